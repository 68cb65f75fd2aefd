/-! 50.init2: the constructor of MeanderFarm -/
set_option maxHeartbeats 4000000 in
set_option maxRecDepth 100000 in
theorem c_X2_init (l : Launch) (G : mf_G) (ho : Nat) (sz : Nat) : Met l yX2_init wsX2_init ({ frames := 4, cells := 30, slots := 6273, locals := 89 }) (va_Pc [.ref ho] (WrP G (CW ho 2 [.null, .null, .null, .null]) sz)) (va_Qv (fun (u9 : (Nat → Nat) × (Nat → Nat → Nat) × (Nat → mf_V)) => (rOK rlo rhi (u9.2.2 0) ∧ RInv (u9.2.2 0) ∧ initR (u9.2.2 0)) ∧ (rOK rlo rhi (u9.2.2 1) ∧ RInv (u9.2.2 1) ∧ initR (u9.2.2 1)) ∧ (rOK flo fhi (u9.2.2 2) ∧ u9.2.2 2 4 0 = 0) ∧ rOK xlo xhi (u9.2.2 3)) (fun (u9 : (Nat → Nat) × (Nat → Nat → Nat) × (Nat → mf_V)) t => WrQ G (va_A (CW ho 2 [.null, .null, .null, .null]) sz) (OW G ho (u9.1 0) (u9.1 1) (u9.1 2) (u9.1 3) (u9.2.2 3) ++ RW G (u9.1 0) (u9.2.1 0) (u9.2.2 0) ++ RW G (u9.1 1) (u9.2.1 1) (u9.2.2 1) ++ FW G (u9.1 2) (u9.2.1 2) (u9.2.2 2)) t) (va_A (CW ho 2 [.null, .null, .null, .null]) sz)) 30 6273 (va_A (CW ho 2 [.null, .null, .null, .null]) sz) := by
  refine Met.ofW (cc := cX2_init) (maxL := 1) (ret := none) (by decide) rfl ?_
  intro p e s m args below meth c s₁ B hml hv
  have hin : meth.name = "<init>" := (name_of_methodNamed B.named B.method).1
  obtain ⟨rfl, hsz, hP, hK, hD0, hN⟩ := hv
  have hx := B.exec
  have hb := B.bytes
  have hr := B.returns
  have hts := atoms_spec (ws := wsX2_init) B.pre
  have hown : s.vm.findClass RX2 = some m.cls := findClass_of_methodNamed B.named
  have hlocks := B.notSynchronized
  have hinX0 : ∀ w ∈ u_ws RX0 TX0 5, w ∈ wsX2_init := fun w h => List.mem_cons_of_mem _ (List.mem_append_right _ h)
  have hinX1 : ∀ w ∈ u_ws RX1 TX1 14, w ∈ wsX2_init := fun w h => List.mem_cons_of_mem _ (List.mem_append_left _ (List.mem_append_right _ h))
  have hinX2 : ∀ w ∈ u_ws RX2 TX2 4, w ∈ wsX2_init := fun w h => List.mem_cons_of_mem _ (List.mem_append_left _ (List.mem_append_left _ (List.mem_append_right _ h)))
  subst hsz
  have hD := hD0.self (sz := s.heap.size)
  generalize hAe : va_A (CW ho 2 [.null, .null, .null, .null]) s.heap.size = A at hD ⊢
  have hA : ∀ q : Nat, s.heap.size ≤ q → A q := fun q h => by rw [← hAe]; exact Or.inr h
  have hS : va_S A s.heap s.heap [] := va_S.rf
  have hl := lv_entry ([.ref ho]) (n := 1) (Nat.le_of_ble_eq_true rfl)
  rw [lg_entry_eq]
  generalize (lg_sl ([.ref ho]) ++ List.replicate (1 - (lg_sl ([.ref ho])).length) Slot.unset).toArray = ls at hl ⊢
  have hl : lv_has ls 1 [(0, .ref ho)] := hl
  refine lv_aload_n hx hb dX2_init_0 rfl (lv_at hl 0 rfl) ?_
  refine W.objInit hx hb hown (hts (.methodLink RX2 3 objectInit) (List.mem_of_getElem? (i := 1) rfl)) (hts (.instanceMethod objectInit) (List.mem_of_getElem? (i := 2) rfl)) (hts (.code objectInit ⟨#[0xb1]⟩ 1 none) (List.mem_of_getElem? (i := 3) rfl)) rfl (by rw [hml]; exact hl.1) rfl dX2_init_1 (Nat.le_of_ble_eq_true rfl) (Nat.le_of_ble_eq_true rfl) ?_
  refine W.eq (g2 := F0 m 4 ls []) rfl ?_
  refine lv_aload_n hx hb dX2_init_4 rfl (lv_at hl 0 rfl) ?_
  refine mf_sipush hx hb dX2_init_5 rfl ?_
  refine mf_newz hx hb (hts (.arrayClass .boolean) (List.mem_of_getElem? (i := 4) rfl)) hK hP hD hS hA (n := 384) (N := 384) rfl (Nat.le_of_ble_eq_true rfl) (Nat.le_of_ble_eq_true rfl) (Nat.le_of_ble_eq_true rfl) dX2_init_8 (fun na1 H hP hD hS => ?_)
  obtain ⟨av2, eav2⟩ : ∃ z9 : mf_V, z9 = fun _ _ => 0 := ⟨_, rfl⟩
  have hP : va_P G.1 vwCl (CW ho 2 [.null, .null, .null, .null] ++ AZ G na1 384 av2) H := by rw [eav2]; exact hP
  have hD : va_D A (CW ho 2 [.null, .null, .null, .null] ++ AZ G na1 384 av2) := by rw [eav2]; exact hD
  refine va_putF (D := G.1) (ci := 2) (v := .ref na1) (ty := .array .boolean) (C := RX2) (T := TX2) (N := 4) hx hb hts hinX2 tyX2 tyX2_ok nmX2 hown hK hP hD hS 0 rfl rfl 3 (by decide) (hts (.fieldLink RX2 9 "MeanderFarm" "endangered" "[Z") (List.mem_of_getElem? (i := 5) rfl)) (fun _ h9 => h9) rfl hin rfl (by decide +kernel) rfl rfl (Nat.le_of_ble_eq_true rfl) dX2_init_10 (fun H locs hP hD hS => ?_)
  have hP : va_P G.1 vwCl (CW ho 2 [.null, .null, .null, .ref na1] ++ AZ G na1 384 av2) H := hP
  have hD : va_D A (CW ho 2 [.null, .null, .null, .ref na1] ++ AZ G na1 384 av2) := hD
  refine lv_aload_n hx hb dX2_init_13 rfl (lv_at hl 0 rfl) ?_
  refine va_new (D := G.1) (ci := 1) (fs := [.null, .null, .null, .null, .null, .null, .null, .int (iI (0)), .int (iI (0)), .int (iI (0)), .null, .null, .null, .null]) (C := RX1) (T := TX1) (N := 14) hx hb hts hinX1 tyX1 tyX1_ok hown (hts (.classLink RX2 13 RX1) (List.mem_of_getElem? (i := 6) rfl)) (hts (.instantiable RX1 14) (List.mem_of_getElem? (i := 7) rfl)) (hts (.initialized RX1) (List.mem_of_getElem? (i := 8) rfl)) hK hP hD hS hA rfl (fun j hj => by rcases (show j = 0 ∨ j = 1 ∨ j = 2 ∨ j = 3 ∨ j = 4 ∨ j = 5 ∨ j = 6 ∨ j = 7 ∨ j = 8 ∨ j = 9 ∨ j = 10 ∨ j = 11 ∨ j = 12 ∨ j = 13 by omega) with rfl | rfl | rfl | rfl | rfl | rfl | rfl | rfl | rfl | rfl | rfl | rfl | rfl | rfl <;> rfl) (Nat.le_of_ble_eq_true rfl) (Nat.le_of_ble_eq_true rfl) dX2_init_14 (fun no3 H hP hD hS => ?_)
  have hP : va_P G.1 vwCl (CW ho 2 [.null, .null, .null, .ref na1] ++ AZ G na1 384 av2 ++ CW no3 1 [.null, .null, .null, .null, .null, .null, .null, .int (iI (0)), .int (iI (0)), .int (iI (0)), .null, .null, .null, .null]) H := hP
  have hD : va_D A (CW ho 2 [.null, .null, .null, .ref na1] ++ AZ G na1 384 av2 ++ CW no3 1 [.null, .null, .null, .null, .null, .null, .null, .int (iI (0)), .int (iI (0)), .int (iI (0)), .null, .null, .null, .null]) := hD
  refine lv_dup hx hb dX2_init_17 rfl ?_
  have hFc := va_free (wc := CW no3 1 [.null, .null, .null, .null, .null, .null, .null, .int (iI (0)), .int (iI (0)), .int (iI (0)), .null, .null, .null, .null]) hD hS hA [2] rfl
  refine va_callv (va_runIN (b := no3) (As := []) (rest := [.ref no3, .ref ho]) ⟨hx, hb, hml, hown, hts⟩ (c_X1_init l G no3 _) ⟨(va_cnB 0 hts gX2_init_X1_init_n15 rfl rfl rfl (hN.m 9 rfl) (hts (.initialized RX1) (List.mem_of_getElem? (i := 8) rfl)) (by decide +kernel) ⟨Nat.le_of_ble_eq_true rfl, Nat.le_of_ble_eq_true rfl⟩), rfl, (hts (.instanceMethod yX1_init) (List.mem_of_getElem? (i := 15) rfl))⟩ (wrS (wc := CW no3 1 [.null, .null, .null, .null, .null, .null, .null, .int (iI (0)), .int (iI (0)), .int (iI (0)), .null, .null, .null, .null]) hK hP hD hN [2] (by decide) rfl rfl) rfl rfl hl.1 rfl (lv_room (Nat.le_of_ble_eq_true rfl)) dX2_init_18 ⟨Nat.le_of_ble_eq_true rfl, Nat.le_of_ble_eq_true rfl⟩) hS (fun q _ h => hFc q h) hFc (fun u4 t H1 locs ht hvm hw hB hz1 hk1 hS => ?_)
  try dsimp only at hw hB
  obtain ⟨hP, hD⟩ := wrJ2 (ws := CW ho 2 [.null, .null, .null, .ref na1] ++ AZ G na1 384 av2 ++ CW no3 1 [.null, .null, .null, .null, .null, .null, .null, .int (iI (0)), .int (iI (0)), .int (iI (0)), .null, .null, .null, .null]) (wc := CW no3 1 [.null, .null, .null, .null, .null, .null, .null, .int (iI (0)), .int (iI (0)), .int (iI (0)), .null, .null, .null, .null]) (wr := CW ho 2 [.null, .null, .null, .ref na1] ++ AZ G na1 384 av2) (w1 := RW G no3 u4.1 u4.2) hP hD [2] [0, 1] rfl rfl (by decide) (by decide) hk1 ht hFc hB
  have hP : va_P G.1 vwCl (CW ho 2 [.null, .null, .null, .ref na1] ++ AZ G na1 384 av2 ++ RW G no3 u4.1 u4.2) H1 := hP
  have hD : va_D A (CW ho 2 [.null, .null, .null, .ref na1] ++ AZ G na1 384 av2 ++ RW G no3 u4.1 u4.2) := hD
  clear hB hk1 hFc ht hz1 hvm
  generalize H1 = H at hP hS ⊢
  have h_u4 := hw; clear hw
  refine va_putF (D := G.1) (ci := 2) (v := .ref no3) (ty := .object "MeanderFarm$River") (C := RX2) (T := TX2) (N := 4) hx hb hts hinX2 tyX2 tyX2_ok nmX2 hown hK hP hD hS 0 rfl rfl 0 (by decide) (hts (.fieldLink RX2 16 "MeanderFarm" "now" "LMeanderFarm$River;") (List.mem_of_getElem? (i := 9) rfl)) (fun _ h9 => h9) rfl hin rfl (by decide +kernel) rfl rfl (Nat.le_of_ble_eq_true rfl) dX2_init_21 (fun H locs hP hD hS => ?_)
  have hP : va_P G.1 vwCl (CW ho 2 [.ref no3, .null, .null, .ref na1] ++ AZ G na1 384 av2 ++ RW G no3 u4.1 u4.2) H := hP
  have hD : va_D A (CW ho 2 [.ref no3, .null, .null, .ref na1] ++ AZ G na1 384 av2 ++ RW G no3 u4.1 u4.2) := hD
  refine lv_aload_n hx hb dX2_init_24 rfl (lv_at hl 0 rfl) ?_
  refine va_new (D := G.1) (ci := 1) (fs := [.null, .null, .null, .null, .null, .null, .null, .int (iI (0)), .int (iI (0)), .int (iI (0)), .null, .null, .null, .null]) (C := RX1) (T := TX1) (N := 14) hx hb hts hinX1 tyX1 tyX1_ok hown (hts (.classLink RX2 13 RX1) (List.mem_of_getElem? (i := 6) rfl)) (hts (.instantiable RX1 14) (List.mem_of_getElem? (i := 7) rfl)) (hts (.initialized RX1) (List.mem_of_getElem? (i := 8) rfl)) hK hP hD hS hA rfl (fun j hj => by rcases (show j = 0 ∨ j = 1 ∨ j = 2 ∨ j = 3 ∨ j = 4 ∨ j = 5 ∨ j = 6 ∨ j = 7 ∨ j = 8 ∨ j = 9 ∨ j = 10 ∨ j = 11 ∨ j = 12 ∨ j = 13 by omega) with rfl | rfl | rfl | rfl | rfl | rfl | rfl | rfl | rfl | rfl | rfl | rfl | rfl | rfl <;> rfl) (Nat.le_of_ble_eq_true rfl) (Nat.le_of_ble_eq_true rfl) dX2_init_25 (fun no5 H hP hD hS => ?_)
  have hP : va_P G.1 vwCl (CW ho 2 [.ref no3, .null, .null, .ref na1] ++ AZ G na1 384 av2 ++ RW G no3 u4.1 u4.2 ++ CW no5 1 [.null, .null, .null, .null, .null, .null, .null, .int (iI (0)), .int (iI (0)), .int (iI (0)), .null, .null, .null, .null]) H := hP
  have hD : va_D A (CW ho 2 [.ref no3, .null, .null, .ref na1] ++ AZ G na1 384 av2 ++ RW G no3 u4.1 u4.2 ++ CW no5 1 [.null, .null, .null, .null, .null, .null, .null, .int (iI (0)), .int (iI (0)), .int (iI (0)), .null, .null, .null, .null]) := hD
  refine lv_dup hx hb dX2_init_28 rfl ?_
  have hFc := va_free (wc := CW no5 1 [.null, .null, .null, .null, .null, .null, .null, .int (iI (0)), .int (iI (0)), .int (iI (0)), .null, .null, .null, .null]) hD hS hA [14] rfl
  refine va_callv (va_runIN (b := no5) (As := []) (rest := [.ref no5, .ref ho]) ⟨hx, hb, hml, hown, hts⟩ (c_X1_init l G no5 _) ⟨(va_cnB 0 hts gX2_init_X1_init_n15 rfl rfl rfl (hN.m 9 rfl) (hts (.initialized RX1) (List.mem_of_getElem? (i := 8) rfl)) (by decide +kernel) ⟨Nat.le_of_ble_eq_true rfl, Nat.le_of_ble_eq_true rfl⟩), rfl, (hts (.instanceMethod yX1_init) (List.mem_of_getElem? (i := 15) rfl))⟩ (wrS (wc := CW no5 1 [.null, .null, .null, .null, .null, .null, .null, .int (iI (0)), .int (iI (0)), .int (iI (0)), .null, .null, .null, .null]) hK hP hD hN [14] (by decide) rfl rfl) rfl rfl hl.1 rfl (lv_room (Nat.le_of_ble_eq_true rfl)) dX2_init_29 ⟨Nat.le_of_ble_eq_true rfl, Nat.le_of_ble_eq_true rfl⟩) hS (fun q _ h => hFc q h) hFc (fun u6 t H1 locs ht hvm hw hB hz1 hk1 hS => ?_)
  try dsimp only at hw hB
  obtain ⟨hP, hD⟩ := wrJ2 (ws := CW ho 2 [.ref no3, .null, .null, .ref na1] ++ AZ G na1 384 av2 ++ RW G no3 u4.1 u4.2 ++ CW no5 1 [.null, .null, .null, .null, .null, .null, .null, .int (iI (0)), .int (iI (0)), .int (iI (0)), .null, .null, .null, .null]) (wc := CW no5 1 [.null, .null, .null, .null, .null, .null, .null, .int (iI (0)), .int (iI (0)), .int (iI (0)), .null, .null, .null, .null]) (wr := CW ho 2 [.ref no3, .null, .null, .ref na1] ++ AZ G na1 384 av2 ++ RW G no3 u4.1 u4.2) (w1 := RW G no5 u6.1 u6.2) hP hD [14] [0, 1, 2, 3, 4, 5, 6, 7, 8, 9, 10, 11, 12, 13] rfl rfl (by decide) (by decide) hk1 ht hFc hB
  have hP : va_P G.1 vwCl (CW ho 2 [.ref no3, .null, .null, .ref na1] ++ AZ G na1 384 av2 ++ RW G no3 u4.1 u4.2 ++ RW G no5 u6.1 u6.2) H1 := hP
  have hD : va_D A (CW ho 2 [.ref no3, .null, .null, .ref na1] ++ AZ G na1 384 av2 ++ RW G no3 u4.1 u4.2 ++ RW G no5 u6.1 u6.2) := hD
  clear hB hk1 hFc ht hz1 hvm
  generalize H1 = H at hP hS ⊢
  have h_u6 := hw; clear hw
  refine va_putF (D := G.1) (ci := 2) (v := .ref no5) (ty := .object "MeanderFarm$River") (C := RX2) (T := TX2) (N := 4) hx hb hts hinX2 tyX2 tyX2_ok nmX2 hown hK hP hD hS 0 rfl rfl 1 (by decide) (hts (.fieldLink RX2 20 "MeanderFarm" "ahead" "LMeanderFarm$River;") (List.mem_of_getElem? (i := 10) rfl)) (fun _ h9 => h9) rfl hin rfl (by decide +kernel) rfl rfl (Nat.le_of_ble_eq_true rfl) dX2_init_32 (fun H locs hP hD hS => ?_)
  have hP : va_P G.1 vwCl (CW ho 2 [.ref no3, .ref no5, .null, .ref na1] ++ AZ G na1 384 av2 ++ RW G no3 u4.1 u4.2 ++ RW G no5 u6.1 u6.2) H := hP
  have hD : va_D A (CW ho 2 [.ref no3, .ref no5, .null, .ref na1] ++ AZ G na1 384 av2 ++ RW G no3 u4.1 u4.2 ++ RW G no5 u6.1 u6.2) := hD
  refine lv_aload_n hx hb dX2_init_35 rfl (lv_at hl 0 rfl) ?_
  refine va_new (D := G.1) (ci := 0) (fs := [.null, .null, .null, .null, .int (iI (0))]) (C := RX0) (T := TX0) (N := 5) hx hb hts hinX0 tyX0 tyX0_ok hown (hts (.classLink RX2 23 RX0) (List.mem_of_getElem? (i := 11) rfl)) (hts (.instantiable RX0 5) (List.mem_of_getElem? (i := 12) rfl)) (hts (.initialized RX0) (List.mem_of_getElem? (i := 13) rfl)) hK hP hD hS hA rfl (fun j hj => by rcases (show j = 0 ∨ j = 1 ∨ j = 2 ∨ j = 3 ∨ j = 4 by omega) with rfl | rfl | rfl | rfl | rfl <;> rfl) (Nat.le_of_ble_eq_true rfl) (Nat.le_of_ble_eq_true rfl) dX2_init_36 (fun no7 H hP hD hS => ?_)
  have hP : va_P G.1 vwCl (CW ho 2 [.ref no3, .ref no5, .null, .ref na1] ++ AZ G na1 384 av2 ++ RW G no3 u4.1 u4.2 ++ RW G no5 u6.1 u6.2 ++ CW no7 0 [.null, .null, .null, .null, .int (iI (0))]) H := hP
  have hD : va_D A (CW ho 2 [.ref no3, .ref no5, .null, .ref na1] ++ AZ G na1 384 av2 ++ RW G no3 u4.1 u4.2 ++ RW G no5 u6.1 u6.2 ++ CW no7 0 [.null, .null, .null, .null, .int (iI (0))]) := hD
  refine lv_dup hx hb dX2_init_39 rfl ?_
  have hFc := va_free (wc := CW no7 0 [.null, .null, .null, .null, .int (iI (0))]) hD hS hA [26] rfl
  refine va_callv (va_runIN (b := no7) (As := []) (rest := [.ref no7, .ref ho]) ⟨hx, hb, hml, hown, hts⟩ (c_X0_init l G no7 _) ⟨(va_cnB 0 hts gX2_init_X0_init_n25 rfl rfl rfl (hN.m 18 rfl) (hts (.initialized RX0) (List.mem_of_getElem? (i := 13) rfl)) (by decide +kernel) ⟨Nat.le_of_ble_eq_true rfl, Nat.le_of_ble_eq_true rfl⟩), rfl, (hts (.instanceMethod yX0_init) (List.mem_of_getElem? (i := 59) rfl))⟩ (wrS (wc := CW no7 0 [.null, .null, .null, .null, .int (iI (0))]) hK hP hD hN [26] (by decide) rfl rfl) rfl rfl hl.1 rfl (lv_room (Nat.le_of_ble_eq_true rfl)) dX2_init_40 ⟨Nat.le_of_ble_eq_true rfl, Nat.le_of_ble_eq_true rfl⟩) hS (fun q _ h => hFc q h) hFc (fun u8 t H1 locs ht hvm hw hB hz1 hk1 hS => ?_)
  try dsimp only at hw hB
  obtain ⟨hP, hD⟩ := wrJ2 (ws := CW ho 2 [.ref no3, .ref no5, .null, .ref na1] ++ AZ G na1 384 av2 ++ RW G no3 u4.1 u4.2 ++ RW G no5 u6.1 u6.2 ++ CW no7 0 [.null, .null, .null, .null, .int (iI (0))]) (wc := CW no7 0 [.null, .null, .null, .null, .int (iI (0))]) (wr := CW ho 2 [.ref no3, .ref no5, .null, .ref na1] ++ AZ G na1 384 av2 ++ RW G no3 u4.1 u4.2 ++ RW G no5 u6.1 u6.2) (w1 := FW G no7 u8.1 u8.2) hP hD [26] [0, 1, 2, 3, 4, 5, 6, 7, 8, 9, 10, 11, 12, 13, 14, 15, 16, 17, 18, 19, 20, 21, 22, 23, 24, 25] rfl rfl (by decide) (by decide) hk1 ht hFc hB
  have hP : va_P G.1 vwCl (CW ho 2 [.ref no3, .ref no5, .null, .ref na1] ++ AZ G na1 384 av2 ++ RW G no3 u4.1 u4.2 ++ RW G no5 u6.1 u6.2 ++ FW G no7 u8.1 u8.2) H1 := hP
  have hD : va_D A (CW ho 2 [.ref no3, .ref no5, .null, .ref na1] ++ AZ G na1 384 av2 ++ RW G no3 u4.1 u4.2 ++ RW G no5 u6.1 u6.2 ++ FW G no7 u8.1 u8.2) := hD
  clear hB hk1 hFc ht hz1 hvm
  generalize H1 = H at hP hS ⊢
  have h_u8 := hw; clear hw
  refine va_putF (D := G.1) (ci := 2) (v := .ref no7) (ty := .object "MeanderFarm$Farms") (C := RX2) (T := TX2) (N := 4) hx hb hts hinX2 tyX2 tyX2_ok nmX2 hown hK hP hD hS 0 rfl rfl 2 (by decide) (hts (.fieldLink RX2 26 "MeanderFarm" "farms" "LMeanderFarm$Farms;") (List.mem_of_getElem? (i := 14) rfl)) (fun _ h9 => h9) rfl hin rfl (by decide +kernel) rfl rfl (Nat.le_of_ble_eq_true rfl) dX2_init_43 (fun H locs hP hD hS => ?_)
  have hP : va_P G.1 vwCl (CW ho 2 [.ref no3, .ref no5, .ref no7, .ref na1] ++ AZ G na1 384 av2 ++ RW G no3 u4.1 u4.2 ++ RW G no5 u6.1 u6.2 ++ FW G no7 u8.1 u8.2) H := hP
  have hD : va_D A (CW ho 2 [.ref no3, .ref no5, .ref no7, .ref na1] ++ AZ G na1 384 av2 ++ RW G no3 u4.1 u4.2 ++ RW G no5 u6.1 u6.2 ++ FW G no7 u8.1 u8.2) := hD
  subst eav2
  skip
  exact W.vret hx hb hr (fun t ht hW => ⟨⟨(fun k => if k = 0 then no3 else if k = 1 then no5 else if k = 2 then no7 else na1, fun k => if k = 0 then u4.1 else if k = 1 then u6.1 else u8.1, fun k => if k = 0 then u4.2 else if k = 1 then u6.2 else if k = 2 then u8.2 else fun _ _ => 0), rfl, by (try dsimp only); exact ⟨h_u4, h_u6, h_u8, fun k z => ⟨Int.le_refl 0, (by decide : (0 : Int) ≤ 1)⟩⟩, by rw [ht]; exact hP, hD⟩, hS.F ht⟩) hS.2.2 dX2_init_46
