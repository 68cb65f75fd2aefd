/-! 65.siminit: the Sim as it is made -/
theorem simOK0 {u : mf_V} (h2 : ∀ z, 0 ≤ u 2 z ∧ u 2 z ≤ 383) (h3 : ∀ z, 0 ≤ u 3 z ∧ u 3 z ≤ 9) (h7 : ∀ z, 0 ≤ u 7 z ∧ u 7 z ≤ 9) (hz : ∀ k, k ≠ 2 → k ≠ 3 → k ≠ 7 → u k = fun _ => 0) : rOK slo shi u := fun k z => by
  by_cases q2 : k = 2
  · subst q2; exact h2 z
  by_cases q3 : k = 3
  · subst q3; exact h3 z
  by_cases q7 : k = 7
  · subst q7; exact h7 z
  rw [hz k q2 q3 q7]
  refine ⟨Int.le_refl 0, ?_⟩
  show 0 ≤ shi k
  unfold shi
  split <;> decide
set_option maxHeartbeats 4000000 in
set_option maxRecDepth 100000 in
theorem c_X3_init (l : Launch) (G : mf_G) (hm : Nat) (q : mf_V) (okq : rOK rlo rhi q) (hq : RInv q) (hin9 : initR q) (sz : Nat) : Met l yX3_init wsX3_init ({ frames := 1, cells := 7, slots := 1956, locals := 60 }) (va_Pc [.ref hm] (WrP G (CW hm 3 [.int (iI (0)), .int (iI (0)), .null, .null, .null, .null, .null, .null, .null]) sz)) (va_Qv (fun (u9 : (Nat → Nat) × Nat × mf_V) => rOK slo shi u9.2.2 ∧ relS q 24 u9.2.2) (fun (u9 : (Nat → Nat) × Nat × mf_V) t => WrQ G (va_A (CW hm 3 [.int (iI (0)), .int (iI (0)), .null, .null, .null, .null, .null, .null, .null]) sz) (SW G hm u9.1 u9.2.1 24 u9.2.2) t) (va_A (CW hm 3 [.int (iI (0)), .int (iI (0)), .null, .null, .null, .null, .null, .null, .null]) sz)) 7 1956 (va_A (CW hm 3 [.int (iI (0)), .int (iI (0)), .null, .null, .null, .null, .null, .null, .null]) sz) := by
  refine Met.ofW (cc := cX3_init) (maxL := 3) (ret := none) (by decide) rfl ?_
  intro p e s m args below meth c s₁ B hml hv
  have hin : meth.name = "<init>" := (name_of_methodNamed B.named B.method).1
  obtain ⟨rfl, hsz, hP, hK, hD0, hN⟩ := hv
  have hx := B.exec
  have hb := B.bytes
  have hr := B.returns
  have hts := atoms_spec (ws := wsX3_init) B.pre
  have hown : s.vm.findClass RX3 = some m.cls := findClass_of_methodNamed B.named
  have hlocks := B.notSynchronized
  have hinX3 : ∀ w ∈ u_ws RX3 TX3 9, w ∈ wsX3_init := fun w h => List.mem_cons_of_mem _ (List.mem_append_right _ h)
  subst hsz
  have hD := hD0.self (sz := s.heap.size)
  generalize hAe : va_A (CW hm 3 [.int (iI (0)), .int (iI (0)), .null, .null, .null, .null, .null, .null, .null]) s.heap.size = A at hD ⊢
  have hA : ∀ q : Nat, s.heap.size ≤ q → A q := fun q h => by rw [← hAe]; exact Or.inr h
  have hS : va_S A s.heap s.heap [] := va_S.rf
  have hl := lv_entry ([.ref hm]) (n := 3) (Nat.le_of_ble_eq_true rfl)
  rw [lg_entry_eq]
  generalize (lg_sl ([.ref hm]) ++ List.replicate (3 - (lg_sl ([.ref hm])).length) Slot.unset).toArray = ls at hl ⊢
  have hl : lv_has ls 3 [(0, .ref hm)] := hl
  refine lv_aload_n hx hb dX3_init_0 rfl (lv_at hl 0 rfl) ?_
  refine W.objInit hx hb hown (hts (.methodLink RX3 1 objectInit) (List.mem_of_getElem? (i := 1) rfl)) (hts (.instanceMethod objectInit) (List.mem_of_getElem? (i := 2) rfl)) (hts (.code objectInit ⟨#[0xb1]⟩ 1 none) (List.mem_of_getElem? (i := 3) rfl)) rfl (by rw [hml]; exact hl.1) rfl dX3_init_1 (Nat.le_of_ble_eq_true rfl) (Nat.le_of_ble_eq_true rfl) ?_
  refine W.eq (g2 := F0 m 4 ls []) rfl ?_
  refine lv_aload_n hx hb dX3_init_4 rfl (lv_at hl 0 rfl) ?_
  refine mf_sipush hx hb dX3_init_5 rfl ?_
  refine mf_newi hx hb (hts (.arrayClass .int) (List.mem_of_getElem? (i := 4) rfl)) hK hP hD hS hA (n := 384) (N := 384) rfl (Nat.le_of_ble_eq_true rfl) (Nat.le_of_ble_eq_true rfl) (Nat.le_of_ble_eq_true rfl) dX3_init_8 (fun na1 H hP hD hS => ?_)
  obtain ⟨av2, eav2⟩ : ∃ z9 : mf_V, z9 = fun _ _ => 0 := ⟨_, rfl⟩
  have hP : va_P G.1 vwCl (CW hm 3 [.int (iI (0)), .int (iI (0)), .null, .null, .null, .null, .null, .null, .null] ++ AW G na1 384 av2) H := by rw [eav2]; exact hP
  have hD : va_D A (CW hm 3 [.int (iI (0)), .int (iI (0)), .null, .null, .null, .null, .null, .null, .null] ++ AW G na1 384 av2) := by rw [eav2]; exact hD
  refine va_put (D := G.1) (ci := 3) (v := .ref na1) (ty := .array .int) (C := RX3) (T := TX3) (N := 9) hx hb hts hinX3 tyX3 tyX3_ok nmX3 hown hK hP hD hS 0 rfl rfl 3 (by decide) (hts (.fieldLink RX3 7 "MeanderFarmLaw$Sim" "hardness" "[I") (List.mem_of_getElem? (i := 5) rfl)) (fun _ h9 => h9) rfl (by decide +kernel) rfl rfl (Nat.le_of_ble_eq_true rfl) dX3_init_10 (fun H locs hP hD hS => ?_)
  have hP : va_P G.1 vwCl (CW hm 3 [.int (iI (0)), .int (iI (0)), .null, .ref na1, .null, .null, .null, .null, .null] ++ AW G na1 384 av2) H := hP
  have hD : va_D A (CW hm 3 [.int (iI (0)), .int (iI (0)), .null, .ref na1, .null, .null, .null, .null, .null] ++ AW G na1 384 av2) := hD
  refine lv_aload_n hx hb dX3_init_13 rfl (lv_at hl 0 rfl) ?_
  refine mf_sipush hx hb dX3_init_14 rfl ?_
  refine mf_newz hx hb (hts (.arrayClass .boolean) (List.mem_of_getElem? (i := 6) rfl)) hK hP hD hS hA (n := 384) (N := 384) rfl (Nat.le_of_ble_eq_true rfl) (Nat.le_of_ble_eq_true rfl) (Nat.le_of_ble_eq_true rfl) dX3_init_17 (fun na3 H hP hD hS => ?_)
  obtain ⟨av4, eav4⟩ : ∃ z9 : mf_V, z9 = fun _ _ => 0 := ⟨_, rfl⟩
  have hP : va_P G.1 vwCl (CW hm 3 [.int (iI (0)), .int (iI (0)), .null, .ref na1, .null, .null, .null, .null, .null] ++ AW G na1 384 av2 ++ AZ G na3 384 av4) H := by rw [eav4]; exact hP
  have hD : va_D A (CW hm 3 [.int (iI (0)), .int (iI (0)), .null, .ref na1, .null, .null, .null, .null, .null] ++ AW G na1 384 av2 ++ AZ G na3 384 av4) := by rw [eav4]; exact hD
  refine va_put (D := G.1) (ci := 3) (v := .ref na3) (ty := .array .boolean) (C := RX3) (T := TX3) (N := 9) hx hb hts hinX3 tyX3 tyX3_ok nmX3 hown hK hP hD hS 0 rfl rfl 4 (by decide) (hts (.fieldLink RX3 13 "MeanderFarmLaw$Sim" "stones" "[Z") (List.mem_of_getElem? (i := 7) rfl)) (fun _ h9 => h9) rfl (by decide +kernel) rfl rfl (Nat.le_of_ble_eq_true rfl) dX3_init_19 (fun H locs hP hD hS => ?_)
  have hP : va_P G.1 vwCl (CW hm 3 [.int (iI (0)), .int (iI (0)), .null, .ref na1, .ref na3, .null, .null, .null, .null] ++ AW G na1 384 av2 ++ AZ G na3 384 av4) H := hP
  have hD : va_D A (CW hm 3 [.int (iI (0)), .int (iI (0)), .null, .ref na1, .ref na3, .null, .null, .null, .null] ++ AW G na1 384 av2 ++ AZ G na3 384 av4) := hD
  refine lv_aload_n hx hb dX3_init_22 rfl (lv_at hl 0 rfl) ?_
  refine mf_sipush hx hb dX3_init_23 rfl ?_
  refine mf_newi hx hb (hts (.arrayClass .int) (List.mem_of_getElem? (i := 4) rfl)) hK hP hD hS hA (n := 384) (N := 384) rfl (Nat.le_of_ble_eq_true rfl) (Nat.le_of_ble_eq_true rfl) (Nat.le_of_ble_eq_true rfl) dX3_init_26 (fun na5 H hP hD hS => ?_)
  obtain ⟨av6, eav6⟩ : ∃ z9 : mf_V, z9 = fun _ _ => 0 := ⟨_, rfl⟩
  have hP : va_P G.1 vwCl (CW hm 3 [.int (iI (0)), .int (iI (0)), .null, .ref na1, .ref na3, .null, .null, .null, .null] ++ AW G na1 384 av2 ++ AZ G na3 384 av4 ++ AW G na5 384 av6) H := by rw [eav6]; exact hP
  have hD : va_D A (CW hm 3 [.int (iI (0)), .int (iI (0)), .null, .ref na1, .ref na3, .null, .null, .null, .null] ++ AW G na1 384 av2 ++ AZ G na3 384 av4 ++ AW G na5 384 av6) := by rw [eav6]; exact hD
  refine va_put (D := G.1) (ci := 3) (v := .ref na5) (ty := .array .int) (C := RX3) (T := TX3) (N := 9) hx hb hts hinX3 tyX3 tyX3_ok nmX3 hown hK hP hD hS 0 rfl rfl 5 (by decide) (hts (.fieldLink RX3 17 "MeanderFarmLaw$Sim" "wear" "[I") (List.mem_of_getElem? (i := 8) rfl)) (fun _ h9 => h9) rfl (by decide +kernel) rfl rfl (Nat.le_of_ble_eq_true rfl) dX3_init_28 (fun H locs hP hD hS => ?_)
  have hP : va_P G.1 vwCl (CW hm 3 [.int (iI (0)), .int (iI (0)), .null, .ref na1, .ref na3, .ref na5, .null, .null, .null] ++ AW G na1 384 av2 ++ AZ G na3 384 av4 ++ AW G na5 384 av6) H := hP
  have hD : va_D A (CW hm 3 [.int (iI (0)), .int (iI (0)), .null, .ref na1, .ref na3, .ref na5, .null, .null, .null] ++ AW G na1 384 av2 ++ AZ G na3 384 av4 ++ AW G na5 384 av6) := hD
  refine lv_aload_n hx hb dX3_init_31 rfl (lv_at hl 0 rfl) ?_
  refine mf_sipush hx hb dX3_init_32 rfl ?_
  refine mf_newi hx hb (hts (.arrayClass .int) (List.mem_of_getElem? (i := 4) rfl)) hK hP hD hS hA (n := 384) (N := 384) rfl (Nat.le_of_ble_eq_true rfl) (Nat.le_of_ble_eq_true rfl) (Nat.le_of_ble_eq_true rfl) dX3_init_35 (fun na7 H hP hD hS => ?_)
  obtain ⟨av8, eav8⟩ : ∃ z9 : mf_V, z9 = fun _ _ => 0 := ⟨_, rfl⟩
  have hP : va_P G.1 vwCl (CW hm 3 [.int (iI (0)), .int (iI (0)), .null, .ref na1, .ref na3, .ref na5, .null, .null, .null] ++ AW G na1 384 av2 ++ AZ G na3 384 av4 ++ AW G na5 384 av6 ++ AW G na7 384 av8) H := by rw [eav8]; exact hP
  have hD : va_D A (CW hm 3 [.int (iI (0)), .int (iI (0)), .null, .ref na1, .ref na3, .ref na5, .null, .null, .null] ++ AW G na1 384 av2 ++ AZ G na3 384 av4 ++ AW G na5 384 av6 ++ AW G na7 384 av8) := by rw [eav8]; exact hD
  refine va_put (D := G.1) (ci := 3) (v := .ref na7) (ty := .array .int) (C := RX3) (T := TX3) (N := 9) hx hb hts hinX3 tyX3 tyX3_ok nmX3 hown hK hP hD hS 0 rfl rfl 6 (by decide) (hts (.fieldLink RX3 20 "MeanderFarmLaw$Sim" "lake" "[I") (List.mem_of_getElem? (i := 9) rfl)) (fun _ h9 => h9) rfl (by decide +kernel) rfl rfl (Nat.le_of_ble_eq_true rfl) dX3_init_37 (fun H locs hP hD hS => ?_)
  have hP : va_P G.1 vwCl (CW hm 3 [.int (iI (0)), .int (iI (0)), .null, .ref na1, .ref na3, .ref na5, .ref na7, .null, .null] ++ AW G na1 384 av2 ++ AZ G na3 384 av4 ++ AW G na5 384 av6 ++ AW G na7 384 av8) H := hP
  have hD : va_D A (CW hm 3 [.int (iI (0)), .int (iI (0)), .null, .ref na1, .ref na3, .ref na5, .ref na7, .null, .null] ++ AW G na1 384 av2 ++ AZ G na3 384 av4 ++ AW G na5 384 av6 ++ AW G na7 384 av8) := hD
  refine lv_aload_n hx hb dX3_init_40 rfl (lv_at hl 0 rfl) ?_
  refine mf_bipush hx hb dX3_init_41 rfl ?_
  refine mf_newi hx hb (hts (.arrayClass .int) (List.mem_of_getElem? (i := 4) rfl)) hK hP hD hS hA (n := 12) (N := 12) rfl (Nat.le_of_ble_eq_true rfl) (Nat.le_of_ble_eq_true rfl) (Nat.le_of_ble_eq_true rfl) dX3_init_43 (fun na9 H hP hD hS => ?_)
  obtain ⟨av10, eav10⟩ : ∃ z9 : mf_V, z9 = fun _ _ => 0 := ⟨_, rfl⟩
  have hP : va_P G.1 vwCl (CW hm 3 [.int (iI (0)), .int (iI (0)), .null, .ref na1, .ref na3, .ref na5, .ref na7, .null, .null] ++ AW G na1 384 av2 ++ AZ G na3 384 av4 ++ AW G na5 384 av6 ++ AW G na7 384 av8 ++ AW G na9 12 av10) H := by rw [eav10]; exact hP
  have hD : va_D A (CW hm 3 [.int (iI (0)), .int (iI (0)), .null, .ref na1, .ref na3, .ref na5, .ref na7, .null, .null] ++ AW G na1 384 av2 ++ AZ G na3 384 av4 ++ AW G na5 384 av6 ++ AW G na7 384 av8 ++ AW G na9 12 av10) := by rw [eav10]; exact hD
  refine lv_dup hx hb dX3_init_45 rfl ?_
  refine mf_iconst hx hb dX3_init_46 ?_
  refine mf_iconst hx hb dX3_init_47 ?_
  refine mf_iast (n := 12) (f := av10 0) hx hb hK hP hD hS 5 0 rfl rfl (z := 0) (x := 3) (by omega) (by omega) (by first | decide | omega) dX3_init_48 (fun H locs hP hD hS => ?_)
  obtain ⟨av11, eav11⟩ : ∃ z9 : mf_V, z9 = mf_sF av10 0 (mf_up (av10 0) (0) (3)) := ⟨_, rfl⟩
  have hP : va_P G.1 vwCl (CW hm 3 [.int (iI (0)), .int (iI (0)), .null, .ref na1, .ref na3, .ref na5, .ref na7, .null, .null] ++ AW G na1 384 av2 ++ AZ G na3 384 av4 ++ AW G na5 384 av6 ++ AW G na7 384 av8 ++ AW G na9 12 av11) H := by rw [eav11]; exact hP
  have hD : va_D A (CW hm 3 [.int (iI (0)), .int (iI (0)), .null, .ref na1, .ref na3, .ref na5, .ref na7, .null, .null] ++ AW G na1 384 av2 ++ AZ G na3 384 av4 ++ AW G na5 384 av6 ++ AW G na7 384 av8 ++ AW G na9 12 av11) := by rw [eav11]; exact hD
  have f1_av11 : av11 0 (0) = 3 := by rw [eav11, mf_sF_s, mf_up_s]
  have f2_av11 : ∀ y, y ≠ (0) → av11 0 y = av10 0 y := fun y hy => by rw [eav11, mf_sF_s, mf_up_n hy]
  have f3_av11 : ∀ q, q ≠ 0 → av11 q = av10 q := fun q hq => by rw [eav11, mf_sF_n hq]
  refine lv_dup hx hb dX3_init_49 rfl ?_
  refine mf_iconst hx hb dX3_init_50 ?_
  refine mf_iconst hx hb dX3_init_51 ?_
  refine mf_iast (n := 12) (f := av11 0) hx hb hK hP hD hS 5 0 rfl rfl (z := 1) (x := 3) (by omega) (by omega) (by first | decide | omega) dX3_init_52 (fun H locs hP hD hS => ?_)
  obtain ⟨av12, eav12⟩ : ∃ z9 : mf_V, z9 = mf_sF av11 0 (mf_up (av11 0) (1) (3)) := ⟨_, rfl⟩
  have hP : va_P G.1 vwCl (CW hm 3 [.int (iI (0)), .int (iI (0)), .null, .ref na1, .ref na3, .ref na5, .ref na7, .null, .null] ++ AW G na1 384 av2 ++ AZ G na3 384 av4 ++ AW G na5 384 av6 ++ AW G na7 384 av8 ++ AW G na9 12 av12) H := by rw [eav12]; exact hP
  have hD : va_D A (CW hm 3 [.int (iI (0)), .int (iI (0)), .null, .ref na1, .ref na3, .ref na5, .ref na7, .null, .null] ++ AW G na1 384 av2 ++ AZ G na3 384 av4 ++ AW G na5 384 av6 ++ AW G na7 384 av8 ++ AW G na9 12 av12) := by rw [eav12]; exact hD
  have f1_av12 : av12 0 (1) = 3 := by rw [eav12, mf_sF_s, mf_up_s]
  have f2_av12 : ∀ y, y ≠ (1) → av12 0 y = av11 0 y := fun y hy => by rw [eav12, mf_sF_s, mf_up_n hy]
  have f3_av12 : ∀ q, q ≠ 0 → av12 q = av11 q := fun q hq => by rw [eav12, mf_sF_n hq]
  refine lv_dup hx hb dX3_init_53 rfl ?_
  refine mf_iconst hx hb dX3_init_54 ?_
  refine mf_iconst hx hb dX3_init_55 ?_
  refine mf_iast (n := 12) (f := av12 0) hx hb hK hP hD hS 5 0 rfl rfl (z := 2) (x := 3) (by omega) (by omega) (by first | decide | omega) dX3_init_56 (fun H locs hP hD hS => ?_)
  obtain ⟨av13, eav13⟩ : ∃ z9 : mf_V, z9 = mf_sF av12 0 (mf_up (av12 0) (2) (3)) := ⟨_, rfl⟩
  have hP : va_P G.1 vwCl (CW hm 3 [.int (iI (0)), .int (iI (0)), .null, .ref na1, .ref na3, .ref na5, .ref na7, .null, .null] ++ AW G na1 384 av2 ++ AZ G na3 384 av4 ++ AW G na5 384 av6 ++ AW G na7 384 av8 ++ AW G na9 12 av13) H := by rw [eav13]; exact hP
  have hD : va_D A (CW hm 3 [.int (iI (0)), .int (iI (0)), .null, .ref na1, .ref na3, .ref na5, .ref na7, .null, .null] ++ AW G na1 384 av2 ++ AZ G na3 384 av4 ++ AW G na5 384 av6 ++ AW G na7 384 av8 ++ AW G na9 12 av13) := by rw [eav13]; exact hD
  have f1_av13 : av13 0 (2) = 3 := by rw [eav13, mf_sF_s, mf_up_s]
  have f2_av13 : ∀ y, y ≠ (2) → av13 0 y = av12 0 y := fun y hy => by rw [eav13, mf_sF_s, mf_up_n hy]
  have f3_av13 : ∀ q, q ≠ 0 → av13 q = av12 q := fun q hq => by rw [eav13, mf_sF_n hq]
  refine lv_dup hx hb dX3_init_57 rfl ?_
  refine mf_iconst hx hb dX3_init_58 ?_
  refine mf_iconst hx hb dX3_init_59 ?_
  refine mf_iast (n := 12) (f := av13 0) hx hb hK hP hD hS 5 0 rfl rfl (z := 3) (x := 3) (by omega) (by omega) (by first | decide | omega) dX3_init_60 (fun H locs hP hD hS => ?_)
  obtain ⟨av14, eav14⟩ : ∃ z9 : mf_V, z9 = mf_sF av13 0 (mf_up (av13 0) (3) (3)) := ⟨_, rfl⟩
  have hP : va_P G.1 vwCl (CW hm 3 [.int (iI (0)), .int (iI (0)), .null, .ref na1, .ref na3, .ref na5, .ref na7, .null, .null] ++ AW G na1 384 av2 ++ AZ G na3 384 av4 ++ AW G na5 384 av6 ++ AW G na7 384 av8 ++ AW G na9 12 av14) H := by rw [eav14]; exact hP
  have hD : va_D A (CW hm 3 [.int (iI (0)), .int (iI (0)), .null, .ref na1, .ref na3, .ref na5, .ref na7, .null, .null] ++ AW G na1 384 av2 ++ AZ G na3 384 av4 ++ AW G na5 384 av6 ++ AW G na7 384 av8 ++ AW G na9 12 av14) := by rw [eav14]; exact hD
  have f1_av14 : av14 0 (3) = 3 := by rw [eav14, mf_sF_s, mf_up_s]
  have f2_av14 : ∀ y, y ≠ (3) → av14 0 y = av13 0 y := fun y hy => by rw [eav14, mf_sF_s, mf_up_n hy]
  have f3_av14 : ∀ q, q ≠ 0 → av14 q = av13 q := fun q hq => by rw [eav14, mf_sF_n hq]
  refine lv_dup hx hb dX3_init_61 rfl ?_
  refine mf_iconst hx hb dX3_init_62 ?_
  refine mf_iconst hx hb dX3_init_63 ?_
  refine mf_iast (n := 12) (f := av14 0) hx hb hK hP hD hS 5 0 rfl rfl (z := 4) (x := 3) (by omega) (by omega) (by first | decide | omega) dX3_init_64 (fun H locs hP hD hS => ?_)
  obtain ⟨av15, eav15⟩ : ∃ z9 : mf_V, z9 = mf_sF av14 0 (mf_up (av14 0) (4) (3)) := ⟨_, rfl⟩
  have hP : va_P G.1 vwCl (CW hm 3 [.int (iI (0)), .int (iI (0)), .null, .ref na1, .ref na3, .ref na5, .ref na7, .null, .null] ++ AW G na1 384 av2 ++ AZ G na3 384 av4 ++ AW G na5 384 av6 ++ AW G na7 384 av8 ++ AW G na9 12 av15) H := by rw [eav15]; exact hP
  have hD : va_D A (CW hm 3 [.int (iI (0)), .int (iI (0)), .null, .ref na1, .ref na3, .ref na5, .ref na7, .null, .null] ++ AW G na1 384 av2 ++ AZ G na3 384 av4 ++ AW G na5 384 av6 ++ AW G na7 384 av8 ++ AW G na9 12 av15) := by rw [eav15]; exact hD
  have f1_av15 : av15 0 (4) = 3 := by rw [eav15, mf_sF_s, mf_up_s]
  have f2_av15 : ∀ y, y ≠ (4) → av15 0 y = av14 0 y := fun y hy => by rw [eav15, mf_sF_s, mf_up_n hy]
  have f3_av15 : ∀ q, q ≠ 0 → av15 q = av14 q := fun q hq => by rw [eav15, mf_sF_n hq]
  refine lv_dup hx hb dX3_init_65 rfl ?_
  refine mf_iconst hx hb dX3_init_66 ?_
  refine mf_iconst hx hb dX3_init_67 ?_
  refine mf_iast (n := 12) (f := av15 0) hx hb hK hP hD hS 5 0 rfl rfl (z := 5) (x := 3) (by omega) (by omega) (by first | decide | omega) dX3_init_68 (fun H locs hP hD hS => ?_)
  obtain ⟨av16, eav16⟩ : ∃ z9 : mf_V, z9 = mf_sF av15 0 (mf_up (av15 0) (5) (3)) := ⟨_, rfl⟩
  have hP : va_P G.1 vwCl (CW hm 3 [.int (iI (0)), .int (iI (0)), .null, .ref na1, .ref na3, .ref na5, .ref na7, .null, .null] ++ AW G na1 384 av2 ++ AZ G na3 384 av4 ++ AW G na5 384 av6 ++ AW G na7 384 av8 ++ AW G na9 12 av16) H := by rw [eav16]; exact hP
  have hD : va_D A (CW hm 3 [.int (iI (0)), .int (iI (0)), .null, .ref na1, .ref na3, .ref na5, .ref na7, .null, .null] ++ AW G na1 384 av2 ++ AZ G na3 384 av4 ++ AW G na5 384 av6 ++ AW G na7 384 av8 ++ AW G na9 12 av16) := by rw [eav16]; exact hD
  have f1_av16 : av16 0 (5) = 3 := by rw [eav16, mf_sF_s, mf_up_s]
  have f2_av16 : ∀ y, y ≠ (5) → av16 0 y = av15 0 y := fun y hy => by rw [eav16, mf_sF_s, mf_up_n hy]
  have f3_av16 : ∀ q, q ≠ 0 → av16 q = av15 q := fun q hq => by rw [eav16, mf_sF_n hq]
  refine lv_dup hx hb dX3_init_69 rfl ?_
  refine mf_bipush hx hb dX3_init_70 rfl ?_
  refine mf_iconst hx hb dX3_init_72 ?_
  refine mf_iast (n := 12) (f := av16 0) hx hb hK hP hD hS 5 0 rfl rfl (z := 6) (x := 3) (by omega) (by omega) (by first | decide | omega) dX3_init_73 (fun H locs hP hD hS => ?_)
  obtain ⟨av17, eav17⟩ : ∃ z9 : mf_V, z9 = mf_sF av16 0 (mf_up (av16 0) (6) (3)) := ⟨_, rfl⟩
  have hP : va_P G.1 vwCl (CW hm 3 [.int (iI (0)), .int (iI (0)), .null, .ref na1, .ref na3, .ref na5, .ref na7, .null, .null] ++ AW G na1 384 av2 ++ AZ G na3 384 av4 ++ AW G na5 384 av6 ++ AW G na7 384 av8 ++ AW G na9 12 av17) H := by rw [eav17]; exact hP
  have hD : va_D A (CW hm 3 [.int (iI (0)), .int (iI (0)), .null, .ref na1, .ref na3, .ref na5, .ref na7, .null, .null] ++ AW G na1 384 av2 ++ AZ G na3 384 av4 ++ AW G na5 384 av6 ++ AW G na7 384 av8 ++ AW G na9 12 av17) := by rw [eav17]; exact hD
  have f1_av17 : av17 0 (6) = 3 := by rw [eav17, mf_sF_s, mf_up_s]
  have f2_av17 : ∀ y, y ≠ (6) → av17 0 y = av16 0 y := fun y hy => by rw [eav17, mf_sF_s, mf_up_n hy]
  have f3_av17 : ∀ q, q ≠ 0 → av17 q = av16 q := fun q hq => by rw [eav17, mf_sF_n hq]
  refine lv_dup hx hb dX3_init_74 rfl ?_
  refine mf_bipush hx hb dX3_init_75 rfl ?_
  refine mf_iconst hx hb dX3_init_77 ?_
  refine mf_iast (n := 12) (f := av17 0) hx hb hK hP hD hS 5 0 rfl rfl (z := 7) (x := 3) (by omega) (by omega) (by first | decide | omega) dX3_init_78 (fun H locs hP hD hS => ?_)
  obtain ⟨av18, eav18⟩ : ∃ z9 : mf_V, z9 = mf_sF av17 0 (mf_up (av17 0) (7) (3)) := ⟨_, rfl⟩
  have hP : va_P G.1 vwCl (CW hm 3 [.int (iI (0)), .int (iI (0)), .null, .ref na1, .ref na3, .ref na5, .ref na7, .null, .null] ++ AW G na1 384 av2 ++ AZ G na3 384 av4 ++ AW G na5 384 av6 ++ AW G na7 384 av8 ++ AW G na9 12 av18) H := by rw [eav18]; exact hP
  have hD : va_D A (CW hm 3 [.int (iI (0)), .int (iI (0)), .null, .ref na1, .ref na3, .ref na5, .ref na7, .null, .null] ++ AW G na1 384 av2 ++ AZ G na3 384 av4 ++ AW G na5 384 av6 ++ AW G na7 384 av8 ++ AW G na9 12 av18) := by rw [eav18]; exact hD
  have f1_av18 : av18 0 (7) = 3 := by rw [eav18, mf_sF_s, mf_up_s]
  have f2_av18 : ∀ y, y ≠ (7) → av18 0 y = av17 0 y := fun y hy => by rw [eav18, mf_sF_s, mf_up_n hy]
  have f3_av18 : ∀ q, q ≠ 0 → av18 q = av17 q := fun q hq => by rw [eav18, mf_sF_n hq]
  refine lv_dup hx hb dX3_init_79 rfl ?_
  refine mf_bipush hx hb dX3_init_80 rfl ?_
  refine mf_iconst hx hb dX3_init_82 ?_
  refine mf_iast (n := 12) (f := av18 0) hx hb hK hP hD hS 5 0 rfl rfl (z := 8) (x := 3) (by omega) (by omega) (by first | decide | omega) dX3_init_83 (fun H locs hP hD hS => ?_)
  obtain ⟨av19, eav19⟩ : ∃ z9 : mf_V, z9 = mf_sF av18 0 (mf_up (av18 0) (8) (3)) := ⟨_, rfl⟩
  have hP : va_P G.1 vwCl (CW hm 3 [.int (iI (0)), .int (iI (0)), .null, .ref na1, .ref na3, .ref na5, .ref na7, .null, .null] ++ AW G na1 384 av2 ++ AZ G na3 384 av4 ++ AW G na5 384 av6 ++ AW G na7 384 av8 ++ AW G na9 12 av19) H := by rw [eav19]; exact hP
  have hD : va_D A (CW hm 3 [.int (iI (0)), .int (iI (0)), .null, .ref na1, .ref na3, .ref na5, .ref na7, .null, .null] ++ AW G na1 384 av2 ++ AZ G na3 384 av4 ++ AW G na5 384 av6 ++ AW G na7 384 av8 ++ AW G na9 12 av19) := by rw [eav19]; exact hD
  have f1_av19 : av19 0 (8) = 3 := by rw [eav19, mf_sF_s, mf_up_s]
  have f2_av19 : ∀ y, y ≠ (8) → av19 0 y = av18 0 y := fun y hy => by rw [eav19, mf_sF_s, mf_up_n hy]
  have f3_av19 : ∀ q, q ≠ 0 → av19 q = av18 q := fun q hq => by rw [eav19, mf_sF_n hq]
  refine lv_dup hx hb dX3_init_84 rfl ?_
  refine mf_bipush hx hb dX3_init_85 rfl ?_
  refine mf_iconst hx hb dX3_init_87 ?_
  refine mf_iast (n := 12) (f := av19 0) hx hb hK hP hD hS 5 0 rfl rfl (z := 9) (x := 3) (by omega) (by omega) (by first | decide | omega) dX3_init_88 (fun H locs hP hD hS => ?_)
  obtain ⟨av20, eav20⟩ : ∃ z9 : mf_V, z9 = mf_sF av19 0 (mf_up (av19 0) (9) (3)) := ⟨_, rfl⟩
  have hP : va_P G.1 vwCl (CW hm 3 [.int (iI (0)), .int (iI (0)), .null, .ref na1, .ref na3, .ref na5, .ref na7, .null, .null] ++ AW G na1 384 av2 ++ AZ G na3 384 av4 ++ AW G na5 384 av6 ++ AW G na7 384 av8 ++ AW G na9 12 av20) H := by rw [eav20]; exact hP
  have hD : va_D A (CW hm 3 [.int (iI (0)), .int (iI (0)), .null, .ref na1, .ref na3, .ref na5, .ref na7, .null, .null] ++ AW G na1 384 av2 ++ AZ G na3 384 av4 ++ AW G na5 384 av6 ++ AW G na7 384 av8 ++ AW G na9 12 av20) := by rw [eav20]; exact hD
  have f1_av20 : av20 0 (9) = 3 := by rw [eav20, mf_sF_s, mf_up_s]
  have f2_av20 : ∀ y, y ≠ (9) → av20 0 y = av19 0 y := fun y hy => by rw [eav20, mf_sF_s, mf_up_n hy]
  have f3_av20 : ∀ q, q ≠ 0 → av20 q = av19 q := fun q hq => by rw [eav20, mf_sF_n hq]
  refine lv_dup hx hb dX3_init_89 rfl ?_
  refine mf_bipush hx hb dX3_init_90 rfl ?_
  refine mf_iconst hx hb dX3_init_92 ?_
  refine mf_iast (n := 12) (f := av20 0) hx hb hK hP hD hS 5 0 rfl rfl (z := 10) (x := 3) (by omega) (by omega) (by first | decide | omega) dX3_init_93 (fun H locs hP hD hS => ?_)
  obtain ⟨av21, eav21⟩ : ∃ z9 : mf_V, z9 = mf_sF av20 0 (mf_up (av20 0) (10) (3)) := ⟨_, rfl⟩
  have hP : va_P G.1 vwCl (CW hm 3 [.int (iI (0)), .int (iI (0)), .null, .ref na1, .ref na3, .ref na5, .ref na7, .null, .null] ++ AW G na1 384 av2 ++ AZ G na3 384 av4 ++ AW G na5 384 av6 ++ AW G na7 384 av8 ++ AW G na9 12 av21) H := by rw [eav21]; exact hP
  have hD : va_D A (CW hm 3 [.int (iI (0)), .int (iI (0)), .null, .ref na1, .ref na3, .ref na5, .ref na7, .null, .null] ++ AW G na1 384 av2 ++ AZ G na3 384 av4 ++ AW G na5 384 av6 ++ AW G na7 384 av8 ++ AW G na9 12 av21) := by rw [eav21]; exact hD
  have f1_av21 : av21 0 (10) = 3 := by rw [eav21, mf_sF_s, mf_up_s]
  have f2_av21 : ∀ y, y ≠ (10) → av21 0 y = av20 0 y := fun y hy => by rw [eav21, mf_sF_s, mf_up_n hy]
  have f3_av21 : ∀ q, q ≠ 0 → av21 q = av20 q := fun q hq => by rw [eav21, mf_sF_n hq]
  refine lv_dup hx hb dX3_init_94 rfl ?_
  refine mf_bipush hx hb dX3_init_95 rfl ?_
  refine mf_iconst hx hb dX3_init_97 ?_
  refine mf_iast (n := 12) (f := av21 0) hx hb hK hP hD hS 5 0 rfl rfl (z := 11) (x := 3) (by omega) (by omega) (by first | decide | omega) dX3_init_98 (fun H locs hP hD hS => ?_)
  obtain ⟨av22, eav22⟩ : ∃ z9 : mf_V, z9 = mf_sF av21 0 (mf_up (av21 0) (11) (3)) := ⟨_, rfl⟩
  have hP : va_P G.1 vwCl (CW hm 3 [.int (iI (0)), .int (iI (0)), .null, .ref na1, .ref na3, .ref na5, .ref na7, .null, .null] ++ AW G na1 384 av2 ++ AZ G na3 384 av4 ++ AW G na5 384 av6 ++ AW G na7 384 av8 ++ AW G na9 12 av22) H := by rw [eav22]; exact hP
  have hD : va_D A (CW hm 3 [.int (iI (0)), .int (iI (0)), .null, .ref na1, .ref na3, .ref na5, .ref na7, .null, .null] ++ AW G na1 384 av2 ++ AZ G na3 384 av4 ++ AW G na5 384 av6 ++ AW G na7 384 av8 ++ AW G na9 12 av22) := by rw [eav22]; exact hD
  have f1_av22 : av22 0 (11) = 3 := by rw [eav22, mf_sF_s, mf_up_s]
  have f2_av22 : ∀ y, y ≠ (11) → av22 0 y = av21 0 y := fun y hy => by rw [eav22, mf_sF_s, mf_up_n hy]
  have f3_av22 : ∀ q, q ≠ 0 → av22 q = av21 q := fun q hq => by rw [eav22, mf_sF_n hq]
  have hfl : ∀ z, 0 ≤ z → z < 12 → av22 0 z = 3 := by
    intro z z0 z1
    rcases (show z = 0 ∨ z = 1 ∨ z = 2 ∨ z = 3 ∨ z = 4 ∨ z = 5 ∨ z = 6 ∨ z = 7 ∨ z = 8 ∨ z = 9 ∨ z = 10 ∨ z = 11 by omega) with y | y | y | y | y | y | y | y | y | y | y | y
    · rw [y, f2_av22 0 (by decide), f2_av21 0 (by decide), f2_av20 0 (by decide), f2_av19 0 (by decide), f2_av18 0 (by decide), f2_av17 0 (by decide), f2_av16 0 (by decide), f2_av15 0 (by decide), f2_av14 0 (by decide), f2_av13 0 (by decide), f2_av12 0 (by decide), f1_av11]
    · rw [y, f2_av22 1 (by decide), f2_av21 1 (by decide), f2_av20 1 (by decide), f2_av19 1 (by decide), f2_av18 1 (by decide), f2_av17 1 (by decide), f2_av16 1 (by decide), f2_av15 1 (by decide), f2_av14 1 (by decide), f2_av13 1 (by decide), f1_av12]
    · rw [y, f2_av22 2 (by decide), f2_av21 2 (by decide), f2_av20 2 (by decide), f2_av19 2 (by decide), f2_av18 2 (by decide), f2_av17 2 (by decide), f2_av16 2 (by decide), f2_av15 2 (by decide), f2_av14 2 (by decide), f1_av13]
    · rw [y, f2_av22 3 (by decide), f2_av21 3 (by decide), f2_av20 3 (by decide), f2_av19 3 (by decide), f2_av18 3 (by decide), f2_av17 3 (by decide), f2_av16 3 (by decide), f2_av15 3 (by decide), f1_av14]
    · rw [y, f2_av22 4 (by decide), f2_av21 4 (by decide), f2_av20 4 (by decide), f2_av19 4 (by decide), f2_av18 4 (by decide), f2_av17 4 (by decide), f2_av16 4 (by decide), f1_av15]
    · rw [y, f2_av22 5 (by decide), f2_av21 5 (by decide), f2_av20 5 (by decide), f2_av19 5 (by decide), f2_av18 5 (by decide), f2_av17 5 (by decide), f1_av16]
    · rw [y, f2_av22 6 (by decide), f2_av21 6 (by decide), f2_av20 6 (by decide), f2_av19 6 (by decide), f2_av18 6 (by decide), f1_av17]
    · rw [y, f2_av22 7 (by decide), f2_av21 7 (by decide), f2_av20 7 (by decide), f2_av19 7 (by decide), f1_av18]
    · rw [y, f2_av22 8 (by decide), f2_av21 8 (by decide), f2_av20 8 (by decide), f1_av19]
    · rw [y, f2_av22 9 (by decide), f2_av21 9 (by decide), f1_av20]
    · rw [y, f2_av22 10 (by decide), f1_av21]
    · rw [y, f1_av22]
  have hfb : ∀ z, 0 ≤ av22 0 z ∧ av22 0 z ≤ 9 := by
    intro z
    by_cases y11 : z = 11
    · rw [y11, f1_av22]; omega
    by_cases y10 : z = 10
    · rw [y10, f2_av22 10 (by decide), f1_av21]; omega
    by_cases y9 : z = 9
    · rw [y9, f2_av22 9 (by decide), f2_av21 9 (by decide), f1_av20]; omega
    by_cases y8 : z = 8
    · rw [y8, f2_av22 8 (by decide), f2_av21 8 (by decide), f2_av20 8 (by decide), f1_av19]; omega
    by_cases y7 : z = 7
    · rw [y7, f2_av22 7 (by decide), f2_av21 7 (by decide), f2_av20 7 (by decide), f2_av19 7 (by decide), f1_av18]; omega
    by_cases y6 : z = 6
    · rw [y6, f2_av22 6 (by decide), f2_av21 6 (by decide), f2_av20 6 (by decide), f2_av19 6 (by decide), f2_av18 6 (by decide), f1_av17]; omega
    by_cases y5 : z = 5
    · rw [y5, f2_av22 5 (by decide), f2_av21 5 (by decide), f2_av20 5 (by decide), f2_av19 5 (by decide), f2_av18 5 (by decide), f2_av17 5 (by decide), f1_av16]; omega
    by_cases y4 : z = 4
    · rw [y4, f2_av22 4 (by decide), f2_av21 4 (by decide), f2_av20 4 (by decide), f2_av19 4 (by decide), f2_av18 4 (by decide), f2_av17 4 (by decide), f2_av16 4 (by decide), f1_av15]; omega
    by_cases y3 : z = 3
    · rw [y3, f2_av22 3 (by decide), f2_av21 3 (by decide), f2_av20 3 (by decide), f2_av19 3 (by decide), f2_av18 3 (by decide), f2_av17 3 (by decide), f2_av16 3 (by decide), f2_av15 3 (by decide), f1_av14]; omega
    by_cases y2 : z = 2
    · rw [y2, f2_av22 2 (by decide), f2_av21 2 (by decide), f2_av20 2 (by decide), f2_av19 2 (by decide), f2_av18 2 (by decide), f2_av17 2 (by decide), f2_av16 2 (by decide), f2_av15 2 (by decide), f2_av14 2 (by decide), f1_av13]; omega
    by_cases y1 : z = 1
    · rw [y1, f2_av22 1 (by decide), f2_av21 1 (by decide), f2_av20 1 (by decide), f2_av19 1 (by decide), f2_av18 1 (by decide), f2_av17 1 (by decide), f2_av16 1 (by decide), f2_av15 1 (by decide), f2_av14 1 (by decide), f2_av13 1 (by decide), f1_av12]; omega
    by_cases y0 : z = 0
    · rw [y0, f2_av22 0 (by decide), f2_av21 0 (by decide), f2_av20 0 (by decide), f2_av19 0 (by decide), f2_av18 0 (by decide), f2_av17 0 (by decide), f2_av16 0 (by decide), f2_av15 0 (by decide), f2_av14 0 (by decide), f2_av13 0 (by decide), f2_av12 0 (by decide), f1_av11]; omega
    rw [f2_av22 z y11, f2_av21 z y10, f2_av20 z y9, f2_av19 z y8, f2_av18 z y7, f2_av17 z y6, f2_av16 z y5, f2_av15 z y4, f2_av14 z y3, f2_av13 z y2, f2_av12 z y1, f2_av11 z y0, eav10]; exact ⟨Int.le_refl 0, (by decide : (0 : Int) ≤ 9)⟩
  skip
  refine va_put (D := G.1) (ci := 3) (v := .ref na9) (ty := .array .int) (C := RX3) (T := TX3) (N := 9) hx hb hts hinX3 tyX3 tyX3_ok nmX3 hown hK hP hD hS 0 rfl rfl 7 (by decide) (hts (.fieldLink RX3 23 "MeanderFarmLaw$Sim" "flow" "[I") (List.mem_of_getElem? (i := 10) rfl)) (fun _ h9 => h9) rfl (by decide +kernel) rfl rfl (Nat.le_of_ble_eq_true rfl) dX3_init_99 (fun H locs hP hD hS => ?_)
  have hP : va_P G.1 vwCl (CW hm 3 [.int (iI (0)), .int (iI (0)), .null, .ref na1, .ref na3, .ref na5, .ref na7, .ref na9, .null] ++ AW G na1 384 av2 ++ AZ G na3 384 av4 ++ AW G na5 384 av6 ++ AW G na7 384 av8 ++ AW G na9 12 av22) H := hP
  have hD : va_D A (CW hm 3 [.int (iI (0)), .int (iI (0)), .null, .ref na1, .ref na3, .ref na5, .ref na7, .ref na9, .null] ++ AW G na1 384 av2 ++ AZ G na3 384 av4 ++ AW G na5 384 av6 ++ AW G na7 384 av8 ++ AW G na9 12 av22) := hD
  refine lv_aload_n hx hb dX3_init_102 rfl (lv_at hl 0 rfl) ?_
  refine mf_sipush hx hb dX3_init_103 rfl ?_
  refine mf_newi hx hb (hts (.arrayClass .int) (List.mem_of_getElem? (i := 4) rfl)) hK hP hD hS hA (n := 384) (N := 384) rfl (Nat.le_of_ble_eq_true rfl) (Nat.le_of_ble_eq_true rfl) (Nat.le_of_ble_eq_true rfl) dX3_init_106 (fun na23 H hP hD hS => ?_)
  obtain ⟨av24, eav24⟩ : ∃ z9 : mf_V, z9 = fun _ _ => 0 := ⟨_, rfl⟩
  have hP : va_P G.1 vwCl (CW hm 3 [.int (iI (0)), .int (iI (0)), .null, .ref na1, .ref na3, .ref na5, .ref na7, .ref na9, .null] ++ AW G na1 384 av2 ++ AZ G na3 384 av4 ++ AW G na5 384 av6 ++ AW G na7 384 av8 ++ AW G na9 12 av22 ++ AW G na23 384 av24) H := by rw [eav24]; exact hP
  have hD : va_D A (CW hm 3 [.int (iI (0)), .int (iI (0)), .null, .ref na1, .ref na3, .ref na5, .ref na7, .ref na9, .null] ++ AW G na1 384 av2 ++ AZ G na3 384 av4 ++ AW G na5 384 av6 ++ AW G na7 384 av8 ++ AW G na9 12 av22 ++ AW G na23 384 av24) := by rw [eav24]; exact hD
  refine va_put (D := G.1) (ci := 3) (v := .ref na23) (ty := .array .int) (C := RX3) (T := TX3) (N := 9) hx hb hts hinX3 tyX3 tyX3_ok nmX3 hown hK hP hD hS 0 rfl rfl 8 (by decide) (hts (.fieldLink RX3 26 "MeanderFarmLaw$Sim" "where" "[I") (List.mem_of_getElem? (i := 11) rfl)) (fun _ h9 => h9) rfl (by decide +kernel) rfl rfl (Nat.le_of_ble_eq_true rfl) dX3_init_108 (fun H locs hP hD hS => ?_)
  have hP : va_P G.1 vwCl (CW hm 3 [.int (iI (0)), .int (iI (0)), .null, .ref na1, .ref na3, .ref na5, .ref na7, .ref na9, .ref na23] ++ AW G na1 384 av2 ++ AZ G na3 384 av4 ++ AW G na5 384 av6 ++ AW G na7 384 av8 ++ AW G na9 12 av22 ++ AW G na23 384 av24) H := hP
  have hD : va_D A (CW hm 3 [.int (iI (0)), .int (iI (0)), .null, .ref na1, .ref na3, .ref na5, .ref na7, .ref na9, .ref na23] ++ AW G na1 384 av2 ++ AZ G na3 384 av4 ++ AW G na5 384 av6 ++ AW G na7 384 av8 ++ AW G na9 12 av22 ++ AW G na23 384 av24) := hD
  refine mf_bipush hx hb dX3_init_111 rfl ?_
  refine mf_newi hx hb (hts (.arrayClass .int) (List.mem_of_getElem? (i := 4) rfl)) hK hP hD hS hA (n := 24) (N := 24) rfl (Nat.le_of_ble_eq_true rfl) (Nat.le_of_ble_eq_true rfl) (Nat.le_of_ble_eq_true rfl) dX3_init_113 (fun na25 H hP hD hS => ?_)
  obtain ⟨av26, eav26⟩ : ∃ z9 : mf_V, z9 = fun _ _ => 0 := ⟨_, rfl⟩
  have hP : va_P G.1 vwCl (CW hm 3 [.int (iI (0)), .int (iI (0)), .null, .ref na1, .ref na3, .ref na5, .ref na7, .ref na9, .ref na23] ++ AW G na1 384 av2 ++ AZ G na3 384 av4 ++ AW G na5 384 av6 ++ AW G na7 384 av8 ++ AW G na9 12 av22 ++ AW G na23 384 av24 ++ AW G na25 24 av26) H := by rw [eav26]; exact hP
  have hD : va_D A (CW hm 3 [.int (iI (0)), .int (iI (0)), .null, .ref na1, .ref na3, .ref na5, .ref na7, .ref na9, .ref na23] ++ AW G na1 384 av2 ++ AZ G na3 384 av4 ++ AW G na5 384 av6 ++ AW G na7 384 av8 ++ AW G na9 12 av22 ++ AW G na23 384 av24 ++ AW G na25 24 av26) := by rw [eav26]; exact hD
  refine lv_astore_n (lv' := [(1, .ref na25), (0, .ref hm)]) hx hb dX3_init_115 rfl hl (by decide) rfl (fun ls hl => ?_)
  refine mf_iconst hx hb dX3_init_116 ?_
  refine lv_istore_n (lv' := [(2, .int (iI (0))), (1, .ref na25), (0, .ref hm)]) hx hb dX3_init_117 rfl hl (by decide) rfl (fun ls hl => ?_)
  have lp118 : ∀ (n : Nat) (kv : Int) (vr : mf_V), (24 - kv).toNat < n → (0 ≤ kv ∧ kv ≤ 24) → (∀ z, 0 ≤ z → z < kv → vr 0 z = z + 192) → (∀ z, 0 ≤ vr 0 z ∧ vr 0 z ≤ 383) → ∀ (H : Heap) (locs : List Loc), va_P G.1 vwCl (CW hm 3 [.int (iI (0)), .int (iI (0)), .null, .ref na1, .ref na3, .ref na5, .ref na7, .ref na9, .ref na23] ++ AW G na1 384 av2 ++ AZ G na3 384 av4 ++ AW G na5 384 av6 ++ AW G na7 384 av8 ++ AW G na9 12 av22 ++ AW G na23 384 av24 ++ AW G na25 24 vr) H → va_D A (CW hm 3 [.int (iI (0)), .int (iI (0)), .null, .ref na1, .ref na3, .ref na5, .ref na7, .ref na9, .ref na23] ++ AW G na1 384 av2 ++ AZ G na3 384 av4 ++ AW G na5 384 av6 ++ AW G na7 384 av8 ++ AW G na9 12 av22 ++ AW G na23 384 av24 ++ AW G na25 24 vr) → va_S A s.heap H locs → ∀ (ls : Array Slot), lv_has ls 3 [(0, .ref hm), (1, .ref na25), (2, .int (iI (kv)))] → W p l e (headSpec wsX3_init ({ frames := 1, cells := 7, slots := 1956, locals := 60 })).room s m ([.ref hm] : List Value).toArray below meth c H locs 7 1956 (MQ below (va_Qv (fun (u9 : (Nat → Nat) × Nat × mf_V) => rOK slo shi u9.2.2 ∧ relS q 24 u9.2.2) (fun (u9 : (Nat → Nat) × Nat × mf_V) t => WrQ G A (SW G hm u9.1 u9.2.1 24 u9.2.2) t) A) ([.ref hm] : List Value).toArray s 7 1956 A) (F0 m 118 ls []) := by
    intro n
    induction n with
    | zero => intro kv vr hn; exact absurd hn (Nat.not_lt_zero _)
    | succ n ih118 =>
      intro kv vr hn hk hrow hrb H locs hP hD hS ls hl
      refine lv_iload_n hx hb dX3_init_118 rfl (lv_at hl 2 rfl) ?_
      refine mf_bipush hx hb dX3_init_119 rfl ?_
      refine mf_icmp_ge (tgt := 138) hx hb dX3_init_121 (by decide) (i32_mk (by omega) (by omega)) (i32_mk (by decide) (by decide)) (fun c27 => ?_) (fun c27 => ?_)
      · skip
        refine mf_iconst hx hb dX3_init_138 ?_
        refine lv_istore_n (lv' := [(2, .int (iI (0))), (0, .ref hm), (1, .ref na25)]) hx hb dX3_init_139 rfl hl (by decide) rfl (fun ls hl => ?_)
        have lp140 : ∀ (n : Nat) (kv2 : Int) (vh : mf_V), (384 - kv2).toNat < n → (0 ≤ kv2 ∧ kv2 ≤ 384) → (∀ z, 0 ≤ z → z < kv2 → vh 0 z = 3) → (∀ z, 0 ≤ vh 0 z ∧ vh 0 z ≤ 9) → ∀ (H : Heap) (locs : List Loc), va_P G.1 vwCl (CW hm 3 [.int (iI (0)), .int (iI (0)), .null, .ref na1, .ref na3, .ref na5, .ref na7, .ref na9, .ref na23] ++ AW G na1 384 vh ++ AZ G na3 384 av4 ++ AW G na5 384 av6 ++ AW G na7 384 av8 ++ AW G na9 12 av22 ++ AW G na23 384 av24 ++ AW G na25 24 vr) H → va_D A (CW hm 3 [.int (iI (0)), .int (iI (0)), .null, .ref na1, .ref na3, .ref na5, .ref na7, .ref na9, .ref na23] ++ AW G na1 384 vh ++ AZ G na3 384 av4 ++ AW G na5 384 av6 ++ AW G na7 384 av8 ++ AW G na9 12 av22 ++ AW G na23 384 av24 ++ AW G na25 24 vr) → va_S A s.heap H locs → ∀ (ls : Array Slot), lv_has ls 3 [(0, .ref hm), (1, .ref na25), (2, .int (iI (kv2)))] → W p l e (headSpec wsX3_init ({ frames := 1, cells := 7, slots := 1956, locals := 60 })).room s m ([.ref hm] : List Value).toArray below meth c H locs 7 1956 (MQ below (va_Qv (fun (u9 : (Nat → Nat) × Nat × mf_V) => rOK slo shi u9.2.2 ∧ relS q 24 u9.2.2) (fun (u9 : (Nat → Nat) × Nat × mf_V) t => WrQ G A (SW G hm u9.1 u9.2.1 24 u9.2.2) t) A) ([.ref hm] : List Value).toArray s 7 1956 A) (F0 m 140 ls []) := by
          intro n
          induction n with
          | zero => intro kv2 vh hn; exact absurd hn (Nat.not_lt_zero _)
          | succ n ih140 =>
            intro kv2 vh hn hk2 hhd hhb H locs hP hD hS ls hl
            refine lv_iload_n hx hb dX3_init_140 rfl (lv_at hl 2 rfl) ?_
            refine mf_sipush hx hb dX3_init_141 rfl ?_
            refine mf_icmp_ge (tgt := 160) hx hb dX3_init_144 (by decide) (i32_mk (by omega) (by omega)) (i32_mk (by decide) (by decide)) (fun c28 => ?_) (fun c28 => ?_)
            · skip
              refine lv_aload_n hx hb dX3_init_160 rfl (lv_at hl 0 rfl) ?_
              refine lv_aload_n hx hb dX3_init_161 rfl (lv_at hl 1 rfl) ?_
              refine va_put (D := G.1) (ci := 3) (v := .ref na25) (ty := .array .int) (C := RX3) (T := TX3) (N := 9) hx hb hts hinX3 tyX3 tyX3_ok nmX3 hown hK hP hD hS 0 rfl rfl 2 (by decide) (hts (.fieldLink RX3 29 "MeanderFarmLaw$Sim" "course" "[I") (List.mem_of_getElem? (i := 12) rfl)) (fun _ h9 => h9) rfl (by decide +kernel) rfl rfl (Nat.le_of_ble_eq_true rfl) dX3_init_162 (fun H locs hP hD hS => ?_)
              have hP : va_P G.1 vwCl (CW hm 3 [.int (iI (0)), .int (iI (0)), .ref na25, .ref na1, .ref na3, .ref na5, .ref na7, .ref na9, .ref na23] ++ AW G na1 384 vh ++ AZ G na3 384 av4 ++ AW G na5 384 av6 ++ AW G na7 384 av8 ++ AW G na9 12 av22 ++ AW G na23 384 av24 ++ AW G na25 24 vr) H := hP
              have hD : va_D A (CW hm 3 [.int (iI (0)), .int (iI (0)), .ref na25, .ref na1, .ref na3, .ref na5, .ref na7, .ref na9, .ref na23] ++ AW G na1 384 vh ++ AZ G na3 384 av4 ++ AW G na5 384 av6 ++ AW G na7 384 av8 ++ AW G na9 12 av22 ++ AW G na23 384 av24 ++ AW G na25 24 vr) := hD
              subst eav4
              subst eav6
              subst eav8
              subst eav24
              obtain ⟨ad, ead⟩ : ∃ z9 : Nat → Nat, z9 = fun k => if k = 3 then na1 else if k = 4 then na3 else if k = 5 then na5 else if k = 6 then na7 else if k = 7 then na9 else na23 := ⟨_, rfl⟩
              obtain ⟨u0, eu0⟩ : ∃ z9 : mf_V, z9 = fun k => if k = 2 then vr 0 else if k = 3 then vh 0 else if k = 7 then av22 0 else fun _ => 0 := ⟨_, rfl⟩
              have hP : va_P G.1 vwCl (SW G hm ad na25 24 u0) H := by rw [ead, eu0]; exact hP.sub [0, 7, 1, 2, 3, 4, 5, 6] rfl
              have hD : va_D A (SW G hm ad na25 24 u0) := by rw [ead, eu0]; exact hD.sub [0, 7, 1, 2, 3, 4, 5, 6] (by decide) rfl
              have g2 : u0 2 = vr 0 := by rw [eu0]; rfl
              have g3 : u0 3 = vh 0 := by rw [eu0]; rfl
              have g7 : u0 7 = av22 0 := by rw [eu0]; rfl
              have gz : ∀ k, k ≠ 2 → k ≠ 3 → k ≠ 7 → u0 k = fun _ => 0 := fun k a b c => by rw [eu0]; show (if k = 2 then _ else if k = 3 then _ else if k = 7 then _ else _) = _; rw [if_neg a, if_neg b, if_neg c]
              have oku0 : rOK slo shi u0 := simOK0 (by rw [g2]; exact hrb) (by rw [g3]; exact hhb) (by rw [g7]; exact hfb) gz
              obtain ⟨i0, i1, i2, i3, i5, i6, i7, i8, i9⟩ := hin9
              have hl9 : ((24 : Nat) : Int) = q 7 0 := by rw [i7]; rfl
              have hc9 : rgA (q 7 0) (u0 2) (q 6) := fun z z0 z1 => by rw [i7] at z1; rw [g2, hrow z z0 (by omega), i6 z z0 z1]
              skip
              refine lv_aload_n hx hb dX3_init_165 rfl (lv_at hl 0 rfl) ?_
              have hFc := va_free (wc := SW G hm ad na25 24 u0) hD hS hA [0, 1, 2, 3, 4, 5, 6, 7] rfl
              refine va_callv (va_runV (As := []) (rest := []) ⟨hx, hb, hml, hown, hts⟩ (c_X3_place l G hm ad na25 24 u0 (q) (by assumption) (by exact hq.1) (by exact fun i _ _ => okq 6 i) (by exact okq 7 0) (by exact hc9) (by exact hl9) _) (cwV 0 hts gX3_init_X3_place rfl rfl rfl (by decide +kernel) ⟨Nat.le_of_ble_eq_true rfl, Nat.le_of_ble_eq_true rfl⟩) (wrV (wc := SW G hm ad na25 24 u0) hK hP hD hN [0, 1, 2, 3, 4, 5, 6, 7] (by decide) rfl rfl (ci := 3) rfl rfl) rfl rfl hl.1 rfl (lv_room (Nat.le_of_ble_eq_true rfl)) dX3_init_166 ⟨(Nat.le_of_ble_eq_true rfl), (Nat.le_of_ble_eq_true rfl)⟩) hS (fun q _ h => hFc q h) hFc (fun u30 t H1 locs ht hvm hw hB hz1 hk1 hS => ?_)
              obtain ⟨u31, rfl⟩ : ∃ z, z = u30 := ⟨_, rfl⟩
              try dsimp only at hw hB
              obtain ⟨hP, hD⟩ := wrJ (ws := SW G hm ad na25 24 u0) (w1 := SW G hm ad na25 24 u31) ht hFc hB
              have hP : va_P G.1 vwCl (SW G hm ad na25 24 u31) H1 := hP
              have hD : va_D A (SW G hm ad na25 24 u31) := hD
              clear hB hk1 hFc ht hz1 hvm
              generalize H1 = H at hP hS ⊢
              have w32 := hw; clear hw
              have oku31 : rOK slo shi u31 := w32.1
              exact W.vret hx hb hr (fun t ht hW => ⟨⟨(ad, na25, u31), rfl, by (try dsimp only); exact ⟨oku31, hl9, by rw [w32.2.1 0 (by decide), gz 0 (by decide) (by decide) (by decide), i8], by rw [w32.2.1 1 (by decide), gz 1 (by decide) (by decide) (by decide), i9], fun z z0 z1 => by rw [w32.2.1 2 (by decide)]; exact hc9 z z0 z1, fun z z0 z1 => by rw [w32.2.1 3 (by decide), g3, hhd z z0 (by omega), i0 z z0 z1], fun z z0 z1 => by rw [w32.2.1 4 (by decide), gz 4 (by decide) (by decide) (by decide), i2 z], fun z z0 z1 => by rw [w32.2.1 5 (by decide), gz 5 (by decide) (by decide) (by decide), i1 z], fun z z0 z1 => by rw [w32.2.1 7 (by decide), g7, hfl z z0 z1, i5 z z0 z1], placeEndS hq w32.2.2.1 w32.2.2.2⟩, by rw [ht]; exact hP, hD⟩, hS.F ht⟩) hS.2.2 dX3_init_169
            · skip
              refine lv_aload_n hx hb dX3_init_147 rfl (lv_at hl 0 rfl) ?_
              refine va_get (D := G.1) (ci := 3) (v := .ref na1) (C := RX3) (T := TX3) (N := 9) hx hb hts hinX3 hown hK hP 0 rfl rfl 3 (by decide) (hts (.fieldLink RX3 7 "MeanderFarmLaw$Sim" "hardness" "[I") (List.mem_of_getElem? (i := 5) rfl)) (fun _ h9 => h9) rfl dX3_init_148 ?_
              refine lv_iload_n hx hb dX3_init_151 rfl (lv_at hl 2 rfl) ?_
              refine mf_iconst hx hb dX3_init_152 ?_
              refine mf_iast (n := 384) (f := vh 0) hx hb hK hP hD hS 1 0 rfl rfl (z := kv2) (x := 3) (by omega) (by omega) (by first | decide | omega) dX3_init_153 (fun H locs hP hD hS => ?_)
              obtain ⟨vh33, evh33⟩ : ∃ z9 : mf_V, z9 = mf_sF vh 0 (mf_up (vh 0) (kv2) (3)) := ⟨_, rfl⟩
              have hP : va_P G.1 vwCl (CW hm 3 [.int (iI (0)), .int (iI (0)), .null, .ref na1, .ref na3, .ref na5, .ref na7, .ref na9, .ref na23] ++ AW G na1 384 vh33 ++ AZ G na3 384 av4 ++ AW G na5 384 av6 ++ AW G na7 384 av8 ++ AW G na9 12 av22 ++ AW G na23 384 av24 ++ AW G na25 24 vr) H := by rw [evh33]; exact hP
              have hD : va_D A (CW hm 3 [.int (iI (0)), .int (iI (0)), .null, .ref na1, .ref na3, .ref na5, .ref na7, .ref na9, .ref na23] ++ AW G na1 384 vh33 ++ AZ G na3 384 av4 ++ AW G na5 384 av6 ++ AW G na7 384 av8 ++ AW G na9 12 av22 ++ AW G na23 384 av24 ++ AW G na25 24 vr) := by rw [evh33]; exact hD
              have f1_vh33 : vh33 0 (kv2) = 3 := by rw [evh33, mf_sF_s, mf_up_s]
              have f2_vh33 : ∀ y, y ≠ (kv2) → vh33 0 y = vh 0 y := fun y hy => by rw [evh33, mf_sF_s, mf_up_n hy]
              have f3_vh33 : ∀ q, q ≠ 0 → vh33 q = vh q := fun q hq => by rw [evh33, mf_sF_n hq]
              refine lv_iinc (v := iI (kv2 + 1)) (lv' := [(2, .int (iI (kv2 + 1))), (0, .ref hm), (1, .ref na25)]) hx hb dX3_init_154 hl (k := 2) rfl (iI_add _ _).symm (by decide) rfl (fun ls hl => ?_)
              refine lv_goto (tgt := 140) hx hb dX3_init_157 (by decide) ?_
              exact ih140 (kv2 + 1) vh33 (by omega) (by first | assumption | omega) (by intro z z0 z1; rcases (show z < kv2 ∨ z = kv2 by omega) with y | y; (rw [f2_vh33 z (by omega)]; exact hhd z z0 y); (rw [y, f1_vh33])) (by intro z; by_cases y9 : z = kv2; (rw [y9, f1_vh33]; omega); (rw [f2_vh33 z y9]; exact hhb z)) _ _ hP hD hS ls (lv_sub hl [1, 2, 0] rfl)
        exact lp140 (_ + 1) 0 av2 (Nat.lt_succ_self _) (by first | assumption | omega) (by intro z z0 z1; omega) (by intro z; rw [eav2]; exact ⟨Int.le_refl 0, (by decide : (0 : Int) ≤ 9)⟩) _ _ hP hD hS ls (lv_sub hl [1, 2, 0] rfl)
      · skip
        refine lv_aload_n hx hb dX3_init_124 rfl (lv_at hl 1 rfl) ?_
        refine lv_iload_n hx hb dX3_init_125 rfl (lv_at hl 2 rfl) ?_
        refine mf_sipush hx hb dX3_init_126 rfl ?_
        refine lv_iload_n hx hb dX3_init_129 rfl (lv_at hl 2 rfl) ?_
        refine mf_iadd hx hb dX3_init_130 ?_
        refine mf_iast (n := 24) (f := vr 0) hx hb hK hP hD hS 7 0 rfl rfl (z := kv) (x := 192 + kv) (by omega) (by omega) (by first | decide | omega) dX3_init_131 (fun H locs hP hD hS => ?_)
        obtain ⟨vr34, evr34⟩ : ∃ z9 : mf_V, z9 = mf_sF vr 0 (mf_up (vr 0) (kv) (192 + kv)) := ⟨_, rfl⟩
        have hP : va_P G.1 vwCl (CW hm 3 [.int (iI (0)), .int (iI (0)), .null, .ref na1, .ref na3, .ref na5, .ref na7, .ref na9, .ref na23] ++ AW G na1 384 av2 ++ AZ G na3 384 av4 ++ AW G na5 384 av6 ++ AW G na7 384 av8 ++ AW G na9 12 av22 ++ AW G na23 384 av24 ++ AW G na25 24 vr34) H := by rw [evr34]; exact hP
        have hD : va_D A (CW hm 3 [.int (iI (0)), .int (iI (0)), .null, .ref na1, .ref na3, .ref na5, .ref na7, .ref na9, .ref na23] ++ AW G na1 384 av2 ++ AZ G na3 384 av4 ++ AW G na5 384 av6 ++ AW G na7 384 av8 ++ AW G na9 12 av22 ++ AW G na23 384 av24 ++ AW G na25 24 vr34) := by rw [evr34]; exact hD
        have f1_vr34 : vr34 0 (kv) = 192 + kv := by rw [evr34, mf_sF_s, mf_up_s]
        have f2_vr34 : ∀ y, y ≠ (kv) → vr34 0 y = vr 0 y := fun y hy => by rw [evr34, mf_sF_s, mf_up_n hy]
        have f3_vr34 : ∀ q, q ≠ 0 → vr34 q = vr q := fun q hq => by rw [evr34, mf_sF_n hq]
        refine lv_iinc (v := iI (kv + 1)) (lv' := [(2, .int (iI (kv + 1))), (0, .ref hm), (1, .ref na25)]) hx hb dX3_init_132 hl (k := 2) rfl (iI_add _ _).symm (by decide) rfl (fun ls hl => ?_)
        refine lv_goto (tgt := 118) hx hb dX3_init_135 (by decide) ?_
        exact ih118 (kv + 1) vr34 (by omega) (by first | assumption | omega) (by intro z z0 z1; rcases (show z < kv ∨ z = kv by omega) with y | y; (rw [f2_vr34 z (by omega)]; exact hrow z z0 y); (rw [y, f1_vr34]; omega)) (by intro z; by_cases y9 : z = kv; (rw [y9, f1_vr34]; omega); (rw [f2_vr34 z y9]; exact hrb z)) _ _ hP hD hS ls (lv_sub hl [1, 2, 0] rfl)
  exact lp118 (_ + 1) 0 av26 (Nat.lt_succ_self _) (by first | assumption | omega) (by intro z z0 z1; omega) (by intro z; rw [eav26]; exact ⟨Int.le_refl 0, (by decide : (0 : Int) ≤ 383)⟩) _ _ hP hD hS ls (lv_sub hl [2, 1, 0] rfl)
