/-! 73.lawinit: what the law makes -/
theorem sb_fa58e9b7f3 {G : mf_G} {h1 p1 a1 f1 ae1 : Nat} {x1 : mf_V} {h2 : Nat} {ad2 : Nat → Nat} {x2 : mf_V} {h3 : Nat} {ad3 : Nat → Nat} {x3 : mf_V} {h4 : Nat} {ad4 : Nat → Nat} {x4 : mf_V} : ([0, 1, 2, 3, 4, 5, 6, 7, 8, 9, 10, 11, 12, 13, 14, 15, 16, 17, 18, 19, 20, 21, 22, 23, 24, 25, 26, 27, 28, 29, 30] : List Nat).map (fun i => (OW G h1 p1 a1 f1 ae1 x1 ++ RW G h2 ad2 x2 ++ RW G h3 ad3 x3 ++ FW G h4 ad4 x4)[i]?) = (OW G h1 p1 a1 f1 ae1 x1 ++ RW G h2 ad2 x2 ++ RW G h3 ad3 x3 ++ FW G h4 ad4 x4).map some := rfl
theorem sb_86e20dbd3d {G : mf_G} {h1 p1 a1 f1 ae1 : Nat} {x1 : mf_V} {h2 : Nat} {ad2 : Nat → Nat} {x2 : mf_V} {h3 : Nat} {ad3 : Nat → Nat} {x3 : mf_V} {h4 : Nat} {ad4 : Nat → Nat} {x4 : mf_V} {h5 : Nat} {ad5 : Nat → Nat} {ca5 n5 : Nat} {x5 : mf_V} {h6 : Nat} {x6 : mf_V} : ([0, 1, 2, 3, 4, 5, 6, 7, 8, 9, 10, 11, 12, 13, 14, 15, 16, 17, 18, 19, 20, 21, 22, 23, 24, 25, 26, 27, 28, 29, 30] : List Nat).filterMap (fun i => (OW G h1 p1 a1 f1 ae1 x1 ++ RW G h2 ad2 x2 ++ RW G h3 ad3 x3 ++ FW G h4 ad4 x4 ++ SW G h5 ad5 ca5 n5 x5 ++ AW G h6 2 x6)[i]?) = OW G h1 p1 a1 f1 ae1 x1 ++ RW G h2 ad2 x2 ++ RW G h3 ad3 x3 ++ FW G h4 ad4 x4 := rfl
theorem sb_76d702b023 {G : mf_G} {h1 p1 a1 f1 ae1 : Nat} {x1 : mf_V} {h2 : Nat} {ad2 : Nat → Nat} {x2 : mf_V} {h3 : Nat} {ad3 : Nat → Nat} {x3 : mf_V} {h4 : Nat} {ad4 : Nat → Nat} {x4 : mf_V} {h5 : Nat} {ad5 : Nat → Nat} {ca5 n5 : Nat} {x5 : mf_V} {h6 : Nat} {x6 : mf_V} : ([0, 1, 2, 3, 4, 5, 6, 7, 8, 9, 10, 11, 12, 13, 14, 15, 16, 17, 18, 19, 20, 21, 22, 23, 24, 25, 26, 27, 28, 29, 30] : List Nat).map (fun i => (OW G h1 p1 a1 f1 ae1 x1 ++ RW G h2 ad2 x2 ++ RW G h3 ad3 x3 ++ FW G h4 ad4 x4 ++ SW G h5 ad5 ca5 n5 x5 ++ AW G h6 2 x6)[i]?) = (OW G h1 p1 a1 f1 ae1 x1 ++ RW G h2 ad2 x2 ++ RW G h3 ad3 x3 ++ FW G h4 ad4 x4).map some := rfl
theorem sb_fd81644658 {G : mf_G} {h1 p1 a1 f1 ae1 : Nat} {x1 : mf_V} {h2 : Nat} {ad2 : Nat → Nat} {x2 : mf_V} {h3 : Nat} {ad3 : Nat → Nat} {x3 : mf_V} {h4 : Nat} {ad4 : Nat → Nat} {x4 : mf_V} {h5 : Nat} {ad5 : Nat → Nat} {ca5 n5 : Nat} {x5 : mf_V} {h6 : Nat} {x6 : mf_V} : ([31, 32, 33, 34, 35, 36, 37, 38, 39] : List Nat).map (fun i => (OW G h1 p1 a1 f1 ae1 x1 ++ RW G h2 ad2 x2 ++ RW G h3 ad3 x3 ++ FW G h4 ad4 x4 ++ SW G h5 ad5 ca5 n5 x5 ++ AW G h6 2 x6)[i]?) = (SW G h5 ad5 ca5 n5 x5 ++ AW G h6 2 x6).map some := rfl
theorem sb_6498beb065 {G : mf_G} {h1 : Nat} {ad1 : Nat → Nat} {ca1 n1 : Nat} {x1 : mf_V} {h2 : Nat} {x2 : mf_V} {h3 p3 a3 f3 ae3 : Nat} {x3 : mf_V} {h4 : Nat} {ad4 : Nat → Nat} {x4 : mf_V} {h5 : Nat} {ad5 : Nat → Nat} {x5 : mf_V} {h6 : Nat} {ad6 : Nat → Nat} {x6 : mf_V} : ([9, 10, 11, 12, 13, 14, 15, 16, 17, 18, 19, 20, 21, 22, 23, 24, 25, 26, 27, 28, 29, 30, 31, 32, 33, 34, 35, 36, 37, 38, 39, 0, 1, 2, 3, 4, 5, 6, 7, 8] : List Nat).filterMap (fun i => ((SW G h1 ad1 ca1 n1 x1 ++ AW G h2 2 x2) ++ (OW G h3 p3 a3 f3 ae3 x3 ++ RW G h4 ad4 x4 ++ RW G h5 ad5 x5 ++ FW G h6 ad6 x6))[i]?) = OW G h3 p3 a3 f3 ae3 x3 ++ RW G h4 ad4 x4 ++ RW G h5 ad5 x5 ++ FW G h6 ad6 x6 ++ SW G h1 ad1 ca1 n1 x1 ++ AW G h2 2 x2 := rfl
theorem sb_9499da74b7 {G : mf_G} {h1 : Nat} {ad1 : Nat → Nat} {ca1 n1 : Nat} {x1 : mf_V} {h2 : Nat} {x2 : mf_V} {h3 p3 a3 f3 ae3 : Nat} {x3 : mf_V} {h4 : Nat} {ad4 : Nat → Nat} {x4 : mf_V} {h5 : Nat} {ad5 : Nat → Nat} {x5 : mf_V} {h6 : Nat} {ad6 : Nat → Nat} {x6 : mf_V} : ([9, 10, 11, 12, 13, 14, 15, 16, 17, 18, 19, 20, 21, 22, 23, 24, 25, 26, 27, 28, 29, 30, 31, 32, 33, 34, 35, 36, 37, 38, 39, 0, 1, 2, 3, 4, 5, 6, 7, 8] : List Nat).map (fun i => ((SW G h1 ad1 ca1 n1 x1 ++ AW G h2 2 x2) ++ (OW G h3 p3 a3 f3 ae3 x3 ++ RW G h4 ad4 x4 ++ RW G h5 ad5 x5 ++ FW G h6 ad6 x6))[i]?) = (OW G h3 p3 a3 f3 ae3 x3 ++ RW G h4 ad4 x4 ++ RW G h5 ad5 x5 ++ FW G h6 ad6 x6 ++ SW G h1 ad1 ca1 n1 x1 ++ AW G h2 2 x2).map some := rfl
set_option maxHeartbeats 4000000 in
set_option maxRecDepth 100000 in
theorem law_init {p : Program} {l : Launch} {e : Env} {s : State} {m : MethodId} {below : List Frame} {meth : Method} {c : Code} {Q : State → Prop} {b L : Nat} {xs : Nat → Int32} {G : mf_G} {A : Nat → Prop} (E : LEp p l s m meth c b L xs G A) (hL : L ≤ 260) {ls : Array Slot} (hl : lv_has ls 27 [(0, .ref b)])
    (kk : ∀ (ho pn pa pf ae hm : Nat) (adn ada adf adm : Nat → Nat) (x r ra f u : mf_V) (ca nn : Nat), rOK flo fhi f → f 4 0 = 1 → FInv f → LQs 7 x r ra f nn u → r 8 0 = 0 → ∀ (H : Heap) (locs : List Loc) (ls : Array Slot), va_P G.1 vwCl (OW G ho pn pa pf ae x ++ RW G pn adn r ++ RW G pa ada ra ++ FW G pf adf f ++ SW G hm adm ca nn u) H → va_D A (OW G ho pn pa pf ae x ++ RW G pn adn r ++ RW G pa ada ra ++ FW G pf adf f ++ SW G hm adm ca nn u) → va_S A s.heap H locs → lv_has ls 27 [(0, .ref b), (1, .ref ho), (2, .ref hm), (4, .int (iI (0)))] → W p l e room_1 s m #[Value.ref b] below meth c H locs 200 11000 Q (F0 m 108 ls [])) :
    W p l e room_1 s m #[Value.ref b] below meth c s.heap [] 0 0 Q (F0 m 0 ls []) := by
  obtain ⟨hx, hb, hr, hml, hown, hts, hXs, hbl, hl9, hK, hN, hSX, hCX, hZ, hA, hbA⟩ := E
  have hcR : room_1.cells = 600104 := rfl
  have hsR : room_1.slots = 7301314 := rfl
  have hinX3 := inlX3
  have hinX2 := inlX2
  have hS : va_S A s.heap s.heap [] := va_S.rf
  have hP : va_P G.1 vwCl ([] : va_W) s.heap := fun k q h => by simp at h
  have hD : va_D A ([] : va_W) := ⟨fun i j p q h => by simp at h, fun k q h => by simp at h⟩
  refine va_new (D := G.1) (ci := 2) (fs := [.null, .null, .null, .null]) (C := RX2) (T := TX2) (N := 4) hx hb hts hinX2 tyX2 tyX2_ok hown (hts (.classLink RL 23 RX2) (List.mem_of_getElem? (i := 0) rfl)) (hts (.instantiable RX2 4) (List.mem_of_getElem? (i := 1) rfl)) (hts (.initialized RX2) (List.mem_of_getElem? (i := 2) rfl)) hK hP hD hS hA rfl (fun j hj => by rcases (show j = 0 ∨ j = 1 ∨ j = 2 ∨ j = 3 by omega) with rfl | rfl | rfl | rfl <;> rfl) (Nat.le_of_ble_eq_true rfl) (Nat.le_of_ble_eq_true rfl) dL_law_0 (fun no1 H hP hD hS => ?_)
  have hP : va_P G.1 vwCl (CW no1 2 [.null, .null, .null, .null]) H := hP
  have hD : va_D A (CW no1 2 [.null, .null, .null, .null]) := hD
  refine lv_dup hx hb dL_law_3 rfl ?_
  have hFc := va_free (wc := CW no1 2 [.null, .null, .null, .null]) hD hS hA [0] rfl
  refine va_callv (va_runI (As := []) (rest := [.ref no1]) ⟨hx, hb, hml, hown, hts⟩ (c_X2_init l G no1  _) (cwI 0 hts gL_law_X2_init rfl rfl rfl (hts (.initialized RX2) (List.mem_of_getElem? (i := 2) rfl)) (hts (.methodLink RL 73 yX2_init) (List.mem_of_getElem? (i := 12) rfl)) (hts (.instanceMethod yX2_init) (List.mem_of_getElem? (i := 13) rfl)) rfl (by decide +kernel) ⟨Nat.le_of_ble_eq_true rfl, Nat.le_of_ble_eq_true rfl⟩) (wrS (wc := CW no1 2 [.null, .null, .null, .null]) hK hP hD hN [0] (by decide +kernel) rfl rfl) rfl rfl hl.1 rfl (lv_room (Nat.le_of_ble_eq_true rfl)) dL_law_4 ⟨Nat.le_of_ble_eq_true rfl, Nat.le_of_ble_eq_true rfl⟩) hS (fun q _ h => hFc q h) hFc (fun un t H1 locs ht hvm hw hB hz1 hk1 hS => ?_)
  obtain ⟨ua, ub, uv⟩ := un
  try dsimp only at hw hB
  obtain ⟨hP, hD⟩ := wrJ (ws := CW no1 2 [.null, .null, .null, .null]) (w1 := OW G no1 (ua 0) (ua 1) (ua 2) (ua 3) (uv 3) ++ RW G (ua 0) (ub 0) (uv 0) ++ RW G (ua 1) (ub 1) (uv 1) ++ FW G (ua 2) (ub 2) (uv 2)) ht hFc hB
  obtain ⟨pn, pa, pf, ae, adn, ada, adf, x, r, ra, f, hP, hD, ⟨ok, hI, hin9⟩, okra, ⟨okf, hf40⟩, okx⟩ : ∃ (pn pa pf ae : Nat) (adn ada adf : Nat → Nat) (x r ra f : mf_V), va_P G.1 vwCl (OW G no1 pn pa pf ae x ++ RW G pn adn r ++ RW G pa ada ra ++ FW G pf adf f) H1 ∧ va_D A (OW G no1 pn pa pf ae x ++ RW G pn adn r ++ RW G pa ada ra ++ FW G pf adf f) ∧ (rOK rlo rhi r ∧ RInv r ∧ initR r) ∧ rOK rlo rhi ra ∧ (rOK flo fhi f ∧ f 4 0 = 0) ∧ rOK xlo xhi x := ⟨_, _, _, _, _, _, _, _, _, _, _, hP, hD, hw.1, hw.2.1.1, hw.2.2.1, hw.2.2.2⟩
  clear hB hk1 hFc ht hz1 hvm hw
  generalize H1 = H at hP hS ⊢
  refine lv_astore_n (lv' := [(1, .ref no1), (0, .ref b)]) hx hb dL_law_7 rfl hl (by decide) rfl (fun ls hl => ?_)
  refine lv_aload_n hx hb dL_law_8 rfl (lv_at hl 0 rfl) ?_
  refine lv_aload_n hx hb dL_law_9 rfl (lv_at hl 1 rfl) ?_
  have hFc := va_free (wc := OW G no1 pn pa pf ae x ++ RW G pn adn r ++ RW G pa ada ra ++ FW G pf adf f) hD hS hA [0, 1, 2, 3, 4, 5, 6, 7, 8, 9, 10, 11, 12, 13, 14, 15, 16, 17, 18, 19, 20, 21, 22, 23, 24, 25, 26, 27, 28, 29, 30] sb_fa58e9b7f3
  refine va_callr (va_runS (As := [.ref no1, .ref b]) (rest := []) ⟨hx, hb, hml, hown, hts⟩ (c_L_build l hl9 G b L xs hL no1 pn pa pf ae x adn r ada ra adf f (by assumption) (by assumption) (by assumption) (by assumption) (by first | assumption | omega) (by first | assumption | omega) _) (va_cwS 2 hts gL_law_L_build rfl rfl rfl (by decide +kernel) ⟨Nat.le_of_ble_eq_true rfl, Nat.le_of_ble_eq_true rfl⟩) (wrSs (wc := OW G no1 pn pa pf ae x ++ RW G pn adn r ++ RW G pa ada ra ++ FW G pf adf f) hSX hCX hZ hS hFc hXs hbl hbA hK hP hD hN [0, 1, 2, 3, 4, 5, 6, 7, 8, 9, 10, 11, 12, 13, 14, 15, 16, 17, 18, 19, 20, 21, 22, 23, 24, 25, 26, 27, 28, 29, 30] (by decide +kernel) sb_def95aa3f3 sb_fa58e9b7f3) rfl rfl hl.1 rfl (lv_room (Nat.le_of_ble_eq_true rfl)) dL_law_10 ⟨(by rw [hcR]; omega), (by rw [hsR]; omega)⟩) hS (fun q _ h => hFc q h) hFc (fun u3 q2 t H1 locs ht hvm hw hB hz1 hk1 hS => ?_)
  obtain ⟨xi, ri, rai, fi, adm, cam, nnm, um⟩ := u3
  try dsimp only at hw hB
  obtain ⟨hP, hD⟩ := wrJ (ws := OW G no1 pn pa pf ae x ++ RW G pn adn r ++ RW G pa ada ra ++ FW G pf adf f) (w1 := OW G no1 pn pa pf ae xi ++ RW G pn adn ri ++ RW G pa ada rai ++ FW G pf adf fi ++ SW G q2 adm cam nnm um) ht hFc hB
  have hP : va_P G.1 vwCl (OW G no1 pn pa pf ae xi ++ RW G pn adn ri ++ RW G pa ada rai ++ FW G pf adf fi ++ SW G q2 adm cam nnm um) H1 := hP
  have hD : va_D A (OW G no1 pn pa pf ae xi ++ RW G pn adn ri ++ RW G pa ada rai ++ FW G pf adf fi ++ SW G q2 adm cam nnm um) := hD
  clear hB hk1 hFc ht hz1 hvm
  generalize H1 = H at hP hS ⊢
  have hwb := hw; clear hw
  obtain ⟨hLb, hfe, h80⟩ := hwb
  have hfe := hfe.symm
  subst hfe
  obtain ⟨⟨okxi, okri, okrai, okfi⟩, hPIi, hBi, okum, hrelm⟩ := id hLb
  skip
  refine lv_astore_n (lv' := [(2, .ref q2), (1, .ref no1), (0, .ref b)]) hx hb dL_law_13 rfl hl (by decide) rfl (fun ls hl => ?_)
  refine lv_aload_n hx hb dL_law_14 rfl (lv_at hl 0 rfl) ?_
  refine lv_ifnonnull (tgt := 20) hx hb dL_law_15 (by decide) ?_
  refine mf_iconst hx hb dL_law_20 ?_
  refine mf_newi hx hb (hts (.arrayClass .int) (List.mem_of_getElem? (i := 3) rfl)) hK hP hD hS hA (n := 2) (N := 2) rfl (Nat.le_of_ble_eq_true rfl) (Nat.le_of_ble_eq_true rfl) (Nat.le_of_ble_eq_true rfl) dL_law_21 (fun na4 H hP hD hS => ?_)
  obtain ⟨av5, eav5⟩ : ∃ z9 : mf_V, z9 = fun _ _ => 0 := ⟨_, rfl⟩
  have hP : va_P G.1 vwCl (OW G no1 pn pa pf ae xi ++ RW G pn adn ri ++ RW G pa ada rai ++ FW G pf adf f ++ SW G q2 adm cam nnm um ++ AW G na4 2 av5) H := by rw [eav5]; exact hP
  have hD : va_D A (OW G no1 pn pa pf ae xi ++ RW G pn adn ri ++ RW G pa ada rai ++ FW G pf adf f ++ SW G q2 adm cam nnm um ++ AW G na4 2 av5) := by rw [eav5]; exact hD
  refine lv_dup hx hb dL_law_23 rfl ?_
  refine mf_iconst hx hb dL_law_24 ?_
  refine lv_aload_n hx hb dL_law_25 rfl (lv_at hl 2 rfl) ?_
  refine mf_bipush hx hb dL_law_26 rfl ?_
  refine vp_callSi (va_Run.run (va_runS (As := [.ref b, .int (iI (13))]) (rest := [.int (iI (0)), .ref na4, .ref na4]) ⟨hx, hb, hml, hown, hts⟩ (c_L_cell l b L xs hL (13) (i32_mk (by decide) (by decide)) (by first | assumption | omega)) (va_cwS 2 hts gL_law_L_cell rfl rfl rfl (by decide +kernel) ⟨Nat.le_of_ble_eq_true rfl, Nat.le_of_ble_eq_true rfl⟩) (scrS hXs hbl hbA hS) rfl rfl hl.1 rfl (lv_room (Nat.le_of_ble_eq_true rfl)) dL_law_28 ⟨(by rw [hcR]; omega), (by rw [hsR]; omega)⟩)) (fun q6 hq6 => ?_)
  obtain ⟨z7, rfl, w8⟩ := hq6
  refine mf_bipush hx hb dL_law_31 rfl ?_
  refine vp_callSi (va_Run.run (va_runS (As := [.int (iI (z7)), .int (iI (24))]) (rest := [.int (iI (0)), .ref na4, .ref na4]) ⟨hx, hb, hml, hown, hts⟩ (c_L_below l (z7) (24) (i32_mk (by omega) (by omega)) (i32_mk (by decide) (by decide)) (by first | assumption | omega)) (va_cwS 2 hts gL_law_L_below rfl rfl rfl (by decide +kernel) ⟨Nat.le_of_ble_eq_true rfl, Nat.le_of_ble_eq_true rfl⟩) pureS rfl rfl hl.1 rfl (lv_room (Nat.le_of_ble_eq_true rfl)) dL_law_33 ⟨(by rw [hcR]; omega), (by rw [hsR]; omega)⟩)) (fun q9 hq9 => ?_)
  obtain ⟨z10, rfl, w11⟩ := hq9
  refine mf_iast (n := 2) (f := av5 0) hx hb hK hP hD hS 39 0 rfl rfl (z := 0) (x := z10) (by omega) (by omega) (by first | decide | omega) dL_law_36 (fun H locs hP hD hS => ?_)
  obtain ⟨av12, eav12⟩ : ∃ z9 : mf_V, z9 = mf_sF av5 0 (mf_up (av5 0) (0) (z10)) := ⟨_, rfl⟩
  have hP : va_P G.1 vwCl (OW G no1 pn pa pf ae xi ++ RW G pn adn ri ++ RW G pa ada rai ++ FW G pf adf f ++ SW G q2 adm cam nnm um ++ AW G na4 2 av12) H := by rw [eav12]; exact hP
  have hD : va_D A (OW G no1 pn pa pf ae xi ++ RW G pn adn ri ++ RW G pa ada rai ++ FW G pf adf f ++ SW G q2 adm cam nnm um ++ AW G na4 2 av12) := by rw [eav12]; exact hD
  have f1_av12 : av12 0 (0) = z10 := by rw [eav12, mf_sF_s, mf_up_s]
  have f2_av12 : ∀ y, y ≠ (0) → av12 0 y = av5 0 y := fun y hy => by rw [eav12, mf_sF_s, mf_up_n hy]
  have f3_av12 : ∀ q, q ≠ 0 → av12 q = av5 q := fun q hq => by rw [eav12, mf_sF_n hq]
  refine lv_dup hx hb dL_law_37 rfl ?_
  refine mf_iconst hx hb dL_law_38 ?_
  refine lv_aload_n hx hb dL_law_39 rfl (lv_at hl 2 rfl) ?_
  refine mf_bipush hx hb dL_law_40 rfl ?_
  refine vp_callSi (va_Run.run (va_runS (As := [.ref b, .int (iI (14))]) (rest := [.int (iI (1)), .ref na4, .ref na4]) ⟨hx, hb, hml, hown, hts⟩ (c_L_cell l b L xs hL (14) (i32_mk (by decide) (by decide)) (by first | assumption | omega)) (va_cwS 2 hts gL_law_L_cell rfl rfl rfl (by decide +kernel) ⟨Nat.le_of_ble_eq_true rfl, Nat.le_of_ble_eq_true rfl⟩) (scrS hXs hbl hbA hS) rfl rfl hl.1 rfl (lv_room (Nat.le_of_ble_eq_true rfl)) dL_law_42 ⟨(by rw [hcR]; omega), (by rw [hsR]; omega)⟩)) (fun q13 hq13 => ?_)
  obtain ⟨z14, rfl, w15⟩ := hq13
  refine mf_bipush hx hb dL_law_45 rfl ?_
  refine vp_callSi (va_Run.run (va_runS (As := [.int (iI (z14)), .int (iI (16))]) (rest := [.int (iI (1)), .ref na4, .ref na4]) ⟨hx, hb, hml, hown, hts⟩ (c_L_below l (z14) (16) (i32_mk (by omega) (by omega)) (i32_mk (by decide) (by decide)) (by first | assumption | omega)) (va_cwS 2 hts gL_law_L_below rfl rfl rfl (by decide +kernel) ⟨Nat.le_of_ble_eq_true rfl, Nat.le_of_ble_eq_true rfl⟩) pureS rfl rfl hl.1 rfl (lv_room (Nat.le_of_ble_eq_true rfl)) dL_law_47 ⟨(by rw [hcR]; omega), (by rw [hsR]; omega)⟩)) (fun q16 hq16 => ?_)
  obtain ⟨z17, rfl, w18⟩ := hq16
  refine mf_iast (n := 2) (f := av12 0) hx hb hK hP hD hS 39 0 rfl rfl (z := 1) (x := z17) (by omega) (by omega) (by first | decide | omega) dL_law_50 (fun H locs hP hD hS => ?_)
  obtain ⟨av19, eav19⟩ : ∃ z9 : mf_V, z9 = mf_sF av12 0 (mf_up (av12 0) (1) (z17)) := ⟨_, rfl⟩
  have hP : va_P G.1 vwCl (OW G no1 pn pa pf ae xi ++ RW G pn adn ri ++ RW G pa ada rai ++ FW G pf adf f ++ SW G q2 adm cam nnm um ++ AW G na4 2 av19) H := by rw [eav19]; exact hP
  have hD : va_D A (OW G no1 pn pa pf ae xi ++ RW G pn adn ri ++ RW G pa ada rai ++ FW G pf adf f ++ SW G q2 adm cam nnm um ++ AW G na4 2 av19) := by rw [eav19]; exact hD
  have f1_av19 : av19 0 (1) = z17 := by rw [eav19, mf_sF_s, mf_up_s]
  have f2_av19 : ∀ y, y ≠ (1) → av19 0 y = av12 0 y := fun y hy => by rw [eav19, mf_sF_s, mf_up_n hy]
  have f3_av19 : ∀ q, q ≠ 0 → av19 q = av12 q := fun q hq => by rw [eav19, mf_sF_n hq]
  refine lv_astore_n (lv' := [(3, .ref na4), (2, .ref q2), (1, .ref no1), (0, .ref b)]) hx hb dL_law_51 rfl hl (by decide) rfl (fun ls hl => ?_)
  refine lv_aload_n hx hb dL_law_52 rfl (lv_at hl 2 rfl) ?_
  refine lv_aload_n hx hb dL_law_53 rfl (lv_at hl 0 rfl) ?_
  refine mf_iconst hx hb dL_law_54 ?_
  refine mf_iald (n := 2) (f := av19 0) hx hb hK hP 39 0 rfl rfl (z := 0) (by omega) (by omega) (by first | decide | omega) dL_law_55 ?_
  refine mf_top (av19 0 0) (z10) (by rw [f2_av19 0 (by decide), f1_av12]) ?_
  refine lv_aload_n hx hb dL_law_56 rfl (lv_at hl 0 rfl) ?_
  refine mf_iconst hx hb dL_law_57 ?_
  refine mf_iald (n := 2) (f := av19 0) hx hb hK hP 39 0 rfl rfl (z := 1) (by omega) (by omega) (by first | decide | omega) dL_law_58 ?_
  refine mf_top (av19 0 1) (z17) (by rw [f1_av19]) ?_
  refine mf_iconst hx hb dL_law_59 ?_
  refine lv_aload_n hx hb dL_law_60 rfl (lv_at hl 3 rfl) ?_
  refine mf_bipush hx hb dL_law_61 rfl ?_
  refine vp_callSi (va_Run.run (va_runS (As := [.ref b, .int (iI (13))]) (rest := [.int (iI (1)), .int (iI (z17)), .int (iI (z10)), .ref no1]) ⟨hx, hb, hml, hown, hts⟩ (c_L_cell l b L xs hL (13) (i32_mk (by decide) (by decide)) (by first | assumption | omega)) (va_cwS 2 hts gL_law_L_cell rfl rfl rfl (by decide +kernel) ⟨Nat.le_of_ble_eq_true rfl, Nat.le_of_ble_eq_true rfl⟩) (scrS hXs hbl hbA hS) rfl rfl hl.1 rfl (lv_room (Nat.le_of_ble_eq_true rfl)) dL_law_63 ⟨(by rw [hcR]; omega), (by rw [hsR]; omega)⟩)) (fun q20 hq20 => ?_)
  obtain ⟨z21, rfl, w22⟩ := hq20
  refine mf_iconst hx hb dL_law_66 ?_
  refine lv_ishr hx hb dL_law_67 ?_
  refine mf_nmw (fun y23 by23 => ?_)
  refine mf_bipush hx hb dL_law_68 rfl ?_
  refine lv_aload_n hx hb dL_law_70 rfl (lv_at hl 0 rfl) ?_
  refine mf_iconst hx hb dL_law_71 ?_
  refine mf_iald (n := 2) (f := av19 0) hx hb hK hP 39 0 rfl rfl (z := 0) (by omega) (by omega) (by first | decide | omega) dL_law_72 ?_
  refine mf_top (av19 0 0) (z10) (by rw [f2_av19 0 (by decide), f1_av12]) ?_
  refine mf_isub hx hb dL_law_73 ?_
  refine vp_callSi (va_Run.run (va_runS (As := [.int (iI (y23)), .int (iI (24 - z10))]) (rest := [.int (iI (1)), .int (iI (z17)), .int (iI (z10)), .ref no1]) ⟨hx, hb, hml, hown, hts⟩ (c_L_below l (y23) (24 - z10) (i32_mk (by omega) (by omega)) (i32_mk (by omega) (by omega)) (by first | assumption | omega)) (va_cwS 2 hts gL_law_L_below rfl rfl rfl (by decide +kernel) ⟨Nat.le_of_ble_eq_true rfl, Nat.le_of_ble_eq_true rfl⟩) pureS rfl rfl hl.1 rfl (lv_room (Nat.le_of_ble_eq_true rfl)) dL_law_74 ⟨(by rw [hcR]; omega), (by rw [hsR]; omega)⟩)) (fun q24 hq24 => ?_)
  obtain ⟨z25, rfl, w26⟩ := hq24
  refine mf_iadd hx hb dL_law_77 ?_
  refine mf_iconst hx hb dL_law_78 ?_
  refine lv_aload_n hx hb dL_law_79 rfl (lv_at hl 3 rfl) ?_
  refine mf_bipush hx hb dL_law_80 rfl ?_
  refine vp_callSi (va_Run.run (va_runS (As := [.ref b, .int (iI (14))]) (rest := [.int (iI (1)), .int (iI (1 + z25)), .int (iI (z17)), .int (iI (z10)), .ref no1]) ⟨hx, hb, hml, hown, hts⟩ (c_L_cell l b L xs hL (14) (i32_mk (by decide) (by decide)) (by first | assumption | omega)) (va_cwS 2 hts gL_law_L_cell rfl rfl rfl (by decide +kernel) ⟨Nat.le_of_ble_eq_true rfl, Nat.le_of_ble_eq_true rfl⟩) (scrS hXs hbl hbA hS) rfl rfl hl.1 rfl (lv_room (Nat.le_of_ble_eq_true rfl)) dL_law_82 ⟨(by rw [hcR]; omega), (by rw [hsR]; omega)⟩)) (fun q27 hq27 => ?_)
  obtain ⟨z28, rfl, w29⟩ := hq27
  refine mf_iconst hx hb dL_law_85 ?_
  refine lv_ishr hx hb dL_law_86 ?_
  refine mf_nmw (fun y30 by30 => ?_)
  refine mf_bipush hx hb dL_law_87 rfl ?_
  refine lv_aload_n hx hb dL_law_89 rfl (lv_at hl 0 rfl) ?_
  refine mf_iconst hx hb dL_law_90 ?_
  refine mf_iald (n := 2) (f := av19 0) hx hb hK hP 39 0 rfl rfl (z := 1) (by omega) (by omega) (by first | decide | omega) dL_law_91 ?_
  refine mf_top (av19 0 1) (z17) (by rw [f1_av19]) ?_
  refine mf_isub hx hb dL_law_92 ?_
  refine vp_callSi (va_Run.run (va_runS (As := [.int (iI (y30)), .int (iI (16 - z17))]) (rest := [.int (iI (1)), .int (iI (1 + z25)), .int (iI (z17)), .int (iI (z10)), .ref no1]) ⟨hx, hb, hml, hown, hts⟩ (c_L_below l (y30) (16 - z17) (i32_mk (by omega) (by omega)) (i32_mk (by omega) (by omega)) (by first | assumption | omega)) (va_cwS 2 hts gL_law_L_below rfl rfl rfl (by decide +kernel) ⟨Nat.le_of_ble_eq_true rfl, Nat.le_of_ble_eq_true rfl⟩) pureS rfl rfl hl.1 rfl (lv_room (Nat.le_of_ble_eq_true rfl)) dL_law_93 ⟨(by rw [hcR]; omega), (by rw [hsR]; omega)⟩)) (fun q31 hq31 => ?_)
  obtain ⟨z32, rfl, w33⟩ := hq31
  refine mf_iadd hx hb dL_law_96 ?_
  have hk0 : kAdd f z10 z17 (1 + z25) (1 + z32) = 0 := by exact (mf_if_f (fun q => q ⟨⟨⟨by omega, by omega⟩, by omega, by omega⟩, ⟨by omega, by omega⟩, by omega, by omega⟩)).trans (mf_if_f (by omega))
  have hFc := va_free (wc := OW G no1 pn pa pf ae xi ++ RW G pn adn ri ++ RW G pa ada rai ++ FW G pf adf f) hD hS hA [0, 1, 2, 3, 4, 5, 6, 7, 8, 9, 10, 11, 12, 13, 14, 15, 16, 17, 18, 19, 20, 21, 22, 23, 24, 25, 26, 27, 28, 29, 30] sb_76d702b023
  refine vx_calli (vx_runV (As := [.int (iI (z10)), .int (iI (z17)), .int (iI (1 + z25)), .int (iI (1 + z32))]) (rest := []) ⟨hx, hb, hml, hown, hts⟩ (c_X2_addFarm l hl9 G no1 pn pa pf ae xi adn ri ada rai adf f (z10) (z17) (1 + z25) (1 + z32) (i32_mk (by omega) (by omega)) (i32_mk (by omega) (by omega)) (i32_mk (by omega) (by omega)) (i32_mk (by omega) (by omega)) (by assumption) (by assumption) (by assumption) (by assumption) _) (cwV 4 hts gL_law_X2_addFarm rfl rfl rfl (by decide +kernel) ⟨Nat.le_of_ble_eq_true rfl, Nat.le_of_ble_eq_true rfl⟩) (wrVx (wc := OW G no1 pn pa pf ae xi ++ RW G pn adn ri ++ RW G pa ada rai ++ FW G pf adf f) hSX hCX hZ hS hFc hK hP hD hN [0, 1, 2, 3, 4, 5, 6, 7, 8, 9, 10, 11, 12, 13, 14, 15, 16, 17, 18, 19, 20, 21, 22, 23, 24, 25, 26, 27, 28, 29, 30] (by decide +kernel) sb_86e20dbd3d sb_76d702b023 (ci := 2) rfl rfl) rfl rfl hl.1 rfl (lv_room (Nat.le_of_ble_eq_true rfl)) dL_law_97 ⟨Nat.le_of_ble_eq_true rfl, Nat.le_of_ble_eq_true rfl⟩) hS (fun q _ h => hFc q h) hFc (fun q _ h => hFc q h) (fun E ce q9 _ t H1 locs ht hvm _ hB hz1 hk1 hS hce hcv hcl => ?_) (fun q34 u35 t H1 locs ht hvm hw hB hz1 hk1 hS => ?_)
  · exfalso
    have hx9 := hB.1
    rcases hx9 with ⟨-, hk9⟩ | ⟨-, hk9⟩ <;> omega
  obtain ⟨xi36, ri37, rai38, f39⟩ := u35
  try dsimp only at hw hB
  obtain ⟨hP, hD⟩ := wrJ2 (ws := OW G no1 pn pa pf ae xi ++ RW G pn adn ri ++ RW G pa ada rai ++ FW G pf adf f ++ SW G q2 adm cam nnm um ++ AW G na4 2 av19) (wc := OW G no1 pn pa pf ae xi ++ RW G pn adn ri ++ RW G pa ada rai ++ FW G pf adf f) (wr := SW G q2 adm cam nnm um ++ AW G na4 2 av19) (w1 := OW G no1 pn pa pf ae xi36 ++ RW G pn adn ri37 ++ RW G pa ada rai38 ++ FW G pf adf f39) hP hD [0, 1, 2, 3, 4, 5, 6, 7, 8, 9, 10, 11, 12, 13, 14, 15, 16, 17, 18, 19, 20, 21, 22, 23, 24, 25, 26, 27, 28, 29, 30] [31, 32, 33, 34, 35, 36, 37, 38, 39] sb_76d702b023 sb_fd81644658 (by decide +kernel) (by decide +kernel) hk1 ht hFc hB
  have hP : va_P G.1 vwCl (OW G no1 pn pa pf ae xi36 ++ RW G pn adn ri37 ++ RW G pa ada rai38 ++ FW G pf adf f39 ++ SW G q2 adm cam nnm um ++ AW G na4 2 av19) H1 := hP.sub [9, 10, 11, 12, 13, 14, 15, 16, 17, 18, 19, 20, 21, 22, 23, 24, 25, 26, 27, 28, 29, 30, 31, 32, 33, 34, 35, 36, 37, 38, 39, 0, 1, 2, 3, 4, 5, 6, 7, 8] sb_6498beb065
  have hD : va_D A (OW G no1 pn pa pf ae xi36 ++ RW G pn adn ri37 ++ RW G pa ada rai38 ++ FW G pf adf f39 ++ SW G q2 adm cam nnm um ++ AW G na4 2 av19) := hD.sub [9, 10, 11, 12, 13, 14, 15, 16, 17, 18, 19, 20, 21, 22, 23, 24, 25, 26, 27, 28, 29, 30, 31, 32, 33, 34, 35, 36, 37, 38, 39, 0, 1, 2, 3, 4, 5, 6, 7, 8] (by decide +kernel) sb_9499da74b7
  clear hB hk1 hFc ht hz1 hvm hk0
  generalize H1 = H at hP hS ⊢
  obtain ⟨z40, rfl, -, ⟨okxi36, okri37, okrai38, okf39⟩, w42, w43, w44⟩ := hw
  have w43 := w43.symm
  subst w43
  subst w44
  refine mf_if_eq (tgt := 105) hx hb dL_law_100 (by decide) (i32_mk (by omega) (by omega)) (fun c45 => ?_) (fun c45 => ?_)
  · skip
    refine mf_iconst hx hb dL_law_105 ?_
    refine lv_istore (lv' := [(4, .int (iI (0))), (3, .ref na4), (2, .ref q2), (1, .ref no1), (0, .ref b)]) hx hb dL_law_106 hl (by decide) rfl (fun ls hl => ?_)
    have hP : va_P G.1 vwCl (OW G no1 pn pa pf ae xi36 ++ RW G pn adn ri ++ RW G pa ada rai38 ++ FW G pf adf f39 ++ SW G q2 adm cam nnm um) H := hP.sub [0, 1, 2, 3, 4, 5, 6, 7, 8, 9, 10, 11, 12, 13, 14, 15, 16, 17, 18, 19, 20, 21, 22, 23, 24, 25, 26, 27, 28, 29, 30, 31, 32, 33, 34, 35, 36, 37, 38] rfl
    have hD : va_D A (OW G no1 pn pa pf ae xi36 ++ RW G pn adn ri ++ RW G pa ada rai38 ++ FW G pf adf f39 ++ SW G q2 adm cam nnm um) := hD.sub [0, 1, 2, 3, 4, 5, 6, 7, 8, 9, 10, 11, 12, 13, 14, 15, 16, 17, 18, 19, 20, 21, 22, 23, 24, 25, 26, 27, 28, 29, 30, 31, 32, 33, 34, 35, 36, 37, 38] (by decide +kernel) rfl
    refine W.widen (k := 200) (n := 11000) (Nat.le_of_ble_eq_true rfl) (Nat.le_of_ble_eq_true rfl) ?_
    obtain ⟨a0, a1, a2, a3, a4⟩ := w42
    rw [hf40] at a0 a1 a2 a3 a4
    have hF1 : FInv f39 := fun k k0 k1 => by
      rw [a4] at k1
      have k9 : k = 0 := by omega
      rw [k9, a0, a1, a2, a3, mf_up_s, mf_up_s, mf_up_s, mf_up_s]
      omega
    exact kk no1 pn pa pf ae q2 adn ada adf adm xi36 ri rai38 f39 um cam nnm okf39 a4 hF1 ⟨⟨okxi36, hLb.1.2.1, okrai38, okf39⟩, hLb.2⟩ h80 H locs ls hP hD hS (lv_sub hl [4, 3, 2, 0] rfl)
  · skip
    exfalso; omega
