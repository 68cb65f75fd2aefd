/-! 16.bulge: bulge -/
set_option maxHeartbeats 4000000 in
set_option maxRecDepth 100000 in
theorem c_X1_bulge (l : Launch) (G : mf_G) (h : Nat) (ad : Nat → Nat) (r : mf_V)  (iv : Int) (sv : Int) (hiv : i32 iv) (hsv : i32 sv) (ok : rOK rlo rhi r) (hI : RInv r) (hcan : canB r iv sv) (sz : Nat) : Met l yX1_bulge wsX1_bulge ({ frames := 3, cells := 0, slots := 0, locals := 68 }) (va_Pc [.ref h, .int (iI (iv)), .int (iI (sv))] (WrP G (RW G h ad r) sz)) (va_Qv (fun (r' : mf_V) => rOK rlo rhi r' ∧ Bul r iv sv r' ∧ RInv r') (fun (r' : mf_V) t => WrQ G (va_A (RW G h ad r) sz) (RW G h ad r') t) (va_A (RW G h ad r) sz)) 0 0 (va_A (RW G h ad r) sz) := by
  refine Met.ofW (cc := cX1_bulge) (maxL := 7) (ret := none) (by decide) rfl ?_
  intro p e s m args below meth c s₁ B hml hv
  obtain ⟨rfl, hsz, hP, hK, hD0, hN⟩ := hv
  have hx := B.exec
  have hb := B.bytes
  have hr := B.returns
  have hts := atoms_spec (ws := wsX1_bulge) B.pre
  have hown : s.vm.findClass RX1 = some m.cls := findClass_of_methodNamed B.named
  have hlocks := B.notSynchronized
  have hinX1 : ∀ w ∈ u_ws RX1 TX1 14, w ∈ wsX1_bulge := fun w h => List.mem_cons_of_mem _ (List.mem_append_right _ h)
  subst hsz
  have hD := hD0.self (sz := s.heap.size)
  generalize hAe : va_A (RW G h ad r) s.heap.size = A at hD ⊢
  have hA : ∀ q : Nat, s.heap.size ≤ q → A q := fun q h => by rw [← hAe]; exact Or.inr h
  have hS : va_S A s.heap s.heap [] := va_S.rf
  have hl := lv_entry ([.ref h, .int (iI (iv)), .int (iI (sv))]) (n := 7) (Nat.le_of_ble_eq_true rfl)
  rw [lg_entry_eq]
  generalize (lg_sl ([.ref h, .int (iI (iv)), .int (iI (sv))]) ++ List.replicate (7 - (lg_sl ([.ref h, .int (iI (iv)), .int (iI (sv))])).length) Slot.unset).toArray = ls at hl ⊢
  have hl : lv_has ls 7 [(0, .ref h), (1, .int (iI (iv))), (2, .int (iI (sv)))] := hl
  have hiv1 := hiv.1
  have hiv2 := hiv.2
  have hsv1 := hsv.1
  have hsv2 := hsv.2
  have okLr : (0 : Int) ≤ r 7 0 ∧ r 7 0 ≤ 150 := ok 7 0
  obtain ⟨⟨i0, i1, i2⟩, hl2, ⟨t0, t1⟩, hop⟩ := canB_w okLr.2 hcan
  have hdirE := (dLast hI.1 hI.2.1).2
  have hdirB : ∀ j, strP r j → 0 ≤ r 11 j := fun j hj => by have a := hdirE j (by have := hj.1; omega) (by have := hj.2.1; omega); have b : (-1 : Int) ≤ r 11 j ∧ r 11 j ≤ 3 := ok 11 j; omega
  have ho1 := hop (iv - 1) (by omega) (by omega)
  have ho2 := hop iv (by omega) (by omega)
  have ho3 := hop (iv + 1) (by omega) (by omega)
  refine lv_aload_n hx hb dX1_bulge_0 rfl (lv_at hl 0 rfl) ?_
  refine lv_iload_n hx hb dX1_bulge_1 rfl (lv_at hl 1 rfl) ?_
  refine lv_iload_n hx hb dX1_bulge_2 rfl (lv_at hl 2 rfl) ?_
  refine vp_callSi (va_Run.run (va_runV (As := [.int (iI (iv)), .int (iI (sv))]) (rest := []) ⟨hx, hb, hml, hown, hts⟩ (c_X1_canBulge l G h ad r (iv) (sv) (i32_mk (by omega) (by omega)) (i32_mk (by omega) (by omega)) (by assumption) (by exact hdirB)) (cwV 2 hts gX1_bulge_X1_canBulge rfl rfl rfl (by decide +kernel) ⟨Nat.le_of_ble_eq_true rfl, Nat.le_of_ble_eq_true rfl⟩) (rdV (wc := RW G h ad r) hK hP hN [0, 1, 2, 3, 4, 5, 6, 7, 8, 9, 10, 11] rfl (ci := 1) rfl rfl) rfl rfl hl.1 rfl (lv_room (Nat.le_of_ble_eq_true rfl)) dX1_bulge_3 ⟨(Nat.zero_le _), (Nat.zero_le _)⟩)) (fun q1 hq1 => ?_)
  subst hq1
  refine mf_bp_ne (tgt := 10) hx hb dX1_bulge_6 (by decide) (fun c2 => ?_) (fun c2 => ?_)
  · skip
    refine lv_aload_n hx hb dX1_bulge_10 rfl (lv_at hl 0 rfl) ?_
    refine lv_iload_n hx hb dX1_bulge_11 rfl (lv_at hl 1 rfl) ?_
    refine vp_callSi (va_Run.run (va_runV (As := [.int (iI (iv))]) (rest := []) ⟨hx, hb, hml, hown, hts⟩ (c_X1_cellAt l G h ad r (iv) (i32_mk (by omega) (by omega)) (by assumption)) (cwV 1 hts gX1_bulge_X1_cellAt rfl rfl rfl (by decide +kernel) ⟨Nat.le_of_ble_eq_true rfl, Nat.le_of_ble_eq_true rfl⟩) (rdV (wc := RW G h ad r) hK hP hN [0, 1, 2, 3, 4, 5, 6, 7, 8, 9, 10, 11] rfl (ci := 1) rfl rfl) rfl rfl hl.1 rfl (lv_room (Nat.le_of_ble_eq_true rfl)) dX1_bulge_12 ⟨(Nat.zero_le _), (Nat.zero_le _)⟩)) (fun q3 hq3 => ?_)
    subst hq3
    refine mf_nm (fun y4 ey4 => ?_)
    have b5 : -1 ≤ y4 ∧ y4 ≤ 383 := by rw [ey4]; exact cellAtF_b (by assumption) iv
    refine mf_top (y4) (r 6 iv) (by rw [ey4, cellAtF_in (by omega) (by omega)]) ?_
    have bl : (0 : Int) ≤ r 6 iv ∧ r 6 iv ≤ 383 := ok 6 iv
    skip
    refine lv_istore_n (lv' := [(3, .int (iI (r 6 iv))), (0, .ref h), (1, .int (iI (iv))), (2, .int (iI (sv)))]) hx hb dX1_bulge_15 rfl hl (by decide) rfl (fun ls hl => ?_)
    refine lv_iload_n hx hb dX1_bulge_16 rfl (lv_at hl 0 rfl) ?_
    refine vp_callSi (va_Run.run (va_runSN (As := [.int (iI (r 6 iv))]) (rest := []) ⟨hx, hb, hml, hown, hts⟩ (c_X2_isCell l (r 6 iv) (i32_mk (by omega) (by omega))) ⟨(va_cnB 1 hts gX1_bulge_X2_isCell_n70 rfl rfl rfl (hN.m 27 rfl) (hts (.initialized RX2) (List.mem_of_getElem? (i := 27) rfl)) (by decide +kernel) ⟨Nat.le_of_ble_eq_true rfl, Nat.le_of_ble_eq_true rfl⟩), (hts (.static yX2_isCell) (List.mem_of_getElem? (i := 34) rfl)), trivial⟩ pureS rfl rfl hl.1 rfl (lv_room (Nat.le_of_ble_eq_true rfl)) dX1_bulge_17 ⟨(Nat.zero_le _), (Nat.zero_le _)⟩)) (fun q6 hq6 => ?_)
    subst hq6
    refine mf_bp_eq (tgt := 30) hx hb dX1_bulge_20 (by decide) (fun c7 => ?_) (fun c7 => ?_)
    · skip
      exact absurd (And.intro (by omega) (by omega)) c7
    · skip
      refine lv_aload_n hx hb dX1_bulge_23 rfl (lv_at hl 1 rfl) ?_
      refine va_get (D := G.1) (ci := 1) (v := .ref (ad 10)) (C := RX1) (T := TX1) (N := 14) hx hb hts hinX1 hown hK hP 0 rfl rfl 10 (by decide) (hts (.fieldLink RX1 34 "MeanderFarm$River" "place" "[I") (List.mem_of_getElem? (i := 1) rfl)) (fun _ h9 => h9) rfl dX1_bulge_24 ?_
      refine lv_iload_n hx hb dX1_bulge_27 rfl (lv_at hl 0 rfl) ?_
      refine mf_iconst hx hb dX1_bulge_28 ?_
      refine mf_iast (n := 384) (f := r 10) hx hb hK hP hD hS 8 0 rfl rfl (z := r 6 iv) (x := (-1)) (by omega) (by omega) (by decide) dX1_bulge_29 (fun H locs hP hD hS => ?_)
      obtain ⟨r8, er8⟩ : ∃ q : mf_V, q = mf_sF r 10 (mf_up (r 10) (r 6 iv) ((-1))) := ⟨_, rfl⟩
      have hP : va_P G.1 vwCl (RW G h ad r8) H := by rw [er8]; exact hP
      have hD : va_D A (RW G h ad r8) := by rw [er8]; exact hD
      have okr8 : rOK rlo rhi r8 := by rw [er8]; exact rOK_up ok 10 _ _ (show (-1 : Int) ≤ (-1) by omega) (show (-1) ≤ (149 : Int) by omega)
      have f1_r8 : r8 10 (r 6 iv) = (-1) := by rw [er8, mf_sF_s, mf_up_s]
      have f2_r8 : ∀ y, y ≠ (r 6 iv) → r8 10 y = r 10 y := fun y hy => by rw [er8, mf_sF_s, mf_up_n hy]
      have f3_r8 : ∀ q, q ≠ 10 → r8 q = r q := fun q hq => by rw [er8, mf_sF_n hq]
      refine lv_aload_n hx hb dX1_bulge_30 rfl (lv_at hl 1 rfl) ?_
      refine lv_iload_n hx hb dX1_bulge_31 rfl (lv_at hl 2 rfl) ?_
      refine mf_iconst hx hb dX1_bulge_32 ?_
      refine mf_isub hx hb dX1_bulge_33 ?_
      refine vp_callSi (va_Run.run (va_runV (As := [.int (iI (iv - 1))]) (rest := []) ⟨hx, hb, hml, hown, hts⟩ (c_X1_cellAt l G h ad r8 (iv - 1) (i32_mk (by omega) (by omega)) (by assumption)) (cwV 1 hts gX1_bulge_X1_cellAt rfl rfl rfl (by decide +kernel) ⟨Nat.le_of_ble_eq_true rfl, Nat.le_of_ble_eq_true rfl⟩) (rdV (wc := RW G h ad r8) hK hP hN [0, 1, 2, 3, 4, 5, 6, 7, 8, 9, 10, 11] rfl (ci := 1) rfl rfl) rfl rfl hl.1 rfl (lv_room (Nat.le_of_ble_eq_true rfl)) dX1_bulge_34 ⟨(Nat.zero_le _), (Nat.zero_le _)⟩)) (fun q9 hq9 => ?_)
      subst hq9
      refine mf_nm (fun y10 ey10 => ?_)
      have b11 : -1 ≤ y10 ∧ y10 ≤ 383 := by rw [ey10]; exact cellAtF_b (by assumption) (iv - 1)
      refine lv_iload_n hx hb dX1_bulge_37 rfl (lv_at hl 3 rfl) ?_
      refine vp_callSi (va_Run.run (va_runSN (As := [.int (iI (y10)), .int (iI (sv))]) (rest := []) ⟨hx, hb, hml, hown, hts⟩ (c_X2_neighbour l (y10) (sv) (i32_mk (by omega) (by omega)) (i32_mk (by omega) (by omega))) ⟨(va_cnB 2 hts gX1_bulge_X2_neighbour_n89 rfl rfl rfl (hN.m 29 rfl) (hts (.initialized RX2) (List.mem_of_getElem? (i := 27) rfl)) (by decide +kernel) ⟨Nat.le_of_ble_eq_true rfl, Nat.le_of_ble_eq_true rfl⟩), (hts (.static yX2_neighbour) (List.mem_of_getElem? (i := 26) rfl)), trivial⟩ pureS rfl rfl hl.1 rfl (lv_room (Nat.le_of_ble_eq_true rfl)) dX1_bulge_38 ⟨(Nat.zero_le _), (Nat.zero_le _)⟩)) (fun q12 hq12 => ?_)
      subst hq12
      refine mf_nm (fun y13 ey13 => ?_)
      have b14 : -1 ≤ y13 ∧ y13 ≤ 383 := by rw [ey13]; exact nbr_b y10 sv
      refine mf_top (y13) (nbr (r 6 (iv - 1)) sv) (by rw [ey13, ey10, cellAtF_cg (f3_r8 6 (by decide)) (f3_r8 7 (by decide)), cellAtF_in (by omega) (by omega)]) ?_
      skip
      refine lv_istore (lv' := [(4, .int (iI (nbr (r 6 (iv - 1)) sv))), (3, .int (iI (r 6 iv))), (0, .ref h), (1, .int (iI (iv))), (2, .int (iI (sv)))]) hx hb dX1_bulge_41 hl (by decide) rfl (fun ls hl => ?_)
      refine lv_iload_n hx hb dX1_bulge_43 rfl (lv_at hl 1 rfl) ?_
      refine lv_iload_n hx hb dX1_bulge_44 rfl (lv_at hl 4 rfl) ?_
      refine vp_callSi (va_Run.run (va_runSN (As := [.int (iI (r 6 iv)), .int (iI (sv))]) (rest := []) ⟨hx, hb, hml, hown, hts⟩ (c_X2_neighbour l (r 6 iv) (sv) (i32_mk (by omega) (by omega)) (i32_mk (by omega) (by omega))) ⟨(va_cnB 2 hts gX1_bulge_X2_neighbour_n89 rfl rfl rfl (hN.m 29 rfl) (hts (.initialized RX2) (List.mem_of_getElem? (i := 27) rfl)) (by decide +kernel) ⟨Nat.le_of_ble_eq_true rfl, Nat.le_of_ble_eq_true rfl⟩), (hts (.static yX2_neighbour) (List.mem_of_getElem? (i := 26) rfl)), trivial⟩ pureS rfl rfl hl.1 rfl (lv_room (Nat.le_of_ble_eq_true rfl)) dX1_bulge_45 ⟨(Nat.zero_le _), (Nat.zero_le _)⟩)) (fun q15 hq15 => ?_)
      subst hq15
      refine mf_nm (fun y16 ey16 => ?_)
      have b17 : -1 ≤ y16 ∧ y16 ≤ 383 := by rw [ey16]; exact nbr_b (r 6 iv) sv
      refine mf_top (y16) (nbr (r 6 iv) sv) (by rw [ey16]) ?_
      skip
      refine lv_istore (lv' := [(5, .int (iI (nbr (r 6 iv) sv))), (4, .int (iI (nbr (r 6 (iv - 1)) sv))), (3, .int (iI (r 6 iv))), (0, .ref h), (1, .int (iI (iv))), (2, .int (iI (sv)))]) hx hb dX1_bulge_48 hl (by decide) rfl (fun ls hl => ?_)
      refine lv_aload_n hx hb dX1_bulge_50 rfl (lv_at hl 3 rfl) ?_
      refine lv_iload_n hx hb dX1_bulge_51 rfl (lv_at hl 4 rfl) ?_
      refine mf_iconst hx hb dX1_bulge_52 ?_
      refine mf_iadd hx hb dX1_bulge_53 ?_
      refine vp_callSi (va_Run.run (va_runV (As := [.int (iI (iv + 1))]) (rest := []) ⟨hx, hb, hml, hown, hts⟩ (c_X1_cellAt l G h ad r8 (iv + 1) (i32_mk (by omega) (by omega)) (by assumption)) (cwV 1 hts gX1_bulge_X1_cellAt rfl rfl rfl (by decide +kernel) ⟨Nat.le_of_ble_eq_true rfl, Nat.le_of_ble_eq_true rfl⟩) (rdV (wc := RW G h ad r8) hK hP hN [0, 1, 2, 3, 4, 5, 6, 7, 8, 9, 10, 11] rfl (ci := 1) rfl rfl) rfl rfl hl.1 rfl (lv_room (Nat.le_of_ble_eq_true rfl)) dX1_bulge_54 ⟨(Nat.zero_le _), (Nat.zero_le _)⟩)) (fun q18 hq18 => ?_)
      subst hq18
      refine mf_nm (fun y19 ey19 => ?_)
      have b20 : -1 ≤ y19 ∧ y19 ≤ 383 := by rw [ey19]; exact cellAtF_b (by assumption) (iv + 1)
      refine lv_iload_n hx hb dX1_bulge_57 rfl (lv_at hl 5 rfl) ?_
      refine vp_callSi (va_Run.run (va_runSN (As := [.int (iI (y19)), .int (iI (sv))]) (rest := []) ⟨hx, hb, hml, hown, hts⟩ (c_X2_neighbour l (y19) (sv) (i32_mk (by omega) (by omega)) (i32_mk (by omega) (by omega))) ⟨(va_cnB 2 hts gX1_bulge_X2_neighbour_n89 rfl rfl rfl (hN.m 29 rfl) (hts (.initialized RX2) (List.mem_of_getElem? (i := 27) rfl)) (by decide +kernel) ⟨Nat.le_of_ble_eq_true rfl, Nat.le_of_ble_eq_true rfl⟩), (hts (.static yX2_neighbour) (List.mem_of_getElem? (i := 26) rfl)), trivial⟩ pureS rfl rfl hl.1 rfl (lv_room (Nat.le_of_ble_eq_true rfl)) dX1_bulge_58 ⟨(Nat.zero_le _), (Nat.zero_le _)⟩)) (fun q21 hq21 => ?_)
      subst hq21
      refine mf_nm (fun y22 ey22 => ?_)
      have b23 : -1 ≤ y22 ∧ y22 ≤ 383 := by rw [ey22]; exact nbr_b y19 sv
      refine mf_top (y22) (nbr (r 6 (iv + 1)) sv) (by rw [ey22, ey19, cellAtF_cg (f3_r8 6 (by decide)) (f3_r8 7 (by decide)), cellAtF_in (by omega) (by omega)]) ?_
      skip
      refine lv_istore (lv' := [(6, .int (iI (nbr (r 6 (iv + 1)) sv))), (5, .int (iI (nbr (r 6 iv) sv))), (4, .int (iI (nbr (r 6 (iv - 1)) sv))), (3, .int (iI (r 6 iv))), (0, .ref h), (1, .int (iI (iv))), (2, .int (iI (sv)))]) hx hb dX1_bulge_61 hl (by decide) rfl (fun ls hl => ?_)
      refine lv_aload_n hx hb dX1_bulge_63 rfl (lv_at hl 4 rfl) ?_
      refine va_get (D := G.1) (ci := 1) (v := .ref (ad 6)) (C := RX1) (T := TX1) (N := 14) hx hb hts hinX1 hown hK hP 0 rfl rfl 6 (by decide) (hts (.fieldLink RX1 31 "MeanderFarm$River" "course" "[I") (List.mem_of_getElem? (i := 2) rfl)) (fun _ h9 => h9) rfl dX1_bulge_64 ?_
      refine lv_iload_n hx hb dX1_bulge_67 rfl (lv_at hl 5 rfl) ?_
      refine mf_iconst hx hb dX1_bulge_68 ?_
      refine mf_iadd hx hb dX1_bulge_69 ?_
      refine lv_aload_n hx hb dX1_bulge_70 rfl (lv_at hl 4 rfl) ?_
      refine va_get (D := G.1) (ci := 1) (v := .ref (ad 6)) (C := RX1) (T := TX1) (N := 14) hx hb hts hinX1 hown hK hP 0 rfl rfl 6 (by decide) (hts (.fieldLink RX1 31 "MeanderFarm$River" "course" "[I") (List.mem_of_getElem? (i := 2) rfl)) (fun _ h9 => h9) rfl dX1_bulge_71 ?_
      refine lv_iload_n hx hb dX1_bulge_74 rfl (lv_at hl 5 rfl) ?_
      refine mf_iconst hx hb dX1_bulge_75 ?_
      refine mf_iadd hx hb dX1_bulge_76 ?_
      refine lv_aload_n hx hb dX1_bulge_77 rfl (lv_at hl 4 rfl) ?_
      refine va_get (D := G.1) (ci := 1) (v := .int (iI (r8 7 0))) (C := RX1) (T := TX1) (N := 14) hx hb hts hinX1 hown hK hP 0 rfl rfl 7 (by decide) (hts (.fieldLink RX1 46 "MeanderFarm$River" "length" "I") (List.mem_of_getElem? (i := 3) rfl)) (fun _ h9 => h9) rfl dX1_bulge_78 ?_
      refine mf_top (r8 7 0) (r 7 0) (by rw [f3_r8 7 (by decide)]) ?_
      have b24 : (0 : Int) ≤ r 7 0 ∧ r 7 0 ≤ 150 := ok 7 (0)
      refine lv_iload_n hx hb dX1_bulge_81 rfl (lv_at hl 5 rfl) ?_
      refine mf_isub hx hb dX1_bulge_82 ?_
      refine mf_iconst hx hb dX1_bulge_83 ?_
      refine mf_isub hx hb dX1_bulge_84 ?_
      refine mf_copy (f := r8 6) (g := r8 6) (n0 := 150) (n1 := 150) hx hb (hml.trans hl.1.symm) hown (hts (.methodLink RX1 54 arraycopyName) (List.mem_of_getElem? (i := 4) rfl)) (hts (.native arraycopyName) (List.mem_of_getElem? (i := 5) rfl)) (hts (.static arraycopyName) (List.mem_of_getElem? (i := 6) rfl)) (hts (.initialized "java/lang/System") (List.mem_of_getElem? (i := 7) rfl)) hK hP hD hS 7 7 0 0 rfl rfl rfl rfl rfl (sp := iv + 1) (dp := iv + 3) (n := ((r 7 0) - iv) - 1) (by omega) (by omega) (by omega) (by omega) (by omega) (by decide) (by decide) (fun _ => rfl) (Nat.le_of_ble_eq_true rfl) (Nat.le_of_ble_eq_true rfl) dX1_bulge_85 (fun H locs hP hD hS => ?_)
      obtain ⟨r25, er25⟩ : ∃ q : mf_V, q = mf_sF r8 6 (mf_cpy (r8 6) (r8 6) (iv + 1) (iv + 3) (((r 7 0) - iv) - 1)) := ⟨_, rfl⟩
      have hP : va_P G.1 vwCl (RW G h ad r25) H := by rw [er25]; exact hP
      have hD : va_D A (RW G h ad r25) := by rw [er25]; exact hD
      have okr25 : rOK rlo rhi r25 := by rw [er25]; exact rOK_cpy okr8 okr8 6 _ _ _
      have f1_r25 : r25 6 = mf_cpy (r8 6) (r8 6) (iv + 1) (iv + 3) (((r 7 0) - iv) - 1) := by rw [er25, mf_sF_s]
      have f3_r25 : ∀ q, q ≠ 6 → r25 q = r8 q := fun q hq => by rw [er25, mf_sF_n hq]
      refine lv_aload_n hx hb dX1_bulge_88 rfl (lv_at hl 4 rfl) ?_
      refine lv_dup hx hb dX1_bulge_89 rfl ?_
      refine va_get (D := G.1) (ci := 1) (v := .int (iI (r25 7 0))) (C := RX1) (T := TX1) (N := 14) hx hb hts hinX1 hown hK hP 0 rfl rfl 7 (by decide) (hts (.fieldLink RX1 46 "MeanderFarm$River" "length" "I") (List.mem_of_getElem? (i := 3) rfl)) (fun _ h9 => h9) rfl dX1_bulge_90 ?_
      refine mf_top (r25 7 0) (r 7 0) (by rw [f3_r25 7 (by decide), f3_r8 7 (by decide)]) ?_
      have b26 : (0 : Int) ≤ r 7 0 ∧ r 7 0 ≤ 150 := ok 7 (0)
      refine mf_iconst hx hb dX1_bulge_93 ?_
      refine mf_iadd hx hb dX1_bulge_94 ?_
      refine va_put (D := G.1) (ci := 1) (v := .int (iI ((r 7 0) + 2))) (ty := .int) (C := RX1) (T := TX1) (N := 14) hx hb hts hinX1 tyX1 tyX1_ok nmX1 hown hK hP hD hS 0 rfl rfl 7 (by decide) (hts (.fieldLink RX1 46 "MeanderFarm$River" "length" "I") (List.mem_of_getElem? (i := 3) rfl)) (fun _ h9 => h9) rfl (by decide +kernel) rfl rfl (Nat.le_of_ble_eq_true rfl) dX1_bulge_95 (fun H locs hP hD hS => ?_)
      obtain ⟨r27, er27⟩ : ∃ q : mf_V, q = mf_sF r25 7 (fun _ => (r 7 0) + 2) := ⟨_, rfl⟩
      have hP : va_P G.1 vwCl (RW G h ad r27) H := by rw [er27]; exact hP
      have hD : va_D A (RW G h ad r27) := by rw [er27]; exact hD
      have okr27 : rOK rlo rhi r27 := by rw [er27]; exact rOK_set okr25 7 _ (show (0 : Int) ≤ (r 7 0) + 2 by omega) (show (r 7 0) + 2 ≤ (150 : Int) by omega)
      have f1_r27 : ∀ y, r27 7 y = (r 7 0) + 2 := fun y => by rw [er27, mf_sF_s]
      have f3_r27 : ∀ q, q ≠ 7 → r27 q = r25 q := fun q hq => by rw [er27, mf_sF_n hq]
      have l3 : r27 7 0 = r 7 0 + 2 := f1_r27 0
      have x6 : r27 6 = mf_cpy (r 6) (r 6) (iv + 1) (iv + 3) (r 7 0 - iv - 1) := by rw [f3_r27 6 (by decide), f1_r25, f3_r8 6 (by decide)]
      have x1 : r27 1 = r 1 := by rw [f3_r27 1 (by decide), f3_r25 1 (by decide), f3_r8 1 (by decide)]
      have x3 : r27 3 = r 3 := by rw [f3_r27 3 (by decide), f3_r25 3 (by decide), f3_r8 3 (by decide)]
      have x4 : r27 4 = r 4 := by rw [f3_r27 4 (by decide), f3_r25 4 (by decide), f3_r8 4 (by decide)]
      have x10 : r27 10 = mf_up (r 10) (r 6 iv) (-1) := by rw [f3_r27 10 (by decide), f3_r25 10 (by decide), er8, mf_sF_s]
      have xq : ∀ q, q ≠ 10 → q ≠ 6 → q ≠ 7 → r27 q = r q := fun q h1 h2 h3 => by rw [f3_r27 q h3, f3_r25 q h2, f3_r8 q h1]
      skip
      refine lv_aload_n hx hb dX1_bulge_98 rfl (lv_at hl 4 rfl) ?_
      refine lv_iload_n hx hb dX1_bulge_99 rfl (lv_at hl 5 rfl) ?_
      refine lv_iload hx hb dX1_bulge_100 (lv_at hl 2 rfl) ?_
      have hFc := va_free (wc := RW G h ad r27) hD hS hA [0, 1, 2, 3, 4, 5, 6, 7, 8, 9, 10, 11] rfl
      refine va_callv (va_runV (As := [.int (iI (iv)), .int (iI (nbr (r 6 (iv - 1)) sv))]) (rest := []) ⟨hx, hb, hml, hown, hts⟩ (c_X1_takeIntoCourse l G h ad r27 (iv) (nbr (r 6 (iv - 1)) sv) (i32_mk (by omega) (by omega)) (i32_mk (by omega) (by omega)) (by assumption) (by exact inC_mk (by omega) (by omega)) (by omega) _) (cwV 2 hts gX1_bulge_X1_takeIntoCourse rfl rfl rfl (by decide +kernel) ⟨Nat.le_of_ble_eq_true rfl, Nat.le_of_ble_eq_true rfl⟩) (wrV (wc := RW G h ad r27) hK hP hD hN [0, 1, 2, 3, 4, 5, 6, 7, 8, 9, 10, 11] (by decide) rfl rfl (ci := 1) rfl rfl) rfl rfl hl.1 rfl (lv_room (Nat.le_of_ble_eq_true rfl)) dX1_bulge_102 ⟨(Nat.zero_le _), (Nat.zero_le _)⟩) hS (fun q _ h => hFc q h) hFc (fun u29 t H1 locs ht hvm hw hB hz1 hk1 hS => ?_)
      obtain ⟨r30, rfl⟩ : ∃ z, z = u29 := ⟨_, rfl⟩
      try dsimp only at hw hB
      obtain ⟨hP, hD⟩ := wrJ (ws := RW G h ad r27) (w1 := RW G h ad r30) ht hFc hB
      have hP : va_P G.1 vwCl (RW G h ad r30) H1 := hP
      have hD : va_D A (RW G h ad r30) := hD
      clear hB hk1 hFc ht hz1 hvm
      generalize H1 = H at hP hS ⊢
      have w31 := hw; clear hw
      have okr30 : rOK rlo rhi r30 := w31.1
      have l4 : r30 7 0 = r 7 0 + 2 := by rw [w31.2.2.2.2.2 7 (by decide) (by decide) (by decide) (by decide)]; exact l3
      skip
      refine lv_aload_n hx hb dX1_bulge_105 rfl (lv_at hl 4 rfl) ?_
      refine lv_iload_n hx hb dX1_bulge_106 rfl (lv_at hl 5 rfl) ?_
      refine mf_iconst hx hb dX1_bulge_107 ?_
      refine mf_iadd hx hb dX1_bulge_108 ?_
      refine lv_iload hx hb dX1_bulge_109 (lv_at hl 1 rfl) ?_
      have hFc := va_free (wc := RW G h ad r30) hD hS hA [0, 1, 2, 3, 4, 5, 6, 7, 8, 9, 10, 11] rfl
      refine va_callv (va_runV (As := [.int (iI (iv + 1)), .int (iI (nbr (r 6 iv) sv))]) (rest := []) ⟨hx, hb, hml, hown, hts⟩ (c_X1_takeIntoCourse l G h ad r30 (iv + 1) (nbr (r 6 iv) sv) (i32_mk (by omega) (by omega)) (i32_mk (by omega) (by omega)) (by assumption) (by exact inC_mk (by omega) (by omega)) (by omega) _) (cwV 2 hts gX1_bulge_X1_takeIntoCourse rfl rfl rfl (by decide +kernel) ⟨Nat.le_of_ble_eq_true rfl, Nat.le_of_ble_eq_true rfl⟩) (wrV (wc := RW G h ad r30) hK hP hD hN [0, 1, 2, 3, 4, 5, 6, 7, 8, 9, 10, 11] (by decide) rfl rfl (ci := 1) rfl rfl) rfl rfl hl.1 rfl (lv_room (Nat.le_of_ble_eq_true rfl)) dX1_bulge_111 ⟨(Nat.zero_le _), (Nat.zero_le _)⟩) hS (fun q _ h => hFc q h) hFc (fun u33 t H1 locs ht hvm hw hB hz1 hk1 hS => ?_)
      obtain ⟨r34, rfl⟩ : ∃ z, z = u33 := ⟨_, rfl⟩
      try dsimp only at hw hB
      obtain ⟨hP, hD⟩ := wrJ (ws := RW G h ad r30) (w1 := RW G h ad r34) ht hFc hB
      have hP : va_P G.1 vwCl (RW G h ad r34) H1 := hP
      have hD : va_D A (RW G h ad r34) := hD
      clear hB hk1 hFc ht hz1 hvm
      generalize H1 = H at hP hS ⊢
      have w35 := hw; clear hw
      have okr34 : rOK rlo rhi r34 := w35.1
      have l5 : r34 7 0 = r 7 0 + 2 := by rw [w35.2.2.2.2.2 7 (by decide) (by decide) (by decide) (by decide)]; exact l4
      skip
      refine lv_aload_n hx hb dX1_bulge_114 rfl (lv_at hl 4 rfl) ?_
      refine lv_iload_n hx hb dX1_bulge_115 rfl (lv_at hl 5 rfl) ?_
      refine mf_iconst hx hb dX1_bulge_116 ?_
      refine mf_iadd hx hb dX1_bulge_117 ?_
      refine lv_iload hx hb dX1_bulge_118 (lv_at hl 0 rfl) ?_
      have hFc := va_free (wc := RW G h ad r34) hD hS hA [0, 1, 2, 3, 4, 5, 6, 7, 8, 9, 10, 11] rfl
      refine va_callv (va_runV (As := [.int (iI (iv + 2)), .int (iI (nbr (r 6 (iv + 1)) sv))]) (rest := []) ⟨hx, hb, hml, hown, hts⟩ (c_X1_takeIntoCourse l G h ad r34 (iv + 2) (nbr (r 6 (iv + 1)) sv) (i32_mk (by omega) (by omega)) (i32_mk (by omega) (by omega)) (by assumption) (by exact inC_mk (by omega) (by omega)) (by omega) _) (cwV 2 hts gX1_bulge_X1_takeIntoCourse rfl rfl rfl (by decide +kernel) ⟨Nat.le_of_ble_eq_true rfl, Nat.le_of_ble_eq_true rfl⟩) (wrV (wc := RW G h ad r34) hK hP hD hN [0, 1, 2, 3, 4, 5, 6, 7, 8, 9, 10, 11] (by decide) rfl rfl (ci := 1) rfl rfl) rfl rfl hl.1 rfl (lv_room (Nat.le_of_ble_eq_true rfl)) dX1_bulge_120 ⟨(Nat.zero_le _), (Nat.zero_le _)⟩) hS (fun q _ h => hFc q h) hFc (fun u37 t H1 locs ht hvm hw hB hz1 hk1 hS => ?_)
      obtain ⟨r38, rfl⟩ : ∃ z, z = u37 := ⟨_, rfl⟩
      try dsimp only at hw hB
      obtain ⟨hP, hD⟩ := wrJ (ws := RW G h ad r34) (w1 := RW G h ad r38) ht hFc hB
      have hP : va_P G.1 vwCl (RW G h ad r38) H1 := hP
      have hD : va_D A (RW G h ad r38) := hD
      clear hB hk1 hFc ht hz1 hvm
      generalize H1 = H at hP hS ⊢
      have w39 := hw; clear hw
      have okr38 : rOK rlo rhi r38 := w39.1
      have l6 : r38 7 0 = r 7 0 + 2 := by rw [w39.2.2.2.2.2 7 (by decide) (by decide) (by decide) (by decide)]; exact l5
      have y6 : ∀ j, 0 ≤ j → j < r 7 0 + 2 → r38 6 j = bulC r iv sv j := fun j a b => by rw [w39.2.1, w35.2.1, w31.2.1, x6]; exact bulC_eq (by omega) a b
      have y1 : r38 1 = mf_up (mf_up (mf_up (r 1) (nbr (r 6 (iv - 1)) sv) 0) (nbr (r 6 iv) sv) 0) (nbr (r 6 (iv + 1)) sv) 0 := by rw [w39.2.2.1, w35.2.2.1, w31.2.2.1, x1]
      have y3 : r38 3 = mf_up (mf_up (mf_up (r 3) (nbr (r 6 (iv - 1)) sv) 0) (nbr (r 6 iv) sv) 0) (nbr (r 6 (iv + 1)) sv) 0 := by rw [w39.2.2.2.1, w35.2.2.2.1, w31.2.2.2.1, x3]
      have y4 : r38 4 = mf_up (mf_up (mf_up (r 4) (nbr (r 6 (iv - 1)) sv) 1) (nbr (r 6 iv) sv) 1) (nbr (r 6 (iv + 1)) sv) 1 := by rw [w39.2.2.2.2.1, w35.2.2.2.2.1, w31.2.2.2.2.1, x4]
      have yq : ∀ q, q ≠ 6 → q ≠ 1 → q ≠ 3 → q ≠ 4 → r38 q = r27 q := fun q h1 h2 h3 h4 => by rw [w39.2.2.2.2.2 q h1 h2 h3 h4, w35.2.2.2.2.2 q h1 h2 h3 h4, w31.2.2.2.2.2 q h1 h2 h3 h4]
      have y10 : r38 10 = mf_up (r 10) (r 6 iv) (-1) := by rw [yq 10 (by decide) (by decide) (by decide) (by decide), x10]
      have y11 : r38 11 = r 11 := by rw [yq 11 (by decide) (by decide) (by decide) (by decide), xq 11 (by decide) (by decide) (by decide)]
      have hcr := bulCrs ok hI hcan l6 y6
      have hpre := bulPre ok hI hcan l6 y6 y10 y11
      skip
      refine lv_aload_n hx hb dX1_bulge_123 rfl (lv_at hl 4 rfl) ?_
      refine lv_iload_n hx hb dX1_bulge_124 rfl (lv_at hl 5 rfl) ?_
      have hFc := va_free (wc := RW G h ad r38) hD hS hA [0, 1, 2, 3, 4, 5, 6, 7, 8, 9, 10, 11] rfl
      refine va_callv (va_runV (As := [.int (iI (iv))]) (rest := []) ⟨hx, hb, hml, hown, hts⟩ (c_X1_followCourse l G h ad r38 (iv) (i32_mk (by omega) (by omega)) (by assumption) (by exact hcr) (by omega) (by exact hpre.1) (by exact hpre.2.1) (by exact hpre.2.2) _) (cwV 1 hts gX1_bulge_X1_followCourse rfl rfl rfl (by decide +kernel) ⟨Nat.le_of_ble_eq_true rfl, Nat.le_of_ble_eq_true rfl⟩) (wrV (wc := RW G h ad r38) hK hP hD hN [0, 1, 2, 3, 4, 5, 6, 7, 8, 9, 10, 11] (by decide) rfl rfl (ci := 1) rfl rfl) rfl rfl hl.1 rfl (lv_room (Nat.le_of_ble_eq_true rfl)) dX1_bulge_125 ⟨(Nat.zero_le _), (Nat.zero_le _)⟩) hS (fun q _ h => hFc q h) hFc (fun u41 t H1 locs ht hvm hw hB hz1 hk1 hS => ?_)
      obtain ⟨r42, rfl⟩ : ∃ z, z = u41 := ⟨_, rfl⟩
      try dsimp only at hw hB
      obtain ⟨hP, hD⟩ := wrJ (ws := RW G h ad r38) (w1 := RW G h ad r42) ht hFc hB
      have hP : va_P G.1 vwCl (RW G h ad r42) H1 := hP
      have hD : va_D A (RW G h ad r42) := hD
      clear hB hk1 hFc ht hz1 hvm
      generalize H1 = H at hP hS ⊢
      have w43 := hw; clear hw
      have okr42 : rOK rlo rhi r42 := w43.1
      exact W.vret hx hb hr (fun t ht hW => ⟨⟨r42, rfl, by exact ⟨okr42, ⟨by rw [w43.2.1 7 (by decide)]; exact l6, fun j a b => by rw [w43.2.1 6 (by decide)]; exact y6 j a b, fun cv => ⟨fun hh => ⟨by rw [w43.2.1 1 (by decide), y1]; exact up3_hit hh, by rw [w43.2.1 3 (by decide), y3]; exact up3_hit hh, by rw [w43.2.1 4 (by decide), y4]; exact up3_hit hh⟩, fun hh => ⟨by rw [w43.2.1 1 (by decide), y1]; exact up3_out hh, by rw [w43.2.1 3 (by decide), y3]; exact up3_out hh, by rw [w43.2.1 4 (by decide), y4]; exact up3_out hh⟩⟩, by rw [w43.2.1 0 (by decide), yq 0 (by decide) (by decide) (by decide) (by decide), xq 0 (by decide) (by decide) (by decide)], by rw [w43.2.1 2 (by decide), yq 2 (by decide) (by decide) (by decide) (by decide), xq 2 (by decide) (by decide) (by decide)], by rw [w43.2.1 5 (by decide), yq 5 (by decide) (by decide) (by decide) (by decide), xq 5 (by decide) (by decide) (by decide)], by rw [w43.2.1 8 (by decide), yq 8 (by decide) (by decide) (by decide) (by decide), xq 8 (by decide) (by decide) (by decide)], by rw [w43.2.1 9 (by decide), yq 9 (by decide) (by decide) (by decide) (by decide), xq 9 (by decide) (by decide) (by decide)]⟩, w43.2.2⟩, by rw [ht]; exact hP, hD⟩, hS.F ht⟩) hS.2.2 dX1_bulge_128
  · skip
    exact absurd hcan c2
