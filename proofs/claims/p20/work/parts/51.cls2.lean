/-! cls2 -/
set_option maxHeartbeats 4000000 in
set_option maxRecDepth 100000 in
theorem c_X2_course (l : Launch) (hl9 : l.stackTraces = false) (G : mf_G) (ho pn pa pf : Nat) (ae : Nat) (x : mf_V) (adn : Nat → Nat) (r : mf_V) (ada : Nat → Nat) (ra : mf_V) (adf : Nat → Nat) (f : mf_V)  (iv : Int) (wv : Int) (hiv : i32 iv) (hwv : i32 wv) (okx : rOK xlo xhi x) (ok : rOK rlo rhi r) (okra : rOK rlo rhi ra) (okf : rOK flo fhi f) (sz : Nat) : vx_Met l yX2_course wsX2_course ({ frames := 6, cells := 1, slots := 6, locals := 90 }) (va_Pc [.ref ho, .int (iI (iv)), .int (iI (wv))] (WrPx G (OW G ho pn pa pf ae x ++ RW G pn adn r ++ RW G pa ada ra ++ FW G pf adf f) sz)) (va_Qi (fun q9 (u : mf_V × mf_V × mf_V × mf_V) => ∃ z : Int, q9 = iI z ∧ kCourse r iv wv = 0 ∧ (rOK xlo xhi u.1 ∧ rOK rlo rhi u.2.1 ∧ rOK rlo rhi u.2.2.1 ∧ rOK flo fhi u.2.2.2) ∧ u.2.1 = r ∧ u.2.2.2 = f ∧ z = vCourse r iv wv) (fun (u : mf_V × mf_V × mf_V × mf_V) t => WrQ G (va_A (OW G ho pn pa pf ae x ++ RW G pn adn r ++ RW G pa ada ra ++ FW G pf adf f) sz) (OW G ho pn pa pf ae (u.1) ++ RW G pn adn (u.2.1) ++ RW G pa ada (u.2.2.1) ++ FW G pf adf (u.2.2.2)) t) (va_A (OW G ho pn pa pf ae x ++ RW G pn adn r ++ RW G pa ada ra ++ FW G pf adf f) sz)) (vx_X (fun _ : Unit => True) (fun E _ t => (E = xIO ∧ kCourse r iv wv = 1) ∧ WrQ G (va_A (OW G ho pn pa pf ae x ++ RW G pn adn r ++ RW G pa ada ra ++ FW G pf adf f) sz) (OW G ho pn pa pf ae x ++ RW G pn adn r ++ RW G pa ada ra ++ FW G pf adf f) t) (va_A (OW G ho pn pa pf ae x ++ RW G pn adn r ++ RW G pa ada ra ++ FW G pf adf f) sz)) 1 6 (va_A (OW G ho pn pa pf ae x ++ RW G pn adn r ++ RW G pa ada ra ++ FW G pf adf f) sz) := by
  refine vx_ofW (cc := cX2_course) (maxL := 3) (ret := (some .int)) (by decide) rfl ?_
  intro p e s m args below meth c s₁ B hml hexc hv
  obtain ⟨rfl, hsz, hP, hK, hD0, hN, hSX, hCX, hZ⟩ := hv
  have hx := B.exec
  have hb := B.bytes
  have hr := B.returns
  have hts := atoms_spec (ws := wsX2_course) B.pre
  have hown : s.vm.findClass RX2 = some m.cls := findClass_of_methodNamed B.named
  have hlocks := B.notSynchronized
  have hat42 := vx_hat (fun w h => hts w (List.mem_cons_of_mem _ (List.mem_append_right _ h))) xb42 (vx_c (va_Nw.use rfl hCX.1) (vx_c (va_Nw.use rfl hCX.2.2.2.1) (vx_c (va_Nw.use rfl hCX.2.2.2.2.1) (vx_c (va_Nw.use rfl hCX.2.2.2.2.2) vx_n))))
  have hinX1 : ∀ w ∈ u_ws RX1 TX1 14, w ∈ wsX2_course := fun w h => List.mem_cons_of_mem _ (List.mem_append_left _ (List.mem_append_right _ h))
  have hinX2 : ∀ w ∈ u_ws RX2 TX2 4, w ∈ wsX2_course := fun w h => List.mem_cons_of_mem _ (List.mem_append_left _ (List.mem_append_left _ (List.mem_append_right _ h)))
  subst hsz
  have hD := hD0.self (sz := s.heap.size)
  generalize hAe : va_A (OW G ho pn pa pf ae x ++ RW G pn adn r ++ RW G pa ada ra ++ FW G pf adf f) s.heap.size = A at hD hZ ⊢
  have hA : ∀ q : Nat, s.heap.size ≤ q → A q := fun q h => by rw [← hAe]; exact Or.inr h
  have hS : va_S A s.heap s.heap [] := va_S.rf
  have hl := lv_entry ([.ref ho, .int (iI (iv)), .int (iI (wv))]) (n := 3) (Nat.le_of_ble_eq_true rfl)
  rw [lg_entry_eq]
  generalize (lg_sl ([.ref ho, .int (iI (iv)), .int (iI (wv))]) ++ List.replicate (3 - (lg_sl ([.ref ho, .int (iI (iv)), .int (iI (wv))])).length) Slot.unset).toArray = ls at hl ⊢
  have hl : lv_has ls 3 [(0, .ref ho), (1, .int (iI (iv))), (2, .int (iI (wv)))] := hl
  have hiv1 := hiv.1
  have hiv2 := hiv.2
  have hwv1 := hwv.1
  have hwv2 := hwv.2
  have okLr : (0 : Int) ≤ r 7 0 ∧ r 7 0 ≤ 150 := ok 7 0
  have okLra : (0 : Int) ≤ ra 7 0 ∧ ra 7 0 ≤ 150 := okra 7 0
  refine lv_aload_n hx hb dX2_course_0 rfl (lv_at hl 0 rfl) ?_
  refine va_get (D := G.1) (ci := 2) (v := .ref pn) (C := RX2) (T := TX2) (N := 4) hx hb hts hinX2 hown hK hP 0 rfl rfl 0 (by decide) (hts (.fieldLink RX2 16 "MeanderFarm" "now" "LMeanderFarm$River;") (List.mem_of_getElem? (i := 3) rfl)) (fun _ h9 => h9) rfl dX2_course_1 ?_
  refine lv_iload_n hx hb dX2_course_4 rfl (lv_at hl 1 rfl) ?_
  refine vp_callSi (va_Run.run (va_runVN (As := [.int (iI (iv))]) (rest := []) ⟨hx, hb, hml, hown, hts⟩ (c_X1_isInCourse l G pn adn r (iv) (i32_mk (by omega) (by omega)) (by assumption)) ⟨(va_cnB 1 hts gX2_course_X1_isInCourse_n86 rfl rfl rfl (hN.m 22 rfl) (hts (.initialized RX1) (List.mem_of_getElem? (i := 5) rfl)) (by decide +kernel) ⟨Nat.le_of_ble_eq_true rfl, Nat.le_of_ble_eq_true rfl⟩), (hts (.instanceMethod yX1_isInCourse) (List.mem_of_getElem? (i := 4) rfl)), (hts (.selects RX1 yX1_isInCourse yX1_isInCourse) (List.mem_of_getElem? (i := 6) rfl))⟩ (rdV (wc := RW G pn adn r) hK hP hN [2, 3, 4, 5, 6, 7, 8, 9, 10, 11, 12, 13] sb_9548ab2e14 (ci := 1) rfl rfl) rfl rfl hl.1 rfl (lv_room (Nat.le_of_ble_eq_true rfl)) dX2_course_5 ⟨(Nat.zero_le _), (Nat.zero_le _)⟩)) (fun q1 hq1 => ?_)
  subst hq1
  refine mf_bp_ne (tgt := 21) hx hb dX2_course_8 (by decide) (fun c2 => ?_) (fun c2 => ?_)
  · skip
    have c2' := c2; unfold inC at c2'
    have hin9 : inC r iv := by assumption
    have hin8 := hin9
    unfold inC at hin8
    refine lv_iload_n hx hb dX2_course_21 rfl (lv_at hl 2 rfl) ?_
    have w3 : i32 (wv) := (i32_mk (by omega) (by omega))
    rcases (show  (wv) = 0 ∨  (wv) = 1 ∨  (wv) = 2 ∨  (wv) = 3 ∨  (wv) = 4 ∨  ((wv) < 0 ∨ 4 < (wv)) by omega) with c4 | c4 | c4 | c4 | c4 | c4
    · skip
      refine lv_tableIn (off := 34) (tgt := 56) hx hb dX2_course_22 (by rw [iI_toInt w3]; omega) (by rw [iI_toInt w3]; omega) (by rw [iI_toInt w3, c4]; rfl) (by decide) ?_
      refine lv_aload_n hx hb dX2_course_56 rfl (lv_at hl 0 rfl) ?_
      refine va_get (D := G.1) (ci := 2) (v := .ref pn) (C := RX2) (T := TX2) (N := 4) hx hb hts hinX2 hown hK hP 0 rfl rfl 0 (by decide) (hts (.fieldLink RX2 16 "MeanderFarm" "now" "LMeanderFarm$River;") (List.mem_of_getElem? (i := 3) rfl)) (fun _ h9 => h9) rfl dX2_course_57 ?_
      refine va_getN (D := G.1) (ci := 1) (v := .ref (adn 6)) (C := RX1) (T := TX1) (N := 14) hx hb hts hinX1 hown hK hP 2 rfl rfl 6 (by decide) (va_Nw.use rfl (hN.f 12 rfl)) (fun _ h9 => h9) rfl dX2_course_60 ?_
      refine lv_iload_n hx hb dX2_course_63 rfl (lv_at hl 1 rfl) ?_
      refine mf_iald (n := 150) (f := r 6) hx hb hK hP 9 0 rfl rfl (z := iv) (by omega) (by omega) (by decide) dX2_course_64 ?_
      have b5 : (0 : Int) ≤ r 6 iv ∧ r 6 iv ≤ 383 := ok 6 (iv)
      have hk9 : kCourse r iv wv = 0 := mf_if_f (fun z => z ⟨hin9, by omega⟩)
      refine W.widen (k := 1) (n := 6) (Nat.le_of_ble_eq_true rfl) (Nat.le_of_ble_eq_true rfl) ?_
      refine vx_ret ?_
      exact W.iret hx hb hr (fun t ht hW => ⟨⟨_, (x, r, ra, f), rfl, ⟨_, rfl, by (try dsimp only); exact ⟨hk9, ⟨okx, ok, okra, okf⟩, rfl, rfl, by unfold vCourse;  rw [if_pos (by omega)]⟩⟩, by rw [ht]; exact hP, hD⟩, hS.F ht⟩) hS.2.2 dX2_course_65
    · skip
      refine lv_tableIn (off := 44) (tgt := 66) hx hb dX2_course_22 (by rw [iI_toInt w3]; omega) (by rw [iI_toInt w3]; omega) (by rw [iI_toInt w3, c4]; rfl) (by decide) ?_
      refine lv_aload_n hx hb dX2_course_66 rfl (lv_at hl 0 rfl) ?_
      refine va_get (D := G.1) (ci := 2) (v := .ref pn) (C := RX2) (T := TX2) (N := 4) hx hb hts hinX2 hown hK hP 0 rfl rfl 0 (by decide) (hts (.fieldLink RX2 16 "MeanderFarm" "now" "LMeanderFarm$River;") (List.mem_of_getElem? (i := 3) rfl)) (fun _ h9 => h9) rfl dX2_course_67 ?_
      refine va_getN (D := G.1) (ci := 1) (v := .ref (adn 11)) (C := RX1) (T := TX1) (N := 14) hx hb hts hinX1 hown hK hP 2 rfl rfl 11 (by decide) (va_Nw.use rfl (hN.f 13 rfl)) (fun _ h9 => h9) rfl dX2_course_70 ?_
      refine lv_iload_n hx hb dX2_course_73 rfl (lv_at hl 1 rfl) ?_
      refine mf_iald (n := 150) (f := r 11) hx hb hK hP 11 0 rfl rfl (z := iv) (by omega) (by omega) (by decide) dX2_course_74 ?_
      have b6 : (-1 : Int) ≤ r 11 iv ∧ r 11 iv ≤ 3 := ok 11 (iv)
      have hk9 : kCourse r iv wv = 0 := mf_if_f (fun z => z ⟨hin9, by omega⟩)
      refine W.widen (k := 1) (n := 6) (Nat.le_of_ble_eq_true rfl) (Nat.le_of_ble_eq_true rfl) ?_
      refine vx_ret ?_
      exact W.iret hx hb hr (fun t ht hW => ⟨⟨_, (x, r, ra, f), rfl, ⟨_, rfl, by (try dsimp only); exact ⟨hk9, ⟨okx, ok, okra, okf⟩, rfl, rfl, by unfold vCourse; rw [if_neg (by omega)]; rw [if_pos (by omega)]⟩⟩, by rw [ht]; exact hP, hD⟩, hS.F ht⟩) hS.2.2 dX2_course_75
    · skip
      refine lv_tableIn (off := 54) (tgt := 76) hx hb dX2_course_22 (by rw [iI_toInt w3]; omega) (by rw [iI_toInt w3]; omega) (by rw [iI_toInt w3, c4]; rfl) (by decide) ?_
      refine lv_aload_n hx hb dX2_course_76 rfl (lv_at hl 0 rfl) ?_
      refine va_get (D := G.1) (ci := 2) (v := .ref pn) (C := RX2) (T := TX2) (N := 4) hx hb hts hinX2 hown hK hP 0 rfl rfl 0 (by decide) (hts (.fieldLink RX2 16 "MeanderFarm" "now" "LMeanderFarm$River;") (List.mem_of_getElem? (i := 3) rfl)) (fun _ h9 => h9) rfl dX2_course_77 ?_
      refine lv_iload_n hx hb dX2_course_80 rfl (lv_at hl 1 rfl) ?_
      refine vp_callSi (va_Run.run (va_runVN (As := [.int (iI (iv))]) (rest := []) ⟨hx, hb, hml, hown, hts⟩ (c_X1_isStraight l G pn adn r (iv) (i32_mk (by omega) (by omega)) (by assumption)) ⟨(va_cnB 1 hts gX2_course_X1_isStraight_n97 rfl rfl rfl (hN.m 23 rfl) (hts (.initialized RX1) (List.mem_of_getElem? (i := 5) rfl)) (by decide +kernel) ⟨Nat.le_of_ble_eq_true rfl, Nat.le_of_ble_eq_true rfl⟩), (hts (.instanceMethod yX1_isStraight) (List.mem_of_getElem? (i := 9) rfl)), (hts (.selects RX1 yX1_isStraight yX1_isStraight) (List.mem_of_getElem? (i := 10) rfl))⟩ (rdV (wc := RW G pn adn r) hK hP hN [2, 3, 4, 5, 6, 7, 8, 9, 10, 11, 12, 13] sb_9548ab2e14 (ci := 1) rfl rfl) rfl rfl hl.1 rfl (lv_room (Nat.le_of_ble_eq_true rfl)) dX2_course_81 ⟨(Nat.zero_le _), (Nat.zero_le _)⟩)) (fun q7 hq7 => ?_)
      subst hq7
      refine mf_bp_eq (tgt := 91) hx hb dX2_course_84 (by decide) (fun c8 => ?_) (fun c8 => ?_)
      · skip
        have c8' := c8; unfold strP at c8'
        refine mf_iconst hx hb dX2_course_91 ?_
        have hk9 : kCourse r iv wv = 0 := mf_if_f (fun z => z ⟨hin9, by omega⟩)
        refine W.widen (k := 1) (n := 6) (Nat.le_of_ble_eq_true rfl) (Nat.le_of_ble_eq_true rfl) ?_
        refine vx_ret ?_
        exact W.iret hx hb hr (fun t ht hW => ⟨⟨_, (x, r, ra, f), rfl, ⟨_, rfl, by (try dsimp only); exact ⟨hk9, ⟨okx, ok, okra, okf⟩, rfl, rfl, by unfold vCourse; rw [if_neg (by omega)]; rw [if_neg (by omega)]; rw [if_pos (by omega)]; exact (bP_f (by assumption)).symm⟩⟩, by rw [ht]; exact hP, hD⟩, hS.F ht⟩) hS.2.2 dX2_course_92
      · skip
        have c8' := c8; unfold strP at c8'
        refine mf_iconst hx hb dX2_course_87 ?_
        refine lv_goto (tgt := 92) hx hb dX2_course_88 (by decide) ?_
        have hk9 : kCourse r iv wv = 0 := mf_if_f (fun z => z ⟨hin9, by omega⟩)
        refine W.widen (k := 1) (n := 6) (Nat.le_of_ble_eq_true rfl) (Nat.le_of_ble_eq_true rfl) ?_
        refine vx_ret ?_
        exact W.iret hx hb hr (fun t ht hW => ⟨⟨_, (x, r, ra, f), rfl, ⟨_, rfl, by (try dsimp only); exact ⟨hk9, ⟨okx, ok, okra, okf⟩, rfl, rfl, by unfold vCourse; rw [if_neg (by omega)]; rw [if_neg (by omega)]; rw [if_pos (by omega)]; exact (bP_t (by assumption)).symm⟩⟩, by rw [ht]; exact hP, hD⟩, hS.F ht⟩) hS.2.2 dX2_course_92
    · skip
      refine lv_tableIn (off := 71) (tgt := 93) hx hb dX2_course_22 (by rw [iI_toInt w3]; omega) (by rw [iI_toInt w3]; omega) (by rw [iI_toInt w3, c4]; rfl) (by decide) ?_
      refine lv_aload_n hx hb dX2_course_93 rfl (lv_at hl 0 rfl) ?_
      refine va_get (D := G.1) (ci := 2) (v := .ref pn) (C := RX2) (T := TX2) (N := 4) hx hb hts hinX2 hown hK hP 0 rfl rfl 0 (by decide) (hts (.fieldLink RX2 16 "MeanderFarm" "now" "LMeanderFarm$River;") (List.mem_of_getElem? (i := 3) rfl)) (fun _ h9 => h9) rfl dX2_course_94 ?_
      refine va_getN (D := G.1) (ci := 1) (v := .ref (adn 12)) (C := RX1) (T := TX1) (N := 14) hx hb hts hinX1 hown hK hP 2 rfl rfl 12 (by decide) (va_Nw.use rfl (hN.f 0 rfl)) (fun _ h9 => h9) rfl dX2_course_97 ?_
      refine lv_iload_n hx hb dX2_course_100 rfl (lv_at hl 1 rfl) ?_
      refine mf_iald (n := 150) (f := r 12) hx hb hK hP 12 0 rfl rfl (z := iv) (by omega) (by omega) (by decide) dX2_course_101 ?_
      have b9 : (-1 : Int) ≤ r 12 iv ∧ r 12 iv ≤ 3 := ok 12 (iv)
      have hk9 : kCourse r iv wv = 0 := mf_if_f (fun z => z ⟨hin9, by omega⟩)
      refine W.widen (k := 1) (n := 6) (Nat.le_of_ble_eq_true rfl) (Nat.le_of_ble_eq_true rfl) ?_
      refine vx_ret ?_
      exact W.iret hx hb hr (fun t ht hW => ⟨⟨_, (x, r, ra, f), rfl, ⟨_, rfl, by (try dsimp only); exact ⟨hk9, ⟨okx, ok, okra, okf⟩, rfl, rfl, by unfold vCourse; rw [if_neg (by omega)]; rw [if_neg (by omega)]; rw [if_neg (by omega)]; rw [if_pos (by omega)]⟩⟩, by rw [ht]; exact hP, hD⟩, hS.F ht⟩) hS.2.2 dX2_course_102
    · skip
      refine lv_tableIn (off := 81) (tgt := 103) hx hb dX2_course_22 (by rw [iI_toInt w3]; omega) (by rw [iI_toInt w3]; omega) (by rw [iI_toInt w3, c4]; rfl) (by decide) ?_
      refine lv_aload_n hx hb dX2_course_103 rfl (lv_at hl 0 rfl) ?_
      refine va_get (D := G.1) (ci := 2) (v := .ref pn) (C := RX2) (T := TX2) (N := 4) hx hb hts hinX2 hown hK hP 0 rfl rfl 0 (by decide) (hts (.fieldLink RX2 16 "MeanderFarm" "now" "LMeanderFarm$River;") (List.mem_of_getElem? (i := 3) rfl)) (fun _ h9 => h9) rfl dX2_course_104 ?_
      refine va_getN (D := G.1) (ci := 1) (v := .ref (adn 13)) (C := RX1) (T := TX1) (N := 14) hx hb hts hinX1 hown hK hP 2 rfl rfl 13 (by decide) (va_Nw.use rfl (hN.f 1 rfl)) (fun _ h9 => h9) rfl dX2_course_107 ?_
      refine lv_iload_n hx hb dX2_course_110 rfl (lv_at hl 1 rfl) ?_
      refine mf_iald (n := 150) (f := r 13) hx hb hK hP 13 0 rfl rfl (z := iv) (by omega) (by omega) (by decide) dX2_course_111 ?_
      have b10 : (-1 : Int) ≤ r 13 iv ∧ r 13 iv ≤ 383 := ok 13 (iv)
      have hk9 : kCourse r iv wv = 0 := mf_if_f (fun z => z ⟨hin9, by omega⟩)
      refine W.widen (k := 1) (n := 6) (Nat.le_of_ble_eq_true rfl) (Nat.le_of_ble_eq_true rfl) ?_
      refine vx_ret ?_
      exact W.iret hx hb hr (fun t ht hW => ⟨⟨_, (x, r, ra, f), rfl, ⟨_, rfl, by (try dsimp only); exact ⟨hk9, ⟨okx, ok, okra, okf⟩, rfl, rfl, by unfold vCourse; rw [if_neg (by omega)]; rw [if_neg (by omega)]; rw [if_neg (by omega)]; rw [if_neg (by omega)]; skip⟩⟩, by rw [ht]; exact hP, hD⟩, hS.F ht⟩) hS.2.2 dX2_course_112
    · skip
      refine lv_tableOut (tgt := 113) hx hb dX2_course_22 (by rw [iI_toInt w3]; omega) (by decide) ?_
      have hk9 : kCourse r iv wv = 1 := mf_if_t (fun z => by have z2 := z.2; omega)
      exact mf_throw (ik := 38) (is := 106) (ic := 42) (cls := "java/lang/IndexOutOfBoundsException") hx hb hl9 hown (by decide +kernel) (hts (.classLink RX2 38 "java/lang/IndexOutOfBoundsException") (List.mem_of_getElem? (i := 1) rfl)) (hts (.initialized "java/lang/IndexOutOfBoundsException") (List.mem_of_getElem? (i := 2) rfl)) hSX (List.mem_of_getElem? (i := 6) rfl) hat42 xg42 hZ hP hD hS (hl.1.trans hml.symm) dX2_course_113 dX2_course_116 dX2_course_117 dX2_course_119 dX2_course_122 hexc (Nat.le_of_ble_eq_true rfl) (Nat.le_of_ble_eq_true rfl) (Nat.le_of_ble_eq_true rfl) (Nat.le_of_ble_eq_true rfl) hlocks (by exact ⟨rfl, hk9⟩) (Nat.le_of_ble_eq_true rfl) (Nat.le_of_ble_eq_true rfl)
  · skip
    have c2' := c2; unfold inC at c2'
    have hk9 : kCourse r iv wv = 1 := mf_if_t (fun z => absurd z.1 (by assumption))
    exact mf_throw (ik := 38) (is := 89) (ic := 42) (cls := "java/lang/IndexOutOfBoundsException") hx hb hl9 hown (by decide +kernel) (hts (.classLink RX2 38 "java/lang/IndexOutOfBoundsException") (List.mem_of_getElem? (i := 1) rfl)) (hts (.initialized "java/lang/IndexOutOfBoundsException") (List.mem_of_getElem? (i := 2) rfl)) hSX (List.mem_of_getElem? (i := 5) rfl) hat42 xg42 hZ hP hD hS (hl.1.trans hml.symm) dX2_course_11 dX2_course_14 dX2_course_15 dX2_course_17 dX2_course_20 hexc (Nat.le_of_ble_eq_true rfl) (Nat.le_of_ble_eq_true rfl) (Nat.le_of_ble_eq_true rfl) (Nat.le_of_ble_eq_true rfl) hlocks (by exact ⟨rfl, hk9⟩) (Nat.le_of_ble_eq_true rfl) (Nat.le_of_ble_eq_true rfl)
theorem sb_0bdb018a71 {G : mf_G} {h1 p1 a1 f1 ae1 : Nat} {x1 : mf_V} {h2 : Nat} {ad2 : Nat → Nat} {x2 : mf_V} {h3 : Nat} {ad3 : Nat → Nat} {x3 : mf_V} {h4 : Nat} {ad4 : Nat → Nat} {x4 : mf_V} : ([2, 3, 4, 5, 6, 7, 8, 9, 10, 11, 12, 13] : List Nat).map (fun i => (OW G h1 p1 a1 f1 ae1 x1 ++ RW G h2 ad2 x2 ++ RW G h3 ad3 x3 ++ FW G h4 ad4 x4)[i]?) = (RW G h2 ad2 x2).map some := rfl
theorem sb_db03bd95ab {G : mf_G} {h1 p1 a1 f1 ae1 : Nat} {x1 : mf_V} {h2 : Nat} {ad2 : Nat → Nat} {x2 : mf_V} {h3 : Nat} {ad3 : Nat → Nat} {x3 : mf_V} {h4 : Nat} {ad4 : Nat → Nat} {x4 : mf_V} : ([0, 1, 14, 15, 16, 17, 18, 19, 20, 21, 22, 23, 24, 25, 26, 27, 28, 29, 30] : List Nat).map (fun i => (OW G h1 p1 a1 f1 ae1 x1 ++ RW G h2 ad2 x2 ++ RW G h3 ad3 x3 ++ FW G h4 ad4 x4)[i]?) = (OW G h1 p1 a1 f1 ae1 x1 ++ RW G h3 ad3 x3 ++ FW G h4 ad4 x4).map some := rfl
theorem sb_6d1af37a29 {G : mf_G} {h1 p1 a1 f1 ae1 : Nat} {x1 : mf_V} {h2 : Nat} {ad2 : Nat → Nat} {x2 : mf_V} {h3 : Nat} {ad3 : Nat → Nat} {x3 : mf_V} {h4 : Nat} {ad4 : Nat → Nat} {x4 : mf_V} : ([0, 1, 19, 20, 21, 22, 23, 24, 25, 26, 27, 28, 29, 30, 2, 3, 4, 5, 6, 7, 8, 9, 10, 11, 12, 13, 14, 15, 16, 17, 18] : List Nat).filterMap (fun i => ((OW G h1 p1 a1 f1 ae1 x1 ++ RW G h2 ad2 x2 ++ FW G h3 ad3 x3) ++ (RW G h4 ad4 x4))[i]?) = OW G h1 p1 a1 f1 ae1 x1 ++ RW G h4 ad4 x4 ++ RW G h2 ad2 x2 ++ FW G h3 ad3 x3 := rfl
theorem sb_2fb8e8b358 {G : mf_G} {h1 p1 a1 f1 ae1 : Nat} {x1 : mf_V} {h2 : Nat} {ad2 : Nat → Nat} {x2 : mf_V} {h3 : Nat} {ad3 : Nat → Nat} {x3 : mf_V} {h4 : Nat} {ad4 : Nat → Nat} {x4 : mf_V} : ([0, 1, 19, 20, 21, 22, 23, 24, 25, 26, 27, 28, 29, 30, 2, 3, 4, 5, 6, 7, 8, 9, 10, 11, 12, 13, 14, 15, 16, 17, 18] : List Nat).map (fun i => ((OW G h1 p1 a1 f1 ae1 x1 ++ RW G h2 ad2 x2 ++ FW G h3 ad3 x3) ++ (RW G h4 ad4 x4))[i]?) = (OW G h1 p1 a1 f1 ae1 x1 ++ RW G h4 ad4 x4 ++ RW G h2 ad2 x2 ++ FW G h3 ad3 x3).map some := rfl
set_option maxHeartbeats 4000000 in
set_option maxRecDepth 100000 in
theorem c_X2_slip (l : Launch) (hl9 : l.stackTraces = false) (G : mf_G) (ho pn pa pf : Nat) (ae : Nat) (x : mf_V) (adn : Nat → Nat) (r : mf_V) (ada : Nat → Nat) (ra : mf_V) (adf : Nat → Nat) (f : mf_V)  (iv : Int) (sv : Int) (hiv : i32 iv) (hsv : i32 sv) (okx : rOK xlo xhi x) (ok : rOK rlo rhi r) (okra : rOK rlo rhi ra) (okf : rOK flo fhi f) (hI : RInv r) (sz : Nat) : vx_Met l yX2_slip wsX2_slip ({ frames := 6, cells := 1, slots := 6, locals := 94 }) (va_Pc [.ref ho, .int (iI (iv)), .int (iI (sv))] (WrPx G (OW G ho pn pa pf ae x ++ RW G pn adn r ++ RW G pa ada ra ++ FW G pf adf f) sz)) (va_Qi (fun q9 (u : mf_V × mf_V × mf_V × mf_V) => ∃ z : Int, q9 = iI z ∧ kSlip r iv sv = 0 ∧ (rOK xlo xhi u.1 ∧ rOK rlo rhi u.2.1 ∧ rOK rlo rhi u.2.2.1 ∧ rOK flo fhi u.2.2.2) ∧ RInv u.2.1 ∧ Bul r iv sv u.2.1 ∧ u.2.2.2 = f ∧ z = u.2.1 7 0) (fun (u : mf_V × mf_V × mf_V × mf_V) t => WrQ G (va_A (OW G ho pn pa pf ae x ++ RW G pn adn r ++ RW G pa ada ra ++ FW G pf adf f) sz) (OW G ho pn pa pf ae (u.1) ++ RW G pn adn (u.2.1) ++ RW G pa ada (u.2.2.1) ++ FW G pf adf (u.2.2.2)) t) (va_A (OW G ho pn pa pf ae x ++ RW G pn adn r ++ RW G pa ada ra ++ FW G pf adf f) sz)) (vx_X (fun _ : Unit => True) (fun E _ t => ((E = xIO ∧ kSlip r iv sv = 1) ∨ (E = xIA ∧ kSlip r iv sv = 2) ∨ (E = xIS ∧ kSlip r iv sv = 3)) ∧ WrQ G (va_A (OW G ho pn pa pf ae x ++ RW G pn adn r ++ RW G pa ada ra ++ FW G pf adf f) sz) (OW G ho pn pa pf ae x ++ RW G pn adn r ++ RW G pa ada ra ++ FW G pf adf f) t) (va_A (OW G ho pn pa pf ae x ++ RW G pn adn r ++ RW G pa ada ra ++ FW G pf adf f) sz)) 1 6 (va_A (OW G ho pn pa pf ae x ++ RW G pn adn r ++ RW G pa ada ra ++ FW G pf adf f) sz) := by
  refine vx_ofW (cc := cX2_slip) (maxL := 3) (ret := (some .int)) (by decide) rfl ?_
  intro p e s m args below meth c s₁ B hml hexc hv
  obtain ⟨rfl, hsz, hP, hK, hD0, hN, hSX, hCX, hZ⟩ := hv
  have hx := B.exec
  have hb := B.bytes
  have hr := B.returns
  have hts := atoms_spec (ws := wsX2_slip) B.pre
  have hown : s.vm.findClass RX2 = some m.cls := findClass_of_methodNamed B.named
  have hlocks := B.notSynchronized
  have hat42 := vx_hat (fun w h => hts w (List.mem_cons_of_mem _ (List.mem_append_left _ (List.mem_append_left _ (List.mem_append_right _ h))))) xb42 (vx_c (va_Nw.use rfl hCX.1) (vx_c (va_Nw.use rfl hCX.2.2.2.1) (vx_c (va_Nw.use rfl hCX.2.2.2.2.1) (vx_c (va_Nw.use rfl hCX.2.2.2.2.2) vx_n))))
  have hat52 := vx_hat (fun w h => hts w (List.mem_cons_of_mem _ (List.mem_append_left _ (List.mem_append_right _ h)))) xb52 (vx_c (va_Nw.use rfl hCX.2.1) (vx_c (va_Nw.use rfl hCX.2.2.2.1) (vx_c (va_Nw.use rfl hCX.2.2.2.2.1) (vx_c (va_Nw.use rfl hCX.2.2.2.2.2) vx_n))))
  have hat118 := vx_hat (fun w h => hts w (List.mem_cons_of_mem _ (List.mem_append_right _ h))) xb118 (vx_c (va_Nw.use rfl hCX.2.2.1) (vx_c (va_Nw.use rfl hCX.2.2.2.1) (vx_c (va_Nw.use rfl hCX.2.2.2.2.1) (vx_c (va_Nw.use rfl hCX.2.2.2.2.2) vx_n))))
  have hinX1 : ∀ w ∈ u_ws RX1 TX1 14, w ∈ wsX2_slip := fun w h => List.mem_cons_of_mem _ (List.mem_append_left _ (List.mem_append_left _ (List.mem_append_left _ (List.mem_append_right _ h))))
  have hinX2 : ∀ w ∈ u_ws RX2 TX2 4, w ∈ wsX2_slip := fun w h => List.mem_cons_of_mem _ (List.mem_append_left _ (List.mem_append_left _ (List.mem_append_left _ (List.mem_append_left _ (List.mem_append_right _ h)))))
  subst hsz
  have hD := hD0.self (sz := s.heap.size)
  generalize hAe : va_A (OW G ho pn pa pf ae x ++ RW G pn adn r ++ RW G pa ada ra ++ FW G pf adf f) s.heap.size = A at hD hZ ⊢
  have hA : ∀ q : Nat, s.heap.size ≤ q → A q := fun q h => by rw [← hAe]; exact Or.inr h
  have hS : va_S A s.heap s.heap [] := va_S.rf
  have hl := lv_entry ([.ref ho, .int (iI (iv)), .int (iI (sv))]) (n := 3) (Nat.le_of_ble_eq_true rfl)
  rw [lg_entry_eq]
  generalize (lg_sl ([.ref ho, .int (iI (iv)), .int (iI (sv))]) ++ List.replicate (3 - (lg_sl ([.ref ho, .int (iI (iv)), .int (iI (sv))])).length) Slot.unset).toArray = ls at hl ⊢
  have hl : lv_has ls 3 [(0, .ref ho), (1, .int (iI (iv))), (2, .int (iI (sv)))] := hl
  have hiv1 := hiv.1
  have hiv2 := hiv.2
  have hsv1 := hsv.1
  have hsv2 := hsv.2
  have okLr : (0 : Int) ≤ r 7 0 ∧ r 7 0 ≤ 150 := ok 7 0
  have okLra : (0 : Int) ≤ ra 7 0 ∧ ra 7 0 ≤ 150 := okra 7 0
  refine lv_aload_n hx hb dX2_slip_0 rfl (lv_at hl 0 rfl) ?_
  refine va_get (D := G.1) (ci := 2) (v := .ref pn) (C := RX2) (T := TX2) (N := 4) hx hb hts hinX2 hown hK hP 0 rfl rfl 0 (by decide) (hts (.fieldLink RX2 16 "MeanderFarm" "now" "LMeanderFarm$River;") (List.mem_of_getElem? (i := 7) rfl)) (fun _ h9 => h9) rfl dX2_slip_1 ?_
  refine lv_iload_n hx hb dX2_slip_4 rfl (lv_at hl 1 rfl) ?_
  refine vp_callSi (va_Run.run (va_runVN (As := [.int (iI (iv))]) (rest := []) ⟨hx, hb, hml, hown, hts⟩ (c_X1_isInCourse l G pn adn r (iv) (i32_mk (by omega) (by omega)) (by assumption)) ⟨(va_cnB 1 hts gX2_slip_X1_isInCourse_n86 rfl rfl rfl (hN.m 22 rfl) (hts (.initialized RX1) (List.mem_of_getElem? (i := 9) rfl)) (by decide +kernel) ⟨Nat.le_of_ble_eq_true rfl, Nat.le_of_ble_eq_true rfl⟩), (hts (.instanceMethod yX1_isInCourse) (List.mem_of_getElem? (i := 8) rfl)), (hts (.selects RX1 yX1_isInCourse yX1_isInCourse) (List.mem_of_getElem? (i := 10) rfl))⟩ (rdV (wc := RW G pn adn r) hK hP hN [2, 3, 4, 5, 6, 7, 8, 9, 10, 11, 12, 13] sb_9548ab2e14 (ci := 1) rfl rfl) rfl rfl hl.1 rfl (lv_room (Nat.le_of_ble_eq_true rfl)) dX2_slip_5 ⟨(Nat.zero_le _), (Nat.zero_le _)⟩)) (fun q1 hq1 => ?_)
  subst hq1
  refine mf_bp_ne (tgt := 21) hx hb dX2_slip_8 (by decide) (fun c2 => ?_) (fun c2 => ?_)
  · skip
    have c2' := c2; unfold inC at c2'
    refine lv_iload_n hx hb dX2_slip_21 rfl (lv_at hl 2 rfl) ?_
    refine mf_if_lt (tgt := 30) hx hb dX2_slip_22 (by decide) (i32_mk (by omega) (by omega)) (fun c3 => ?_) (fun c3 => ?_)
    · skip
      have hk9 : kSlip r iv sv = 2 := (mf_if_f (fun z => z (by assumption))).trans (mf_if_t (by omega))
      exact mf_throw (ik := 48) (is := 108) (ic := 52) (cls := "java/lang/IllegalArgumentException") hx hb hl9 hown (by decide +kernel) (hts (.classLink RX2 48 "java/lang/IllegalArgumentException") (List.mem_of_getElem? (i := 3) rfl)) (hts (.initialized "java/lang/IllegalArgumentException") (List.mem_of_getElem? (i := 4) rfl)) hSX (List.mem_of_getElem? (i := 7) rfl) hat52 xg52 hZ hP hD hS (hl.1.trans hml.symm) dX2_slip_30 dX2_slip_33 dX2_slip_34 dX2_slip_36 dX2_slip_39 hexc (Nat.le_of_ble_eq_true rfl) (Nat.le_of_ble_eq_true rfl) (Nat.le_of_ble_eq_true rfl) (Nat.le_of_ble_eq_true rfl) hlocks (by exact Or.inr (Or.inl ⟨rfl, hk9⟩)) (Nat.le_of_ble_eq_true rfl) (Nat.le_of_ble_eq_true rfl)
    · skip
      refine lv_iload_n hx hb dX2_slip_25 rfl (lv_at hl 2 rfl) ?_
      refine mf_iconst hx hb dX2_slip_26 ?_
      refine mf_icmp_lt (tgt := 40) hx hb dX2_slip_27 (by decide) (i32_mk (by omega) (by omega)) (i32_mk (by decide) (by decide)) (fun c4 => ?_) (fun c4 => ?_)
      · skip
        refine lv_aload_n hx hb dX2_slip_40 rfl (lv_at hl 0 rfl) ?_
        refine va_get (D := G.1) (ci := 2) (v := .ref pn) (C := RX2) (T := TX2) (N := 4) hx hb hts hinX2 hown hK hP 0 rfl rfl 0 (by decide) (hts (.fieldLink RX2 16 "MeanderFarm" "now" "LMeanderFarm$River;") (List.mem_of_getElem? (i := 7) rfl)) (fun _ h9 => h9) rfl dX2_slip_41 ?_
        refine lv_iload_n hx hb dX2_slip_44 rfl (lv_at hl 1 rfl) ?_
        refine lv_iload_n hx hb dX2_slip_45 rfl (lv_at hl 2 rfl) ?_
        refine vp_callSi (va_Run.run (va_runVN (As := [.int (iI (iv)), .int (iI (sv))]) (rest := []) ⟨hx, hb, hml, hown, hts⟩ (c_X1_canBulge l G pn adn r (iv) (sv) (i32_mk (by omega) (by omega)) (i32_mk (by omega) (by omega)) (by assumption) (by exact dirPos hI)) ⟨(va_cnB 2 hts gX2_slip_X1_canBulge_n110 rfl rfl rfl (hN.m 0 rfl) (hts (.initialized RX1) (List.mem_of_getElem? (i := 9) rfl)) (by decide +kernel) ⟨Nat.le_of_ble_eq_true rfl, Nat.le_of_ble_eq_true rfl⟩), (hts (.instanceMethod yX1_canBulge) (List.mem_of_getElem? (i := 13) rfl)), (hts (.selects RX1 yX1_canBulge yX1_canBulge) (List.mem_of_getElem? (i := 14) rfl))⟩ (rdV (wc := RW G pn adn r) hK hP hN [2, 3, 4, 5, 6, 7, 8, 9, 10, 11, 12, 13] sb_9548ab2e14 (ci := 1) rfl rfl) rfl rfl hl.1 rfl (lv_room (Nat.le_of_ble_eq_true rfl)) dX2_slip_46 ⟨(Nat.zero_le _), (Nat.zero_le _)⟩)) (fun q5 hq5 => ?_)
        subst hq5
        refine mf_bp_ne (tgt := 62) hx hb dX2_slip_49 (by decide) (fun c6 => ?_) (fun c6 => ?_)
        · skip
          refine lv_aload_n hx hb dX2_slip_62 rfl (lv_at hl 0 rfl) ?_
          refine va_get (D := G.1) (ci := 2) (v := .ref pn) (C := RX2) (T := TX2) (N := 4) hx hb hts hinX2 hown hK hP 0 rfl rfl 0 (by decide) (hts (.fieldLink RX2 16 "MeanderFarm" "now" "LMeanderFarm$River;") (List.mem_of_getElem? (i := 7) rfl)) (fun _ h9 => h9) rfl dX2_slip_63 ?_
          refine lv_iload_n hx hb dX2_slip_66 rfl (lv_at hl 1 rfl) ?_
          refine lv_iload_n hx hb dX2_slip_67 rfl (lv_at hl 2 rfl) ?_
          have hFc := va_free (wc := RW G pn adn r) hD hS hA [2, 3, 4, 5, 6, 7, 8, 9, 10, 11, 12, 13] sb_0bdb018a71
          refine va_callv (va_runVN (As := [.int (iI (iv)), .int (iI (sv))]) (rest := []) ⟨hx, hb, hml, hown, hts⟩ (c_X1_bulge l G pn adn r (iv) (sv) (i32_mk (by omega) (by omega)) (i32_mk (by omega) (by omega)) (by assumption) (by first | assumption | omega) (by assumption) _) ⟨(va_cnB 2 hts gX2_slip_X1_bulge_n119 rfl rfl rfl (hN.m 1 rfl) (hts (.initialized RX1) (List.mem_of_getElem? (i := 9) rfl)) (by decide +kernel) ⟨Nat.le_of_ble_eq_true rfl, Nat.le_of_ble_eq_true rfl⟩), (hts (.instanceMethod yX1_bulge) (List.mem_of_getElem? (i := 38) rfl)), (hts (.selects RX1 yX1_bulge yX1_bulge) (List.mem_of_getElem? (i := 39) rfl))⟩ (wrV (wc := RW G pn adn r) hK hP hD hN [2, 3, 4, 5, 6, 7, 8, 9, 10, 11, 12, 13] (by decide +kernel) sb_9548ab2e14 sb_0bdb018a71 (ci := 1) rfl rfl) rfl rfl hl.1 rfl (lv_room (Nat.le_of_ble_eq_true rfl)) dX2_slip_68 ⟨(Nat.zero_le _), (Nat.zero_le _)⟩) hS (fun q _ h => hFc q h) hFc (fun u8 t H1 locs ht hvm hw hB hz1 hk1 hS => ?_)
          obtain ⟨r9, rfl⟩ : ∃ z, z = u8 := ⟨_, rfl⟩
          try dsimp only at hw hB
          obtain ⟨hP, hD⟩ := wrJ2 (ws := OW G ho pn pa pf ae x ++ RW G pn adn r ++ RW G pa ada ra ++ FW G pf adf f) (wc := RW G pn adn r) (wr := OW G ho pn pa pf ae x ++ RW G pa ada ra ++ FW G pf adf f) (w1 := RW G pn adn r9) hP hD [2, 3, 4, 5, 6, 7, 8, 9, 10, 11, 12, 13] [0, 1, 14, 15, 16, 17, 18, 19, 20, 21, 22, 23, 24, 25, 26, 27, 28, 29, 30] sb_0bdb018a71 sb_db03bd95ab (by decide +kernel) (by decide +kernel) hk1 ht hFc hB
          have hP : va_P G.1 vwCl (OW G ho pn pa pf ae x ++ RW G pn adn r9 ++ RW G pa ada ra ++ FW G pf adf f) H1 := hP.sub [0, 1, 19, 20, 21, 22, 23, 24, 25, 26, 27, 28, 29, 30, 2, 3, 4, 5, 6, 7, 8, 9, 10, 11, 12, 13, 14, 15, 16, 17, 18] sb_6d1af37a29
          have hD : va_D A (OW G ho pn pa pf ae x ++ RW G pn adn r9 ++ RW G pa ada ra ++ FW G pf adf f) := hD.sub [0, 1, 19, 20, 21, 22, 23, 24, 25, 26, 27, 28, 29, 30, 2, 3, 4, 5, 6, 7, 8, 9, 10, 11, 12, 13, 14, 15, 16, 17, 18] (by decide +kernel) sb_2fb8e8b358
          have hP : va_P G.1 vwCl (OW G ho pn pa pf ae x ++ RW G pn adn r9 ++ RW G pa ada ra ++ FW G pf adf f) H1 := hP
          have hD : va_D A (OW G ho pn pa pf ae x ++ RW G pn adn r9 ++ RW G pa ada ra ++ FW G pf adf f) := hD
          clear hB hk1 hFc ht hz1 hvm
          generalize H1 = H at hP hS ⊢
          have w10 := hw; clear hw
          have okr9 : rOK rlo rhi r9 := w10.1
          refine lv_aload_n hx hb dX2_slip_71 rfl (lv_at hl 0 rfl) ?_
          refine va_get (D := G.1) (ci := 2) (v := .ref pn) (C := RX2) (T := TX2) (N := 4) hx hb hts hinX2 hown hK hP 0 rfl rfl 0 (by decide) (hts (.fieldLink RX2 16 "MeanderFarm" "now" "LMeanderFarm$River;") (List.mem_of_getElem? (i := 7) rfl)) (fun _ h9 => h9) rfl dX2_slip_72 ?_
          refine va_getN (D := G.1) (ci := 1) (v := .int (iI (r9 7 0))) (C := RX1) (T := TX1) (N := 14) hx hb hts hinX1 hown hK hP 2 rfl rfl 7 (by decide) (va_Nw.use rfl (hN.f 2 rfl)) (fun _ h9 => h9) rfl dX2_slip_75 ?_
          have b11 : (0 : Int) ≤ r9 7 0 ∧ r9 7 0 ≤ 150 := okr9 7 (0)
          have hk9 : kSlip r iv sv = 0 := (mf_if_f (fun z => z (by assumption))).trans ((mf_if_f (fun z => z (by omega))).trans (mf_if_f (fun z => z (by assumption))))
          refine W.widen (k := 1) (n := 6) (Nat.le_of_ble_eq_true rfl) (Nat.le_of_ble_eq_true rfl) ?_
          refine vx_ret ?_
          exact W.iret hx hb hr (fun t ht hW => ⟨⟨_, (x, r9, ra, f), rfl, ⟨_, rfl, by (try dsimp only); exact ⟨hk9, ⟨okx, okr9, okra, okf⟩, w10.2.2, w10.2.1, rfl, rfl⟩⟩, by rw [ht]; exact hP, hD⟩, hS.F ht⟩) hS.2.2 dX2_slip_78
        · skip
          have hk9 : kSlip r iv sv = 3 := (mf_if_f (fun z => z (by assumption))).trans ((mf_if_f (fun z => z (by omega))).trans (mf_if_t (by assumption)))
          exact mf_throw (ik := 114) (is := 116) (ic := 118) (cls := "java/lang/IllegalStateException") hx hb hl9 hown (by decide +kernel) (hts (.classLink RX2 114 "java/lang/IllegalStateException") (List.mem_of_getElem? (i := 5) rfl)) (hts (.initialized "java/lang/IllegalStateException") (List.mem_of_getElem? (i := 6) rfl)) hSX (List.mem_of_getElem? (i := 8) rfl) hat118 xg118 hZ hP hD hS (hl.1.trans hml.symm) dX2_slip_52 dX2_slip_55 dX2_slip_56 dX2_slip_58 dX2_slip_61 hexc (Nat.le_of_ble_eq_true rfl) (Nat.le_of_ble_eq_true rfl) (Nat.le_of_ble_eq_true rfl) (Nat.le_of_ble_eq_true rfl) hlocks (by exact Or.inr (Or.inr (⟨rfl, hk9⟩))) (Nat.le_of_ble_eq_true rfl) (Nat.le_of_ble_eq_true rfl)
      · skip
        have hk9 : kSlip r iv sv = 2 := (mf_if_f (fun z => z (by assumption))).trans (mf_if_t (by omega))
        exact mf_throw (ik := 48) (is := 108) (ic := 52) (cls := "java/lang/IllegalArgumentException") hx hb hl9 hown (by decide +kernel) (hts (.classLink RX2 48 "java/lang/IllegalArgumentException") (List.mem_of_getElem? (i := 3) rfl)) (hts (.initialized "java/lang/IllegalArgumentException") (List.mem_of_getElem? (i := 4) rfl)) hSX (List.mem_of_getElem? (i := 7) rfl) hat52 xg52 hZ hP hD hS (hl.1.trans hml.symm) dX2_slip_30 dX2_slip_33 dX2_slip_34 dX2_slip_36 dX2_slip_39 hexc (Nat.le_of_ble_eq_true rfl) (Nat.le_of_ble_eq_true rfl) (Nat.le_of_ble_eq_true rfl) (Nat.le_of_ble_eq_true rfl) hlocks (by exact Or.inr (Or.inl ⟨rfl, hk9⟩)) (Nat.le_of_ble_eq_true rfl) (Nat.le_of_ble_eq_true rfl)
  · skip
    have c2' := c2; unfold inC at c2'
    have hk9 : kSlip r iv sv = 1 := mf_if_t (by assumption)
    exact mf_throw (ik := 38) (is := 89) (ic := 42) (cls := "java/lang/IndexOutOfBoundsException") hx hb hl9 hown (by decide +kernel) (hts (.classLink RX2 38 "java/lang/IndexOutOfBoundsException") (List.mem_of_getElem? (i := 1) rfl)) (hts (.initialized "java/lang/IndexOutOfBoundsException") (List.mem_of_getElem? (i := 2) rfl)) hSX (List.mem_of_getElem? (i := 5) rfl) hat42 xg42 hZ hP hD hS (hl.1.trans hml.symm) dX2_slip_11 dX2_slip_14 dX2_slip_15 dX2_slip_17 dX2_slip_20 hexc (Nat.le_of_ble_eq_true rfl) (Nat.le_of_ble_eq_true rfl) (Nat.le_of_ble_eq_true rfl) (Nat.le_of_ble_eq_true rfl) hlocks (by exact Or.inl ⟨rfl, hk9⟩) (Nat.le_of_ble_eq_true rfl) (Nat.le_of_ble_eq_true rfl)
set_option maxHeartbeats 4000000 in
set_option maxRecDepth 100000 in
theorem c_X2_dig (l : Launch) (hl9 : l.stackTraces = false) (G : mf_G) (ho pn pa pf : Nat) (ae : Nat) (x : mf_V) (adn : Nat → Nat) (r : mf_V) (ada : Nat → Nat) (ra : mf_V) (adf : Nat → Nat) (f : mf_V)  (iv : Int) (jv : Int) (hiv : i32 iv) (hjv : i32 jv) (okx : rOK xlo xhi x) (ok : rOK rlo rhi r) (okra : rOK rlo rhi ra) (okf : rOK flo fhi f) (hI : RInv r) (hbk : r 9 0 < 100000000) (sz : Nat) : vx_Met l yX2_dig wsX2_dig ({ frames := 6, cells := 1, slots := 6, locals := 92 }) (va_Pc [.ref ho, .int (iI (iv)), .int (iI (jv))] (WrPx G (OW G ho pn pa pf ae x ++ RW G pn adn r ++ RW G pa ada ra ++ FW G pf adf f) sz)) (va_Qi (fun q9 (u : mf_V × mf_V × mf_V × mf_V) => ∃ z : Int, q9 = iI z ∧ kDig r iv jv = 0 ∧ (rOK xlo xhi u.1 ∧ rOK rlo rhi u.2.1 ∧ rOK rlo rhi u.2.2.1 ∧ rOK flo fhi u.2.2.2) ∧ RInv u.2.1 ∧ Brk r iv jv u.2.1 ∧ u.2.2.2 = f ∧ z = u.2.1 7 0) (fun (u : mf_V × mf_V × mf_V × mf_V) t => WrQ G (va_A (OW G ho pn pa pf ae x ++ RW G pn adn r ++ RW G pa ada ra ++ FW G pf adf f) sz) (OW G ho pn pa pf ae (u.1) ++ RW G pn adn (u.2.1) ++ RW G pa ada (u.2.2.1) ++ FW G pf adf (u.2.2.2)) t) (va_A (OW G ho pn pa pf ae x ++ RW G pn adn r ++ RW G pa ada ra ++ FW G pf adf f) sz)) (vx_X (fun _ : Unit => True) (fun E _ t => ((E = xIO ∧ kDig r iv jv = 1) ∨ (E = xIS ∧ kDig r iv jv = 2)) ∧ WrQ G (va_A (OW G ho pn pa pf ae x ++ RW G pn adn r ++ RW G pa ada ra ++ FW G pf adf f) sz) (OW G ho pn pa pf ae x ++ RW G pn adn r ++ RW G pa ada ra ++ FW G pf adf f) t) (va_A (OW G ho pn pa pf ae x ++ RW G pn adn r ++ RW G pa ada ra ++ FW G pf adf f) sz)) 1 6 (va_A (OW G ho pn pa pf ae x ++ RW G pn adn r ++ RW G pa ada ra ++ FW G pf adf f) sz) := by
  refine vx_ofW (cc := cX2_dig) (maxL := 3) (ret := (some .int)) (by decide) rfl ?_
  intro p e s m args below meth c s₁ B hml hexc hv
  obtain ⟨rfl, hsz, hP, hK, hD0, hN, hSX, hCX, hZ⟩ := hv
  have hx := B.exec
  have hb := B.bytes
  have hr := B.returns
  have hts := atoms_spec (ws := wsX2_dig) B.pre
  have hown : s.vm.findClass RX2 = some m.cls := findClass_of_methodNamed B.named
  have hlocks := B.notSynchronized
  have hat42 := vx_hat (fun w h => hts w (List.mem_cons_of_mem _ (List.mem_append_left _ (List.mem_append_right _ h)))) xb42 (vx_c (va_Nw.use rfl hCX.1) (vx_c (va_Nw.use rfl hCX.2.2.2.1) (vx_c (va_Nw.use rfl hCX.2.2.2.2.1) (vx_c (va_Nw.use rfl hCX.2.2.2.2.2) vx_n))))
  have hat118 := vx_hat (fun w h => hts w (List.mem_cons_of_mem _ (List.mem_append_right _ h))) xb118 (vx_c (va_Nw.use rfl hCX.2.2.1) (vx_c (va_Nw.use rfl hCX.2.2.2.1) (vx_c (va_Nw.use rfl hCX.2.2.2.2.1) (vx_c (va_Nw.use rfl hCX.2.2.2.2.2) vx_n))))
  have hinX1 : ∀ w ∈ u_ws RX1 TX1 14, w ∈ wsX2_dig := fun w h => List.mem_cons_of_mem _ (List.mem_append_left _ (List.mem_append_left _ (List.mem_append_right _ h)))
  have hinX2 : ∀ w ∈ u_ws RX2 TX2 4, w ∈ wsX2_dig := fun w h => List.mem_cons_of_mem _ (List.mem_append_left _ (List.mem_append_left _ (List.mem_append_left _ (List.mem_append_right _ h))))
  subst hsz
  have hD := hD0.self (sz := s.heap.size)
  generalize hAe : va_A (OW G ho pn pa pf ae x ++ RW G pn adn r ++ RW G pa ada ra ++ FW G pf adf f) s.heap.size = A at hD hZ ⊢
  have hA : ∀ q : Nat, s.heap.size ≤ q → A q := fun q h => by rw [← hAe]; exact Or.inr h
  have hS : va_S A s.heap s.heap [] := va_S.rf
  have hl := lv_entry ([.ref ho, .int (iI (iv)), .int (iI (jv))]) (n := 3) (Nat.le_of_ble_eq_true rfl)
  rw [lg_entry_eq]
  generalize (lg_sl ([.ref ho, .int (iI (iv)), .int (iI (jv))]) ++ List.replicate (3 - (lg_sl ([.ref ho, .int (iI (iv)), .int (iI (jv))])).length) Slot.unset).toArray = ls at hl ⊢
  have hl : lv_has ls 3 [(0, .ref ho), (1, .int (iI (iv))), (2, .int (iI (jv)))] := hl
  have hiv1 := hiv.1
  have hiv2 := hiv.2
  have hjv1 := hjv.1
  have hjv2 := hjv.2
  have okLr : (0 : Int) ≤ r 7 0 ∧ r 7 0 ≤ 150 := ok 7 0
  have okLra : (0 : Int) ≤ ra 7 0 ∧ ra 7 0 ≤ 150 := okra 7 0
  refine lv_aload_n hx hb dX2_dig_0 rfl (lv_at hl 0 rfl) ?_
  refine va_get (D := G.1) (ci := 2) (v := .ref pn) (C := RX2) (T := TX2) (N := 4) hx hb hts hinX2 hown hK hP 0 rfl rfl 0 (by decide) (hts (.fieldLink RX2 16 "MeanderFarm" "now" "LMeanderFarm$River;") (List.mem_of_getElem? (i := 5) rfl)) (fun _ h9 => h9) rfl dX2_dig_1 ?_
  refine lv_iload_n hx hb dX2_dig_4 rfl (lv_at hl 1 rfl) ?_
  refine vp_callSi (va_Run.run (va_runVN (As := [.int (iI (iv))]) (rest := []) ⟨hx, hb, hml, hown, hts⟩ (c_X1_isInCourse l G pn adn r (iv) (i32_mk (by omega) (by omega)) (by assumption)) ⟨(va_cnB 1 hts gX2_dig_X1_isInCourse_n86 rfl rfl rfl (hN.m 22 rfl) (hts (.initialized RX1) (List.mem_of_getElem? (i := 7) rfl)) (by decide +kernel) ⟨Nat.le_of_ble_eq_true rfl, Nat.le_of_ble_eq_true rfl⟩), (hts (.instanceMethod yX1_isInCourse) (List.mem_of_getElem? (i := 6) rfl)), (hts (.selects RX1 yX1_isInCourse yX1_isInCourse) (List.mem_of_getElem? (i := 8) rfl))⟩ (rdV (wc := RW G pn adn r) hK hP hN [2, 3, 4, 5, 6, 7, 8, 9, 10, 11, 12, 13] sb_9548ab2e14 (ci := 1) rfl rfl) rfl rfl hl.1 rfl (lv_room (Nat.le_of_ble_eq_true rfl)) dX2_dig_5 ⟨(Nat.zero_le _), (Nat.zero_le _)⟩)) (fun q1 hq1 => ?_)
  subst hq1
  refine mf_bp_eq (tgt := 22) hx hb dX2_dig_8 (by decide) (fun c2 => ?_) (fun c2 => ?_)
  · skip
    have c2' := c2; unfold inC at c2'
    have hk9 : kDig r iv jv = 1 := mf_if_t (fun z => by first | (exact absurd z.1 (by assumption)) | (exact absurd z.2 (by assumption)))
    exact mf_throw (ik := 38) (is := 89) (ic := 42) (cls := "java/lang/IndexOutOfBoundsException") hx hb hl9 hown (by decide +kernel) (hts (.classLink RX2 38 "java/lang/IndexOutOfBoundsException") (List.mem_of_getElem? (i := 1) rfl)) (hts (.initialized "java/lang/IndexOutOfBoundsException") (List.mem_of_getElem? (i := 2) rfl)) hSX (List.mem_of_getElem? (i := 5) rfl) hat42 xg42 hZ hP hD hS (hl.1.trans hml.symm) dX2_dig_22 dX2_dig_25 dX2_dig_26 dX2_dig_28 dX2_dig_31 hexc (Nat.le_of_ble_eq_true rfl) (Nat.le_of_ble_eq_true rfl) (Nat.le_of_ble_eq_true rfl) (Nat.le_of_ble_eq_true rfl) hlocks (by exact Or.inl ⟨rfl, hk9⟩) (Nat.le_of_ble_eq_true rfl) (Nat.le_of_ble_eq_true rfl)
  · skip
    have c2' := c2; unfold inC at c2'
    refine lv_aload_n hx hb dX2_dig_11 rfl (lv_at hl 0 rfl) ?_
    refine va_get (D := G.1) (ci := 2) (v := .ref pn) (C := RX2) (T := TX2) (N := 4) hx hb hts hinX2 hown hK hP 0 rfl rfl 0 (by decide) (hts (.fieldLink RX2 16 "MeanderFarm" "now" "LMeanderFarm$River;") (List.mem_of_getElem? (i := 5) rfl)) (fun _ h9 => h9) rfl dX2_dig_12 ?_
    refine lv_iload_n hx hb dX2_dig_15 rfl (lv_at hl 2 rfl) ?_
    refine vp_callSi (va_Run.run (va_runVN (As := [.int (iI (jv))]) (rest := []) ⟨hx, hb, hml, hown, hts⟩ (c_X1_isInCourse l G pn adn r (jv) (i32_mk (by omega) (by omega)) (by assumption)) ⟨(va_cnB 1 hts gX2_dig_X1_isInCourse_n86 rfl rfl rfl (hN.m 22 rfl) (hts (.initialized RX1) (List.mem_of_getElem? (i := 7) rfl)) (by decide +kernel) ⟨Nat.le_of_ble_eq_true rfl, Nat.le_of_ble_eq_true rfl⟩), (hts (.instanceMethod yX1_isInCourse) (List.mem_of_getElem? (i := 6) rfl)), (hts (.selects RX1 yX1_isInCourse yX1_isInCourse) (List.mem_of_getElem? (i := 8) rfl))⟩ (rdV (wc := RW G pn adn r) hK hP hN [2, 3, 4, 5, 6, 7, 8, 9, 10, 11, 12, 13] sb_9548ab2e14 (ci := 1) rfl rfl) rfl rfl hl.1 rfl (lv_room (Nat.le_of_ble_eq_true rfl)) dX2_dig_16 ⟨(Nat.zero_le _), (Nat.zero_le _)⟩)) (fun q3 hq3 => ?_)
    subst hq3
    refine mf_bp_ne (tgt := 32) hx hb dX2_dig_19 (by decide) (fun c4 => ?_) (fun c4 => ?_)
    · skip
      have c4' := c4; unfold inC at c4'
      refine lv_aload_n hx hb dX2_dig_32 rfl (lv_at hl 0 rfl) ?_
      refine va_get (D := G.1) (ci := 2) (v := .ref pn) (C := RX2) (T := TX2) (N := 4) hx hb hts hinX2 hown hK hP 0 rfl rfl 0 (by decide) (hts (.fieldLink RX2 16 "MeanderFarm" "now" "LMeanderFarm$River;") (List.mem_of_getElem? (i := 5) rfl)) (fun _ h9 => h9) rfl dX2_dig_33 ?_
      refine lv_iload_n hx hb dX2_dig_36 rfl (lv_at hl 1 rfl) ?_
      refine lv_iload_n hx hb dX2_dig_37 rfl (lv_at hl 2 rfl) ?_
      refine vp_callSi (va_Run.run (va_runVN (As := [.int (iI (iv)), .int (iI (jv))]) (rest := []) ⟨hx, hb, hml, hown, hts⟩ (c_X1_isNeck l G pn adn r (iv) (jv) (i32_mk (by omega) (by omega)) (i32_mk (by omega) (by omega)) (by assumption)) ⟨(va_cnB 2 hts gX2_dig_X1_isNeck_n127 rfl rfl rfl (hN.m 2 rfl) (hts (.initialized RX1) (List.mem_of_getElem? (i := 7) rfl)) (by decide +kernel) ⟨Nat.le_of_ble_eq_true rfl, Nat.le_of_ble_eq_true rfl⟩), (hts (.instanceMethod yX1_isNeck) (List.mem_of_getElem? (i := 11) rfl)), (hts (.selects RX1 yX1_isNeck yX1_isNeck) (List.mem_of_getElem? (i := 12) rfl))⟩ (rdV (wc := RW G pn adn r) hK hP hN [2, 3, 4, 5, 6, 7, 8, 9, 10, 11, 12, 13] sb_9548ab2e14 (ci := 1) rfl rfl) rfl rfl hl.1 rfl (lv_room (Nat.le_of_ble_eq_true rfl)) dX2_dig_38 ⟨(Nat.zero_le _), (Nat.zero_le _)⟩)) (fun q5 hq5 => ?_)
      subst hq5
      refine mf_bp_ne (tgt := 54) hx hb dX2_dig_41 (by decide) (fun c6 => ?_) (fun c6 => ?_)
      · skip
        refine lv_aload_n hx hb dX2_dig_54 rfl (lv_at hl 0 rfl) ?_
        refine va_get (D := G.1) (ci := 2) (v := .ref pn) (C := RX2) (T := TX2) (N := 4) hx hb hts hinX2 hown hK hP 0 rfl rfl 0 (by decide) (hts (.fieldLink RX2 16 "MeanderFarm" "now" "LMeanderFarm$River;") (List.mem_of_getElem? (i := 5) rfl)) (fun _ h9 => h9) rfl dX2_dig_55 ?_
        refine lv_iload_n hx hb dX2_dig_58 rfl (lv_at hl 1 rfl) ?_
        refine lv_iload_n hx hb dX2_dig_59 rfl (lv_at hl 2 rfl) ?_
        have hFc := va_free (wc := RW G pn adn r) hD hS hA [2, 3, 4, 5, 6, 7, 8, 9, 10, 11, 12, 13] sb_0bdb018a71
        refine va_callv (va_runVN (As := [.int (iI (iv)), .int (iI (jv))]) (rest := []) ⟨hx, hb, hml, hown, hts⟩ (c_X1_breakThrough l G pn adn r (iv) (jv) (i32_mk (by omega) (by omega)) (i32_mk (by omega) (by omega)) (by assumption) (by first | assumption | omega) (by assumption) (by first | assumption | omega) _) ⟨(va_cnB 2 hts gX2_dig_X1_breakThrough_n132 rfl rfl rfl (hN.m 3 rfl) (hts (.initialized RX1) (List.mem_of_getElem? (i := 7) rfl)) (by decide +kernel) ⟨Nat.le_of_ble_eq_true rfl, Nat.le_of_ble_eq_true rfl⟩), (hts (.instanceMethod yX1_breakThrough) (List.mem_of_getElem? (i := 22) rfl)), (hts (.selects RX1 yX1_breakThrough yX1_breakThrough) (List.mem_of_getElem? (i := 23) rfl))⟩ (wrV (wc := RW G pn adn r) hK hP hD hN [2, 3, 4, 5, 6, 7, 8, 9, 10, 11, 12, 13] (by decide +kernel) sb_9548ab2e14 sb_0bdb018a71 (ci := 1) rfl rfl) rfl rfl hl.1 rfl (lv_room (Nat.le_of_ble_eq_true rfl)) dX2_dig_60 ⟨(Nat.zero_le _), (Nat.zero_le _)⟩) hS (fun q _ h => hFc q h) hFc (fun u8 t H1 locs ht hvm hw hB hz1 hk1 hS => ?_)
        obtain ⟨r9, rfl⟩ : ∃ z, z = u8 := ⟨_, rfl⟩
        try dsimp only at hw hB
        obtain ⟨hP, hD⟩ := wrJ2 (ws := OW G ho pn pa pf ae x ++ RW G pn adn r ++ RW G pa ada ra ++ FW G pf adf f) (wc := RW G pn adn r) (wr := OW G ho pn pa pf ae x ++ RW G pa ada ra ++ FW G pf adf f) (w1 := RW G pn adn r9) hP hD [2, 3, 4, 5, 6, 7, 8, 9, 10, 11, 12, 13] [0, 1, 14, 15, 16, 17, 18, 19, 20, 21, 22, 23, 24, 25, 26, 27, 28, 29, 30] sb_0bdb018a71 sb_db03bd95ab (by decide +kernel) (by decide +kernel) hk1 ht hFc hB
        have hP : va_P G.1 vwCl (OW G ho pn pa pf ae x ++ RW G pn adn r9 ++ RW G pa ada ra ++ FW G pf adf f) H1 := hP.sub [0, 1, 19, 20, 21, 22, 23, 24, 25, 26, 27, 28, 29, 30, 2, 3, 4, 5, 6, 7, 8, 9, 10, 11, 12, 13, 14, 15, 16, 17, 18] sb_6d1af37a29
        have hD : va_D A (OW G ho pn pa pf ae x ++ RW G pn adn r9 ++ RW G pa ada ra ++ FW G pf adf f) := hD.sub [0, 1, 19, 20, 21, 22, 23, 24, 25, 26, 27, 28, 29, 30, 2, 3, 4, 5, 6, 7, 8, 9, 10, 11, 12, 13, 14, 15, 16, 17, 18] (by decide +kernel) sb_2fb8e8b358
        have hP : va_P G.1 vwCl (OW G ho pn pa pf ae x ++ RW G pn adn r9 ++ RW G pa ada ra ++ FW G pf adf f) H1 := hP
        have hD : va_D A (OW G ho pn pa pf ae x ++ RW G pn adn r9 ++ RW G pa ada ra ++ FW G pf adf f) := hD
        clear hB hk1 hFc ht hz1 hvm
        generalize H1 = H at hP hS ⊢
        have w10 := hw; clear hw
        have okr9 : rOK rlo rhi r9 := w10.1
        refine lv_aload_n hx hb dX2_dig_63 rfl (lv_at hl 0 rfl) ?_
        refine va_get (D := G.1) (ci := 2) (v := .ref pn) (C := RX2) (T := TX2) (N := 4) hx hb hts hinX2 hown hK hP 0 rfl rfl 0 (by decide) (hts (.fieldLink RX2 16 "MeanderFarm" "now" "LMeanderFarm$River;") (List.mem_of_getElem? (i := 5) rfl)) (fun _ h9 => h9) rfl dX2_dig_64 ?_
        refine va_getN (D := G.1) (ci := 1) (v := .int (iI (r9 7 0))) (C := RX1) (T := TX1) (N := 14) hx hb hts hinX1 hown hK hP 2 rfl rfl 7 (by decide) (va_Nw.use rfl (hN.f 2 rfl)) (fun _ h9 => h9) rfl dX2_dig_67 ?_
        have b11 : (0 : Int) ≤ r9 7 0 ∧ r9 7 0 ≤ 150 := okr9 7 (0)
        have hk9 : kDig r iv jv = 0 := (mf_if_f (fun z => z ⟨by assumption, by assumption⟩)).trans (mf_if_f (fun z => z (by assumption)))
        refine W.widen (k := 1) (n := 6) (Nat.le_of_ble_eq_true rfl) (Nat.le_of_ble_eq_true rfl) ?_
        refine vx_ret ?_
        exact W.iret hx hb hr (fun t ht hW => ⟨⟨_, (x, r9, ra, f), rfl, ⟨_, rfl, by (try dsimp only); exact ⟨hk9, ⟨okx, okr9, okra, okf⟩, w10.2.2, w10.2.1, rfl, rfl⟩⟩, by rw [ht]; exact hP, hD⟩, hS.F ht⟩) hS.2.2 dX2_dig_70
      · skip
        have hk9 : kDig r iv jv = 2 := (mf_if_f (fun z => z ⟨by assumption, by assumption⟩)).trans (mf_if_t (by assumption))
        exact mf_throw (ik := 114) (is := 130) (ic := 118) (cls := "java/lang/IllegalStateException") hx hb hl9 hown (by decide +kernel) (hts (.classLink RX2 114 "java/lang/IllegalStateException") (List.mem_of_getElem? (i := 3) rfl)) (hts (.initialized "java/lang/IllegalStateException") (List.mem_of_getElem? (i := 4) rfl)) hSX (List.mem_of_getElem? (i := 9) rfl) hat118 xg118 hZ hP hD hS (hl.1.trans hml.symm) dX2_dig_44 dX2_dig_47 dX2_dig_48 dX2_dig_50 dX2_dig_53 hexc (Nat.le_of_ble_eq_true rfl) (Nat.le_of_ble_eq_true rfl) (Nat.le_of_ble_eq_true rfl) (Nat.le_of_ble_eq_true rfl) hlocks (by exact Or.inr (⟨rfl, hk9⟩)) (Nat.le_of_ble_eq_true rfl) (Nat.le_of_ble_eq_true rfl)
    · skip
      have c4' := c4; unfold inC at c4'
      have hk9 : kDig r iv jv = 1 := mf_if_t (fun z => by first | (exact absurd z.1 (by assumption)) | (exact absurd z.2 (by assumption)))
      exact mf_throw (ik := 38) (is := 89) (ic := 42) (cls := "java/lang/IndexOutOfBoundsException") hx hb hl9 hown (by decide +kernel) (hts (.classLink RX2 38 "java/lang/IndexOutOfBoundsException") (List.mem_of_getElem? (i := 1) rfl)) (hts (.initialized "java/lang/IndexOutOfBoundsException") (List.mem_of_getElem? (i := 2) rfl)) hSX (List.mem_of_getElem? (i := 5) rfl) hat42 xg42 hZ hP hD hS (hl.1.trans hml.symm) dX2_dig_22 dX2_dig_25 dX2_dig_26 dX2_dig_28 dX2_dig_31 hexc (Nat.le_of_ble_eq_true rfl) (Nat.le_of_ble_eq_true rfl) (Nat.le_of_ble_eq_true rfl) (Nat.le_of_ble_eq_true rfl) hlocks (by exact Or.inl ⟨rfl, hk9⟩) (Nat.le_of_ble_eq_true rfl) (Nat.le_of_ble_eq_true rfl)
theorem sb_a686ed205f {G : mf_G} {h1 p1 a1 f1 ae1 : Nat} {x1 : mf_V} {h2 : Nat} {ad2 : Nat → Nat} {x2 : mf_V} {h3 : Nat} {ad3 : Nat → Nat} {x3 : mf_V} {h4 : Nat} {ad4 : Nat → Nat} {x4 : mf_V} : ([26, 27, 28, 29, 30] : List Nat).map (fun i => (OW G h1 p1 a1 f1 ae1 x1 ++ RW G h2 ad2 x2 ++ RW G h3 ad3 x3 ++ FW G h4 ad4 x4)[i]?) = (FW G h4 ad4 x4).map some := rfl
theorem sb_4361107b33 {G : mf_G} {h1 p1 a1 f1 ae1 : Nat} {x1 : mf_V} {h2 : Nat} {ad2 : Nat → Nat} {x2 : mf_V} {h3 : Nat} {ad3 : Nat → Nat} {x3 : mf_V} {h4 : Nat} {ad4 : Nat → Nat} {x4 : mf_V} : ([0, 1, 2, 3, 4, 5, 6, 7, 8, 9, 10, 11, 12, 13, 14, 15, 16, 17, 18, 19, 20, 21, 22, 23, 24, 25] : List Nat).map (fun i => (OW G h1 p1 a1 f1 ae1 x1 ++ RW G h2 ad2 x2 ++ RW G h3 ad3 x3 ++ FW G h4 ad4 x4)[i]?) = (OW G h1 p1 a1 f1 ae1 x1 ++ RW G h2 ad2 x2 ++ RW G h3 ad3 x3).map some := rfl
theorem sb_2d4898bb91 {G : mf_G} {h1 p1 a1 f1 ae1 : Nat} {x1 : mf_V} {h2 : Nat} {ad2 : Nat → Nat} {x2 : mf_V} {h3 : Nat} {ad3 : Nat → Nat} {x3 : mf_V} {h4 : Nat} {ad4 : Nat → Nat} {x4 : mf_V} : ([0, 1, 2, 3, 4, 5, 6, 7, 8, 9, 10, 11, 12, 13, 14, 15, 16, 17, 18, 19, 20, 21, 22, 23, 24, 25, 26, 27, 28, 29, 30] : List Nat).filterMap (fun i => ((OW G h1 p1 a1 f1 ae1 x1 ++ RW G h2 ad2 x2 ++ RW G h3 ad3 x3) ++ (FW G h4 ad4 x4))[i]?) = OW G h1 p1 a1 f1 ae1 x1 ++ RW G h2 ad2 x2 ++ RW G h3 ad3 x3 ++ FW G h4 ad4 x4 := rfl
theorem sb_3115196998 {G : mf_G} {h1 p1 a1 f1 ae1 : Nat} {x1 : mf_V} {h2 : Nat} {ad2 : Nat → Nat} {x2 : mf_V} {h3 : Nat} {ad3 : Nat → Nat} {x3 : mf_V} {h4 : Nat} {ad4 : Nat → Nat} {x4 : mf_V} : ([0, 1, 2, 3, 4, 5, 6, 7, 8, 9, 10, 11, 12, 13, 14, 15, 16, 17, 18, 19, 20, 21, 22, 23, 24, 25, 26, 27, 28, 29, 30] : List Nat).map (fun i => ((OW G h1 p1 a1 f1 ae1 x1 ++ RW G h2 ad2 x2 ++ RW G h3 ad3 x3) ++ (FW G h4 ad4 x4))[i]?) = (OW G h1 p1 a1 f1 ae1 x1 ++ RW G h2 ad2 x2 ++ RW G h3 ad3 x3 ++ FW G h4 ad4 x4).map some := rfl
set_option maxHeartbeats 4000000 in
set_option maxRecDepth 100000 in
theorem c_X2_addFarm (l : Launch) (hl9 : l.stackTraces = false) (G : mf_G) (ho pn pa pf : Nat) (ae : Nat) (x : mf_V) (adn : Nat → Nat) (r : mf_V) (ada : Nat → Nat) (ra : mf_V) (adf : Nat → Nat) (f : mf_V)  (xv : Int) (yv : Int) (wv : Int) (dv : Int) (hxv : i32 xv) (hyv : i32 yv) (hwv : i32 wv) (hdv : i32 dv) (okx : rOK xlo xhi x) (ok : rOK rlo rhi r) (okra : rOK rlo rhi ra) (okf : rOK flo fhi f) (sz : Nat) : vx_Met l yX2_addFarm wsX2_addFarm ({ frames := 6, cells := 1, slots := 6, locals := 90 }) (va_Pc [.ref ho, .int (iI (xv)), .int (iI (yv)), .int (iI (wv)), .int (iI (dv))] (WrPx G (OW G ho pn pa pf ae x ++ RW G pn adn r ++ RW G pa ada ra ++ FW G pf adf f) sz)) (va_Qi (fun q9 (u : mf_V × mf_V × mf_V × mf_V) => ∃ z : Int, q9 = iI z ∧ kAdd f xv yv wv dv = 0 ∧ (rOK xlo xhi u.1 ∧ rOK rlo rhi u.2.1 ∧ rOK rlo rhi u.2.2.1 ∧ rOK flo fhi u.2.2.2) ∧ AddP f u.2.2.2 xv yv wv dv ∧ u.2.1 = r ∧ z = f 4 0) (fun (u : mf_V × mf_V × mf_V × mf_V) t => WrQ G (va_A (OW G ho pn pa pf ae x ++ RW G pn adn r ++ RW G pa ada ra ++ FW G pf adf f) sz) (OW G ho pn pa pf ae (u.1) ++ RW G pn adn (u.2.1) ++ RW G pa ada (u.2.2.1) ++ FW G pf adf (u.2.2.2)) t) (va_A (OW G ho pn pa pf ae x ++ RW G pn adn r ++ RW G pa ada ra ++ FW G pf adf f) sz)) (vx_X (fun _ : Unit => True) (fun E _ t => ((E = xIA ∧ kAdd f xv yv wv dv = 1) ∨ (E = xIS ∧ kAdd f xv yv wv dv = 2)) ∧ WrQ G (va_A (OW G ho pn pa pf ae x ++ RW G pn adn r ++ RW G pa ada ra ++ FW G pf adf f) sz) (OW G ho pn pa pf ae x ++ RW G pn adn r ++ RW G pa ada ra ++ FW G pf adf f) t) (va_A (OW G ho pn pa pf ae x ++ RW G pn adn r ++ RW G pa ada ra ++ FW G pf adf f) sz)) 1 6 (va_A (OW G ho pn pa pf ae x ++ RW G pn adn r ++ RW G pa ada ra ++ FW G pf adf f) sz) := by
  refine vx_ofW (cc := cX2_addFarm) (maxL := 5) (ret := (some .int)) (by decide) rfl ?_
  intro p e s m args below meth c s₁ B hml hexc hv
  obtain ⟨rfl, hsz, hP, hK, hD0, hN, hSX, hCX, hZ⟩ := hv
  have hx := B.exec
  have hb := B.bytes
  have hr := B.returns
  have hts := atoms_spec (ws := wsX2_addFarm) B.pre
  have hown : s.vm.findClass RX2 = some m.cls := findClass_of_methodNamed B.named
  have hlocks := B.notSynchronized
  have hat52 := vx_hat (fun w h => hts w (List.mem_cons_of_mem _ (List.mem_append_left _ (List.mem_append_right _ h)))) xb52 (vx_c (va_Nw.use rfl hCX.2.1) (vx_c (va_Nw.use rfl hCX.2.2.2.1) (vx_c (va_Nw.use rfl hCX.2.2.2.2.1) (vx_c (va_Nw.use rfl hCX.2.2.2.2.2) vx_n))))
  have hat118 := vx_hat (fun w h => hts w (List.mem_cons_of_mem _ (List.mem_append_right _ h))) xb118 (vx_c (va_Nw.use rfl hCX.2.2.1) (vx_c (va_Nw.use rfl hCX.2.2.2.1) (vx_c (va_Nw.use rfl hCX.2.2.2.2.1) (vx_c (va_Nw.use rfl hCX.2.2.2.2.2) vx_n))))
  have hinX0 : ∀ w ∈ u_ws RX0 TX0 5, w ∈ wsX2_addFarm := fun w h => List.mem_cons_of_mem _ (List.mem_append_left _ (List.mem_append_left _ (List.mem_append_right _ h)))
  have hinX2 : ∀ w ∈ u_ws RX2 TX2 4, w ∈ wsX2_addFarm := fun w h => List.mem_cons_of_mem _ (List.mem_append_left _ (List.mem_append_left _ (List.mem_append_left _ (List.mem_append_right _ h))))
  subst hsz
  have hD := hD0.self (sz := s.heap.size)
  generalize hAe : va_A (OW G ho pn pa pf ae x ++ RW G pn adn r ++ RW G pa ada ra ++ FW G pf adf f) s.heap.size = A at hD hZ ⊢
  have hA : ∀ q : Nat, s.heap.size ≤ q → A q := fun q h => by rw [← hAe]; exact Or.inr h
  have hS : va_S A s.heap s.heap [] := va_S.rf
  have hl := lv_entry ([.ref ho, .int (iI (xv)), .int (iI (yv)), .int (iI (wv)), .int (iI (dv))]) (n := 5) (Nat.le_of_ble_eq_true rfl)
  rw [lg_entry_eq]
  generalize (lg_sl ([.ref ho, .int (iI (xv)), .int (iI (yv)), .int (iI (wv)), .int (iI (dv))]) ++ List.replicate (5 - (lg_sl ([.ref ho, .int (iI (xv)), .int (iI (yv)), .int (iI (wv)), .int (iI (dv))])).length) Slot.unset).toArray = ls at hl ⊢
  have hl : lv_has ls 5 [(0, .ref ho), (1, .int (iI (xv))), (2, .int (iI (yv))), (3, .int (iI (wv))), (4, .int (iI (dv)))] := hl
  have hxv1 := hxv.1
  have hxv2 := hxv.2
  have hyv1 := hyv.1
  have hyv2 := hyv.2
  have hwv1 := hwv.1
  have hwv2 := hwv.2
  have hdv1 := hdv.1
  have hdv2 := hdv.2
  have okLr : (0 : Int) ≤ r 7 0 ∧ r 7 0 ≤ 150 := ok 7 0
  have okLra : (0 : Int) ≤ ra 7 0 ∧ ra 7 0 ≤ 150 := okra 7 0
  have b46 : (0 : Int) ≤ f 4 0 ∧ f 4 0 ≤ 6 := okf 4 0
  refine lv_iload_n hx hb dX2_addFarm_0 rfl (lv_at hl 1 rfl) ?_
  refine lv_iload_n hx hb dX2_addFarm_1 rfl (lv_at hl 3 rfl) ?_
  refine mf_bipush hx hb dX2_addFarm_2 rfl ?_
  refine vp_callSi (va_Run.run (va_runS (As := [.int (iI (xv)), .int (iI (wv)), .int (iI (24))]) (rest := []) ⟨hx, hb, hml, hown, hts⟩ (c_X2_isSpan l (xv) (wv) (24) (i32_mk (by omega) (by omega)) (i32_mk (by omega) (by omega)) (i32_mk (by decide) (by decide)) (by first | assumption | omega)) (va_cwS 3 hts gX2_addFarm_X2_isSpan rfl rfl rfl (by decide +kernel) ⟨Nat.le_of_ble_eq_true rfl, Nat.le_of_ble_eq_true rfl⟩) pureS rfl rfl hl.1 rfl (lv_room (Nat.le_of_ble_eq_true rfl)) dX2_addFarm_4 ⟨(Nat.zero_le _), (Nat.zero_le _)⟩)) (fun q1 hq1 => ?_)
  subst hq1
  refine mf_bp_eq (tgt := 21) hx hb dX2_addFarm_7 (by decide) (fun c2 => ?_) (fun c2 => ?_)
  · skip
    have hk9 : kAdd f xv yv wv dv = 1 := mf_if_t (fun z => by obtain ⟨z1, z2, z3⟩ := z; unfold cellP at z1; omega)
    exact mf_throw (ik := 48) (is := 157) (ic := 52) (cls := "java/lang/IllegalArgumentException") hx hb hl9 hown (by decide +kernel) (hts (.classLink RX2 48 "java/lang/IllegalArgumentException") (List.mem_of_getElem? (i := 1) rfl)) (hts (.initialized "java/lang/IllegalArgumentException") (List.mem_of_getElem? (i := 2) rfl)) hSX (List.mem_of_getElem? (i := 11) rfl) hat52 xg52 hZ hP hD hS (hl.1.trans hml.symm) dX2_addFarm_21 dX2_addFarm_24 dX2_addFarm_25 dX2_addFarm_27 dX2_addFarm_30 hexc (Nat.le_of_ble_eq_true rfl) (Nat.le_of_ble_eq_true rfl) (Nat.le_of_ble_eq_true rfl) (Nat.le_of_ble_eq_true rfl) hlocks (by exact Or.inl ⟨rfl, hk9⟩) (Nat.le_of_ble_eq_true rfl) (Nat.le_of_ble_eq_true rfl)
  · skip
    refine lv_iload_n hx hb dX2_addFarm_10 rfl (lv_at hl 2 rfl) ?_
    refine lv_iload hx hb dX2_addFarm_11 (lv_at hl 4 rfl) ?_
    refine mf_bipush hx hb dX2_addFarm_13 rfl ?_
    refine vp_callSi (va_Run.run (va_runS (As := [.int (iI (yv)), .int (iI (dv)), .int (iI (16))]) (rest := []) ⟨hx, hb, hml, hown, hts⟩ (c_X2_isSpan l (yv) (dv) (16) (i32_mk (by omega) (by omega)) (i32_mk (by omega) (by omega)) (i32_mk (by decide) (by decide)) (by first | assumption | omega)) (va_cwS 3 hts gX2_addFarm_X2_isSpan rfl rfl rfl (by decide +kernel) ⟨Nat.le_of_ble_eq_true rfl, Nat.le_of_ble_eq_true rfl⟩) pureS rfl rfl hl.1 rfl (lv_room (Nat.le_of_ble_eq_true rfl)) dX2_addFarm_15 ⟨(Nat.zero_le _), (Nat.zero_le _)⟩)) (fun q3 hq3 => ?_)
    subst hq3
    refine mf_bp_ne (tgt := 31) hx hb dX2_addFarm_18 (by decide) (fun c4 => ?_) (fun c4 => ?_)
    · skip
      refine lv_aload_n hx hb dX2_addFarm_31 rfl (lv_at hl 0 rfl) ?_
      refine va_get (D := G.1) (ci := 2) (v := .ref pf) (C := RX2) (T := TX2) (N := 4) hx hb hts hinX2 hown hK hP 0 rfl rfl 2 (by decide) (hts (.fieldLink RX2 26 "MeanderFarm" "farms" "LMeanderFarm$Farms;") (List.mem_of_getElem? (i := 5) rfl)) (fun _ h9 => h9) rfl dX2_addFarm_32 ?_
      refine va_getN (D := G.1) (ci := 0) (v := .int (iI (f 4 0))) (C := RX0) (T := TX0) (N := 5) hx hb hts hinX0 hown hK hP 26 rfl rfl 4 (by decide) (va_Nw.use rfl (hN.f 3 rfl)) (fun _ h9 => h9) rfl dX2_addFarm_35 ?_
      have b5 : (0 : Int) ≤ f 4 0 ∧ f 4 0 ≤ 6 := okf 4 (0)
      refine mf_bipush hx hb dX2_addFarm_38 rfl ?_
      refine mf_icmp_lt (tgt := 53) hx hb dX2_addFarm_40 (by decide) (i32_mk (by omega) (by omega)) (i32_mk (by decide) (by decide)) (fun c6 => ?_) (fun c6 => ?_)
      · skip
        refine lv_aload_n hx hb dX2_addFarm_53 rfl (lv_at hl 0 rfl) ?_
        refine va_get (D := G.1) (ci := 2) (v := .ref pf) (C := RX2) (T := TX2) (N := 4) hx hb hts hinX2 hown hK hP 0 rfl rfl 2 (by decide) (hts (.fieldLink RX2 26 "MeanderFarm" "farms" "LMeanderFarm$Farms;") (List.mem_of_getElem? (i := 5) rfl)) (fun _ h9 => h9) rfl dX2_addFarm_54 ?_
        refine lv_iload_n hx hb dX2_addFarm_57 rfl (lv_at hl 1 rfl) ?_
        refine lv_iload_n hx hb dX2_addFarm_58 rfl (lv_at hl 2 rfl) ?_
        refine lv_iload_n hx hb dX2_addFarm_59 rfl (lv_at hl 3 rfl) ?_
        refine lv_iload hx hb dX2_addFarm_60 (lv_at hl 4 rfl) ?_
        have hFc := va_free (wc := FW G pf adf f) hD hS hA [26, 27, 28, 29, 30] sb_a686ed205f
        refine va_calli (va_runVN (As := [.int (iI (xv)), .int (iI (yv)), .int (iI (wv)), .int (iI (dv))]) (rest := []) ⟨hx, hb, hml, hown, hts⟩ (c_X0_append l G pf adf f (xv) (yv) (wv) (dv) (i32_mk (by omega) (by omega)) (i32_mk (by omega) (by omega)) (i32_mk (by omega) (by omega)) (i32_mk (by omega) (by omega)) (by assumption) (by first | assumption | omega) (by first | assumption | omega) (by first | assumption | omega) (by first | assumption | omega) (by first | assumption | omega) _) ⟨(va_cnB 4 hts gX2_addFarm_X0_append_n164 rfl rfl rfl (hN.m 10 rfl) (hts (.initialized RX0) (List.mem_of_getElem? (i := 11) rfl)) (by decide +kernel) ⟨Nat.le_of_ble_eq_true rfl, Nat.le_of_ble_eq_true rfl⟩), (hts (.instanceMethod yX0_append) (List.mem_of_getElem? (i := 10) rfl)), (hts (.selects RX0 yX0_append yX0_append) (List.mem_of_getElem? (i := 12) rfl))⟩ (wrV (wc := FW G pf adf f) hK hP hD hN [26, 27, 28, 29, 30] (by decide +kernel) sb_a21b19b911 sb_a686ed205f (ci := 0) rfl rfl) rfl rfl hl.1 rfl (lv_room (Nat.le_of_ble_eq_true rfl)) dX2_addFarm_62 ⟨(Nat.zero_le _), (Nat.zero_le _)⟩) hS (fun q _ h => hFc q h) hFc (fun q7 u8 t H1 locs ht hvm hw hB hz1 hk1 hS => ?_)
        obtain ⟨f9, rfl⟩ : ∃ z, z = u8 := ⟨_, rfl⟩
        try dsimp only at hw hB
        obtain ⟨hP, hD⟩ := wrJ2 (ws := OW G ho pn pa pf ae x ++ RW G pn adn r ++ RW G pa ada ra ++ FW G pf adf f) (wc := FW G pf adf f) (wr := OW G ho pn pa pf ae x ++ RW G pn adn r ++ RW G pa ada ra) (w1 := FW G pf adf f9) hP hD [26, 27, 28, 29, 30] [0, 1, 2, 3, 4, 5, 6, 7, 8, 9, 10, 11, 12, 13, 14, 15, 16, 17, 18, 19, 20, 21, 22, 23, 24, 25] sb_a686ed205f sb_4361107b33 (by decide +kernel) (by decide +kernel) hk1 ht hFc hB
        have hP : va_P G.1 vwCl (OW G ho pn pa pf ae x ++ RW G pn adn r ++ RW G pa ada ra ++ FW G pf adf f9) H1 := hP.sub [0, 1, 2, 3, 4, 5, 6, 7, 8, 9, 10, 11, 12, 13, 14, 15, 16, 17, 18, 19, 20, 21, 22, 23, 24, 25, 26, 27, 28, 29, 30] sb_2d4898bb91
        have hD : va_D A (OW G ho pn pa pf ae x ++ RW G pn adn r ++ RW G pa ada ra ++ FW G pf adf f9) := hD.sub [0, 1, 2, 3, 4, 5, 6, 7, 8, 9, 10, 11, 12, 13, 14, 15, 16, 17, 18, 19, 20, 21, 22, 23, 24, 25, 26, 27, 28, 29, 30] (by decide +kernel) sb_3115196998
        have hP : va_P G.1 vwCl (OW G ho pn pa pf ae x ++ RW G pn adn r ++ RW G pa ada ra ++ FW G pf adf f9) H1 := hP
        have hD : va_D A (OW G ho pn pa pf ae x ++ RW G pn adn r ++ RW G pa ada ra ++ FW G pf adf f9) := hD
        clear hB hk1 hFc ht hz1 hvm
        generalize H1 = H at hP hS ⊢
        obtain ⟨z11, rfl, w10⟩ := hw
        have okf9 : rOK flo fhi f9 := w10.1
        have hk9 : kAdd f xv yv wv dv = 0 := (mf_if_f (fun z => z ⟨by unfold cellP; omega, by omega, by omega⟩)).trans (mf_if_f (by omega))
        refine W.widen (k := 1) (n := 6) (Nat.le_of_ble_eq_true rfl) (Nat.le_of_ble_eq_true rfl) ?_
        refine vx_ret ?_
        exact W.iret hx hb hr (fun t ht hW => ⟨⟨_, (x, r, ra, f9), rfl, ⟨_, rfl, by (try dsimp only); exact ⟨hk9, ⟨okx, ok, okra, okf9⟩, ⟨w10.2.1, w10.2.2.1, w10.2.2.2.1, w10.2.2.2.2.1, w10.2.2.2.2.2.1⟩, rfl, w10.2.2.2.2.2.2⟩⟩, by rw [ht]; exact hP, hD⟩, hS.F ht⟩) hS.2.2 dX2_addFarm_65
      · skip
        have hk9 : kAdd f xv yv wv dv = 2 := (mf_if_f (fun z => z ⟨by unfold cellP; omega, by omega, by omega⟩)).trans (mf_if_t (by omega))
        exact mf_throw (ik := 114) (is := 162) (ic := 118) (cls := "java/lang/IllegalStateException") hx hb hl9 hown (by decide +kernel) (hts (.classLink RX2 114 "java/lang/IllegalStateException") (List.mem_of_getElem? (i := 3) rfl)) (hts (.initialized "java/lang/IllegalStateException") (List.mem_of_getElem? (i := 4) rfl)) hSX (List.mem_of_getElem? (i := 12) rfl) hat118 xg118 hZ hP hD hS (hl.1.trans hml.symm) dX2_addFarm_43 dX2_addFarm_46 dX2_addFarm_47 dX2_addFarm_49 dX2_addFarm_52 hexc (Nat.le_of_ble_eq_true rfl) (Nat.le_of_ble_eq_true rfl) (Nat.le_of_ble_eq_true rfl) (Nat.le_of_ble_eq_true rfl) hlocks (by exact Or.inr (⟨rfl, hk9⟩)) (Nat.le_of_ble_eq_true rfl) (Nat.le_of_ble_eq_true rfl)
    · skip
      have hk9 : kAdd f xv yv wv dv = 1 := mf_if_t (fun z => by obtain ⟨z1, z2, z3⟩ := z; unfold cellP at z1; omega)
      exact mf_throw (ik := 48) (is := 157) (ic := 52) (cls := "java/lang/IllegalArgumentException") hx hb hl9 hown (by decide +kernel) (hts (.classLink RX2 48 "java/lang/IllegalArgumentException") (List.mem_of_getElem? (i := 1) rfl)) (hts (.initialized "java/lang/IllegalArgumentException") (List.mem_of_getElem? (i := 2) rfl)) hSX (List.mem_of_getElem? (i := 11) rfl) hat52 xg52 hZ hP hD hS (hl.1.trans hml.symm) dX2_addFarm_21 dX2_addFarm_24 dX2_addFarm_25 dX2_addFarm_27 dX2_addFarm_30 hexc (Nat.le_of_ble_eq_true rfl) (Nat.le_of_ble_eq_true rfl) (Nat.le_of_ble_eq_true rfl) (Nat.le_of_ble_eq_true rfl) hlocks (by exact Or.inl ⟨rfl, hk9⟩) (Nat.le_of_ble_eq_true rfl) (Nat.le_of_ble_eq_true rfl)
theorem sb_11986c55c6 {G : mf_G} {h1 p1 a1 f1 ae1 : Nat} {x1 : mf_V} {h2 : Nat} {ad2 : Nat → Nat} {x2 : mf_V} {h3 : Nat} {ad3 : Nat → Nat} {x3 : mf_V} {h4 : Nat} {ad4 : Nat → Nat} {x4 : mf_V} : ([26, 27, 28, 29, 30, 2, 3, 4, 5, 6, 7, 8, 9, 10, 11, 12, 13] : List Nat).filterMap (fun i => (OW G h1 p1 a1 f1 ae1 x1 ++ RW G h2 ad2 x2 ++ RW G h3 ad3 x3 ++ FW G h4 ad4 x4)[i]?) = FW G h4 ad4 x4 ++ RW G h2 ad2 x2 := rfl
set_option maxHeartbeats 4000000 in
set_option maxRecDepth 100000 in
theorem c_X2_farm (l : Launch) (hl9 : l.stackTraces = false) (G : mf_G) (ho pn pa pf : Nat) (ae : Nat) (x : mf_V) (adn : Nat → Nat) (r : mf_V) (ada : Nat → Nat) (ra : mf_V) (adf : Nat → Nat) (f : mf_V)  (kv : Int) (wv : Int) (hkv : i32 kv) (hwv : i32 wv) (okx : rOK xlo xhi x) (ok : rOK rlo rhi r) (okra : rOK rlo rhi ra) (okf : rOK flo fhi f) (sz : Nat) : vx_Met l yX2_farm wsX2_farm ({ frames := 6, cells := 1, slots := 6, locals := 92 }) (va_Pc [.ref ho, .int (iI (kv)), .int (iI (wv))] (WrPx G (OW G ho pn pa pf ae x ++ RW G pn adn r ++ RW G pa ada ra ++ FW G pf adf f) sz)) (va_Qi (fun q9 (u : mf_V × mf_V × mf_V × mf_V) => ∃ z : Int, q9 = iI z ∧ kFarm f kv wv = 0 ∧ (rOK xlo xhi u.1 ∧ rOK rlo rhi u.2.1 ∧ rOK rlo rhi u.2.2.1 ∧ rOK flo fhi u.2.2.2) ∧ u.2.1 = r ∧ u.2.2.2 = f ∧ z = cof f r kv wv) (fun (u : mf_V × mf_V × mf_V × mf_V) t => WrQ G (va_A (OW G ho pn pa pf ae x ++ RW G pn adn r ++ RW G pa ada ra ++ FW G pf adf f) sz) (OW G ho pn pa pf ae (u.1) ++ RW G pn adn (u.2.1) ++ RW G pa ada (u.2.2.1) ++ FW G pf adf (u.2.2.2)) t) (va_A (OW G ho pn pa pf ae x ++ RW G pn adn r ++ RW G pa ada ra ++ FW G pf adf f) sz)) (vx_X (fun _ : Unit => True) (fun E _ t => (E = xIO ∧ kFarm f kv wv = 1) ∧ WrQ G (va_A (OW G ho pn pa pf ae x ++ RW G pn adn r ++ RW G pa ada ra ++ FW G pf adf f) sz) (OW G ho pn pa pf ae x ++ RW G pn adn r ++ RW G pa ada ra ++ FW G pf adf f) t) (va_A (OW G ho pn pa pf ae x ++ RW G pn adn r ++ RW G pa ada ra ++ FW G pf adf f) sz)) 1 6 (va_A (OW G ho pn pa pf ae x ++ RW G pn adn r ++ RW G pa ada ra ++ FW G pf adf f) sz) := by
  refine vx_ofW (cc := cX2_farm) (maxL := 3) (ret := (some .int)) (by decide) rfl ?_
  intro p e s m args below meth c s₁ B hml hexc hv
  obtain ⟨rfl, hsz, hP, hK, hD0, hN, hSX, hCX, hZ⟩ := hv
  have hx := B.exec
  have hb := B.bytes
  have hr := B.returns
  have hts := atoms_spec (ws := wsX2_farm) B.pre
  have hown : s.vm.findClass RX2 = some m.cls := findClass_of_methodNamed B.named
  have hlocks := B.notSynchronized
  have hat42 := vx_hat (fun w h => hts w (List.mem_cons_of_mem _ (List.mem_append_right _ h))) xb42 (vx_c (va_Nw.use rfl hCX.1) (vx_c (va_Nw.use rfl hCX.2.2.2.1) (vx_c (va_Nw.use rfl hCX.2.2.2.2.1) (vx_c (va_Nw.use rfl hCX.2.2.2.2.2) vx_n))))
  have hinX2 : ∀ w ∈ u_ws RX2 TX2 4, w ∈ wsX2_farm := fun w h => List.mem_cons_of_mem _ (List.mem_append_left _ (List.mem_append_left _ (List.mem_append_left _ (List.mem_append_right _ h))))
  subst hsz
  have hD := hD0.self (sz := s.heap.size)
  generalize hAe : va_A (OW G ho pn pa pf ae x ++ RW G pn adn r ++ RW G pa ada ra ++ FW G pf adf f) s.heap.size = A at hD hZ ⊢
  have hA : ∀ q : Nat, s.heap.size ≤ q → A q := fun q h => by rw [← hAe]; exact Or.inr h
  have hS : va_S A s.heap s.heap [] := va_S.rf
  have hl := lv_entry ([.ref ho, .int (iI (kv)), .int (iI (wv))]) (n := 3) (Nat.le_of_ble_eq_true rfl)
  rw [lg_entry_eq]
  generalize (lg_sl ([.ref ho, .int (iI (kv)), .int (iI (wv))]) ++ List.replicate (3 - (lg_sl ([.ref ho, .int (iI (kv)), .int (iI (wv))])).length) Slot.unset).toArray = ls at hl ⊢
  have hl : lv_has ls 3 [(0, .ref ho), (1, .int (iI (kv))), (2, .int (iI (wv)))] := hl
  have hkv1 := hkv.1
  have hkv2 := hkv.2
  have hwv1 := hwv.1
  have hwv2 := hwv.2
  have okLr : (0 : Int) ≤ r 7 0 ∧ r 7 0 ≤ 150 := ok 7 0
  have okLra : (0 : Int) ≤ ra 7 0 ∧ ra 7 0 ≤ 150 := okra 7 0
  refine lv_aload_n hx hb dX2_farm_0 rfl (lv_at hl 0 rfl) ?_
  refine va_get (D := G.1) (ci := 2) (v := .ref pf) (C := RX2) (T := TX2) (N := 4) hx hb hts hinX2 hown hK hP 0 rfl rfl 2 (by decide) (hts (.fieldLink RX2 26 "MeanderFarm" "farms" "LMeanderFarm$Farms;") (List.mem_of_getElem? (i := 3) rfl)) (fun _ h9 => h9) rfl dX2_farm_1 ?_
  refine lv_iload_n hx hb dX2_farm_4 rfl (lv_at hl 1 rfl) ?_
  refine vp_callSi (va_Run.run (va_runVN (As := [.int (iI (kv))]) (rest := []) ⟨hx, hb, hml, hown, hts⟩ (c_X0_isFarm l G pf adf f (kv) (i32_mk (by omega) (by omega)) (by assumption)) ⟨(va_cnB 1 hts gX2_farm_X0_isFarm_n168 rfl rfl rfl (hN.m 11 rfl) (hts (.initialized RX0) (List.mem_of_getElem? (i := 6) rfl)) (by decide +kernel) ⟨Nat.le_of_ble_eq_true rfl, Nat.le_of_ble_eq_true rfl⟩), (hts (.instanceMethod yX0_isFarm) (List.mem_of_getElem? (i := 5) rfl)), (hts (.selects RX0 yX0_isFarm yX0_isFarm) (List.mem_of_getElem? (i := 7) rfl))⟩ (rdV (wc := FW G pf adf f) hK hP hN [26, 27, 28, 29, 30] sb_a21b19b911 (ci := 0) rfl rfl) rfl rfl hl.1 rfl (lv_room (Nat.le_of_ble_eq_true rfl)) dX2_farm_5 ⟨(Nat.zero_le _), (Nat.zero_le _)⟩)) (fun q1 hq1 => ?_)
  subst hq1
  refine mf_bp_ne (tgt := 21) hx hb dX2_farm_8 (by decide) (fun c2 => ?_) (fun c2 => ?_)
  · skip
    have c2' := c2; unfold isF at c2'
    refine lv_iload_n hx hb dX2_farm_21 rfl (lv_at hl 2 rfl) ?_
    refine mf_if_lt (tgt := 30) hx hb dX2_farm_22 (by decide) (i32_mk (by omega) (by omega)) (fun c3 => ?_) (fun c3 => ?_)
    · skip
      have hk9 : kFarm f kv wv = 1 := mf_if_t (fun z => by have z2 := z.2; omega)
      exact mf_throw (ik := 38) (is := 106) (ic := 42) (cls := "java/lang/IndexOutOfBoundsException") hx hb hl9 hown (by decide +kernel) (hts (.classLink RX2 38 "java/lang/IndexOutOfBoundsException") (List.mem_of_getElem? (i := 1) rfl)) (hts (.initialized "java/lang/IndexOutOfBoundsException") (List.mem_of_getElem? (i := 2) rfl)) hSX (List.mem_of_getElem? (i := 6) rfl) hat42 xg42 hZ hP hD hS (hl.1.trans hml.symm) dX2_farm_30 dX2_farm_33 dX2_farm_34 dX2_farm_36 dX2_farm_39 hexc (Nat.le_of_ble_eq_true rfl) (Nat.le_of_ble_eq_true rfl) (Nat.le_of_ble_eq_true rfl) (Nat.le_of_ble_eq_true rfl) hlocks (by exact ⟨rfl, hk9⟩) (Nat.le_of_ble_eq_true rfl) (Nat.le_of_ble_eq_true rfl)
    · skip
      refine lv_iload_n hx hb dX2_farm_25 rfl (lv_at hl 2 rfl) ?_
      refine mf_iconst hx hb dX2_farm_26 ?_
      refine mf_icmp_lt (tgt := 40) hx hb dX2_farm_27 (by decide) (i32_mk (by omega) (by omega)) (i32_mk (by decide) (by decide)) (fun c4 => ?_) (fun c4 => ?_)
      · skip
        refine lv_aload_n hx hb dX2_farm_40 rfl (lv_at hl 0 rfl) ?_
        refine va_get (D := G.1) (ci := 2) (v := .ref pf) (C := RX2) (T := TX2) (N := 4) hx hb hts hinX2 hown hK hP 0 rfl rfl 2 (by decide) (hts (.fieldLink RX2 26 "MeanderFarm" "farms" "LMeanderFarm$Farms;") (List.mem_of_getElem? (i := 3) rfl)) (fun _ h9 => h9) rfl dX2_farm_41 ?_
        refine lv_iload_n hx hb dX2_farm_44 rfl (lv_at hl 1 rfl) ?_
        refine lv_iload_n hx hb dX2_farm_45 rfl (lv_at hl 2 rfl) ?_
        refine lv_aload_n hx hb dX2_farm_46 rfl (lv_at hl 0 rfl) ?_
        refine va_get (D := G.1) (ci := 2) (v := .ref pn) (C := RX2) (T := TX2) (N := 4) hx hb hts hinX2 hown hK hP 0 rfl rfl 0 (by decide) (hts (.fieldLink RX2 16 "MeanderFarm" "now" "LMeanderFarm$River;") (List.mem_of_getElem? (i := 4) rfl)) (fun _ h9 => h9) rfl dX2_farm_47 ?_
        refine vp_callSi (va_Run.run (va_runVN (As := [.int (iI (kv)), .int (iI (wv)), .ref pn]) (rest := []) ⟨hx, hb, hml, hown, hts⟩ (c_X0_cellsOf l G pf adf f pn adn r (kv) (wv) (i32_mk (by omega) (by omega)) (i32_mk (by omega) (by omega)) (by assumption) (by assumption)) ⟨(va_cnB 3 hts gX2_farm_X0_cellsOf_n173 rfl rfl rfl (hN.m 12 rfl) (hts (.initialized RX0) (List.mem_of_getElem? (i := 6) rfl)) (by decide +kernel) ⟨Nat.le_of_ble_eq_true rfl, Nat.le_of_ble_eq_true rfl⟩), (hts (.instanceMethod yX0_cellsOf) (List.mem_of_getElem? (i := 10) rfl)), (hts (.selects RX0 yX0_cellsOf yX0_cellsOf) (List.mem_of_getElem? (i := 11) rfl))⟩ (rdV (wc := FW G pf adf f ++ RW G pn adn r) hK hP hN [26, 27, 28, 29, 30, 2, 3, 4, 5, 6, 7, 8, 9, 10, 11, 12, 13] sb_11986c55c6 (ci := 0) rfl rfl) rfl rfl hl.1 rfl (lv_room (Nat.le_of_ble_eq_true rfl)) dX2_farm_50 ⟨(Nat.zero_le _), (Nat.zero_le _)⟩)) (fun q5 hq5 => ?_)
        subst hq5
        refine mf_nm (fun y6 ey6 => ?_)
        have b7 : 0 ≤ y6 ∧ y6 ≤ 384 := by rw [ey6]; exact cofF_b (by assumption) kv wv
        have hk9 : kFarm f kv wv = 0 := mf_if_f (fun z => z ⟨by assumption, by omega⟩)
        refine W.widen (k := 1) (n := 6) (Nat.le_of_ble_eq_true rfl) (Nat.le_of_ble_eq_true rfl) ?_
        refine vx_ret ?_
        exact W.iret hx hb hr (fun t ht hW => ⟨⟨_, (x, r, ra, f), rfl, ⟨_, rfl, by (try dsimp only); exact ⟨hk9, ⟨okx, ok, okra, okf⟩, rfl, rfl, by first | (exact (mf_if_t (by assumption))) | (rw [ey6]; exact (mf_if_t (by assumption)))⟩⟩, by rw [ht]; exact hP, hD⟩, hS.F ht⟩) hS.2.2 dX2_farm_53
      · skip
        have hk9 : kFarm f kv wv = 1 := mf_if_t (fun z => by have z2 := z.2; omega)
        exact mf_throw (ik := 38) (is := 106) (ic := 42) (cls := "java/lang/IndexOutOfBoundsException") hx hb hl9 hown (by decide +kernel) (hts (.classLink RX2 38 "java/lang/IndexOutOfBoundsException") (List.mem_of_getElem? (i := 1) rfl)) (hts (.initialized "java/lang/IndexOutOfBoundsException") (List.mem_of_getElem? (i := 2) rfl)) hSX (List.mem_of_getElem? (i := 6) rfl) hat42 xg42 hZ hP hD hS (hl.1.trans hml.symm) dX2_farm_30 dX2_farm_33 dX2_farm_34 dX2_farm_36 dX2_farm_39 hexc (Nat.le_of_ble_eq_true rfl) (Nat.le_of_ble_eq_true rfl) (Nat.le_of_ble_eq_true rfl) (Nat.le_of_ble_eq_true rfl) hlocks (by exact ⟨rfl, hk9⟩) (Nat.le_of_ble_eq_true rfl) (Nat.le_of_ble_eq_true rfl)
  · skip
    have c2' := c2; unfold isF at c2'
    have hk9 : kFarm f kv wv = 1 := mf_if_t (fun z => absurd z.1 (by assumption))
    exact mf_throw (ik := 38) (is := 171) (ic := 42) (cls := "java/lang/IndexOutOfBoundsException") hx hb hl9 hown (by decide +kernel) (hts (.classLink RX2 38 "java/lang/IndexOutOfBoundsException") (List.mem_of_getElem? (i := 1) rfl)) (hts (.initialized "java/lang/IndexOutOfBoundsException") (List.mem_of_getElem? (i := 2) rfl)) hSX (List.mem_of_getElem? (i := 13) rfl) hat42 xg42 hZ hP hD hS (hl.1.trans hml.symm) dX2_farm_11 dX2_farm_14 dX2_farm_15 dX2_farm_17 dX2_farm_20 hexc (Nat.le_of_ble_eq_true rfl) (Nat.le_of_ble_eq_true rfl) (Nat.le_of_ble_eq_true rfl) (Nat.le_of_ble_eq_true rfl) hlocks (by exact ⟨rfl, hk9⟩) (Nat.le_of_ble_eq_true rfl) (Nat.le_of_ble_eq_true rfl)
