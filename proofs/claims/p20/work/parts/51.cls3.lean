/-! cls3 -/
theorem sb_def95aa3f3 {G : mf_G} {h1 p1 a1 f1 ae1 : Nat} {x1 : mf_V} {h2 : Nat} {ad2 : Nat → Nat} {x2 : mf_V} {h3 : Nat} {ad3 : Nat → Nat} {x3 : mf_V} {h4 : Nat} {ad4 : Nat → Nat} {x4 : mf_V} : ([0, 1, 2, 3, 4, 5, 6, 7, 8, 9, 10, 11, 12, 13, 14, 15, 16, 17, 18, 19, 20, 21, 22, 23, 24, 25, 26, 27, 28, 29, 30] : List Nat).filterMap (fun i => (OW G h1 p1 a1 f1 ae1 x1 ++ RW G h2 ad2 x2 ++ RW G h3 ad3 x3 ++ FW G h4 ad4 x4)[i]?) = OW G h1 p1 a1 f1 ae1 x1 ++ RW G h2 ad2 x2 ++ RW G h3 ad3 x3 ++ FW G h4 ad4 x4 := rfl
set_option maxHeartbeats 4000000 in
set_option maxRecDepth 100000 in
theorem c_X2_count (l : Launch) (hl9 : l.stackTraces = false) (G : mf_G) (ho pn pa pf : Nat) (ae : Nat) (x : mf_V) (adn : Nat → Nat) (r : mf_V) (ada : Nat → Nat) (ra : mf_V) (adf : Nat → Nat) (f : mf_V)  (wv : Int) (hwv : i32 wv) (okx : rOK xlo xhi x) (ok : rOK rlo rhi r) (okra : rOK rlo rhi ra) (okf : rOK flo fhi f) (hlen : 2 ≤ r 7 0) (sz : Nat) : vx_Met l yX2_count wsX2_count ({ frames := 6, cells := 1, slots := 6, locals := 90 }) (va_Pc [.ref ho, .int (iI (wv))] (WrPx G (OW G ho pn pa pf ae x ++ RW G pn adn r ++ RW G pa ada ra ++ FW G pf adf f) sz)) (va_Qi (fun q9 (u : mf_V × mf_V × mf_V × mf_V) => ∃ z : Int, q9 = iI z ∧ kRng 0 7 wv = 0 ∧ (rOK xlo xhi u.1 ∧ rOK rlo rhi u.2.1 ∧ rOK rlo rhi u.2.2.1 ∧ rOK flo fhi u.2.2.2) ∧ u.2.1 = r ∧ u.2.2.2 = f ∧ z = totF r (f 4 0) wv) (fun (u : mf_V × mf_V × mf_V × mf_V) t => WrQ G (va_A (OW G ho pn pa pf ae x ++ RW G pn adn r ++ RW G pa ada ra ++ FW G pf adf f) sz) (OW G ho pn pa pf ae (u.1) ++ RW G pn adn (u.2.1) ++ RW G pa ada (u.2.2.1) ++ FW G pf adf (u.2.2.2)) t) (va_A (OW G ho pn pa pf ae x ++ RW G pn adn r ++ RW G pa ada ra ++ FW G pf adf f) sz)) (vx_X (fun _ : Unit => True) (fun E _ t => (E = xIO ∧ kRng 0 7 wv = 1) ∧ WrQ G (va_A (OW G ho pn pa pf ae x ++ RW G pn adn r ++ RW G pa ada ra ++ FW G pf adf f) sz) (OW G ho pn pa pf ae x ++ RW G pn adn r ++ RW G pa ada ra ++ FW G pf adf f) t) (va_A (OW G ho pn pa pf ae x ++ RW G pn adn r ++ RW G pa ada ra ++ FW G pf adf f) sz)) 1 6 (va_A (OW G ho pn pa pf ae x ++ RW G pn adn r ++ RW G pa ada ra ++ FW G pf adf f) sz) := by
  refine vx_ofW (cc := cX2_count) (maxL := 2) (ret := (some .int)) (by decide) rfl ?_
  intro p e s m args below meth c s₁ B hml hexc hv
  obtain ⟨rfl, hsz, hP, hK, hD0, hN, hSX, hCX, hZ⟩ := hv
  have hx := B.exec
  have hb := B.bytes
  have hr := B.returns
  have hts := atoms_spec (ws := wsX2_count) B.pre
  have hown : s.vm.findClass RX2 = some m.cls := findClass_of_methodNamed B.named
  have hlocks := B.notSynchronized
  have hat42 := vx_hat (fun w h => hts w (List.mem_cons_of_mem _ (List.mem_append_right _ h))) xb42 (vx_c (va_Nw.use rfl hCX.1) (vx_c (va_Nw.use rfl hCX.2.2.2.1) (vx_c (va_Nw.use rfl hCX.2.2.2.2.1) (vx_c (va_Nw.use rfl hCX.2.2.2.2.2) vx_n))))
  subst hsz
  have hD := hD0.self (sz := s.heap.size)
  generalize hAe : va_A (OW G ho pn pa pf ae x ++ RW G pn adn r ++ RW G pa ada ra ++ FW G pf adf f) s.heap.size = A at hD hZ ⊢
  have hA : ∀ q : Nat, s.heap.size ≤ q → A q := fun q h => by rw [← hAe]; exact Or.inr h
  have hS : va_S A s.heap s.heap [] := va_S.rf
  have hl := lv_entry ([.ref ho, .int (iI (wv))]) (n := 2) (Nat.le_of_ble_eq_true rfl)
  rw [lg_entry_eq]
  generalize (lg_sl ([.ref ho, .int (iI (wv))]) ++ List.replicate (2 - (lg_sl ([.ref ho, .int (iI (wv))])).length) Slot.unset).toArray = ls at hl ⊢
  have hl : lv_has ls 2 [(0, .ref ho), (1, .int (iI (wv)))] := hl
  have hwv1 := hwv.1
  have hwv2 := hwv.2
  have okLr : (0 : Int) ≤ r 7 0 ∧ r 7 0 ≤ 150 := ok 7 0
  have okLra : (0 : Int) ≤ ra 7 0 ∧ ra 7 0 ≤ 150 := okra 7 0
  refine lv_iload_n hx hb dX2_count_0 rfl (lv_at hl 1 rfl) ?_
  refine mf_if_lt (tgt := 10) hx hb dX2_count_1 (by decide) (i32_mk (by omega) (by omega)) (fun c1 => ?_) (fun c1 => ?_)
  · skip
    have hk9 : kRng 0 7 wv = 1 := mf_if_t (by omega)
    exact mf_throw (ik := 38) (is := 182) (ic := 42) (cls := "java/lang/IndexOutOfBoundsException") hx hb hl9 hown (by decide +kernel) (hts (.classLink RX2 38 "java/lang/IndexOutOfBoundsException") (List.mem_of_getElem? (i := 1) rfl)) (hts (.initialized "java/lang/IndexOutOfBoundsException") (List.mem_of_getElem? (i := 2) rfl)) hSX (List.mem_of_getElem? (i := 15) rfl) hat42 xg42 hZ hP hD hS (hl.1.trans hml.symm) dX2_count_10 dX2_count_13 dX2_count_14 dX2_count_16 dX2_count_19 hexc (Nat.le_of_ble_eq_true rfl) (Nat.le_of_ble_eq_true rfl) (Nat.le_of_ble_eq_true rfl) (Nat.le_of_ble_eq_true rfl) hlocks (by exact ⟨rfl, hk9⟩) (Nat.le_of_ble_eq_true rfl) (Nat.le_of_ble_eq_true rfl)
  · skip
    refine lv_iload_n hx hb dX2_count_4 rfl (lv_at hl 1 rfl) ?_
    refine mf_bipush hx hb dX2_count_5 rfl ?_
    refine mf_icmp_lt (tgt := 20) hx hb dX2_count_7 (by decide) (i32_mk (by omega) (by omega)) (i32_mk (by decide) (by decide)) (fun c2 => ?_) (fun c2 => ?_)
    · skip
      refine lv_aload_n hx hb dX2_count_20 rfl (lv_at hl 0 rfl) ?_
      refine lv_iload_n hx hb dX2_count_21 rfl (lv_at hl 1 rfl) ?_
      refine vp_callSi (va_Run.run (va_runV (As := [.int (iI (wv))]) (rest := []) ⟨hx, hb, hml, hown, hts⟩ (c_X2_total l G ho pn pa pf ae x adn r ada ra adf f (wv) (i32_mk (by omega) (by omega)) (by assumption) (by assumption) (by assumption) (by assumption) (by first | assumption | omega)) (cwV 1 hts gX2_count_X2_total rfl rfl rfl (by decide +kernel) ⟨Nat.le_of_ble_eq_true rfl, Nat.le_of_ble_eq_true rfl⟩) (rdV (wc := OW G ho pn pa pf ae x ++ RW G pn adn r ++ RW G pa ada ra ++ FW G pf adf f) hK hP hN [0, 1, 2, 3, 4, 5, 6, 7, 8, 9, 10, 11, 12, 13, 14, 15, 16, 17, 18, 19, 20, 21, 22, 23, 24, 25, 26, 27, 28, 29, 30] sb_def95aa3f3 (ci := 2) rfl rfl) rfl rfl hl.1 rfl (lv_room (Nat.le_of_ble_eq_true rfl)) dX2_count_22 ⟨(Nat.zero_le _), (Nat.zero_le _)⟩)) (fun q3 hq3 => ?_)
      subst hq3
      have hk9 : kRng 0 7 wv = 0 := mf_if_f (fun z => z (by omega))
      refine W.widen (k := 1) (n := 6) (Nat.le_of_ble_eq_true rfl) (Nat.le_of_ble_eq_true rfl) ?_
      refine vx_ret ?_
      exact W.iret hx hb hr (fun t ht hW => ⟨⟨_, (x, r, ra, f), rfl, ⟨_, rfl, by (try dsimp only); exact ⟨hk9, ⟨okx, ok, okra, okf⟩, rfl, rfl, rfl⟩⟩, by rw [ht]; exact hP, hD⟩, hS.F ht⟩) hS.2.2 dX2_count_25
    · skip
      have hk9 : kRng 0 7 wv = 1 := mf_if_t (by omega)
      exact mf_throw (ik := 38) (is := 182) (ic := 42) (cls := "java/lang/IndexOutOfBoundsException") hx hb hl9 hown (by decide +kernel) (hts (.classLink RX2 38 "java/lang/IndexOutOfBoundsException") (List.mem_of_getElem? (i := 1) rfl)) (hts (.initialized "java/lang/IndexOutOfBoundsException") (List.mem_of_getElem? (i := 2) rfl)) hSX (List.mem_of_getElem? (i := 15) rfl) hat42 xg42 hZ hP hD hS (hl.1.trans hml.symm) dX2_count_10 dX2_count_13 dX2_count_14 dX2_count_16 dX2_count_19 hexc (Nat.le_of_ble_eq_true rfl) (Nat.le_of_ble_eq_true rfl) (Nat.le_of_ble_eq_true rfl) (Nat.le_of_ble_eq_true rfl) hlocks (by exact ⟨rfl, hk9⟩) (Nat.le_of_ble_eq_true rfl) (Nat.le_of_ble_eq_true rfl)
set_option maxHeartbeats 4000000 in
set_option maxRecDepth 100000 in
theorem c_X2_pass (l : Launch) (hl9 : l.stackTraces = false) (G : mf_G) (ho pn pa pf : Nat) (ae : Nat) (x : mf_V) (adn : Nat → Nat) (r : mf_V) (ada : Nat → Nat) (ra : mf_V) (adf : Nat → Nat) (f : mf_V)  (yv : Int) (Yv : Int) (hyv : i32 yv) (okx : rOK xlo xhi x) (ok : rOK rlo rhi r) (okra : rOK rlo rhi ra) (okf : rOK flo fhi f) (hI : RInv r) (hB : bdP r Yv) (hYv : 0 ≤ Yv ∧ Yv + 100 ≤ 60000) (sz : Nat) : vx_Met l yX2_pass wsX2_pass ({ frames := 6, cells := 1, slots := 6, locals := 143 }) (va_Pc [.ref ho, .int (iI (yv))] (WrPx G (OW G ho pn pa pf ae x ++ RW G pn adn r ++ RW G pa ada ra ++ FW G pf adf f) sz)) (va_Qi (fun q9 (u : mf_V × mf_V × mf_V × mf_V) => ∃ z : Int, q9 = iI z ∧ kRng 1 100 yv = 0 ∧ (rOK xlo xhi u.1 ∧ rOK rlo rhi u.2.1 ∧ rOK rlo rhi u.2.2.1 ∧ rOK flo fhi u.2.2.2) ∧ YearsR yv r u.2.1 z ∧ RInv u.2.1 ∧ bdP u.2.1 (Yv + yv) ∧ u.2.2.2 = f) (fun (u : mf_V × mf_V × mf_V × mf_V) t => WrQ G (va_A (OW G ho pn pa pf ae x ++ RW G pn adn r ++ RW G pa ada ra ++ FW G pf adf f) sz) (OW G ho pn pa pf ae (u.1) ++ RW G pn adn (u.2.1) ++ RW G pa ada (u.2.2.1) ++ FW G pf adf (u.2.2.2)) t) (va_A (OW G ho pn pa pf ae x ++ RW G pn adn r ++ RW G pa ada ra ++ FW G pf adf f) sz)) (vx_X (fun _ : Unit => True) (fun E _ t => (E = xIA ∧ kRng 1 100 yv = 1) ∧ WrQ G (va_A (OW G ho pn pa pf ae x ++ RW G pn adn r ++ RW G pa ada ra ++ FW G pf adf f) sz) (OW G ho pn pa pf ae x ++ RW G pn adn r ++ RW G pa ada ra ++ FW G pf adf f) t) (va_A (OW G ho pn pa pf ae x ++ RW G pn adn r ++ RW G pa ada ra ++ FW G pf adf f) sz)) 1 6 (va_A (OW G ho pn pa pf ae x ++ RW G pn adn r ++ RW G pa ada ra ++ FW G pf adf f) sz) := by
  refine vx_ofW (cc := cX2_pass) (maxL := 2) (ret := (some .int)) (by decide) rfl ?_
  intro p e s m args below meth c s₁ B hml hexc hv
  obtain ⟨rfl, hsz, hP, hK, hD0, hN, hSX, hCX, hZ⟩ := hv
  have hx := B.exec
  have hb := B.bytes
  have hr := B.returns
  have hts := atoms_spec (ws := wsX2_pass) B.pre
  have hown : s.vm.findClass RX2 = some m.cls := findClass_of_methodNamed B.named
  have hlocks := B.notSynchronized
  have hat52 := vx_hat (fun w h => hts w (List.mem_cons_of_mem _ (List.mem_append_right _ h))) xb52 (vx_c (va_Nw.use rfl hCX.2.1) (vx_c (va_Nw.use rfl hCX.2.2.2.1) (vx_c (va_Nw.use rfl hCX.2.2.2.2.1) (vx_c (va_Nw.use rfl hCX.2.2.2.2.2) vx_n))))
  have hinX2 : ∀ w ∈ u_ws RX2 TX2 4, w ∈ wsX2_pass := fun w h => List.mem_cons_of_mem _ (List.mem_append_left _ (List.mem_append_left _ (List.mem_append_right _ h)))
  subst hsz
  have hD := hD0.self (sz := s.heap.size)
  generalize hAe : va_A (OW G ho pn pa pf ae x ++ RW G pn adn r ++ RW G pa ada ra ++ FW G pf adf f) s.heap.size = A at hD hZ ⊢
  have hA : ∀ q : Nat, s.heap.size ≤ q → A q := fun q h => by rw [← hAe]; exact Or.inr h
  have hS : va_S A s.heap s.heap [] := va_S.rf
  have hl := lv_entry ([.ref ho, .int (iI (yv))]) (n := 2) (Nat.le_of_ble_eq_true rfl)
  rw [lg_entry_eq]
  generalize (lg_sl ([.ref ho, .int (iI (yv))]) ++ List.replicate (2 - (lg_sl ([.ref ho, .int (iI (yv))])).length) Slot.unset).toArray = ls at hl ⊢
  have hl : lv_has ls 2 [(0, .ref ho), (1, .int (iI (yv)))] := hl
  have hyv1 := hyv.1
  have hyv2 := hyv.2
  have okLr : (0 : Int) ≤ r 7 0 ∧ r 7 0 ≤ 150 := ok 7 0
  have okLra : (0 : Int) ≤ ra 7 0 ∧ ra 7 0 ≤ 150 := okra 7 0
  refine lv_iload_n hx hb dX2_pass_0 rfl (lv_at hl 1 rfl) ?_
  refine mf_iconst hx hb dX2_pass_1 ?_
  refine mf_icmp_lt (tgt := 11) hx hb dX2_pass_2 (by decide) (i32_mk (by omega) (by omega)) (i32_mk (by decide) (by decide)) (fun c1 => ?_) (fun c1 => ?_)
  · skip
    have hk9 : kRng 1 100 yv = 1 := mf_if_t (by omega)
    exact mf_throw (ik := 48) (is := 177) (ic := 52) (cls := "java/lang/IllegalArgumentException") hx hb hl9 hown (by decide +kernel) (hts (.classLink RX2 48 "java/lang/IllegalArgumentException") (List.mem_of_getElem? (i := 1) rfl)) (hts (.initialized "java/lang/IllegalArgumentException") (List.mem_of_getElem? (i := 2) rfl)) hSX (List.mem_of_getElem? (i := 14) rfl) hat52 xg52 hZ hP hD hS (hl.1.trans hml.symm) dX2_pass_11 dX2_pass_14 dX2_pass_15 dX2_pass_17 dX2_pass_20 hexc (Nat.le_of_ble_eq_true rfl) (Nat.le_of_ble_eq_true rfl) (Nat.le_of_ble_eq_true rfl) (Nat.le_of_ble_eq_true rfl) hlocks (by exact ⟨rfl, hk9⟩) (Nat.le_of_ble_eq_true rfl) (Nat.le_of_ble_eq_true rfl)
  · skip
    refine lv_iload_n hx hb dX2_pass_5 rfl (lv_at hl 1 rfl) ?_
    refine mf_bipush hx hb dX2_pass_6 rfl ?_
    refine mf_icmp_le (tgt := 21) hx hb dX2_pass_8 (by decide) (i32_mk (by omega) (by omega)) (i32_mk (by decide) (by decide)) (fun c2 => ?_) (fun c2 => ?_)
    · skip
      refine lv_aload_n hx hb dX2_pass_21 rfl (lv_at hl 0 rfl) ?_
      refine va_get (D := G.1) (ci := 2) (v := .ref pn) (C := RX2) (T := TX2) (N := 4) hx hb hts hinX2 hown hK hP 0 rfl rfl 0 (by decide) (hts (.fieldLink RX2 16 "MeanderFarm" "now" "LMeanderFarm$River;") (List.mem_of_getElem? (i := 3) rfl)) (fun _ h9 => h9) rfl dX2_pass_22 ?_
      refine lv_iload_n hx hb dX2_pass_25 rfl (lv_at hl 1 rfl) ?_
      have hFc := va_free (wc := RW G pn adn r) hD hS hA [2, 3, 4, 5, 6, 7, 8, 9, 10, 11, 12, 13] sb_0bdb018a71
      refine va_calli (va_runVN (As := [.int (iI (yv))]) (rest := []) ⟨hx, hb, hml, hown, hts⟩ (c_X1_letPass l G pn adn r (yv) (Yv) (i32_mk (by omega) (by omega)) (by assumption) (by first | assumption | omega) (by first | assumption | omega) (by omega) (by omega) _) ⟨(va_cnB 1 hts gX2_pass_X1_letPass_n179 rfl rfl rfl (hN.m 13 rfl) (hts (.initialized RX1) (List.mem_of_getElem? (i := 5) rfl)) (by decide +kernel) ⟨Nat.le_of_ble_eq_true rfl, Nat.le_of_ble_eq_true rfl⟩), (hts (.instanceMethod yX1_letPass) (List.mem_of_getElem? (i := 4) rfl)), (hts (.selects RX1 yX1_letPass yX1_letPass) (List.mem_of_getElem? (i := 6) rfl))⟩ (wrV (wc := RW G pn adn r) hK hP hD hN [2, 3, 4, 5, 6, 7, 8, 9, 10, 11, 12, 13] (by decide +kernel) sb_9548ab2e14 sb_0bdb018a71 (ci := 1) rfl rfl) rfl rfl hl.1 rfl (lv_room (Nat.le_of_ble_eq_true rfl)) dX2_pass_26 ⟨(Nat.zero_le _), (Nat.zero_le _)⟩) hS (fun q _ h => hFc q h) hFc (fun q3 u4 t H1 locs ht hvm hw hB hz1 hk1 hS => ?_)
      obtain ⟨r5, rfl⟩ : ∃ z, z = u4 := ⟨_, rfl⟩
      try dsimp only at hw hB
      obtain ⟨hP, hD⟩ := wrJ2 (ws := OW G ho pn pa pf ae x ++ RW G pn adn r ++ RW G pa ada ra ++ FW G pf adf f) (wc := RW G pn adn r) (wr := OW G ho pn pa pf ae x ++ RW G pa ada ra ++ FW G pf adf f) (w1 := RW G pn adn r5) hP hD [2, 3, 4, 5, 6, 7, 8, 9, 10, 11, 12, 13] [0, 1, 14, 15, 16, 17, 18, 19, 20, 21, 22, 23, 24, 25, 26, 27, 28, 29, 30] sb_0bdb018a71 sb_db03bd95ab (by decide +kernel) (by decide +kernel) hk1 ht hFc hB
      have hP : va_P G.1 vwCl (OW G ho pn pa pf ae x ++ RW G pn adn r5 ++ RW G pa ada ra ++ FW G pf adf f) H1 := hP.sub [0, 1, 19, 20, 21, 22, 23, 24, 25, 26, 27, 28, 29, 30, 2, 3, 4, 5, 6, 7, 8, 9, 10, 11, 12, 13, 14, 15, 16, 17, 18] sb_6d1af37a29
      have hD : va_D A (OW G ho pn pa pf ae x ++ RW G pn adn r5 ++ RW G pa ada ra ++ FW G pf adf f) := hD.sub [0, 1, 19, 20, 21, 22, 23, 24, 25, 26, 27, 28, 29, 30, 2, 3, 4, 5, 6, 7, 8, 9, 10, 11, 12, 13, 14, 15, 16, 17, 18] (by decide +kernel) sb_2fb8e8b358
      have hP : va_P G.1 vwCl (OW G ho pn pa pf ae x ++ RW G pn adn r5 ++ RW G pa ada ra ++ FW G pf adf f) H1 := hP
      have hD : va_D A (OW G ho pn pa pf ae x ++ RW G pn adn r5 ++ RW G pa ada ra ++ FW G pf adf f) := hD
      clear hB hk1 hFc ht hz1 hvm
      generalize H1 = H at hP hS ⊢
      obtain ⟨z7, rfl, w6⟩ := hw
      have okr5 : rOK rlo rhi r5 := w6.1
      have hk9 : kRng 1 100 yv = 0 := mf_if_f (fun z => z (by omega))
      refine W.widen (k := 1) (n := 6) (Nat.le_of_ble_eq_true rfl) (Nat.le_of_ble_eq_true rfl) ?_
      refine vx_ret ?_
      exact W.iret hx hb hr (fun t ht hW => ⟨⟨_, (x, r5, ra, f), rfl, ⟨_, rfl, by (try dsimp only); exact ⟨hk9, ⟨okx, okr5, okra, okf⟩, w6.2.1, w6.2.2.1, w6.2.2.2.1, rfl⟩⟩, by rw [ht]; exact hP, hD⟩, hS.F ht⟩) hS.2.2 dX2_pass_29
    · skip
      have hk9 : kRng 1 100 yv = 1 := mf_if_t (by omega)
      exact mf_throw (ik := 48) (is := 177) (ic := 52) (cls := "java/lang/IllegalArgumentException") hx hb hl9 hown (by decide +kernel) (hts (.classLink RX2 48 "java/lang/IllegalArgumentException") (List.mem_of_getElem? (i := 1) rfl)) (hts (.initialized "java/lang/IllegalArgumentException") (List.mem_of_getElem? (i := 2) rfl)) hSX (List.mem_of_getElem? (i := 14) rfl) hat52 xg52 hZ hP hD hS (hl.1.trans hml.symm) dX2_pass_11 dX2_pass_14 dX2_pass_15 dX2_pass_17 dX2_pass_20 hexc (Nat.le_of_ble_eq_true rfl) (Nat.le_of_ble_eq_true rfl) (Nat.le_of_ble_eq_true rfl) (Nat.le_of_ble_eq_true rfl) hlocks (by exact ⟨rfl, hk9⟩) (Nat.le_of_ble_eq_true rfl) (Nat.le_of_ble_eq_true rfl)
set_option maxHeartbeats 4000000 in
set_option maxRecDepth 100000 in
theorem c_X2_winding (l : Launch) (G : mf_G) (ho pn pa pf : Nat) (ae : Nat) (x : mf_V) (adn : Nat → Nat) (r : mf_V) (ada : Nat → Nat) (ra : mf_V) (adf : Nat → Nat) (f : mf_V) (okx : rOK xlo xhi x) (ok : rOK rlo rhi r) (okra : rOK rlo rhi ra) (okf : rOK flo fhi f) : Met l yX2_winding wsX2_winding ({ frames := 0, cells := 0, slots := 0, locals := 0 }) (va_Pc [.ref ho] (RdP G (OW G ho pn pa pf ae x ++ RW G pn adn r ++ RW G pa ada ra ++ FW G pf adf f))) (vp_Sd (fun q9 => q9 = FP.ddiv (FP.i2d (iI (r 7 0))) 4627448617123184640)) 0 0 (fun _ => False) := by
  refine Met.ofW (cc := cX2_winding) (maxL := 1) (ret := (some .double)) (by decide) rfl ?_
  intro p e s m args below meth c s₁ B hml hv
  obtain ⟨rfl, hP, hK, hN⟩ := hv
  have hx := B.exec
  have hb := B.bytes
  have hr := B.returns
  have hts := atoms_spec (ws := wsX2_winding) B.pre
  have hown : s.vm.findClass RX2 = some m.cls := findClass_of_methodNamed B.named
  have hlocks := B.notSynchronized
  have hinX1 : ∀ w ∈ u_ws RX1 TX1 14, w ∈ wsX2_winding := fun w h => List.mem_cons_of_mem _ (List.mem_append_right _ h)
  have hinX2 : ∀ w ∈ u_ws RX2 TX2 4, w ∈ wsX2_winding := fun w h => List.mem_cons_of_mem _ (List.mem_append_left _ (List.mem_append_right _ h))
  have hl := lv_entry ([.ref ho]) (n := 1) (Nat.le_of_ble_eq_true rfl)
  rw [lg_entry_eq]
  generalize (lg_sl ([.ref ho]) ++ List.replicate (1 - (lg_sl ([.ref ho])).length) Slot.unset).toArray = ls at hl ⊢
  have hl : lv_has ls 1 [(0, .ref ho)] := hl
  have okLr : (0 : Int) ≤ r 7 0 ∧ r 7 0 ≤ 150 := ok 7 0
  have okLra : (0 : Int) ≤ ra 7 0 ∧ ra 7 0 ≤ 150 := okra 7 0
  have b7 : (0 : Int) ≤ r 7 0 ∧ r 7 0 ≤ 150 := ok 7 0
  refine lv_aload_n hx hb dX2_winding_0 rfl (lv_at hl 0 rfl) ?_
  refine va_get (D := G.1) (ci := 2) (v := .ref pn) (C := RX2) (T := TX2) (N := 4) hx hb hts hinX2 hown hK hP 0 rfl rfl 0 (by decide) (hts (.fieldLink RX2 16 "MeanderFarm" "now" "LMeanderFarm$River;") (List.mem_of_getElem? (i := 1) rfl)) (fun _ h9 => h9) rfl dX2_winding_1 ?_
  refine va_getN (D := G.1) (ci := 1) (v := .int (iI (r 7 0))) (C := RX1) (T := TX1) (N := 14) hx hb hts hinX1 hown hK hP 2 rfl rfl 7 (by decide) (va_Nw.use rfl (hN.f 2 rfl)) (fun _ h9 => h9) rfl dX2_winding_4 ?_
  have b1 : (0 : Int) ≤ r 7 0 ∧ r 7 0 ≤ 150 := ok 7 (0)
  refine lv_i2d hx hb dX2_winding_7 ?_
  refine lv_ldc2d (v := 4627448617123184640) hx hb hown (hts (.constantDouble RX2 207 (4627448617123184640)) (List.mem_of_getElem? (i := 2) rfl)) dX2_winding_8 ?_
  refine lv_ddiv hx hb dX2_winding_11 (by exact mf_nan (by omega) (by omega)) ?_
  exact W.dret hx hb hr (fun t ht hW => ⟨_, rfl, rfl, ht⟩) t_nil dX2_winding_12
