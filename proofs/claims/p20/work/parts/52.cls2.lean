/-! 52.cls2: the calls that look ahead -/
theorem sb_3be7e94c27 {G : mf_G} {h1 p1 a1 f1 ae1 : Nat} {x1 : mf_V} {h2 : Nat} {ad2 : Nat → Nat} {x2 : mf_V} {h3 : Nat} {ad3 : Nat → Nat} {x3 : mf_V} {h4 : Nat} {ad4 : Nat → Nat} {x4 : mf_V} : ([14, 15, 16, 17, 18, 19, 20, 21, 22, 23, 24, 25, 2, 3, 4, 5, 6, 7, 8, 9, 10, 11, 12, 13] : List Nat).filterMap (fun i => (OW G h1 p1 a1 f1 ae1 x1 ++ RW G h2 ad2 x2 ++ RW G h3 ad3 x3 ++ FW G h4 ad4 x4)[i]?) = RW G h3 ad3 x3 ++ RW G h2 ad2 x2 := rfl
theorem sb_871c7253b1 {G : mf_G} {h1 p1 a1 f1 ae1 : Nat} {x1 : mf_V} {h2 : Nat} {ad2 : Nat → Nat} {x2 : mf_V} {h3 : Nat} {ad3 : Nat → Nat} {x3 : mf_V} {h4 : Nat} {ad4 : Nat → Nat} {x4 : mf_V} : ([14, 15, 16, 17, 18, 19, 20, 21, 22, 23, 24, 25, 2, 3, 4, 5, 6, 7, 8, 9, 10, 11, 12, 13] : List Nat).map (fun i => (OW G h1 p1 a1 f1 ae1 x1 ++ RW G h2 ad2 x2 ++ RW G h3 ad3 x3 ++ FW G h4 ad4 x4)[i]?) = (RW G h3 ad3 x3 ++ RW G h2 ad2 x2).map some := rfl
theorem sb_61b483770e {G : mf_G} {h1 p1 a1 f1 ae1 : Nat} {x1 : mf_V} {h2 : Nat} {ad2 : Nat → Nat} {x2 : mf_V} {h3 : Nat} {ad3 : Nat → Nat} {x3 : mf_V} {h4 : Nat} {ad4 : Nat → Nat} {x4 : mf_V} : ([0, 1, 26, 27, 28, 29, 30] : List Nat).map (fun i => (OW G h1 p1 a1 f1 ae1 x1 ++ RW G h2 ad2 x2 ++ RW G h3 ad3 x3 ++ FW G h4 ad4 x4)[i]?) = (OW G h1 p1 a1 f1 ae1 x1 ++ FW G h4 ad4 x4).map some := rfl
theorem sb_d5f6a917eb {G : mf_G} {h1 p1 a1 f1 ae1 : Nat} {x1 : mf_V} {h2 : Nat} {ad2 : Nat → Nat} {x2 : mf_V} {h3 : Nat} {ad3 : Nat → Nat} {x3 : mf_V} {h4 : Nat} {ad4 : Nat → Nat} {x4 : mf_V} : ([0, 1, 19, 20, 21, 22, 23, 24, 25, 26, 27, 28, 29, 30, 7, 8, 9, 10, 11, 12, 13, 14, 15, 16, 17, 18, 2, 3, 4, 5, 6] : List Nat).filterMap (fun i => ((OW G h1 p1 a1 f1 ae1 x1 ++ FW G h2 ad2 x2) ++ (RW G h3 ad3 x3 ++ RW G h4 ad4 x4))[i]?) = OW G h1 p1 a1 f1 ae1 x1 ++ RW G h4 ad4 x4 ++ RW G h3 ad3 x3 ++ FW G h2 ad2 x2 := rfl
theorem sb_9138ed5ff0 {G : mf_G} {h1 p1 a1 f1 ae1 : Nat} {x1 : mf_V} {h2 : Nat} {ad2 : Nat → Nat} {x2 : mf_V} {h3 : Nat} {ad3 : Nat → Nat} {x3 : mf_V} {h4 : Nat} {ad4 : Nat → Nat} {x4 : mf_V} : ([0, 1, 19, 20, 21, 22, 23, 24, 25, 26, 27, 28, 29, 30, 7, 8, 9, 10, 11, 12, 13, 14, 15, 16, 17, 18, 2, 3, 4, 5, 6] : List Nat).map (fun i => ((OW G h1 p1 a1 f1 ae1 x1 ++ FW G h2 ad2 x2) ++ (RW G h3 ad3 x3 ++ RW G h4 ad4 x4))[i]?) = (OW G h1 p1 a1 f1 ae1 x1 ++ RW G h4 ad4 x4 ++ RW G h3 ad3 x3 ++ FW G h2 ad2 x2).map some := rfl
theorem sb_2485c20cb4 {G : mf_G} {h1 p1 a1 f1 ae1 : Nat} {x1 : mf_V} {h2 : Nat} {ad2 : Nat → Nat} {x2 : mf_V} {h3 : Nat} {ad3 : Nat → Nat} {x3 : mf_V} {h4 : Nat} {ad4 : Nat → Nat} {x4 : mf_V} : ([14, 15, 16, 17, 18, 19, 20, 21, 22, 23, 24, 25] : List Nat).filterMap (fun i => (OW G h1 p1 a1 f1 ae1 x1 ++ RW G h2 ad2 x2 ++ RW G h3 ad3 x3 ++ FW G h4 ad4 x4)[i]?) = RW G h3 ad3 x3 := rfl
theorem sb_b17e3cb988 {G : mf_G} {h1 p1 a1 f1 ae1 : Nat} {x1 : mf_V} {h2 : Nat} {ad2 : Nat → Nat} {x2 : mf_V} {h3 : Nat} {ad3 : Nat → Nat} {x3 : mf_V} {h4 : Nat} {ad4 : Nat → Nat} {x4 : mf_V} : ([14, 15, 16, 17, 18, 19, 20, 21, 22, 23, 24, 25] : List Nat).map (fun i => (OW G h1 p1 a1 f1 ae1 x1 ++ RW G h2 ad2 x2 ++ RW G h3 ad3 x3 ++ FW G h4 ad4 x4)[i]?) = (RW G h3 ad3 x3).map some := rfl
theorem sb_ae993759e8 {G : mf_G} {h1 p1 a1 f1 ae1 : Nat} {x1 : mf_V} {h2 : Nat} {ad2 : Nat → Nat} {x2 : mf_V} {h3 : Nat} {ad3 : Nat → Nat} {x3 : mf_V} {h4 : Nat} {ad4 : Nat → Nat} {x4 : mf_V} : ([0, 1, 2, 3, 4, 5, 6, 7, 8, 9, 10, 11, 12, 13, 26, 27, 28, 29, 30] : List Nat).map (fun i => (OW G h1 p1 a1 f1 ae1 x1 ++ RW G h2 ad2 x2 ++ RW G h3 ad3 x3 ++ FW G h4 ad4 x4)[i]?) = (OW G h1 p1 a1 f1 ae1 x1 ++ RW G h2 ad2 x2 ++ FW G h4 ad4 x4).map some := rfl
theorem sb_84a93fcdb8 {G : mf_G} {h1 p1 a1 f1 ae1 : Nat} {x1 : mf_V} {h2 : Nat} {ad2 : Nat → Nat} {x2 : mf_V} {h3 : Nat} {ad3 : Nat → Nat} {x3 : mf_V} {h4 : Nat} {ad4 : Nat → Nat} {x4 : mf_V} : ([0, 1, 2, 3, 4, 5, 6, 7, 8, 9, 10, 11, 12, 13, 19, 20, 21, 22, 23, 24, 25, 26, 27, 28, 29, 30, 14, 15, 16, 17, 18] : List Nat).filterMap (fun i => ((OW G h1 p1 a1 f1 ae1 x1 ++ RW G h2 ad2 x2 ++ FW G h3 ad3 x3) ++ (RW G h4 ad4 x4))[i]?) = OW G h1 p1 a1 f1 ae1 x1 ++ RW G h2 ad2 x2 ++ RW G h4 ad4 x4 ++ FW G h3 ad3 x3 := rfl
theorem sb_1da5d66636 {G : mf_G} {h1 p1 a1 f1 ae1 : Nat} {x1 : mf_V} {h2 : Nat} {ad2 : Nat → Nat} {x2 : mf_V} {h3 : Nat} {ad3 : Nat → Nat} {x3 : mf_V} {h4 : Nat} {ad4 : Nat → Nat} {x4 : mf_V} : ([0, 1, 2, 3, 4, 5, 6, 7, 8, 9, 10, 11, 12, 13, 19, 20, 21, 22, 23, 24, 25, 26, 27, 28, 29, 30, 14, 15, 16, 17, 18] : List Nat).map (fun i => ((OW G h1 p1 a1 f1 ae1 x1 ++ RW G h2 ad2 x2 ++ FW G h3 ad3 x3) ++ (RW G h4 ad4 x4))[i]?) = (OW G h1 p1 a1 f1 ae1 x1 ++ RW G h2 ad2 x2 ++ RW G h4 ad4 x4 ++ FW G h3 ad3 x3).map some := rfl
set_option maxHeartbeats 4000000 in
set_option maxRecDepth 100000 in
theorem c_X2_neck (l : Launch) (hl9 : l.stackTraces = false) (G : mf_G) (ho pn pa pf : Nat) (ae : Nat) (x : mf_V) (adn : Nat → Nat) (r : mf_V) (ada : Nat → Nat) (ra : mf_V) (adf : Nat → Nat) (f : mf_V)  (wv : Int) (hwv : i32 wv) (okx : rOK xlo xhi x) (ok : rOK rlo rhi r) (okra : rOK rlo rhi ra) (okf : rOK flo fhi f) (hI : RInv r) (hbk : r 9 0 + 150 ≤ 100000000) (sz : Nat) : vx_Met l yX2_neck wsX2_neck ({ frames := 6, cells := 1, slots := 6, locals := 114 }) (va_Pc [.ref ho, .int (iI (wv))] (WrPx G (OW G ho pn pa pf ae x ++ RW G pn adn r ++ RW G pa ada ra ++ FW G pf adf f) sz)) (va_Qi (fun q9 (u : mf_V × mf_V × mf_V × mf_V) => ∃ z : Int, q9 = iI z ∧ kRng 0 3 wv = 0 ∧ (rOK xlo xhi u.1 ∧ rOK rlo rhi u.2.1 ∧ rOK rlo rhi u.2.2.1 ∧ rOK flo fhi u.2.2.2) ∧ (∃ q, (wv = 3 → Flood (rC r) q ∧ rOK rlo rhi q ∧ RInv q) ∧ z = vNeck r q wv) ∧ u.2.1 = r ∧ u.2.2.2 = f) (fun (u : mf_V × mf_V × mf_V × mf_V) t => WrQ G (va_A (OW G ho pn pa pf ae x ++ RW G pn adn r ++ RW G pa ada ra ++ FW G pf adf f) sz) (OW G ho pn pa pf ae (u.1) ++ RW G pn adn (u.2.1) ++ RW G pa ada (u.2.2.1) ++ FW G pf adf (u.2.2.2)) t) (va_A (OW G ho pn pa pf ae x ++ RW G pn adn r ++ RW G pa ada ra ++ FW G pf adf f) sz)) (vx_X (fun _ : Unit => True) (fun E _ t => (E = xIO ∧ kRng 0 3 wv = 1) ∧ WrQ G (va_A (OW G ho pn pa pf ae x ++ RW G pn adn r ++ RW G pa ada ra ++ FW G pf adf f) sz) (OW G ho pn pa pf ae x ++ RW G pn adn r ++ RW G pa ada ra ++ FW G pf adf f) t) (va_A (OW G ho pn pa pf ae x ++ RW G pn adn r ++ RW G pa ada ra ++ FW G pf adf f) sz)) 1 6 (va_A (OW G ho pn pa pf ae x ++ RW G pn adn r ++ RW G pa ada ra ++ FW G pf adf f) sz) := by
  refine vx_ofW (cc := cX2_neck) (maxL := 2) (ret := (some .int)) (by decide) rfl ?_
  intro p e s m args below meth c s₁ B hml hexc hv
  obtain ⟨rfl, hsz, hP, hK, hD0, hN, hSX, hCX, hZ⟩ := hv
  have hx := B.exec
  have hb := B.bytes
  have hr := B.returns
  have hts := atoms_spec (ws := wsX2_neck) B.pre
  have hown : s.vm.findClass RX2 = some m.cls := findClass_of_methodNamed B.named
  have hlocks := B.notSynchronized
  have hat42 := vx_hat (fun w h => hts w (List.mem_cons_of_mem _ (List.mem_append_right _ h))) xb42 (vx_c (va_Nw.use rfl hCX.1) (vx_c (va_Nw.use rfl hCX.2.2.2.1) (vx_c (va_Nw.use rfl hCX.2.2.2.2.1) (vx_c (va_Nw.use rfl hCX.2.2.2.2.2) vx_n))))
  have hinX1 : ∀ w ∈ u_ws RX1 TX1 14, w ∈ wsX2_neck := fun w h => List.mem_cons_of_mem _ (List.mem_append_left _ (List.mem_append_right _ h))
  have hinX2 : ∀ w ∈ u_ws RX2 TX2 4, w ∈ wsX2_neck := fun w h => List.mem_cons_of_mem _ (List.mem_append_left _ (List.mem_append_left _ (List.mem_append_right _ h)))
  subst hsz
  have hD := hD0.self (sz := s.heap.size)
  generalize hAe : va_A (OW G ho pn pa pf ae x ++ RW G pn adn r ++ RW G pa ada ra ++ FW G pf adf f) s.heap.size = A at hD hZ ⊢
  have hA : ∀ q : Nat, s.heap.size ≤ q → A q := fun q h => by rw [← hAe]; exact Or.inr h
  have hS : va_S A s.heap s.heap [] := va_S.rf
  have hl := lv_entry ([.ref ho, .int (iI (wv))]) (n := 2) (Nat.le_of_ble_eq_true rfl)
  rw [lg_entry_eq]
  generalize (lg_sl ([.ref ho, .int (iI (wv))]) ++ List.replicate (2 - (lg_sl ([.ref ho, .int (iI (wv))])).length) Slot.unset).toArray = ls at hl ⊢
  have hl : lv_has ls 2 [(0, .ref ho), (1, .int (iI (wv)))] := hl
  have hwv1 := hwv.1
  have hwv2 := hwv.2
  have okLr : (0 : Int) ≤ r 7 0 ∧ r 7 0 ≤ 150 := ok 7 0
  have okLra : (0 : Int) ≤ ra 7 0 ∧ ra 7 0 ≤ 150 := okra 7 0
  refine lv_iload_n hx hb dX2_neck_0 rfl (lv_at hl 1 rfl) ?_
  have w1 : i32 (wv) := (i32_mk (by omega) (by omega))
  rcases (show  (wv) = 0 ∨  (wv) = 1 ∨  (wv) = 2 ∨  (wv) = 3 ∨  ((wv) < 0 ∨ 3 < (wv)) by omega) with c2 | c2 | c2 | c2 | c2
  · skip
    refine lv_tableIn (off := 31) (tgt := 32) hx hb dX2_neck_1 (by rw [iI_toInt w1]; omega) (by rw [iI_toInt w1]; omega) (by rw [iI_toInt w1, c2]; rfl) (by decide) ?_
    refine lv_aload_n hx hb dX2_neck_32 rfl (lv_at hl 0 rfl) ?_
    refine va_get (D := G.1) (ci := 2) (v := .ref pn) (C := RX2) (T := TX2) (N := 4) hx hb hts hinX2 hown hK hP 0 rfl rfl 0 (by decide) (hts (.fieldLink RX2 16 "MeanderFarm" "now" "LMeanderFarm$River;") (List.mem_of_getElem? (i := 3) rfl)) (fun _ h9 => h9) rfl dX2_neck_33 ?_
    refine vp_callSi (va_Run.run (va_runVN (As := []) (rest := []) ⟨hx, hb, hml, hown, hts⟩ (c_X1_necks l G pn adn r (by assumption)) ⟨(va_cnB 0 hts gX2_neck_X1_necks_n135 rfl rfl rfl (hN.m 4 rfl) (hts (.initialized RX1) (List.mem_of_getElem? (i := 6) rfl)) (by decide +kernel) ⟨Nat.le_of_ble_eq_true rfl, Nat.le_of_ble_eq_true rfl⟩), (hts (.instanceMethod yX1_necks) (List.mem_of_getElem? (i := 5) rfl)), (hts (.selects RX1 yX1_necks yX1_necks) (List.mem_of_getElem? (i := 7) rfl))⟩ (rdV (wc := RW G pn adn r) hK hP hN [2, 3, 4, 5, 6, 7, 8, 9, 10, 11, 12, 13] sb_9548ab2e14 (ci := 1) rfl rfl) rfl rfl hl.1 rfl (lv_room (Nat.le_of_ble_eq_true rfl)) dX2_neck_36 ⟨(Nat.zero_le _), (Nat.zero_le _)⟩)) (fun q3 hq3 => ?_)
    subst hq3
    have hk9 : kRng 0 3 wv = 0 := mf_if_f (fun z => z (by omega))
    refine W.widen (k := 1) (n := 6) (Nat.le_of_ble_eq_true rfl) (Nat.le_of_ble_eq_true rfl) ?_
    refine vx_ret ?_
    exact W.iret hx hb hr (fun t ht hW => ⟨⟨_, (x, r, ra, f), rfl, ⟨_, rfl, by (try dsimp only); exact ⟨hk9, ⟨okx, ok, okra, okf⟩, ⟨⟨r, fun z9 => by omega, by unfold vNeck; rw [if_pos (by omega)]; all_goals (first | rfl | assumption | (subst_vars; rfl))⟩, rfl, rfl⟩⟩⟩, by rw [ht]; exact hP, hD⟩, hS.F ht⟩) hS.2.2 dX2_neck_39
  · skip
    refine lv_tableIn (off := 39) (tgt := 40) hx hb dX2_neck_1 (by rw [iI_toInt w1]; omega) (by rw [iI_toInt w1]; omega) (by rw [iI_toInt w1, c2]; rfl) (by decide) ?_
    refine lv_aload_n hx hb dX2_neck_40 rfl (lv_at hl 0 rfl) ?_
    refine va_get (D := G.1) (ci := 2) (v := .ref pn) (C := RX2) (T := TX2) (N := 4) hx hb hts hinX2 hown hK hP 0 rfl rfl 0 (by decide) (hts (.fieldLink RX2 16 "MeanderFarm" "now" "LMeanderFarm$River;") (List.mem_of_getElem? (i := 3) rfl)) (fun _ h9 => h9) rfl dX2_neck_41 ?_
    refine vp_callSi (va_Run.run (va_runVN (As := []) (rest := []) ⟨hx, hb, hml, hown, hts⟩ (c_X1_widestNeck l G pn adn r (by assumption)) ⟨(va_cnB 0 hts gX2_neck_X1_widestNeck_n138 rfl rfl rfl (hN.m 5 rfl) (hts (.initialized RX1) (List.mem_of_getElem? (i := 6) rfl)) (by decide +kernel) ⟨Nat.le_of_ble_eq_true rfl, Nat.le_of_ble_eq_true rfl⟩), (hts (.instanceMethod yX1_widestNeck) (List.mem_of_getElem? (i := 21) rfl)), (hts (.selects RX1 yX1_widestNeck yX1_widestNeck) (List.mem_of_getElem? (i := 22) rfl))⟩ (rdV (wc := RW G pn adn r) hK hP hN [2, 3, 4, 5, 6, 7, 8, 9, 10, 11, 12, 13] sb_9548ab2e14 (ci := 1) rfl rfl) rfl rfl hl.1 rfl (lv_room (Nat.le_of_ble_eq_true rfl)) dX2_neck_44 ⟨(Nat.zero_le _), (Nat.zero_le _)⟩)) (fun q4 hq4 => ?_)
    subst hq4
    refine mf_nm (fun y5 ey5 => ?_)
    have b6 : -1 ≤ y5 ∧ y5 ≤ 149 := by rw [ey5]; exact widF_b (by assumption)
    have hk9 : kRng 0 3 wv = 0 := mf_if_f (fun z => z (by omega))
    refine W.widen (k := 1) (n := 6) (Nat.le_of_ble_eq_true rfl) (Nat.le_of_ble_eq_true rfl) ?_
    refine vx_ret ?_
    exact W.iret hx hb hr (fun t ht hW => ⟨⟨_, (x, r, ra, f), rfl, ⟨_, rfl, by (try dsimp only); exact ⟨hk9, ⟨okx, ok, okra, okf⟩, ⟨⟨r, fun z9 => by omega, by unfold vNeck; rw [if_neg (by omega)]; rw [if_pos (by omega)]; all_goals (first | rfl | assumption | (subst_vars; rfl))⟩, rfl, rfl⟩⟩⟩, by rw [ht]; exact hP, hD⟩, hS.F ht⟩) hS.2.2 dX2_neck_47
  · skip
    refine lv_tableIn (off := 47) (tgt := 48) hx hb dX2_neck_1 (by rw [iI_toInt w1]; omega) (by rw [iI_toInt w1]; omega) (by rw [iI_toInt w1, c2]; rfl) (by decide) ?_
    refine lv_aload_n hx hb dX2_neck_48 rfl (lv_at hl 0 rfl) ?_
    refine va_get (D := G.1) (ci := 2) (v := .ref pn) (C := RX2) (T := TX2) (N := 4) hx hb hts hinX2 hown hK hP 0 rfl rfl 0 (by decide) (hts (.fieldLink RX2 16 "MeanderFarm" "now" "LMeanderFarm$River;") (List.mem_of_getElem? (i := 3) rfl)) (fun _ h9 => h9) rfl dX2_neck_49 ?_
    refine lv_aload_n hx hb dX2_neck_52 rfl (lv_at hl 0 rfl) ?_
    refine va_get (D := G.1) (ci := 2) (v := .ref pn) (C := RX2) (T := TX2) (N := 4) hx hb hts hinX2 hown hK hP 0 rfl rfl 0 (by decide) (hts (.fieldLink RX2 16 "MeanderFarm" "now" "LMeanderFarm$River;") (List.mem_of_getElem? (i := 3) rfl)) (fun _ h9 => h9) rfl dX2_neck_53 ?_
    refine vp_callSi (va_Run.run (va_runVN (As := []) (rest := [.ref pn]) ⟨hx, hb, hml, hown, hts⟩ (c_X1_widestNeck l G pn adn r (by assumption)) ⟨(va_cnB 0 hts gX2_neck_X1_widestNeck_n138 rfl rfl rfl (hN.m 5 rfl) (hts (.initialized RX1) (List.mem_of_getElem? (i := 6) rfl)) (by decide +kernel) ⟨Nat.le_of_ble_eq_true rfl, Nat.le_of_ble_eq_true rfl⟩), (hts (.instanceMethod yX1_widestNeck) (List.mem_of_getElem? (i := 21) rfl)), (hts (.selects RX1 yX1_widestNeck yX1_widestNeck) (List.mem_of_getElem? (i := 22) rfl))⟩ (rdV (wc := RW G pn adn r) hK hP hN [2, 3, 4, 5, 6, 7, 8, 9, 10, 11, 12, 13] sb_9548ab2e14 (ci := 1) rfl rfl) rfl rfl hl.1 rfl (lv_room (Nat.le_of_ble_eq_true rfl)) dX2_neck_56 ⟨(Nat.zero_le _), (Nat.zero_le _)⟩)) (fun q7 hq7 => ?_)
    subst hq7
    refine mf_nm (fun y8 ey8 => ?_)
    have b9 : -1 ≤ y8 ∧ y8 ≤ 149 := by rw [ey8]; exact widF_b (by assumption)
    refine vp_callSi (va_Run.run (va_runVN (As := [.int (iI (y8))]) (rest := []) ⟨hx, hb, hml, hown, hts⟩ (c_X1_farthestAcross l G pn adn r (y8) (i32_mk (by omega) (by omega)) (by assumption) (by first | assumption | omega)) ⟨(va_cnB 1 hts gX2_neck_X1_farthestAcross_n141 rfl rfl rfl (hN.m 6 rfl) (hts (.initialized RX1) (List.mem_of_getElem? (i := 6) rfl)) (by decide +kernel) ⟨Nat.le_of_ble_eq_true rfl, Nat.le_of_ble_eq_true rfl⟩), (hts (.instanceMethod yX1_farthestAcross) (List.mem_of_getElem? (i := 25) rfl)), (hts (.selects RX1 yX1_farthestAcross yX1_farthestAcross) (List.mem_of_getElem? (i := 26) rfl))⟩ (rdV (wc := RW G pn adn r) hK hP hN [2, 3, 4, 5, 6, 7, 8, 9, 10, 11, 12, 13] sb_9548ab2e14 (ci := 1) rfl rfl) rfl rfl hl.1 rfl (lv_room (Nat.le_of_ble_eq_true rfl)) dX2_neck_59 ⟨(Nat.zero_le _), (Nat.zero_le _)⟩)) (fun q10 hq10 => ?_)
    subst hq10
    refine mf_nm (fun y11 ey11 => ?_)
    have b12 : -1 ≤ y11 ∧ y11 ≤ 149 := by rw [ey11]; exact farF_b (by assumption) y8
    have hk9 : kRng 0 3 wv = 0 := mf_if_f (fun z => z (by omega))
    refine W.widen (k := 1) (n := 6) (Nat.le_of_ble_eq_true rfl) (Nat.le_of_ble_eq_true rfl) ?_
    refine vx_ret ?_
    exact W.iret hx hb hr (fun t ht hW => ⟨⟨_, (x, r, ra, f), rfl, ⟨_, rfl, by (try dsimp only); exact ⟨hk9, ⟨okx, ok, okra, okf⟩, ⟨⟨r, fun z9 => by omega, by unfold vNeck; rw [if_neg (by omega)]; rw [if_neg (by omega)]; rw [if_pos (by omega)]; all_goals (first | rfl | assumption | (subst_vars; rfl))⟩, rfl, rfl⟩⟩⟩, by rw [ht]; exact hP, hD⟩, hS.F ht⟩) hS.2.2 dX2_neck_62
  · skip
    refine lv_tableIn (off := 62) (tgt := 63) hx hb dX2_neck_1 (by rw [iI_toInt w1]; omega) (by rw [iI_toInt w1]; omega) (by rw [iI_toInt w1, c2]; rfl) (by decide) ?_
    refine lv_aload_n hx hb dX2_neck_63 rfl (lv_at hl 0 rfl) ?_
    refine va_get (D := G.1) (ci := 2) (v := .ref pa) (C := RX2) (T := TX2) (N := 4) hx hb hts hinX2 hown hK hP 0 rfl rfl 1 (by decide) (hts (.fieldLink RX2 20 "MeanderFarm" "ahead" "LMeanderFarm$River;") (List.mem_of_getElem? (i := 4) rfl)) (fun _ h9 => h9) rfl dX2_neck_64 ?_
    refine lv_aload_n hx hb dX2_neck_67 rfl (lv_at hl 0 rfl) ?_
    refine va_get (D := G.1) (ci := 2) (v := .ref pn) (C := RX2) (T := TX2) (N := 4) hx hb hts hinX2 hown hK hP 0 rfl rfl 0 (by decide) (hts (.fieldLink RX2 16 "MeanderFarm" "now" "LMeanderFarm$River;") (List.mem_of_getElem? (i := 3) rfl)) (fun _ h9 => h9) rfl dX2_neck_68 ?_
    have hFc := va_free (wc := RW G pa ada ra ++ RW G pn adn r) hD hS hA [14, 15, 16, 17, 18, 19, 20, 21, 22, 23, 24, 25, 2, 3, 4, 5, 6, 7, 8, 9, 10, 11, 12, 13] sb_871c7253b1
    refine va_callv (va_runVN (As := [.ref pn]) (rest := []) ⟨hx, hb, hml, hown, hts⟩ (c_X1_copyFrom l G pa ada ra pn adn r (by assumption) (by assumption) _) ⟨(va_cnB 1 hts gX2_neck_X1_copyFrom_n144 rfl rfl rfl (hN.m 7 rfl) (hts (.initialized RX1) (List.mem_of_getElem? (i := 6) rfl)) (by decide +kernel) ⟨Nat.le_of_ble_eq_true rfl, Nat.le_of_ble_eq_true rfl⟩), (hts (.instanceMethod yX1_copyFrom) (List.mem_of_getElem? (i := 36) rfl)), (hts (.selects RX1 yX1_copyFrom yX1_copyFrom) (List.mem_of_getElem? (i := 37) rfl))⟩ (wrV (wc := RW G pa ada ra ++ RW G pn adn r) hK hP hD hN [14, 15, 16, 17, 18, 19, 20, 21, 22, 23, 24, 25, 2, 3, 4, 5, 6, 7, 8, 9, 10, 11, 12, 13] (by decide +kernel) sb_3be7e94c27 sb_871c7253b1 (ci := 1) rfl rfl) rfl rfl hl.1 rfl (lv_room (Nat.le_of_ble_eq_true rfl)) dX2_neck_71 ⟨(Nat.zero_le _), (Nat.zero_le _)⟩) hS (fun q _ h => hFc q h) hFc (fun u14 t H1 locs ht hvm hw hB hz1 hk1 hS => ?_)
    obtain ⟨ra15, rfl⟩ : ∃ z, z = u14 := ⟨_, rfl⟩
    try dsimp only at hw hB
    obtain ⟨hP, hD⟩ := wrJ2 (ws := OW G ho pn pa pf ae x ++ RW G pn adn r ++ RW G pa ada ra ++ FW G pf adf f) (wc := RW G pa ada ra ++ RW G pn adn r) (wr := OW G ho pn pa pf ae x ++ FW G pf adf f) (w1 := RW G pa ada ra15 ++ RW G pn adn r) hP hD [14, 15, 16, 17, 18, 19, 20, 21, 22, 23, 24, 25, 2, 3, 4, 5, 6, 7, 8, 9, 10, 11, 12, 13] [0, 1, 26, 27, 28, 29, 30] sb_871c7253b1 sb_61b483770e (by decide +kernel) (by decide +kernel) hk1 ht hFc hB
    have hP : va_P G.1 vwCl (OW G ho pn pa pf ae x ++ RW G pn adn r ++ RW G pa ada ra15 ++ FW G pf adf f) H1 := hP.sub [0, 1, 19, 20, 21, 22, 23, 24, 25, 26, 27, 28, 29, 30, 7, 8, 9, 10, 11, 12, 13, 14, 15, 16, 17, 18, 2, 3, 4, 5, 6] sb_d5f6a917eb
    have hD : va_D A (OW G ho pn pa pf ae x ++ RW G pn adn r ++ RW G pa ada ra15 ++ FW G pf adf f) := hD.sub [0, 1, 19, 20, 21, 22, 23, 24, 25, 26, 27, 28, 29, 30, 7, 8, 9, 10, 11, 12, 13, 14, 15, 16, 17, 18, 2, 3, 4, 5, 6] (by decide +kernel) sb_9138ed5ff0
    have hP : va_P G.1 vwCl (OW G ho pn pa pf ae x ++ RW G pn adn r ++ RW G pa ada ra15 ++ FW G pf adf f) H1 := hP
    have hD : va_D A (OW G ho pn pa pf ae x ++ RW G pn adn r ++ RW G pa ada ra15 ++ FW G pf adf f) := hD
    clear hB hk1 hFc ht hz1 hvm
    generalize H1 = H at hP hS ⊢
    have w16 := hw; clear hw
    have okra15 : rOK rlo rhi ra15 := w16.1
    have era : ra15 = rC r := w16.2
    have hIa : RInv ra15 := by rw [era]; exact rC_I hI
    have hba : ra15 9 0 + 150 ≤ 100000000 := by rw [era]; exact hbk
    refine lv_aload_n hx hb dX2_neck_74 rfl (lv_at hl 0 rfl) ?_
    refine va_get (D := G.1) (ci := 2) (v := .ref pa) (C := RX2) (T := TX2) (N := 4) hx hb hts hinX2 hown hK hP 0 rfl rfl 1 (by decide) (hts (.fieldLink RX2 20 "MeanderFarm" "ahead" "LMeanderFarm$River;") (List.mem_of_getElem? (i := 4) rfl)) (fun _ h9 => h9) rfl dX2_neck_75 ?_
    have hFc := va_free (wc := RW G pa ada ra15) hD hS hA [14, 15, 16, 17, 18, 19, 20, 21, 22, 23, 24, 25] sb_b17e3cb988
    refine va_callv (va_runVN (As := []) (rest := []) ⟨hx, hb, hml, hown, hts⟩ (c_X1_flood l G pa ada ra15 (by assumption) (by exact hIa) (by exact hba) _) ⟨(va_cnB 0 hts gX2_neck_X1_flood_n148 rfl rfl rfl (hN.m 8 rfl) (hts (.initialized RX1) (List.mem_of_getElem? (i := 6) rfl)) (by decide +kernel) ⟨Nat.le_of_ble_eq_true rfl, Nat.le_of_ble_eq_true rfl⟩), (hts (.instanceMethod yX1_flood) (List.mem_of_getElem? (i := 54) rfl)), (hts (.selects RX1 yX1_flood yX1_flood) (List.mem_of_getElem? (i := 55) rfl))⟩ (wrV (wc := RW G pa ada ra15) hK hP hD hN [14, 15, 16, 17, 18, 19, 20, 21, 22, 23, 24, 25] (by decide +kernel) sb_2485c20cb4 sb_b17e3cb988 (ci := 1) rfl rfl) rfl rfl hl.1 rfl (lv_room (Nat.le_of_ble_eq_true rfl)) dX2_neck_78 ⟨(Nat.zero_le _), (Nat.zero_le _)⟩) hS (fun q _ h => hFc q h) hFc (fun u18 t H1 locs ht hvm hw hB hz1 hk1 hS => ?_)
    obtain ⟨ra19, rfl⟩ : ∃ z, z = u18 := ⟨_, rfl⟩
    try dsimp only at hw hB
    obtain ⟨hP, hD⟩ := wrJ2 (ws := OW G ho pn pa pf ae x ++ RW G pn adn r ++ RW G pa ada ra15 ++ FW G pf adf f) (wc := RW G pa ada ra15) (wr := OW G ho pn pa pf ae x ++ RW G pn adn r ++ FW G pf adf f) (w1 := RW G pa ada ra19) hP hD [14, 15, 16, 17, 18, 19, 20, 21, 22, 23, 24, 25] [0, 1, 2, 3, 4, 5, 6, 7, 8, 9, 10, 11, 12, 13, 26, 27, 28, 29, 30] sb_b17e3cb988 sb_ae993759e8 (by decide +kernel) (by decide +kernel) hk1 ht hFc hB
    have hP : va_P G.1 vwCl (OW G ho pn pa pf ae x ++ RW G pn adn r ++ RW G pa ada ra19 ++ FW G pf adf f) H1 := hP.sub [0, 1, 2, 3, 4, 5, 6, 7, 8, 9, 10, 11, 12, 13, 19, 20, 21, 22, 23, 24, 25, 26, 27, 28, 29, 30, 14, 15, 16, 17, 18] sb_84a93fcdb8
    have hD : va_D A (OW G ho pn pa pf ae x ++ RW G pn adn r ++ RW G pa ada ra19 ++ FW G pf adf f) := hD.sub [0, 1, 2, 3, 4, 5, 6, 7, 8, 9, 10, 11, 12, 13, 19, 20, 21, 22, 23, 24, 25, 26, 27, 28, 29, 30, 14, 15, 16, 17, 18] (by decide +kernel) sb_1da5d66636
    have hP : va_P G.1 vwCl (OW G ho pn pa pf ae x ++ RW G pn adn r ++ RW G pa ada ra19 ++ FW G pf adf f) H1 := hP
    have hD : va_D A (OW G ho pn pa pf ae x ++ RW G pn adn r ++ RW G pa ada ra19 ++ FW G pf adf f) := hD
    clear hB hk1 hFc ht hz1 hvm
    generalize H1 = H at hP hS ⊢
    have w20 := hw; clear hw
    have okra19 : rOK rlo rhi ra19 := w20.1
    refine lv_aload_n hx hb dX2_neck_81 rfl (lv_at hl 0 rfl) ?_
    refine va_get (D := G.1) (ci := 2) (v := .ref pn) (C := RX2) (T := TX2) (N := 4) hx hb hts hinX2 hown hK hP 0 rfl rfl 0 (by decide) (hts (.fieldLink RX2 16 "MeanderFarm" "now" "LMeanderFarm$River;") (List.mem_of_getElem? (i := 3) rfl)) (fun _ h9 => h9) rfl dX2_neck_82 ?_
    refine va_getN (D := G.1) (ci := 1) (v := .int (iI (r 7 0))) (C := RX1) (T := TX1) (N := 14) hx hb hts hinX1 hown hK hP 2 rfl rfl 7 (by decide) (va_Nw.use rfl (hN.f 2 rfl)) (fun _ h9 => h9) rfl dX2_neck_85 ?_
    have b21 : (0 : Int) ≤ r 7 0 ∧ r 7 0 ≤ 150 := ok 7 (0)
    refine lv_aload_n hx hb dX2_neck_88 rfl (lv_at hl 0 rfl) ?_
    refine va_get (D := G.1) (ci := 2) (v := .ref pa) (C := RX2) (T := TX2) (N := 4) hx hb hts hinX2 hown hK hP 0 rfl rfl 1 (by decide) (hts (.fieldLink RX2 20 "MeanderFarm" "ahead" "LMeanderFarm$River;") (List.mem_of_getElem? (i := 4) rfl)) (fun _ h9 => h9) rfl dX2_neck_89 ?_
    refine va_getN (D := G.1) (ci := 1) (v := .int (iI (ra19 7 0))) (C := RX1) (T := TX1) (N := 14) hx hb hts hinX1 hown hK hP 14 rfl rfl 7 (by decide) (va_Nw.use rfl (hN.f 2 rfl)) (fun _ h9 => h9) rfl dX2_neck_92 ?_
    have b22 : (0 : Int) ≤ ra19 7 0 ∧ ra19 7 0 ≤ 150 := okra19 7 (0)
    refine mf_isub hx hb dX2_neck_95 ?_
    have hk9 : kRng 0 3 wv = 0 := mf_if_f (fun z => z (by omega))
    refine W.widen (k := 1) (n := 6) (Nat.le_of_ble_eq_true rfl) (Nat.le_of_ble_eq_true rfl) ?_
    refine vx_ret ?_
    exact W.iret hx hb hr (fun t ht hW => ⟨⟨_, (x, r, ra19, f), rfl, ⟨_, rfl, by (try dsimp only); exact ⟨hk9, ⟨okx, ok, okra19, okf⟩, ⟨⟨ra19, fun _ => ⟨by rw [← era]; exact w20.2.1, okra19, w20.2.2.1⟩, by unfold vNeck; rw [if_neg (by omega), if_neg (by omega), if_neg (by omega)]⟩, rfl, rfl⟩⟩⟩, by rw [ht]; exact hP, hD⟩, hS.F ht⟩) hS.2.2 dX2_neck_96
  · skip
    refine lv_tableOut (tgt := 97) hx hb dX2_neck_1 (by rw [iI_toInt w1]; omega) (by decide) ?_
    have hk9 : kRng 0 3 wv = 1 := mf_if_t (by omega)
    exact mf_throw (ik := 38) (is := 151) (ic := 42) (cls := "java/lang/IndexOutOfBoundsException") hx hb hl9 hown (by decide +kernel) (hts (.classLink RX2 38 "java/lang/IndexOutOfBoundsException") (List.mem_of_getElem? (i := 1) rfl)) (hts (.initialized "java/lang/IndexOutOfBoundsException") (List.mem_of_getElem? (i := 2) rfl)) hSX (List.mem_of_getElem? (i := 10) rfl) hat42 xg42 hZ hP hD hS (hl.1.trans hml.symm) dX2_neck_97 dX2_neck_100 dX2_neck_101 dX2_neck_103 dX2_neck_106 hexc (Nat.le_of_ble_eq_true rfl) (Nat.le_of_ble_eq_true rfl) (Nat.le_of_ble_eq_true rfl) (Nat.le_of_ble_eq_true rfl) hlocks (by exact ⟨rfl, hk9⟩) (Nat.le_of_ble_eq_true rfl) (Nat.le_of_ble_eq_true rfl)
set_option maxHeartbeats 4000000 in
set_option maxRecDepth 100000 in
theorem c_X2_foresee (l : Launch) (hl9 : l.stackTraces = false) (G : mf_G) (ho pn pa pf : Nat) (ae : Nat) (x : mf_V) (adn : Nat → Nat) (r : mf_V) (ada : Nat → Nat) (ra : mf_V) (adf : Nat → Nat) (f : mf_V)  (yv : Int) (wv : Int) (Yv : Int) (hyv : i32 yv) (hwv : i32 wv) (okx : rOK xlo xhi x) (ok : rOK rlo rhi r) (okra : rOK rlo rhi ra) (okf : rOK flo fhi f) (hI : RInv r) (hB : bdP r Yv) (hYv : 0 ≤ Yv ∧ Yv + 100 ≤ 60000) (sz : Nat) : vx_Met l yX2_foresee wsX2_foresee ({ frames := 6, cells := 1, slots := 6, locals := 143 }) (va_Pc [.ref ho, .int (iI (yv)), .int (iI (wv))] (WrPx G (OW G ho pn pa pf ae x ++ RW G pn adn r ++ RW G pa ada ra ++ FW G pf adf f) sz)) (va_Qi (fun q9 (u : mf_V × mf_V × mf_V × mf_V) => ∃ z : Int, q9 = iI z ∧ kFore yv wv = 0 ∧ (rOK xlo xhi u.1 ∧ rOK rlo rhi u.2.1 ∧ rOK rlo rhi u.2.2.1 ∧ rOK flo fhi u.2.2.2) ∧ (∃ q b, YearsR yv (rC r) q b ∧ rOK rlo rhi q ∧ RInv q ∧ z = vFore r q b wv) ∧ u.2.1 = r ∧ u.2.2.2 = f) (fun (u : mf_V × mf_V × mf_V × mf_V) t => WrQ G (va_A (OW G ho pn pa pf ae x ++ RW G pn adn r ++ RW G pa ada ra ++ FW G pf adf f) sz) (OW G ho pn pa pf ae (u.1) ++ RW G pn adn (u.2.1) ++ RW G pa ada (u.2.2.1) ++ FW G pf adf (u.2.2.2)) t) (va_A (OW G ho pn pa pf ae x ++ RW G pn adn r ++ RW G pa ada ra ++ FW G pf adf f) sz)) (vx_X (fun _ : Unit => True) (fun E _ t => ((E = xIA ∧ kFore yv wv = 1) ∨ (E = xIO ∧ kFore yv wv = 2)) ∧ WrQ G (va_A (OW G ho pn pa pf ae x ++ RW G pn adn r ++ RW G pa ada ra ++ FW G pf adf f) sz) (OW G ho pn pa pf ae x ++ RW G pn adn r ++ RW G pa ada ra ++ FW G pf adf f) t) (va_A (OW G ho pn pa pf ae x ++ RW G pn adn r ++ RW G pa ada ra ++ FW G pf adf f) sz)) 1 6 (va_A (OW G ho pn pa pf ae x ++ RW G pn adn r ++ RW G pa ada ra ++ FW G pf adf f) sz) := by
  refine vx_ofW (cc := cX2_foresee) (maxL := 4) (ret := (some .int)) (by decide) rfl ?_
  intro p e s m args below meth c s₁ B hml hexc hv
  obtain ⟨rfl, hsz, hP, hK, hD0, hN, hSX, hCX, hZ⟩ := hv
  have hx := B.exec
  have hb := B.bytes
  have hr := B.returns
  have hts := atoms_spec (ws := wsX2_foresee) B.pre
  have hown : s.vm.findClass RX2 = some m.cls := findClass_of_methodNamed B.named
  have hlocks := B.notSynchronized
  have hat42 := vx_hat (fun w h => hts w (List.mem_cons_of_mem _ (List.mem_append_right _ h))) xb42 (vx_c (va_Nw.use rfl hCX.1) (vx_c (va_Nw.use rfl hCX.2.2.2.1) (vx_c (va_Nw.use rfl hCX.2.2.2.2.1) (vx_c (va_Nw.use rfl hCX.2.2.2.2.2) vx_n))))
  have hat52 := vx_hat (fun w h => hts w (List.mem_cons_of_mem _ (List.mem_append_left _ (List.mem_append_right _ h)))) xb52 (vx_c (va_Nw.use rfl hCX.2.1) (vx_c (va_Nw.use rfl hCX.2.2.2.1) (vx_c (va_Nw.use rfl hCX.2.2.2.2.1) (vx_c (va_Nw.use rfl hCX.2.2.2.2.2) vx_n))))
  have hinX1 : ∀ w ∈ u_ws RX1 TX1 14, w ∈ wsX2_foresee := fun w h => List.mem_cons_of_mem _ (List.mem_append_left _ (List.mem_append_left _ (List.mem_append_right _ h)))
  have hinX2 : ∀ w ∈ u_ws RX2 TX2 4, w ∈ wsX2_foresee := fun w h => List.mem_cons_of_mem _ (List.mem_append_left _ (List.mem_append_left _ (List.mem_append_left _ (List.mem_append_right _ h))))
  subst hsz
  have hD := hD0.self (sz := s.heap.size)
  generalize hAe : va_A (OW G ho pn pa pf ae x ++ RW G pn adn r ++ RW G pa ada ra ++ FW G pf adf f) s.heap.size = A at hD hZ ⊢
  have hA : ∀ q : Nat, s.heap.size ≤ q → A q := fun q h => by rw [← hAe]; exact Or.inr h
  have hS : va_S A s.heap s.heap [] := va_S.rf
  have hl := lv_entry ([.ref ho, .int (iI (yv)), .int (iI (wv))]) (n := 4) (Nat.le_of_ble_eq_true rfl)
  rw [lg_entry_eq]
  generalize (lg_sl ([.ref ho, .int (iI (yv)), .int (iI (wv))]) ++ List.replicate (4 - (lg_sl ([.ref ho, .int (iI (yv)), .int (iI (wv))])).length) Slot.unset).toArray = ls at hl ⊢
  have hl : lv_has ls 4 [(0, .ref ho), (1, .int (iI (yv))), (2, .int (iI (wv)))] := hl
  have hyv1 := hyv.1
  have hyv2 := hyv.2
  have hwv1 := hwv.1
  have hwv2 := hwv.2
  have okLr : (0 : Int) ≤ r 7 0 ∧ r 7 0 ≤ 150 := ok 7 0
  have okLra : (0 : Int) ≤ ra 7 0 ∧ ra 7 0 ≤ 150 := okra 7 0
  refine lv_iload_n hx hb dX2_foresee_0 rfl (lv_at hl 1 rfl) ?_
  refine mf_iconst hx hb dX2_foresee_1 ?_
  refine mf_icmp_lt (tgt := 11) hx hb dX2_foresee_2 (by decide) (i32_mk (by omega) (by omega)) (i32_mk (by decide) (by decide)) (fun c1 => ?_) (fun c1 => ?_)
  · skip
    have hk9 : kFore yv wv = 1 := mf_if_t (by omega)
    exact mf_throw (ik := 48) (is := 177) (ic := 52) (cls := "java/lang/IllegalArgumentException") hx hb hl9 hown (by decide +kernel) (hts (.classLink RX2 48 "java/lang/IllegalArgumentException") (List.mem_of_getElem? (i := 1) rfl)) (hts (.initialized "java/lang/IllegalArgumentException") (List.mem_of_getElem? (i := 2) rfl)) hSX (List.mem_of_getElem? (i := 14) rfl) hat52 xg52 hZ hP hD hS (hl.1.trans hml.symm) dX2_foresee_11 dX2_foresee_14 dX2_foresee_15 dX2_foresee_17 dX2_foresee_20 hexc (Nat.le_of_ble_eq_true rfl) (Nat.le_of_ble_eq_true rfl) (Nat.le_of_ble_eq_true rfl) (Nat.le_of_ble_eq_true rfl) hlocks (by exact Or.inl ⟨rfl, hk9⟩) (Nat.le_of_ble_eq_true rfl) (Nat.le_of_ble_eq_true rfl)
  · skip
    refine lv_iload_n hx hb dX2_foresee_5 rfl (lv_at hl 1 rfl) ?_
    refine mf_bipush hx hb dX2_foresee_6 rfl ?_
    refine mf_icmp_le (tgt := 21) hx hb dX2_foresee_8 (by decide) (i32_mk (by omega) (by omega)) (i32_mk (by decide) (by decide)) (fun c2 => ?_) (fun c2 => ?_)
    · skip
      refine lv_iload_n hx hb dX2_foresee_21 rfl (lv_at hl 2 rfl) ?_
      refine mf_if_lt (tgt := 30) hx hb dX2_foresee_22 (by decide) (i32_mk (by omega) (by omega)) (fun c3 => ?_) (fun c3 => ?_)
      · skip
        have hk9 : kFore yv wv = 2 := (mf_if_f (fun z => z (by omega))).trans (mf_if_t (by omega))
        exact mf_throw (ik := 38) (is := 187) (ic := 42) (cls := "java/lang/IndexOutOfBoundsException") hx hb hl9 hown (by decide +kernel) (hts (.classLink RX2 38 "java/lang/IndexOutOfBoundsException") (List.mem_of_getElem? (i := 3) rfl)) (hts (.initialized "java/lang/IndexOutOfBoundsException") (List.mem_of_getElem? (i := 4) rfl)) hSX (List.mem_of_getElem? (i := 16) rfl) hat42 xg42 hZ hP hD hS (hl.1.trans hml.symm) dX2_foresee_30 dX2_foresee_33 dX2_foresee_34 dX2_foresee_36 dX2_foresee_39 hexc (Nat.le_of_ble_eq_true rfl) (Nat.le_of_ble_eq_true rfl) (Nat.le_of_ble_eq_true rfl) (Nat.le_of_ble_eq_true rfl) hlocks (by exact Or.inr (⟨rfl, hk9⟩)) (Nat.le_of_ble_eq_true rfl) (Nat.le_of_ble_eq_true rfl)
      · skip
        refine lv_iload_n hx hb dX2_foresee_25 rfl (lv_at hl 2 rfl) ?_
        refine mf_iconst hx hb dX2_foresee_26 ?_
        refine mf_icmp_le (tgt := 40) hx hb dX2_foresee_27 (by decide) (i32_mk (by omega) (by omega)) (i32_mk (by decide) (by decide)) (fun c4 => ?_) (fun c4 => ?_)
        · skip
          refine lv_aload_n hx hb dX2_foresee_40 rfl (lv_at hl 0 rfl) ?_
          refine va_get (D := G.1) (ci := 2) (v := .ref pa) (C := RX2) (T := TX2) (N := 4) hx hb hts hinX2 hown hK hP 0 rfl rfl 1 (by decide) (hts (.fieldLink RX2 20 "MeanderFarm" "ahead" "LMeanderFarm$River;") (List.mem_of_getElem? (i := 5) rfl)) (fun _ h9 => h9) rfl dX2_foresee_41 ?_
          refine lv_aload_n hx hb dX2_foresee_44 rfl (lv_at hl 0 rfl) ?_
          refine va_get (D := G.1) (ci := 2) (v := .ref pn) (C := RX2) (T := TX2) (N := 4) hx hb hts hinX2 hown hK hP 0 rfl rfl 0 (by decide) (hts (.fieldLink RX2 16 "MeanderFarm" "now" "LMeanderFarm$River;") (List.mem_of_getElem? (i := 6) rfl)) (fun _ h9 => h9) rfl dX2_foresee_45 ?_
          have hFc := va_free (wc := RW G pa ada ra ++ RW G pn adn r) hD hS hA [14, 15, 16, 17, 18, 19, 20, 21, 22, 23, 24, 25, 2, 3, 4, 5, 6, 7, 8, 9, 10, 11, 12, 13] sb_871c7253b1
          refine va_callv (va_runVN (As := [.ref pn]) (rest := []) ⟨hx, hb, hml, hown, hts⟩ (c_X1_copyFrom l G pa ada ra pn adn r (by assumption) (by assumption) _) ⟨(va_cnB 1 hts gX2_foresee_X1_copyFrom_n144 rfl rfl rfl (hN.m 7 rfl) (hts (.initialized RX1) (List.mem_of_getElem? (i := 8) rfl)) (by decide +kernel) ⟨Nat.le_of_ble_eq_true rfl, Nat.le_of_ble_eq_true rfl⟩), (hts (.instanceMethod yX1_copyFrom) (List.mem_of_getElem? (i := 7) rfl)), (hts (.selects RX1 yX1_copyFrom yX1_copyFrom) (List.mem_of_getElem? (i := 9) rfl))⟩ (wrV (wc := RW G pa ada ra ++ RW G pn adn r) hK hP hD hN [14, 15, 16, 17, 18, 19, 20, 21, 22, 23, 24, 25, 2, 3, 4, 5, 6, 7, 8, 9, 10, 11, 12, 13] (by decide +kernel) sb_3be7e94c27 sb_871c7253b1 (ci := 1) rfl rfl) rfl rfl hl.1 rfl (lv_room (Nat.le_of_ble_eq_true rfl)) dX2_foresee_48 ⟨(Nat.zero_le _), (Nat.zero_le _)⟩) hS (fun q _ h => hFc q h) hFc (fun u6 t H1 locs ht hvm hw hB hz1 hk1 hS => ?_)
          obtain ⟨ra7, rfl⟩ : ∃ z, z = u6 := ⟨_, rfl⟩
          try dsimp only at hw hB
          obtain ⟨hP, hD⟩ := wrJ2 (ws := OW G ho pn pa pf ae x ++ RW G pn adn r ++ RW G pa ada ra ++ FW G pf adf f) (wc := RW G pa ada ra ++ RW G pn adn r) (wr := OW G ho pn pa pf ae x ++ FW G pf adf f) (w1 := RW G pa ada ra7 ++ RW G pn adn r) hP hD [14, 15, 16, 17, 18, 19, 20, 21, 22, 23, 24, 25, 2, 3, 4, 5, 6, 7, 8, 9, 10, 11, 12, 13] [0, 1, 26, 27, 28, 29, 30] sb_871c7253b1 sb_61b483770e (by decide +kernel) (by decide +kernel) hk1 ht hFc hB
          have hP : va_P G.1 vwCl (OW G ho pn pa pf ae x ++ RW G pn adn r ++ RW G pa ada ra7 ++ FW G pf adf f) H1 := hP.sub [0, 1, 19, 20, 21, 22, 23, 24, 25, 26, 27, 28, 29, 30, 7, 8, 9, 10, 11, 12, 13, 14, 15, 16, 17, 18, 2, 3, 4, 5, 6] sb_d5f6a917eb
          have hD : va_D A (OW G ho pn pa pf ae x ++ RW G pn adn r ++ RW G pa ada ra7 ++ FW G pf adf f) := hD.sub [0, 1, 19, 20, 21, 22, 23, 24, 25, 26, 27, 28, 29, 30, 7, 8, 9, 10, 11, 12, 13, 14, 15, 16, 17, 18, 2, 3, 4, 5, 6] (by decide +kernel) sb_9138ed5ff0
          have hP : va_P G.1 vwCl (OW G ho pn pa pf ae x ++ RW G pn adn r ++ RW G pa ada ra7 ++ FW G pf adf f) H1 := hP
          have hD : va_D A (OW G ho pn pa pf ae x ++ RW G pn adn r ++ RW G pa ada ra7 ++ FW G pf adf f) := hD
          clear hB hk1 hFc ht hz1 hvm
          generalize H1 = H at hP hS ⊢
          have w8 := hw; clear hw
          have okra7 : rOK rlo rhi ra7 := w8.1
          have era : ra7 = rC r := w8.2
          have hIa : RInv ra7 := by rw [era]; exact rC_I hI
          have hBa : bdP ra7 Yv := by rw [era]; exact rC_b hB
          refine lv_aload_n hx hb dX2_foresee_51 rfl (lv_at hl 0 rfl) ?_
          refine va_get (D := G.1) (ci := 2) (v := .ref pa) (C := RX2) (T := TX2) (N := 4) hx hb hts hinX2 hown hK hP 0 rfl rfl 1 (by decide) (hts (.fieldLink RX2 20 "MeanderFarm" "ahead" "LMeanderFarm$River;") (List.mem_of_getElem? (i := 5) rfl)) (fun _ h9 => h9) rfl dX2_foresee_52 ?_
          refine lv_iload_n hx hb dX2_foresee_55 rfl (lv_at hl 1 rfl) ?_
          have hFc := va_free (wc := RW G pa ada ra7) hD hS hA [14, 15, 16, 17, 18, 19, 20, 21, 22, 23, 24, 25] sb_b17e3cb988
          refine va_calli (va_runVN (As := [.int (iI (yv))]) (rest := []) ⟨hx, hb, hml, hown, hts⟩ (c_X1_letPass l G pa ada ra7 (yv) (Yv) (i32_mk (by omega) (by omega)) (by assumption) (by exact hIa) (by exact hBa) (by omega) (by omega) _) ⟨(va_cnB 1 hts gX2_foresee_X1_letPass_n179 rfl rfl rfl (hN.m 13 rfl) (hts (.initialized RX1) (List.mem_of_getElem? (i := 8) rfl)) (by decide +kernel) ⟨Nat.le_of_ble_eq_true rfl, Nat.le_of_ble_eq_true rfl⟩), (hts (.instanceMethod yX1_letPass) (List.mem_of_getElem? (i := 29) rfl)), (hts (.selects RX1 yX1_letPass yX1_letPass) (List.mem_of_getElem? (i := 30) rfl))⟩ (wrV (wc := RW G pa ada ra7) hK hP hD hN [14, 15, 16, 17, 18, 19, 20, 21, 22, 23, 24, 25] (by decide +kernel) sb_2485c20cb4 sb_b17e3cb988 (ci := 1) rfl rfl) rfl rfl hl.1 rfl (lv_room (Nat.le_of_ble_eq_true rfl)) dX2_foresee_56 ⟨(Nat.zero_le _), (Nat.zero_le _)⟩) hS (fun q _ h => hFc q h) hFc (fun q9 u10 t H1 locs ht hvm hw hB hz1 hk1 hS => ?_)
          obtain ⟨ra11, rfl⟩ : ∃ z, z = u10 := ⟨_, rfl⟩
          try dsimp only at hw hB
          obtain ⟨hP, hD⟩ := wrJ2 (ws := OW G ho pn pa pf ae x ++ RW G pn adn r ++ RW G pa ada ra7 ++ FW G pf adf f) (wc := RW G pa ada ra7) (wr := OW G ho pn pa pf ae x ++ RW G pn adn r ++ FW G pf adf f) (w1 := RW G pa ada ra11) hP hD [14, 15, 16, 17, 18, 19, 20, 21, 22, 23, 24, 25] [0, 1, 2, 3, 4, 5, 6, 7, 8, 9, 10, 11, 12, 13, 26, 27, 28, 29, 30] sb_b17e3cb988 sb_ae993759e8 (by decide +kernel) (by decide +kernel) hk1 ht hFc hB
          have hP : va_P G.1 vwCl (OW G ho pn pa pf ae x ++ RW G pn adn r ++ RW G pa ada ra11 ++ FW G pf adf f) H1 := hP.sub [0, 1, 2, 3, 4, 5, 6, 7, 8, 9, 10, 11, 12, 13, 19, 20, 21, 22, 23, 24, 25, 26, 27, 28, 29, 30, 14, 15, 16, 17, 18] sb_84a93fcdb8
          have hD : va_D A (OW G ho pn pa pf ae x ++ RW G pn adn r ++ RW G pa ada ra11 ++ FW G pf adf f) := hD.sub [0, 1, 2, 3, 4, 5, 6, 7, 8, 9, 10, 11, 12, 13, 19, 20, 21, 22, 23, 24, 25, 26, 27, 28, 29, 30, 14, 15, 16, 17, 18] (by decide +kernel) sb_1da5d66636
          have hP : va_P G.1 vwCl (OW G ho pn pa pf ae x ++ RW G pn adn r ++ RW G pa ada ra11 ++ FW G pf adf f) H1 := hP
          have hD : va_D A (OW G ho pn pa pf ae x ++ RW G pn adn r ++ RW G pa ada ra11 ++ FW G pf adf f) := hD
          clear hB hk1 hFc ht hz1 hvm
          generalize H1 = H at hP hS ⊢
          obtain ⟨z13, rfl, w12⟩ := hw
          have okra11 : rOK rlo rhi ra11 := w12.1
          skip
          refine lv_istore_n (lv' := [(3, .int (iI (z13))), (0, .ref ho), (1, .int (iI (yv))), (2, .int (iI (wv)))]) hx hb dX2_foresee_59 rfl hl (by decide) rfl (fun ls hl => ?_)
          refine lv_iload_n hx hb dX2_foresee_60 rfl (lv_at hl 3 rfl) ?_
          refine mf_if_ne (tgt := 72) hx hb dX2_foresee_61 (by decide) (i32_mk (by omega) (by omega)) (fun c14 => ?_) (fun c14 => ?_)
          · skip
            refine lv_iload_n hx hb dX2_foresee_72 rfl (lv_at hl 3 rfl) ?_
            refine mf_iconst hx hb dX2_foresee_73 ?_
            refine mf_icmp_ne (tgt := 95) hx hb dX2_foresee_74 (by decide) (i32_mk (by omega) (by omega)) (i32_mk (by decide) (by decide)) (fun c15 => ?_) (fun c15 => ?_)
            · skip
              refine lv_iload_n hx hb dX2_foresee_95 rfl (lv_at hl 0 rfl) ?_
              have hk9 : kFore yv wv = 0 := (mf_if_f (fun z => z (by omega))).trans (mf_if_f (fun z => z (by omega)))
              refine W.widen (k := 1) (n := 6) (Nat.le_of_ble_eq_true rfl) (Nat.le_of_ble_eq_true rfl) ?_
              refine vx_ret ?_
              exact W.iret hx hb hr (fun t ht hW => ⟨⟨_, (x, r, ra11, f), rfl, ⟨_, rfl, by (try dsimp only); exact ⟨hk9, ⟨okx, ok, okra11, okf⟩, ⟨⟨ra11, z13, by rw [← era]; exact w12.2.1, okra11, w12.2.2.1, by unfold vFore; rw [if_neg (by omega)]; rw [if_neg (by omega)]; all_goals (first | rfl | omega)⟩, rfl, rfl⟩⟩⟩, by rw [ht]; exact hP, hD⟩, hS.F ht⟩) hS.2.2 dX2_foresee_96
            · skip
              refine lv_aload_n hx hb dX2_foresee_77 rfl (lv_at hl 1 rfl) ?_
              refine va_get (D := G.1) (ci := 2) (v := .ref pa) (C := RX2) (T := TX2) (N := 4) hx hb hts hinX2 hown hK hP 0 rfl rfl 1 (by decide) (hts (.fieldLink RX2 20 "MeanderFarm" "ahead" "LMeanderFarm$River;") (List.mem_of_getElem? (i := 5) rfl)) (fun _ h9 => h9) rfl dX2_foresee_78 ?_
              refine va_getN (D := G.1) (ci := 1) (v := .int (iI (ra11 9 0))) (C := RX1) (T := TX1) (N := 14) hx hb hts hinX1 hown hK hP 14 rfl rfl 9 (by decide) (va_Nw.use rfl (hN.f 4 rfl)) (fun _ h9 => h9) rfl dX2_foresee_81 ?_
              have b16 : (0 : Int) ≤ ra11 9 0 ∧ ra11 9 0 ≤ 100000000 := okra11 9 (0)
              refine lv_aload_n hx hb dX2_foresee_84 rfl (lv_at hl 1 rfl) ?_
              refine va_get (D := G.1) (ci := 2) (v := .ref pn) (C := RX2) (T := TX2) (N := 4) hx hb hts hinX2 hown hK hP 0 rfl rfl 0 (by decide) (hts (.fieldLink RX2 16 "MeanderFarm" "now" "LMeanderFarm$River;") (List.mem_of_getElem? (i := 6) rfl)) (fun _ h9 => h9) rfl dX2_foresee_85 ?_
              refine va_getN (D := G.1) (ci := 1) (v := .int (iI (r 9 0))) (C := RX1) (T := TX1) (N := 14) hx hb hts hinX1 hown hK hP 2 rfl rfl 9 (by decide) (va_Nw.use rfl (hN.f 4 rfl)) (fun _ h9 => h9) rfl dX2_foresee_88 ?_
              have b17 : (0 : Int) ≤ r 9 0 ∧ r 9 0 ≤ 100000000 := ok 9 (0)
              refine mf_isub hx hb dX2_foresee_91 ?_
              refine lv_goto (tgt := 96) hx hb dX2_foresee_92 (by decide) ?_
              have hk9 : kFore yv wv = 0 := (mf_if_f (fun z => z (by omega))).trans (mf_if_f (fun z => z (by omega)))
              refine W.widen (k := 1) (n := 6) (Nat.le_of_ble_eq_true rfl) (Nat.le_of_ble_eq_true rfl) ?_
              refine vx_ret ?_
              exact W.iret hx hb hr (fun t ht hW => ⟨⟨_, (x, r, ra11, f), rfl, ⟨_, rfl, by (try dsimp only); exact ⟨hk9, ⟨okx, ok, okra11, okf⟩, ⟨⟨ra11, z13, by rw [← era]; exact w12.2.1, okra11, w12.2.2.1, by unfold vFore; rw [if_neg (by omega)]; rw [if_pos (by omega)]; all_goals (first | rfl | omega)⟩, rfl, rfl⟩⟩⟩, by rw [ht]; exact hP, hD⟩, hS.F ht⟩) hS.2.2 dX2_foresee_96
          · skip
            refine lv_aload_n hx hb dX2_foresee_64 rfl (lv_at hl 1 rfl) ?_
            refine va_get (D := G.1) (ci := 2) (v := .ref pa) (C := RX2) (T := TX2) (N := 4) hx hb hts hinX2 hown hK hP 0 rfl rfl 1 (by decide) (hts (.fieldLink RX2 20 "MeanderFarm" "ahead" "LMeanderFarm$River;") (List.mem_of_getElem? (i := 5) rfl)) (fun _ h9 => h9) rfl dX2_foresee_65 ?_
            refine va_getN (D := G.1) (ci := 1) (v := .int (iI (ra11 7 0))) (C := RX1) (T := TX1) (N := 14) hx hb hts hinX1 hown hK hP 14 rfl rfl 7 (by decide) (va_Nw.use rfl (hN.f 2 rfl)) (fun _ h9 => h9) rfl dX2_foresee_68 ?_
            have b18 : (0 : Int) ≤ ra11 7 0 ∧ ra11 7 0 ≤ 150 := okra11 7 (0)
            have hk9 : kFore yv wv = 0 := (mf_if_f (fun z => z (by omega))).trans (mf_if_f (fun z => z (by omega)))
            refine W.widen (k := 1) (n := 6) (Nat.le_of_ble_eq_true rfl) (Nat.le_of_ble_eq_true rfl) ?_
            refine vx_ret ?_
            exact W.iret hx hb hr (fun t ht hW => ⟨⟨_, (x, r, ra11, f), rfl, ⟨_, rfl, by (try dsimp only); exact ⟨hk9, ⟨okx, ok, okra11, okf⟩, ⟨⟨ra11, z13, by rw [← era]; exact w12.2.1, okra11, w12.2.2.1, by unfold vFore; rw [if_pos (by omega)]; all_goals (first | rfl | omega)⟩, rfl, rfl⟩⟩⟩, by rw [ht]; exact hP, hD⟩, hS.F ht⟩) hS.2.2 dX2_foresee_71
        · skip
          have hk9 : kFore yv wv = 2 := (mf_if_f (fun z => z (by omega))).trans (mf_if_t (by omega))
          exact mf_throw (ik := 38) (is := 187) (ic := 42) (cls := "java/lang/IndexOutOfBoundsException") hx hb hl9 hown (by decide +kernel) (hts (.classLink RX2 38 "java/lang/IndexOutOfBoundsException") (List.mem_of_getElem? (i := 3) rfl)) (hts (.initialized "java/lang/IndexOutOfBoundsException") (List.mem_of_getElem? (i := 4) rfl)) hSX (List.mem_of_getElem? (i := 16) rfl) hat42 xg42 hZ hP hD hS (hl.1.trans hml.symm) dX2_foresee_30 dX2_foresee_33 dX2_foresee_34 dX2_foresee_36 dX2_foresee_39 hexc (Nat.le_of_ble_eq_true rfl) (Nat.le_of_ble_eq_true rfl) (Nat.le_of_ble_eq_true rfl) (Nat.le_of_ble_eq_true rfl) hlocks (by exact Or.inr (⟨rfl, hk9⟩)) (Nat.le_of_ble_eq_true rfl) (Nat.le_of_ble_eq_true rfl)
    · skip
      have hk9 : kFore yv wv = 1 := mf_if_t (by omega)
      exact mf_throw (ik := 48) (is := 177) (ic := 52) (cls := "java/lang/IllegalArgumentException") hx hb hl9 hown (by decide +kernel) (hts (.classLink RX2 48 "java/lang/IllegalArgumentException") (List.mem_of_getElem? (i := 1) rfl)) (hts (.initialized "java/lang/IllegalArgumentException") (List.mem_of_getElem? (i := 2) rfl)) hSX (List.mem_of_getElem? (i := 14) rfl) hat52 xg52 hZ hP hD hS (hl.1.trans hml.symm) dX2_foresee_11 dX2_foresee_14 dX2_foresee_15 dX2_foresee_17 dX2_foresee_20 hexc (Nat.le_of_ble_eq_true rfl) (Nat.le_of_ble_eq_true rfl) (Nat.le_of_ble_eq_true rfl) (Nat.le_of_ble_eq_true rfl) hlocks (by exact Or.inl ⟨rfl, hk9⟩) (Nat.le_of_ble_eq_true rfl) (Nat.le_of_ble_eq_true rfl)
theorem sb_8ad9b818b5 {G : mf_G} {h1 p1 a1 f1 ae1 : Nat} {x1 : mf_V} {h2 : Nat} {ad2 : Nat → Nat} {x2 : mf_V} {h3 : Nat} {ad3 : Nat → Nat} {x3 : mf_V} {h4 : Nat} {ad4 : Nat → Nat} {x4 : mf_V} : ([26, 27, 28, 29, 30, 14, 15, 16, 17, 18, 19, 20, 21, 22, 23, 24, 25] : List Nat).filterMap (fun i => (OW G h1 p1 a1 f1 ae1 x1 ++ RW G h2 ad2 x2 ++ RW G h3 ad3 x3 ++ FW G h4 ad4 x4)[i]?) = FW G h4 ad4 x4 ++ RW G h3 ad3 x3 := rfl
set_option maxHeartbeats 4000000 in
set_option maxRecDepth 100000 in
theorem c_X2_loses (l : Launch) (hl9 : l.stackTraces = false) (G : mf_G) (ho pn pa pf : Nat) (ae : Nat) (x : mf_V) (adn : Nat → Nat) (r : mf_V) (ada : Nat → Nat) (ra : mf_V) (adf : Nat → Nat) (f : mf_V)  (kv : Int) (Yv : Int) (hkv : i32 kv) (okx : rOK xlo xhi x) (ok : rOK rlo rhi r) (okra : rOK rlo rhi ra) (okf : rOK flo fhi f) (hI : RInv r) (hB : bdP r Yv) (hYv : 0 ≤ Yv ∧ Yv + 100 ≤ 60000) (sz : Nat) : vx_Met l yX2_loses wsX2_loses ({ frames := 6, cells := 1, slots := 6, locals := 143 }) (va_Pc [.ref ho, .int (iI (kv))] (WrPx G (OW G ho pn pa pf ae x ++ RW G pn adn r ++ RW G pa ada ra ++ FW G pf adf f) sz)) (va_Qi (fun q9 (u : mf_V × mf_V × mf_V × mf_V) => ∃ z : Int, q9 = iI z ∧ kLose f kv = 0 ∧ (rOK xlo xhi u.1 ∧ rOK rlo rhi u.2.1 ∧ rOK rlo rhi u.2.2.1 ∧ rOK flo fhi u.2.2.2) ∧ (∃ ch nv, LoseP f (rC r) kv ch nv ∧ z = vLose f (rC r) kv ch nv) ∧ u.2.1 = r ∧ u.2.2.2 = f) (fun (u : mf_V × mf_V × mf_V × mf_V) t => WrQ G (va_A (OW G ho pn pa pf ae x ++ RW G pn adn r ++ RW G pa ada ra ++ FW G pf adf f) sz) (OW G ho pn pa pf ae (u.1) ++ RW G pn adn (u.2.1) ++ RW G pa ada (u.2.2.1) ++ FW G pf adf (u.2.2.2)) t) (va_A (OW G ho pn pa pf ae x ++ RW G pn adn r ++ RW G pa ada ra ++ FW G pf adf f) sz)) (vx_X (fun _ : Unit => True) (fun E _ t => (E = xIO ∧ kLose f kv = 1) ∧ WrQ G (va_A (OW G ho pn pa pf ae x ++ RW G pn adn r ++ RW G pa ada ra ++ FW G pf adf f) sz) (OW G ho pn pa pf ae x ++ RW G pn adn r ++ RW G pa ada ra ++ FW G pf adf f) t) (va_A (OW G ho pn pa pf ae x ++ RW G pn adn r ++ RW G pa ada ra ++ FW G pf adf f) sz)) 1 6 (va_A (OW G ho pn pa pf ae x ++ RW G pn adn r ++ RW G pa ada ra ++ FW G pf adf f) sz) := by
  refine vx_ofW (cc := cX2_loses) (maxL := 4) (ret := (some .int)) (by decide) rfl ?_
  intro p e s m args below meth c s₁ B hml hexc hv
  obtain ⟨rfl, hsz, hP, hK, hD0, hN, hSX, hCX, hZ⟩ := hv
  have hx := B.exec
  have hb := B.bytes
  have hr := B.returns
  have hts := atoms_spec (ws := wsX2_loses) B.pre
  have hown : s.vm.findClass RX2 = some m.cls := findClass_of_methodNamed B.named
  have hlocks := B.notSynchronized
  have hat42 := vx_hat (fun w h => hts w (List.mem_cons_of_mem _ (List.mem_append_right _ h))) xb42 (vx_c (va_Nw.use rfl hCX.1) (vx_c (va_Nw.use rfl hCX.2.2.2.1) (vx_c (va_Nw.use rfl hCX.2.2.2.2.1) (vx_c (va_Nw.use rfl hCX.2.2.2.2.2) vx_n))))
  have hinX2 : ∀ w ∈ u_ws RX2 TX2 4, w ∈ wsX2_loses := fun w h => List.mem_cons_of_mem _ (List.mem_append_left _ (List.mem_append_left _ (List.mem_append_left _ (List.mem_append_right _ h))))
  subst hsz
  have hD := hD0.self (sz := s.heap.size)
  generalize hAe : va_A (OW G ho pn pa pf ae x ++ RW G pn adn r ++ RW G pa ada ra ++ FW G pf adf f) s.heap.size = A at hD hZ ⊢
  have hA : ∀ q : Nat, s.heap.size ≤ q → A q := fun q h => by rw [← hAe]; exact Or.inr h
  have hS : va_S A s.heap s.heap [] := va_S.rf
  have hl := lv_entry ([.ref ho, .int (iI (kv))]) (n := 4) (Nat.le_of_ble_eq_true rfl)
  rw [lg_entry_eq]
  generalize (lg_sl ([.ref ho, .int (iI (kv))]) ++ List.replicate (4 - (lg_sl ([.ref ho, .int (iI (kv))])).length) Slot.unset).toArray = ls at hl ⊢
  have hl : lv_has ls 4 [(0, .ref ho), (1, .int (iI (kv)))] := hl
  have hkv1 := hkv.1
  have hkv2 := hkv.2
  have okLr : (0 : Int) ≤ r 7 0 ∧ r 7 0 ≤ 150 := ok 7 0
  have okLra : (0 : Int) ≤ ra 7 0 ∧ ra 7 0 ≤ 150 := okra 7 0
  refine lv_aload_n hx hb dX2_loses_0 rfl (lv_at hl 0 rfl) ?_
  refine va_get (D := G.1) (ci := 2) (v := .ref pf) (C := RX2) (T := TX2) (N := 4) hx hb hts hinX2 hown hK hP 0 rfl rfl 2 (by decide) (hts (.fieldLink RX2 26 "MeanderFarm" "farms" "LMeanderFarm$Farms;") (List.mem_of_getElem? (i := 3) rfl)) (fun _ h9 => h9) rfl dX2_loses_1 ?_
  refine lv_iload_n hx hb dX2_loses_4 rfl (lv_at hl 1 rfl) ?_
  refine vp_callSi (va_Run.run (va_runVN (As := [.int (iI (kv))]) (rest := []) ⟨hx, hb, hml, hown, hts⟩ (c_X0_isFarm l G pf adf f (kv) (i32_mk (by omega) (by omega)) (by assumption)) ⟨(va_cnB 1 hts gX2_loses_X0_isFarm_n168 rfl rfl rfl (hN.m 11 rfl) (hts (.initialized RX0) (List.mem_of_getElem? (i := 7) rfl)) (by decide +kernel) ⟨Nat.le_of_ble_eq_true rfl, Nat.le_of_ble_eq_true rfl⟩), (hts (.instanceMethod yX0_isFarm) (List.mem_of_getElem? (i := 6) rfl)), (hts (.selects RX0 yX0_isFarm yX0_isFarm) (List.mem_of_getElem? (i := 8) rfl))⟩ (rdV (wc := FW G pf adf f) hK hP hN [26, 27, 28, 29, 30] sb_a21b19b911 (ci := 0) rfl rfl) rfl rfl hl.1 rfl (lv_room (Nat.le_of_ble_eq_true rfl)) dX2_loses_5 ⟨(Nat.zero_le _), (Nat.zero_le _)⟩)) (fun q1 hq1 => ?_)
  subst hq1
  refine mf_bp_ne (tgt := 21) hx hb dX2_loses_8 (by decide) (fun c2 => ?_) (fun c2 => ?_)
  · skip
    have c2' := c2; unfold isF at c2'
    have hF9 : isF f kv := by assumption
    refine lv_aload_n hx hb dX2_loses_21 rfl (lv_at hl 0 rfl) ?_
    refine va_get (D := G.1) (ci := 2) (v := .ref pf) (C := RX2) (T := TX2) (N := 4) hx hb hts hinX2 hown hK hP 0 rfl rfl 2 (by decide) (hts (.fieldLink RX2 26 "MeanderFarm" "farms" "LMeanderFarm$Farms;") (List.mem_of_getElem? (i := 3) rfl)) (fun _ h9 => h9) rfl dX2_loses_22 ?_
    refine lv_iload_n hx hb dX2_loses_25 rfl (lv_at hl 1 rfl) ?_
    refine mf_iconst hx hb dX2_loses_26 ?_
    refine lv_aload_n hx hb dX2_loses_27 rfl (lv_at hl 0 rfl) ?_
    refine va_get (D := G.1) (ci := 2) (v := .ref pn) (C := RX2) (T := TX2) (N := 4) hx hb hts hinX2 hown hK hP 0 rfl rfl 0 (by decide) (hts (.fieldLink RX2 16 "MeanderFarm" "now" "LMeanderFarm$River;") (List.mem_of_getElem? (i := 4) rfl)) (fun _ h9 => h9) rfl dX2_loses_28 ?_
    refine vp_callSi (va_Run.run (va_runVN (As := [.int (iI (kv)), .int (iI (1)), .ref pn]) (rest := []) ⟨hx, hb, hml, hown, hts⟩ (c_X0_cellsOf l G pf adf f pn adn r (kv) (1) (i32_mk (by omega) (by omega)) (i32_mk (by decide) (by decide)) (by assumption) (by assumption)) ⟨(va_cnB 3 hts gX2_loses_X0_cellsOf_n173 rfl rfl rfl (hN.m 12 rfl) (hts (.initialized RX0) (List.mem_of_getElem? (i := 7) rfl)) (by decide +kernel) ⟨Nat.le_of_ble_eq_true rfl, Nat.le_of_ble_eq_true rfl⟩), (hts (.instanceMethod yX0_cellsOf) (List.mem_of_getElem? (i := 11) rfl)), (hts (.selects RX0 yX0_cellsOf yX0_cellsOf) (List.mem_of_getElem? (i := 12) rfl))⟩ (rdV (wc := FW G pf adf f ++ RW G pn adn r) hK hP hN [26, 27, 28, 29, 30, 2, 3, 4, 5, 6, 7, 8, 9, 10, 11, 12, 13] sb_11986c55c6 (ci := 0) rfl rfl) rfl rfl hl.1 rfl (lv_room (Nat.le_of_ble_eq_true rfl)) dX2_loses_31 ⟨(Nat.zero_le _), (Nat.zero_le _)⟩)) (fun q3 hq3 => ?_)
    subst hq3
    refine mf_nm (fun y4 ey4 => ?_)
    have b5 : 0 ≤ y4 ∧ y4 ≤ 384 := by rw [ey4]; exact cofF_b (by assumption) kv 1
    have hl9 : y4 = cof f (rC r) kv 1 := by rw [ey4]; exact mf_if_t hF9
    refine lv_istore_n (lv' := [(2, .int (iI (y4))), (0, .ref ho), (1, .int (iI (kv)))]) hx hb dX2_loses_34 rfl hl (by decide) rfl (fun ls hl => ?_)
    refine lv_aload_n hx hb dX2_loses_35 rfl (lv_at hl 1 rfl) ?_
    refine va_get (D := G.1) (ci := 2) (v := .ref pa) (C := RX2) (T := TX2) (N := 4) hx hb hts hinX2 hown hK hP 0 rfl rfl 1 (by decide) (hts (.fieldLink RX2 20 "MeanderFarm" "ahead" "LMeanderFarm$River;") (List.mem_of_getElem? (i := 5) rfl)) (fun _ h9 => h9) rfl dX2_loses_36 ?_
    refine lv_aload_n hx hb dX2_loses_39 rfl (lv_at hl 1 rfl) ?_
    refine va_get (D := G.1) (ci := 2) (v := .ref pn) (C := RX2) (T := TX2) (N := 4) hx hb hts hinX2 hown hK hP 0 rfl rfl 0 (by decide) (hts (.fieldLink RX2 16 "MeanderFarm" "now" "LMeanderFarm$River;") (List.mem_of_getElem? (i := 4) rfl)) (fun _ h9 => h9) rfl dX2_loses_40 ?_
    have hFc := va_free (wc := RW G pa ada ra ++ RW G pn adn r) hD hS hA [14, 15, 16, 17, 18, 19, 20, 21, 22, 23, 24, 25, 2, 3, 4, 5, 6, 7, 8, 9, 10, 11, 12, 13] sb_871c7253b1
    refine va_callv (va_runVN (As := [.ref pn]) (rest := []) ⟨hx, hb, hml, hown, hts⟩ (c_X1_copyFrom l G pa ada ra pn adn r (by assumption) (by assumption) _) ⟨(va_cnB 1 hts gX2_loses_X1_copyFrom_n144 rfl rfl rfl (hN.m 7 rfl) (hts (.initialized RX1) (List.mem_of_getElem? (i := 28) rfl)) (by decide +kernel) ⟨Nat.le_of_ble_eq_true rfl, Nat.le_of_ble_eq_true rfl⟩), (hts (.instanceMethod yX1_copyFrom) (List.mem_of_getElem? (i := 37) rfl)), (hts (.selects RX1 yX1_copyFrom yX1_copyFrom) (List.mem_of_getElem? (i := 38) rfl))⟩ (wrV (wc := RW G pa ada ra ++ RW G pn adn r) hK hP hD hN [14, 15, 16, 17, 18, 19, 20, 21, 22, 23, 24, 25, 2, 3, 4, 5, 6, 7, 8, 9, 10, 11, 12, 13] (by decide +kernel) sb_3be7e94c27 sb_871c7253b1 (ci := 1) rfl rfl) rfl rfl hl.1 rfl (lv_room (Nat.le_of_ble_eq_true rfl)) dX2_loses_43 ⟨(Nat.zero_le _), (Nat.zero_le _)⟩) hS (fun q _ h => hFc q h) hFc (fun u7 t H1 locs ht hvm hw hB hz1 hk1 hS => ?_)
    obtain ⟨ra8, rfl⟩ : ∃ z, z = u7 := ⟨_, rfl⟩
    try dsimp only at hw hB
    obtain ⟨hP, hD⟩ := wrJ2 (ws := OW G ho pn pa pf ae x ++ RW G pn adn r ++ RW G pa ada ra ++ FW G pf adf f) (wc := RW G pa ada ra ++ RW G pn adn r) (wr := OW G ho pn pa pf ae x ++ FW G pf adf f) (w1 := RW G pa ada ra8 ++ RW G pn adn r) hP hD [14, 15, 16, 17, 18, 19, 20, 21, 22, 23, 24, 25, 2, 3, 4, 5, 6, 7, 8, 9, 10, 11, 12, 13] [0, 1, 26, 27, 28, 29, 30] sb_871c7253b1 sb_61b483770e (by decide +kernel) (by decide +kernel) hk1 ht hFc hB
    have hP : va_P G.1 vwCl (OW G ho pn pa pf ae x ++ RW G pn adn r ++ RW G pa ada ra8 ++ FW G pf adf f) H1 := hP.sub [0, 1, 19, 20, 21, 22, 23, 24, 25, 26, 27, 28, 29, 30, 7, 8, 9, 10, 11, 12, 13, 14, 15, 16, 17, 18, 2, 3, 4, 5, 6] sb_d5f6a917eb
    have hD : va_D A (OW G ho pn pa pf ae x ++ RW G pn adn r ++ RW G pa ada ra8 ++ FW G pf adf f) := hD.sub [0, 1, 19, 20, 21, 22, 23, 24, 25, 26, 27, 28, 29, 30, 7, 8, 9, 10, 11, 12, 13, 14, 15, 16, 17, 18, 2, 3, 4, 5, 6] (by decide +kernel) sb_9138ed5ff0
    have hP : va_P G.1 vwCl (OW G ho pn pa pf ae x ++ RW G pn adn r ++ RW G pa ada ra8 ++ FW G pf adf f) H1 := hP
    have hD : va_D A (OW G ho pn pa pf ae x ++ RW G pn adn r ++ RW G pa ada ra8 ++ FW G pf adf f) := hD
    clear hB hk1 hFc ht hz1 hvm
    generalize H1 = H at hP hS ⊢
    have w9 := hw; clear hw
    have okra8 : rOK rlo rhi ra8 := w9.1
    have era : ra8 = rC r := w9.2
    have hIa : RInv ra8 := by rw [era]; exact rC_I hI
    have hBa : bdP ra8 Yv := by rw [era]; exact rC_b hB
    refine mf_iconst hx hb dX2_loses_46 ?_
    refine lv_istore_n (lv' := [(3, .int (iI (1))), (2, .int (iI (y4))), (0, .ref ho), (1, .int (iI (kv)))]) hx hb dX2_loses_47 rfl hl (by decide) rfl (fun ls hl => ?_)
    have lp48 : ∀ (n : Nat) (jv : Int) (rb : mf_V) (ch : Int → mf_V), (61 - jv).toNat < n → (1 ≤ jv ∧ jv ≤ 61) → (rOK rlo rhi rb) → (RInv rb) → (bdP rb (Yv + (jv - 1))) → (LoseC f (rC r) kv ch (jv - 1) rb) → ∀ (H : Heap) (locs : List Loc), va_P G.1 vwCl (OW G ho pn pa pf ae x ++ RW G pn adn r ++ RW G pa ada rb ++ FW G pf adf f) H → va_D A (OW G ho pn pa pf ae x ++ RW G pn adn r ++ RW G pa ada rb ++ FW G pf adf f) → va_S A s.heap H locs → ∀ (ls : Array Slot), lv_has ls 4 [(0, .ref ho), (1, .int (iI (kv))), (2, .int (iI (y4))), (3, .int (iI (jv)))] → W p l e (headSpec wsX2_loses ({ frames := 6, cells := 1, slots := 6, locals := 143 })).room s m ([.ref ho, .int (iI (kv))] : List Value).toArray below meth c H locs 0 0 (vx_MQ below (va_Qi (fun q9 (u : mf_V × mf_V × mf_V × mf_V) => ∃ z : Int, q9 = iI z ∧ kLose f kv = 0 ∧ (rOK xlo xhi u.1 ∧ rOK rlo rhi u.2.1 ∧ rOK rlo rhi u.2.2.1 ∧ rOK flo fhi u.2.2.2) ∧ (∃ ch nv, LoseP f (rC r) kv ch nv ∧ z = vLose f (rC r) kv ch nv) ∧ u.2.1 = r ∧ u.2.2.2 = f) (fun (u : mf_V × mf_V × mf_V × mf_V) t => WrQ G A (OW G ho pn pa pf ae (u.1) ++ RW G pn adn (u.2.1) ++ RW G pa ada (u.2.2.1) ++ FW G pf adf (u.2.2.2)) t) A) (vx_X (fun _ : Unit => True) (fun E _ t => (E = xIO ∧ kLose f kv = 1) ∧ WrQ G A (OW G ho pn pa pf ae x ++ RW G pn adn r ++ RW G pa ada ra ++ FW G pf adf f) t) A) ([.ref ho, .int (iI (kv))] : List Value).toArray s 1 6 A) (F0 m 48 ls []) := by
      intro n
      induction n with
      | zero => intro jv rb ch hn; exact absurd hn (Nat.not_lt_zero _)
      | succ n ih48 =>
        intro jv rb ch hn hj okrb hIb hBb hC H locs hP hD hS ls hl
        refine lv_iload_n hx hb dX2_loses_48 rfl (lv_at hl 3 rfl) ?_
        refine mf_bipush hx hb dX2_loses_49 rfl ?_
        refine mf_icmp_gt (tgt := 88) hx hb dX2_loses_51 (by decide) (i32_mk (by omega) (by omega)) (i32_mk (by decide) (by decide)) (fun c10 => ?_) (fun c10 => ?_)
        · skip
          refine mf_iconst hx hb dX2_loses_88 ?_
          have hk9 : kLose f kv = 0 := mf_if_f (fun z => z hF9)
          refine W.widen (k := 1) (n := 6) (Nat.le_of_ble_eq_true rfl) (Nat.le_of_ble_eq_true rfl) ?_
          refine vx_ret ?_
          exact W.iret hx hb hr (fun t ht hW => ⟨⟨_, (x, r, rb, f), rfl, ⟨_, rfl, by (try dsimp only); exact ⟨hk9, ⟨okx, ok, okrb, okf⟩, ⟨⟨_, _, lose_n (by rw [show jv - 1 = 60 by omega] at hC; exact hC)⟩, rfl, rfl⟩⟩⟩, by rw [ht]; exact hP, hD⟩, hS.F ht⟩) hS.2.2 dX2_loses_89
        · skip
          refine lv_aload_n hx hb dX2_loses_54 rfl (lv_at hl 0 rfl) ?_
          refine va_get (D := G.1) (ci := 2) (v := .ref pa) (C := RX2) (T := TX2) (N := 4) hx hb hts hinX2 hown hK hP 0 rfl rfl 1 (by decide) (hts (.fieldLink RX2 20 "MeanderFarm" "ahead" "LMeanderFarm$River;") (List.mem_of_getElem? (i := 5) rfl)) (fun _ h9 => h9) rfl dX2_loses_55 ?_
          refine mf_iconst hx hb dX2_loses_58 ?_
          have hFc := va_free (wc := RW G pa ada rb) hD hS hA [14, 15, 16, 17, 18, 19, 20, 21, 22, 23, 24, 25] sb_b17e3cb988
          refine va_calli (va_runVN (As := [.int (iI (1))]) (rest := []) ⟨hx, hb, hml, hown, hts⟩ (c_X1_letPass l G pa ada rb (1) ((Yv + (jv - 1))) (i32_mk (by decide) (by decide)) (by assumption) (by exact hIb) (by exact hBb) (by omega) (by omega) _) ⟨(va_cnB 1 hts gX2_loses_X1_letPass_n179 rfl rfl rfl (hN.m 13 rfl) (hts (.initialized RX1) (List.mem_of_getElem? (i := 28) rfl)) (by decide +kernel) ⟨Nat.le_of_ble_eq_true rfl, Nat.le_of_ble_eq_true rfl⟩), (hts (.instanceMethod yX1_letPass) (List.mem_of_getElem? (i := 56) rfl)), (hts (.selects RX1 yX1_letPass yX1_letPass) (List.mem_of_getElem? (i := 57) rfl))⟩ (wrV (wc := RW G pa ada rb) hK hP hD hN [14, 15, 16, 17, 18, 19, 20, 21, 22, 23, 24, 25] (by decide +kernel) sb_2485c20cb4 sb_b17e3cb988 (ci := 1) rfl rfl) rfl rfl hl.1 rfl (lv_room (Nat.le_of_ble_eq_true rfl)) dX2_loses_59 ⟨(Nat.zero_le _), (Nat.zero_le _)⟩) hS (fun q _ h => hFc q h) hFc (fun q11 u12 t H1 locs ht hvm hw hB hz1 hk1 hS => ?_)
          obtain ⟨rb13, rfl⟩ : ∃ z, z = u12 := ⟨_, rfl⟩
          try dsimp only at hw hB
          obtain ⟨hP, hD⟩ := wrJ2 (ws := OW G ho pn pa pf ae x ++ RW G pn adn r ++ RW G pa ada rb ++ FW G pf adf f) (wc := RW G pa ada rb) (wr := OW G ho pn pa pf ae x ++ RW G pn adn r ++ FW G pf adf f) (w1 := RW G pa ada rb13) hP hD [14, 15, 16, 17, 18, 19, 20, 21, 22, 23, 24, 25] [0, 1, 2, 3, 4, 5, 6, 7, 8, 9, 10, 11, 12, 13, 26, 27, 28, 29, 30] sb_b17e3cb988 sb_ae993759e8 (by decide +kernel) (by decide +kernel) hk1 ht hFc hB
          have hP : va_P G.1 vwCl (OW G ho pn pa pf ae x ++ RW G pn adn r ++ RW G pa ada rb13 ++ FW G pf adf f) H1 := hP.sub [0, 1, 2, 3, 4, 5, 6, 7, 8, 9, 10, 11, 12, 13, 19, 20, 21, 22, 23, 24, 25, 26, 27, 28, 29, 30, 14, 15, 16, 17, 18] sb_84a93fcdb8
          have hD : va_D A (OW G ho pn pa pf ae x ++ RW G pn adn r ++ RW G pa ada rb13 ++ FW G pf adf f) := hD.sub [0, 1, 2, 3, 4, 5, 6, 7, 8, 9, 10, 11, 12, 13, 19, 20, 21, 22, 23, 24, 25, 26, 27, 28, 29, 30, 14, 15, 16, 17, 18] (by decide +kernel) sb_1da5d66636
          have hP : va_P G.1 vwCl (OW G ho pn pa pf ae x ++ RW G pn adn r ++ RW G pa ada rb13 ++ FW G pf adf f) H1 := hP
          have hD : va_D A (OW G ho pn pa pf ae x ++ RW G pn adn r ++ RW G pa ada rb13 ++ FW G pf adf f) := hD
          clear hB hk1 hFc ht hz1 hvm
          generalize H1 = H at hP hS ⊢
          obtain ⟨z15, rfl, w14⟩ := hw
          have okrb13 : rOK rlo rhi rb13 := w14.1
          obtain ⟨b9, hy9⟩ := Years1 w14.2.1
          refine lv_pop hx hb dX2_loses_62 rfl ?_
          refine lv_aload_n hx hb dX2_loses_63 rfl (lv_at hl 0 rfl) ?_
          refine va_get (D := G.1) (ci := 2) (v := .ref pf) (C := RX2) (T := TX2) (N := 4) hx hb hts hinX2 hown hK hP 0 rfl rfl 2 (by decide) (hts (.fieldLink RX2 26 "MeanderFarm" "farms" "LMeanderFarm$Farms;") (List.mem_of_getElem? (i := 3) rfl)) (fun _ h9 => h9) rfl dX2_loses_64 ?_
          refine lv_iload_n hx hb dX2_loses_67 rfl (lv_at hl 1 rfl) ?_
          refine mf_iconst hx hb dX2_loses_68 ?_
          refine lv_aload_n hx hb dX2_loses_69 rfl (lv_at hl 0 rfl) ?_
          refine va_get (D := G.1) (ci := 2) (v := .ref pa) (C := RX2) (T := TX2) (N := 4) hx hb hts hinX2 hown hK hP 0 rfl rfl 1 (by decide) (hts (.fieldLink RX2 20 "MeanderFarm" "ahead" "LMeanderFarm$River;") (List.mem_of_getElem? (i := 5) rfl)) (fun _ h9 => h9) rfl dX2_loses_70 ?_
          refine vp_callSi (va_Run.run (va_runVN (As := [.int (iI (kv)), .int (iI (1)), .ref pa]) (rest := []) ⟨hx, hb, hml, hown, hts⟩ (c_X0_cellsOf l G pf adf f pa ada rb13 (kv) (1) (i32_mk (by omega) (by omega)) (i32_mk (by decide) (by decide)) (by assumption) (by assumption)) ⟨(va_cnB 3 hts gX2_loses_X0_cellsOf_n173 rfl rfl rfl (hN.m 12 rfl) (hts (.initialized RX0) (List.mem_of_getElem? (i := 7) rfl)) (by decide +kernel) ⟨Nat.le_of_ble_eq_true rfl, Nat.le_of_ble_eq_true rfl⟩), (hts (.instanceMethod yX0_cellsOf) (List.mem_of_getElem? (i := 11) rfl)), (hts (.selects RX0 yX0_cellsOf yX0_cellsOf) (List.mem_of_getElem? (i := 12) rfl))⟩ (rdV (wc := FW G pf adf f ++ RW G pa ada rb13) hK hP hN [26, 27, 28, 29, 30, 14, 15, 16, 17, 18, 19, 20, 21, 22, 23, 24, 25] sb_8ad9b818b5 (ci := 0) rfl rfl) rfl rfl hl.1 rfl (lv_room (Nat.le_of_ble_eq_true rfl)) dX2_loses_73 ⟨(Nat.zero_le _), (Nat.zero_le _)⟩)) (fun q16 hq16 => ?_)
          subst hq16
          refine mf_nm (fun y17 ey17 => ?_)
          have b18 : 0 ≤ y17 ∧ y17 ≤ 384 := by rw [ey17]; exact cofF_b (by assumption) kv 1
          have hl8 : y17 = cof f rb13 kv 1 := by rw [ey17]; exact mf_if_t hF9
          refine lv_iload_n hx hb dX2_loses_76 rfl (lv_at hl 2 rfl) ?_
          refine mf_icmp_ge (tgt := 82) hx hb dX2_loses_77 (by decide) (i32_mk (by omega) (by omega)) (i32_mk (by omega) (by omega)) (fun c19 => ?_) (fun c19 => ?_)
          · skip
            refine lv_iinc (v := iI (jv + 1)) (lv' := [(3, .int (iI (jv + 1))), (0, .ref ho), (1, .int (iI (kv))), (2, .int (iI (y4)))]) hx hb dX2_loses_82 hl (k := 3) rfl (iI_add _ _).symm (by decide) rfl (fun ls hl => ?_)
            refine lv_goto (tgt := 48) hx hb dX2_loses_85 (by decide) ?_
            exact ih48 (jv + 1) rb13 (chX ch jv rb13) (by omega) (by first | assumption | omega) (by first | assumption | omega) (by exact w14.2.2.1) (by rw [show Yv + (jv + 1 - 1) = Yv + (jv - 1) + 1 by omega]; exact w14.2.2.2.1) (by rw [show jv + 1 - 1 = jv by omega]; exact lose_s hj.1 hC hy9 okrb13 w14.2.2.1 (by omega)) _ _ hP hD hS ls (lv_sub hl [1, 2, 3, 0] rfl)
          · skip
            refine lv_iload_n hx hb dX2_loses_80 rfl (lv_at hl 3 rfl) ?_
            have hk9 : kLose f kv = 0 := mf_if_f (fun z => z hF9)
            refine W.widen (k := 1) (n := 6) (Nat.le_of_ble_eq_true rfl) (Nat.le_of_ble_eq_true rfl) ?_
            refine vx_ret ?_
            exact W.iret hx hb hr (fun t ht hW => ⟨⟨_, (x, r, rb13, f), rfl, ⟨_, rfl, by (try dsimp only); exact ⟨hk9, ⟨okx, ok, okrb13, okf⟩, ⟨⟨_, _, lose_e hj.1 (by omega) hC hy9 okrb13 w14.2.2.1 (by omega)⟩, rfl, rfl⟩⟩⟩, by rw [ht]; exact hP, hD⟩, hS.F ht⟩) hS.2.2 dX2_loses_81
    exact lp48 (_ + 1) 1 ra8 (fun _ => rC r) (Nat.lt_succ_self _) (by first | assumption | omega) (by first | assumption | omega) (by exact hIa) (by rw [Int.sub_self, Int.add_zero]; exact hBa) (by rw [era, Int.sub_self]; exact lose_0 (rC_ok ok) (rC_I hI)) _ _ hP hD hS ls (lv_sub hl [2, 3, 1, 0] rfl)
  · skip
    have c2' := c2; unfold isF at c2'
    have hk9 : kLose f kv = 1 := mf_if_t (by assumption)
    exact mf_throw (ik := 38) (is := 171) (ic := 42) (cls := "java/lang/IndexOutOfBoundsException") hx hb hl9 hown (by decide +kernel) (hts (.classLink RX2 38 "java/lang/IndexOutOfBoundsException") (List.mem_of_getElem? (i := 1) rfl)) (hts (.initialized "java/lang/IndexOutOfBoundsException") (List.mem_of_getElem? (i := 2) rfl)) hSX (List.mem_of_getElem? (i := 13) rfl) hat42 xg42 hZ hP hD hS (hl.1.trans hml.symm) dX2_loses_11 dX2_loses_14 dX2_loses_15 dX2_loses_17 dX2_loses_20 hexc (Nat.le_of_ble_eq_true rfl) (Nat.le_of_ble_eq_true rfl) (Nat.le_of_ble_eq_true rfl) (Nat.le_of_ble_eq_true rfl) hlocks (by exact ⟨rfl, hk9⟩) (Nat.le_of_ble_eq_true rfl) (Nat.le_of_ble_eq_true rfl)
