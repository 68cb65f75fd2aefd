/-! 69.lawact: the law's own methods -/
set_option maxHeartbeats 4000000 in
set_option maxRecDepth 100000 in
theorem c_L_below (l : Launch) (vv : Int) (nv : Int) (hvv : i32 vv) (hnv : i32 nv) (hn : 0 < nv ∧ nv ≤ 100000) : Met l yL_below wsL_below ({ frames := 0, cells := 0, slots := 0, locals := 0 }) (va_Pc [.int (iI (vv)), .int (iI (nv))] (fun _ => True)) (vp_Si (fun q9 => ∃ z : Int, q9 = iI z ∧ 0 ≤ z ∧ z < nv)) 0 0 (fun _ => False) := by
  refine Met.ofW (cc := cL_below) (maxL := 2) (ret := (some .int)) (by decide) rfl ?_
  intro p e s m args below meth c s₁ B hml hv
  obtain ⟨rfl, -⟩ := hv
  have hx := B.exec
  have hb := B.bytes
  have hr := B.returns
  have hts := atoms_spec (ws := wsL_below) B.pre
  have hown : s.vm.findClass RL = some m.cls := findClass_of_methodNamed B.named
  have hlocks := B.notSynchronized
  have hl := lv_entry ([.int (iI (vv)), .int (iI (nv))]) (n := 2) (Nat.le_of_ble_eq_true rfl)
  rw [lg_entry_eq]
  generalize (lg_sl ([.int (iI (vv)), .int (iI (nv))]) ++ List.replicate (2 - (lg_sl ([.int (iI (vv)), .int (iI (nv))])).length) Slot.unset).toArray = ls at hl ⊢
  have hl : lv_has ls 2 [(0, .int (iI (vv))), (1, .int (iI (nv)))] := hl
  have hvv1 := hvv.1
  have hvv2 := hvv.2
  have hnv1 := hnv.1
  have hnv2 := hnv.2
  refine lv_iload_n hx hb dL_below_0 rfl (lv_at hl 0 rfl) ?_
  refine lv_ldc (v := iI 2147483647) hx hb hown (hts (.constant RL 7 (2147483647)) (List.mem_of_getElem? (i := 1) rfl)) dL_below_1 ?_
  refine mf_andM hx hb dL_below_3 (fun y1 by1 => ?_)
  refine lv_iload_n hx hb dL_below_4 rfl (lv_at hl 1 rfl) ?_
  refine mf_irem hx hb dL_below_5 (i32_mk (by omega) (by omega)) (by omega) (i32_mk (by omega) (by omega)) (by omega) ?_
  exact W.iret hx hb hr (fun t ht hW => ⟨_, rfl, ⟨_, rfl, by exact ⟨Int.emod_nonneg _ (by omega), Int.emod_lt_of_pos _ (by omega)⟩⟩, ht⟩) t_nil dL_below_6
set_option maxHeartbeats 4000000 in
set_option maxRecDepth 100000 in
theorem c_L_cell (l : Launch) (b L : Nat) (xs : Nat → Int32) (hL : L ≤ 260) (kv : Int) (hkv : i32 kv) (hk : 0 ≤ kv ∧ kv ≤ 1000) : Met l yL_cell wsL_cell ({ frames := 0, cells := 0, slots := 0, locals := 0 }) (va_Pc [.ref b, .int (iI (kv))] (fun U => va_X b L xs U U.heap)) (vp_Si (fun q9 => ∃ z : Int, q9 = iI z ∧ -2147483648 ≤ z ∧ z < 2147483648)) 0 0 (fun _ => False) := by
  refine Met.ofW (cc := cL_cell) (maxL := 2) (ret := (some .int)) (by decide) rfl ?_
  intro p e s m args below meth c s₁ B hml hv
  obtain ⟨rfl, hXs⟩ := hv
  have hbl : b < s.heap.size := va_X_lt hXs
  have hbA : ¬ (fun _ : Nat => False) b := fun h => h
  have hS : va_S (fun _ : Nat => False) s.heap s.heap [] := va_S.rf
  have hx := B.exec
  have hb := B.bytes
  have hr := B.returns
  have hts := atoms_spec (ws := wsL_cell) B.pre
  have hown : s.vm.findClass RL = some m.cls := findClass_of_methodNamed B.named
  have hlocks := B.notSynchronized
  have hl := lv_entry ([.ref b, .int (iI (kv))]) (n := 2) (Nat.le_of_ble_eq_true rfl)
  rw [lg_entry_eq]
  generalize (lg_sl ([.ref b, .int (iI (kv))]) ++ List.replicate (2 - (lg_sl ([.ref b, .int (iI (kv))])).length) Slot.unset).toArray = ls at hl ⊢
  have hl : lv_has ls 2 [(0, .ref b), (1, .int (iI (kv)))] := hl
  have hkv1 := hkv.1
  have hkv2 := hkv.2
  refine lv_iload_n hx hb dL_cell_0 rfl (lv_at hl 1 rfl) ?_
  refine lv_aload_n hx hb dL_cell_1 rfl (lv_at hl 0 rfl) ?_
  refine mf_slen hx hb hXs hbl hbA hS dL_cell_2 ?_
  refine mf_icmp_ge (tgt := 12) hx hb dL_cell_3 (by decide) (i32_mk (by omega) (by omega)) (i32_mk (by omega) (by omega)) (fun c1 => ?_) (fun c1 => ?_)
  · skip
    refine lv_ldc (v := iI 790386105) hx hb hown (hts (.constant RL 8 (790386105)) (List.mem_of_getElem? (i := 1) rfl)) dL_cell_12 ?_
    refine lv_iload_n hx hb dL_cell_14 rfl (lv_at hl 1 rfl) ?_
    refine mf_iconst hx hb dL_cell_15 ?_
    refine mf_iadd hx hb dL_cell_16 ?_
    refine mf_imul hx hb dL_cell_17 ?_
    refine mf_nmw (fun y9 b9 => ?_)
    skip
    exact W.iret hx hb hr (fun t ht hW => ⟨_, rfl, ⟨_, rfl, by exact b9⟩, ht⟩) t_nil dL_cell_18
  · skip
    refine lv_aload_n hx hb dL_cell_6 rfl (lv_at hl 0 rfl) ?_
    refine lv_iload_n hx hb dL_cell_7 rfl (lv_at hl 1 rfl) ?_
    refine mf_sld hx hb hXs hbl hbA hS (z := kv) (by omega) (by omega) (by omega) dL_cell_8 ?_
    refine mf_nm (fun y2 ey2 => ?_)
    have by2 := sI_b xs (kv)
    rw [← ey2] at by2
    refine lv_goto (tgt := 18) hx hb dL_cell_9 (by decide) ?_
    refine mf_nmw (fun y9 b9 => ?_)
    skip
    exact W.iret hx hb hr (fun t ht hW => ⟨_, rfl, ⟨_, rfl, by exact b9⟩, ht⟩) t_nil dL_cell_18
theorem sb_901b56ad3e {G : mf_G} {h1 p1 a1 f1 ae1 : Nat} {x1 : mf_V} {h2 : Nat} {ad2 : Nat → Nat} {ca2 n2 : Nat} {x2 : mf_V} {h3 : Nat} {ad3 : Nat → Nat} {x3 : mf_V} {h4 : Nat} {ad4 : Nat → Nat} {x4 : mf_V} {h5 : Nat} {ad5 : Nat → Nat} {x5 : mf_V} : ([2, 3, 4, 5, 6, 7, 8, 9] : List Nat).filterMap (fun i => (OW G h1 p1 a1 f1 ae1 x1 ++ SW G h2 ad2 ca2 n2 x2 ++ RW G h3 ad3 x3 ++ RW G h4 ad4 x4 ++ FW G h5 ad5 x5)[i]?) = SW G h2 ad2 ca2 n2 x2 := rfl
theorem sb_6583667dcc {G : mf_G} {h1 p1 a1 f1 ae1 : Nat} {x1 : mf_V} {h2 : Nat} {ad2 : Nat → Nat} {ca2 n2 : Nat} {x2 : mf_V} {h3 : Nat} {ad3 : Nat → Nat} {x3 : mf_V} {h4 : Nat} {ad4 : Nat → Nat} {x4 : mf_V} {h5 : Nat} {ad5 : Nat → Nat} {x5 : mf_V} : ([2, 3, 4, 5, 6, 7, 8, 9] : List Nat).map (fun i => (OW G h1 p1 a1 f1 ae1 x1 ++ SW G h2 ad2 ca2 n2 x2 ++ RW G h3 ad3 x3 ++ RW G h4 ad4 x4 ++ FW G h5 ad5 x5)[i]?) = (SW G h2 ad2 ca2 n2 x2).map some := rfl
theorem sb_4e5d88c86a {G : mf_G} {h1 p1 a1 f1 ae1 : Nat} {x1 : mf_V} {h2 : Nat} {ad2 : Nat → Nat} {ca2 n2 : Nat} {x2 : mf_V} {h3 : Nat} {ad3 : Nat → Nat} {x3 : mf_V} {h4 : Nat} {ad4 : Nat → Nat} {x4 : mf_V} {h5 : Nat} {ad5 : Nat → Nat} {x5 : mf_V} : ([0, 1, 10, 11, 12, 13, 14, 15, 16, 17, 18, 19, 20, 21, 22, 23, 24, 25, 26, 27, 28, 29, 30, 31, 32, 33, 34, 35, 36, 37, 38] : List Nat).map (fun i => (OW G h1 p1 a1 f1 ae1 x1 ++ SW G h2 ad2 ca2 n2 x2 ++ RW G h3 ad3 x3 ++ RW G h4 ad4 x4 ++ FW G h5 ad5 x5)[i]?) = (OW G h1 p1 a1 f1 ae1 x1 ++ RW G h3 ad3 x3 ++ RW G h4 ad4 x4 ++ FW G h5 ad5 x5).map some := rfl
theorem sb_7ddd85b0db {G : mf_G} {h1 p1 a1 f1 ae1 : Nat} {x1 : mf_V} {h2 : Nat} {ad2 : Nat → Nat} {x2 : mf_V} {h3 : Nat} {ad3 : Nat → Nat} {x3 : mf_V} {h4 : Nat} {ad4 : Nat → Nat} {x4 : mf_V} {h5 : Nat} {ad5 : Nat → Nat} {ca5 n5 : Nat} {x5 : mf_V} : ([0, 1, 31, 32, 33, 34, 35, 36, 37, 38, 2, 3, 4, 5, 6, 7, 8, 9, 10, 11, 12, 13, 14, 15, 16, 17, 18, 19, 20, 21, 22, 23, 24, 25, 26, 27, 28, 29, 30] : List Nat).filterMap (fun i => ((OW G h1 p1 a1 f1 ae1 x1 ++ RW G h2 ad2 x2 ++ RW G h3 ad3 x3 ++ FW G h4 ad4 x4) ++ (SW G h5 ad5 ca5 n5 x5))[i]?) = OW G h1 p1 a1 f1 ae1 x1 ++ SW G h5 ad5 ca5 n5 x5 ++ RW G h2 ad2 x2 ++ RW G h3 ad3 x3 ++ FW G h4 ad4 x4 := rfl
theorem sb_8e3d412232 {G : mf_G} {h1 p1 a1 f1 ae1 : Nat} {x1 : mf_V} {h2 : Nat} {ad2 : Nat → Nat} {x2 : mf_V} {h3 : Nat} {ad3 : Nat → Nat} {x3 : mf_V} {h4 : Nat} {ad4 : Nat → Nat} {x4 : mf_V} {h5 : Nat} {ad5 : Nat → Nat} {ca5 n5 : Nat} {x5 : mf_V} : ([0, 1, 31, 32, 33, 34, 35, 36, 37, 38, 2, 3, 4, 5, 6, 7, 8, 9, 10, 11, 12, 13, 14, 15, 16, 17, 18, 19, 20, 21, 22, 23, 24, 25, 26, 27, 28, 29, 30] : List Nat).map (fun i => ((OW G h1 p1 a1 f1 ae1 x1 ++ RW G h2 ad2 x2 ++ RW G h3 ad3 x3 ++ FW G h4 ad4 x4) ++ (SW G h5 ad5 ca5 n5 x5))[i]?) = (OW G h1 p1 a1 f1 ae1 x1 ++ SW G h5 ad5 ca5 n5 x5 ++ RW G h2 ad2 x2 ++ RW G h3 ad3 x3 ++ FW G h4 ad4 x4).map some := rfl
theorem sb_722bbe55ec {G : mf_G} {h1 p1 a1 f1 ae1 : Nat} {x1 : mf_V} {h2 : Nat} {ad2 : Nat → Nat} {ca2 n2 : Nat} {x2 : mf_V} {h3 : Nat} {ad3 : Nat → Nat} {x3 : mf_V} {h4 : Nat} {ad4 : Nat → Nat} {x4 : mf_V} {h5 : Nat} {ad5 : Nat → Nat} {x5 : mf_V} : ([0, 1, 10, 11, 12, 13, 14, 15, 16, 17, 18, 19, 20, 21, 22, 23, 24, 25, 26, 27, 28, 29, 30, 31, 32, 33, 34, 35, 36, 37, 38] : List Nat).filterMap (fun i => (OW G h1 p1 a1 f1 ae1 x1 ++ SW G h2 ad2 ca2 n2 x2 ++ RW G h3 ad3 x3 ++ RW G h4 ad4 x4 ++ FW G h5 ad5 x5)[i]?) = OW G h1 p1 a1 f1 ae1 x1 ++ RW G h3 ad3 x3 ++ RW G h4 ad4 x4 ++ FW G h5 ad5 x5 := rfl
theorem sb_ea07c26545 {G : mf_G} {h1 : Nat} {ad1 : Nat → Nat} {ca1 n1 : Nat} {x1 : mf_V} {h2 p2 a2 f2 ae2 : Nat} {x2 : mf_V} {h3 : Nat} {ad3 : Nat → Nat} {x3 : mf_V} {h4 : Nat} {ad4 : Nat → Nat} {x4 : mf_V} {h5 : Nat} {ad5 : Nat → Nat} {x5 : mf_V} : ([8, 9, 0, 1, 2, 3, 4, 5, 6, 7, 10, 11, 12, 13, 14, 15, 16, 17, 18, 19, 20, 21, 22, 23, 24, 25, 26, 27, 28, 29, 30, 31, 32, 33, 34, 35, 36, 37, 38] : List Nat).filterMap (fun i => ((SW G h1 ad1 ca1 n1 x1) ++ (OW G h2 p2 a2 f2 ae2 x2 ++ RW G h3 ad3 x3 ++ RW G h4 ad4 x4 ++ FW G h5 ad5 x5))[i]?) = OW G h2 p2 a2 f2 ae2 x2 ++ SW G h1 ad1 ca1 n1 x1 ++ RW G h3 ad3 x3 ++ RW G h4 ad4 x4 ++ FW G h5 ad5 x5 := rfl
theorem sb_5e94329b71 {G : mf_G} {h1 : Nat} {ad1 : Nat → Nat} {ca1 n1 : Nat} {x1 : mf_V} {h2 p2 a2 f2 ae2 : Nat} {x2 : mf_V} {h3 : Nat} {ad3 : Nat → Nat} {x3 : mf_V} {h4 : Nat} {ad4 : Nat → Nat} {x4 : mf_V} {h5 : Nat} {ad5 : Nat → Nat} {x5 : mf_V} : ([8, 9, 0, 1, 2, 3, 4, 5, 6, 7, 10, 11, 12, 13, 14, 15, 16, 17, 18, 19, 20, 21, 22, 23, 24, 25, 26, 27, 28, 29, 30, 31, 32, 33, 34, 35, 36, 37, 38] : List Nat).map (fun i => ((SW G h1 ad1 ca1 n1 x1) ++ (OW G h2 p2 a2 f2 ae2 x2 ++ RW G h3 ad3 x3 ++ RW G h4 ad4 x4 ++ FW G h5 ad5 x5))[i]?) = (OW G h2 p2 a2 f2 ae2 x2 ++ SW G h1 ad1 ca1 n1 x1 ++ RW G h3 ad3 x3 ++ RW G h4 ad4 x4 ++ FW G h5 ad5 x5).map some := rfl
set_option maxHeartbeats 4000000 in
set_option maxRecDepth 100000 in
theorem c_L_slip (l : Launch) (hl9 : l.stackTraces = false) (G : mf_G) (ho pn pa pf : Nat) (ae : Nat) (x : mf_V) (hm : Nat) (adm : Nat → Nat) (ca nn : Nat) (u : mf_V) (adn : Nat → Nat) (r : mf_V) (ada : Nat → Nat) (ra : mf_V) (adf : Nat → Nat) (f : mf_V)  (xv : Int) (Yv : Int) (hxv : i32 xv) (hLQ : LQs Yv x r ra f nn u) (hYv : 0 ≤ Yv ∧ Yv ≤ 1000) (sz : Nat) : Met l yL_slip wsL_slip ({ frames := 7, cells := 2, slots := 158, locals := 116 }) (va_Pc [.ref ho, .ref hm, .int (iI (xv))] (WrPx G (OW G ho pn pa pf ae x ++ SW G hm adm ca nn u ++ RW G pn adn r ++ RW G pa ada ra ++ FW G pf adf f) sz)) (va_Qi (fun q9 (uZ : mf_V × mf_V × Nat × Nat × mf_V × mf_V × mf_V) => ∃ z : Int, q9 = iI z ∧ z = 1 ∧ LQs (Yv + 1) uZ.1 uZ.2.2.2.2.1 uZ.2.2.2.2.2.1 uZ.2.2.2.2.2.2 uZ.2.2.2.1 uZ.2.1 ∧ uZ.2.2.2.2.2.2 = f ∧ uZ.2.2.2.2.1 8 0 = r 8 0) (fun (uZ : mf_V × mf_V × Nat × Nat × mf_V × mf_V × mf_V) t => WrQ G (va_A (OW G ho pn pa pf ae x ++ SW G hm adm ca nn u ++ RW G pn adn r ++ RW G pa ada ra ++ FW G pf adf f) sz) (OW G ho pn pa pf ae (uZ.1) ++ SW G hm adm (uZ.2.2.1) (uZ.2.2.2.1) (uZ.2.1) ++ RW G pn adn (uZ.2.2.2.2.1) ++ RW G pa ada (uZ.2.2.2.2.2.1) ++ FW G pf adf (uZ.2.2.2.2.2.2)) t) (va_A (OW G ho pn pa pf ae x ++ SW G hm adm ca nn u ++ RW G pn adn r ++ RW G pa ada ra ++ FW G pf adf f) sz)) 2 158 (va_A (OW G ho pn pa pf ae x ++ SW G hm adm ca nn u ++ RW G pn adn r ++ RW G pa ada ra ++ FW G pf adf f) sz) := by
  refine Met.ofW (cc := cL_slip) (maxL := 5) (ret := (some .boolean)) (by decide) rfl ?_
  intro p e s m args below meth c s₁ B hml hv
  obtain ⟨rfl, hsz, hP, hK, hD0, hN, hSX, hCX, hZ⟩ := hv
  have hx := B.exec
  have hb := B.bytes
  have hr := B.returns
  have hts := atoms_spec (ws := wsL_slip) B.pre
  have hown : s.vm.findClass RL = some m.cls := findClass_of_methodNamed B.named
  have hlocks := B.notSynchronized
  have hinX3 : ∀ w ∈ u_ws RX3 TX3 9, w ∈ wsL_slip := fun w h => List.mem_cons_of_mem _ (List.mem_append_left _ (List.mem_append_left _ (List.mem_append_left _ (List.mem_append_left _ (List.mem_append_left _ (List.mem_append_right _ h))))))
  subst hsz
  have hD := hD0.self (sz := s.heap.size)
  generalize hAe : va_A (OW G ho pn pa pf ae x ++ SW G hm adm ca nn u ++ RW G pn adn r ++ RW G pa ada ra ++ FW G pf adf f) s.heap.size = A at hD hZ ⊢
  have hA : ∀ q : Nat, s.heap.size ≤ q → A q := fun q h => by rw [← hAe]; exact Or.inr h
  have hS : va_S A s.heap s.heap [] := va_S.rf
  have hl := lv_entry ([.ref ho, .ref hm, .int (iI (xv))]) (n := 5) (Nat.le_of_ble_eq_true rfl)
  rw [lg_entry_eq]
  generalize (lg_sl ([.ref ho, .ref hm, .int (iI (xv))]) ++ List.replicate (5 - (lg_sl ([.ref ho, .ref hm, .int (iI (xv))])).length) Slot.unset).toArray = ls at hl ⊢
  have hl : lv_has ls 5 [(0, .ref ho), (1, .ref hm), (2, .int (iI (xv)))] := hl
  have hxv1 := hxv.1
  have hxv2 := hxv.2
  obtain ⟨⟨okx, ok, okra, okf⟩, hPI, hB, oku, hrel⟩ := id hLQ
  have hI := hPI.1
  have hN9 : (nn : Int) = r 7 0 := rel9 hrel
  have okLr : (0 : Int) ≤ r 7 0 ∧ r 7 0 ≤ 150 := ok 7 0
  have h27 := hI.1.1
  have b9 := hB.2.1
  refine lv_iload_n hx hb dL_slip_0 rfl (lv_at hl 2 rfl) ?_
  refine lv_aload_n hx hb dL_slip_1 rfl (lv_at hl 1 rfl) ?_
  refine va_get (D := G.1) (ci := 3) (v := .ref ca) (C := RX3) (T := TX3) (N := 9) hx hb hts hinX3 hown hK hP 2 rfl rfl 2 (by decide) (hts (.fieldLink RL 42 "MeanderFarmLaw$Sim" "course" "[I") (List.mem_of_getElem? (i := 1) rfl)) (fun _ h9 => h9) rfl dL_slip_2 ?_
  refine va_alen hx hb hK hP 3 0 rfl rfl (v := iI ((nn : Nat) : Int)) (nI_iI _) dL_slip_5 ?_
  refine mf_top (((nn : Nat) : Int)) (r 7 0) (rel9 hrel) ?_
  refine vp_callSi (va_Run.run (va_runS (As := [.int (iI (xv)), .int (iI (r 7 0))]) (rest := []) ⟨hx, hb, hml, hown, hts⟩ (c_L_below l (xv) (r 7 0) (i32_mk (by omega) (by omega)) (i32_mk (by omega) (by omega)) (by first | assumption | omega)) (va_cwS 2 hts gL_slip_L_below rfl rfl rfl (by decide +kernel) ⟨Nat.le_of_ble_eq_true rfl, Nat.le_of_ble_eq_true rfl⟩) pureS rfl rfl hl.1 rfl (lv_room (Nat.le_of_ble_eq_true rfl)) dL_slip_6 ⟨(Nat.zero_le _), (Nat.zero_le _)⟩)) (fun q1 hq1 => ?_)
  obtain ⟨z2, rfl, w3⟩ := hq1
  refine lv_istore_n (lv' := [(3, .int (iI (z2))), (0, .ref ho), (1, .ref hm), (2, .int (iI (xv)))]) hx hb dL_slip_9 rfl hl (by decide) rfl (fun ls hl => ?_)
  refine lv_iload_n hx hb dL_slip_10 rfl (lv_at hl 3 rfl) ?_
  refine mf_iconst hx hb dL_slip_11 ?_
  refine lv_ishr hx hb dL_slip_12 ?_
  refine mf_nmw (fun y4 by4 => ?_)
  refine mf_iconst hx hb dL_slip_13 ?_
  refine vp_callSi (va_Run.run (va_runS (As := [.int (iI (y4)), .int (iI (4))]) (rest := []) ⟨hx, hb, hml, hown, hts⟩ (c_L_below l (y4) (4) (i32_mk (by omega) (by omega)) (i32_mk (by decide) (by decide)) (by first | assumption | omega)) (va_cwS 2 hts gL_slip_L_below rfl rfl rfl (by decide +kernel) ⟨Nat.le_of_ble_eq_true rfl, Nat.le_of_ble_eq_true rfl⟩) pureS rfl rfl hl.1 rfl (lv_room (Nat.le_of_ble_eq_true rfl)) dL_slip_14 ⟨(Nat.zero_le _), (Nat.zero_le _)⟩)) (fun q5 hq5 => ?_)
  obtain ⟨z6, rfl, w7⟩ := hq5
  refine lv_istore (lv' := [(4, .int (iI (z6))), (3, .int (iI (z2))), (0, .ref ho), (1, .ref hm), (2, .int (iI (xv)))]) hx hb dL_slip_17 hl (by decide) rfl (fun ls hl => ?_)
  refine lv_aload_n hx hb dL_slip_19 rfl (lv_at hl 3 rfl) ?_
  refine lv_iload_n hx hb dL_slip_20 rfl (lv_at hl 1 rfl) ?_
  refine lv_iload hx hb dL_slip_21 (lv_at hl 0 rfl) ?_
  refine vp_callSi (va_Run.run (va_runV (As := [.int (iI (z2)), .int (iI (z6))]) (rest := []) ⟨hx, hb, hml, hown, hts⟩ (c_X3_can l G hm adm ca nn u (z2) (z6) (r) (i32_mk (by omega) (by omega)) (i32_mk (by omega) (by omega)) (by exact oku) (by exact ok) (by exact hI) (by exact hrel) (by first | assumption | omega) (by first | assumption | omega)) (cwV 2 hts gL_slip_X3_can rfl rfl rfl (by decide +kernel) ⟨Nat.le_of_ble_eq_true rfl, Nat.le_of_ble_eq_true rfl⟩) (rdV (wc := SW G hm adm ca nn u) hK hP hN [2, 3, 4, 5, 6, 7, 8, 9] sb_901b56ad3e (ci := 3) rfl rfl) rfl rfl hl.1 rfl (lv_room (Nat.le_of_ble_eq_true rfl)) dL_slip_23 ⟨(Nat.zero_le _), (Nat.zero_le _)⟩)) (fun q8 hq8 => ?_)
  subst hq8
  refine mf_bp_ne (tgt := 31) hx hb dL_slip_26 (by decide) (fun c9 => ?_) (fun c9 => ?_)
  · skip
    refine lv_aload_n hx hb dL_slip_31 rfl (lv_at hl 3 rfl) ?_
    refine lv_iload_n hx hb dL_slip_32 rfl (lv_at hl 1 rfl) ?_
    refine lv_iload hx hb dL_slip_33 (lv_at hl 0 rfl) ?_
    have hFc := va_free (wc := SW G hm adm ca nn u) hD hS hA [2, 3, 4, 5, 6, 7, 8, 9] sb_6583667dcc
    refine va_callv (va_runV (As := [.int (iI (z2)), .int (iI (z6))]) (rest := []) ⟨hx, hb, hml, hown, hts⟩ (c_X3_bulge l G hm adm ca nn u (z2) (z6) (r) (i32_mk (by omega) (by omega)) (i32_mk (by omega) (by omega)) (by exact oku) (by exact ok) (by exact hI) (by exact hrel) (by assumption) _) (cwV 2 hts gL_slip_X3_bulge rfl rfl rfl (by decide +kernel) ⟨Nat.le_of_ble_eq_true rfl, Nat.le_of_ble_eq_true rfl⟩) (wrV (wc := SW G hm adm ca nn u) hK hP hD hN [2, 3, 4, 5, 6, 7, 8, 9] (by decide +kernel) sb_901b56ad3e sb_6583667dcc (ci := 3) rfl rfl) rfl rfl hl.1 rfl (lv_room (Nat.le_of_ble_eq_true rfl)) dL_slip_35 ⟨(Nat.le_of_ble_eq_true rfl), (Nat.le_of_ble_eq_true rfl)⟩) hS (fun q _ h => hFc q h) hFc (fun u11 t H1 locs ht hvm hw hB hz1 hk1 hS => ?_)
    obtain ⟨u12, cx13, nx14⟩ := u11
    try dsimp only at hw hB
    obtain ⟨hP, hD⟩ := wrJ2 (ws := OW G ho pn pa pf ae x ++ SW G hm adm ca nn u ++ RW G pn adn r ++ RW G pa ada ra ++ FW G pf adf f) (wc := SW G hm adm ca nn u) (wr := OW G ho pn pa pf ae x ++ RW G pn adn r ++ RW G pa ada ra ++ FW G pf adf f) (w1 := SW G hm adm cx13 nx14 u12) hP hD [2, 3, 4, 5, 6, 7, 8, 9] [0, 1, 10, 11, 12, 13, 14, 15, 16, 17, 18, 19, 20, 21, 22, 23, 24, 25, 26, 27, 28, 29, 30, 31, 32, 33, 34, 35, 36, 37, 38] sb_6583667dcc sb_4e5d88c86a (by decide +kernel) (by decide +kernel) hk1 ht hFc hB
    have hP : va_P G.1 vwCl (OW G ho pn pa pf ae x ++ SW G hm adm cx13 nx14 u12 ++ RW G pn adn r ++ RW G pa ada ra ++ FW G pf adf f) H1 := hP.sub [0, 1, 31, 32, 33, 34, 35, 36, 37, 38, 2, 3, 4, 5, 6, 7, 8, 9, 10, 11, 12, 13, 14, 15, 16, 17, 18, 19, 20, 21, 22, 23, 24, 25, 26, 27, 28, 29, 30] sb_7ddd85b0db
    have hD : va_D A (OW G ho pn pa pf ae x ++ SW G hm adm cx13 nx14 u12 ++ RW G pn adn r ++ RW G pa ada ra ++ FW G pf adf f) := hD.sub [0, 1, 31, 32, 33, 34, 35, 36, 37, 38, 2, 3, 4, 5, 6, 7, 8, 9, 10, 11, 12, 13, 14, 15, 16, 17, 18, 19, 20, 21, 22, 23, 24, 25, 26, 27, 28, 29, 30] (by decide +kernel) sb_8e3d412232
    have hP : va_P G.1 vwCl (OW G ho pn pa pf ae x ++ SW G hm adm cx13 nx14 u12 ++ RW G pn adn r ++ RW G pa ada ra ++ FW G pf adf f) H1 := hP
    have hD : va_D A (OW G ho pn pa pf ae x ++ SW G hm adm cx13 nx14 u12 ++ RW G pn adn r ++ RW G pa ada ra ++ FW G pf adf f) := hD
    clear hB hk1 hFc ht hz1 hvm
    generalize H1 = H at hP hS ⊢
    have w15 := hw; clear hw
    have oku12 : rOK slo shi u12 := w15.1
    have hwb := w15
    refine lv_aload_n hx hb dL_slip_38 rfl (lv_at hl 2 rfl) ?_
    refine lv_iload_n hx hb dL_slip_39 rfl (lv_at hl 1 rfl) ?_
    refine lv_iload hx hb dL_slip_40 (lv_at hl 0 rfl) ?_
    have hk0 : kSlip r z2 z6 = 0 := by exact (mf_if_f (fun q => q (inC_mk (by omega) (by omega)))).trans ((mf_if_f (fun q => q ⟨by omega, by omega⟩)).trans (mf_if_f (fun q => q (by assumption))))
    have hFc := va_free (wc := OW G ho pn pa pf ae x ++ RW G pn adn r ++ RW G pa ada ra ++ FW G pf adf f) hD hS hA [0, 1, 10, 11, 12, 13, 14, 15, 16, 17, 18, 19, 20, 21, 22, 23, 24, 25, 26, 27, 28, 29, 30, 31, 32, 33, 34, 35, 36, 37, 38] sb_4e5d88c86a
    refine vx_calli (vx_runV (As := [.int (iI (z2)), .int (iI (z6))]) (rest := []) ⟨hx, hb, hml, hown, hts⟩ (c_X2_slip l hl9 G ho pn pa pf ae x adn r ada ra adf f (z2) (z6) (i32_mk (by omega) (by omega)) (i32_mk (by omega) (by omega)) (by assumption) (by assumption) (by assumption) (by assumption) (by first | assumption | omega) _) (cwV 2 hts gL_slip_X2_slip rfl rfl rfl (by decide +kernel) ⟨Nat.le_of_ble_eq_true rfl, Nat.le_of_ble_eq_true rfl⟩) (wrVx (wc := OW G ho pn pa pf ae x ++ RW G pn adn r ++ RW G pa ada ra ++ FW G pf adf f) hSX hCX hZ hS hFc hK hP hD hN [0, 1, 10, 11, 12, 13, 14, 15, 16, 17, 18, 19, 20, 21, 22, 23, 24, 25, 26, 27, 28, 29, 30, 31, 32, 33, 34, 35, 36, 37, 38] (by decide +kernel) sb_722bbe55ec sb_4e5d88c86a (ci := 2) rfl rfl) rfl rfl hl.1 rfl (lv_room (Nat.le_of_ble_eq_true rfl)) dL_slip_42 ⟨Nat.le_of_ble_eq_true rfl, Nat.le_of_ble_eq_true rfl⟩) hS (fun q _ h => hFc q h) hFc (fun q _ h => hFc q h) (fun E ce q9 _ t H1 locs ht hvm _ hB hz1 hk1 hS hce hcv hcl => ?_) (fun q16 u17 t H1 locs ht hvm hw hB hz1 hk1 hS => ?_)
    · exfalso
      have hx9 := hB.1
      rcases hx9 with ⟨-, hk9⟩ | ⟨-, hk9⟩ | ⟨-, hk9⟩ <;> omega
    obtain ⟨x18, r19, ra20, f21⟩ := u17
    try dsimp only at hw hB
    obtain ⟨hP, hD⟩ := wrJ2 (ws := OW G ho pn pa pf ae x ++ SW G hm adm cx13 nx14 u12 ++ RW G pn adn r ++ RW G pa ada ra ++ FW G pf adf f) (wc := OW G ho pn pa pf ae x ++ RW G pn adn r ++ RW G pa ada ra ++ FW G pf adf f) (wr := SW G hm adm cx13 nx14 u12) (w1 := OW G ho pn pa pf ae x18 ++ RW G pn adn r19 ++ RW G pa ada ra20 ++ FW G pf adf f21) hP hD [0, 1, 10, 11, 12, 13, 14, 15, 16, 17, 18, 19, 20, 21, 22, 23, 24, 25, 26, 27, 28, 29, 30, 31, 32, 33, 34, 35, 36, 37, 38] [2, 3, 4, 5, 6, 7, 8, 9] sb_4e5d88c86a sb_6583667dcc (by decide +kernel) (by decide +kernel) hk1 ht hFc hB
    have hP : va_P G.1 vwCl (OW G ho pn pa pf ae x18 ++ SW G hm adm cx13 nx14 u12 ++ RW G pn adn r19 ++ RW G pa ada ra20 ++ FW G pf adf f21) H1 := hP.sub [8, 9, 0, 1, 2, 3, 4, 5, 6, 7, 10, 11, 12, 13, 14, 15, 16, 17, 18, 19, 20, 21, 22, 23, 24, 25, 26, 27, 28, 29, 30, 31, 32, 33, 34, 35, 36, 37, 38] sb_ea07c26545
    have hD : va_D A (OW G ho pn pa pf ae x18 ++ SW G hm adm cx13 nx14 u12 ++ RW G pn adn r19 ++ RW G pa ada ra20 ++ FW G pf adf f21) := hD.sub [8, 9, 0, 1, 2, 3, 4, 5, 6, 7, 10, 11, 12, 13, 14, 15, 16, 17, 18, 19, 20, 21, 22, 23, 24, 25, 26, 27, 28, 29, 30, 31, 32, 33, 34, 35, 36, 37, 38] (by decide +kernel) sb_5e94329b71
    clear hB hk1 hFc ht hz1 hvm hk0
    generalize H1 = H at hP hS ⊢
    obtain ⟨z22, rfl, -, ⟨okx18, okr19, okra20, okf21⟩, w24, w25, w26, w27⟩ := hw
    have w26 := w26.symm
    subst w26
    subst w27
    have b17 : (0 : Int) ≤ r19 7 0 ∧ r19 7 0 ≤ 150 := okr19 7 0
    have hb1 := w25.1
    refine lv_aload_n hx hb dL_slip_45 rfl (lv_at hl 3 rfl) ?_
    refine va_get (D := G.1) (ci := 3) (v := .ref cx13) (C := RX3) (T := TX3) (N := 9) hx hb hts hinX3 hown hK hP 2 rfl rfl 2 (by decide) (hts (.fieldLink RL 42 "MeanderFarmLaw$Sim" "course" "[I") (List.mem_of_getElem? (i := 1) rfl)) (fun _ h9 => h9) rfl dL_slip_46 ?_
    refine va_alen hx hb hK hP 3 0 rfl rfl (v := iI ((nx14 : Nat) : Int)) (nI_iI _) dL_slip_49 ?_
    refine mf_top (((nx14 : Nat) : Int)) (r 7 0 + 2) (w15.2.1) ?_
    refine mf_icmp_ne (tgt := 57) hx hb dL_slip_50 (by decide) (i32_mk (by omega) (by omega)) (i32_mk (by omega) (by omega)) (fun c28 => ?_) (fun c28 => ?_)
    · skip
      exfalso; omega
    · skip
      refine mf_iconst hx hb dL_slip_53 ?_
      refine lv_goto (tgt := 58) hx hb dL_slip_54 (by decide) ?_
      exact W.zret hx hb hr (mf_nar01 (by omega)) (fun t ht hW => ⟨⟨_, (x18, u12, cx13, nx14, r19, ra20, f), rfl, ⟨_, rfl, by (try dsimp only); exact ⟨rfl, ⟨⟨okx18, okr19, okra20, okf⟩, PInv_bul ok hPI c9 w25 w24, Bul_bd hYv.1 w25 hB, hwb.1, hwb.2.2 _ w24 w25⟩, rfl, by rw [w25.2.2.2.2.2.2.1]⟩⟩, by rw [ht]; exact hP, hD⟩, hS.F ht⟩) hS.2.2 dL_slip_58
  · skip
    refine mf_iconst hx hb dL_slip_29 ?_
    refine W.widen (k := 2) (n := 158) (Nat.le_of_ble_eq_true rfl) (Nat.le_of_ble_eq_true rfl) ?_
    exact W.zret hx hb hr (mf_nar01 (by omega)) (fun t ht hW => ⟨⟨_, (x, u, ca, nn, r, ra, f), rfl, ⟨_, rfl, by (try dsimp only); exact ⟨rfl, LQs_mono hLQ (by omega), rfl, rfl⟩⟩, by rw [ht]; exact hP, hD⟩, hS.F ht⟩) hS.2.2 dL_slip_30
theorem sb_83de0b8e0e {G : mf_G} {h1 p1 a1 f1 ae1 : Nat} {x1 : mf_V} {h2 : Nat} {ad2 : Nat → Nat} {ca2 n2 : Nat} {x2 : mf_V} {h3 : Nat} {ad3 : Nat → Nat} {x3 : mf_V} {h4 : Nat} {ad4 : Nat → Nat} {x4 : mf_V} {h5 : Nat} {ad5 : Nat → Nat} {x5 : mf_V} : ([0, 1, 2, 3, 4, 5, 6, 7, 8, 9, 10, 11, 12, 13, 14, 15, 16, 17, 18, 19, 20, 21, 22, 23, 24, 25, 26, 27, 28, 29, 30, 31, 32, 33, 34, 35, 36, 37, 38] : List Nat).filterMap (fun i => (OW G h1 p1 a1 f1 ae1 x1 ++ SW G h2 ad2 ca2 n2 x2 ++ RW G h3 ad3 x3 ++ RW G h4 ad4 x4 ++ FW G h5 ad5 x5)[i]?) = OW G h1 p1 a1 f1 ae1 x1 ++ SW G h2 ad2 ca2 n2 x2 ++ RW G h3 ad3 x3 ++ RW G h4 ad4 x4 ++ FW G h5 ad5 x5 := rfl
theorem sb_71a15db8da {G : mf_G} {h1 p1 a1 f1 ae1 : Nat} {x1 : mf_V} {h2 : Nat} {ad2 : Nat → Nat} {ca2 n2 : Nat} {x2 : mf_V} {h3 : Nat} {ad3 : Nat → Nat} {x3 : mf_V} {h4 : Nat} {ad4 : Nat → Nat} {x4 : mf_V} {h5 : Nat} {ad5 : Nat → Nat} {x5 : mf_V} : ([0, 1, 2, 3, 4, 5, 6, 7, 8, 9, 10, 11, 12, 13, 14, 15, 16, 17, 18, 19, 20, 21, 22, 23, 24, 25, 26, 27, 28, 29, 30, 31, 32, 33, 34, 35, 36, 37, 38] : List Nat).map (fun i => (OW G h1 p1 a1 f1 ae1 x1 ++ SW G h2 ad2 ca2 n2 x2 ++ RW G h3 ad3 x3 ++ RW G h4 ad4 x4 ++ FW G h5 ad5 x5)[i]?) = (OW G h1 p1 a1 f1 ae1 x1 ++ SW G h2 ad2 ca2 n2 x2 ++ RW G h3 ad3 x3 ++ RW G h4 ad4 x4 ++ FW G h5 ad5 x5).map some := rfl
theorem sb_d0a498885c {G : mf_G} {h1 p1 a1 f1 ae1 : Nat} {x1 : mf_V} {h2 : Nat} {ad2 : Nat → Nat} {ca2 n2 : Nat} {x2 : mf_V} {h3 : Nat} {ad3 : Nat → Nat} {x3 : mf_V} {h4 : Nat} {ad4 : Nat → Nat} {x4 : mf_V} {h5 : Nat} {ad5 : Nat → Nat} {x5 : mf_V} {h6 : Nat} {x6 : mf_V} : ([2, 3, 4, 5, 6, 7, 8, 9] : List Nat).filterMap (fun i => (OW G h1 p1 a1 f1 ae1 x1 ++ SW G h2 ad2 ca2 n2 x2 ++ RW G h3 ad3 x3 ++ RW G h4 ad4 x4 ++ FW G h5 ad5 x5 ++ AW G h6 3 x6)[i]?) = SW G h2 ad2 ca2 n2 x2 := rfl
theorem sb_680b93beeb {G : mf_G} {h1 p1 a1 f1 ae1 : Nat} {x1 : mf_V} {h2 : Nat} {ad2 : Nat → Nat} {ca2 n2 : Nat} {x2 : mf_V} {h3 : Nat} {ad3 : Nat → Nat} {x3 : mf_V} {h4 : Nat} {ad4 : Nat → Nat} {x4 : mf_V} {h5 : Nat} {ad5 : Nat → Nat} {x5 : mf_V} {h6 : Nat} {x6 : mf_V} : ([2, 3, 4, 5, 6, 7, 8, 9] : List Nat).map (fun i => (OW G h1 p1 a1 f1 ae1 x1 ++ SW G h2 ad2 ca2 n2 x2 ++ RW G h3 ad3 x3 ++ RW G h4 ad4 x4 ++ FW G h5 ad5 x5 ++ AW G h6 3 x6)[i]?) = (SW G h2 ad2 ca2 n2 x2).map some := rfl
theorem sb_2d30b987c3 {G : mf_G} {h1 p1 a1 f1 ae1 : Nat} {x1 : mf_V} {h2 : Nat} {ad2 : Nat → Nat} {ca2 n2 : Nat} {x2 : mf_V} {h3 : Nat} {ad3 : Nat → Nat} {x3 : mf_V} {h4 : Nat} {ad4 : Nat → Nat} {x4 : mf_V} {h5 : Nat} {ad5 : Nat → Nat} {x5 : mf_V} {h6 : Nat} {x6 : mf_V} : ([0, 1, 10, 11, 12, 13, 14, 15, 16, 17, 18, 19, 20, 21, 22, 23, 24, 25, 26, 27, 28, 29, 30, 31, 32, 33, 34, 35, 36, 37, 38, 39] : List Nat).map (fun i => (OW G h1 p1 a1 f1 ae1 x1 ++ SW G h2 ad2 ca2 n2 x2 ++ RW G h3 ad3 x3 ++ RW G h4 ad4 x4 ++ FW G h5 ad5 x5 ++ AW G h6 3 x6)[i]?) = (OW G h1 p1 a1 f1 ae1 x1 ++ RW G h3 ad3 x3 ++ RW G h4 ad4 x4 ++ FW G h5 ad5 x5 ++ AW G h6 3 x6).map some := rfl
theorem sb_642d2b3857 {G : mf_G} {h1 p1 a1 f1 ae1 : Nat} {x1 : mf_V} {h2 : Nat} {ad2 : Nat → Nat} {x2 : mf_V} {h3 : Nat} {ad3 : Nat → Nat} {x3 : mf_V} {h4 : Nat} {ad4 : Nat → Nat} {x4 : mf_V} {h5 : Nat} {x5 : mf_V} {h6 : Nat} {ad6 : Nat → Nat} {ca6 n6 : Nat} {x6 : mf_V} : ([0, 1, 32, 33, 34, 35, 36, 37, 38, 39, 2, 3, 4, 5, 6, 7, 8, 9, 10, 11, 12, 13, 14, 15, 16, 17, 18, 19, 20, 21, 22, 23, 24, 25, 26, 27, 28, 29, 30, 31] : List Nat).filterMap (fun i => ((OW G h1 p1 a1 f1 ae1 x1 ++ RW G h2 ad2 x2 ++ RW G h3 ad3 x3 ++ FW G h4 ad4 x4 ++ AW G h5 3 x5) ++ (SW G h6 ad6 ca6 n6 x6))[i]?) = OW G h1 p1 a1 f1 ae1 x1 ++ SW G h6 ad6 ca6 n6 x6 ++ RW G h2 ad2 x2 ++ RW G h3 ad3 x3 ++ FW G h4 ad4 x4 ++ AW G h5 3 x5 := rfl
theorem sb_f40fbe1d83 {G : mf_G} {h1 p1 a1 f1 ae1 : Nat} {x1 : mf_V} {h2 : Nat} {ad2 : Nat → Nat} {x2 : mf_V} {h3 : Nat} {ad3 : Nat → Nat} {x3 : mf_V} {h4 : Nat} {ad4 : Nat → Nat} {x4 : mf_V} {h5 : Nat} {x5 : mf_V} {h6 : Nat} {ad6 : Nat → Nat} {ca6 n6 : Nat} {x6 : mf_V} : ([0, 1, 32, 33, 34, 35, 36, 37, 38, 39, 2, 3, 4, 5, 6, 7, 8, 9, 10, 11, 12, 13, 14, 15, 16, 17, 18, 19, 20, 21, 22, 23, 24, 25, 26, 27, 28, 29, 30, 31] : List Nat).map (fun i => ((OW G h1 p1 a1 f1 ae1 x1 ++ RW G h2 ad2 x2 ++ RW G h3 ad3 x3 ++ FW G h4 ad4 x4 ++ AW G h5 3 x5) ++ (SW G h6 ad6 ca6 n6 x6))[i]?) = (OW G h1 p1 a1 f1 ae1 x1 ++ SW G h6 ad6 ca6 n6 x6 ++ RW G h2 ad2 x2 ++ RW G h3 ad3 x3 ++ FW G h4 ad4 x4 ++ AW G h5 3 x5).map some := rfl
theorem sb_ac7769df1a {G : mf_G} {h1 p1 a1 f1 ae1 : Nat} {x1 : mf_V} {h2 : Nat} {ad2 : Nat → Nat} {ca2 n2 : Nat} {x2 : mf_V} {h3 : Nat} {ad3 : Nat → Nat} {x3 : mf_V} {h4 : Nat} {ad4 : Nat → Nat} {x4 : mf_V} {h5 : Nat} {ad5 : Nat → Nat} {x5 : mf_V} {h6 : Nat} {x6 : mf_V} : ([0, 1, 10, 11, 12, 13, 14, 15, 16, 17, 18, 19, 20, 21, 22, 23, 24, 25, 26, 27, 28, 29, 30, 31, 32, 33, 34, 35, 36, 37, 38] : List Nat).filterMap (fun i => (OW G h1 p1 a1 f1 ae1 x1 ++ SW G h2 ad2 ca2 n2 x2 ++ RW G h3 ad3 x3 ++ RW G h4 ad4 x4 ++ FW G h5 ad5 x5 ++ AW G h6 3 x6)[i]?) = OW G h1 p1 a1 f1 ae1 x1 ++ RW G h3 ad3 x3 ++ RW G h4 ad4 x4 ++ FW G h5 ad5 x5 := rfl
theorem sb_1fe1c6fe9d {G : mf_G} {h1 p1 a1 f1 ae1 : Nat} {x1 : mf_V} {h2 : Nat} {ad2 : Nat → Nat} {ca2 n2 : Nat} {x2 : mf_V} {h3 : Nat} {ad3 : Nat → Nat} {x3 : mf_V} {h4 : Nat} {ad4 : Nat → Nat} {x4 : mf_V} {h5 : Nat} {ad5 : Nat → Nat} {x5 : mf_V} {h6 : Nat} {x6 : mf_V} : ([0, 1, 10, 11, 12, 13, 14, 15, 16, 17, 18, 19, 20, 21, 22, 23, 24, 25, 26, 27, 28, 29, 30, 31, 32, 33, 34, 35, 36, 37, 38] : List Nat).map (fun i => (OW G h1 p1 a1 f1 ae1 x1 ++ SW G h2 ad2 ca2 n2 x2 ++ RW G h3 ad3 x3 ++ RW G h4 ad4 x4 ++ FW G h5 ad5 x5 ++ AW G h6 3 x6)[i]?) = (OW G h1 p1 a1 f1 ae1 x1 ++ RW G h3 ad3 x3 ++ RW G h4 ad4 x4 ++ FW G h5 ad5 x5).map some := rfl
theorem sb_bd77770d8e {G : mf_G} {h1 p1 a1 f1 ae1 : Nat} {x1 : mf_V} {h2 : Nat} {ad2 : Nat → Nat} {ca2 n2 : Nat} {x2 : mf_V} {h3 : Nat} {ad3 : Nat → Nat} {x3 : mf_V} {h4 : Nat} {ad4 : Nat → Nat} {x4 : mf_V} {h5 : Nat} {ad5 : Nat → Nat} {x5 : mf_V} {h6 : Nat} {x6 : mf_V} : ([2, 3, 4, 5, 6, 7, 8, 9, 39] : List Nat).map (fun i => (OW G h1 p1 a1 f1 ae1 x1 ++ SW G h2 ad2 ca2 n2 x2 ++ RW G h3 ad3 x3 ++ RW G h4 ad4 x4 ++ FW G h5 ad5 x5 ++ AW G h6 3 x6)[i]?) = (SW G h2 ad2 ca2 n2 x2 ++ AW G h6 3 x6).map some := rfl
theorem sb_ad9c3123af {G : mf_G} {h1 : Nat} {ad1 : Nat → Nat} {ca1 n1 : Nat} {x1 : mf_V} {h2 : Nat} {x2 : mf_V} {h3 p3 a3 f3 ae3 : Nat} {x3 : mf_V} {h4 : Nat} {ad4 : Nat → Nat} {x4 : mf_V} {h5 : Nat} {ad5 : Nat → Nat} {x5 : mf_V} {h6 : Nat} {ad6 : Nat → Nat} {x6 : mf_V} : ([9, 10, 0, 1, 2, 3, 4, 5, 6, 7, 11, 12, 13, 14, 15, 16, 17, 18, 19, 20, 21, 22, 23, 24, 25, 26, 27, 28, 29, 30, 31, 32, 33, 34, 35, 36, 37, 38, 39, 8] : List Nat).filterMap (fun i => ((SW G h1 ad1 ca1 n1 x1 ++ AW G h2 3 x2) ++ (OW G h3 p3 a3 f3 ae3 x3 ++ RW G h4 ad4 x4 ++ RW G h5 ad5 x5 ++ FW G h6 ad6 x6))[i]?) = OW G h3 p3 a3 f3 ae3 x3 ++ SW G h1 ad1 ca1 n1 x1 ++ RW G h4 ad4 x4 ++ RW G h5 ad5 x5 ++ FW G h6 ad6 x6 ++ AW G h2 3 x2 := rfl
theorem sb_abe43c4658 {G : mf_G} {h1 : Nat} {ad1 : Nat → Nat} {ca1 n1 : Nat} {x1 : mf_V} {h2 : Nat} {x2 : mf_V} {h3 p3 a3 f3 ae3 : Nat} {x3 : mf_V} {h4 : Nat} {ad4 : Nat → Nat} {x4 : mf_V} {h5 : Nat} {ad5 : Nat → Nat} {x5 : mf_V} {h6 : Nat} {ad6 : Nat → Nat} {x6 : mf_V} : ([9, 10, 0, 1, 2, 3, 4, 5, 6, 7, 11, 12, 13, 14, 15, 16, 17, 18, 19, 20, 21, 22, 23, 24, 25, 26, 27, 28, 29, 30, 31, 32, 33, 34, 35, 36, 37, 38, 39, 8] : List Nat).map (fun i => ((SW G h1 ad1 ca1 n1 x1 ++ AW G h2 3 x2) ++ (OW G h3 p3 a3 f3 ae3 x3 ++ RW G h4 ad4 x4 ++ RW G h5 ad5 x5 ++ FW G h6 ad6 x6))[i]?) = (OW G h3 p3 a3 f3 ae3 x3 ++ SW G h1 ad1 ca1 n1 x1 ++ RW G h4 ad4 x4 ++ RW G h5 ad5 x5 ++ FW G h6 ad6 x6 ++ AW G h2 3 x2).map some := rfl
set_option maxHeartbeats 4000000 in
set_option maxRecDepth 100000 in
theorem c_L_act (l : Launch) (hl9 : l.stackTraces = false) (G : mf_G) (ho pn pa pf : Nat) (ae : Nat) (x : mf_V) (hm : Nat) (adm : Nat → Nat) (ca nn : Nat) (u : mf_V) (adn : Nat → Nat) (r : mf_V) (ada : Nat → Nat) (ra : mf_V) (adf : Nat → Nat) (f : mf_V)  (xv : Int) (Yv : Int) (hxv : i32 xv) (hLQ : LQs Yv x r ra f nn u) (hYv : 0 ≤ Yv ∧ Yv ≤ 1000) (sz : Nat) : Met l yL_act wsL_act ({ frames := 8, cells := 3, slots := 159, locals := 140 }) (va_Pc [.ref ho, .ref hm, .int (iI (xv))] (WrPx G (OW G ho pn pa pf ae x ++ SW G hm adm ca nn u ++ RW G pn adn r ++ RW G pa ada ra ++ FW G pf adf f) sz)) (va_Qi (fun q9 (uZ : mf_V × mf_V × Nat × Nat × mf_V × mf_V × mf_V) => ∃ z : Int, q9 = iI z ∧ z = 1 ∧ LQs (Yv + 1) uZ.1 uZ.2.2.2.2.1 uZ.2.2.2.2.2.1 uZ.2.2.2.2.2.2 uZ.2.2.2.1 uZ.2.1 ∧ uZ.2.2.2.2.2.2 = f ∧ uZ.2.2.2.2.1 8 0 = r 8 0) (fun (uZ : mf_V × mf_V × Nat × Nat × mf_V × mf_V × mf_V) t => WrQ G (va_A (OW G ho pn pa pf ae x ++ SW G hm adm ca nn u ++ RW G pn adn r ++ RW G pa ada ra ++ FW G pf adf f) sz) (OW G ho pn pa pf ae (uZ.1) ++ SW G hm adm (uZ.2.2.1) (uZ.2.2.2.1) (uZ.2.1) ++ RW G pn adn (uZ.2.2.2.2.1) ++ RW G pa ada (uZ.2.2.2.2.2.1) ++ FW G pf adf (uZ.2.2.2.2.2.2)) t) (va_A (OW G ho pn pa pf ae x ++ SW G hm adm ca nn u ++ RW G pn adn r ++ RW G pa ada ra ++ FW G pf adf f) sz)) 3 159 (va_A (OW G ho pn pa pf ae x ++ SW G hm adm ca nn u ++ RW G pn adn r ++ RW G pa ada ra ++ FW G pf adf f) sz) := by
  refine Met.ofW (cc := cL_act) (maxL := 9) (ret := (some .boolean)) (by decide) rfl ?_
  intro p e s m args below meth c s₁ B hml hv
  obtain ⟨rfl, hsz, hP, hK, hD0, hN, hSX, hCX, hZ⟩ := hv
  have hx := B.exec
  have hb := B.bytes
  have hr := B.returns
  have hts := atoms_spec (ws := wsL_act) B.pre
  have hown : s.vm.findClass RL = some m.cls := findClass_of_methodNamed B.named
  have hlocks := B.notSynchronized
  have hinX3 : ∀ w ∈ u_ws RX3 TX3 9, w ∈ wsL_act := fun w h => List.mem_cons_of_mem _ (List.mem_append_left _ (List.mem_append_left _ (List.mem_append_left _ (List.mem_append_left _ (List.mem_append_left _ (List.mem_append_right _ h))))))
  subst hsz
  have hD := hD0.self (sz := s.heap.size)
  generalize hAe : va_A (OW G ho pn pa pf ae x ++ SW G hm adm ca nn u ++ RW G pn adn r ++ RW G pa ada ra ++ FW G pf adf f) s.heap.size = A at hD hZ ⊢
  have hA : ∀ q : Nat, s.heap.size ≤ q → A q := fun q h => by rw [← hAe]; exact Or.inr h
  have hS : va_S A s.heap s.heap [] := va_S.rf
  have hl := lv_entry ([.ref ho, .ref hm, .int (iI (xv))]) (n := 9) (Nat.le_of_ble_eq_true rfl)
  rw [lg_entry_eq]
  generalize (lg_sl ([.ref ho, .ref hm, .int (iI (xv))]) ++ List.replicate (9 - (lg_sl ([.ref ho, .ref hm, .int (iI (xv))])).length) Slot.unset).toArray = ls at hl ⊢
  have hl : lv_has ls 9 [(0, .ref ho), (1, .ref hm), (2, .int (iI (xv)))] := hl
  have hxv1 := hxv.1
  have hxv2 := hxv.2
  obtain ⟨⟨okx, ok, okra, okf⟩, hPI, hB, oku, hrel⟩ := id hLQ
  have hI := hPI.1
  have hN9 : (nn : Int) = r 7 0 := rel9 hrel
  have okLr : (0 : Int) ≤ r 7 0 ∧ r 7 0 ≤ 150 := ok 7 0
  have h27 := hI.1.1
  have b9 := hB.2.1
  refine mf_bipush hx hb dL_act_0 rfl ?_
  refine lv_iload_n hx hb dL_act_2 rfl (lv_at hl 2 rfl) ?_
  refine mf_iconst hx hb dL_act_3 ?_
  refine lv_ishr hx hb dL_act_4 ?_
  refine mf_nmw (fun y1 by1 => ?_)
  refine mf_sipush hx hb dL_act_5 rfl ?_
  refine vp_callSi (va_Run.run (va_runS (As := [.int (iI (y1)), .int (iI (192))]) (rest := [.int (iI (96))]) ⟨hx, hb, hml, hown, hts⟩ (c_L_below l (y1) (192) (i32_mk (by omega) (by omega)) (i32_mk (by decide) (by decide)) (by first | assumption | omega)) (va_cwS 2 hts gL_act_L_below rfl rfl rfl (by decide +kernel) ⟨Nat.le_of_ble_eq_true rfl, Nat.le_of_ble_eq_true rfl⟩) pureS rfl rfl hl.1 rfl (lv_room (Nat.le_of_ble_eq_true rfl)) dL_act_8 ⟨(Nat.zero_le _), (Nat.zero_le _)⟩)) (fun q2 hq2 => ?_)
  obtain ⟨z3, rfl, w4⟩ := hq2
  refine mf_iadd hx hb dL_act_11 ?_
  refine mf_nm (fun cv ecv => ?_)
  have bcv : 96 ≤ cv ∧ cv < 288 := by omega
  clear ecv
  skip
  refine lv_istore_n (lv' := [(3, .int (iI (cv))), (0, .ref ho), (1, .ref hm), (2, .int (iI (xv)))]) hx hb dL_act_12 rfl hl (by decide) rfl (fun ls hl => ?_)
  refine lv_iload_n hx hb dL_act_13 rfl (lv_at hl 3 rfl) ?_
  refine mf_bipush hx hb dL_act_14 rfl ?_
  refine lv_ishr hx hb dL_act_16 ?_
  refine mf_nmw (fun y5 by5 => ?_)
  refine mf_iconst hx hb dL_act_17 ?_
  refine vp_callSi (va_Run.run (va_runS (As := [.int (iI (y5)), .int (iI (5))]) (rest := []) ⟨hx, hb, hml, hown, hts⟩ (c_L_below l (y5) (5) (i32_mk (by omega) (by omega)) (i32_mk (by decide) (by decide)) (by first | assumption | omega)) (va_cwS 2 hts gL_act_L_below rfl rfl rfl (by decide +kernel) ⟨Nat.le_of_ble_eq_true rfl, Nat.le_of_ble_eq_true rfl⟩) pureS rfl rfl hl.1 rfl (lv_room (Nat.le_of_ble_eq_true rfl)) dL_act_18 ⟨(Nat.zero_le _), (Nat.zero_le _)⟩)) (fun q6 hq6 => ?_)
  obtain ⟨z7, rfl, w8⟩ := hq6
  have w9 : i32 (z7) := (i32_mk (by omega) (by omega))
  rcases (show  (z7) = 0 ∨  (z7) = 1 ∨  (z7) = 2 ∨  (z7) = 3 ∨  ((z7) < 0 ∨ 3 < (z7)) by omega) with c10 | c10 | c10 | c10 | c10
  · skip
    refine lv_tableIn (off := 31) (tgt := 52) hx hb dL_act_21 (by rw [iI_toInt w9]; omega) (by rw [iI_toInt w9]; omega) (by rw [iI_toInt w9, c10]; rfl) (by decide) ?_
    refine lv_aload_n hx hb dL_act_52 rfl (lv_at hl 1 rfl) ?_
    refine lv_aload_n hx hb dL_act_53 rfl (lv_at hl 2 rfl) ?_
    refine lv_iload_n hx hb dL_act_54 rfl (lv_at hl 3 rfl) ?_
    have hFc := va_free (wc := OW G ho pn pa pf ae x ++ SW G hm adm ca nn u ++ RW G pn adn r ++ RW G pa ada ra ++ FW G pf adf f) hD hS hA [0, 1, 2, 3, 4, 5, 6, 7, 8, 9, 10, 11, 12, 13, 14, 15, 16, 17, 18, 19, 20, 21, 22, 23, 24, 25, 26, 27, 28, 29, 30, 31, 32, 33, 34, 35, 36, 37, 38] sb_71a15db8da
    refine va_calli (va_runS (As := [.ref ho, .ref hm, .int (iI (xv))]) (rest := []) ⟨hx, hb, hml, hown, hts⟩ (c_L_slip l hl9 G ho pn pa pf ae x hm adm ca nn u adn r ada ra adf f (xv) (Yv) (i32_mk (by omega) (by omega)) (by exact hLQ) (by exact hYv) _) (va_cwS 3 hts gL_act_L_slip rfl rfl rfl (by decide +kernel) ⟨Nat.le_of_ble_eq_true rfl, Nat.le_of_ble_eq_true rfl⟩) (wrSx (wc := OW G ho pn pa pf ae x ++ SW G hm adm ca nn u ++ RW G pn adn r ++ RW G pa ada ra ++ FW G pf adf f) hSX hCX hZ hS hFc hK hP hD hN [0, 1, 2, 3, 4, 5, 6, 7, 8, 9, 10, 11, 12, 13, 14, 15, 16, 17, 18, 19, 20, 21, 22, 23, 24, 25, 26, 27, 28, 29, 30, 31, 32, 33, 34, 35, 36, 37, 38] (by decide +kernel) sb_83de0b8e0e sb_71a15db8da) rfl rfl hl.1 rfl (lv_room (Nat.le_of_ble_eq_true rfl)) dL_act_55 ⟨(Nat.le_of_ble_eq_true rfl), (Nat.le_of_ble_eq_true rfl)⟩) hS (fun q _ h => hFc q h) hFc (fun q11 u12 t H1 locs ht hvm hw hB hz1 hk1 hS => ?_)
    obtain ⟨x13, u14, cx15, nx16, r17, ra18, f19⟩ := u12
    try dsimp only at hw hB
    obtain ⟨hP, hD⟩ := wrJ (ws := OW G ho pn pa pf ae x ++ SW G hm adm ca nn u ++ RW G pn adn r ++ RW G pa ada ra ++ FW G pf adf f) (w1 := OW G ho pn pa pf ae x13 ++ SW G hm adm cx15 nx16 u14 ++ RW G pn adn r17 ++ RW G pa ada ra18 ++ FW G pf adf f19) ht hFc hB
    have hP : va_P G.1 vwCl (OW G ho pn pa pf ae x13 ++ SW G hm adm cx15 nx16 u14 ++ RW G pn adn r17 ++ RW G pa ada ra18 ++ FW G pf adf f19) H1 := hP
    have hD : va_D A (OW G ho pn pa pf ae x13 ++ SW G hm adm cx15 nx16 u14 ++ RW G pn adn r17 ++ RW G pa ada ra18 ++ FW G pf adf f19) := hD
    clear hB hk1 hFc ht hz1 hvm
    generalize H1 = H at hP hS ⊢
    obtain ⟨z21, rfl, w20⟩ := hw
    have hz1 := w20.1
    refine W.widen (k := 3) (n := 159) (Nat.le_of_ble_eq_true rfl) (Nat.le_of_ble_eq_true rfl) ?_
    exact W.zret hx hb hr (mf_nar01 (by omega)) (fun t ht hW => ⟨⟨_, (x13, u14, cx15, nx16, r17, ra18, f19), rfl, ⟨_, rfl, by (try dsimp only); exact w20⟩, by rw [ht]; exact hP, hD⟩, hS.F ht⟩) hS.2.2 dL_act_58
  · skip
    refine lv_tableIn (off := 38) (tgt := 59) hx hb dL_act_21 (by rw [iI_toInt w9]; omega) (by rw [iI_toInt w9]; omega) (by rw [iI_toInt w9, c10]; rfl) (by decide) ?_
    refine lv_aload_n hx hb dL_act_59 rfl (lv_at hl 2 rfl) ?_
    refine va_get (D := G.1) (ci := 3) (v := .ref (adm 4)) (C := RX3) (T := TX3) (N := 9) hx hb hts hinX3 hown hK hP 2 rfl rfl 4 (by decide) (hts (.fieldLink RL 55 "MeanderFarmLaw$Sim" "stones" "[Z") (List.mem_of_getElem? (i := 1) rfl)) (fun _ h9 => h9) rfl dL_act_60 ?_
    refine lv_iload_n hx hb dL_act_63 rfl (lv_at hl 0 rfl) ?_
    refine lv_iload_n hx hb dL_act_64 rfl (lv_at hl 3 rfl) ?_
    refine mf_iconst hx hb dL_act_65 ?_
    refine vp_callSi (va_Run.run (va_runS (As := [.int (iI (xv)), .int (iI (4))]) (rest := [.int (iI (cv)), .ref (adm 4)]) ⟨hx, hb, hml, hown, hts⟩ (c_L_below l (xv) (4) (i32_mk (by omega) (by omega)) (i32_mk (by decide) (by decide)) (by first | assumption | omega)) (va_cwS 2 hts gL_act_L_below rfl rfl rfl (by decide +kernel) ⟨Nat.le_of_ble_eq_true rfl, Nat.le_of_ble_eq_true rfl⟩) pureS rfl rfl hl.1 rfl (lv_room (Nat.le_of_ble_eq_true rfl)) dL_act_66 ⟨(Nat.zero_le _), (Nat.zero_le _)⟩)) (fun q22 hq22 => ?_)
    obtain ⟨z23, rfl, w24⟩ := hq22
    refine mf_if_le (tgt := 76) hx hb dL_act_69 (by decide) (i32_mk (by omega) (by omega)) (fun c25 => ?_) (fun c25 => ?_)
    · skip
      refine mf_iconst hx hb dL_act_76 ?_
      refine mf_zast (n := 384) (f := u 4) hx hb hK hP hD hS 5 1 rfl rfl (z := cv) (x := 0) (by omega) (by omega) (by first | decide | omega) (by omega) dL_act_77 (fun H locs hP hD hS => ?_)
      obtain ⟨u26, eu26⟩ : ∃ z9 : mf_V, z9 = mf_sF u 4 (mf_up (u 4) (cv) (0)) := ⟨_, rfl⟩
      have hP : va_P G.1 vwCl (OW G ho pn pa pf ae x ++ SW G hm adm ca nn u26 ++ RW G pn adn r ++ RW G pa ada ra ++ FW G pf adf f) H := by rw [eu26]; exact hP
      have hD : va_D A (OW G ho pn pa pf ae x ++ SW G hm adm ca nn u26 ++ RW G pn adn r ++ RW G pa ada ra ++ FW G pf adf f) := by rw [eu26]; exact hD
      have oku26 : rOK slo shi u26 := by rw [eu26]; exact rOK_up oku 4 _ _ (show (0 : Int) ≤ 0 by omega) (show 0 ≤ (1 : Int) by omega)
      have f1_u26 : u26 4 (cv) = 0 := by rw [eu26, mf_sF_s, mf_up_s]
      have f2_u26 : ∀ y, y ≠ (cv) → u26 4 y = u 4 y := fun y hy => by rw [eu26, mf_sF_s, mf_up_n hy]
      have f3_u26 : ∀ q, q ≠ 4 → u26 q = u q := fun q hq => by rw [eu26, mf_sF_n hq]
      refine mf_iconst hx hb dL_act_78 ?_
      refine lv_istore (lv' := [(4, .int (iI (0))), (3, .int (iI (cv))), (0, .ref ho), (1, .ref hm), (2, .int (iI (xv)))]) hx hb dL_act_79 hl (by decide) rfl (fun ls hl => ?_)
      refine lv_aload_n hx hb dL_act_81 rfl (lv_at hl 3 rfl) ?_
      refine va_get (D := G.1) (ci := 3) (v := .ref (adm 4)) (C := RX3) (T := TX3) (N := 9) hx hb hts hinX3 hown hK hP 2 rfl rfl 4 (by decide) (hts (.fieldLink RL 55 "MeanderFarmLaw$Sim" "stones" "[Z") (List.mem_of_getElem? (i := 1) rfl)) (fun _ h9 => h9) rfl dL_act_82 ?_
      refine lv_astore (lv' := [(5, .ref (adm 4)), (4, .int (iI (0))), (3, .int (iI (cv))), (0, .ref ho), (1, .ref hm), (2, .int (iI (xv)))]) hx hb dL_act_85 hl (by decide) rfl (fun ls hl => ?_)
      refine lv_aload hx hb dL_act_87 (lv_at hl 0 rfl) ?_
      refine va_alen hx hb hK hP 5 1 rfl rfl (v := iI 384) rfl dL_act_89 ?_
      refine lv_istore (lv' := [(6, .int (iI (384))), (5, .ref (adm 4)), (4, .int (iI (0))), (3, .int (iI (cv))), (0, .ref ho), (1, .ref hm), (2, .int (iI (xv)))]) hx hb dL_act_90 hl (by decide) rfl (fun ls hl => ?_)
      refine mf_iconst hx hb dL_act_92 ?_
      refine lv_istore (lv' := [(7, .int (iI (0))), (6, .int (iI (384))), (5, .ref (adm 4)), (4, .int (iI (0))), (3, .int (iI (cv))), (0, .ref ho), (1, .ref hm), (2, .int (iI (xv)))]) hx hb dL_act_93 hl (by decide) rfl (fun ls hl => ?_)
      have lp95 : ∀ (n : Nat) (sv : Int) (kv : Int), (384 - kv).toNat < n → (0 ≤ kv ∧ kv ≤ 384) → (0 ≤ sv ∧ sv ≤ kv) → (sv = msum (fun c => bP (¬ u26 4 c = 0)) kv) → ∀ (H : Heap) (locs : List Loc), va_P G.1 vwCl (OW G ho pn pa pf ae x ++ SW G hm adm ca nn u26 ++ RW G pn adn r ++ RW G pa ada ra ++ FW G pf adf f) H → va_D A (OW G ho pn pa pf ae x ++ SW G hm adm ca nn u26 ++ RW G pn adn r ++ RW G pa ada ra ++ FW G pf adf f) → va_S A s.heap H locs → ∀ (ls : Array Slot), lv_has ls 9 [(0, .ref ho), (1, .ref hm), (3, .int (iI (cv))), (4, .int (iI (sv))), (5, .ref (adm 4)), (6, .int (iI (384))), (7, .int (iI (kv)))] → W p l e (headSpec wsL_act ({ frames := 8, cells := 3, slots := 159, locals := 140 })).room s m ([.ref ho, .ref hm, .int (iI (xv))] : List Value).toArray below meth c H locs 0 0 (MQ below (va_Qi (fun q9 (uZ : mf_V × mf_V × Nat × Nat × mf_V × mf_V × mf_V) => ∃ z : Int, q9 = iI z ∧ z = 1 ∧ LQs (Yv + 1) uZ.1 uZ.2.2.2.2.1 uZ.2.2.2.2.2.1 uZ.2.2.2.2.2.2 uZ.2.2.2.1 uZ.2.1 ∧ uZ.2.2.2.2.2.2 = f ∧ uZ.2.2.2.2.1 8 0 = r 8 0) (fun (uZ : mf_V × mf_V × Nat × Nat × mf_V × mf_V × mf_V) t => WrQ G A (OW G ho pn pa pf ae (uZ.1) ++ SW G hm adm (uZ.2.2.1) (uZ.2.2.2.1) (uZ.2.1) ++ RW G pn adn (uZ.2.2.2.2.1) ++ RW G pa ada (uZ.2.2.2.2.2.1) ++ FW G pf adf (uZ.2.2.2.2.2.2)) t) A) ([.ref ho, .ref hm, .int (iI (xv))] : List Value).toArray s 3 159 A) (F0 m 95 ls []) := by
        intro n
        induction n with
        | zero => intro sv kv hn; exact absurd hn (Nat.not_lt_zero _)
        | succ n ih95 =>
          intro sv kv hn hk hsb hs H locs hP hD hS ls hl
          refine lv_iload hx hb dL_act_95 (lv_at hl 6 rfl) ?_
          refine lv_iload hx hb dL_act_97 (lv_at hl 5 rfl) ?_
          refine mf_icmp_ge (tgt := 130) hx hb dL_act_99 (by decide) (i32_mk (by omega) (by omega)) (i32_mk (by decide) (by decide)) (fun c27 => ?_) (fun c27 => ?_)
          · skip
            refine lv_aload_n hx hb dL_act_130 rfl (lv_at hl 0 rfl) ?_
            refine lv_iload_n hx hb dL_act_131 rfl (lv_at hl 2 rfl) ?_
            refine mf_bipush hx hb dL_act_132 rfl ?_
            refine mf_irem hx hb dL_act_134 (i32_mk (by omega) (by omega)) (by omega) (i32_mk (by decide) (by decide)) (by omega) ?_
            refine lv_iload_n hx hb dL_act_135 rfl (lv_at hl 2 rfl) ?_
            refine mf_bipush hx hb dL_act_136 rfl ?_
            refine mf_idiv hx hb dL_act_138 (i32_mk (by omega) (by omega)) (by omega) (i32_mk (by decide) (by decide)) (by omega) ?_
            refine lv_aload_n hx hb dL_act_139 rfl (lv_at hl 1 rfl) ?_
            refine va_get (D := G.1) (ci := 3) (v := .ref (adm 4)) (C := RX3) (T := TX3) (N := 9) hx hb hts hinX3 hown hK hP 2 rfl rfl 4 (by decide) (hts (.fieldLink RL 55 "MeanderFarmLaw$Sim" "stones" "[Z") (List.mem_of_getElem? (i := 1) rfl)) (fun _ h9 => h9) rfl dL_act_140 ?_
            refine lv_iload_n hx hb dL_act_143 rfl (lv_at hl 2 rfl) ?_
            skip
            refine mf_zald (n := 384) (f := u26 4) hx hb hK hP 5 1 rfl rfl (z := cv) (by omega) (by omega) (by first | decide | omega) dL_act_144 ?_
            refine mf_top (u26 4 cv) (0) (by rw [f1_u26]) ?_
            have hk0 : kCell (cv % 24) (cv / 24) = 0 := by exact mf_if_f (fun q => q ⟨⟨by omega, by omega⟩, by omega, by omega⟩)
            have hFc := va_free (wc := OW G ho pn pa pf ae x ++ RW G pn adn r ++ RW G pa ada ra ++ FW G pf adf f) hD hS hA [0, 1, 10, 11, 12, 13, 14, 15, 16, 17, 18, 19, 20, 21, 22, 23, 24, 25, 26, 27, 28, 29, 30, 31, 32, 33, 34, 35, 36, 37, 38] sb_4e5d88c86a
            refine vx_calli (vx_runV (As := [.int (iI (cv % 24)), .int (iI (cv / 24)), .int (iI (0))]) (rest := []) ⟨hx, hb, hml, hown, hts⟩ (c_X2_setStones l hl9 G ho pn pa pf ae x adn r ada ra adf f (cv % 24) (cv / 24) (0) (i32_mk (by omega) (by omega)) (i32_mk (by omega) (by omega)) (i32_mk (by decide) (by decide)) (by assumption) (by assumption) (by assumption) (by assumption) (by omega) _) (cwV 3 hts gL_act_X2_setStones rfl rfl rfl (by decide +kernel) ⟨Nat.le_of_ble_eq_true rfl, Nat.le_of_ble_eq_true rfl⟩) (wrVx (wc := OW G ho pn pa pf ae x ++ RW G pn adn r ++ RW G pa ada ra ++ FW G pf adf f) hSX hCX hZ hS hFc hK hP hD hN [0, 1, 10, 11, 12, 13, 14, 15, 16, 17, 18, 19, 20, 21, 22, 23, 24, 25, 26, 27, 28, 29, 30, 31, 32, 33, 34, 35, 36, 37, 38] (by decide +kernel) sb_722bbe55ec sb_4e5d88c86a (ci := 2) rfl rfl) rfl rfl hl.1 rfl (lv_room (Nat.le_of_ble_eq_true rfl)) dL_act_145 ⟨Nat.le_of_ble_eq_true rfl, Nat.le_of_ble_eq_true rfl⟩) hS (fun q _ h => hFc q h) hFc (fun q _ h => hFc q h) (fun E ce q9 _ t H1 locs ht hvm _ hB hz1 hk1 hS hce hcv hcl => ?_) (fun q28 u29 t H1 locs ht hvm hw hB hz1 hk1 hS => ?_)
            · exfalso
              have hx9 := hB.1
              rcases hx9 with ⟨-, hk9⟩ <;> omega
            obtain ⟨x30, r31, ra32, f33⟩ := u29
            try dsimp only at hw hB
            obtain ⟨hP, hD⟩ := wrJ2 (ws := OW G ho pn pa pf ae x ++ SW G hm adm ca nn u26 ++ RW G pn adn r ++ RW G pa ada ra ++ FW G pf adf f) (wc := OW G ho pn pa pf ae x ++ RW G pn adn r ++ RW G pa ada ra ++ FW G pf adf f) (wr := SW G hm adm ca nn u26) (w1 := OW G ho pn pa pf ae x30 ++ RW G pn adn r31 ++ RW G pa ada ra32 ++ FW G pf adf f33) hP hD [0, 1, 10, 11, 12, 13, 14, 15, 16, 17, 18, 19, 20, 21, 22, 23, 24, 25, 26, 27, 28, 29, 30, 31, 32, 33, 34, 35, 36, 37, 38] [2, 3, 4, 5, 6, 7, 8, 9] sb_4e5d88c86a sb_6583667dcc (by decide +kernel) (by decide +kernel) hk1 ht hFc hB
            have hP : va_P G.1 vwCl (OW G ho pn pa pf ae x30 ++ SW G hm adm ca nn u26 ++ RW G pn adn r31 ++ RW G pa ada ra32 ++ FW G pf adf f33) H1 := hP.sub [8, 9, 0, 1, 2, 3, 4, 5, 6, 7, 10, 11, 12, 13, 14, 15, 16, 17, 18, 19, 20, 21, 22, 23, 24, 25, 26, 27, 28, 29, 30, 31, 32, 33, 34, 35, 36, 37, 38] sb_ea07c26545
            have hD : va_D A (OW G ho pn pa pf ae x30 ++ SW G hm adm ca nn u26 ++ RW G pn adn r31 ++ RW G pa ada ra32 ++ FW G pf adf f33) := hD.sub [8, 9, 0, 1, 2, 3, 4, 5, 6, 7, 10, 11, 12, 13, 14, 15, 16, 17, 18, 19, 20, 21, 22, 23, 24, 25, 26, 27, 28, 29, 30, 31, 32, 33, 34, 35, 36, 37, 38] (by decide +kernel) sb_5e94329b71
            clear hB hk1 hFc ht hz1 hvm hk0
            generalize H1 = H at hP hS ⊢
            obtain ⟨z34, rfl, -, ⟨okx30, okr31, okra32, okf33⟩, w36, w37, w38⟩ := hw
            have w37 := w37.symm
            subst w37
            subst w38
            have bsf := stonesF_b (mf_sF r 2 (mf_up (r 2) (cv % 24 + 24 * (cv / 24)) 0))
            refine lv_iload hx hb dL_act_148 (lv_at hl 3 rfl) ?_
            refine mf_icmp_ne (tgt := 157) hx hb dL_act_150 (by decide) (i32_mk (by omega) (by omega)) (i32_mk (by omega) (by omega)) (fun c39 => ?_) (fun c39 => ?_)
            · skip
              have ec : cv % 24 + 24 * (cv / 24) = cv := by omega
              rw [ec] at c39
              exact absurd (by rw [hs, show kv = 384 by omega]; exact (stonesS (relS_2 hrel f1_u26 f2_u26 f3_u26)).symm) c39
            · skip
              refine mf_iconst hx hb dL_act_153 ?_
              refine lv_goto (tgt := 158) hx hb dL_act_154 (by decide) ?_
              have ec : cv % 24 + 24 * (cv / 24) = cv := by omega
              have ok7 : rOK rlo rhi (mf_sF r 2 (mf_up (r 2) cv 0)) := by
                have g := okr31
                rw [w36, ec] at g
                exact g
              have hL7 : LQs Yv x30 r31 ra32 f nn u26 := by
                rw [w36, ec]
                exact LQs_2 hLQ ⟨okx30, ok7, okra32, okf⟩ oku26 f1_u26 f2_u26 f3_u26
              refine W.widen (k := 3) (n := 159) (Nat.le_of_ble_eq_true rfl) (Nat.le_of_ble_eq_true rfl) ?_
              exact W.zret hx hb hr (mf_nar01 (by omega)) (fun t ht hW => ⟨⟨_, (x30, u26, ca, nn, r31, ra32, f), rfl, ⟨_, rfl, by (try dsimp only); exact ⟨rfl, LQs_mono hL7 (by omega), rfl, by rw [w36, mf_sF_n (by decide)]⟩⟩, by rw [ht]; exact hP, hD⟩, hS.F ht⟩) hS.2.2 dL_act_158
          · skip
            refine lv_aload hx hb dL_act_102 (lv_at hl 4 rfl) ?_
            refine lv_iload hx hb dL_act_104 (lv_at hl 6 rfl) ?_
            refine mf_zald (n := 384) (f := u26 4) hx hb hK hP 5 1 rfl rfl (z := kv) (by omega) (by omega) (by first | decide | omega) dL_act_106 ?_
            have b40 : (0 : Int) ≤ u26 4 kv ∧ u26 4 kv ≤ 1 := oku26 4 (kv)
            refine lv_istore (lv' := [(8, .int (iI (u26 4 kv))), (0, .ref ho), (1, .ref hm), (3, .int (iI (cv))), (4, .int (iI (sv))), (5, .ref (adm 4)), (6, .int (iI (384))), (7, .int (iI (kv)))]) hx hb dL_act_107 hl (by decide) rfl (fun ls hl => ?_)
            refine lv_iload hx hb dL_act_109 (lv_at hl 4 rfl) ?_
            refine lv_iload hx hb dL_act_111 (lv_at hl 0 rfl) ?_
            refine mf_if_eq (tgt := 120) hx hb dL_act_113 (by decide) (i32_mk (by omega) (by omega)) (fun c41 => ?_) (fun c41 => ?_)
            · skip
              refine mf_iconst hx hb dL_act_120 ?_
              refine mf_iadd hx hb dL_act_121 ?_
              refine lv_istore (lv' := [(4, .int (iI (sv + 0))), (8, .int (iI (u26 4 kv))), (0, .ref ho), (1, .ref hm), (3, .int (iI (cv))), (5, .ref (adm 4)), (6, .int (iI (384))), (7, .int (iI (kv)))]) hx hb dL_act_122 hl (by decide) rfl (fun ls hl => ?_)
              refine lv_iinc (v := iI (kv + 1)) (lv' := [(7, .int (iI (kv + 1))), (4, .int (iI (sv + 0))), (8, .int (iI (u26 4 kv))), (0, .ref ho), (1, .ref hm), (3, .int (iI (cv))), (5, .ref (adm 4)), (6, .int (iI (384)))]) hx hb dL_act_124 hl (k := 7) rfl (iI_add _ _).symm (by decide) rfl (fun ls hl => ?_)
              refine lv_goto (tgt := 95) hx hb dL_act_127 (by decide) ?_
              exact ih95 (sv + 0) (kv + 1) (by omega) (by first | assumption | omega) (by first | assumption | omega) (by rw [msum_s _ (by omega)]; first | (rw [bP_t (by assumption)]; omega) | (rw [bP_f (by omega)]; omega)) _ _ hP hD hS ls (lv_sub hl [3, 4, 5, 1, 6, 7, 0] rfl)
            · skip
              refine mf_iconst hx hb dL_act_116 ?_
              refine lv_goto (tgt := 121) hx hb dL_act_117 (by decide) ?_
              refine mf_iadd hx hb dL_act_121 ?_
              refine lv_istore (lv' := [(4, .int (iI (sv + 1))), (8, .int (iI (u26 4 kv))), (0, .ref ho), (1, .ref hm), (3, .int (iI (cv))), (5, .ref (adm 4)), (6, .int (iI (384))), (7, .int (iI (kv)))]) hx hb dL_act_122 hl (by decide) rfl (fun ls hl => ?_)
              refine lv_iinc (v := iI (kv + 1)) (lv' := [(7, .int (iI (kv + 1))), (4, .int (iI (sv + 1))), (8, .int (iI (u26 4 kv))), (0, .ref ho), (1, .ref hm), (3, .int (iI (cv))), (5, .ref (adm 4)), (6, .int (iI (384)))]) hx hb dL_act_124 hl (k := 7) rfl (iI_add _ _).symm (by decide) rfl (fun ls hl => ?_)
              refine lv_goto (tgt := 95) hx hb dL_act_127 (by decide) ?_
              exact ih95 (sv + 1) (kv + 1) (by omega) (by first | assumption | omega) (by first | assumption | omega) (by rw [msum_s _ (by omega)]; first | (rw [bP_t (by assumption)]; omega) | (rw [bP_f (by omega)]; omega)) _ _ hP hD hS ls (lv_sub hl [3, 4, 5, 1, 6, 7, 0] rfl)
      exact lp95 (_ + 1) 0 0 (Nat.lt_succ_self _) (by first | assumption | omega) (by first | assumption | omega) (by rfl) _ _ hP hD hS ls (lv_sub hl [5, 6, 4, 3, 2, 1, 0] rfl)
    · skip
      refine mf_iconst hx hb dL_act_72 ?_
      refine lv_goto (tgt := 77) hx hb dL_act_73 (by decide) ?_
      refine mf_zast (n := 384) (f := u 4) hx hb hK hP hD hS 5 1 rfl rfl (z := cv) (x := 1) (by omega) (by omega) (by first | decide | omega) (by omega) dL_act_77 (fun H locs hP hD hS => ?_)
      obtain ⟨u42, eu42⟩ : ∃ z9 : mf_V, z9 = mf_sF u 4 (mf_up (u 4) (cv) (1)) := ⟨_, rfl⟩
      have hP : va_P G.1 vwCl (OW G ho pn pa pf ae x ++ SW G hm adm ca nn u42 ++ RW G pn adn r ++ RW G pa ada ra ++ FW G pf adf f) H := by rw [eu42]; exact hP
      have hD : va_D A (OW G ho pn pa pf ae x ++ SW G hm adm ca nn u42 ++ RW G pn adn r ++ RW G pa ada ra ++ FW G pf adf f) := by rw [eu42]; exact hD
      have oku42 : rOK slo shi u42 := by rw [eu42]; exact rOK_up oku 4 _ _ (show (0 : Int) ≤ 1 by omega) (show 1 ≤ (1 : Int) by omega)
      have f1_u42 : u42 4 (cv) = 1 := by rw [eu42, mf_sF_s, mf_up_s]
      have f2_u42 : ∀ y, y ≠ (cv) → u42 4 y = u 4 y := fun y hy => by rw [eu42, mf_sF_s, mf_up_n hy]
      have f3_u42 : ∀ q, q ≠ 4 → u42 q = u q := fun q hq => by rw [eu42, mf_sF_n hq]
      refine mf_iconst hx hb dL_act_78 ?_
      refine lv_istore (lv' := [(4, .int (iI (0))), (3, .int (iI (cv))), (0, .ref ho), (1, .ref hm), (2, .int (iI (xv)))]) hx hb dL_act_79 hl (by decide) rfl (fun ls hl => ?_)
      refine lv_aload_n hx hb dL_act_81 rfl (lv_at hl 3 rfl) ?_
      refine va_get (D := G.1) (ci := 3) (v := .ref (adm 4)) (C := RX3) (T := TX3) (N := 9) hx hb hts hinX3 hown hK hP 2 rfl rfl 4 (by decide) (hts (.fieldLink RL 55 "MeanderFarmLaw$Sim" "stones" "[Z") (List.mem_of_getElem? (i := 1) rfl)) (fun _ h9 => h9) rfl dL_act_82 ?_
      refine lv_astore (lv' := [(5, .ref (adm 4)), (4, .int (iI (0))), (3, .int (iI (cv))), (0, .ref ho), (1, .ref hm), (2, .int (iI (xv)))]) hx hb dL_act_85 hl (by decide) rfl (fun ls hl => ?_)
      refine lv_aload hx hb dL_act_87 (lv_at hl 0 rfl) ?_
      refine va_alen hx hb hK hP 5 1 rfl rfl (v := iI 384) rfl dL_act_89 ?_
      refine lv_istore (lv' := [(6, .int (iI (384))), (5, .ref (adm 4)), (4, .int (iI (0))), (3, .int (iI (cv))), (0, .ref ho), (1, .ref hm), (2, .int (iI (xv)))]) hx hb dL_act_90 hl (by decide) rfl (fun ls hl => ?_)
      refine mf_iconst hx hb dL_act_92 ?_
      refine lv_istore (lv' := [(7, .int (iI (0))), (6, .int (iI (384))), (5, .ref (adm 4)), (4, .int (iI (0))), (3, .int (iI (cv))), (0, .ref ho), (1, .ref hm), (2, .int (iI (xv)))]) hx hb dL_act_93 hl (by decide) rfl (fun ls hl => ?_)
      have lp95 : ∀ (n : Nat) (sv : Int) (kv : Int), (384 - kv).toNat < n → (0 ≤ kv ∧ kv ≤ 384) → (0 ≤ sv ∧ sv ≤ kv) → (sv = msum (fun c => bP (¬ u42 4 c = 0)) kv) → ∀ (H : Heap) (locs : List Loc), va_P G.1 vwCl (OW G ho pn pa pf ae x ++ SW G hm adm ca nn u42 ++ RW G pn adn r ++ RW G pa ada ra ++ FW G pf adf f) H → va_D A (OW G ho pn pa pf ae x ++ SW G hm adm ca nn u42 ++ RW G pn adn r ++ RW G pa ada ra ++ FW G pf adf f) → va_S A s.heap H locs → ∀ (ls : Array Slot), lv_has ls 9 [(0, .ref ho), (1, .ref hm), (3, .int (iI (cv))), (4, .int (iI (sv))), (5, .ref (adm 4)), (6, .int (iI (384))), (7, .int (iI (kv)))] → W p l e (headSpec wsL_act ({ frames := 8, cells := 3, slots := 159, locals := 140 })).room s m ([.ref ho, .ref hm, .int (iI (xv))] : List Value).toArray below meth c H locs 0 0 (MQ below (va_Qi (fun q9 (uZ : mf_V × mf_V × Nat × Nat × mf_V × mf_V × mf_V) => ∃ z : Int, q9 = iI z ∧ z = 1 ∧ LQs (Yv + 1) uZ.1 uZ.2.2.2.2.1 uZ.2.2.2.2.2.1 uZ.2.2.2.2.2.2 uZ.2.2.2.1 uZ.2.1 ∧ uZ.2.2.2.2.2.2 = f ∧ uZ.2.2.2.2.1 8 0 = r 8 0) (fun (uZ : mf_V × mf_V × Nat × Nat × mf_V × mf_V × mf_V) t => WrQ G A (OW G ho pn pa pf ae (uZ.1) ++ SW G hm adm (uZ.2.2.1) (uZ.2.2.2.1) (uZ.2.1) ++ RW G pn adn (uZ.2.2.2.2.1) ++ RW G pa ada (uZ.2.2.2.2.2.1) ++ FW G pf adf (uZ.2.2.2.2.2.2)) t) A) ([.ref ho, .ref hm, .int (iI (xv))] : List Value).toArray s 3 159 A) (F0 m 95 ls []) := by
        intro n
        induction n with
        | zero => intro sv kv hn; exact absurd hn (Nat.not_lt_zero _)
        | succ n ih95 =>
          intro sv kv hn hk hsb hs H locs hP hD hS ls hl
          refine lv_iload hx hb dL_act_95 (lv_at hl 6 rfl) ?_
          refine lv_iload hx hb dL_act_97 (lv_at hl 5 rfl) ?_
          refine mf_icmp_ge (tgt := 130) hx hb dL_act_99 (by decide) (i32_mk (by omega) (by omega)) (i32_mk (by decide) (by decide)) (fun c43 => ?_) (fun c43 => ?_)
          · skip
            refine lv_aload_n hx hb dL_act_130 rfl (lv_at hl 0 rfl) ?_
            refine lv_iload_n hx hb dL_act_131 rfl (lv_at hl 2 rfl) ?_
            refine mf_bipush hx hb dL_act_132 rfl ?_
            refine mf_irem hx hb dL_act_134 (i32_mk (by omega) (by omega)) (by omega) (i32_mk (by decide) (by decide)) (by omega) ?_
            refine lv_iload_n hx hb dL_act_135 rfl (lv_at hl 2 rfl) ?_
            refine mf_bipush hx hb dL_act_136 rfl ?_
            refine mf_idiv hx hb dL_act_138 (i32_mk (by omega) (by omega)) (by omega) (i32_mk (by decide) (by decide)) (by omega) ?_
            refine lv_aload_n hx hb dL_act_139 rfl (lv_at hl 1 rfl) ?_
            refine va_get (D := G.1) (ci := 3) (v := .ref (adm 4)) (C := RX3) (T := TX3) (N := 9) hx hb hts hinX3 hown hK hP 2 rfl rfl 4 (by decide) (hts (.fieldLink RL 55 "MeanderFarmLaw$Sim" "stones" "[Z") (List.mem_of_getElem? (i := 1) rfl)) (fun _ h9 => h9) rfl dL_act_140 ?_
            refine lv_iload_n hx hb dL_act_143 rfl (lv_at hl 2 rfl) ?_
            skip
            refine mf_zald (n := 384) (f := u42 4) hx hb hK hP 5 1 rfl rfl (z := cv) (by omega) (by omega) (by first | decide | omega) dL_act_144 ?_
            refine mf_top (u42 4 cv) (1) (by rw [f1_u42]) ?_
            have hk0 : kCell (cv % 24) (cv / 24) = 0 := by exact mf_if_f (fun q => q ⟨⟨by omega, by omega⟩, by omega, by omega⟩)
            have hFc := va_free (wc := OW G ho pn pa pf ae x ++ RW G pn adn r ++ RW G pa ada ra ++ FW G pf adf f) hD hS hA [0, 1, 10, 11, 12, 13, 14, 15, 16, 17, 18, 19, 20, 21, 22, 23, 24, 25, 26, 27, 28, 29, 30, 31, 32, 33, 34, 35, 36, 37, 38] sb_4e5d88c86a
            refine vx_calli (vx_runV (As := [.int (iI (cv % 24)), .int (iI (cv / 24)), .int (iI (1))]) (rest := []) ⟨hx, hb, hml, hown, hts⟩ (c_X2_setStones l hl9 G ho pn pa pf ae x adn r ada ra adf f (cv % 24) (cv / 24) (1) (i32_mk (by omega) (by omega)) (i32_mk (by omega) (by omega)) (i32_mk (by decide) (by decide)) (by assumption) (by assumption) (by assumption) (by assumption) (by omega) _) (cwV 3 hts gL_act_X2_setStones rfl rfl rfl (by decide +kernel) ⟨Nat.le_of_ble_eq_true rfl, Nat.le_of_ble_eq_true rfl⟩) (wrVx (wc := OW G ho pn pa pf ae x ++ RW G pn adn r ++ RW G pa ada ra ++ FW G pf adf f) hSX hCX hZ hS hFc hK hP hD hN [0, 1, 10, 11, 12, 13, 14, 15, 16, 17, 18, 19, 20, 21, 22, 23, 24, 25, 26, 27, 28, 29, 30, 31, 32, 33, 34, 35, 36, 37, 38] (by decide +kernel) sb_722bbe55ec sb_4e5d88c86a (ci := 2) rfl rfl) rfl rfl hl.1 rfl (lv_room (Nat.le_of_ble_eq_true rfl)) dL_act_145 ⟨Nat.le_of_ble_eq_true rfl, Nat.le_of_ble_eq_true rfl⟩) hS (fun q _ h => hFc q h) hFc (fun q _ h => hFc q h) (fun E ce q9 _ t H1 locs ht hvm _ hB hz1 hk1 hS hce hcv hcl => ?_) (fun q44 u45 t H1 locs ht hvm hw hB hz1 hk1 hS => ?_)
            · exfalso
              have hx9 := hB.1
              rcases hx9 with ⟨-, hk9⟩ <;> omega
            obtain ⟨x46, r47, ra48, f49⟩ := u45
            try dsimp only at hw hB
            obtain ⟨hP, hD⟩ := wrJ2 (ws := OW G ho pn pa pf ae x ++ SW G hm adm ca nn u42 ++ RW G pn adn r ++ RW G pa ada ra ++ FW G pf adf f) (wc := OW G ho pn pa pf ae x ++ RW G pn adn r ++ RW G pa ada ra ++ FW G pf adf f) (wr := SW G hm adm ca nn u42) (w1 := OW G ho pn pa pf ae x46 ++ RW G pn adn r47 ++ RW G pa ada ra48 ++ FW G pf adf f49) hP hD [0, 1, 10, 11, 12, 13, 14, 15, 16, 17, 18, 19, 20, 21, 22, 23, 24, 25, 26, 27, 28, 29, 30, 31, 32, 33, 34, 35, 36, 37, 38] [2, 3, 4, 5, 6, 7, 8, 9] sb_4e5d88c86a sb_6583667dcc (by decide +kernel) (by decide +kernel) hk1 ht hFc hB
            have hP : va_P G.1 vwCl (OW G ho pn pa pf ae x46 ++ SW G hm adm ca nn u42 ++ RW G pn adn r47 ++ RW G pa ada ra48 ++ FW G pf adf f49) H1 := hP.sub [8, 9, 0, 1, 2, 3, 4, 5, 6, 7, 10, 11, 12, 13, 14, 15, 16, 17, 18, 19, 20, 21, 22, 23, 24, 25, 26, 27, 28, 29, 30, 31, 32, 33, 34, 35, 36, 37, 38] sb_ea07c26545
            have hD : va_D A (OW G ho pn pa pf ae x46 ++ SW G hm adm ca nn u42 ++ RW G pn adn r47 ++ RW G pa ada ra48 ++ FW G pf adf f49) := hD.sub [8, 9, 0, 1, 2, 3, 4, 5, 6, 7, 10, 11, 12, 13, 14, 15, 16, 17, 18, 19, 20, 21, 22, 23, 24, 25, 26, 27, 28, 29, 30, 31, 32, 33, 34, 35, 36, 37, 38] (by decide +kernel) sb_5e94329b71
            clear hB hk1 hFc ht hz1 hvm hk0
            generalize H1 = H at hP hS ⊢
            obtain ⟨z50, rfl, -, ⟨okx46, okr47, okra48, okf49⟩, w52, w53, w54⟩ := hw
            have w53 := w53.symm
            subst w53
            subst w54
            have bsf := stonesF_b (mf_sF r 2 (mf_up (r 2) (cv % 24 + 24 * (cv / 24)) 1))
            refine lv_iload hx hb dL_act_148 (lv_at hl 3 rfl) ?_
            refine mf_icmp_ne (tgt := 157) hx hb dL_act_150 (by decide) (i32_mk (by omega) (by omega)) (i32_mk (by omega) (by omega)) (fun c55 => ?_) (fun c55 => ?_)
            · skip
              have ec : cv % 24 + 24 * (cv / 24) = cv := by omega
              rw [ec] at c55
              exact absurd (by rw [hs, show kv = 384 by omega]; exact (stonesS (relS_2 hrel f1_u42 f2_u42 f3_u42)).symm) c55
            · skip
              refine mf_iconst hx hb dL_act_153 ?_
              refine lv_goto (tgt := 158) hx hb dL_act_154 (by decide) ?_
              have ec : cv % 24 + 24 * (cv / 24) = cv := by omega
              have ok7 : rOK rlo rhi (mf_sF r 2 (mf_up (r 2) cv 1)) := by
                have g := okr47
                rw [w52, ec] at g
                exact g
              have hL7 : LQs Yv x46 r47 ra48 f nn u42 := by
                rw [w52, ec]
                exact LQs_2 hLQ ⟨okx46, ok7, okra48, okf⟩ oku42 f1_u42 f2_u42 f3_u42
              refine W.widen (k := 3) (n := 159) (Nat.le_of_ble_eq_true rfl) (Nat.le_of_ble_eq_true rfl) ?_
              exact W.zret hx hb hr (mf_nar01 (by omega)) (fun t ht hW => ⟨⟨_, (x46, u42, ca, nn, r47, ra48, f), rfl, ⟨_, rfl, by (try dsimp only); exact ⟨rfl, LQs_mono hL7 (by omega), rfl, by rw [w52, mf_sF_n (by decide)]⟩⟩, by rw [ht]; exact hP, hD⟩, hS.F ht⟩) hS.2.2 dL_act_158
          · skip
            refine lv_aload hx hb dL_act_102 (lv_at hl 4 rfl) ?_
            refine lv_iload hx hb dL_act_104 (lv_at hl 6 rfl) ?_
            refine mf_zald (n := 384) (f := u42 4) hx hb hK hP 5 1 rfl rfl (z := kv) (by omega) (by omega) (by first | decide | omega) dL_act_106 ?_
            have b56 : (0 : Int) ≤ u42 4 kv ∧ u42 4 kv ≤ 1 := oku42 4 (kv)
            refine lv_istore (lv' := [(8, .int (iI (u42 4 kv))), (0, .ref ho), (1, .ref hm), (3, .int (iI (cv))), (4, .int (iI (sv))), (5, .ref (adm 4)), (6, .int (iI (384))), (7, .int (iI (kv)))]) hx hb dL_act_107 hl (by decide) rfl (fun ls hl => ?_)
            refine lv_iload hx hb dL_act_109 (lv_at hl 4 rfl) ?_
            refine lv_iload hx hb dL_act_111 (lv_at hl 0 rfl) ?_
            refine mf_if_eq (tgt := 120) hx hb dL_act_113 (by decide) (i32_mk (by omega) (by omega)) (fun c57 => ?_) (fun c57 => ?_)
            · skip
              refine mf_iconst hx hb dL_act_120 ?_
              refine mf_iadd hx hb dL_act_121 ?_
              refine lv_istore (lv' := [(4, .int (iI (sv + 0))), (8, .int (iI (u42 4 kv))), (0, .ref ho), (1, .ref hm), (3, .int (iI (cv))), (5, .ref (adm 4)), (6, .int (iI (384))), (7, .int (iI (kv)))]) hx hb dL_act_122 hl (by decide) rfl (fun ls hl => ?_)
              refine lv_iinc (v := iI (kv + 1)) (lv' := [(7, .int (iI (kv + 1))), (4, .int (iI (sv + 0))), (8, .int (iI (u42 4 kv))), (0, .ref ho), (1, .ref hm), (3, .int (iI (cv))), (5, .ref (adm 4)), (6, .int (iI (384)))]) hx hb dL_act_124 hl (k := 7) rfl (iI_add _ _).symm (by decide) rfl (fun ls hl => ?_)
              refine lv_goto (tgt := 95) hx hb dL_act_127 (by decide) ?_
              exact ih95 (sv + 0) (kv + 1) (by omega) (by first | assumption | omega) (by first | assumption | omega) (by rw [msum_s _ (by omega)]; first | (rw [bP_t (by assumption)]; omega) | (rw [bP_f (by omega)]; omega)) _ _ hP hD hS ls (lv_sub hl [3, 4, 5, 1, 6, 7, 0] rfl)
            · skip
              refine mf_iconst hx hb dL_act_116 ?_
              refine lv_goto (tgt := 121) hx hb dL_act_117 (by decide) ?_
              refine mf_iadd hx hb dL_act_121 ?_
              refine lv_istore (lv' := [(4, .int (iI (sv + 1))), (8, .int (iI (u42 4 kv))), (0, .ref ho), (1, .ref hm), (3, .int (iI (cv))), (5, .ref (adm 4)), (6, .int (iI (384))), (7, .int (iI (kv)))]) hx hb dL_act_122 hl (by decide) rfl (fun ls hl => ?_)
              refine lv_iinc (v := iI (kv + 1)) (lv' := [(7, .int (iI (kv + 1))), (4, .int (iI (sv + 1))), (8, .int (iI (u42 4 kv))), (0, .ref ho), (1, .ref hm), (3, .int (iI (cv))), (5, .ref (adm 4)), (6, .int (iI (384)))]) hx hb dL_act_124 hl (k := 7) rfl (iI_add _ _).symm (by decide) rfl (fun ls hl => ?_)
              refine lv_goto (tgt := 95) hx hb dL_act_127 (by decide) ?_
              exact ih95 (sv + 1) (kv + 1) (by omega) (by first | assumption | omega) (by first | assumption | omega) (by rw [msum_s _ (by omega)]; first | (rw [bP_t (by assumption)]; omega) | (rw [bP_f (by omega)]; omega)) _ _ hP hD hS ls (lv_sub hl [3, 4, 5, 1, 6, 7, 0] rfl)
      exact lp95 (_ + 1) 0 0 (Nat.lt_succ_self _) (by first | assumption | omega) (by first | assumption | omega) (by rfl) _ _ hP hD hS ls (lv_sub hl [5, 6, 4, 3, 2, 1, 0] rfl)
  · skip
    refine lv_tableIn (off := 138) (tgt := 159) hx hb dL_act_21 (by rw [iI_toInt w9]; omega) (by rw [iI_toInt w9]; omega) (by rw [iI_toInt w9, c10]; rfl) (by decide) ?_
    refine lv_aload_n hx hb dL_act_159 rfl (lv_at hl 2 rfl) ?_
    refine va_get (D := G.1) (ci := 3) (v := .ref (adm 3)) (C := RX3) (T := TX3) (N := 9) hx hb hts hinX3 hown hK hP 2 rfl rfl 3 (by decide) (hts (.fieldLink RL 35 "MeanderFarmLaw$Sim" "hardness" "[I") (List.mem_of_getElem? (i := 2) rfl)) (fun _ h9 => h9) rfl dL_act_160 ?_
    refine lv_iload_n hx hb dL_act_163 rfl (lv_at hl 0 rfl) ?_
    refine mf_iald (n := 384) (f := u 3) hx hb hK hP 4 0 rfl rfl (z := cv) (by omega) (by omega) (by first | decide | omega) dL_act_164 ?_
    refine mf_top (u 3 cv) (r 0 cv) (by rw [(rel3 hrel (z := cv) (by omega) (by omega))]) ?_
    have b58 : (0 : Int) ≤ r 0 cv ∧ r 0 cv ≤ 9 := ok 0 (cv)
    refine lv_istore (lv' := [(5, .int (iI (r 0 cv))), (3, .int (iI (cv))), (0, .ref ho), (1, .ref hm), (2, .int (iI (xv)))]) hx hb dL_act_165 hl (by decide) rfl (fun ls hl => ?_)
    refine lv_aload_n hx hb dL_act_167 rfl (lv_at hl 3 rfl) ?_
    refine va_get (D := G.1) (ci := 3) (v := .ref (adm 3)) (C := RX3) (T := TX3) (N := 9) hx hb hts hinX3 hown hK hP 2 rfl rfl 3 (by decide) (hts (.fieldLink RL 35 "MeanderFarmLaw$Sim" "hardness" "[I") (List.mem_of_getElem? (i := 2) rfl)) (fun _ h9 => h9) rfl dL_act_168 ?_
    refine lv_iload_n hx hb dL_act_171 rfl (lv_at hl 1 rfl) ?_
    refine mf_iconst hx hb dL_act_172 ?_
    refine lv_iload_n hx hb dL_act_173 rfl (lv_at hl 4 rfl) ?_
    refine mf_iconst hx hb dL_act_174 ?_
    refine lv_ishr hx hb dL_act_175 ?_
    refine mf_nmw (fun y59 by59 => ?_)
    refine mf_bipush hx hb dL_act_176 rfl ?_
    refine vp_callSi (va_Run.run (va_runS (As := [.int (iI (y59)), .int (iI (9))]) (rest := [.int (iI (1)), .int (iI (cv)), .ref (adm 3)]) ⟨hx, hb, hml, hown, hts⟩ (c_L_below l (y59) (9) (i32_mk (by omega) (by omega)) (i32_mk (by decide) (by decide)) (by first | assumption | omega)) (va_cwS 2 hts gL_act_L_below rfl rfl rfl (by decide +kernel) ⟨Nat.le_of_ble_eq_true rfl, Nat.le_of_ble_eq_true rfl⟩) pureS rfl rfl hl.1 rfl (lv_room (Nat.le_of_ble_eq_true rfl)) dL_act_178 ⟨(Nat.zero_le _), (Nat.zero_le _)⟩)) (fun q60 hq60 => ?_)
    obtain ⟨z61, rfl, w62⟩ := hq60
    refine mf_iadd hx hb dL_act_181 ?_
    refine mf_iast (n := 384) (f := u 3) hx hb hK hP hD hS 4 0 rfl rfl (z := cv) (x := 1 + z61) (by omega) (by omega) (by first | decide | omega) dL_act_182 (fun H locs hP hD hS => ?_)
    obtain ⟨u63, eu63⟩ : ∃ z9 : mf_V, z9 = mf_sF u 3 (mf_up (u 3) (cv) (1 + z61)) := ⟨_, rfl⟩
    have hP : va_P G.1 vwCl (OW G ho pn pa pf ae x ++ SW G hm adm ca nn u63 ++ RW G pn adn r ++ RW G pa ada ra ++ FW G pf adf f) H := by rw [eu63]; exact hP
    have hD : va_D A (OW G ho pn pa pf ae x ++ SW G hm adm ca nn u63 ++ RW G pn adn r ++ RW G pa ada ra ++ FW G pf adf f) := by rw [eu63]; exact hD
    have oku63 : rOK slo shi u63 := by rw [eu63]; exact rOK_up oku 3 _ _ (show (0 : Int) ≤ 1 + z61 by omega) (show 1 + z61 ≤ (9 : Int) by omega)
    have f1_u63 : u63 3 (cv) = 1 + z61 := by rw [eu63, mf_sF_s, mf_up_s]
    have f2_u63 : ∀ y, y ≠ (cv) → u63 3 y = u 3 y := fun y hy => by rw [eu63, mf_sF_s, mf_up_n hy]
    have f3_u63 : ∀ q, q ≠ 3 → u63 q = u q := fun q hq => by rw [eu63, mf_sF_n hq]
    refine lv_aload_n hx hb dL_act_183 rfl (lv_at hl 2 rfl) ?_
    refine lv_iload_n hx hb dL_act_184 rfl (lv_at hl 1 rfl) ?_
    refine mf_bipush hx hb dL_act_185 rfl ?_
    refine mf_irem hx hb dL_act_187 (i32_mk (by omega) (by omega)) (by omega) (i32_mk (by decide) (by decide)) (by omega) ?_
    refine lv_iload_n hx hb dL_act_188 rfl (lv_at hl 1 rfl) ?_
    refine mf_bipush hx hb dL_act_189 rfl ?_
    refine mf_idiv hx hb dL_act_191 (i32_mk (by omega) (by omega)) (by omega) (i32_mk (by decide) (by decide)) (by omega) ?_
    refine lv_aload_n hx hb dL_act_192 rfl (lv_at hl 3 rfl) ?_
    refine va_get (D := G.1) (ci := 3) (v := .ref (adm 3)) (C := RX3) (T := TX3) (N := 9) hx hb hts hinX3 hown hK hP 2 rfl rfl 3 (by decide) (hts (.fieldLink RL 35 "MeanderFarmLaw$Sim" "hardness" "[I") (List.mem_of_getElem? (i := 2) rfl)) (fun _ h9 => h9) rfl dL_act_193 ?_
    refine lv_iload_n hx hb dL_act_196 rfl (lv_at hl 1 rfl) ?_
    refine mf_iald (n := 384) (f := u63 3) hx hb hK hP 4 0 rfl rfl (z := cv) (by omega) (by omega) (by first | decide | omega) dL_act_197 ?_
    refine mf_top (u63 3 cv) (1 + z61) (by rw [f1_u63]) ?_
    have hk0 : kHard (cv % 24) (cv / 24) (1 + z61) = 0 := by exact (mf_if_f (fun q => q ⟨⟨by omega, by omega⟩, by omega, by omega⟩)).trans (mf_if_f (fun q => q ⟨by omega, by omega⟩))
    have hFc := va_free (wc := OW G ho pn pa pf ae x ++ RW G pn adn r ++ RW G pa ada ra ++ FW G pf adf f) hD hS hA [0, 1, 10, 11, 12, 13, 14, 15, 16, 17, 18, 19, 20, 21, 22, 23, 24, 25, 26, 27, 28, 29, 30, 31, 32, 33, 34, 35, 36, 37, 38] sb_4e5d88c86a
    refine vx_calli (vx_runV (As := [.int (iI (cv % 24)), .int (iI (cv / 24)), .int (iI (1 + z61))]) (rest := []) ⟨hx, hb, hml, hown, hts⟩ (c_X2_setHardness l hl9 G ho pn pa pf ae x adn r ada ra adf f (cv % 24) (cv / 24) (1 + z61) (i32_mk (by omega) (by omega)) (i32_mk (by omega) (by omega)) (i32_mk (by omega) (by omega)) (by assumption) (by assumption) (by assumption) (by assumption) _) (cwV 3 hts gL_act_X2_setHardness rfl rfl rfl (by decide +kernel) ⟨Nat.le_of_ble_eq_true rfl, Nat.le_of_ble_eq_true rfl⟩) (wrVx (wc := OW G ho pn pa pf ae x ++ RW G pn adn r ++ RW G pa ada ra ++ FW G pf adf f) hSX hCX hZ hS hFc hK hP hD hN [0, 1, 10, 11, 12, 13, 14, 15, 16, 17, 18, 19, 20, 21, 22, 23, 24, 25, 26, 27, 28, 29, 30, 31, 32, 33, 34, 35, 36, 37, 38] (by decide +kernel) sb_722bbe55ec sb_4e5d88c86a (ci := 2) rfl rfl) rfl rfl hl.1 rfl (lv_room (Nat.le_of_ble_eq_true rfl)) dL_act_198 ⟨Nat.le_of_ble_eq_true rfl, Nat.le_of_ble_eq_true rfl⟩) hS (fun q _ h => hFc q h) hFc (fun q _ h => hFc q h) (fun E ce q9 _ t H1 locs ht hvm _ hB hz1 hk1 hS hce hcv hcl => ?_) (fun q64 u65 t H1 locs ht hvm hw hB hz1 hk1 hS => ?_)
    · exfalso
      have hx9 := hB.1
      rcases hx9 with ⟨-, hk9⟩ | ⟨-, hk9⟩ <;> omega
    obtain ⟨x66, r67, ra68, f69⟩ := u65
    try dsimp only at hw hB
    obtain ⟨hP, hD⟩ := wrJ2 (ws := OW G ho pn pa pf ae x ++ SW G hm adm ca nn u63 ++ RW G pn adn r ++ RW G pa ada ra ++ FW G pf adf f) (wc := OW G ho pn pa pf ae x ++ RW G pn adn r ++ RW G pa ada ra ++ FW G pf adf f) (wr := SW G hm adm ca nn u63) (w1 := OW G ho pn pa pf ae x66 ++ RW G pn adn r67 ++ RW G pa ada ra68 ++ FW G pf adf f69) hP hD [0, 1, 10, 11, 12, 13, 14, 15, 16, 17, 18, 19, 20, 21, 22, 23, 24, 25, 26, 27, 28, 29, 30, 31, 32, 33, 34, 35, 36, 37, 38] [2, 3, 4, 5, 6, 7, 8, 9] sb_4e5d88c86a sb_6583667dcc (by decide +kernel) (by decide +kernel) hk1 ht hFc hB
    have hP : va_P G.1 vwCl (OW G ho pn pa pf ae x66 ++ SW G hm adm ca nn u63 ++ RW G pn adn r67 ++ RW G pa ada ra68 ++ FW G pf adf f69) H1 := hP.sub [8, 9, 0, 1, 2, 3, 4, 5, 6, 7, 10, 11, 12, 13, 14, 15, 16, 17, 18, 19, 20, 21, 22, 23, 24, 25, 26, 27, 28, 29, 30, 31, 32, 33, 34, 35, 36, 37, 38] sb_ea07c26545
    have hD : va_D A (OW G ho pn pa pf ae x66 ++ SW G hm adm ca nn u63 ++ RW G pn adn r67 ++ RW G pa ada ra68 ++ FW G pf adf f69) := hD.sub [8, 9, 0, 1, 2, 3, 4, 5, 6, 7, 10, 11, 12, 13, 14, 15, 16, 17, 18, 19, 20, 21, 22, 23, 24, 25, 26, 27, 28, 29, 30, 31, 32, 33, 34, 35, 36, 37, 38] (by decide +kernel) sb_5e94329b71
    clear hB hk1 hFc ht hz1 hvm hk0
    generalize H1 = H at hP hS ⊢
    obtain ⟨z70, rfl, -, ⟨okx66, okr67, okra68, okf69⟩, w72, w73, w74⟩ := hw
    have w73 := w73.symm
    subst w73
    subst w74
    have bh : (0 : Int) ≤ r 0 (cv % 24 + 24 * (cv / 24)) ∧ r 0 (cv % 24 + 24 * (cv / 24)) ≤ 9 := ok 0 _
    refine lv_iload hx hb dL_act_201 (lv_at hl 0 rfl) ?_
    refine mf_icmp_ne (tgt := 210) hx hb dL_act_203 (by decide) (i32_mk (by omega) (by omega)) (i32_mk (by omega) (by omega)) (fun c75 => ?_) (fun c75 => ?_)
    · skip
      exact absurd (by rw [show cv % 24 + 24 * (cv / 24) = cv by omega]) c75
    · skip
      refine mf_iconst hx hb dL_act_206 ?_
      refine lv_goto (tgt := 211) hx hb dL_act_207 (by decide) ?_
      have ec : cv % 24 + 24 * (cv / 24) = cv := by omega
      have ok7 : rOK rlo rhi (mf_sF r 0 (mf_up (r 0) cv (1 + z61))) := by
        have g := okr67
        rw [w72, ec] at g
        exact g
      have hL7 : LQs Yv x66 r67 ra68 f nn u63 := by
        rw [w72, ec]
        exact LQs_0 hLQ ⟨okx66, ok7, okra68, okf⟩ oku63 f1_u63 f2_u63 f3_u63
      refine W.widen (k := 3) (n := 159) (Nat.le_of_ble_eq_true rfl) (Nat.le_of_ble_eq_true rfl) ?_
      exact W.zret hx hb hr (mf_nar01 (by omega)) (fun t ht hW => ⟨⟨_, (x66, u63, ca, nn, r67, ra68, f), rfl, ⟨_, rfl, by (try dsimp only); exact ⟨rfl, LQs_mono hL7 (by omega), rfl, by rw [w72, mf_sF_n (by decide)]⟩⟩, by rw [ht]; exact hP, hD⟩, hS.F ht⟩) hS.2.2 dL_act_211
  · skip
    refine lv_tableIn (off := 191) (tgt := 212) hx hb dL_act_21 (by rw [iI_toInt w9]; omega) (by rw [iI_toInt w9]; omega) (by rw [iI_toInt w9, c10]; rfl) (by decide) ?_
    refine lv_aload_n hx hb dL_act_212 rfl (lv_at hl 2 rfl) ?_
    have hFc := va_free (wc := SW G hm adm ca nn u) hD hS hA [2, 3, 4, 5, 6, 7, 8, 9] sb_6583667dcc
    refine va_callr (va_runV (As := []) (rest := []) ⟨hx, hb, hml, hown, hts⟩ (c_X3_neck l G hm adm ca nn u (r) (by exact oku) (by exact ok) (by exact hI) (by exact hrel) _) (cwV 0 hts gL_act_X3_neck rfl rfl rfl (by decide +kernel) ⟨Nat.le_of_ble_eq_true rfl, Nat.le_of_ble_eq_true rfl⟩) (wrV (wc := SW G hm adm ca nn u) hK hP hD hN [2, 3, 4, 5, 6, 7, 8, 9] (by decide +kernel) sb_901b56ad3e sb_6583667dcc (ci := 3) rfl rfl) rfl rfl hl.1 rfl (lv_room (Nat.le_of_ble_eq_true rfl)) dL_act_213 ⟨(Nat.le_of_ble_eq_true rfl), (Nat.le_of_ble_eq_true rfl)⟩) hS (fun q _ h => hFc q h) hFc (fun u77 q76 t H1 locs ht hvm hw hB hz1 hk1 hS => ?_)
    obtain ⟨hP, hD⟩ := wrJ2 (ws := OW G ho pn pa pf ae x ++ SW G hm adm ca nn u ++ RW G pn adn r ++ RW G pa ada ra ++ FW G pf adf f) (wc := SW G hm adm ca nn u) (wr := OW G ho pn pa pf ae x ++ RW G pn adn r ++ RW G pa ada ra ++ FW G pf adf f) (w1 := SW G hm adm ca nn u ++ AW G q76 3 u77) hP hD [2, 3, 4, 5, 6, 7, 8, 9] [0, 1, 10, 11, 12, 13, 14, 15, 16, 17, 18, 19, 20, 21, 22, 23, 24, 25, 26, 27, 28, 29, 30, 31, 32, 33, 34, 35, 36, 37, 38] rfl rfl (by decide +kernel) (by decide +kernel) hk1 ht hFc hB
    have hP : va_P G.1 vwCl (OW G ho pn pa pf ae x ++ SW G hm adm ca nn u ++ RW G pn adn r ++ RW G pa ada ra ++ FW G pf adf f ++ AW G q76 3 u77) H1 := hP.sub [0, 1, 31, 32, 33, 34, 35, 36, 37, 38, 2, 3, 4, 5, 6, 7, 8, 9, 10, 11, 12, 13, 14, 15, 16, 17, 18, 19, 20, 21, 22, 23, 24, 25, 26, 27, 28, 29, 30, 39] rfl
    have hD : va_D A (OW G ho pn pa pf ae x ++ SW G hm adm ca nn u ++ RW G pn adn r ++ RW G pa ada ra ++ FW G pf adf f ++ AW G q76 3 u77) := hD.sub [0, 1, 31, 32, 33, 34, 35, 36, 37, 38, 2, 3, 4, 5, 6, 7, 8, 9, 10, 11, 12, 13, 14, 15, 16, 17, 18, 19, 20, 21, 22, 23, 24, 25, 26, 27, 28, 29, 30, 39] (by decide +kernel) rfl
    have hP : va_P G.1 vwCl (OW G ho pn pa pf ae x ++ SW G hm adm ca nn u ++ RW G pn adn r ++ RW G pa ada ra ++ FW G pf adf f ++ AW G q76 3 u77) H1 := hP
    have hD : va_D A (OW G ho pn pa pf ae x ++ SW G hm adm ca nn u ++ RW G pn adn r ++ RW G pa ada ra ++ FW G pf adf f ++ AW G q76 3 u77) := hD
    clear hB hk1 hFc ht hz1 hvm
    generalize H1 = H at hP hS ⊢
    have w78 := hw; clear hw
    have hw0 := w78
    have hwb := widF_b ok
    have hfb := farF_b ok (widF r)
    refine lv_astore (lv' := [(6, .ref q76), (3, .int (iI (cv))), (0, .ref ho), (1, .ref hm), (2, .int (iI (xv)))]) hx hb dL_act_216 hl (by decide) rfl (fun ls hl => ?_)
    refine lv_aload hx hb dL_act_218 (lv_at hl 0 rfl) ?_
    refine mf_iconst hx hb dL_act_220 ?_
    refine mf_iald (n := 3) (f := u77 0) hx hb hK hP 39 0 rfl rfl (z := 0) (by omega) (by omega) (by first | decide | omega) dL_act_221 ?_
    refine mf_if_lt (tgt := 233) hx hb dL_act_222 (by decide) (i32_mk (by omega) (by omega)) (fun c79 => ?_) (fun c79 => ?_)
    · skip
      refine mf_iconst hx hb dL_act_233 ?_
      refine W.widen (k := 3) (n := 159) (Nat.le_of_ble_eq_true rfl) (Nat.le_of_ble_eq_true rfl) ?_
      have hP := hP.sub (ws' := OW G ho pn pa pf ae x ++ SW G hm adm ca nn u ++ RW G pn adn r ++ RW G pa ada ra ++ FW G pf adf f) [0, 1, 2, 3, 4, 5, 6, 7, 8, 9, 10, 11, 12, 13, 14, 15, 16, 17, 18, 19, 20, 21, 22, 23, 24, 25, 26, 27, 28, 29, 30, 31, 32, 33, 34, 35, 36, 37, 38] rfl
      have hD := hD.sub (ws' := OW G ho pn pa pf ae x ++ SW G hm adm ca nn u ++ RW G pn adn r ++ RW G pa ada ra ++ FW G pf adf f) [0, 1, 2, 3, 4, 5, 6, 7, 8, 9, 10, 11, 12, 13, 14, 15, 16, 17, 18, 19, 20, 21, 22, 23, 24, 25, 26, 27, 28, 29, 30, 31, 32, 33, 34, 35, 36, 37, 38] (by decide) rfl
      exact W.zret hx hb hr (mf_nar01 (by omega)) (fun t ht hW => ⟨⟨_, (x, u, ca, nn, r, ra, f), rfl, ⟨_, rfl, by (try dsimp only); exact ⟨rfl, LQs_mono hLQ (by omega), rfl, rfl⟩⟩, by rw [ht]; exact hP, hD⟩, hS.F ht⟩) hS.2.2 dL_act_234
    · skip
      refine lv_iload_n hx hb dL_act_225 rfl (lv_at hl 4 rfl) ?_
      refine mf_iconst hx hb dL_act_226 ?_
      refine vp_callSi (va_Run.run (va_runS (As := [.int (iI (xv)), .int (iI (3))]) (rest := []) ⟨hx, hb, hml, hown, hts⟩ (c_L_below l (xv) (3) (i32_mk (by omega) (by omega)) (i32_mk (by decide) (by decide)) (by first | assumption | omega)) (va_cwS 2 hts gL_act_L_below rfl rfl rfl (by decide +kernel) ⟨Nat.le_of_ble_eq_true rfl, Nat.le_of_ble_eq_true rfl⟩) pureS rfl rfl hl.1 rfl (lv_room (Nat.le_of_ble_eq_true rfl)) dL_act_227 ⟨(Nat.le_of_ble_eq_true rfl), (Nat.le_of_ble_eq_true rfl)⟩)) (fun q80 hq80 => ?_)
      obtain ⟨z81, rfl, w82⟩ := hq80
      refine mf_if_le (tgt := 235) hx hb dL_act_230 (by decide) (i32_mk (by omega) (by omega)) (fun c83 => ?_) (fun c83 => ?_)
      · skip
        have hn1 : ¬ widF r = -1 := by omega
        have e1 : u77 0 1 = farF r (widF r) := by rcases hw0.2 with z | z; (omega); (exact z)
        have hwn := widF_neck hI hn1
        have hnk : neckP r (u77 0 0) (u77 0 1) := by rw [e1, hw0.1]; exact hwn.2
        have hnw := neckP_w hnk
        refine lv_aload_n hx hb dL_act_235 rfl (lv_at hl 3 rfl) ?_
        refine lv_aload hx hb dL_act_236 (lv_at hl 0 rfl) ?_
        refine mf_iconst hx hb dL_act_238 ?_
        refine mf_iald (n := 3) (f := u77 0) hx hb hK hP 39 0 rfl rfl (z := 0) (by omega) (by omega) (by first | decide | omega) dL_act_239 ?_
        refine lv_aload hx hb dL_act_240 (lv_at hl 0 rfl) ?_
        refine mf_iconst hx hb dL_act_242 ?_
        refine mf_iald (n := 3) (f := u77 0) hx hb hK hP 39 0 rfl rfl (z := 1) (by omega) (by omega) (by first | decide | omega) dL_act_243 ?_
        have hFc := va_free (wc := SW G hm adm ca nn u) hD hS hA [2, 3, 4, 5, 6, 7, 8, 9] sb_680b93beeb
        refine va_callv (va_runV (As := [.int (iI (u77 0 0)), .int (iI (u77 0 1))]) (rest := []) ⟨hx, hb, hml, hown, hts⟩ (c_X3_through l G hm adm ca nn u (u77 0 0) (u77 0 1) (r) (i32_mk (by omega) (by omega)) (i32_mk (by omega) (by omega)) (by exact oku) (by exact ok) (by exact hI) (by exact hrel) (by exact hnk) (by omega) _) (cwV 2 hts gL_act_X3_through rfl rfl rfl (by decide +kernel) ⟨Nat.le_of_ble_eq_true rfl, Nat.le_of_ble_eq_true rfl⟩) (wrV (wc := SW G hm adm ca nn u) hK hP hD hN [2, 3, 4, 5, 6, 7, 8, 9] (by decide +kernel) sb_d0a498885c sb_680b93beeb (ci := 3) rfl rfl) rfl rfl hl.1 rfl (lv_room (Nat.le_of_ble_eq_true rfl)) dL_act_244 ⟨(Nat.le_of_ble_eq_true rfl), (Nat.le_of_ble_eq_true rfl)⟩) hS (fun q _ h => hFc q h) hFc (fun u85 t H1 locs ht hvm hw hB hz1 hk1 hS => ?_)
        obtain ⟨u86, cx87, nx88⟩ := u85
        try dsimp only at hw hB
        obtain ⟨hP, hD⟩ := wrJ2 (ws := OW G ho pn pa pf ae x ++ SW G hm adm ca nn u ++ RW G pn adn r ++ RW G pa ada ra ++ FW G pf adf f ++ AW G q76 3 u77) (wc := SW G hm adm ca nn u) (wr := OW G ho pn pa pf ae x ++ RW G pn adn r ++ RW G pa ada ra ++ FW G pf adf f ++ AW G q76 3 u77) (w1 := SW G hm adm cx87 nx88 u86) hP hD [2, 3, 4, 5, 6, 7, 8, 9] [0, 1, 10, 11, 12, 13, 14, 15, 16, 17, 18, 19, 20, 21, 22, 23, 24, 25, 26, 27, 28, 29, 30, 31, 32, 33, 34, 35, 36, 37, 38, 39] sb_680b93beeb sb_2d30b987c3 (by decide +kernel) (by decide +kernel) hk1 ht hFc hB
        have hP : va_P G.1 vwCl (OW G ho pn pa pf ae x ++ SW G hm adm cx87 nx88 u86 ++ RW G pn adn r ++ RW G pa ada ra ++ FW G pf adf f ++ AW G q76 3 u77) H1 := hP.sub [0, 1, 32, 33, 34, 35, 36, 37, 38, 39, 2, 3, 4, 5, 6, 7, 8, 9, 10, 11, 12, 13, 14, 15, 16, 17, 18, 19, 20, 21, 22, 23, 24, 25, 26, 27, 28, 29, 30, 31] sb_642d2b3857
        have hD : va_D A (OW G ho pn pa pf ae x ++ SW G hm adm cx87 nx88 u86 ++ RW G pn adn r ++ RW G pa ada ra ++ FW G pf adf f ++ AW G q76 3 u77) := hD.sub [0, 1, 32, 33, 34, 35, 36, 37, 38, 39, 2, 3, 4, 5, 6, 7, 8, 9, 10, 11, 12, 13, 14, 15, 16, 17, 18, 19, 20, 21, 22, 23, 24, 25, 26, 27, 28, 29, 30, 31] (by decide +kernel) sb_f40fbe1d83
        have hP : va_P G.1 vwCl (OW G ho pn pa pf ae x ++ SW G hm adm cx87 nx88 u86 ++ RW G pn adn r ++ RW G pa ada ra ++ FW G pf adf f ++ AW G q76 3 u77) H1 := hP
        have hD : va_D A (OW G ho pn pa pf ae x ++ SW G hm adm cx87 nx88 u86 ++ RW G pn adn r ++ RW G pa ada ra ++ FW G pf adf f ++ AW G q76 3 u77) := hD
        clear hB hk1 hFc ht hz1 hvm
        generalize H1 = H at hP hS ⊢
        have w89 := hw; clear hw
        have oku86 : rOK slo shi u86 := w89.1
        have hwt := w89
        refine lv_aload_n hx hb dL_act_247 rfl (lv_at hl 2 rfl) ?_
        refine lv_aload hx hb dL_act_248 (lv_at hl 0 rfl) ?_
        refine mf_iconst hx hb dL_act_250 ?_
        refine mf_iald (n := 3) (f := u77 0) hx hb hK hP 39 0 rfl rfl (z := 0) (by omega) (by omega) (by first | decide | omega) dL_act_251 ?_
        refine lv_aload hx hb dL_act_252 (lv_at hl 0 rfl) ?_
        refine mf_iconst hx hb dL_act_254 ?_
        refine mf_iald (n := 3) (f := u77 0) hx hb hK hP 39 0 rfl rfl (z := 1) (by omega) (by omega) (by first | decide | omega) dL_act_255 ?_
        have hk0 : kDig r (u77 0 0) (u77 0 1) = 0 := by exact (mf_if_f (fun q => q ⟨inC_mk (by omega) (by omega), inC_mk (by omega) (by omega)⟩)).trans (mf_if_f (fun q => q hnk))
        have hFc := va_free (wc := OW G ho pn pa pf ae x ++ RW G pn adn r ++ RW G pa ada ra ++ FW G pf adf f) hD hS hA [0, 1, 10, 11, 12, 13, 14, 15, 16, 17, 18, 19, 20, 21, 22, 23, 24, 25, 26, 27, 28, 29, 30, 31, 32, 33, 34, 35, 36, 37, 38] sb_1fe1c6fe9d
        refine vx_calli (vx_runV (As := [.int (iI (u77 0 0)), .int (iI (u77 0 1))]) (rest := []) ⟨hx, hb, hml, hown, hts⟩ (c_X2_dig l hl9 G ho pn pa pf ae x adn r ada ra adf f (u77 0 0) (u77 0 1) (i32_mk (by omega) (by omega)) (i32_mk (by omega) (by omega)) (by assumption) (by assumption) (by assumption) (by assumption) (by exact hI) (by omega) _) (cwV 2 hts gL_act_X2_dig rfl rfl rfl (by decide +kernel) ⟨Nat.le_of_ble_eq_true rfl, Nat.le_of_ble_eq_true rfl⟩) (wrVx (wc := OW G ho pn pa pf ae x ++ RW G pn adn r ++ RW G pa ada ra ++ FW G pf adf f) hSX hCX hZ hS hFc hK hP hD hN [0, 1, 10, 11, 12, 13, 14, 15, 16, 17, 18, 19, 20, 21, 22, 23, 24, 25, 26, 27, 28, 29, 30, 31, 32, 33, 34, 35, 36, 37, 38] (by decide +kernel) sb_ac7769df1a sb_1fe1c6fe9d (ci := 2) rfl rfl) rfl rfl hl.1 rfl (lv_room (Nat.le_of_ble_eq_true rfl)) dL_act_256 ⟨Nat.le_of_ble_eq_true rfl, Nat.le_of_ble_eq_true rfl⟩) hS (fun q _ h => hFc q h) hFc (fun q _ h => hFc q h) (fun E ce q9 _ t H1 locs ht hvm _ hB hz1 hk1 hS hce hcv hcl => ?_) (fun q90 u91 t H1 locs ht hvm hw hB hz1 hk1 hS => ?_)
        · exfalso
          have hx9 := hB.1
          rcases hx9 with ⟨-, hk9⟩ | ⟨-, hk9⟩ <;> omega
        obtain ⟨x92, r93, ra94, f95⟩ := u91
        try dsimp only at hw hB
        obtain ⟨hP, hD⟩ := wrJ2 (ws := OW G ho pn pa pf ae x ++ SW G hm adm cx87 nx88 u86 ++ RW G pn adn r ++ RW G pa ada ra ++ FW G pf adf f ++ AW G q76 3 u77) (wc := OW G ho pn pa pf ae x ++ RW G pn adn r ++ RW G pa ada ra ++ FW G pf adf f) (wr := SW G hm adm cx87 nx88 u86 ++ AW G q76 3 u77) (w1 := OW G ho pn pa pf ae x92 ++ RW G pn adn r93 ++ RW G pa ada ra94 ++ FW G pf adf f95) hP hD [0, 1, 10, 11, 12, 13, 14, 15, 16, 17, 18, 19, 20, 21, 22, 23, 24, 25, 26, 27, 28, 29, 30, 31, 32, 33, 34, 35, 36, 37, 38] [2, 3, 4, 5, 6, 7, 8, 9, 39] sb_1fe1c6fe9d sb_bd77770d8e (by decide +kernel) (by decide +kernel) hk1 ht hFc hB
        have hP : va_P G.1 vwCl (OW G ho pn pa pf ae x92 ++ SW G hm adm cx87 nx88 u86 ++ RW G pn adn r93 ++ RW G pa ada ra94 ++ FW G pf adf f95 ++ AW G q76 3 u77) H1 := hP.sub [9, 10, 0, 1, 2, 3, 4, 5, 6, 7, 11, 12, 13, 14, 15, 16, 17, 18, 19, 20, 21, 22, 23, 24, 25, 26, 27, 28, 29, 30, 31, 32, 33, 34, 35, 36, 37, 38, 39, 8] sb_ad9c3123af
        have hD : va_D A (OW G ho pn pa pf ae x92 ++ SW G hm adm cx87 nx88 u86 ++ RW G pn adn r93 ++ RW G pa ada ra94 ++ FW G pf adf f95 ++ AW G q76 3 u77) := hD.sub [9, 10, 0, 1, 2, 3, 4, 5, 6, 7, 11, 12, 13, 14, 15, 16, 17, 18, 19, 20, 21, 22, 23, 24, 25, 26, 27, 28, 29, 30, 31, 32, 33, 34, 35, 36, 37, 38, 39, 8] (by decide +kernel) sb_abe43c4658
        clear hB hk1 hFc ht hz1 hvm hk0
        generalize H1 = H at hP hS ⊢
        obtain ⟨z96, rfl, -, ⟨okx92, okr93, okra94, okf95⟩, w98, w99, w100, w101⟩ := hw
        have w100 := w100.symm
        subst w100
        subst w101
        have b17 : (0 : Int) ≤ r93 7 0 ∧ r93 7 0 ≤ 150 := okr93 7 0
        have hb1 := w99.1
        refine lv_aload_n hx hb dL_act_259 rfl (lv_at hl 3 rfl) ?_
        refine va_get (D := G.1) (ci := 3) (v := .ref cx87) (C := RX3) (T := TX3) (N := 9) hx hb hts hinX3 hown hK hP 2 rfl rfl 2 (by decide) (hts (.fieldLink RL 42 "MeanderFarmLaw$Sim" "course" "[I") (List.mem_of_getElem? (i := 3) rfl)) (fun _ h9 => h9) rfl dL_act_260 ?_
        refine va_alen hx hb hK hP 3 0 rfl rfl (v := iI ((nx88 : Nat) : Int)) (nI_iI _) dL_act_263 ?_
        refine mf_top (((nx88 : Nat) : Int)) (r 7 0 - (u77 0 1 - u77 0 0 - 1)) (w89.2.1) ?_
        refine mf_icmp_ne (tgt := 271) hx hb dL_act_264 (by decide) (i32_mk (by omega) (by omega)) (i32_mk (by omega) (by omega)) (fun c102 => ?_) (fun c102 => ?_)
        · skip
          exfalso; omega
        · skip
          refine mf_iconst hx hb dL_act_267 ?_
          refine lv_goto (tgt := 272) hx hb dL_act_268 (by decide) ?_
          have hP := hP.sub (ws' := OW G ho pn pa pf ae x92 ++ SW G hm adm cx87 nx88 u86 ++ RW G pn adn r93 ++ RW G pa ada ra94 ++ FW G pf adf f) [0, 1, 2, 3, 4, 5, 6, 7, 8, 9, 10, 11, 12, 13, 14, 15, 16, 17, 18, 19, 20, 21, 22, 23, 24, 25, 26, 27, 28, 29, 30, 31, 32, 33, 34, 35, 36, 37, 38] rfl
          have hD := hD.sub (ws' := OW G ho pn pa pf ae x92 ++ SW G hm adm cx87 nx88 u86 ++ RW G pn adn r93 ++ RW G pa ada ra94 ++ FW G pf adf f) [0, 1, 2, 3, 4, 5, 6, 7, 8, 9, 10, 11, 12, 13, 14, 15, 16, 17, 18, 19, 20, 21, 22, 23, 24, 25, 26, 27, 28, 29, 30, 31, 32, 33, 34, 35, 36, 37, 38] (by decide) rfl
          exact W.zret hx hb hr (mf_nar01 (by omega)) (fun t ht hW => ⟨⟨_, (x92, u86, cx87, nx88, r93, ra94, f), rfl, ⟨_, rfl, by (try dsimp only); exact ⟨rfl, ⟨⟨okx92, okr93, okra94, okf⟩, PInv_brk hPI hnk w99 w98, Brk_bd w99 hB, hwt.1, hwt.2.2 _ w98 w99⟩, rfl, by rw [w99.2.2.2.2.2.2.2.2.2]⟩⟩, by rw [ht]; exact hP, hD⟩, hS.F ht⟩) hS.2.2 dL_act_272
      · skip
        refine mf_iconst hx hb dL_act_233 ?_
        refine W.widen (k := 3) (n := 159) (Nat.le_of_ble_eq_true rfl) (Nat.le_of_ble_eq_true rfl) ?_
        have hP := hP.sub (ws' := OW G ho pn pa pf ae x ++ SW G hm adm ca nn u ++ RW G pn adn r ++ RW G pa ada ra ++ FW G pf adf f) [0, 1, 2, 3, 4, 5, 6, 7, 8, 9, 10, 11, 12, 13, 14, 15, 16, 17, 18, 19, 20, 21, 22, 23, 24, 25, 26, 27, 28, 29, 30, 31, 32, 33, 34, 35, 36, 37, 38] rfl
        have hD := hD.sub (ws' := OW G ho pn pa pf ae x ++ SW G hm adm ca nn u ++ RW G pn adn r ++ RW G pa ada ra ++ FW G pf adf f) [0, 1, 2, 3, 4, 5, 6, 7, 8, 9, 10, 11, 12, 13, 14, 15, 16, 17, 18, 19, 20, 21, 22, 23, 24, 25, 26, 27, 28, 29, 30, 31, 32, 33, 34, 35, 36, 37, 38] (by decide) rfl
        exact W.zret hx hb hr (mf_nar01 (by omega)) (fun t ht hW => ⟨⟨_, (x, u, ca, nn, r, ra, f), rfl, ⟨_, rfl, by (try dsimp only); exact ⟨rfl, LQs_mono hLQ (by omega), rfl, rfl⟩⟩, by rw [ht]; exact hP, hD⟩, hS.F ht⟩) hS.2.2 dL_act_234
  · skip
    refine lv_tableOut (tgt := 273) hx hb dL_act_21 (by rw [iI_toInt w9]; omega) (by decide) ?_
    refine lv_iload_n hx hb dL_act_273 rfl (lv_at hl 3 rfl) ?_
    refine mf_bipush hx hb dL_act_274 rfl ?_
    refine vp_callSi (va_Run.run (va_runS (As := [.int (iI (xv)), .int (iI (12))]) (rest := []) ⟨hx, hb, hml, hown, hts⟩ (c_L_below l (xv) (12) (i32_mk (by omega) (by omega)) (i32_mk (by decide) (by decide)) (by first | assumption | omega)) (va_cwS 2 hts gL_act_L_below rfl rfl rfl (by decide +kernel) ⟨Nat.le_of_ble_eq_true rfl, Nat.le_of_ble_eq_true rfl⟩) pureS rfl rfl hl.1 rfl (lv_room (Nat.le_of_ble_eq_true rfl)) dL_act_276 ⟨(Nat.zero_le _), (Nat.zero_le _)⟩)) (fun q103 hq103 => ?_)
    obtain ⟨z104, rfl, w105⟩ := hq103
    refine lv_istore (lv' := [(7, .int (iI (z104))), (3, .int (iI (cv))), (0, .ref ho), (1, .ref hm), (2, .int (iI (xv)))]) hx hb dL_act_279 hl (by decide) rfl (fun ls hl => ?_)
    refine lv_aload_n hx hb dL_act_281 rfl (lv_at hl 3 rfl) ?_
    refine va_get (D := G.1) (ci := 3) (v := .ref (adm 7)) (C := RX3) (T := TX3) (N := 9) hx hb hts hinX3 hown hK hP 2 rfl rfl 7 (by decide) (hts (.fieldLink RL 27 "MeanderFarmLaw$Sim" "flow" "[I") (List.mem_of_getElem? (i := 4) rfl)) (fun _ h9 => h9) rfl dL_act_282 ?_
    refine lv_iload hx hb dL_act_285 (lv_at hl 0 rfl) ?_
    refine mf_iald (n := 12) (f := u 7) hx hb hK hP 8 0 rfl rfl (z := z104) (by omega) (by omega) (by first | decide | omega) dL_act_287 ?_
    refine mf_top (u 7 z104) (r 5 z104) (by rw [(rel7 hrel (z := z104) (by omega) (by omega))]) ?_
    have b106 : (0 : Int) ≤ r 5 z104 ∧ r 5 z104 ≤ 9 := ok 5 (z104)
    refine lv_istore (lv' := [(8, .int (iI (r 5 z104))), (7, .int (iI (z104))), (3, .int (iI (cv))), (0, .ref ho), (1, .ref hm), (2, .int (iI (xv)))]) hx hb dL_act_288 hl (by decide) rfl (fun ls hl => ?_)
    refine lv_aload_n hx hb dL_act_290 rfl (lv_at hl 4 rfl) ?_
    refine va_get (D := G.1) (ci := 3) (v := .ref (adm 7)) (C := RX3) (T := TX3) (N := 9) hx hb hts hinX3 hown hK hP 2 rfl rfl 7 (by decide) (hts (.fieldLink RL 27 "MeanderFarmLaw$Sim" "flow" "[I") (List.mem_of_getElem? (i := 4) rfl)) (fun _ h9 => h9) rfl dL_act_291 ?_
    refine lv_iload hx hb dL_act_294 (lv_at hl 1 rfl) ?_
    refine mf_iconst hx hb dL_act_296 ?_
    refine lv_iload_n hx hb dL_act_297 rfl (lv_at hl 5 rfl) ?_
    refine mf_iconst hx hb dL_act_298 ?_
    refine lv_ishr hx hb dL_act_299 ?_
    refine mf_nmw (fun y107 by107 => ?_)
    refine mf_bipush hx hb dL_act_300 rfl ?_
    refine vp_callSi (va_Run.run (va_runS (As := [.int (iI (y107)), .int (iI (9))]) (rest := [.int (iI (1)), .int (iI (z104)), .ref (adm 7)]) ⟨hx, hb, hml, hown, hts⟩ (c_L_below l (y107) (9) (i32_mk (by omega) (by omega)) (i32_mk (by decide) (by decide)) (by first | assumption | omega)) (va_cwS 2 hts gL_act_L_below rfl rfl rfl (by decide +kernel) ⟨Nat.le_of_ble_eq_true rfl, Nat.le_of_ble_eq_true rfl⟩) pureS rfl rfl hl.1 rfl (lv_room (Nat.le_of_ble_eq_true rfl)) dL_act_302 ⟨(Nat.zero_le _), (Nat.zero_le _)⟩)) (fun q108 hq108 => ?_)
    obtain ⟨z109, rfl, w110⟩ := hq108
    refine mf_iadd hx hb dL_act_305 ?_
    refine mf_iast (n := 12) (f := u 7) hx hb hK hP hD hS 8 0 rfl rfl (z := z104) (x := 1 + z109) (by omega) (by omega) (by first | decide | omega) dL_act_306 (fun H locs hP hD hS => ?_)
    obtain ⟨u111, eu111⟩ : ∃ z9 : mf_V, z9 = mf_sF u 7 (mf_up (u 7) (z104) (1 + z109)) := ⟨_, rfl⟩
    have hP : va_P G.1 vwCl (OW G ho pn pa pf ae x ++ SW G hm adm ca nn u111 ++ RW G pn adn r ++ RW G pa ada ra ++ FW G pf adf f) H := by rw [eu111]; exact hP
    have hD : va_D A (OW G ho pn pa pf ae x ++ SW G hm adm ca nn u111 ++ RW G pn adn r ++ RW G pa ada ra ++ FW G pf adf f) := by rw [eu111]; exact hD
    have oku111 : rOK slo shi u111 := by rw [eu111]; exact rOK_up oku 7 _ _ (show (0 : Int) ≤ 1 + z109 by omega) (show 1 + z109 ≤ (9 : Int) by omega)
    have f1_u111 : u111 7 (z104) = 1 + z109 := by rw [eu111, mf_sF_s, mf_up_s]
    have f2_u111 : ∀ y, y ≠ (z104) → u111 7 y = u 7 y := fun y hy => by rw [eu111, mf_sF_s, mf_up_n hy]
    have f3_u111 : ∀ q, q ≠ 7 → u111 q = u q := fun q hq => by rw [eu111, mf_sF_n hq]
    refine lv_aload_n hx hb dL_act_307 rfl (lv_at hl 3 rfl) ?_
    refine lv_iload hx hb dL_act_308 (lv_at hl 1 rfl) ?_
    refine lv_aload_n hx hb dL_act_310 rfl (lv_at hl 4 rfl) ?_
    refine va_get (D := G.1) (ci := 3) (v := .ref (adm 7)) (C := RX3) (T := TX3) (N := 9) hx hb hts hinX3 hown hK hP 2 rfl rfl 7 (by decide) (hts (.fieldLink RL 27 "MeanderFarmLaw$Sim" "flow" "[I") (List.mem_of_getElem? (i := 4) rfl)) (fun _ h9 => h9) rfl dL_act_311 ?_
    refine lv_iload hx hb dL_act_314 (lv_at hl 1 rfl) ?_
    refine mf_iald (n := 12) (f := u111 7) hx hb hK hP 8 0 rfl rfl (z := z104) (by omega) (by omega) (by first | decide | omega) dL_act_316 ?_
    refine mf_top (u111 7 z104) (1 + z109) (by rw [f1_u111]) ?_
    have hk0 : kFlow z104 (1 + z109) = 0 := by exact (mf_if_f (fun q => q ⟨by omega, by omega⟩)).trans (mf_if_f (fun q => q ⟨by omega, by omega⟩))
    have hFc := va_free (wc := OW G ho pn pa pf ae x ++ RW G pn adn r ++ RW G pa ada ra ++ FW G pf adf f) hD hS hA [0, 1, 10, 11, 12, 13, 14, 15, 16, 17, 18, 19, 20, 21, 22, 23, 24, 25, 26, 27, 28, 29, 30, 31, 32, 33, 34, 35, 36, 37, 38] sb_4e5d88c86a
    refine vx_calli (vx_runV (As := [.int (iI (z104)), .int (iI (1 + z109))]) (rest := []) ⟨hx, hb, hml, hown, hts⟩ (c_X2_setFlow l hl9 G ho pn pa pf ae x adn r ada ra adf f (z104) (1 + z109) (i32_mk (by omega) (by omega)) (i32_mk (by omega) (by omega)) (by assumption) (by assumption) (by assumption) (by assumption) _) (cwV 2 hts gL_act_X2_setFlow rfl rfl rfl (by decide +kernel) ⟨Nat.le_of_ble_eq_true rfl, Nat.le_of_ble_eq_true rfl⟩) (wrVx (wc := OW G ho pn pa pf ae x ++ RW G pn adn r ++ RW G pa ada ra ++ FW G pf adf f) hSX hCX hZ hS hFc hK hP hD hN [0, 1, 10, 11, 12, 13, 14, 15, 16, 17, 18, 19, 20, 21, 22, 23, 24, 25, 26, 27, 28, 29, 30, 31, 32, 33, 34, 35, 36, 37, 38] (by decide +kernel) sb_722bbe55ec sb_4e5d88c86a (ci := 2) rfl rfl) rfl rfl hl.1 rfl (lv_room (Nat.le_of_ble_eq_true rfl)) dL_act_317 ⟨Nat.le_of_ble_eq_true rfl, Nat.le_of_ble_eq_true rfl⟩) hS (fun q _ h => hFc q h) hFc (fun q _ h => hFc q h) (fun E ce q9 _ t H1 locs ht hvm _ hB hz1 hk1 hS hce hcv hcl => ?_) (fun q112 u113 t H1 locs ht hvm hw hB hz1 hk1 hS => ?_)
    · exfalso
      have hx9 := hB.1
      rcases hx9 with ⟨-, hk9⟩ | ⟨-, hk9⟩ <;> omega
    obtain ⟨x114, r115, ra116, f117⟩ := u113
    try dsimp only at hw hB
    obtain ⟨hP, hD⟩ := wrJ2 (ws := OW G ho pn pa pf ae x ++ SW G hm adm ca nn u111 ++ RW G pn adn r ++ RW G pa ada ra ++ FW G pf adf f) (wc := OW G ho pn pa pf ae x ++ RW G pn adn r ++ RW G pa ada ra ++ FW G pf adf f) (wr := SW G hm adm ca nn u111) (w1 := OW G ho pn pa pf ae x114 ++ RW G pn adn r115 ++ RW G pa ada ra116 ++ FW G pf adf f117) hP hD [0, 1, 10, 11, 12, 13, 14, 15, 16, 17, 18, 19, 20, 21, 22, 23, 24, 25, 26, 27, 28, 29, 30, 31, 32, 33, 34, 35, 36, 37, 38] [2, 3, 4, 5, 6, 7, 8, 9] sb_4e5d88c86a sb_6583667dcc (by decide +kernel) (by decide +kernel) hk1 ht hFc hB
    have hP : va_P G.1 vwCl (OW G ho pn pa pf ae x114 ++ SW G hm adm ca nn u111 ++ RW G pn adn r115 ++ RW G pa ada ra116 ++ FW G pf adf f117) H1 := hP.sub [8, 9, 0, 1, 2, 3, 4, 5, 6, 7, 10, 11, 12, 13, 14, 15, 16, 17, 18, 19, 20, 21, 22, 23, 24, 25, 26, 27, 28, 29, 30, 31, 32, 33, 34, 35, 36, 37, 38] sb_ea07c26545
    have hD : va_D A (OW G ho pn pa pf ae x114 ++ SW G hm adm ca nn u111 ++ RW G pn adn r115 ++ RW G pa ada ra116 ++ FW G pf adf f117) := hD.sub [8, 9, 0, 1, 2, 3, 4, 5, 6, 7, 10, 11, 12, 13, 14, 15, 16, 17, 18, 19, 20, 21, 22, 23, 24, 25, 26, 27, 28, 29, 30, 31, 32, 33, 34, 35, 36, 37, 38] (by decide +kernel) sb_5e94329b71
    clear hB hk1 hFc ht hz1 hvm hk0
    generalize H1 = H at hP hS ⊢
    obtain ⟨z118, rfl, -, ⟨okx114, okr115, okra116, okf117⟩, w120, w121, w122⟩ := hw
    have w121 := w121.symm
    subst w121
    subst w122
    skip
    refine lv_iload hx hb dL_act_320 (lv_at hl 0 rfl) ?_
    refine mf_icmp_ne (tgt := 329) hx hb dL_act_322 (by decide) (i32_mk (by omega) (by omega)) (i32_mk (by omega) (by omega)) (fun c123 => ?_) (fun c123 => ?_)
    · skip
      exact absurd rfl c123
    · skip
      refine mf_iconst hx hb dL_act_325 ?_
      refine lv_goto (tgt := 330) hx hb dL_act_326 (by decide) ?_
      have ok7 : rOK rlo rhi (mf_sF r 5 (mf_up (r 5) z104 (1 + z109))) := by
        have g := okr115
        rw [w120] at g
        exact g
      have hL7 : LQs Yv x114 r115 ra116 f nn u111 := by
        rw [w120]
        exact LQs_5 hLQ ⟨okx114, ok7, okra116, okf⟩ oku111 f1_u111 f2_u111 f3_u111
      refine W.widen (k := 3) (n := 159) (Nat.le_of_ble_eq_true rfl) (Nat.le_of_ble_eq_true rfl) ?_
      exact W.zret hx hb hr (mf_nar01 (by omega)) (fun t ht hW => ⟨⟨_, (x114, u111, ca, nn, r115, ra116, f), rfl, ⟨_, rfl, by (try dsimp only); exact ⟨rfl, LQs_mono hL7 (by omega), rfl, by rw [w120, mf_sF_n (by decide)]⟩⟩, by rw [ht]; exact hP, hD⟩, hS.F ht⟩) hS.2.2 dL_act_330
