/-! 21.copy: worlds that hold the same within their rows; a river copied -/
def rgA (n : Int) (f g : Int → Int) : Prop := ∀ z : Int, 0 ≤ z → z < n → f z = g z
theorem arr_cg {cA : ClassId} {n : Nat} {f g : Int → Int} (h : rgA n f g) : vp_cell cA (n, .inl (ia f)) = vp_cell cA (n, .inl (ia g)) := by
  show arrV cA n (fun j => .int (ia f j)) = arrV cA n (fun j => .int (ia g j))
  unfold arrV
  have e : (fun j : Fin n => Value.int (ia f j.val)) = (fun j : Fin n => Value.int (ia g j.val)) := funext fun j => by
    have hj := j.isLt
    show Value.int (iI (f ((j.val : Nat) : Int))) = Value.int (iI (g ((j.val : Nat) : Int)))
    rw [h j.val (by omega) (by omega)]
  rw [e]
theorem va_D_cg {A : Nat → Prop} {ws w2 : va_W} (e : ws.map (fun q => q.1) = w2.map (fun q => q.1)) (h : va_D A ws) : va_D A w2 := by
  have key : ∀ (k : Nat) (q : Nat × va_E), w2[k]? = some q → ∃ q0, ws[k]? = some q0 ∧ q0.1 = q.1 := by
    intro k q hq
    have h1 : (w2.map (fun q => q.1))[k]? = some q.1 := by rw [List.getElem?_map, hq]; rfl
    rw [← e, List.getElem?_map] at h1
    cases h2 : ws[k]? with
    | none => rw [h2] at h1; cases h1
    | some q0 => rw [h2] at h1; exact ⟨q0, rfl, Option.some.inj h1⟩
  refine ⟨fun i j x y hi hj hxy => ?_, fun k q hk => ?_⟩
  · obtain ⟨x0, a1, a2⟩ := key i x hi
    obtain ⟨y0, b1, b2⟩ := key j y hj
    exact h.1 i j x0 y0 a1 b1 (a2.trans (hxy.trans b2.symm))
  · obtain ⟨q0, a1, a2⟩ := key k q hk
    rw [← a2]; exact h.2 k q0 a1
theorem va_P_cg {D : va_G} {cl : List vw_C} {ws w2 : va_W} {H : Heap} (hl : ws.length = w2.length) (e : ∀ (k : Nat) (q q2 : Nat × va_E), ws[k]? = some q → w2[k]? = some q2 → va_at D cl q H → va_at D cl q2 H) (h : va_P D cl ws H) : va_P D cl w2 H := by
  intro k q hq
  have hk := (List.getElem?_eq_some_iff.mp hq).1
  have h1 : ws[k]? = some (ws[k]'(by omega)) := List.getElem?_eq_getElem (by omega)
  exact e k _ q h1 hq (h k _ h1)
theorem at_arr {D : va_G} {cl : List vw_C} {a : Nat} {cA : ClassId} {n : Nat} {f g : Int → Int} {H : Heap} (h : rgA n f g) (q : va_at D cl (a, .inl (cA, n, .inl (ia f))) H) : va_at D cl (a, .inl (cA, n, .inl (ia g))) H := by
  show H[a]? = some (vp_cell cA (n, .inl (ia g)))
  rw [← arr_cg h]; exact q
/-- two rivers hold the same, as far as their rows go -/
def rEq (r q : mf_V) : Prop := rgA 384 (r 0) (q 0) ∧ rgA 384 (r 1) (q 1) ∧ rgA 384 (r 2) (q 2) ∧ rgA 384 (r 3) (q 3) ∧ rgA 384 (r 4) (q 4) ∧ rgA 12 (r 5) (q 5) ∧ rgA 150 (r 6) (q 6) ∧ (r 7 0 = q 7 0 ∧ r 8 0 = q 8 0 ∧ r 9 0 = q 9 0) ∧ rgA 384 (r 10) (q 10) ∧ rgA 150 (r 11) (q 11) ∧ rgA 150 (r 12) (q 12) ∧ rgA 150 (r 13) (q 13)
theorem RW_cg {G : mf_G} {h : Nat} {ad : Nat → Nat} {r q : mf_V} {H : Heap} (e : rEq r q) (hP : va_P G.1 vwCl (RW G h ad r) H) : va_P G.1 vwCl (RW G h ad q) H := by
  obtain ⟨e0, e1, e2, e3, e4, e5, e6, ⟨e7, e8, e9⟩, e10, e11, e12, e13⟩ := e
  refine va_P_cg (ws := RW G h ad r) rfl (fun k x y hx hy g => ?_) hP
  match k, hx, hy with
  | 0, hx, hy =>
    cases hx; cases hy
    rw [e7, e8, e9] at g; exact g
  | 1, hx, hy => cases hx; cases hy; exact at_arr e0 g
  | 2, hx, hy => cases hx; cases hy; exact at_arr e1 g
  | 3, hx, hy => cases hx; cases hy; exact at_arr e2 g
  | 4, hx, hy => cases hx; cases hy; exact at_arr e3 g
  | 5, hx, hy => cases hx; cases hy; exact at_arr e4 g
  | 6, hx, hy => cases hx; cases hy; exact at_arr e5 g
  | 7, hx, hy => cases hx; cases hy; exact at_arr e6 g
  | 8, hx, hy => cases hx; cases hy; exact at_arr e10 g
  | 9, hx, hy => cases hx; cases hy; exact at_arr e11 g
  | 10, hx, hy => cases hx; cases hy; exact at_arr e12 g
  | 11, hx, hy => cases hx; cases hy; exact at_arr e13 g
  | k + 12, hx, hy => cases hx
theorem cpy_rg (f g : Int → Int) (n : Int) : rgA n (mf_cpy f g 0 0 n) f := fun z h0 h1 => by
  unfold mf_cpy
  rw [if_pos ⟨h0, by omega⟩]
  congr 1; omega
set_option maxHeartbeats 4000000 in
set_option maxRecDepth 100000 in
theorem c_X1_copyFrom (l : Launch) (G : mf_G) (h : Nat) (ad : Nat → Nat) (r : mf_V) (hb2 : Nat) (ad2 : Nat → Nat) (ro : mf_V)  (ok : rOK rlo rhi r) (ok2 : rOK rlo rhi ro) (sz : Nat) : Met l yX1_copyFrom wsX1_copyFrom ({ frames := 1, cells := 0, slots := 0, locals := 26 }) (va_Pc [.ref h, .ref hb2] (WrP G (RW G h ad r ++ RW G hb2 ad2 ro) sz)) (va_Qv (fun (r' : mf_V) => rOK rlo rhi r' ∧ r' = mf_sF ro 4 (fun _ => 0)) (fun (r' : mf_V) t => WrQ G (va_A (RW G h ad r ++ RW G hb2 ad2 ro) sz) (RW G h ad r' ++ RW G hb2 ad2 ro) t) (va_A (RW G h ad r ++ RW G hb2 ad2 ro) sz)) 0 0 (va_A (RW G h ad r ++ RW G hb2 ad2 ro) sz) := by
  refine Met.ofW (cc := cX1_copyFrom) (maxL := 3) (ret := none) (by decide) rfl ?_
  intro p e s m args below meth c s₁ B hml hv
  obtain ⟨rfl, hsz, hP, hK, hD0, hN⟩ := hv
  have hx := B.exec
  have hb := B.bytes
  have hr := B.returns
  have hts := atoms_spec (ws := wsX1_copyFrom) B.pre
  have hown : s.vm.findClass RX1 = some m.cls := findClass_of_methodNamed B.named
  have hlocks := B.notSynchronized
  have hinX1 : ∀ w ∈ u_ws RX1 TX1 14, w ∈ wsX1_copyFrom := fun w h => List.mem_cons_of_mem _ (List.mem_append_right _ h)
  subst hsz
  have hD := hD0.self (sz := s.heap.size)
  generalize hAe : va_A (RW G h ad r ++ RW G hb2 ad2 ro) s.heap.size = A at hD ⊢
  have hA : ∀ q : Nat, s.heap.size ≤ q → A q := fun q h => by rw [← hAe]; exact Or.inr h
  have hS : va_S A s.heap s.heap [] := va_S.rf
  have hl := lv_entry ([.ref h, .ref hb2]) (n := 3) (Nat.le_of_ble_eq_true rfl)
  rw [lg_entry_eq]
  generalize (lg_sl ([.ref h, .ref hb2]) ++ List.replicate (3 - (lg_sl ([.ref h, .ref hb2])).length) Slot.unset).toArray = ls at hl ⊢
  have hl : lv_has ls 3 [(0, .ref h), (1, .ref hb2)] := hl
  have okLr : (0 : Int) ≤ r 7 0 ∧ r 7 0 ≤ 150 := ok 7 0
  have okLro : (0 : Int) ≤ ro 7 0 ∧ ro 7 0 ≤ 150 := ok2 7 0
  refine lv_aload_n hx hb dX1_copyFrom_0 rfl (lv_at hl 1 rfl) ?_
  refine va_get (D := G.1) (ci := 1) (v := .ref (ad2 0)) (C := RX1) (T := TX1) (N := 14) hx hb hts hinX1 hown hK hP 12 rfl rfl 0 (by decide) (hts (.fieldLink RX1 9 "MeanderFarm$River" "hardness" "[I") (List.mem_of_getElem? (i := 1) rfl)) (fun _ h9 => h9) rfl dX1_copyFrom_1 ?_
  refine mf_iconst hx hb dX1_copyFrom_4 ?_
  refine lv_aload_n hx hb dX1_copyFrom_5 rfl (lv_at hl 0 rfl) ?_
  refine va_get (D := G.1) (ci := 1) (v := .ref (ad 0)) (C := RX1) (T := TX1) (N := 14) hx hb hts hinX1 hown hK hP 0 rfl rfl 0 (by decide) (hts (.fieldLink RX1 9 "MeanderFarm$River" "hardness" "[I") (List.mem_of_getElem? (i := 1) rfl)) (fun _ h9 => h9) rfl dX1_copyFrom_6 ?_
  refine mf_iconst hx hb dX1_copyFrom_9 ?_
  refine mf_sipush hx hb dX1_copyFrom_10 rfl ?_
  refine mf_copy (f := ro 0) (g := r 0) (n0 := 384) (n1 := 384) hx hb (hml.trans hl.1.symm) hown (hts (.methodLink RX1 54 arraycopyName) (List.mem_of_getElem? (i := 2) rfl)) (hts (.native arraycopyName) (List.mem_of_getElem? (i := 3) rfl)) (hts (.static arraycopyName) (List.mem_of_getElem? (i := 4) rfl)) (hts (.initialized "java/lang/System") (List.mem_of_getElem? (i := 5) rfl)) hK hP hD hS 13 1 0 0 rfl rfl rfl rfl rfl (sp := 0) (dp := 0) (n := 384) (by omega) (by omega) (by omega) (by omega) (by omega) (by decide) (by decide) (fun _ => rfl) (Nat.le_of_ble_eq_true rfl) (Nat.le_of_ble_eq_true rfl) dX1_copyFrom_13 (fun H locs hP hD hS => ?_)
  obtain ⟨r1, er1⟩ : ∃ q : mf_V, q = mf_sF r 0 (mf_cpy (ro 0) (r 0) (0) (0) (384)) := ⟨_, rfl⟩
  have hP : va_P G.1 vwCl (RW G h ad r1 ++ RW G hb2 ad2 ro) H := by rw [er1]; exact hP
  have hD : va_D A (RW G h ad r1 ++ RW G hb2 ad2 ro) := by rw [er1]; exact hD
  have okr1 : rOK rlo rhi r1 := by rw [er1]; exact rOK_cpy ok2 ok 0 _ _ _
  have f1_r1 : r1 0 = mf_cpy (ro 0) (r 0) (0) (0) (384) := by rw [er1, mf_sF_s]
  have f3_r1 : ∀ q, q ≠ 0 → r1 q = r q := fun q hq => by rw [er1, mf_sF_n hq]
  refine lv_aload_n hx hb dX1_copyFrom_16 rfl (lv_at hl 1 rfl) ?_
  refine va_get (D := G.1) (ci := 1) (v := .ref (ad2 1)) (C := RX1) (T := TX1) (N := 14) hx hb hts hinX1 hown hK hP 12 rfl rfl 1 (by decide) (hts (.fieldLink RX1 15 "MeanderFarm$River" "wear" "[I") (List.mem_of_getElem? (i := 6) rfl)) (fun _ h9 => h9) rfl dX1_copyFrom_17 ?_
  refine mf_iconst hx hb dX1_copyFrom_20 ?_
  refine lv_aload_n hx hb dX1_copyFrom_21 rfl (lv_at hl 0 rfl) ?_
  refine va_get (D := G.1) (ci := 1) (v := .ref (ad 1)) (C := RX1) (T := TX1) (N := 14) hx hb hts hinX1 hown hK hP 0 rfl rfl 1 (by decide) (hts (.fieldLink RX1 15 "MeanderFarm$River" "wear" "[I") (List.mem_of_getElem? (i := 6) rfl)) (fun _ h9 => h9) rfl dX1_copyFrom_22 ?_
  refine mf_iconst hx hb dX1_copyFrom_25 ?_
  refine mf_sipush hx hb dX1_copyFrom_26 rfl ?_
  refine mf_copy (f := ro 1) (g := r1 1) (n0 := 384) (n1 := 384) hx hb (hml.trans hl.1.symm) hown (hts (.methodLink RX1 54 arraycopyName) (List.mem_of_getElem? (i := 2) rfl)) (hts (.native arraycopyName) (List.mem_of_getElem? (i := 3) rfl)) (hts (.static arraycopyName) (List.mem_of_getElem? (i := 4) rfl)) (hts (.initialized "java/lang/System") (List.mem_of_getElem? (i := 5) rfl)) hK hP hD hS 14 2 0 0 rfl rfl rfl rfl rfl (sp := 0) (dp := 0) (n := 384) (by omega) (by omega) (by omega) (by omega) (by omega) (by decide) (by decide) (fun _ => rfl) (Nat.le_of_ble_eq_true rfl) (Nat.le_of_ble_eq_true rfl) dX1_copyFrom_29 (fun H locs hP hD hS => ?_)
  obtain ⟨r2, er2⟩ : ∃ q : mf_V, q = mf_sF r1 1 (mf_cpy (ro 1) (r1 1) (0) (0) (384)) := ⟨_, rfl⟩
  have hP : va_P G.1 vwCl (RW G h ad r2 ++ RW G hb2 ad2 ro) H := by rw [er2]; exact hP
  have hD : va_D A (RW G h ad r2 ++ RW G hb2 ad2 ro) := by rw [er2]; exact hD
  have okr2 : rOK rlo rhi r2 := by rw [er2]; exact rOK_cpy ok2 okr1 1 _ _ _
  have f1_r2 : r2 1 = mf_cpy (ro 1) (r1 1) (0) (0) (384) := by rw [er2, mf_sF_s]
  have f3_r2 : ∀ q, q ≠ 1 → r2 q = r1 q := fun q hq => by rw [er2, mf_sF_n hq]
  refine lv_aload_n hx hb dX1_copyFrom_32 rfl (lv_at hl 1 rfl) ?_
  refine va_get (D := G.1) (ci := 1) (v := .ref (ad2 2)) (C := RX1) (T := TX1) (N := 14) hx hb hts hinX1 hown hK hP 12 rfl rfl 2 (by decide) (hts (.fieldLink RX1 18 "MeanderFarm$River" "stones" "[Z") (List.mem_of_getElem? (i := 7) rfl)) (fun _ h9 => h9) rfl dX1_copyFrom_33 ?_
  refine mf_iconst hx hb dX1_copyFrom_36 ?_
  refine lv_aload_n hx hb dX1_copyFrom_37 rfl (lv_at hl 0 rfl) ?_
  refine va_get (D := G.1) (ci := 1) (v := .ref (ad 2)) (C := RX1) (T := TX1) (N := 14) hx hb hts hinX1 hown hK hP 0 rfl rfl 2 (by decide) (hts (.fieldLink RX1 18 "MeanderFarm$River" "stones" "[Z") (List.mem_of_getElem? (i := 7) rfl)) (fun _ h9 => h9) rfl dX1_copyFrom_38 ?_
  refine mf_iconst hx hb dX1_copyFrom_41 ?_
  refine mf_sipush hx hb dX1_copyFrom_42 rfl ?_
  refine mf_copy (f := ro 2) (g := r2 2) (n0 := 384) (n1 := 384) hx hb (hml.trans hl.1.symm) hown (hts (.methodLink RX1 54 arraycopyName) (List.mem_of_getElem? (i := 2) rfl)) (hts (.native arraycopyName) (List.mem_of_getElem? (i := 3) rfl)) (hts (.static arraycopyName) (List.mem_of_getElem? (i := 4) rfl)) (hts (.initialized "java/lang/System") (List.mem_of_getElem? (i := 5) rfl)) hK hP hD hS 15 3 1 1 rfl rfl rfl rfl rfl (sp := 0) (dp := 0) (n := 384) (by omega) (by omega) (by omega) (by omega) (by omega) (by decide) (by decide) (fun i => mf_fit01 (show (0 : Int) ≤ ro 2 i ∧ ro 2 i ≤ 1 from ok2 2 i)) (Nat.le_of_ble_eq_true rfl) (Nat.le_of_ble_eq_true rfl) dX1_copyFrom_45 (fun H locs hP hD hS => ?_)
  obtain ⟨r3, er3⟩ : ∃ q : mf_V, q = mf_sF r2 2 (mf_cpy (ro 2) (r2 2) (0) (0) (384)) := ⟨_, rfl⟩
  have hP : va_P G.1 vwCl (RW G h ad r3 ++ RW G hb2 ad2 ro) H := by rw [er3]; exact hP
  have hD : va_D A (RW G h ad r3 ++ RW G hb2 ad2 ro) := by rw [er3]; exact hD
  have okr3 : rOK rlo rhi r3 := by rw [er3]; exact rOK_cpy ok2 okr2 2 _ _ _
  have f1_r3 : r3 2 = mf_cpy (ro 2) (r2 2) (0) (0) (384) := by rw [er3, mf_sF_s]
  have f3_r3 : ∀ q, q ≠ 2 → r3 q = r2 q := fun q hq => by rw [er3, mf_sF_n hq]
  refine lv_aload_n hx hb dX1_copyFrom_48 rfl (lv_at hl 1 rfl) ?_
  refine va_get (D := G.1) (ci := 1) (v := .ref (ad2 3)) (C := RX1) (T := TX1) (N := 14) hx hb hts hinX1 hown hK hP 12 rfl rfl 3 (by decide) (hts (.fieldLink RX1 22 "MeanderFarm$River" "lakeEnd" "[I") (List.mem_of_getElem? (i := 8) rfl)) (fun _ h9 => h9) rfl dX1_copyFrom_49 ?_
  refine mf_iconst hx hb dX1_copyFrom_52 ?_
  refine lv_aload_n hx hb dX1_copyFrom_53 rfl (lv_at hl 0 rfl) ?_
  refine va_get (D := G.1) (ci := 1) (v := .ref (ad 3)) (C := RX1) (T := TX1) (N := 14) hx hb hts hinX1 hown hK hP 0 rfl rfl 3 (by decide) (hts (.fieldLink RX1 22 "MeanderFarm$River" "lakeEnd" "[I") (List.mem_of_getElem? (i := 8) rfl)) (fun _ h9 => h9) rfl dX1_copyFrom_54 ?_
  refine mf_iconst hx hb dX1_copyFrom_57 ?_
  refine mf_sipush hx hb dX1_copyFrom_58 rfl ?_
  refine mf_copy (f := ro 3) (g := r3 3) (n0 := 384) (n1 := 384) hx hb (hml.trans hl.1.symm) hown (hts (.methodLink RX1 54 arraycopyName) (List.mem_of_getElem? (i := 2) rfl)) (hts (.native arraycopyName) (List.mem_of_getElem? (i := 3) rfl)) (hts (.static arraycopyName) (List.mem_of_getElem? (i := 4) rfl)) (hts (.initialized "java/lang/System") (List.mem_of_getElem? (i := 5) rfl)) hK hP hD hS 16 4 0 0 rfl rfl rfl rfl rfl (sp := 0) (dp := 0) (n := 384) (by omega) (by omega) (by omega) (by omega) (by omega) (by decide) (by decide) (fun _ => rfl) (Nat.le_of_ble_eq_true rfl) (Nat.le_of_ble_eq_true rfl) dX1_copyFrom_61 (fun H locs hP hD hS => ?_)
  obtain ⟨r4, er4⟩ : ∃ q : mf_V, q = mf_sF r3 3 (mf_cpy (ro 3) (r3 3) (0) (0) (384)) := ⟨_, rfl⟩
  have hP : va_P G.1 vwCl (RW G h ad r4 ++ RW G hb2 ad2 ro) H := by rw [er4]; exact hP
  have hD : va_D A (RW G h ad r4 ++ RW G hb2 ad2 ro) := by rw [er4]; exact hD
  have okr4 : rOK rlo rhi r4 := by rw [er4]; exact rOK_cpy ok2 okr3 3 _ _ _
  have f1_r4 : r4 3 = mf_cpy (ro 3) (r3 3) (0) (0) (384) := by rw [er4, mf_sF_s]
  have f3_r4 : ∀ q, q ≠ 3 → r4 q = r3 q := fun q hq => by rw [er4, mf_sF_n hq]
  refine lv_aload_n hx hb dX1_copyFrom_64 rfl (lv_at hl 1 rfl) ?_
  refine va_get (D := G.1) (ci := 1) (v := .ref (ad2 5)) (C := RX1) (T := TX1) (N := 14) hx hb hts hinX1 hown hK hP 12 rfl rfl 5 (by decide) (hts (.fieldLink RX1 28 "MeanderFarm$River" "flow" "[I") (List.mem_of_getElem? (i := 9) rfl)) (fun _ h9 => h9) rfl dX1_copyFrom_65 ?_
  refine mf_iconst hx hb dX1_copyFrom_68 ?_
  refine lv_aload_n hx hb dX1_copyFrom_69 rfl (lv_at hl 0 rfl) ?_
  refine va_get (D := G.1) (ci := 1) (v := .ref (ad 5)) (C := RX1) (T := TX1) (N := 14) hx hb hts hinX1 hown hK hP 0 rfl rfl 5 (by decide) (hts (.fieldLink RX1 28 "MeanderFarm$River" "flow" "[I") (List.mem_of_getElem? (i := 9) rfl)) (fun _ h9 => h9) rfl dX1_copyFrom_70 ?_
  refine mf_iconst hx hb dX1_copyFrom_73 ?_
  refine mf_bipush hx hb dX1_copyFrom_74 rfl ?_
  refine mf_copy (f := ro 5) (g := r4 5) (n0 := 12) (n1 := 12) hx hb (hml.trans hl.1.symm) hown (hts (.methodLink RX1 54 arraycopyName) (List.mem_of_getElem? (i := 2) rfl)) (hts (.native arraycopyName) (List.mem_of_getElem? (i := 3) rfl)) (hts (.static arraycopyName) (List.mem_of_getElem? (i := 4) rfl)) (hts (.initialized "java/lang/System") (List.mem_of_getElem? (i := 5) rfl)) hK hP hD hS 18 6 0 0 rfl rfl rfl rfl rfl (sp := 0) (dp := 0) (n := 12) (by omega) (by omega) (by omega) (by omega) (by omega) (by decide) (by decide) (fun _ => rfl) (Nat.le_of_ble_eq_true rfl) (Nat.le_of_ble_eq_true rfl) dX1_copyFrom_76 (fun H locs hP hD hS => ?_)
  obtain ⟨r5, er5⟩ : ∃ q : mf_V, q = mf_sF r4 5 (mf_cpy (ro 5) (r4 5) (0) (0) (12)) := ⟨_, rfl⟩
  have hP : va_P G.1 vwCl (RW G h ad r5 ++ RW G hb2 ad2 ro) H := by rw [er5]; exact hP
  have hD : va_D A (RW G h ad r5 ++ RW G hb2 ad2 ro) := by rw [er5]; exact hD
  have okr5 : rOK rlo rhi r5 := by rw [er5]; exact rOK_cpy ok2 okr4 5 _ _ _
  have f1_r5 : r5 5 = mf_cpy (ro 5) (r4 5) (0) (0) (12) := by rw [er5, mf_sF_s]
  have f3_r5 : ∀ q, q ≠ 5 → r5 q = r4 q := fun q hq => by rw [er5, mf_sF_n hq]
  refine lv_aload_n hx hb dX1_copyFrom_79 rfl (lv_at hl 1 rfl) ?_
  refine va_get (D := G.1) (ci := 1) (v := .ref (ad2 6)) (C := RX1) (T := TX1) (N := 14) hx hb hts hinX1 hown hK hP 12 rfl rfl 6 (by decide) (hts (.fieldLink RX1 31 "MeanderFarm$River" "course" "[I") (List.mem_of_getElem? (i := 10) rfl)) (fun _ h9 => h9) rfl dX1_copyFrom_80 ?_
  refine mf_iconst hx hb dX1_copyFrom_83 ?_
  refine lv_aload_n hx hb dX1_copyFrom_84 rfl (lv_at hl 0 rfl) ?_
  refine va_get (D := G.1) (ci := 1) (v := .ref (ad 6)) (C := RX1) (T := TX1) (N := 14) hx hb hts hinX1 hown hK hP 0 rfl rfl 6 (by decide) (hts (.fieldLink RX1 31 "MeanderFarm$River" "course" "[I") (List.mem_of_getElem? (i := 10) rfl)) (fun _ h9 => h9) rfl dX1_copyFrom_85 ?_
  refine mf_iconst hx hb dX1_copyFrom_88 ?_
  refine mf_sipush hx hb dX1_copyFrom_89 rfl ?_
  refine mf_copy (f := ro 6) (g := r5 6) (n0 := 150) (n1 := 150) hx hb (hml.trans hl.1.symm) hown (hts (.methodLink RX1 54 arraycopyName) (List.mem_of_getElem? (i := 2) rfl)) (hts (.native arraycopyName) (List.mem_of_getElem? (i := 3) rfl)) (hts (.static arraycopyName) (List.mem_of_getElem? (i := 4) rfl)) (hts (.initialized "java/lang/System") (List.mem_of_getElem? (i := 5) rfl)) hK hP hD hS 19 7 0 0 rfl rfl rfl rfl rfl (sp := 0) (dp := 0) (n := 150) (by omega) (by omega) (by omega) (by omega) (by omega) (by decide) (by decide) (fun _ => rfl) (Nat.le_of_ble_eq_true rfl) (Nat.le_of_ble_eq_true rfl) dX1_copyFrom_92 (fun H locs hP hD hS => ?_)
  obtain ⟨r6, er6⟩ : ∃ q : mf_V, q = mf_sF r5 6 (mf_cpy (ro 6) (r5 6) (0) (0) (150)) := ⟨_, rfl⟩
  have hP : va_P G.1 vwCl (RW G h ad r6 ++ RW G hb2 ad2 ro) H := by rw [er6]; exact hP
  have hD : va_D A (RW G h ad r6 ++ RW G hb2 ad2 ro) := by rw [er6]; exact hD
  have okr6 : rOK rlo rhi r6 := by rw [er6]; exact rOK_cpy ok2 okr5 6 _ _ _
  have f1_r6 : r6 6 = mf_cpy (ro 6) (r5 6) (0) (0) (150) := by rw [er6, mf_sF_s]
  have f3_r6 : ∀ q, q ≠ 6 → r6 q = r5 q := fun q hq => by rw [er6, mf_sF_n hq]
  refine lv_aload_n hx hb dX1_copyFrom_95 rfl (lv_at hl 1 rfl) ?_
  refine va_get (D := G.1) (ci := 1) (v := .ref (ad2 10)) (C := RX1) (T := TX1) (N := 14) hx hb hts hinX1 hown hK hP 12 rfl rfl 10 (by decide) (hts (.fieldLink RX1 34 "MeanderFarm$River" "place" "[I") (List.mem_of_getElem? (i := 11) rfl)) (fun _ h9 => h9) rfl dX1_copyFrom_96 ?_
  refine mf_iconst hx hb dX1_copyFrom_99 ?_
  refine lv_aload_n hx hb dX1_copyFrom_100 rfl (lv_at hl 0 rfl) ?_
  refine va_get (D := G.1) (ci := 1) (v := .ref (ad 10)) (C := RX1) (T := TX1) (N := 14) hx hb hts hinX1 hown hK hP 0 rfl rfl 10 (by decide) (hts (.fieldLink RX1 34 "MeanderFarm$River" "place" "[I") (List.mem_of_getElem? (i := 11) rfl)) (fun _ h9 => h9) rfl dX1_copyFrom_101 ?_
  refine mf_iconst hx hb dX1_copyFrom_104 ?_
  refine mf_sipush hx hb dX1_copyFrom_105 rfl ?_
  refine mf_copy (f := ro 10) (g := r6 10) (n0 := 384) (n1 := 384) hx hb (hml.trans hl.1.symm) hown (hts (.methodLink RX1 54 arraycopyName) (List.mem_of_getElem? (i := 2) rfl)) (hts (.native arraycopyName) (List.mem_of_getElem? (i := 3) rfl)) (hts (.static arraycopyName) (List.mem_of_getElem? (i := 4) rfl)) (hts (.initialized "java/lang/System") (List.mem_of_getElem? (i := 5) rfl)) hK hP hD hS 20 8 0 0 rfl rfl rfl rfl rfl (sp := 0) (dp := 0) (n := 384) (by omega) (by omega) (by omega) (by omega) (by omega) (by decide) (by decide) (fun _ => rfl) (Nat.le_of_ble_eq_true rfl) (Nat.le_of_ble_eq_true rfl) dX1_copyFrom_108 (fun H locs hP hD hS => ?_)
  obtain ⟨r7, er7⟩ : ∃ q : mf_V, q = mf_sF r6 10 (mf_cpy (ro 10) (r6 10) (0) (0) (384)) := ⟨_, rfl⟩
  have hP : va_P G.1 vwCl (RW G h ad r7 ++ RW G hb2 ad2 ro) H := by rw [er7]; exact hP
  have hD : va_D A (RW G h ad r7 ++ RW G hb2 ad2 ro) := by rw [er7]; exact hD
  have okr7 : rOK rlo rhi r7 := by rw [er7]; exact rOK_cpy ok2 okr6 10 _ _ _
  have f1_r7 : r7 10 = mf_cpy (ro 10) (r6 10) (0) (0) (384) := by rw [er7, mf_sF_s]
  have f3_r7 : ∀ q, q ≠ 10 → r7 q = r6 q := fun q hq => by rw [er7, mf_sF_n hq]
  refine lv_aload_n hx hb dX1_copyFrom_111 rfl (lv_at hl 1 rfl) ?_
  refine va_get (D := G.1) (ci := 1) (v := .ref (ad2 11)) (C := RX1) (T := TX1) (N := 14) hx hb hts hinX1 hown hK hP 12 rfl rfl 11 (by decide) (hts (.fieldLink RX1 37 "MeanderFarm$River" "direction" "[I") (List.mem_of_getElem? (i := 12) rfl)) (fun _ h9 => h9) rfl dX1_copyFrom_112 ?_
  refine mf_iconst hx hb dX1_copyFrom_115 ?_
  refine lv_aload_n hx hb dX1_copyFrom_116 rfl (lv_at hl 0 rfl) ?_
  refine va_get (D := G.1) (ci := 1) (v := .ref (ad 11)) (C := RX1) (T := TX1) (N := 14) hx hb hts hinX1 hown hK hP 0 rfl rfl 11 (by decide) (hts (.fieldLink RX1 37 "MeanderFarm$River" "direction" "[I") (List.mem_of_getElem? (i := 12) rfl)) (fun _ h9 => h9) rfl dX1_copyFrom_117 ?_
  refine mf_iconst hx hb dX1_copyFrom_120 ?_
  refine mf_sipush hx hb dX1_copyFrom_121 rfl ?_
  refine mf_copy (f := ro 11) (g := r7 11) (n0 := 150) (n1 := 150) hx hb (hml.trans hl.1.symm) hown (hts (.methodLink RX1 54 arraycopyName) (List.mem_of_getElem? (i := 2) rfl)) (hts (.native arraycopyName) (List.mem_of_getElem? (i := 3) rfl)) (hts (.static arraycopyName) (List.mem_of_getElem? (i := 4) rfl)) (hts (.initialized "java/lang/System") (List.mem_of_getElem? (i := 5) rfl)) hK hP hD hS 21 9 0 0 rfl rfl rfl rfl rfl (sp := 0) (dp := 0) (n := 150) (by omega) (by omega) (by omega) (by omega) (by omega) (by decide) (by decide) (fun _ => rfl) (Nat.le_of_ble_eq_true rfl) (Nat.le_of_ble_eq_true rfl) dX1_copyFrom_124 (fun H locs hP hD hS => ?_)
  obtain ⟨r8, er8⟩ : ∃ q : mf_V, q = mf_sF r7 11 (mf_cpy (ro 11) (r7 11) (0) (0) (150)) := ⟨_, rfl⟩
  have hP : va_P G.1 vwCl (RW G h ad r8 ++ RW G hb2 ad2 ro) H := by rw [er8]; exact hP
  have hD : va_D A (RW G h ad r8 ++ RW G hb2 ad2 ro) := by rw [er8]; exact hD
  have okr8 : rOK rlo rhi r8 := by rw [er8]; exact rOK_cpy ok2 okr7 11 _ _ _
  have f1_r8 : r8 11 = mf_cpy (ro 11) (r7 11) (0) (0) (150) := by rw [er8, mf_sF_s]
  have f3_r8 : ∀ q, q ≠ 11 → r8 q = r7 q := fun q hq => by rw [er8, mf_sF_n hq]
  refine lv_aload_n hx hb dX1_copyFrom_127 rfl (lv_at hl 1 rfl) ?_
  refine va_get (D := G.1) (ci := 1) (v := .ref (ad2 12)) (C := RX1) (T := TX1) (N := 14) hx hb hts hinX1 hown hK hP 12 rfl rfl 12 (by decide) (hts (.fieldLink RX1 40 "MeanderFarm$River" "thrown" "[I") (List.mem_of_getElem? (i := 13) rfl)) (fun _ h9 => h9) rfl dX1_copyFrom_128 ?_
  refine mf_iconst hx hb dX1_copyFrom_131 ?_
  refine lv_aload_n hx hb dX1_copyFrom_132 rfl (lv_at hl 0 rfl) ?_
  refine va_get (D := G.1) (ci := 1) (v := .ref (ad 12)) (C := RX1) (T := TX1) (N := 14) hx hb hts hinX1 hown hK hP 0 rfl rfl 12 (by decide) (hts (.fieldLink RX1 40 "MeanderFarm$River" "thrown" "[I") (List.mem_of_getElem? (i := 13) rfl)) (fun _ h9 => h9) rfl dX1_copyFrom_133 ?_
  refine mf_iconst hx hb dX1_copyFrom_136 ?_
  refine mf_sipush hx hb dX1_copyFrom_137 rfl ?_
  refine mf_copy (f := ro 12) (g := r8 12) (n0 := 150) (n1 := 150) hx hb (hml.trans hl.1.symm) hown (hts (.methodLink RX1 54 arraycopyName) (List.mem_of_getElem? (i := 2) rfl)) (hts (.native arraycopyName) (List.mem_of_getElem? (i := 3) rfl)) (hts (.static arraycopyName) (List.mem_of_getElem? (i := 4) rfl)) (hts (.initialized "java/lang/System") (List.mem_of_getElem? (i := 5) rfl)) hK hP hD hS 22 10 0 0 rfl rfl rfl rfl rfl (sp := 0) (dp := 0) (n := 150) (by omega) (by omega) (by omega) (by omega) (by omega) (by decide) (by decide) (fun _ => rfl) (Nat.le_of_ble_eq_true rfl) (Nat.le_of_ble_eq_true rfl) dX1_copyFrom_140 (fun H locs hP hD hS => ?_)
  obtain ⟨r9, er9⟩ : ∃ q : mf_V, q = mf_sF r8 12 (mf_cpy (ro 12) (r8 12) (0) (0) (150)) := ⟨_, rfl⟩
  have hP : va_P G.1 vwCl (RW G h ad r9 ++ RW G hb2 ad2 ro) H := by rw [er9]; exact hP
  have hD : va_D A (RW G h ad r9 ++ RW G hb2 ad2 ro) := by rw [er9]; exact hD
  have okr9 : rOK rlo rhi r9 := by rw [er9]; exact rOK_cpy ok2 okr8 12 _ _ _
  have f1_r9 : r9 12 = mf_cpy (ro 12) (r8 12) (0) (0) (150) := by rw [er9, mf_sF_s]
  have f3_r9 : ∀ q, q ≠ 12 → r9 q = r8 q := fun q hq => by rw [er9, mf_sF_n hq]
  refine lv_aload_n hx hb dX1_copyFrom_143 rfl (lv_at hl 1 rfl) ?_
  refine va_get (D := G.1) (ci := 1) (v := .ref (ad2 13)) (C := RX1) (T := TX1) (N := 14) hx hb hts hinX1 hown hK hP 12 rfl rfl 13 (by decide) (hts (.fieldLink RX1 43 "MeanderFarm$River" "bank" "[I") (List.mem_of_getElem? (i := 14) rfl)) (fun _ h9 => h9) rfl dX1_copyFrom_144 ?_
  refine mf_iconst hx hb dX1_copyFrom_147 ?_
  refine lv_aload_n hx hb dX1_copyFrom_148 rfl (lv_at hl 0 rfl) ?_
  refine va_get (D := G.1) (ci := 1) (v := .ref (ad 13)) (C := RX1) (T := TX1) (N := 14) hx hb hts hinX1 hown hK hP 0 rfl rfl 13 (by decide) (hts (.fieldLink RX1 43 "MeanderFarm$River" "bank" "[I") (List.mem_of_getElem? (i := 14) rfl)) (fun _ h9 => h9) rfl dX1_copyFrom_149 ?_
  refine mf_iconst hx hb dX1_copyFrom_152 ?_
  refine mf_sipush hx hb dX1_copyFrom_153 rfl ?_
  refine mf_copy (f := ro 13) (g := r9 13) (n0 := 150) (n1 := 150) hx hb (hml.trans hl.1.symm) hown (hts (.methodLink RX1 54 arraycopyName) (List.mem_of_getElem? (i := 2) rfl)) (hts (.native arraycopyName) (List.mem_of_getElem? (i := 3) rfl)) (hts (.static arraycopyName) (List.mem_of_getElem? (i := 4) rfl)) (hts (.initialized "java/lang/System") (List.mem_of_getElem? (i := 5) rfl)) hK hP hD hS 23 11 0 0 rfl rfl rfl rfl rfl (sp := 0) (dp := 0) (n := 150) (by omega) (by omega) (by omega) (by omega) (by omega) (by decide) (by decide) (fun _ => rfl) (Nat.le_of_ble_eq_true rfl) (Nat.le_of_ble_eq_true rfl) dX1_copyFrom_156 (fun H locs hP hD hS => ?_)
  obtain ⟨r10, er10⟩ : ∃ q : mf_V, q = mf_sF r9 13 (mf_cpy (ro 13) (r9 13) (0) (0) (150)) := ⟨_, rfl⟩
  have hP : va_P G.1 vwCl (RW G h ad r10 ++ RW G hb2 ad2 ro) H := by rw [er10]; exact hP
  have hD : va_D A (RW G h ad r10 ++ RW G hb2 ad2 ro) := by rw [er10]; exact hD
  have okr10 : rOK rlo rhi r10 := by rw [er10]; exact rOK_cpy ok2 okr9 13 _ _ _
  have f1_r10 : r10 13 = mf_cpy (ro 13) (r9 13) (0) (0) (150) := by rw [er10, mf_sF_s]
  have f3_r10 : ∀ q, q ≠ 13 → r10 q = r9 q := fun q hq => by rw [er10, mf_sF_n hq]
  refine lv_aload_n hx hb dX1_copyFrom_159 rfl (lv_at hl 0 rfl) ?_
  refine lv_aload_n hx hb dX1_copyFrom_160 rfl (lv_at hl 1 rfl) ?_
  refine va_get (D := G.1) (ci := 1) (v := .int (iI (ro 7 0))) (C := RX1) (T := TX1) (N := 14) hx hb hts hinX1 hown hK hP 12 rfl rfl 7 (by decide) (hts (.fieldLink RX1 46 "MeanderFarm$River" "length" "I") (List.mem_of_getElem? (i := 15) rfl)) (fun _ h9 => h9) rfl dX1_copyFrom_161 ?_
  have b11 : (0 : Int) ≤ ro 7 0 ∧ ro 7 0 ≤ 150 := ok2 7 (0)
  refine va_put (D := G.1) (ci := 1) (v := .int (iI (ro 7 0))) (ty := .int) (C := RX1) (T := TX1) (N := 14) hx hb hts hinX1 tyX1 tyX1_ok nmX1 hown hK hP hD hS 0 rfl rfl 7 (by decide) (hts (.fieldLink RX1 46 "MeanderFarm$River" "length" "I") (List.mem_of_getElem? (i := 15) rfl)) (fun _ h9 => h9) rfl (by decide +kernel) rfl rfl (Nat.le_of_ble_eq_true rfl) dX1_copyFrom_164 (fun H locs hP hD hS => ?_)
  obtain ⟨r12, er12⟩ : ∃ q : mf_V, q = mf_sF r10 7 (fun _ => ro 7 0) := ⟨_, rfl⟩
  have hP : va_P G.1 vwCl (RW G h ad r12 ++ RW G hb2 ad2 ro) H := by rw [er12]; exact hP
  have hD : va_D A (RW G h ad r12 ++ RW G hb2 ad2 ro) := by rw [er12]; exact hD
  have okr12 : rOK rlo rhi r12 := by rw [er12]; exact rOK_set okr10 7 _ (show (0 : Int) ≤ ro 7 0 by omega) (show ro 7 0 ≤ (150 : Int) by omega)
  have f1_r12 : ∀ y, r12 7 y = ro 7 0 := fun y => by rw [er12, mf_sF_s]
  have f3_r12 : ∀ q, q ≠ 7 → r12 q = r10 q := fun q hq => by rw [er12, mf_sF_n hq]
  refine lv_aload_n hx hb dX1_copyFrom_167 rfl (lv_at hl 0 rfl) ?_
  refine lv_aload_n hx hb dX1_copyFrom_168 rfl (lv_at hl 1 rfl) ?_
  refine va_get (D := G.1) (ci := 1) (v := .int (iI (ro 8 0))) (C := RX1) (T := TX1) (N := 14) hx hb hts hinX1 hown hK hP 12 rfl rfl 8 (by decide) (hts (.fieldLink RX1 60 "MeanderFarm$River" "year" "I") (List.mem_of_getElem? (i := 16) rfl)) (fun _ h9 => h9) rfl dX1_copyFrom_169 ?_
  have b13 : (0 : Int) ≤ ro 8 0 ∧ ro 8 0 ≤ 90000 := ok2 8 (0)
  refine va_put (D := G.1) (ci := 1) (v := .int (iI (ro 8 0))) (ty := .int) (C := RX1) (T := TX1) (N := 14) hx hb hts hinX1 tyX1 tyX1_ok nmX1 hown hK hP hD hS 0 rfl rfl 8 (by decide) (hts (.fieldLink RX1 60 "MeanderFarm$River" "year" "I") (List.mem_of_getElem? (i := 16) rfl)) (fun _ h9 => h9) rfl (by decide +kernel) rfl rfl (Nat.le_of_ble_eq_true rfl) dX1_copyFrom_172 (fun H locs hP hD hS => ?_)
  obtain ⟨r14, er14⟩ : ∃ q : mf_V, q = mf_sF r12 8 (fun _ => ro 8 0) := ⟨_, rfl⟩
  have hP : va_P G.1 vwCl (RW G h ad r14 ++ RW G hb2 ad2 ro) H := by rw [er14]; exact hP
  have hD : va_D A (RW G h ad r14 ++ RW G hb2 ad2 ro) := by rw [er14]; exact hD
  have okr14 : rOK rlo rhi r14 := by rw [er14]; exact rOK_set okr12 8 _ (show (0 : Int) ≤ ro 8 0 by omega) (show ro 8 0 ≤ (90000 : Int) by omega)
  have f1_r14 : ∀ y, r14 8 y = ro 8 0 := fun y => by rw [er14, mf_sF_s]
  have f3_r14 : ∀ q, q ≠ 8 → r14 q = r12 q := fun q hq => by rw [er14, mf_sF_n hq]
  refine lv_aload_n hx hb dX1_copyFrom_175 rfl (lv_at hl 0 rfl) ?_
  refine lv_aload_n hx hb dX1_copyFrom_176 rfl (lv_at hl 1 rfl) ?_
  refine va_get (D := G.1) (ci := 1) (v := .int (iI (ro 9 0))) (C := RX1) (T := TX1) (N := 14) hx hb hts hinX1 hown hK hP 12 rfl rfl 9 (by decide) (hts (.fieldLink RX1 63 "MeanderFarm$River" "breaks" "I") (List.mem_of_getElem? (i := 17) rfl)) (fun _ h9 => h9) rfl dX1_copyFrom_177 ?_
  have b15 : (0 : Int) ≤ ro 9 0 ∧ ro 9 0 ≤ 100000000 := ok2 9 (0)
  refine va_put (D := G.1) (ci := 1) (v := .int (iI (ro 9 0))) (ty := .int) (C := RX1) (T := TX1) (N := 14) hx hb hts hinX1 tyX1 tyX1_ok nmX1 hown hK hP hD hS 0 rfl rfl 9 (by decide) (hts (.fieldLink RX1 63 "MeanderFarm$River" "breaks" "I") (List.mem_of_getElem? (i := 17) rfl)) (fun _ h9 => h9) rfl (by decide +kernel) rfl rfl (Nat.le_of_ble_eq_true rfl) dX1_copyFrom_180 (fun H locs hP hD hS => ?_)
  obtain ⟨r16, er16⟩ : ∃ q : mf_V, q = mf_sF r14 9 (fun _ => ro 9 0) := ⟨_, rfl⟩
  have hP : va_P G.1 vwCl (RW G h ad r16 ++ RW G hb2 ad2 ro) H := by rw [er16]; exact hP
  have hD : va_D A (RW G h ad r16 ++ RW G hb2 ad2 ro) := by rw [er16]; exact hD
  have okr16 : rOK rlo rhi r16 := by rw [er16]; exact rOK_set okr14 9 _ (show (0 : Int) ≤ ro 9 0 by omega) (show ro 9 0 ≤ (100000000 : Int) by omega)
  have f1_r16 : ∀ y, r16 9 y = ro 9 0 := fun y => by rw [er16, mf_sF_s]
  have f3_r16 : ∀ q, q ≠ 9 → r16 q = r14 q := fun q hq => by rw [er16, mf_sF_n hq]
  skip
  refine mf_iconst hx hb dX1_copyFrom_183 ?_
  refine lv_istore_n (lv' := [(2, .int (iI (0))), (0, .ref h), (1, .ref hb2)]) hx hb dX1_copyFrom_184 rfl hl (by decide) rfl (fun ls hl => ?_)
  have lp185 : ∀ (n : Nat) (kv : Int) (r1 : mf_V), (384 - kv).toNat < n → (0 ≤ kv ∧ kv ≤ 384) → (rOK rlo rhi r1) → (∀ q, q ≠ 4 → r1 q = r16 q) → (∀ z, 0 ≤ z → z < kv → r1 4 z = 0) → ∀ (H : Heap) (locs : List Loc), va_P G.1 vwCl (RW G h ad r1 ++ RW G hb2 ad2 ro) H → va_D A (RW G h ad r1 ++ RW G hb2 ad2 ro) → va_S A s.heap H locs → ∀ (ls : Array Slot), lv_has ls 3 [(0, .ref h), (1, .ref hb2), (2, .int (iI (kv)))] → W p l e (headSpec wsX1_copyFrom ({ frames := 1, cells := 0, slots := 0, locals := 26 })).room s m ([.ref h, .ref hb2] : List Value).toArray below meth c H locs 0 0 (MQ below (va_Qv (fun (r' : mf_V) => rOK rlo rhi r' ∧ r' = mf_sF ro 4 (fun _ => 0)) (fun (r' : mf_V) t => WrQ G A (RW G h ad r' ++ RW G hb2 ad2 ro) t) A) ([.ref h, .ref hb2] : List Value).toArray s 0 0 A) (F0 m 185 ls []) := by
    intro n
    induction n with
    | zero => intro kv r1 hn; exact absurd hn (Nat.not_lt_zero _)
    | succ n ih185 =>
      intro kv r1 hn hk okr1 hfr hz H locs hP hD hS ls hl
      refine lv_iload_n hx hb dX1_copyFrom_185 rfl (lv_at hl 2 rfl) ?_
      refine mf_sipush hx hb dX1_copyFrom_186 rfl ?_
      refine mf_icmp_ge (tgt := 205) hx hb dX1_copyFrom_189 (by decide) (i32_mk (by omega) (by omega)) (i32_mk (by decide) (by decide)) (fun c17 => ?_) (fun c17 => ?_)
      · skip
        have hE : rEq r1 (mf_sF ro 4 (fun _ => 0)) := ⟨by rw [hfr 0 (by decide), f3_r16 0 (by decide), f3_r14 0 (by decide), f3_r12 0 (by decide), f3_r10 0 (by decide), f3_r9 0 (by decide), f3_r8 0 (by decide), f3_r7 0 (by decide), f3_r6 0 (by decide), f3_r5 0 (by decide), f3_r4 0 (by decide), f3_r3 0 (by decide), f3_r2 0 (by decide), f1_r1, mf_sF_n (by decide)]; exact cpy_rg _ _ _, by rw [hfr 1 (by decide), f3_r16 1 (by decide), f3_r14 1 (by decide), f3_r12 1 (by decide), f3_r10 1 (by decide), f3_r9 1 (by decide), f3_r8 1 (by decide), f3_r7 1 (by decide), f3_r6 1 (by decide), f3_r5 1 (by decide), f3_r4 1 (by decide), f3_r3 1 (by decide), f1_r2, mf_sF_n (by decide)]; exact cpy_rg _ _ _, by rw [hfr 2 (by decide), f3_r16 2 (by decide), f3_r14 2 (by decide), f3_r12 2 (by decide), f3_r10 2 (by decide), f3_r9 2 (by decide), f3_r8 2 (by decide), f3_r7 2 (by decide), f3_r6 2 (by decide), f3_r5 2 (by decide), f3_r4 2 (by decide), f1_r3, mf_sF_n (by decide)]; exact cpy_rg _ _ _, by rw [hfr 3 (by decide), f3_r16 3 (by decide), f3_r14 3 (by decide), f3_r12 3 (by decide), f3_r10 3 (by decide), f3_r9 3 (by decide), f3_r8 3 (by decide), f3_r7 3 (by decide), f3_r6 3 (by decide), f3_r5 3 (by decide), f1_r4, mf_sF_n (by decide)]; exact cpy_rg _ _ _, fun z h0 h1 => by rw [mf_sF_s]; exact hz z h0 (by omega), by rw [hfr 5 (by decide), f3_r16 5 (by decide), f3_r14 5 (by decide), f3_r12 5 (by decide), f3_r10 5 (by decide), f3_r9 5 (by decide), f3_r8 5 (by decide), f3_r7 5 (by decide), f3_r6 5 (by decide), f1_r5, mf_sF_n (by decide)]; exact cpy_rg _ _ _, by rw [hfr 6 (by decide), f3_r16 6 (by decide), f3_r14 6 (by decide), f3_r12 6 (by decide), f3_r10 6 (by decide), f3_r9 6 (by decide), f3_r8 6 (by decide), f3_r7 6 (by decide), f1_r6, mf_sF_n (by decide)]; exact cpy_rg _ _ _, ⟨by rw [hfr 7 (by decide), f3_r16 7 (by decide), f3_r14 7 (by decide), mf_sF_n (by decide)]; exact f1_r12 0, by rw [hfr 8 (by decide), f3_r16 8 (by decide), mf_sF_n (by decide)]; exact f1_r14 0, by rw [hfr 9 (by decide), mf_sF_n (by decide)]; exact f1_r16 0⟩, by rw [hfr 10 (by decide), f3_r16 10 (by decide), f3_r14 10 (by decide), f3_r12 10 (by decide), f3_r10 10 (by decide), f3_r9 10 (by decide), f3_r8 10 (by decide), f1_r7, mf_sF_n (by decide)]; exact cpy_rg _ _ _, by rw [hfr 11 (by decide), f3_r16 11 (by decide), f3_r14 11 (by decide), f3_r12 11 (by decide), f3_r10 11 (by decide), f3_r9 11 (by decide), f1_r8, mf_sF_n (by decide)]; exact cpy_rg _ _ _, by rw [hfr 12 (by decide), f3_r16 12 (by decide), f3_r14 12 (by decide), f3_r12 12 (by decide), f3_r10 12 (by decide), f1_r9, mf_sF_n (by decide)]; exact cpy_rg _ _ _, by rw [hfr 13 (by decide), f3_r16 13 (by decide), f3_r14 13 (by decide), f3_r12 13 (by decide), f1_r10, mf_sF_n (by decide)]; exact cpy_rg _ _ _⟩
        have hPa := RW_cg hE (hP.sub (ws' := RW G h ad r1) [0, 1, 2, 3, 4, 5, 6, 7, 8, 9, 10, 11] rfl)
        have hPb := hP.sub (ws' := RW G hb2 ad2 ro) [12, 13, 14, 15, 16, 17, 18, 19, 20, 21, 22, 23] rfl
        have hP := hPa.app hPb
        have hD : va_D A (RW G h ad (mf_sF ro 4 (fun _ => 0)) ++ RW G hb2 ad2 ro) := va_D_cg (ws := RW G h ad r1 ++ RW G hb2 ad2 ro) rfl hD
        skip
        exact W.vret hx hb hr (fun t ht hW => ⟨⟨(mf_sF ro 4 (fun _ => 0)), rfl, by exact ⟨rOK_set ok2 4 0 (show (0 : Int) ≤ 0 by decide) (show (0 : Int) ≤ 1 by decide), rfl⟩, by rw [ht]; exact hP, hD⟩, hS.F ht⟩) hS.2.2 dX1_copyFrom_205
      · skip
        refine lv_aload_n hx hb dX1_copyFrom_192 rfl (lv_at hl 0 rfl) ?_
        refine va_get (D := G.1) (ci := 1) (v := .ref (ad 4)) (C := RX1) (T := TX1) (N := 14) hx hb hts hinX1 hown hK hP 0 rfl rfl 4 (by decide) (hts (.fieldLink RX1 25 "MeanderFarm$River" "bulgedInto" "[Z") (List.mem_of_getElem? (i := 18) rfl)) (fun _ h9 => h9) rfl dX1_copyFrom_193 ?_
        refine lv_iload_n hx hb dX1_copyFrom_196 rfl (lv_at hl 2 rfl) ?_
        refine mf_iconst hx hb dX1_copyFrom_197 ?_
        refine mf_zast (n := 384) (f := r1 4) hx hb hK hP hD hS 5 1 rfl rfl (z := kv) (x := 0) (by omega) (by omega) (by decide) (by omega) dX1_copyFrom_198 (fun H locs hP hD hS => ?_)
        obtain ⟨r18, er18⟩ : ∃ q : mf_V, q = mf_sF r1 4 (mf_up (r1 4) (kv) (0)) := ⟨_, rfl⟩
        have hP : va_P G.1 vwCl (RW G h ad r18 ++ RW G hb2 ad2 ro) H := by rw [er18]; exact hP
        have hD : va_D A (RW G h ad r18 ++ RW G hb2 ad2 ro) := by rw [er18]; exact hD
        have okr18 : rOK rlo rhi r18 := by rw [er18]; exact rOK_up okr1 4 _ _ (show (0 : Int) ≤ 0 by omega) (show 0 ≤ (1 : Int) by omega)
        have f1_r18 : r18 4 (kv) = 0 := by rw [er18, mf_sF_s, mf_up_s]
        have f2_r18 : ∀ y, y ≠ (kv) → r18 4 y = r1 4 y := fun y hy => by rw [er18, mf_sF_s, mf_up_n hy]
        have f3_r18 : ∀ q, q ≠ 4 → r18 q = r1 q := fun q hq => by rw [er18, mf_sF_n hq]
        refine lv_iinc (v := iI (kv + 1)) (lv' := [(2, .int (iI (kv + 1))), (0, .ref h), (1, .ref hb2)]) hx hb dX1_copyFrom_199 hl (k := 2) rfl (iI_add _ _).symm (by decide) rfl (fun ls hl => ?_)
        refine lv_goto (tgt := 185) hx hb dX1_copyFrom_202 (by decide) ?_
        exact ih185 (kv + 1) r18 (by omega) (by first | assumption | omega) (by first | assumption | omega) (by intro q hq; rw [f3_r18 q hq]; exact hfr q hq) (by intro z h0 h1; rcases (show z < kv ∨ z = kv by omega) with y | y; (rw [f2_r18 z (by omega)]; exact hz z h0 y); (rw [y]; exact f1_r18)) _ _ hP hD hS ls (lv_sub hl [1, 2, 0] rfl)
  exact lp185 (_ + 1) 0 r16 (Nat.lt_succ_self _) (by first | assumption | omega) (by first | assumption | omega) (by intro q _; rfl) (by intro z _ _; omega) _ _ hP hD hS ls (lv_sub hl [1, 2, 0] rfl)
