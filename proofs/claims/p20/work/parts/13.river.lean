/-! 13.river: how a river changes -/
/-- the side to which the cell i is thrown, by the directions -/
def thrS (d : Int → Int) (n i t : Int) : Prop := (¬ (0 < i ∧ i < n - 1 ∧ d (i - 1) = d i) ∧ t = -1) ∨ ((0 < i ∧ i < n - 1 ∧ d (i - 1) = d i) ∧ ∃ j, 0 < j ∧ j < i ∧ i - j ≤ 4 ∧ ¬ d j = d (j - 1) ∧ (∀ q, j < q → q ≤ i → d q = d (q - 1)) ∧ t = d (j - 1)) ∨ ((0 < i ∧ i < n - 1 ∧ d (i - 1) = d i) ∧ (∀ q, 0 < q → q ≤ i → i - q ≤ 4 → d q = d (q - 1)) ∧ t = -1)
/-- throwCells' bend behind k cells -/
def bendS (d : Int → Int) (k b : Int) : Prop := (b = -1 ∧ ∀ q, 0 < q → q < k → d q = d (q - 1)) ∨ (0 < b ∧ b < k ∧ ¬ d b = d (b - 1) ∧ ∀ q, b < q → q < k → d q = d (q - 1))
theorem bendS_new {d : Int → Int} {k : Int} (h0 : 0 < k) (h : ¬ d k = d (k - 1)) : bendS d (k + 1) k := Or.inr ⟨h0, by omega, h, fun q h1 h2 => by omega⟩
theorem bendS_old {d : Int → Int} {k b : Int} (hb : bendS d k b) (h : k ≤ 0 ∨ d k = d (k - 1)) : bendS d (k + 1) b := by
  rcases hb with ⟨h1, h2⟩ | ⟨h1, h2, h3, h4⟩
  · refine Or.inl ⟨h1, fun q h5 h6 => ?_⟩
    rcases (show q < k ∨ q = k by omega) with z | z
    · exact h2 q h5 z
    · subst z; rcases h with h | h
      · omega
      · exact h
  · refine Or.inr ⟨h1, by omega, h3, fun q h5 h6 => ?_⟩
    rcases (show q < k ∨ q = k by omega) with z | z
    · exact h4 q h5 z
    · subst z; rcases h with h | h
      · omega
      · exact h
theorem thrS_bend {d : Int → Int} {n k : Int} (hk : 0 < k) (h : ¬ d k = d (k - 1)) : thrS d n k (-1) := Or.inl ⟨fun z => h z.2.2.symm, rfl⟩
theorem thrS_far {d : Int → Int} {n k b : Int} (hlast : ¬ d (n - 1) = d (n - 2)) (hk : 0 ≤ k ∧ k < n) (hb : bendS d k b) (h : k ≤ 0 ∨ d k = d (k - 1)) (h4 : b ≤ 0 ∨ 4 < k - b) : thrS d n k (-1) := by
  by_cases z : 0 < k ∧ k < n - 1 ∧ d (k - 1) = d k
  · refine Or.inr (Or.inr ⟨z, fun q h5 h6 h7 => ?_, rfl⟩)
    rcases (show q < k ∨ q = k by omega) with y | y
    · rcases hb with ⟨h1, h2⟩ | ⟨h1, h2, h3, h8⟩
      · exact h2 q h5 y
      · exact h8 q (by omega) y
    · subst y; exact z.2.2.symm
  · exact Or.inl ⟨z, rfl⟩
theorem thrS_near {d : Int → Int} {n k b : Int} (hlast : ¬ d (n - 1) = d (n - 2)) (hk : 0 ≤ k ∧ k < n) (hb : bendS d k b) (h : k ≤ 0 ∨ d k = d (k - 1)) (h3 : 0 < b) (h4 : k - b ≤ 4) : thrS d n k (d (b - 1)) := by
  rcases hb with ⟨h1, -⟩ | ⟨h1, h2, h5, h8⟩
  · omega
  · have hd : d k = d (k - 1) := by rcases h with h | h; omega; exact h
    have hn : k ≠ n - 1 := fun z => hlast (by rw [← z, hd]; congr 1; omega)
    refine Or.inr (Or.inl ⟨⟨by omega, by omega, hd.symm⟩, b, h1, h2, h4, h5, fun q h6 h7 => ?_, rfl⟩)
    rcases (show q < k ∨ q = k by omega) with y | y
    · exact h8 q h6 y
    · subst y; exact hd
theorem thrS_uniq {d : Int → Int} {n i t t' : Int} (h : thrS d n i t) (h' : thrS d n i t') : t = t' := by
  rcases h with ⟨a, b⟩ | ⟨a, j, b1, b2, b3, b4, b5, b6⟩ | ⟨a, b, c⟩ <;> rcases h' with ⟨a', b'⟩ | ⟨a', j', b1', b2', b3', b4', b5', b6'⟩ | ⟨a', b', c'⟩
  · rw [b, b']
  · exact absurd a' a
  · exact absurd a' a
  · exact absurd a a'
  · rcases (show j < j' ∨ j = j' ∨ j' < j by omega) with z | z | z
    · exact absurd (b5 j' z (by omega)) b4'
    · subst z; rw [b6, b6']
    · exact absurd (b5' j z (by omega)) b4
  · exact absurd (b' j b1 (by omega) b3) b4
  · exact absurd a a'
  · exact absurd (b j' b1' (by omega) b3') b4'
  · rw [c, c']
theorem cellAtF_cg {r r2 : mf_V} (h6 : r2 6 = r 6) (h7 : r2 7 = r 7) (i : Int) : cellAtF r2 i = cellAtF r i := by unfold cellAtF inC; rw [h6, h7]
theorem dirTo_m1 (x : Int) : dirTo x (-1) = -1 := by
  unfold dirTo
  rw [if_neg (fun z => z.1 z.2), if_neg (fun z => z.1 z.2), if_neg (fun z => z.1 z.2), if_neg (fun z => z.1 z.2)]
set_option maxHeartbeats 4000000 in
set_option maxRecDepth 100000 in
theorem c_X1_takeIntoCourse (l : Launch) (G : mf_G) (h : Nat) (ad : Nat → Nat) (r : mf_V)  (iv : Int) (cv : Int) (hiv : i32 iv) (hcv : i32 cv) (ok : rOK rlo rhi r) (hin : inC r iv) (hcl : 0 ≤ cv ∧ cv < 384) (sz : Nat) : Met l yX1_takeIntoCourse wsX1_takeIntoCourse ({ frames := 1, cells := 0, slots := 0, locals := 21 }) (va_Pc [.ref h, .int (iI (iv)), .int (iI (cv))] (WrP G (RW G h ad r) sz)) (va_Qv (fun (r' : mf_V) => rOK rlo rhi r' ∧ r' 6 = mf_up (r 6) iv cv ∧ r' 1 = mf_up (r 1) cv 0 ∧ r' 3 = mf_up (r 3) cv 0 ∧ r' 4 = mf_up (r 4) cv 1 ∧ ∀ q, q ≠ 6 → q ≠ 1 → q ≠ 3 → q ≠ 4 → r' q = r q) (fun (r' : mf_V) t => WrQ G (va_A (RW G h ad r) sz) (RW G h ad r') t) (va_A (RW G h ad r) sz)) 0 0 (va_A (RW G h ad r) sz) := by
  refine Met.ofW (cc := cX1_takeIntoCourse) (maxL := 3) (ret := none) (by decide) rfl ?_
  intro p e s m args below meth c s₁ B hml hv
  obtain ⟨rfl, hsz, hP, hK, hD0, hN⟩ := hv
  have hx := B.exec
  have hb := B.bytes
  have hr := B.returns
  have hts := atoms_spec (ws := wsX1_takeIntoCourse) B.pre
  have hown : s.vm.findClass RX1 = some m.cls := findClass_of_methodNamed B.named
  have hlocks := B.notSynchronized
  have hinX1 : ∀ w ∈ u_ws RX1 TX1 14, w ∈ wsX1_takeIntoCourse := fun w h => List.mem_cons_of_mem _ (List.mem_append_right _ h)
  subst hsz
  have hD := hD0.self (sz := s.heap.size)
  generalize hAe : va_A (RW G h ad r) s.heap.size = A at hD ⊢
  have hA : ∀ q : Nat, s.heap.size ≤ q → A q := fun q h => by rw [← hAe]; exact Or.inr h
  have hS : va_S A s.heap s.heap [] := va_S.rf
  have hl := lv_entry ([.ref h, .int (iI (iv)), .int (iI (cv))]) (n := 3) (Nat.le_of_ble_eq_true rfl)
  rw [lg_entry_eq]
  generalize (lg_sl ([.ref h, .int (iI (iv)), .int (iI (cv))]) ++ List.replicate (3 - (lg_sl ([.ref h, .int (iI (iv)), .int (iI (cv))])).length) Slot.unset).toArray = ls at hl ⊢
  have hl : lv_has ls 3 [(0, .ref h), (1, .int (iI (iv))), (2, .int (iI (cv)))] := hl
  have hiv1 := hiv.1
  have hiv2 := hiv.2
  have hcv1 := hcv.1
  have hcv2 := hcv.2
  have okLr : (0 : Int) ≤ r 7 0 ∧ r 7 0 ≤ 150 := ok 7 0
  have hin2 := hin
  unfold inC at hin2
  refine lv_aload_n hx hb dX1_takeIntoCourse_0 rfl (lv_at hl 0 rfl) ?_
  refine lv_iload_n hx hb dX1_takeIntoCourse_1 rfl (lv_at hl 1 rfl) ?_
  refine vp_callSi (va_Run.run (va_runV (As := [.int (iI (iv))]) (rest := []) ⟨hx, hb, hml, hown, hts⟩ (c_X1_isInCourse l G h ad r (iv) (i32_mk (by omega) (by omega)) (by assumption)) (cwV 1 hts gX1_takeIntoCourse_X1_isInCourse rfl rfl rfl (by decide +kernel) ⟨Nat.le_of_ble_eq_true rfl, Nat.le_of_ble_eq_true rfl⟩) (rdV (wc := RW G h ad r) hK hP hN [0, 1, 2, 3, 4, 5, 6, 7, 8, 9, 10, 11] rfl (ci := 1) rfl rfl) rfl rfl hl.1 rfl (lv_room (Nat.le_of_ble_eq_true rfl)) dX1_takeIntoCourse_2 ⟨(Nat.zero_le _), (Nat.zero_le _)⟩)) (fun q1 hq1 => ?_)
  subst hq1
  refine mf_bp_eq (tgt := 43) hx hb dX1_takeIntoCourse_5 (by decide) (fun c2 => ?_) (fun c2 => ?_)
  · skip
    exact absurd hin c2
  · skip
    have c2' := c2; unfold inC at c2'
    refine lv_iload_n hx hb dX1_takeIntoCourse_8 rfl (lv_at hl 2 rfl) ?_
    refine vp_callSi (va_Run.run (va_runSN (As := [.int (iI (cv))]) (rest := []) ⟨hx, hb, hml, hown, hts⟩ (c_X2_isCell l (cv) (i32_mk (by omega) (by omega))) ⟨(va_cnB 1 hts gX1_takeIntoCourse_X2_isCell_n70 rfl rfl rfl (hN.m 27 rfl) (hts (.initialized RX2) (List.mem_of_getElem? (i := 12) rfl)) (by decide +kernel) ⟨Nat.le_of_ble_eq_true rfl, Nat.le_of_ble_eq_true rfl⟩), (hts (.static yX2_isCell) (List.mem_of_getElem? (i := 11) rfl)), trivial⟩ pureS rfl rfl hl.1 rfl (lv_room (Nat.le_of_ble_eq_true rfl)) dX1_takeIntoCourse_9 ⟨(Nat.zero_le _), (Nat.zero_le _)⟩)) (fun q3 hq3 => ?_)
    subst hq3
    refine mf_bp_eq (tgt := 43) hx hb dX1_takeIntoCourse_12 (by decide) (fun c4 => ?_) (fun c4 => ?_)
    · skip
      exact absurd hcl c4
    · skip
      refine lv_aload_n hx hb dX1_takeIntoCourse_15 rfl (lv_at hl 0 rfl) ?_
      refine va_get (D := G.1) (ci := 1) (v := .ref (ad 6)) (C := RX1) (T := TX1) (N := 14) hx hb hts hinX1 hown hK hP 0 rfl rfl 6 (by decide) (hts (.fieldLink RX1 31 "MeanderFarm$River" "course" "[I") (List.mem_of_getElem? (i := 1) rfl)) (fun _ h9 => h9) rfl dX1_takeIntoCourse_16 ?_
      refine lv_iload_n hx hb dX1_takeIntoCourse_19 rfl (lv_at hl 1 rfl) ?_
      refine lv_iload_n hx hb dX1_takeIntoCourse_20 rfl (lv_at hl 2 rfl) ?_
      refine mf_iast (n := 150) (f := r 6) hx hb hK hP hD hS 7 0 rfl rfl (z := iv) (x := cv) (by omega) (by omega) (by decide) dX1_takeIntoCourse_21 (fun H locs hP hD hS => ?_)
      obtain ⟨r5, er5⟩ : ∃ q : mf_V, q = mf_sF r 6 (mf_up (r 6) (iv) (cv)) := ⟨_, rfl⟩
      have hP : va_P G.1 vwCl (RW G h ad r5) H := by rw [er5]; exact hP
      have hD : va_D A (RW G h ad r5) := by rw [er5]; exact hD
      have okr5 : rOK rlo rhi r5 := by rw [er5]; exact rOK_up ok 6 _ _ (show (0 : Int) ≤ cv by omega) (show cv ≤ (383 : Int) by omega)
      have f1_r5 : r5 6 (iv) = cv := by rw [er5, mf_sF_s, mf_up_s]
      have f2_r5 : ∀ y, y ≠ (iv) → r5 6 y = r 6 y := fun y hy => by rw [er5, mf_sF_s, mf_up_n hy]
      have f3_r5 : ∀ q, q ≠ 6 → r5 q = r q := fun q hq => by rw [er5, mf_sF_n hq]
      refine lv_aload_n hx hb dX1_takeIntoCourse_22 rfl (lv_at hl 0 rfl) ?_
      refine va_get (D := G.1) (ci := 1) (v := .ref (ad 1)) (C := RX1) (T := TX1) (N := 14) hx hb hts hinX1 hown hK hP 0 rfl rfl 1 (by decide) (hts (.fieldLink RX1 15 "MeanderFarm$River" "wear" "[I") (List.mem_of_getElem? (i := 2) rfl)) (fun _ h9 => h9) rfl dX1_takeIntoCourse_23 ?_
      refine lv_iload_n hx hb dX1_takeIntoCourse_26 rfl (lv_at hl 2 rfl) ?_
      refine mf_iconst hx hb dX1_takeIntoCourse_27 ?_
      refine mf_iast (n := 384) (f := r5 1) hx hb hK hP hD hS 2 0 rfl rfl (z := cv) (x := 0) (by omega) (by omega) (by decide) dX1_takeIntoCourse_28 (fun H locs hP hD hS => ?_)
      obtain ⟨r6, er6⟩ : ∃ q : mf_V, q = mf_sF r5 1 (mf_up (r5 1) (cv) (0)) := ⟨_, rfl⟩
      have hP : va_P G.1 vwCl (RW G h ad r6) H := by rw [er6]; exact hP
      have hD : va_D A (RW G h ad r6) := by rw [er6]; exact hD
      have okr6 : rOK rlo rhi r6 := by rw [er6]; exact rOK_up okr5 1 _ _ (show (0 : Int) ≤ 0 by omega) (show 0 ≤ (200000000 : Int) by omega)
      have f1_r6 : r6 1 (cv) = 0 := by rw [er6, mf_sF_s, mf_up_s]
      have f2_r6 : ∀ y, y ≠ (cv) → r6 1 y = r5 1 y := fun y hy => by rw [er6, mf_sF_s, mf_up_n hy]
      have f3_r6 : ∀ q, q ≠ 1 → r6 q = r5 q := fun q hq => by rw [er6, mf_sF_n hq]
      refine lv_aload_n hx hb dX1_takeIntoCourse_29 rfl (lv_at hl 0 rfl) ?_
      refine va_get (D := G.1) (ci := 1) (v := .ref (ad 3)) (C := RX1) (T := TX1) (N := 14) hx hb hts hinX1 hown hK hP 0 rfl rfl 3 (by decide) (hts (.fieldLink RX1 22 "MeanderFarm$River" "lakeEnd" "[I") (List.mem_of_getElem? (i := 3) rfl)) (fun _ h9 => h9) rfl dX1_takeIntoCourse_30 ?_
      refine lv_iload_n hx hb dX1_takeIntoCourse_33 rfl (lv_at hl 2 rfl) ?_
      refine mf_iconst hx hb dX1_takeIntoCourse_34 ?_
      refine mf_iast (n := 384) (f := r6 3) hx hb hK hP hD hS 4 0 rfl rfl (z := cv) (x := 0) (by omega) (by omega) (by decide) dX1_takeIntoCourse_35 (fun H locs hP hD hS => ?_)
      obtain ⟨r7, er7⟩ : ∃ q : mf_V, q = mf_sF r6 3 (mf_up (r6 3) (cv) (0)) := ⟨_, rfl⟩
      have hP : va_P G.1 vwCl (RW G h ad r7) H := by rw [er7]; exact hP
      have hD : va_D A (RW G h ad r7) := by rw [er7]; exact hD
      have okr7 : rOK rlo rhi r7 := by rw [er7]; exact rOK_up okr6 3 _ _ (show (0 : Int) ≤ 0 by omega) (show 0 ≤ (100000 : Int) by omega)
      have f1_r7 : r7 3 (cv) = 0 := by rw [er7, mf_sF_s, mf_up_s]
      have f2_r7 : ∀ y, y ≠ (cv) → r7 3 y = r6 3 y := fun y hy => by rw [er7, mf_sF_s, mf_up_n hy]
      have f3_r7 : ∀ q, q ≠ 3 → r7 q = r6 q := fun q hq => by rw [er7, mf_sF_n hq]
      refine lv_aload_n hx hb dX1_takeIntoCourse_36 rfl (lv_at hl 0 rfl) ?_
      refine va_get (D := G.1) (ci := 1) (v := .ref (ad 4)) (C := RX1) (T := TX1) (N := 14) hx hb hts hinX1 hown hK hP 0 rfl rfl 4 (by decide) (hts (.fieldLink RX1 25 "MeanderFarm$River" "bulgedInto" "[Z") (List.mem_of_getElem? (i := 4) rfl)) (fun _ h9 => h9) rfl dX1_takeIntoCourse_37 ?_
      refine lv_iload_n hx hb dX1_takeIntoCourse_40 rfl (lv_at hl 2 rfl) ?_
      refine mf_iconst hx hb dX1_takeIntoCourse_41 ?_
      refine mf_zast (n := 384) (f := r7 4) hx hb hK hP hD hS 5 1 rfl rfl (z := cv) (x := 1) (by omega) (by omega) (by decide) (by omega) dX1_takeIntoCourse_42 (fun H locs hP hD hS => ?_)
      obtain ⟨r8, er8⟩ : ∃ q : mf_V, q = mf_sF r7 4 (mf_up (r7 4) (cv) (1)) := ⟨_, rfl⟩
      have hP : va_P G.1 vwCl (RW G h ad r8) H := by rw [er8]; exact hP
      have hD : va_D A (RW G h ad r8) := by rw [er8]; exact hD
      have okr8 : rOK rlo rhi r8 := by rw [er8]; exact rOK_up okr7 4 _ _ (show (0 : Int) ≤ 1 by omega) (show 1 ≤ (1 : Int) by omega)
      have f1_r8 : r8 4 (cv) = 1 := by rw [er8, mf_sF_s, mf_up_s]
      have f2_r8 : ∀ y, y ≠ (cv) → r8 4 y = r7 4 y := fun y hy => by rw [er8, mf_sF_s, mf_up_n hy]
      have f3_r8 : ∀ q, q ≠ 4 → r8 q = r7 q := fun q hq => by rw [er8, mf_sF_n hq]
      exact W.vret hx hb hr (fun t ht hW => ⟨⟨r8, rfl, by exact ⟨okr8, by rw [f3_r8 6 (by decide), f3_r7 6 (by decide), f3_r6 6 (by decide), er5, mf_sF_s], by rw [f3_r8 1 (by decide), f3_r7 1 (by decide), er6, mf_sF_s, f3_r5 1 (by decide)], by rw [f3_r8 3 (by decide), er7, mf_sF_s, f3_r6 3 (by decide), f3_r5 3 (by decide)], by rw [er8, mf_sF_s, f3_r7 4 (by decide), f3_r6 4 (by decide), f3_r5 4 (by decide)], fun q h6 h1 h3 h4 => by rw [f3_r8 q h4, f3_r7 q h3, f3_r6 q h1, f3_r5 q h6]⟩, by rw [ht]; exact hP, hD⟩, hS.F ht⟩) hS.2.2 dX1_takeIntoCourse_43
set_option maxHeartbeats 4000000 in
set_option maxRecDepth 100000 in
theorem c_X1_throwCells (l : Launch) (G : mf_G) (h : Nat) (ad : Nat → Nat) (r : mf_V)  (ok : rOK rlo rhi r) (hlen : 2 ≤ r 7 0) (hlast : ¬ r 11 (r 7 0 - 1) = r 11 (r 7 0 - 2)) (sz : Nat) : Met l yX1_throwCells wsX1_throwCells ({ frames := 1, cells := 0, slots := 0, locals := 22 }) (va_Pc [.ref h] (WrP G (RW G h ad r) sz)) (va_Qv (fun (r' : mf_V) => rOK rlo rhi r' ∧ (∀ q, q < 12 → r' q = r q) ∧ ∀ i, 0 ≤ i → i < r 7 0 → thrS (r 11) (r 7 0) i (r' 12 i) ∧ r' 13 i = nbr (r 6 i) (r' 12 i)) (fun (r' : mf_V) t => WrQ G (va_A (RW G h ad r) sz) (RW G h ad r') t) (va_A (RW G h ad r) sz)) 0 0 (va_A (RW G h ad r) sz) := by
  refine Met.ofW (cc := cX1_throwCells) (maxL := 3) (ret := none) (by decide) rfl ?_
  intro p e s m args below meth c s₁ B hml hv
  obtain ⟨rfl, hsz, hP, hK, hD0, hN⟩ := hv
  have hx := B.exec
  have hb := B.bytes
  have hr := B.returns
  have hts := atoms_spec (ws := wsX1_throwCells) B.pre
  have hown : s.vm.findClass RX1 = some m.cls := findClass_of_methodNamed B.named
  have hlocks := B.notSynchronized
  have hinX1 : ∀ w ∈ u_ws RX1 TX1 14, w ∈ wsX1_throwCells := fun w h => List.mem_cons_of_mem _ (List.mem_append_right _ h)
  subst hsz
  have hD := hD0.self (sz := s.heap.size)
  generalize hAe : va_A (RW G h ad r) s.heap.size = A at hD ⊢
  have hA : ∀ q : Nat, s.heap.size ≤ q → A q := fun q h => by rw [← hAe]; exact Or.inr h
  have hS : va_S A s.heap s.heap [] := va_S.rf
  have hl := lv_entry ([.ref h]) (n := 3) (Nat.le_of_ble_eq_true rfl)
  rw [lg_entry_eq]
  generalize (lg_sl ([.ref h]) ++ List.replicate (3 - (lg_sl ([.ref h])).length) Slot.unset).toArray = ls at hl ⊢
  have hl : lv_has ls 3 [(0, .ref h)] := hl
  have okLr : (0 : Int) ≤ r 7 0 ∧ r 7 0 ≤ 150 := ok 7 0
  refine mf_iconst hx hb dX1_throwCells_0 ?_
  refine lv_istore_n (lv' := [(1, .int (iI ((-1)))), (0, .ref h)]) hx hb dX1_throwCells_1 rfl hl (by decide) rfl (fun ls hl => ?_)
  refine mf_iconst hx hb dX1_throwCells_2 ?_
  refine lv_istore_n (lv' := [(2, .int (iI (0))), (1, .int (iI ((-1)))), (0, .ref h)]) hx hb dX1_throwCells_3 rfl hl (by decide) rfl (fun ls hl => ?_)
  have lp4 : ∀ (n : Nat) (bv : Int) (kv : Int) (r1 : mf_V), (r 7 0 - kv).toNat < n → (0 ≤ kv ∧ kv ≤ r 7 0) → (-1 ≤ bv ∧ bv < r 7 0) → (rOK rlo rhi r1) → (∀ q, q < 12 → r1 q = r q) → (bendS (r 11) kv bv) → (∀ i, 0 ≤ i → i < kv → thrS (r 11) (r 7 0) i (r1 12 i) ∧ r1 13 i = nbr (r 6 i) (r1 12 i)) → ∀ (H : Heap) (locs : List Loc), va_P G.1 vwCl (RW G h ad r1) H → va_D A (RW G h ad r1) → va_S A s.heap H locs → ∀ (ls : Array Slot), lv_has ls 3 [(0, .ref h), (1, .int (iI (bv))), (2, .int (iI (kv)))] → W p l e (headSpec wsX1_throwCells ({ frames := 1, cells := 0, slots := 0, locals := 22 })).room s m ([.ref h] : List Value).toArray below meth c H locs 0 0 (MQ below (va_Qv (fun (r' : mf_V) => rOK rlo rhi r' ∧ (∀ q, q < 12 → r' q = r q) ∧ ∀ i, 0 ≤ i → i < r 7 0 → thrS (r 11) (r 7 0) i (r' 12 i) ∧ r' 13 i = nbr (r 6 i) (r' 12 i)) (fun (r' : mf_V) t => WrQ G A (RW G h ad r') t) A) ([.ref h] : List Value).toArray s 0 0 A) (F0 m 4 ls []) := by
    intro n
    induction n with
    | zero => intro bv kv r1 hn; exact absurd hn (Nat.not_lt_zero _)
    | succ n ih4 =>
      intro bv kv r1 hn hk hbd okr1 hfr hbe hinv H locs hP hD hS ls hl
      refine lv_iload_n hx hb dX1_throwCells_4 rfl (lv_at hl 2 rfl) ?_
      refine lv_aload_n hx hb dX1_throwCells_5 rfl (lv_at hl 0 rfl) ?_
      refine va_get (D := G.1) (ci := 1) (v := .int (iI (r1 7 0))) (C := RX1) (T := TX1) (N := 14) hx hb hts hinX1 hown hK hP 0 rfl rfl 7 (by decide) (hts (.fieldLink RX1 46 "MeanderFarm$River" "length" "I") (List.mem_of_getElem? (i := 1) rfl)) (fun _ h9 => h9) rfl dX1_throwCells_6 ?_
      refine mf_top (r1 7 0) (r 7 0) (by rw [hfr 7 (by decide)]) ?_
      have b1 : (0 : Int) ≤ r 7 0 ∧ r 7 0 ≤ 150 := ok 7 (0)
      refine mf_icmp_ge (tgt := 97) hx hb dX1_throwCells_9 (by decide) (i32_mk (by omega) (by omega)) (i32_mk (by omega) (by omega)) (fun c2 => ?_) (fun c2 => ?_)
      · skip
        exact W.vret hx hb hr (fun t ht hW => ⟨⟨r1, rfl, by exact ⟨okr1, hfr, fun i h0 h1 => hinv i h0 (by omega)⟩, by rw [ht]; exact hP, hD⟩, hS.F ht⟩) hS.2.2 dX1_throwCells_97
      · skip
        refine lv_aload_n hx hb dX1_throwCells_12 rfl (lv_at hl 0 rfl) ?_
        refine va_get (D := G.1) (ci := 1) (v := .ref (ad 12)) (C := RX1) (T := TX1) (N := 14) hx hb hts hinX1 hown hK hP 0 rfl rfl 12 (by decide) (hts (.fieldLink RX1 40 "MeanderFarm$River" "thrown" "[I") (List.mem_of_getElem? (i := 2) rfl)) (fun _ h9 => h9) rfl dX1_throwCells_13 ?_
        refine lv_iload_n hx hb dX1_throwCells_16 rfl (lv_at hl 2 rfl) ?_
        refine mf_iconst hx hb dX1_throwCells_17 ?_
        refine mf_iast (n := 150) (f := r1 12) hx hb hK hP hD hS 10 0 rfl rfl (z := kv) (x := (-1)) (by omega) (by omega) (by decide) dX1_throwCells_18 (fun H locs hP hD hS => ?_)
        obtain ⟨r3, er3⟩ : ∃ q : mf_V, q = mf_sF r1 12 (mf_up (r1 12) (kv) ((-1))) := ⟨_, rfl⟩
        have hP : va_P G.1 vwCl (RW G h ad r3) H := by rw [er3]; exact hP
        have hD : va_D A (RW G h ad r3) := by rw [er3]; exact hD
        have okr3 : rOK rlo rhi r3 := by rw [er3]; exact rOK_up okr1 12 _ _ (show (-1 : Int) ≤ (-1) by omega) (show (-1) ≤ (3 : Int) by omega)
        have f1_r3 : r3 12 (kv) = (-1) := by rw [er3, mf_sF_s, mf_up_s]
        have f2_r3 : ∀ y, y ≠ (kv) → r3 12 y = r1 12 y := fun y hy => by rw [er3, mf_sF_s, mf_up_n hy]
        have f3_r3 : ∀ q, q ≠ 12 → r3 q = r1 q := fun q hq => by rw [er3, mf_sF_n hq]
        refine lv_iload_n hx hb dX1_throwCells_19 rfl (lv_at hl 2 rfl) ?_
        refine mf_if_le (tgt := 45) hx hb dX1_throwCells_20 (by decide) (i32_mk (by omega) (by omega)) (fun c4 => ?_) (fun c4 => ?_)
        · skip
          refine lv_iload_n hx hb dX1_throwCells_45 rfl (lv_at hl 1 rfl) ?_
          refine mf_if_le (tgt := 70) hx hb dX1_throwCells_46 (by decide) (i32_mk (by omega) (by omega)) (fun c5 => ?_) (fun c5 => ?_)
          · skip
            refine lv_aload_n hx hb dX1_throwCells_70 rfl (lv_at hl 0 rfl) ?_
            refine va_get (D := G.1) (ci := 1) (v := .ref (ad 13)) (C := RX1) (T := TX1) (N := 14) hx hb hts hinX1 hown hK hP 0 rfl rfl 13 (by decide) (hts (.fieldLink RX1 43 "MeanderFarm$River" "bank" "[I") (List.mem_of_getElem? (i := 4) rfl)) (fun _ h9 => h9) rfl dX1_throwCells_71 ?_
            refine lv_iload_n hx hb dX1_throwCells_74 rfl (lv_at hl 2 rfl) ?_
            refine lv_aload_n hx hb dX1_throwCells_75 rfl (lv_at hl 0 rfl) ?_
            refine va_get (D := G.1) (ci := 1) (v := .ref (ad 6)) (C := RX1) (T := TX1) (N := 14) hx hb hts hinX1 hown hK hP 0 rfl rfl 6 (by decide) (hts (.fieldLink RX1 31 "MeanderFarm$River" "course" "[I") (List.mem_of_getElem? (i := 5) rfl)) (fun _ h9 => h9) rfl dX1_throwCells_76 ?_
            refine lv_iload_n hx hb dX1_throwCells_79 rfl (lv_at hl 2 rfl) ?_
            refine mf_iald (n := 150) (f := r3 6) hx hb hK hP 7 0 rfl rfl (z := kv) (by omega) (by omega) (by decide) dX1_throwCells_80 ?_
            refine mf_top (r3 6 kv) (r 6 kv) (by rw [f3_r3 6 (by decide), hfr 6 (by decide)]) ?_
            have b6 : (0 : Int) ≤ r 6 kv ∧ r 6 kv ≤ 383 := ok 6 (kv)
            refine lv_aload_n hx hb dX1_throwCells_81 rfl (lv_at hl 0 rfl) ?_
            refine va_get (D := G.1) (ci := 1) (v := .ref (ad 12)) (C := RX1) (T := TX1) (N := 14) hx hb hts hinX1 hown hK hP 0 rfl rfl 12 (by decide) (hts (.fieldLink RX1 40 "MeanderFarm$River" "thrown" "[I") (List.mem_of_getElem? (i := 2) rfl)) (fun _ h9 => h9) rfl dX1_throwCells_82 ?_
            refine lv_iload_n hx hb dX1_throwCells_85 rfl (lv_at hl 2 rfl) ?_
            refine mf_iald (n := 150) (f := r3 12) hx hb hK hP 10 0 rfl rfl (z := kv) (by omega) (by omega) (by decide) dX1_throwCells_86 ?_
            refine mf_top (r3 12 kv) ((-1)) (by rw [f1_r3]) ?_
            refine vp_callSi (va_Run.run (va_runSN (As := [.int (iI (r 6 kv)), .int (iI ((-1)))]) (rest := [.int (iI (kv)), .ref (ad 13)]) ⟨hx, hb, hml, hown, hts⟩ (c_X2_neighbour l (r 6 kv) ((-1)) (i32_mk (by omega) (by omega)) (i32_mk (by decide) (by decide))) ⟨(va_cnB 2 hts gX1_throwCells_X2_neighbour_n89 rfl rfl rfl (hN.m 29 rfl) (hts (.initialized RX2) (List.mem_of_getElem? (i := 7) rfl)) (by decide +kernel) ⟨Nat.le_of_ble_eq_true rfl, Nat.le_of_ble_eq_true rfl⟩), (hts (.static yX2_neighbour) (List.mem_of_getElem? (i := 6) rfl)), trivial⟩ pureS rfl rfl hl.1 rfl (lv_room (Nat.le_of_ble_eq_true rfl)) dX1_throwCells_87 ⟨(Nat.zero_le _), (Nat.zero_le _)⟩)) (fun q7 hq7 => ?_)
            subst hq7
            refine mf_nm (fun y8 ey8 => ?_)
            have b9 : -1 ≤ y8 ∧ y8 ≤ 383 := by rw [ey8]; exact nbr_b (r 6 kv) (-1)
            refine mf_iast (n := 150) (f := r3 13) hx hb hK hP hD hS 11 0 rfl rfl (z := kv) (x := y8) (by omega) (by omega) (by decide) dX1_throwCells_90 (fun H locs hP hD hS => ?_)
            obtain ⟨r10, er10⟩ : ∃ q : mf_V, q = mf_sF r3 13 (mf_up (r3 13) (kv) (y8)) := ⟨_, rfl⟩
            have hP : va_P G.1 vwCl (RW G h ad r10) H := by rw [er10]; exact hP
            have hD : va_D A (RW G h ad r10) := by rw [er10]; exact hD
            have okr10 : rOK rlo rhi r10 := by rw [er10]; exact rOK_up okr3 13 _ _ (show (-1 : Int) ≤ y8 by omega) (show y8 ≤ (383 : Int) by omega)
            have f1_r10 : r10 13 (kv) = y8 := by rw [er10, mf_sF_s, mf_up_s]
            have f2_r10 : ∀ y, y ≠ (kv) → r10 13 y = r3 13 y := fun y hy => by rw [er10, mf_sF_s, mf_up_n hy]
            have f3_r10 : ∀ q, q ≠ 13 → r10 q = r3 q := fun q hq => by rw [er10, mf_sF_n hq]
            refine lv_iinc (v := iI (kv + 1)) (lv' := [(2, .int (iI (kv + 1))), (0, .ref h), (1, .int (iI (bv)))]) hx hb dX1_throwCells_91 hl (k := 2) rfl (iI_add _ _).symm (by decide) rfl (fun ls hl => ?_)
            refine lv_goto (tgt := 4) hx hb dX1_throwCells_94 (by decide) ?_
            exact ih4 bv (kv + 1) r10 (by omega) (by first | assumption | omega) (by first | assumption | omega) (by first | assumption | omega) (by intro q hq; rw [f3_r10 q (by omega), f3_r3 q (by omega)]; exact hfr q hq) (by exact bendS_old hbe (by omega)) (by intro i h0 h1; rcases (show i < kv ∨ i = kv by omega) with z | z; (have hz := hinv i h0 z; rw [f3_r10 12 (by decide), f2_r3 i (by omega), f2_r10 i (by omega), f3_r3 13 (by decide)]; exact hz); (rw [z, f3_r10 12 (by decide), f1_r3]; exact ⟨by exact thrS_far hlast (by omega) hbe (by omega) (by omega), by rw [f1_r10]; assumption⟩)) _ _ hP hD hS ls (lv_sub hl [1, 2, 0] rfl)
          · skip
            refine lv_iload_n hx hb dX1_throwCells_49 rfl (lv_at hl 2 rfl) ?_
            refine lv_iload_n hx hb dX1_throwCells_50 rfl (lv_at hl 1 rfl) ?_
            refine mf_isub hx hb dX1_throwCells_51 ?_
            refine mf_iconst hx hb dX1_throwCells_52 ?_
            refine mf_icmp_gt (tgt := 70) hx hb dX1_throwCells_53 (by decide) (i32_mk (by omega) (by omega)) (i32_mk (by decide) (by decide)) (fun c11 => ?_) (fun c11 => ?_)
            · skip
              refine lv_aload_n hx hb dX1_throwCells_70 rfl (lv_at hl 0 rfl) ?_
              refine va_get (D := G.1) (ci := 1) (v := .ref (ad 13)) (C := RX1) (T := TX1) (N := 14) hx hb hts hinX1 hown hK hP 0 rfl rfl 13 (by decide) (hts (.fieldLink RX1 43 "MeanderFarm$River" "bank" "[I") (List.mem_of_getElem? (i := 4) rfl)) (fun _ h9 => h9) rfl dX1_throwCells_71 ?_
              refine lv_iload_n hx hb dX1_throwCells_74 rfl (lv_at hl 2 rfl) ?_
              refine lv_aload_n hx hb dX1_throwCells_75 rfl (lv_at hl 0 rfl) ?_
              refine va_get (D := G.1) (ci := 1) (v := .ref (ad 6)) (C := RX1) (T := TX1) (N := 14) hx hb hts hinX1 hown hK hP 0 rfl rfl 6 (by decide) (hts (.fieldLink RX1 31 "MeanderFarm$River" "course" "[I") (List.mem_of_getElem? (i := 5) rfl)) (fun _ h9 => h9) rfl dX1_throwCells_76 ?_
              refine lv_iload_n hx hb dX1_throwCells_79 rfl (lv_at hl 2 rfl) ?_
              refine mf_iald (n := 150) (f := r3 6) hx hb hK hP 7 0 rfl rfl (z := kv) (by omega) (by omega) (by decide) dX1_throwCells_80 ?_
              refine mf_top (r3 6 kv) (r 6 kv) (by rw [f3_r3 6 (by decide), hfr 6 (by decide)]) ?_
              have b12 : (0 : Int) ≤ r 6 kv ∧ r 6 kv ≤ 383 := ok 6 (kv)
              refine lv_aload_n hx hb dX1_throwCells_81 rfl (lv_at hl 0 rfl) ?_
              refine va_get (D := G.1) (ci := 1) (v := .ref (ad 12)) (C := RX1) (T := TX1) (N := 14) hx hb hts hinX1 hown hK hP 0 rfl rfl 12 (by decide) (hts (.fieldLink RX1 40 "MeanderFarm$River" "thrown" "[I") (List.mem_of_getElem? (i := 2) rfl)) (fun _ h9 => h9) rfl dX1_throwCells_82 ?_
              refine lv_iload_n hx hb dX1_throwCells_85 rfl (lv_at hl 2 rfl) ?_
              refine mf_iald (n := 150) (f := r3 12) hx hb hK hP 10 0 rfl rfl (z := kv) (by omega) (by omega) (by decide) dX1_throwCells_86 ?_
              refine mf_top (r3 12 kv) ((-1)) (by rw [f1_r3]) ?_
              refine vp_callSi (va_Run.run (va_runSN (As := [.int (iI (r 6 kv)), .int (iI ((-1)))]) (rest := [.int (iI (kv)), .ref (ad 13)]) ⟨hx, hb, hml, hown, hts⟩ (c_X2_neighbour l (r 6 kv) ((-1)) (i32_mk (by omega) (by omega)) (i32_mk (by decide) (by decide))) ⟨(va_cnB 2 hts gX1_throwCells_X2_neighbour_n89 rfl rfl rfl (hN.m 29 rfl) (hts (.initialized RX2) (List.mem_of_getElem? (i := 7) rfl)) (by decide +kernel) ⟨Nat.le_of_ble_eq_true rfl, Nat.le_of_ble_eq_true rfl⟩), (hts (.static yX2_neighbour) (List.mem_of_getElem? (i := 6) rfl)), trivial⟩ pureS rfl rfl hl.1 rfl (lv_room (Nat.le_of_ble_eq_true rfl)) dX1_throwCells_87 ⟨(Nat.zero_le _), (Nat.zero_le _)⟩)) (fun q13 hq13 => ?_)
              subst hq13
              refine mf_nm (fun y14 ey14 => ?_)
              have b15 : -1 ≤ y14 ∧ y14 ≤ 383 := by rw [ey14]; exact nbr_b (r 6 kv) (-1)
              refine mf_iast (n := 150) (f := r3 13) hx hb hK hP hD hS 11 0 rfl rfl (z := kv) (x := y14) (by omega) (by omega) (by decide) dX1_throwCells_90 (fun H locs hP hD hS => ?_)
              obtain ⟨r16, er16⟩ : ∃ q : mf_V, q = mf_sF r3 13 (mf_up (r3 13) (kv) (y14)) := ⟨_, rfl⟩
              have hP : va_P G.1 vwCl (RW G h ad r16) H := by rw [er16]; exact hP
              have hD : va_D A (RW G h ad r16) := by rw [er16]; exact hD
              have okr16 : rOK rlo rhi r16 := by rw [er16]; exact rOK_up okr3 13 _ _ (show (-1 : Int) ≤ y14 by omega) (show y14 ≤ (383 : Int) by omega)
              have f1_r16 : r16 13 (kv) = y14 := by rw [er16, mf_sF_s, mf_up_s]
              have f2_r16 : ∀ y, y ≠ (kv) → r16 13 y = r3 13 y := fun y hy => by rw [er16, mf_sF_s, mf_up_n hy]
              have f3_r16 : ∀ q, q ≠ 13 → r16 q = r3 q := fun q hq => by rw [er16, mf_sF_n hq]
              refine lv_iinc (v := iI (kv + 1)) (lv' := [(2, .int (iI (kv + 1))), (0, .ref h), (1, .int (iI (bv)))]) hx hb dX1_throwCells_91 hl (k := 2) rfl (iI_add _ _).symm (by decide) rfl (fun ls hl => ?_)
              refine lv_goto (tgt := 4) hx hb dX1_throwCells_94 (by decide) ?_
              exact ih4 bv (kv + 1) r16 (by omega) (by first | assumption | omega) (by first | assumption | omega) (by first | assumption | omega) (by intro q hq; rw [f3_r16 q (by omega), f3_r3 q (by omega)]; exact hfr q hq) (by exact bendS_old hbe (by omega)) (by intro i h0 h1; rcases (show i < kv ∨ i = kv by omega) with z | z; (have hz := hinv i h0 z; rw [f3_r16 12 (by decide), f2_r3 i (by omega), f2_r16 i (by omega), f3_r3 13 (by decide)]; exact hz); (rw [z, f3_r16 12 (by decide), f1_r3]; exact ⟨by exact thrS_far hlast (by omega) hbe (by omega) (by omega), by rw [f1_r16]; assumption⟩)) _ _ hP hD hS ls (lv_sub hl [1, 2, 0] rfl)
            · skip
              refine lv_aload_n hx hb dX1_throwCells_56 rfl (lv_at hl 0 rfl) ?_
              refine va_get (D := G.1) (ci := 1) (v := .ref (ad 12)) (C := RX1) (T := TX1) (N := 14) hx hb hts hinX1 hown hK hP 0 rfl rfl 12 (by decide) (hts (.fieldLink RX1 40 "MeanderFarm$River" "thrown" "[I") (List.mem_of_getElem? (i := 2) rfl)) (fun _ h9 => h9) rfl dX1_throwCells_57 ?_
              refine lv_iload_n hx hb dX1_throwCells_60 rfl (lv_at hl 2 rfl) ?_
              refine lv_aload_n hx hb dX1_throwCells_61 rfl (lv_at hl 0 rfl) ?_
              refine va_get (D := G.1) (ci := 1) (v := .ref (ad 11)) (C := RX1) (T := TX1) (N := 14) hx hb hts hinX1 hown hK hP 0 rfl rfl 11 (by decide) (hts (.fieldLink RX1 37 "MeanderFarm$River" "direction" "[I") (List.mem_of_getElem? (i := 3) rfl)) (fun _ h9 => h9) rfl dX1_throwCells_62 ?_
              refine lv_iload_n hx hb dX1_throwCells_65 rfl (lv_at hl 1 rfl) ?_
              refine mf_iconst hx hb dX1_throwCells_66 ?_
              refine mf_isub hx hb dX1_throwCells_67 ?_
              refine mf_iald (n := 150) (f := r3 11) hx hb hK hP 9 0 rfl rfl (z := bv - 1) (by omega) (by omega) (by decide) dX1_throwCells_68 ?_
              refine mf_top (r3 11 (bv - 1)) (r 11 (bv - 1)) (by rw [f3_r3 11 (by decide), hfr 11 (by decide)]) ?_
              have b17 : (-1 : Int) ≤ r 11 (bv - 1) ∧ r 11 (bv - 1) ≤ 3 := ok 11 (bv - 1)
              refine mf_iast (n := 150) (f := r3 12) hx hb hK hP hD hS 10 0 rfl rfl (z := kv) (x := r 11 (bv - 1)) (by omega) (by omega) (by decide) dX1_throwCells_69 (fun H locs hP hD hS => ?_)
              obtain ⟨r18, er18⟩ : ∃ q : mf_V, q = mf_sF r3 12 (mf_up (r3 12) (kv) (r 11 (bv - 1))) := ⟨_, rfl⟩
              have hP : va_P G.1 vwCl (RW G h ad r18) H := by rw [er18]; exact hP
              have hD : va_D A (RW G h ad r18) := by rw [er18]; exact hD
              have okr18 : rOK rlo rhi r18 := by rw [er18]; exact rOK_up okr3 12 _ _ (show (-1 : Int) ≤ r 11 (bv - 1) by omega) (show r 11 (bv - 1) ≤ (3 : Int) by omega)
              have f1_r18 : r18 12 (kv) = r 11 (bv - 1) := by rw [er18, mf_sF_s, mf_up_s]
              have f2_r18 : ∀ y, y ≠ (kv) → r18 12 y = r3 12 y := fun y hy => by rw [er18, mf_sF_s, mf_up_n hy]
              have f3_r18 : ∀ q, q ≠ 12 → r18 q = r3 q := fun q hq => by rw [er18, mf_sF_n hq]
              refine lv_aload_n hx hb dX1_throwCells_70 rfl (lv_at hl 0 rfl) ?_
              refine va_get (D := G.1) (ci := 1) (v := .ref (ad 13)) (C := RX1) (T := TX1) (N := 14) hx hb hts hinX1 hown hK hP 0 rfl rfl 13 (by decide) (hts (.fieldLink RX1 43 "MeanderFarm$River" "bank" "[I") (List.mem_of_getElem? (i := 4) rfl)) (fun _ h9 => h9) rfl dX1_throwCells_71 ?_
              refine lv_iload_n hx hb dX1_throwCells_74 rfl (lv_at hl 2 rfl) ?_
              refine lv_aload_n hx hb dX1_throwCells_75 rfl (lv_at hl 0 rfl) ?_
              refine va_get (D := G.1) (ci := 1) (v := .ref (ad 6)) (C := RX1) (T := TX1) (N := 14) hx hb hts hinX1 hown hK hP 0 rfl rfl 6 (by decide) (hts (.fieldLink RX1 31 "MeanderFarm$River" "course" "[I") (List.mem_of_getElem? (i := 5) rfl)) (fun _ h9 => h9) rfl dX1_throwCells_76 ?_
              refine lv_iload_n hx hb dX1_throwCells_79 rfl (lv_at hl 2 rfl) ?_
              refine mf_iald (n := 150) (f := r18 6) hx hb hK hP 7 0 rfl rfl (z := kv) (by omega) (by omega) (by decide) dX1_throwCells_80 ?_
              refine mf_top (r18 6 kv) (r 6 kv) (by rw [f3_r18 6 (by decide), f3_r3 6 (by decide), hfr 6 (by decide)]) ?_
              have b19 : (0 : Int) ≤ r 6 kv ∧ r 6 kv ≤ 383 := ok 6 (kv)
              refine lv_aload_n hx hb dX1_throwCells_81 rfl (lv_at hl 0 rfl) ?_
              refine va_get (D := G.1) (ci := 1) (v := .ref (ad 12)) (C := RX1) (T := TX1) (N := 14) hx hb hts hinX1 hown hK hP 0 rfl rfl 12 (by decide) (hts (.fieldLink RX1 40 "MeanderFarm$River" "thrown" "[I") (List.mem_of_getElem? (i := 2) rfl)) (fun _ h9 => h9) rfl dX1_throwCells_82 ?_
              refine lv_iload_n hx hb dX1_throwCells_85 rfl (lv_at hl 2 rfl) ?_
              refine mf_iald (n := 150) (f := r18 12) hx hb hK hP 10 0 rfl rfl (z := kv) (by omega) (by omega) (by decide) dX1_throwCells_86 ?_
              refine mf_top (r18 12 kv) (r 11 (bv - 1)) (by rw [f1_r18]) ?_
              refine vp_callSi (va_Run.run (va_runSN (As := [.int (iI (r 6 kv)), .int (iI (r 11 (bv - 1)))]) (rest := [.int (iI (kv)), .ref (ad 13)]) ⟨hx, hb, hml, hown, hts⟩ (c_X2_neighbour l (r 6 kv) (r 11 (bv - 1)) (i32_mk (by omega) (by omega)) (i32_mk (by omega) (by omega))) ⟨(va_cnB 2 hts gX1_throwCells_X2_neighbour_n89 rfl rfl rfl (hN.m 29 rfl) (hts (.initialized RX2) (List.mem_of_getElem? (i := 7) rfl)) (by decide +kernel) ⟨Nat.le_of_ble_eq_true rfl, Nat.le_of_ble_eq_true rfl⟩), (hts (.static yX2_neighbour) (List.mem_of_getElem? (i := 6) rfl)), trivial⟩ pureS rfl rfl hl.1 rfl (lv_room (Nat.le_of_ble_eq_true rfl)) dX1_throwCells_87 ⟨(Nat.zero_le _), (Nat.zero_le _)⟩)) (fun q20 hq20 => ?_)
              subst hq20
              refine mf_nm (fun y21 ey21 => ?_)
              have b22 : -1 ≤ y21 ∧ y21 ≤ 383 := by rw [ey21]; exact nbr_b (r 6 kv) (r 11 (bv - 1))
              refine mf_iast (n := 150) (f := r18 13) hx hb hK hP hD hS 11 0 rfl rfl (z := kv) (x := y21) (by omega) (by omega) (by decide) dX1_throwCells_90 (fun H locs hP hD hS => ?_)
              obtain ⟨r23, er23⟩ : ∃ q : mf_V, q = mf_sF r18 13 (mf_up (r18 13) (kv) (y21)) := ⟨_, rfl⟩
              have hP : va_P G.1 vwCl (RW G h ad r23) H := by rw [er23]; exact hP
              have hD : va_D A (RW G h ad r23) := by rw [er23]; exact hD
              have okr23 : rOK rlo rhi r23 := by rw [er23]; exact rOK_up okr18 13 _ _ (show (-1 : Int) ≤ y21 by omega) (show y21 ≤ (383 : Int) by omega)
              have f1_r23 : r23 13 (kv) = y21 := by rw [er23, mf_sF_s, mf_up_s]
              have f2_r23 : ∀ y, y ≠ (kv) → r23 13 y = r18 13 y := fun y hy => by rw [er23, mf_sF_s, mf_up_n hy]
              have f3_r23 : ∀ q, q ≠ 13 → r23 q = r18 q := fun q hq => by rw [er23, mf_sF_n hq]
              refine lv_iinc (v := iI (kv + 1)) (lv' := [(2, .int (iI (kv + 1))), (0, .ref h), (1, .int (iI (bv)))]) hx hb dX1_throwCells_91 hl (k := 2) rfl (iI_add _ _).symm (by decide) rfl (fun ls hl => ?_)
              refine lv_goto (tgt := 4) hx hb dX1_throwCells_94 (by decide) ?_
              exact ih4 bv (kv + 1) r23 (by omega) (by first | assumption | omega) (by first | assumption | omega) (by first | assumption | omega) (by intro q hq; rw [f3_r23 q (by omega), f3_r18 q (by omega), f3_r3 q (by omega)]; exact hfr q hq) (by exact bendS_old hbe (by omega)) (by intro i h0 h1; rcases (show i < kv ∨ i = kv by omega) with z | z; (have hz := hinv i h0 z; rw [f3_r23 12 (by decide), f2_r18 i (by omega), f2_r3 i (by omega), f2_r23 i (by omega), f3_r18 13 (by decide), f3_r3 13 (by decide)]; exact hz); (rw [z, f3_r23 12 (by decide), f1_r18]; exact ⟨by exact thrS_near hlast (by omega) hbe (by omega) (by omega) (by omega), by rw [f1_r23]; assumption⟩)) _ _ hP hD hS ls (lv_sub hl [1, 2, 0] rfl)
        · skip
          refine lv_aload_n hx hb dX1_throwCells_23 rfl (lv_at hl 0 rfl) ?_
          refine va_get (D := G.1) (ci := 1) (v := .ref (ad 11)) (C := RX1) (T := TX1) (N := 14) hx hb hts hinX1 hown hK hP 0 rfl rfl 11 (by decide) (hts (.fieldLink RX1 37 "MeanderFarm$River" "direction" "[I") (List.mem_of_getElem? (i := 3) rfl)) (fun _ h9 => h9) rfl dX1_throwCells_24 ?_
          refine lv_iload_n hx hb dX1_throwCells_27 rfl (lv_at hl 2 rfl) ?_
          refine mf_iald (n := 150) (f := r3 11) hx hb hK hP 9 0 rfl rfl (z := kv) (by omega) (by omega) (by decide) dX1_throwCells_28 ?_
          refine mf_top (r3 11 kv) (r 11 kv) (by rw [f3_r3 11 (by decide), hfr 11 (by decide)]) ?_
          have b24 : (-1 : Int) ≤ r 11 kv ∧ r 11 kv ≤ 3 := ok 11 (kv)
          refine lv_aload_n hx hb dX1_throwCells_29 rfl (lv_at hl 0 rfl) ?_
          refine va_get (D := G.1) (ci := 1) (v := .ref (ad 11)) (C := RX1) (T := TX1) (N := 14) hx hb hts hinX1 hown hK hP 0 rfl rfl 11 (by decide) (hts (.fieldLink RX1 37 "MeanderFarm$River" "direction" "[I") (List.mem_of_getElem? (i := 3) rfl)) (fun _ h9 => h9) rfl dX1_throwCells_30 ?_
          refine lv_iload_n hx hb dX1_throwCells_33 rfl (lv_at hl 2 rfl) ?_
          refine mf_iconst hx hb dX1_throwCells_34 ?_
          refine mf_isub hx hb dX1_throwCells_35 ?_
          refine mf_iald (n := 150) (f := r3 11) hx hb hK hP 9 0 rfl rfl (z := kv - 1) (by omega) (by omega) (by decide) dX1_throwCells_36 ?_
          refine mf_top (r3 11 (kv - 1)) (r 11 (kv - 1)) (by rw [f3_r3 11 (by decide), hfr 11 (by decide)]) ?_
          have b25 : (-1 : Int) ≤ r 11 (kv - 1) ∧ r 11 (kv - 1) ≤ 3 := ok 11 (kv - 1)
          refine mf_icmp_eq (tgt := 45) hx hb dX1_throwCells_37 (by decide) (i32_mk (by omega) (by omega)) (i32_mk (by omega) (by omega)) (fun c26 => ?_) (fun c26 => ?_)
          · skip
            refine lv_iload_n hx hb dX1_throwCells_45 rfl (lv_at hl 1 rfl) ?_
            refine mf_if_le (tgt := 70) hx hb dX1_throwCells_46 (by decide) (i32_mk (by omega) (by omega)) (fun c27 => ?_) (fun c27 => ?_)
            · skip
              refine lv_aload_n hx hb dX1_throwCells_70 rfl (lv_at hl 0 rfl) ?_
              refine va_get (D := G.1) (ci := 1) (v := .ref (ad 13)) (C := RX1) (T := TX1) (N := 14) hx hb hts hinX1 hown hK hP 0 rfl rfl 13 (by decide) (hts (.fieldLink RX1 43 "MeanderFarm$River" "bank" "[I") (List.mem_of_getElem? (i := 4) rfl)) (fun _ h9 => h9) rfl dX1_throwCells_71 ?_
              refine lv_iload_n hx hb dX1_throwCells_74 rfl (lv_at hl 2 rfl) ?_
              refine lv_aload_n hx hb dX1_throwCells_75 rfl (lv_at hl 0 rfl) ?_
              refine va_get (D := G.1) (ci := 1) (v := .ref (ad 6)) (C := RX1) (T := TX1) (N := 14) hx hb hts hinX1 hown hK hP 0 rfl rfl 6 (by decide) (hts (.fieldLink RX1 31 "MeanderFarm$River" "course" "[I") (List.mem_of_getElem? (i := 5) rfl)) (fun _ h9 => h9) rfl dX1_throwCells_76 ?_
              refine lv_iload_n hx hb dX1_throwCells_79 rfl (lv_at hl 2 rfl) ?_
              refine mf_iald (n := 150) (f := r3 6) hx hb hK hP 7 0 rfl rfl (z := kv) (by omega) (by omega) (by decide) dX1_throwCells_80 ?_
              refine mf_top (r3 6 kv) (r 6 kv) (by rw [f3_r3 6 (by decide), hfr 6 (by decide)]) ?_
              have b28 : (0 : Int) ≤ r 6 kv ∧ r 6 kv ≤ 383 := ok 6 (kv)
              refine lv_aload_n hx hb dX1_throwCells_81 rfl (lv_at hl 0 rfl) ?_
              refine va_get (D := G.1) (ci := 1) (v := .ref (ad 12)) (C := RX1) (T := TX1) (N := 14) hx hb hts hinX1 hown hK hP 0 rfl rfl 12 (by decide) (hts (.fieldLink RX1 40 "MeanderFarm$River" "thrown" "[I") (List.mem_of_getElem? (i := 2) rfl)) (fun _ h9 => h9) rfl dX1_throwCells_82 ?_
              refine lv_iload_n hx hb dX1_throwCells_85 rfl (lv_at hl 2 rfl) ?_
              refine mf_iald (n := 150) (f := r3 12) hx hb hK hP 10 0 rfl rfl (z := kv) (by omega) (by omega) (by decide) dX1_throwCells_86 ?_
              refine mf_top (r3 12 kv) ((-1)) (by rw [f1_r3]) ?_
              refine vp_callSi (va_Run.run (va_runSN (As := [.int (iI (r 6 kv)), .int (iI ((-1)))]) (rest := [.int (iI (kv)), .ref (ad 13)]) ⟨hx, hb, hml, hown, hts⟩ (c_X2_neighbour l (r 6 kv) ((-1)) (i32_mk (by omega) (by omega)) (i32_mk (by decide) (by decide))) ⟨(va_cnB 2 hts gX1_throwCells_X2_neighbour_n89 rfl rfl rfl (hN.m 29 rfl) (hts (.initialized RX2) (List.mem_of_getElem? (i := 7) rfl)) (by decide +kernel) ⟨Nat.le_of_ble_eq_true rfl, Nat.le_of_ble_eq_true rfl⟩), (hts (.static yX2_neighbour) (List.mem_of_getElem? (i := 6) rfl)), trivial⟩ pureS rfl rfl hl.1 rfl (lv_room (Nat.le_of_ble_eq_true rfl)) dX1_throwCells_87 ⟨(Nat.zero_le _), (Nat.zero_le _)⟩)) (fun q29 hq29 => ?_)
              subst hq29
              refine mf_nm (fun y30 ey30 => ?_)
              have b31 : -1 ≤ y30 ∧ y30 ≤ 383 := by rw [ey30]; exact nbr_b (r 6 kv) (-1)
              refine mf_iast (n := 150) (f := r3 13) hx hb hK hP hD hS 11 0 rfl rfl (z := kv) (x := y30) (by omega) (by omega) (by decide) dX1_throwCells_90 (fun H locs hP hD hS => ?_)
              obtain ⟨r32, er32⟩ : ∃ q : mf_V, q = mf_sF r3 13 (mf_up (r3 13) (kv) (y30)) := ⟨_, rfl⟩
              have hP : va_P G.1 vwCl (RW G h ad r32) H := by rw [er32]; exact hP
              have hD : va_D A (RW G h ad r32) := by rw [er32]; exact hD
              have okr32 : rOK rlo rhi r32 := by rw [er32]; exact rOK_up okr3 13 _ _ (show (-1 : Int) ≤ y30 by omega) (show y30 ≤ (383 : Int) by omega)
              have f1_r32 : r32 13 (kv) = y30 := by rw [er32, mf_sF_s, mf_up_s]
              have f2_r32 : ∀ y, y ≠ (kv) → r32 13 y = r3 13 y := fun y hy => by rw [er32, mf_sF_s, mf_up_n hy]
              have f3_r32 : ∀ q, q ≠ 13 → r32 q = r3 q := fun q hq => by rw [er32, mf_sF_n hq]
              refine lv_iinc (v := iI (kv + 1)) (lv' := [(2, .int (iI (kv + 1))), (0, .ref h), (1, .int (iI (bv)))]) hx hb dX1_throwCells_91 hl (k := 2) rfl (iI_add _ _).symm (by decide) rfl (fun ls hl => ?_)
              refine lv_goto (tgt := 4) hx hb dX1_throwCells_94 (by decide) ?_
              exact ih4 bv (kv + 1) r32 (by omega) (by first | assumption | omega) (by first | assumption | omega) (by first | assumption | omega) (by intro q hq; rw [f3_r32 q (by omega), f3_r3 q (by omega)]; exact hfr q hq) (by exact bendS_old hbe (by omega)) (by intro i h0 h1; rcases (show i < kv ∨ i = kv by omega) with z | z; (have hz := hinv i h0 z; rw [f3_r32 12 (by decide), f2_r3 i (by omega), f2_r32 i (by omega), f3_r3 13 (by decide)]; exact hz); (rw [z, f3_r32 12 (by decide), f1_r3]; exact ⟨by exact thrS_far hlast (by omega) hbe (by omega) (by omega), by rw [f1_r32]; assumption⟩)) _ _ hP hD hS ls (lv_sub hl [1, 2, 0] rfl)
            · skip
              refine lv_iload_n hx hb dX1_throwCells_49 rfl (lv_at hl 2 rfl) ?_
              refine lv_iload_n hx hb dX1_throwCells_50 rfl (lv_at hl 1 rfl) ?_
              refine mf_isub hx hb dX1_throwCells_51 ?_
              refine mf_iconst hx hb dX1_throwCells_52 ?_
              refine mf_icmp_gt (tgt := 70) hx hb dX1_throwCells_53 (by decide) (i32_mk (by omega) (by omega)) (i32_mk (by decide) (by decide)) (fun c33 => ?_) (fun c33 => ?_)
              · skip
                refine lv_aload_n hx hb dX1_throwCells_70 rfl (lv_at hl 0 rfl) ?_
                refine va_get (D := G.1) (ci := 1) (v := .ref (ad 13)) (C := RX1) (T := TX1) (N := 14) hx hb hts hinX1 hown hK hP 0 rfl rfl 13 (by decide) (hts (.fieldLink RX1 43 "MeanderFarm$River" "bank" "[I") (List.mem_of_getElem? (i := 4) rfl)) (fun _ h9 => h9) rfl dX1_throwCells_71 ?_
                refine lv_iload_n hx hb dX1_throwCells_74 rfl (lv_at hl 2 rfl) ?_
                refine lv_aload_n hx hb dX1_throwCells_75 rfl (lv_at hl 0 rfl) ?_
                refine va_get (D := G.1) (ci := 1) (v := .ref (ad 6)) (C := RX1) (T := TX1) (N := 14) hx hb hts hinX1 hown hK hP 0 rfl rfl 6 (by decide) (hts (.fieldLink RX1 31 "MeanderFarm$River" "course" "[I") (List.mem_of_getElem? (i := 5) rfl)) (fun _ h9 => h9) rfl dX1_throwCells_76 ?_
                refine lv_iload_n hx hb dX1_throwCells_79 rfl (lv_at hl 2 rfl) ?_
                refine mf_iald (n := 150) (f := r3 6) hx hb hK hP 7 0 rfl rfl (z := kv) (by omega) (by omega) (by decide) dX1_throwCells_80 ?_
                refine mf_top (r3 6 kv) (r 6 kv) (by rw [f3_r3 6 (by decide), hfr 6 (by decide)]) ?_
                have b34 : (0 : Int) ≤ r 6 kv ∧ r 6 kv ≤ 383 := ok 6 (kv)
                refine lv_aload_n hx hb dX1_throwCells_81 rfl (lv_at hl 0 rfl) ?_
                refine va_get (D := G.1) (ci := 1) (v := .ref (ad 12)) (C := RX1) (T := TX1) (N := 14) hx hb hts hinX1 hown hK hP 0 rfl rfl 12 (by decide) (hts (.fieldLink RX1 40 "MeanderFarm$River" "thrown" "[I") (List.mem_of_getElem? (i := 2) rfl)) (fun _ h9 => h9) rfl dX1_throwCells_82 ?_
                refine lv_iload_n hx hb dX1_throwCells_85 rfl (lv_at hl 2 rfl) ?_
                refine mf_iald (n := 150) (f := r3 12) hx hb hK hP 10 0 rfl rfl (z := kv) (by omega) (by omega) (by decide) dX1_throwCells_86 ?_
                refine mf_top (r3 12 kv) ((-1)) (by rw [f1_r3]) ?_
                refine vp_callSi (va_Run.run (va_runSN (As := [.int (iI (r 6 kv)), .int (iI ((-1)))]) (rest := [.int (iI (kv)), .ref (ad 13)]) ⟨hx, hb, hml, hown, hts⟩ (c_X2_neighbour l (r 6 kv) ((-1)) (i32_mk (by omega) (by omega)) (i32_mk (by decide) (by decide))) ⟨(va_cnB 2 hts gX1_throwCells_X2_neighbour_n89 rfl rfl rfl (hN.m 29 rfl) (hts (.initialized RX2) (List.mem_of_getElem? (i := 7) rfl)) (by decide +kernel) ⟨Nat.le_of_ble_eq_true rfl, Nat.le_of_ble_eq_true rfl⟩), (hts (.static yX2_neighbour) (List.mem_of_getElem? (i := 6) rfl)), trivial⟩ pureS rfl rfl hl.1 rfl (lv_room (Nat.le_of_ble_eq_true rfl)) dX1_throwCells_87 ⟨(Nat.zero_le _), (Nat.zero_le _)⟩)) (fun q35 hq35 => ?_)
                subst hq35
                refine mf_nm (fun y36 ey36 => ?_)
                have b37 : -1 ≤ y36 ∧ y36 ≤ 383 := by rw [ey36]; exact nbr_b (r 6 kv) (-1)
                refine mf_iast (n := 150) (f := r3 13) hx hb hK hP hD hS 11 0 rfl rfl (z := kv) (x := y36) (by omega) (by omega) (by decide) dX1_throwCells_90 (fun H locs hP hD hS => ?_)
                obtain ⟨r38, er38⟩ : ∃ q : mf_V, q = mf_sF r3 13 (mf_up (r3 13) (kv) (y36)) := ⟨_, rfl⟩
                have hP : va_P G.1 vwCl (RW G h ad r38) H := by rw [er38]; exact hP
                have hD : va_D A (RW G h ad r38) := by rw [er38]; exact hD
                have okr38 : rOK rlo rhi r38 := by rw [er38]; exact rOK_up okr3 13 _ _ (show (-1 : Int) ≤ y36 by omega) (show y36 ≤ (383 : Int) by omega)
                have f1_r38 : r38 13 (kv) = y36 := by rw [er38, mf_sF_s, mf_up_s]
                have f2_r38 : ∀ y, y ≠ (kv) → r38 13 y = r3 13 y := fun y hy => by rw [er38, mf_sF_s, mf_up_n hy]
                have f3_r38 : ∀ q, q ≠ 13 → r38 q = r3 q := fun q hq => by rw [er38, mf_sF_n hq]
                refine lv_iinc (v := iI (kv + 1)) (lv' := [(2, .int (iI (kv + 1))), (0, .ref h), (1, .int (iI (bv)))]) hx hb dX1_throwCells_91 hl (k := 2) rfl (iI_add _ _).symm (by decide) rfl (fun ls hl => ?_)
                refine lv_goto (tgt := 4) hx hb dX1_throwCells_94 (by decide) ?_
                exact ih4 bv (kv + 1) r38 (by omega) (by first | assumption | omega) (by first | assumption | omega) (by first | assumption | omega) (by intro q hq; rw [f3_r38 q (by omega), f3_r3 q (by omega)]; exact hfr q hq) (by exact bendS_old hbe (by omega)) (by intro i h0 h1; rcases (show i < kv ∨ i = kv by omega) with z | z; (have hz := hinv i h0 z; rw [f3_r38 12 (by decide), f2_r3 i (by omega), f2_r38 i (by omega), f3_r3 13 (by decide)]; exact hz); (rw [z, f3_r38 12 (by decide), f1_r3]; exact ⟨by exact thrS_far hlast (by omega) hbe (by omega) (by omega), by rw [f1_r38]; assumption⟩)) _ _ hP hD hS ls (lv_sub hl [1, 2, 0] rfl)
              · skip
                refine lv_aload_n hx hb dX1_throwCells_56 rfl (lv_at hl 0 rfl) ?_
                refine va_get (D := G.1) (ci := 1) (v := .ref (ad 12)) (C := RX1) (T := TX1) (N := 14) hx hb hts hinX1 hown hK hP 0 rfl rfl 12 (by decide) (hts (.fieldLink RX1 40 "MeanderFarm$River" "thrown" "[I") (List.mem_of_getElem? (i := 2) rfl)) (fun _ h9 => h9) rfl dX1_throwCells_57 ?_
                refine lv_iload_n hx hb dX1_throwCells_60 rfl (lv_at hl 2 rfl) ?_
                refine lv_aload_n hx hb dX1_throwCells_61 rfl (lv_at hl 0 rfl) ?_
                refine va_get (D := G.1) (ci := 1) (v := .ref (ad 11)) (C := RX1) (T := TX1) (N := 14) hx hb hts hinX1 hown hK hP 0 rfl rfl 11 (by decide) (hts (.fieldLink RX1 37 "MeanderFarm$River" "direction" "[I") (List.mem_of_getElem? (i := 3) rfl)) (fun _ h9 => h9) rfl dX1_throwCells_62 ?_
                refine lv_iload_n hx hb dX1_throwCells_65 rfl (lv_at hl 1 rfl) ?_
                refine mf_iconst hx hb dX1_throwCells_66 ?_
                refine mf_isub hx hb dX1_throwCells_67 ?_
                refine mf_iald (n := 150) (f := r3 11) hx hb hK hP 9 0 rfl rfl (z := bv - 1) (by omega) (by omega) (by decide) dX1_throwCells_68 ?_
                refine mf_top (r3 11 (bv - 1)) (r 11 (bv - 1)) (by rw [f3_r3 11 (by decide), hfr 11 (by decide)]) ?_
                have b39 : (-1 : Int) ≤ r 11 (bv - 1) ∧ r 11 (bv - 1) ≤ 3 := ok 11 (bv - 1)
                refine mf_iast (n := 150) (f := r3 12) hx hb hK hP hD hS 10 0 rfl rfl (z := kv) (x := r 11 (bv - 1)) (by omega) (by omega) (by decide) dX1_throwCells_69 (fun H locs hP hD hS => ?_)
                obtain ⟨r40, er40⟩ : ∃ q : mf_V, q = mf_sF r3 12 (mf_up (r3 12) (kv) (r 11 (bv - 1))) := ⟨_, rfl⟩
                have hP : va_P G.1 vwCl (RW G h ad r40) H := by rw [er40]; exact hP
                have hD : va_D A (RW G h ad r40) := by rw [er40]; exact hD
                have okr40 : rOK rlo rhi r40 := by rw [er40]; exact rOK_up okr3 12 _ _ (show (-1 : Int) ≤ r 11 (bv - 1) by omega) (show r 11 (bv - 1) ≤ (3 : Int) by omega)
                have f1_r40 : r40 12 (kv) = r 11 (bv - 1) := by rw [er40, mf_sF_s, mf_up_s]
                have f2_r40 : ∀ y, y ≠ (kv) → r40 12 y = r3 12 y := fun y hy => by rw [er40, mf_sF_s, mf_up_n hy]
                have f3_r40 : ∀ q, q ≠ 12 → r40 q = r3 q := fun q hq => by rw [er40, mf_sF_n hq]
                refine lv_aload_n hx hb dX1_throwCells_70 rfl (lv_at hl 0 rfl) ?_
                refine va_get (D := G.1) (ci := 1) (v := .ref (ad 13)) (C := RX1) (T := TX1) (N := 14) hx hb hts hinX1 hown hK hP 0 rfl rfl 13 (by decide) (hts (.fieldLink RX1 43 "MeanderFarm$River" "bank" "[I") (List.mem_of_getElem? (i := 4) rfl)) (fun _ h9 => h9) rfl dX1_throwCells_71 ?_
                refine lv_iload_n hx hb dX1_throwCells_74 rfl (lv_at hl 2 rfl) ?_
                refine lv_aload_n hx hb dX1_throwCells_75 rfl (lv_at hl 0 rfl) ?_
                refine va_get (D := G.1) (ci := 1) (v := .ref (ad 6)) (C := RX1) (T := TX1) (N := 14) hx hb hts hinX1 hown hK hP 0 rfl rfl 6 (by decide) (hts (.fieldLink RX1 31 "MeanderFarm$River" "course" "[I") (List.mem_of_getElem? (i := 5) rfl)) (fun _ h9 => h9) rfl dX1_throwCells_76 ?_
                refine lv_iload_n hx hb dX1_throwCells_79 rfl (lv_at hl 2 rfl) ?_
                refine mf_iald (n := 150) (f := r40 6) hx hb hK hP 7 0 rfl rfl (z := kv) (by omega) (by omega) (by decide) dX1_throwCells_80 ?_
                refine mf_top (r40 6 kv) (r 6 kv) (by rw [f3_r40 6 (by decide), f3_r3 6 (by decide), hfr 6 (by decide)]) ?_
                have b41 : (0 : Int) ≤ r 6 kv ∧ r 6 kv ≤ 383 := ok 6 (kv)
                refine lv_aload_n hx hb dX1_throwCells_81 rfl (lv_at hl 0 rfl) ?_
                refine va_get (D := G.1) (ci := 1) (v := .ref (ad 12)) (C := RX1) (T := TX1) (N := 14) hx hb hts hinX1 hown hK hP 0 rfl rfl 12 (by decide) (hts (.fieldLink RX1 40 "MeanderFarm$River" "thrown" "[I") (List.mem_of_getElem? (i := 2) rfl)) (fun _ h9 => h9) rfl dX1_throwCells_82 ?_
                refine lv_iload_n hx hb dX1_throwCells_85 rfl (lv_at hl 2 rfl) ?_
                refine mf_iald (n := 150) (f := r40 12) hx hb hK hP 10 0 rfl rfl (z := kv) (by omega) (by omega) (by decide) dX1_throwCells_86 ?_
                refine mf_top (r40 12 kv) (r 11 (bv - 1)) (by rw [f1_r40]) ?_
                refine vp_callSi (va_Run.run (va_runSN (As := [.int (iI (r 6 kv)), .int (iI (r 11 (bv - 1)))]) (rest := [.int (iI (kv)), .ref (ad 13)]) ⟨hx, hb, hml, hown, hts⟩ (c_X2_neighbour l (r 6 kv) (r 11 (bv - 1)) (i32_mk (by omega) (by omega)) (i32_mk (by omega) (by omega))) ⟨(va_cnB 2 hts gX1_throwCells_X2_neighbour_n89 rfl rfl rfl (hN.m 29 rfl) (hts (.initialized RX2) (List.mem_of_getElem? (i := 7) rfl)) (by decide +kernel) ⟨Nat.le_of_ble_eq_true rfl, Nat.le_of_ble_eq_true rfl⟩), (hts (.static yX2_neighbour) (List.mem_of_getElem? (i := 6) rfl)), trivial⟩ pureS rfl rfl hl.1 rfl (lv_room (Nat.le_of_ble_eq_true rfl)) dX1_throwCells_87 ⟨(Nat.zero_le _), (Nat.zero_le _)⟩)) (fun q42 hq42 => ?_)
                subst hq42
                refine mf_nm (fun y43 ey43 => ?_)
                have b44 : -1 ≤ y43 ∧ y43 ≤ 383 := by rw [ey43]; exact nbr_b (r 6 kv) (r 11 (bv - 1))
                refine mf_iast (n := 150) (f := r40 13) hx hb hK hP hD hS 11 0 rfl rfl (z := kv) (x := y43) (by omega) (by omega) (by decide) dX1_throwCells_90 (fun H locs hP hD hS => ?_)
                obtain ⟨r45, er45⟩ : ∃ q : mf_V, q = mf_sF r40 13 (mf_up (r40 13) (kv) (y43)) := ⟨_, rfl⟩
                have hP : va_P G.1 vwCl (RW G h ad r45) H := by rw [er45]; exact hP
                have hD : va_D A (RW G h ad r45) := by rw [er45]; exact hD
                have okr45 : rOK rlo rhi r45 := by rw [er45]; exact rOK_up okr40 13 _ _ (show (-1 : Int) ≤ y43 by omega) (show y43 ≤ (383 : Int) by omega)
                have f1_r45 : r45 13 (kv) = y43 := by rw [er45, mf_sF_s, mf_up_s]
                have f2_r45 : ∀ y, y ≠ (kv) → r45 13 y = r40 13 y := fun y hy => by rw [er45, mf_sF_s, mf_up_n hy]
                have f3_r45 : ∀ q, q ≠ 13 → r45 q = r40 q := fun q hq => by rw [er45, mf_sF_n hq]
                refine lv_iinc (v := iI (kv + 1)) (lv' := [(2, .int (iI (kv + 1))), (0, .ref h), (1, .int (iI (bv)))]) hx hb dX1_throwCells_91 hl (k := 2) rfl (iI_add _ _).symm (by decide) rfl (fun ls hl => ?_)
                refine lv_goto (tgt := 4) hx hb dX1_throwCells_94 (by decide) ?_
                exact ih4 bv (kv + 1) r45 (by omega) (by first | assumption | omega) (by first | assumption | omega) (by first | assumption | omega) (by intro q hq; rw [f3_r45 q (by omega), f3_r40 q (by omega), f3_r3 q (by omega)]; exact hfr q hq) (by exact bendS_old hbe (by omega)) (by intro i h0 h1; rcases (show i < kv ∨ i = kv by omega) with z | z; (have hz := hinv i h0 z; rw [f3_r45 12 (by decide), f2_r40 i (by omega), f2_r3 i (by omega), f2_r45 i (by omega), f3_r40 13 (by decide), f3_r3 13 (by decide)]; exact hz); (rw [z, f3_r45 12 (by decide), f1_r40]; exact ⟨by exact thrS_near hlast (by omega) hbe (by omega) (by omega) (by omega), by rw [f1_r45]; assumption⟩)) _ _ hP hD hS ls (lv_sub hl [1, 2, 0] rfl)
          · skip
            refine lv_iload_n hx hb dX1_throwCells_40 rfl (lv_at hl 2 rfl) ?_
            refine lv_istore_n (lv' := [(1, .int (iI (kv))), (0, .ref h), (2, .int (iI (kv)))]) hx hb dX1_throwCells_41 rfl hl (by decide) rfl (fun ls hl => ?_)
            refine lv_goto (tgt := 70) hx hb dX1_throwCells_42 (by decide) ?_
            refine lv_aload_n hx hb dX1_throwCells_70 rfl (lv_at hl 1 rfl) ?_
            refine va_get (D := G.1) (ci := 1) (v := .ref (ad 13)) (C := RX1) (T := TX1) (N := 14) hx hb hts hinX1 hown hK hP 0 rfl rfl 13 (by decide) (hts (.fieldLink RX1 43 "MeanderFarm$River" "bank" "[I") (List.mem_of_getElem? (i := 4) rfl)) (fun _ h9 => h9) rfl dX1_throwCells_71 ?_
            refine lv_iload_n hx hb dX1_throwCells_74 rfl (lv_at hl 2 rfl) ?_
            refine lv_aload_n hx hb dX1_throwCells_75 rfl (lv_at hl 1 rfl) ?_
            refine va_get (D := G.1) (ci := 1) (v := .ref (ad 6)) (C := RX1) (T := TX1) (N := 14) hx hb hts hinX1 hown hK hP 0 rfl rfl 6 (by decide) (hts (.fieldLink RX1 31 "MeanderFarm$River" "course" "[I") (List.mem_of_getElem? (i := 5) rfl)) (fun _ h9 => h9) rfl dX1_throwCells_76 ?_
            refine lv_iload_n hx hb dX1_throwCells_79 rfl (lv_at hl 2 rfl) ?_
            refine mf_iald (n := 150) (f := r3 6) hx hb hK hP 7 0 rfl rfl (z := kv) (by omega) (by omega) (by decide) dX1_throwCells_80 ?_
            refine mf_top (r3 6 kv) (r 6 kv) (by rw [f3_r3 6 (by decide), hfr 6 (by decide)]) ?_
            have b46 : (0 : Int) ≤ r 6 kv ∧ r 6 kv ≤ 383 := ok 6 (kv)
            refine lv_aload_n hx hb dX1_throwCells_81 rfl (lv_at hl 1 rfl) ?_
            refine va_get (D := G.1) (ci := 1) (v := .ref (ad 12)) (C := RX1) (T := TX1) (N := 14) hx hb hts hinX1 hown hK hP 0 rfl rfl 12 (by decide) (hts (.fieldLink RX1 40 "MeanderFarm$River" "thrown" "[I") (List.mem_of_getElem? (i := 2) rfl)) (fun _ h9 => h9) rfl dX1_throwCells_82 ?_
            refine lv_iload_n hx hb dX1_throwCells_85 rfl (lv_at hl 2 rfl) ?_
            refine mf_iald (n := 150) (f := r3 12) hx hb hK hP 10 0 rfl rfl (z := kv) (by omega) (by omega) (by decide) dX1_throwCells_86 ?_
            refine mf_top (r3 12 kv) ((-1)) (by rw [f1_r3]) ?_
            refine vp_callSi (va_Run.run (va_runSN (As := [.int (iI (r 6 kv)), .int (iI ((-1)))]) (rest := [.int (iI (kv)), .ref (ad 13)]) ⟨hx, hb, hml, hown, hts⟩ (c_X2_neighbour l (r 6 kv) ((-1)) (i32_mk (by omega) (by omega)) (i32_mk (by decide) (by decide))) ⟨(va_cnB 2 hts gX1_throwCells_X2_neighbour_n89 rfl rfl rfl (hN.m 29 rfl) (hts (.initialized RX2) (List.mem_of_getElem? (i := 7) rfl)) (by decide +kernel) ⟨Nat.le_of_ble_eq_true rfl, Nat.le_of_ble_eq_true rfl⟩), (hts (.static yX2_neighbour) (List.mem_of_getElem? (i := 6) rfl)), trivial⟩ pureS rfl rfl hl.1 rfl (lv_room (Nat.le_of_ble_eq_true rfl)) dX1_throwCells_87 ⟨(Nat.zero_le _), (Nat.zero_le _)⟩)) (fun q47 hq47 => ?_)
            subst hq47
            refine mf_nm (fun y48 ey48 => ?_)
            have b49 : -1 ≤ y48 ∧ y48 ≤ 383 := by rw [ey48]; exact nbr_b (r 6 kv) (-1)
            refine mf_iast (n := 150) (f := r3 13) hx hb hK hP hD hS 11 0 rfl rfl (z := kv) (x := y48) (by omega) (by omega) (by decide) dX1_throwCells_90 (fun H locs hP hD hS => ?_)
            obtain ⟨r50, er50⟩ : ∃ q : mf_V, q = mf_sF r3 13 (mf_up (r3 13) (kv) (y48)) := ⟨_, rfl⟩
            have hP : va_P G.1 vwCl (RW G h ad r50) H := by rw [er50]; exact hP
            have hD : va_D A (RW G h ad r50) := by rw [er50]; exact hD
            have okr50 : rOK rlo rhi r50 := by rw [er50]; exact rOK_up okr3 13 _ _ (show (-1 : Int) ≤ y48 by omega) (show y48 ≤ (383 : Int) by omega)
            have f1_r50 : r50 13 (kv) = y48 := by rw [er50, mf_sF_s, mf_up_s]
            have f2_r50 : ∀ y, y ≠ (kv) → r50 13 y = r3 13 y := fun y hy => by rw [er50, mf_sF_s, mf_up_n hy]
            have f3_r50 : ∀ q, q ≠ 13 → r50 q = r3 q := fun q hq => by rw [er50, mf_sF_n hq]
            refine lv_iinc (v := iI (kv + 1)) (lv' := [(2, .int (iI (kv + 1))), (1, .int (iI (kv))), (0, .ref h)]) hx hb dX1_throwCells_91 hl (k := 2) rfl (iI_add _ _).symm (by decide) rfl (fun ls hl => ?_)
            refine lv_goto (tgt := 4) hx hb dX1_throwCells_94 (by decide) ?_
            exact ih4 kv (kv + 1) r50 (by omega) (by first | assumption | omega) (by first | assumption | omega) (by first | assumption | omega) (by intro q hq; rw [f3_r50 q (by omega), f3_r3 q (by omega)]; exact hfr q hq) (by exact bendS_new (by omega) (by assumption)) (by intro i h0 h1; rcases (show i < kv ∨ i = kv by omega) with z | z; (have hz := hinv i h0 z; rw [f3_r50 12 (by decide), f2_r3 i (by omega), f2_r50 i (by omega), f3_r3 13 (by decide)]; exact hz); (rw [z, f3_r50 12 (by decide), f1_r3]; exact ⟨by exact thrS_bend (by omega) (by assumption), by rw [f1_r50]; assumption⟩)) _ _ hP hD hS ls (lv_sub hl [2, 1, 0] rfl)
  exact lp4 (_ + 1) (-1) 0 r (Nat.lt_succ_self _) (by first | assumption | omega) (by first | assumption | omega) (by first | assumption | omega) (by intro q _; rfl) (by exact Or.inl ⟨rfl, fun q h1 h2 => by omega⟩) (by intro i h0 h1; omega) _ _ hP hD hS ls (lv_sub hl [2, 1, 0] rfl)
