/-! 11.read: what a river tells -/
def msum (f : Int → Int) (k : Int) : Int := Nat.rec (motive := fun _ => Int) 0 (fun n x => x + f n) k.toNat
theorem msum_0 (f : Int → Int) : msum f 0 = 0 := rfl
theorem msum_s (f : Int → Int) {k : Int} (h : 0 ≤ k) : msum f (k + 1) = msum f k + f k := by
  obtain ⟨n, rfl⟩ := Int.eq_ofNat_of_zero_le h
  unfold msum
  rw [show ((n : Int) + 1).toNat = n + 1 by omega, show ((n : Int)).toNat = n by omega]
theorem msum_b {f : Int → Int} {lo hi : Int} (hl : lo ≤ 0) (hh : 0 ≤ hi) (h : ∀ z, lo ≤ f z ∧ f z ≤ hi) : ∀ n : Nat, lo * n ≤ msum f n ∧ msum f n ≤ hi * n := by
  intro n
  induction n with
  | zero => rw [show ((0 : Nat) : Int) = 0 from rfl, msum_0]; omega
  | succ n ih =>
    rw [show ((n + 1 : Nat) : Int) = (n : Int) + 1 from rfl, msum_s f (by omega), Int.mul_add, Int.mul_add]
    have := h n
    omega
def neckP (r : mf_V) (i j : Int) : Prop := inC r i ∧ inC r j ∧ 3 ≤ j - i ∧ ¬ dirTo (r 6 i) (r 6 j) = -1
/-- the cell across which one comes to the farthest number, by the first k sides -/
noncomputable def farG (r : mf_V) (i : Int) (k : Int) : Int := Nat.rec (motive := fun _ => Int) (-1) (fun n x => mf_if (3 ≤ placeOfF r (nbr (cellAtF r i) n) - i ∧ x < placeOfF r (nbr (cellAtF r i) n)) (placeOfF r (nbr (cellAtF r i) n)) x) k.toNat
theorem farG_0 (r : mf_V) (i : Int) : farG r i 0 = -1 := rfl
theorem farG_s (r : mf_V) (i : Int) {k : Int} (h : 0 ≤ k) : farG r i (k + 1) = mf_if (3 ≤ placeOfF r (nbr (cellAtF r i) k) - i ∧ farG r i k < placeOfF r (nbr (cellAtF r i) k)) (placeOfF r (nbr (cellAtF r i) k)) (farG r i k) := by
  obtain ⟨n, rfl⟩ := Int.eq_ofNat_of_zero_le h
  unfold farG
  rw [show ((n : Int) + 1).toNat = n + 1 by omega, show ((n : Int)).toNat = n by omega]
noncomputable def farF (r : mf_V) (i : Int) : Int := farG r i 4
theorem farG_b {r : mf_V} (h : rOK rlo rhi r) (i : Int) : ∀ n : Nat, -1 ≤ farG r i n ∧ farG r i n ≤ 149 := by
  intro n
  induction n with
  | zero => rw [show ((0 : Nat) : Int) = 0 from rfl, farG_0]; omega
  | succ n ih =>
    rw [show ((n + 1 : Nat) : Int) = (n : Int) + 1 from rfl, farG_s r i (by omega)]
    have b := placeOfF_b h (nbr (cellAtF r i) n)
    by_cases q : 3 ≤ placeOfF r (nbr (cellAtF r i) n) - i ∧ farG r i n < placeOfF r (nbr (cellAtF r i) n)
    · rw [mf_if_t q]; exact b
    · rw [mf_if_f q]; exact ih
theorem farF_b {r : mf_V} (h : rOK rlo rhi r) (i : Int) : -1 ≤ farF r i ∧ farF r i ≤ 149 := farG_b h i 4
/-- the widest neck of the first k cells, and how far apart its ends are -/
noncomputable def widG (r : mf_V) (k : Int) : Int × Int := Nat.rec (motive := fun _ => Int × Int) (-1, 0) (fun n x => @ite _ (x.2 < farF r n - n) (Classical.propDecidable _) ((n : Int), farF r n - n) x) k.toNat
theorem widG_0 (r : mf_V) : widG r 0 = (-1, 0) := rfl
theorem widG_s (r : mf_V) {k : Int} (h : 0 ≤ k) : widG r (k + 1) = @ite _ ((widG r k).2 < farF r k - k) (Classical.propDecidable _) (k, farF r k - k) (widG r k) := by
  obtain ⟨n, rfl⟩ := Int.eq_ofNat_of_zero_le h
  unfold widG
  rw [show ((n : Int) + 1).toNat = n + 1 by omega, show ((n : Int)).toNat = n by omega]
theorem widG_t (r : mf_V) {k : Int} (h : 0 ≤ k) (q : (widG r k).2 < farF r k - k) : widG r (k + 1) = (k, farF r k - k) := by rw [widG_s r h]; exact if_pos q
theorem widG_f (r : mf_V) {k : Int} (h : 0 ≤ k) (q : ¬ (widG r k).2 < farF r k - k) : widG r (k + 1) = widG r k := by rw [widG_s r h]; exact if_neg q
noncomputable def widF (r : mf_V) : Int := (widG r (r 7 0)).1
noncomputable def lyl (r : mf_V) (c : Int) : Int := mf_if (0 ≤ c ∧ c < 384) (max 0 (r 3 c - r 8 0)) 0
noncomputable def neckF (r : mf_V) : Int := msum (fun i => msum (fun d => bP (3 ≤ placeOfF r (nbr (r 6 i) d) - i)) 4) (r 7 0)
noncomputable def lakesF (r : mf_V) : Int := msum (fun c => bP (r 8 0 < r 3 c)) 384
noncomputable def stonesF (r : mf_V) : Int := msum (fun c => bP (¬ r 2 c = 0)) 384
noncomputable def bendsF (r : mf_V) : Int := msum (fun c => bP (1 ≤ c ∧ ¬ strP r c)) (r 7 0 - 1)
def wearF (r : mf_V) : Int := msum (r 1) 384
theorem lyl_b {r : mf_V} (h : rOK rlo rhi r) (c : Int) : 0 ≤ lyl r c ∧ lyl r c ≤ 100000 := by
  unfold lyl
  by_cases q : 0 ≤ c ∧ c < 384
  · rw [mf_if_t q]; have b : (0 : Int) ≤ r 3 c ∧ r 3 c ≤ 100000 := h 3 c; have b2 : (0 : Int) ≤ r 8 0 ∧ r 8 0 ≤ 90000 := h 8 0; omega
  · rw [mf_if_f q]; omega
theorem cnt_b (P : Int → Prop) (n : Nat) : 0 ≤ msum (fun c => bP (P c)) n ∧ msum (fun c => bP (P c)) n ≤ n := by
  have := msum_b (f := fun c => bP (P c)) (lo := 0) (hi := 1) (by omega) (by omega) (fun z => bP_01 _) n
  omega
theorem lakesF_b (r : mf_V) : 0 ≤ lakesF r ∧ lakesF r ≤ 384 := cnt_b _ 384
theorem stonesF_b (r : mf_V) : 0 ≤ stonesF r ∧ stonesF r ≤ 384 := cnt_b _ 384
set_option maxHeartbeats 4000000 in
set_option maxRecDepth 100000 in
theorem c_X1_isInCourse (l : Launch) (G : mf_G) (h : Nat) (ad : Nat → Nat) (r : mf_V) (iv : Int) (hiv : i32 iv) (ok : rOK rlo rhi r) : Met l yX1_isInCourse wsX1_isInCourse ({ frames := 0, cells := 0, slots := 0, locals := 0 }) (va_Pc [.ref h, .int (iI (iv))] (RdP G (RW G h ad r))) (vp_Si (fun q => q = iI (bP (inC r iv)))) 0 0 (fun _ => False) := by
  refine Met.ofW (cc := cX1_isInCourse) (maxL := 2) (ret := (some .boolean)) (by decide) rfl ?_
  intro p e s m args below meth c s₁ B hml hv
  obtain ⟨rfl, hP, hK, hN⟩ := hv
  have hx := B.exec
  have hb := B.bytes
  have hr := B.returns
  have hts := atoms_spec (ws := wsX1_isInCourse) B.pre
  have hown : s.vm.findClass RX1 = some m.cls := findClass_of_methodNamed B.named
  have hlocks := B.notSynchronized
  have hinX1 : ∀ w ∈ u_ws RX1 TX1 14, w ∈ wsX1_isInCourse := fun w h => List.mem_cons_of_mem _ (List.mem_append_right _ h)
  have hl := lv_entry ([.ref h, .int (iI (iv))]) (n := 2) (Nat.le_of_ble_eq_true rfl)
  rw [lg_entry_eq]
  generalize (lg_sl ([.ref h, .int (iI (iv))]) ++ List.replicate (2 - (lg_sl ([.ref h, .int (iI (iv))])).length) Slot.unset).toArray = ls at hl ⊢
  have hl : lv_has ls 2 [(0, .ref h), (1, .int (iI (iv)))] := hl
  have hiv1 := hiv.1
  have hiv2 := hiv.2
  have okLr : (0 : Int) ≤ r 7 0 ∧ r 7 0 ≤ 150 := ok 7 0
  refine lv_iload_n hx hb dX1_isInCourse_0 rfl (lv_at hl 1 rfl) ?_
  refine mf_if_lt (tgt := 23) hx hb dX1_isInCourse_1 (by decide) (i32_mk (by omega) (by omega)) (fun c1 => ?_) (fun c1 => ?_)
  · skip
    refine mf_iconst hx hb dX1_isInCourse_23 ?_
    exact W.zret hx hb hr (mf_nar01 (by omega)) (fun t ht hW => ⟨_, rfl, (congrArg iI (bP_f (by unfold inC; omega)).symm), ht⟩) t_nil dX1_isInCourse_24
  · skip
    refine lv_iload_n hx hb dX1_isInCourse_4 rfl (lv_at hl 1 rfl) ?_
    refine lv_aload_n hx hb dX1_isInCourse_5 rfl (lv_at hl 0 rfl) ?_
    refine va_get (D := G.1) (ci := 1) (v := .int (iI (r 7 0))) (C := RX1) (T := TX1) (N := 14) hx hb hts hinX1 hown hK hP 0 rfl rfl 7 (by decide) (hts (.fieldLink RX1 46 "MeanderFarm$River" "length" "I") (List.mem_of_getElem? (i := 1) rfl)) (fun _ h9 => h9) rfl dX1_isInCourse_6 ?_
    have b2 : (0 : Int) ≤ r 7 0 ∧ r 7 0 ≤ 150 := ok 7 (0)
    refine mf_icmp_ge (tgt := 23) hx hb dX1_isInCourse_9 (by decide) (i32_mk (by omega) (by omega)) (i32_mk (by omega) (by omega)) (fun c3 => ?_) (fun c3 => ?_)
    · skip
      refine mf_iconst hx hb dX1_isInCourse_23 ?_
      exact W.zret hx hb hr (mf_nar01 (by omega)) (fun t ht hW => ⟨_, rfl, (congrArg iI (bP_f (by unfold inC; omega)).symm), ht⟩) t_nil dX1_isInCourse_24
    · skip
      refine lv_iload_n hx hb dX1_isInCourse_12 rfl (lv_at hl 1 rfl) ?_
      refine mf_sipush hx hb dX1_isInCourse_13 rfl ?_
      refine mf_icmp_ge (tgt := 23) hx hb dX1_isInCourse_16 (by decide) (i32_mk (by omega) (by omega)) (i32_mk (by decide) (by decide)) (fun c4 => ?_) (fun c4 => ?_)
      · skip
        refine mf_iconst hx hb dX1_isInCourse_23 ?_
        exact W.zret hx hb hr (mf_nar01 (by omega)) (fun t ht hW => ⟨_, rfl, (congrArg iI (bP_f (by unfold inC; omega)).symm), ht⟩) t_nil dX1_isInCourse_24
      · skip
        refine mf_iconst hx hb dX1_isInCourse_19 ?_
        refine lv_goto (tgt := 24) hx hb dX1_isInCourse_20 (by decide) ?_
        exact W.zret hx hb hr (mf_nar01 (by omega)) (fun t ht hW => ⟨_, rfl, (congrArg iI (bP_t (by unfold inC; omega)).symm), ht⟩) t_nil dX1_isInCourse_24
set_option maxHeartbeats 4000000 in
set_option maxRecDepth 100000 in
theorem c_X1_cellAt (l : Launch) (G : mf_G) (h : Nat) (ad : Nat → Nat) (r : mf_V) (iv : Int) (hiv : i32 iv) (ok : rOK rlo rhi r) : Met l yX1_cellAt wsX1_cellAt ({ frames := 1, cells := 0, slots := 0, locals := 21 }) (va_Pc [.ref h, .int (iI (iv))] (RdP G (RW G h ad r))) (vp_Si (fun q => q = iI (cellAtF r iv))) 0 0 (fun _ => False) := by
  refine Met.ofW (cc := cX1_cellAt) (maxL := 2) (ret := (some .int)) (by decide) rfl ?_
  intro p e s m args below meth c s₁ B hml hv
  obtain ⟨rfl, hP, hK, hN⟩ := hv
  have hx := B.exec
  have hb := B.bytes
  have hr := B.returns
  have hts := atoms_spec (ws := wsX1_cellAt) B.pre
  have hown : s.vm.findClass RX1 = some m.cls := findClass_of_methodNamed B.named
  have hlocks := B.notSynchronized
  have hinX1 : ∀ w ∈ u_ws RX1 TX1 14, w ∈ wsX1_cellAt := fun w h => List.mem_cons_of_mem _ (List.mem_append_right _ h)
  have hl := lv_entry ([.ref h, .int (iI (iv))]) (n := 2) (Nat.le_of_ble_eq_true rfl)
  rw [lg_entry_eq]
  generalize (lg_sl ([.ref h, .int (iI (iv))]) ++ List.replicate (2 - (lg_sl ([.ref h, .int (iI (iv))])).length) Slot.unset).toArray = ls at hl ⊢
  have hl : lv_has ls 2 [(0, .ref h), (1, .int (iI (iv)))] := hl
  have hiv1 := hiv.1
  have hiv2 := hiv.2
  have okLr : (0 : Int) ≤ r 7 0 ∧ r 7 0 ≤ 150 := ok 7 0
  refine lv_aload_n hx hb dX1_cellAt_0 rfl (lv_at hl 0 rfl) ?_
  refine lv_iload_n hx hb dX1_cellAt_1 rfl (lv_at hl 1 rfl) ?_
  refine vp_callSi (va_Run.run (va_runV (As := [.int (iI (iv))]) (rest := []) ⟨hx, hb, hml, hown, hts⟩ (c_X1_isInCourse l G h ad r (iv) (i32_mk (by omega) (by omega)) (by assumption)) (cwV 1 hts gX1_cellAt_X1_isInCourse rfl rfl rfl (by decide +kernel) ⟨Nat.le_of_ble_eq_true rfl, Nat.le_of_ble_eq_true rfl⟩) (rdV (wc := RW G h ad r) hK hP hN [0, 1, 2, 3, 4, 5, 6, 7, 8, 9, 10, 11] rfl (ci := 1) rfl rfl) rfl rfl hl.1 rfl (lv_room (Nat.le_of_ble_eq_true rfl)) dX1_cellAt_2 ⟨(Nat.zero_le _), (Nat.zero_le _)⟩)) (fun q1 hq1 => ?_)
  subst hq1
  refine mf_bp_eq (tgt := 17) hx hb dX1_cellAt_5 (by decide) (fun c2 => ?_) (fun c2 => ?_)
  · skip
    have c2' := c2; unfold inC at c2'
    refine mf_iconst hx hb dX1_cellAt_17 ?_
    exact W.iret hx hb hr (fun t ht hW => ⟨_, rfl, (congrArg iI (by unfold cellAtF; first | exact (mf_if_t (by assumption)).symm | exact (mf_if_f (by assumption)).symm)), ht⟩) t_nil dX1_cellAt_18
  · skip
    have c2' := c2; unfold inC at c2'
    refine lv_aload_n hx hb dX1_cellAt_8 rfl (lv_at hl 0 rfl) ?_
    refine va_get (D := G.1) (ci := 1) (v := .ref (ad 6)) (C := RX1) (T := TX1) (N := 14) hx hb hts hinX1 hown hK hP 0 rfl rfl 6 (by decide) (hts (.fieldLink RX1 31 "MeanderFarm$River" "course" "[I") (List.mem_of_getElem? (i := 1) rfl)) (fun _ h9 => h9) rfl dX1_cellAt_9 ?_
    refine lv_iload_n hx hb dX1_cellAt_12 rfl (lv_at hl 1 rfl) ?_
    refine mf_iald (n := 150) (f := r 6) hx hb hK hP 7 0 rfl rfl (z := iv) (by omega) (by omega) (by decide) dX1_cellAt_13 ?_
    have b3 : (0 : Int) ≤ r 6 iv ∧ r 6 iv ≤ 383 := ok 6 (iv)
    refine lv_goto (tgt := 18) hx hb dX1_cellAt_14 (by decide) ?_
    exact W.iret hx hb hr (fun t ht hW => ⟨_, rfl, (congrArg iI (by unfold cellAtF; first | exact (mf_if_t (by assumption)).symm | exact (mf_if_f (by assumption)).symm)), ht⟩) t_nil dX1_cellAt_18
set_option maxHeartbeats 4000000 in
set_option maxRecDepth 100000 in
theorem c_X1_placeOf (l : Launch) (G : mf_G) (h : Nat) (ad : Nat → Nat) (r : mf_V) (cv : Int) (hcv : i32 cv) (ok : rOK rlo rhi r) : Met l yX1_placeOf wsX1_placeOf ({ frames := 1, cells := 0, slots := 0, locals := 20 }) (va_Pc [.ref h, .int (iI (cv))] (RdP G (RW G h ad r))) (vp_Si (fun q => q = iI (placeOfF r cv))) 0 0 (fun _ => False) := by
  refine Met.ofW (cc := cX1_placeOf) (maxL := 2) (ret := (some .int)) (by decide) rfl ?_
  intro p e s m args below meth c s₁ B hml hv
  obtain ⟨rfl, hP, hK, hN⟩ := hv
  have hx := B.exec
  have hb := B.bytes
  have hr := B.returns
  have hts := atoms_spec (ws := wsX1_placeOf) B.pre
  have hown : s.vm.findClass RX1 = some m.cls := findClass_of_methodNamed B.named
  have hlocks := B.notSynchronized
  have hinX1 : ∀ w ∈ u_ws RX1 TX1 14, w ∈ wsX1_placeOf := fun w h => List.mem_cons_of_mem _ (List.mem_append_right _ h)
  have hl := lv_entry ([.ref h, .int (iI (cv))]) (n := 2) (Nat.le_of_ble_eq_true rfl)
  rw [lg_entry_eq]
  generalize (lg_sl ([.ref h, .int (iI (cv))]) ++ List.replicate (2 - (lg_sl ([.ref h, .int (iI (cv))])).length) Slot.unset).toArray = ls at hl ⊢
  have hl : lv_has ls 2 [(0, .ref h), (1, .int (iI (cv)))] := hl
  have hcv1 := hcv.1
  have hcv2 := hcv.2
  have okLr : (0 : Int) ≤ r 7 0 ∧ r 7 0 ≤ 150 := ok 7 0
  refine lv_iload_n hx hb dX1_placeOf_0 rfl (lv_at hl 1 rfl) ?_
  refine vp_callSi (va_Run.run (va_runSN (As := [.int (iI (cv))]) (rest := []) ⟨hx, hb, hml, hown, hts⟩ (c_X2_isCell l (cv) (i32_mk (by omega) (by omega))) ⟨(va_cnB 1 hts gX1_placeOf_X2_isCell_n70 rfl rfl rfl (hN.m 27 rfl) (hts (.initialized RX2) (List.mem_of_getElem? (i := 3) rfl)) (by decide +kernel) ⟨Nat.le_of_ble_eq_true rfl, Nat.le_of_ble_eq_true rfl⟩), (hts (.static yX2_isCell) (List.mem_of_getElem? (i := 2) rfl)), trivial⟩ pureS rfl rfl hl.1 rfl (lv_room (Nat.le_of_ble_eq_true rfl)) dX1_placeOf_1 ⟨(Nat.zero_le _), (Nat.zero_le _)⟩)) (fun q1 hq1 => ?_)
  subst hq1
  refine mf_bp_eq (tgt := 16) hx hb dX1_placeOf_4 (by decide) (fun c2 => ?_) (fun c2 => ?_)
  · skip
    refine mf_iconst hx hb dX1_placeOf_16 ?_
    exact W.iret hx hb hr (fun t ht hW => ⟨_, rfl, (congrArg iI (by unfold placeOfF; first | exact (mf_if_t (by assumption)).symm | exact (mf_if_f (by assumption)).symm)), ht⟩) t_nil dX1_placeOf_17
  · skip
    refine lv_aload_n hx hb dX1_placeOf_7 rfl (lv_at hl 0 rfl) ?_
    refine va_get (D := G.1) (ci := 1) (v := .ref (ad 10)) (C := RX1) (T := TX1) (N := 14) hx hb hts hinX1 hown hK hP 0 rfl rfl 10 (by decide) (hts (.fieldLink RX1 34 "MeanderFarm$River" "place" "[I") (List.mem_of_getElem? (i := 1) rfl)) (fun _ h9 => h9) rfl dX1_placeOf_8 ?_
    refine lv_iload_n hx hb dX1_placeOf_11 rfl (lv_at hl 1 rfl) ?_
    refine mf_iald (n := 384) (f := r 10) hx hb hK hP 8 0 rfl rfl (z := cv) (by omega) (by omega) (by decide) dX1_placeOf_12 ?_
    have b3 : (-1 : Int) ≤ r 10 cv ∧ r 10 cv ≤ 149 := ok 10 (cv)
    refine lv_goto (tgt := 17) hx hb dX1_placeOf_13 (by decide) ?_
    exact W.iret hx hb hr (fun t ht hW => ⟨_, rfl, (congrArg iI (by unfold placeOfF; first | exact (mf_if_t (by assumption)).symm | exact (mf_if_f (by assumption)).symm)), ht⟩) t_nil dX1_placeOf_17
set_option maxHeartbeats 4000000 in
set_option maxRecDepth 100000 in
theorem c_X1_isStraight (l : Launch) (G : mf_G) (h : Nat) (ad : Nat → Nat) (r : mf_V) (iv : Int) (hiv : i32 iv) (ok : rOK rlo rhi r) : Met l yX1_isStraight wsX1_isStraight ({ frames := 1, cells := 0, slots := 0, locals := 21 }) (va_Pc [.ref h, .int (iI (iv))] (RdP G (RW G h ad r))) (vp_Si (fun q => q = iI (bP (strP r iv)))) 0 0 (fun _ => False) := by
  refine Met.ofW (cc := cX1_isStraight) (maxL := 2) (ret := (some .boolean)) (by decide) rfl ?_
  intro p e s m args below meth c s₁ B hml hv
  obtain ⟨rfl, hP, hK, hN⟩ := hv
  have hx := B.exec
  have hb := B.bytes
  have hr := B.returns
  have hts := atoms_spec (ws := wsX1_isStraight) B.pre
  have hown : s.vm.findClass RX1 = some m.cls := findClass_of_methodNamed B.named
  have hlocks := B.notSynchronized
  have hinX1 : ∀ w ∈ u_ws RX1 TX1 14, w ∈ wsX1_isStraight := fun w h => List.mem_cons_of_mem _ (List.mem_append_right _ h)
  have hl := lv_entry ([.ref h, .int (iI (iv))]) (n := 2) (Nat.le_of_ble_eq_true rfl)
  rw [lg_entry_eq]
  generalize (lg_sl ([.ref h, .int (iI (iv))]) ++ List.replicate (2 - (lg_sl ([.ref h, .int (iI (iv))])).length) Slot.unset).toArray = ls at hl ⊢
  have hl : lv_has ls 2 [(0, .ref h), (1, .int (iI (iv)))] := hl
  have hiv1 := hiv.1
  have hiv2 := hiv.2
  have okLr : (0 : Int) ≤ r 7 0 ∧ r 7 0 ≤ 150 := ok 7 0
  refine lv_iload_n hx hb dX1_isStraight_0 rfl (lv_at hl 1 rfl) ?_
  refine mf_if_le (tgt := 43) hx hb dX1_isStraight_1 (by decide) (i32_mk (by omega) (by omega)) (fun c1 => ?_) (fun c1 => ?_)
  · skip
    refine mf_iconst hx hb dX1_isStraight_43 ?_
    exact W.zret hx hb hr (mf_nar01 (by omega)) (fun t ht hW => ⟨_, rfl, (congrArg iI (bP_f (by unfold strP; omega)).symm), ht⟩) t_nil dX1_isStraight_44
  · skip
    refine lv_iload_n hx hb dX1_isStraight_4 rfl (lv_at hl 1 rfl) ?_
    refine lv_aload_n hx hb dX1_isStraight_5 rfl (lv_at hl 0 rfl) ?_
    refine va_get (D := G.1) (ci := 1) (v := .int (iI (r 7 0))) (C := RX1) (T := TX1) (N := 14) hx hb hts hinX1 hown hK hP 0 rfl rfl 7 (by decide) (hts (.fieldLink RX1 46 "MeanderFarm$River" "length" "I") (List.mem_of_getElem? (i := 1) rfl)) (fun _ h9 => h9) rfl dX1_isStraight_6 ?_
    have b2 : (0 : Int) ≤ r 7 0 ∧ r 7 0 ≤ 150 := ok 7 (0)
    refine mf_iconst hx hb dX1_isStraight_9 ?_
    refine mf_isub hx hb dX1_isStraight_10 ?_
    refine mf_icmp_ge (tgt := 43) hx hb dX1_isStraight_11 (by decide) (i32_mk (by omega) (by omega)) (i32_mk (by omega) (by omega)) (fun c3 => ?_) (fun c3 => ?_)
    · skip
      refine mf_iconst hx hb dX1_isStraight_43 ?_
      exact W.zret hx hb hr (mf_nar01 (by omega)) (fun t ht hW => ⟨_, rfl, (congrArg iI (bP_f (by unfold strP; omega)).symm), ht⟩) t_nil dX1_isStraight_44
    · skip
      refine lv_aload_n hx hb dX1_isStraight_14 rfl (lv_at hl 0 rfl) ?_
      refine lv_iload_n hx hb dX1_isStraight_15 rfl (lv_at hl 1 rfl) ?_
      refine vp_callSi (va_Run.run (va_runV (As := [.int (iI (iv))]) (rest := []) ⟨hx, hb, hml, hown, hts⟩ (c_X1_isInCourse l G h ad r (iv) (i32_mk (by omega) (by omega)) (by assumption)) (cwV 1 hts gX1_isStraight_X1_isInCourse rfl rfl rfl (by decide +kernel) ⟨Nat.le_of_ble_eq_true rfl, Nat.le_of_ble_eq_true rfl⟩) (rdV (wc := RW G h ad r) hK hP hN [0, 1, 2, 3, 4, 5, 6, 7, 8, 9, 10, 11] rfl (ci := 1) rfl rfl) rfl rfl hl.1 rfl (lv_room (Nat.le_of_ble_eq_true rfl)) dX1_isStraight_16 ⟨(Nat.zero_le _), (Nat.zero_le _)⟩)) (fun q4 hq4 => ?_)
      subst hq4
      refine mf_bp_eq (tgt := 43) hx hb dX1_isStraight_19 (by decide) (fun c5 => ?_) (fun c5 => ?_)
      · skip
        have c5' := c5; unfold inC at c5'
        refine mf_iconst hx hb dX1_isStraight_43 ?_
        exact W.zret hx hb hr (mf_nar01 (by omega)) (fun t ht hW => ⟨_, rfl, (congrArg iI (bP_f (by unfold strP; omega)).symm), ht⟩) t_nil dX1_isStraight_44
      · skip
        have c5' := c5; unfold inC at c5'
        refine lv_aload_n hx hb dX1_isStraight_22 rfl (lv_at hl 0 rfl) ?_
        refine va_get (D := G.1) (ci := 1) (v := .ref (ad 11)) (C := RX1) (T := TX1) (N := 14) hx hb hts hinX1 hown hK hP 0 rfl rfl 11 (by decide) (hts (.fieldLink RX1 37 "MeanderFarm$River" "direction" "[I") (List.mem_of_getElem? (i := 2) rfl)) (fun _ h9 => h9) rfl dX1_isStraight_23 ?_
        refine lv_iload_n hx hb dX1_isStraight_26 rfl (lv_at hl 1 rfl) ?_
        refine mf_iconst hx hb dX1_isStraight_27 ?_
        refine mf_isub hx hb dX1_isStraight_28 ?_
        refine mf_iald (n := 150) (f := r 11) hx hb hK hP 9 0 rfl rfl (z := iv - 1) (by omega) (by omega) (by decide) dX1_isStraight_29 ?_
        have b6 : (-1 : Int) ≤ r 11 (iv - 1) ∧ r 11 (iv - 1) ≤ 3 := ok 11 (iv - 1)
        refine lv_aload_n hx hb dX1_isStraight_30 rfl (lv_at hl 0 rfl) ?_
        refine va_get (D := G.1) (ci := 1) (v := .ref (ad 11)) (C := RX1) (T := TX1) (N := 14) hx hb hts hinX1 hown hK hP 0 rfl rfl 11 (by decide) (hts (.fieldLink RX1 37 "MeanderFarm$River" "direction" "[I") (List.mem_of_getElem? (i := 2) rfl)) (fun _ h9 => h9) rfl dX1_isStraight_31 ?_
        refine lv_iload_n hx hb dX1_isStraight_34 rfl (lv_at hl 1 rfl) ?_
        refine mf_iald (n := 150) (f := r 11) hx hb hK hP 9 0 rfl rfl (z := iv) (by omega) (by omega) (by decide) dX1_isStraight_35 ?_
        have b7 : (-1 : Int) ≤ r 11 iv ∧ r 11 iv ≤ 3 := ok 11 (iv)
        refine mf_icmp_ne (tgt := 43) hx hb dX1_isStraight_36 (by decide) (i32_mk (by omega) (by omega)) (i32_mk (by omega) (by omega)) (fun c8 => ?_) (fun c8 => ?_)
        · skip
          refine mf_iconst hx hb dX1_isStraight_43 ?_
          exact W.zret hx hb hr (mf_nar01 (by omega)) (fun t ht hW => ⟨_, rfl, (congrArg iI (bP_f (by unfold strP; omega)).symm), ht⟩) t_nil dX1_isStraight_44
        · skip
          refine mf_iconst hx hb dX1_isStraight_39 ?_
          refine lv_goto (tgt := 44) hx hb dX1_isStraight_40 (by decide) ?_
          exact W.zret hx hb hr (mf_nar01 (by omega)) (fun t ht hW => ⟨_, rfl, (congrArg iI (bP_t (by unfold strP; omega)).symm), ht⟩) t_nil dX1_isStraight_44
set_option maxHeartbeats 4000000 in
set_option maxRecDepth 100000 in
theorem c_X1_isOpen (l : Launch) (G : mf_G) (h : Nat) (ad : Nat → Nat) (r : mf_V) (cv : Int) (hcv : i32 cv) (ok : rOK rlo rhi r) : Met l yX1_isOpen wsX1_isOpen ({ frames := 1, cells := 0, slots := 0, locals := 20 }) (va_Pc [.ref h, .int (iI (cv))] (RdP G (RW G h ad r))) (vp_Si (fun q => q = iI (bP (openP r cv)))) 0 0 (fun _ => False) := by
  refine Met.ofW (cc := cX1_isOpen) (maxL := 2) (ret := (some .boolean)) (by decide) rfl ?_
  intro p e s m args below meth c s₁ B hml hv
  obtain ⟨rfl, hP, hK, hN⟩ := hv
  have hx := B.exec
  have hb := B.bytes
  have hr := B.returns
  have hts := atoms_spec (ws := wsX1_isOpen) B.pre
  have hown : s.vm.findClass RX1 = some m.cls := findClass_of_methodNamed B.named
  have hlocks := B.notSynchronized
  have hinX1 : ∀ w ∈ u_ws RX1 TX1 14, w ∈ wsX1_isOpen := fun w h => List.mem_cons_of_mem _ (List.mem_append_right _ h)
  have hl := lv_entry ([.ref h, .int (iI (cv))]) (n := 2) (Nat.le_of_ble_eq_true rfl)
  rw [lg_entry_eq]
  generalize (lg_sl ([.ref h, .int (iI (cv))]) ++ List.replicate (2 - (lg_sl ([.ref h, .int (iI (cv))])).length) Slot.unset).toArray = ls at hl ⊢
  have hl : lv_has ls 2 [(0, .ref h), (1, .int (iI (cv)))] := hl
  have hcv1 := hcv.1
  have hcv2 := hcv.2
  have okLr : (0 : Int) ≤ r 7 0 ∧ r 7 0 ≤ 150 := ok 7 0
  refine lv_iload_n hx hb dX1_isOpen_0 rfl (lv_at hl 1 rfl) ?_
  refine vp_callSi (va_Run.run (va_runSN (As := [.int (iI (cv))]) (rest := []) ⟨hx, hb, hml, hown, hts⟩ (c_X2_isCell l (cv) (i32_mk (by omega) (by omega))) ⟨(va_cnB 1 hts gX1_isOpen_X2_isCell_n70 rfl rfl rfl (hN.m 27 rfl) (hts (.initialized RX2) (List.mem_of_getElem? (i := 4) rfl)) (by decide +kernel) ⟨Nat.le_of_ble_eq_true rfl, Nat.le_of_ble_eq_true rfl⟩), (hts (.static yX2_isCell) (List.mem_of_getElem? (i := 3) rfl)), trivial⟩ pureS rfl rfl hl.1 rfl (lv_room (Nat.le_of_ble_eq_true rfl)) dX1_isOpen_1 ⟨(Nat.zero_le _), (Nat.zero_le _)⟩)) (fun q1 hq1 => ?_)
  subst hq1
  refine mf_bp_eq (tgt := 30) hx hb dX1_isOpen_4 (by decide) (fun c2 => ?_) (fun c2 => ?_)
  · skip
    refine mf_iconst hx hb dX1_isOpen_30 ?_
    exact W.zret hx hb hr (mf_nar01 (by omega)) (fun t ht hW => ⟨_, rfl, (congrArg iI (bP_f (by unfold openP; omega)).symm), ht⟩) t_nil dX1_isOpen_31
  · skip
    refine lv_aload_n hx hb dX1_isOpen_7 rfl (lv_at hl 0 rfl) ?_
    refine va_get (D := G.1) (ci := 1) (v := .ref (ad 10)) (C := RX1) (T := TX1) (N := 14) hx hb hts hinX1 hown hK hP 0 rfl rfl 10 (by decide) (hts (.fieldLink RX1 34 "MeanderFarm$River" "place" "[I") (List.mem_of_getElem? (i := 1) rfl)) (fun _ h9 => h9) rfl dX1_isOpen_8 ?_
    refine lv_iload_n hx hb dX1_isOpen_11 rfl (lv_at hl 1 rfl) ?_
    refine mf_iald (n := 384) (f := r 10) hx hb hK hP 8 0 rfl rfl (z := cv) (by omega) (by omega) (by decide) dX1_isOpen_12 ?_
    have b3 : (-1 : Int) ≤ r 10 cv ∧ r 10 cv ≤ 149 := ok 10 (cv)
    refine mf_iconst hx hb dX1_isOpen_13 ?_
    refine mf_icmp_ne (tgt := 30) hx hb dX1_isOpen_14 (by decide) (i32_mk (by omega) (by omega)) (i32_mk (by decide) (by decide)) (fun c4 => ?_) (fun c4 => ?_)
    · skip
      refine mf_iconst hx hb dX1_isOpen_30 ?_
      exact W.zret hx hb hr (mf_nar01 (by omega)) (fun t ht hW => ⟨_, rfl, (congrArg iI (bP_f (by unfold openP; omega)).symm), ht⟩) t_nil dX1_isOpen_31
    · skip
      refine lv_aload_n hx hb dX1_isOpen_17 rfl (lv_at hl 0 rfl) ?_
      refine va_get (D := G.1) (ci := 1) (v := .ref (ad 2)) (C := RX1) (T := TX1) (N := 14) hx hb hts hinX1 hown hK hP 0 rfl rfl 2 (by decide) (hts (.fieldLink RX1 18 "MeanderFarm$River" "stones" "[Z") (List.mem_of_getElem? (i := 2) rfl)) (fun _ h9 => h9) rfl dX1_isOpen_18 ?_
      refine lv_iload_n hx hb dX1_isOpen_21 rfl (lv_at hl 1 rfl) ?_
      refine mf_zald (n := 384) (f := r 2) hx hb hK hP 3 1 rfl rfl (z := cv) (by omega) (by omega) (by decide) dX1_isOpen_22 ?_
      have b5 : (0 : Int) ≤ r 2 cv ∧ r 2 cv ≤ 1 := ok 2 (cv)
      refine mf_if_ne (tgt := 30) hx hb dX1_isOpen_23 (by decide) (i32_mk (by omega) (by omega)) (fun c6 => ?_) (fun c6 => ?_)
      · skip
        refine mf_iconst hx hb dX1_isOpen_30 ?_
        exact W.zret hx hb hr (mf_nar01 (by omega)) (fun t ht hW => ⟨_, rfl, (congrArg iI (bP_f (by unfold openP; omega)).symm), ht⟩) t_nil dX1_isOpen_31
      · skip
        refine mf_iconst hx hb dX1_isOpen_26 ?_
        refine lv_goto (tgt := 31) hx hb dX1_isOpen_27 (by decide) ?_
        exact W.zret hx hb hr (mf_nar01 (by omega)) (fun t ht hW => ⟨_, rfl, (congrArg iI (bP_t (by unfold openP; omega)).symm), ht⟩) t_nil dX1_isOpen_31
set_option maxHeartbeats 4000000 in
set_option maxRecDepth 100000 in
theorem c_X1_canBulge (l : Launch) (G : mf_G) (h : Nat) (ad : Nat → Nat) (r : mf_V) (iv : Int) (sv : Int) (hiv : i32 iv) (hsv : i32 sv) (ok : rOK rlo rhi r) (hdir : ∀ j, strP r j → 0 ≤ r 11 j) : Met l yX1_canBulge wsX1_canBulge ({ frames := 2, cells := 0, slots := 0, locals := 42 }) (va_Pc [.ref h, .int (iI (iv)), .int (iI (sv))] (RdP G (RW G h ad r))) (vp_Si (fun q => q = iI (bP (canB r iv sv)))) 0 0 (fun _ => False) := by
  refine Met.ofW (cc := cX1_canBulge) (maxL := 4) (ret := (some .boolean)) (by decide) rfl ?_
  intro p e s m args below meth c s₁ B hml hv
  obtain ⟨rfl, hP, hK, hN⟩ := hv
  have hx := B.exec
  have hb := B.bytes
  have hr := B.returns
  have hts := atoms_spec (ws := wsX1_canBulge) B.pre
  have hown : s.vm.findClass RX1 = some m.cls := findClass_of_methodNamed B.named
  have hlocks := B.notSynchronized
  have hinX1 : ∀ w ∈ u_ws RX1 TX1 14, w ∈ wsX1_canBulge := fun w h => List.mem_cons_of_mem _ (List.mem_append_right _ h)
  have hl := lv_entry ([.ref h, .int (iI (iv)), .int (iI (sv))]) (n := 4) (Nat.le_of_ble_eq_true rfl)
  rw [lg_entry_eq]
  generalize (lg_sl ([.ref h, .int (iI (iv)), .int (iI (sv))]) ++ List.replicate (4 - (lg_sl ([.ref h, .int (iI (iv)), .int (iI (sv))])).length) Slot.unset).toArray = ls at hl ⊢
  have hl : lv_has ls 4 [(0, .ref h), (1, .int (iI (iv))), (2, .int (iI (sv)))] := hl
  have hiv1 := hiv.1
  have hiv2 := hiv.2
  have hsv1 := hsv.1
  have hsv2 := hsv.2
  have okLr : (0 : Int) ≤ r 7 0 ∧ r 7 0 ≤ 150 := ok 7 0
  refine lv_aload_n hx hb dX1_canBulge_0 rfl (lv_at hl 0 rfl) ?_
  refine lv_iload_n hx hb dX1_canBulge_1 rfl (lv_at hl 1 rfl) ?_
  refine vp_callSi (va_Run.run (va_runV (As := [.int (iI (iv))]) (rest := []) ⟨hx, hb, hml, hown, hts⟩ (c_X1_isStraight l G h ad r (iv) (i32_mk (by omega) (by omega)) (by assumption)) (cwV 1 hts gX1_canBulge_X1_isStraight rfl rfl rfl (by decide +kernel) ⟨Nat.le_of_ble_eq_true rfl, Nat.le_of_ble_eq_true rfl⟩) (rdV (wc := RW G h ad r) hK hP hN [0, 1, 2, 3, 4, 5, 6, 7, 8, 9, 10, 11] rfl (ci := 1) rfl rfl) rfl rfl hl.1 rfl (lv_room (Nat.le_of_ble_eq_true rfl)) dX1_canBulge_2 ⟨(Nat.zero_le _), (Nat.zero_le _)⟩)) (fun q1 hq1 => ?_)
  subst hq1
  refine mf_bp_eq (tgt := 29) hx hb dX1_canBulge_5 (by decide) (fun c2 => ?_) (fun c2 => ?_)
  · skip
    have c2' := c2; unfold strP at c2'
    refine mf_iconst hx hb dX1_canBulge_29 ?_
    exact W.zret hx hb hr (mf_nar01 (by omega)) (fun t ht hW => ⟨_, rfl, (congrArg iI (bP_f (by subst_vars; intro z; unfold canB at z; obtain ⟨z1, z2, z3, z4, z5, z6, z7, z8⟩ := z; first | contradiction | omega)).symm), ht⟩) t_nil dX1_canBulge_30
  · skip
    have c2' := c2; unfold strP at c2'
    refine lv_aload_n hx hb dX1_canBulge_8 rfl (lv_at hl 0 rfl) ?_
    refine va_get (D := G.1) (ci := 1) (v := .int (iI (r 7 0))) (C := RX1) (T := TX1) (N := 14) hx hb hts hinX1 hown hK hP 0 rfl rfl 7 (by decide) (hts (.fieldLink RX1 46 "MeanderFarm$River" "length" "I") (List.mem_of_getElem? (i := 1) rfl)) (fun _ h9 => h9) rfl dX1_canBulge_9 ?_
    have b3 : (0 : Int) ≤ r 7 0 ∧ r 7 0 ≤ 150 := ok 7 (0)
    refine mf_iconst hx hb dX1_canBulge_12 ?_
    refine mf_iadd hx hb dX1_canBulge_13 ?_
    refine mf_sipush hx hb dX1_canBulge_14 rfl ?_
    refine mf_icmp_gt (tgt := 29) hx hb dX1_canBulge_17 (by decide) (i32_mk (by omega) (by omega)) (i32_mk (by decide) (by decide)) (fun c4 => ?_) (fun c4 => ?_)
    · skip
      refine mf_iconst hx hb dX1_canBulge_29 ?_
      exact W.zret hx hb hr (mf_nar01 (by omega)) (fun t ht hW => ⟨_, rfl, (congrArg iI (bP_f (by subst_vars; intro z; unfold canB at z; obtain ⟨z1, z2, z3, z4, z5, z6, z7, z8⟩ := z; first | contradiction | omega)).symm), ht⟩) t_nil dX1_canBulge_30
    · skip
      refine lv_iload_n hx hb dX1_canBulge_20 rfl (lv_at hl 2 rfl) ?_
      refine mf_if_lt (tgt := 29) hx hb dX1_canBulge_21 (by decide) (i32_mk (by omega) (by omega)) (fun c5 => ?_) (fun c5 => ?_)
      · skip
        refine mf_iconst hx hb dX1_canBulge_29 ?_
        exact W.zret hx hb hr (mf_nar01 (by omega)) (fun t ht hW => ⟨_, rfl, (congrArg iI (bP_f (by subst_vars; intro z; unfold canB at z; obtain ⟨z1, z2, z3, z4, z5, z6, z7, z8⟩ := z; first | contradiction | omega)).symm), ht⟩) t_nil dX1_canBulge_30
      · skip
        refine lv_iload_n hx hb dX1_canBulge_24 rfl (lv_at hl 2 rfl) ?_
        refine mf_iconst hx hb dX1_canBulge_25 ?_
        refine mf_icmp_lt (tgt := 31) hx hb dX1_canBulge_26 (by decide) (i32_mk (by omega) (by omega)) (i32_mk (by decide) (by decide)) (fun c6 => ?_) (fun c6 => ?_)
        · skip
          have hd0 : 0 ≤ r 11 iv := hdir iv (by assumption)
          have hs0 : strP r iv := by assumption
          unfold strP at hs0
          refine lv_iload_n hx hb dX1_canBulge_31 rfl (lv_at hl 2 rfl) ?_
          refine mf_iconst hx hb dX1_canBulge_32 ?_
          refine mf_irem hx hb dX1_canBulge_33 (i32_mk (by omega) (by omega)) (by omega) (i32_mk (by decide) (by decide)) (by omega) ?_
          refine lv_aload_n hx hb dX1_canBulge_34 rfl (lv_at hl 0 rfl) ?_
          refine va_get (D := G.1) (ci := 1) (v := .ref (ad 11)) (C := RX1) (T := TX1) (N := 14) hx hb hts hinX1 hown hK hP 0 rfl rfl 11 (by decide) (hts (.fieldLink RX1 37 "MeanderFarm$River" "direction" "[I") (List.mem_of_getElem? (i := 2) rfl)) (fun _ h9 => h9) rfl dX1_canBulge_35 ?_
          refine lv_iload_n hx hb dX1_canBulge_38 rfl (lv_at hl 1 rfl) ?_
          refine mf_iald (n := 150) (f := r 11) hx hb hK hP 9 0 rfl rfl (z := iv) (by omega) (by omega) (by decide) dX1_canBulge_39 ?_
          have b7 : (-1 : Int) ≤ r 11 iv ∧ r 11 iv ≤ 3 := ok 11 (iv)
          refine mf_iconst hx hb dX1_canBulge_40 ?_
          refine mf_irem hx hb dX1_canBulge_41 (i32_mk (by omega) (by omega)) (by omega) (i32_mk (by decide) (by decide)) (by omega) ?_
          refine mf_icmp_eq (tgt := 49) hx hb dX1_canBulge_42 (by decide) (i32_mk (by omega) (by omega)) (i32_mk (by omega) (by omega)) (fun c8 => ?_) (fun c8 => ?_)
          · skip
            refine mf_iconst hx hb dX1_canBulge_49 ?_
            refine lv_istore_n (lv' := [(3, .int (iI (0))), (0, .ref h), (1, .int (iI (iv))), (2, .int (iI (sv)))]) hx hb dX1_canBulge_50 rfl hl (by decide) rfl (fun ls hl => ?_)
            refine lv_iload_n hx hb dX1_canBulge_51 rfl (lv_at hl 0 rfl) ?_
            refine mf_if_eq (tgt := 111) hx hb dX1_canBulge_52 (by decide) (i32_mk (by decide) (by decide)) (fun c9 => ?_) (fun c9 => ?_)
            · skip
              refine mf_iconst hx hb dX1_canBulge_111 ?_
              exact W.zret hx hb hr (mf_nar01 (by omega)) (fun t ht hW => ⟨_, rfl, (congrArg iI (bP_f (by subst_vars; intro z; unfold canB at z; obtain ⟨z1, z2, z3, z4, z5, z6, z7, z8⟩ := z; first | contradiction | omega)).symm), ht⟩) t_nil dX1_canBulge_112
            · skip
              exact absurd c9 (by omega)
          · skip
            refine mf_iconst hx hb dX1_canBulge_45 ?_
            refine lv_goto (tgt := 50) hx hb dX1_canBulge_46 (by decide) ?_
            refine lv_istore_n (lv' := [(3, .int (iI (1))), (0, .ref h), (1, .int (iI (iv))), (2, .int (iI (sv)))]) hx hb dX1_canBulge_50 rfl hl (by decide) rfl (fun ls hl => ?_)
            refine lv_iload_n hx hb dX1_canBulge_51 rfl (lv_at hl 0 rfl) ?_
            refine mf_if_eq (tgt := 111) hx hb dX1_canBulge_52 (by decide) (i32_mk (by decide) (by decide)) (fun c10 => ?_) (fun c10 => ?_)
            · skip
              exact absurd c10 (by omega)
            · skip
              refine lv_aload_n hx hb dX1_canBulge_55 rfl (lv_at hl 1 rfl) ?_
              refine lv_aload_n hx hb dX1_canBulge_56 rfl (lv_at hl 1 rfl) ?_
              refine lv_iload_n hx hb dX1_canBulge_57 rfl (lv_at hl 2 rfl) ?_
              refine mf_iconst hx hb dX1_canBulge_58 ?_
              refine mf_isub hx hb dX1_canBulge_59 ?_
              refine vp_callSi (va_Run.run (va_runV (As := [.int (iI (iv - 1))]) (rest := [.ref h]) ⟨hx, hb, hml, hown, hts⟩ (c_X1_cellAt l G h ad r (iv - 1) (i32_mk (by omega) (by omega)) (by assumption)) (cwV 1 hts gX1_canBulge_X1_cellAt rfl rfl rfl (by decide +kernel) ⟨Nat.le_of_ble_eq_true rfl, Nat.le_of_ble_eq_true rfl⟩) (rdV (wc := RW G h ad r) hK hP hN [0, 1, 2, 3, 4, 5, 6, 7, 8, 9, 10, 11] rfl (ci := 1) rfl rfl) rfl rfl hl.1 rfl (lv_room (Nat.le_of_ble_eq_true rfl)) dX1_canBulge_60 ⟨(Nat.zero_le _), (Nat.zero_le _)⟩)) (fun q11 hq11 => ?_)
              subst hq11
              refine mf_nm (fun y12 ey12 => ?_)
              have b13 : -1 ≤ y12 ∧ y12 ≤ 383 := by rw [ey12]; exact cellAtF_b (by assumption) (iv - 1)
              refine lv_iload_n hx hb dX1_canBulge_63 rfl (lv_at hl 3 rfl) ?_
              refine vp_callSi (va_Run.run (va_runSN (As := [.int (iI (y12)), .int (iI (sv))]) (rest := [.ref h]) ⟨hx, hb, hml, hown, hts⟩ (c_X2_neighbour l (y12) (sv) (i32_mk (by omega) (by omega)) (i32_mk (by omega) (by omega))) ⟨(va_cnB 2 hts gX1_canBulge_X2_neighbour_n89 rfl rfl rfl (hN.m 29 rfl) (hts (.initialized RX2) (List.mem_of_getElem? (i := 18) rfl)) (by decide +kernel) ⟨Nat.le_of_ble_eq_true rfl, Nat.le_of_ble_eq_true rfl⟩), (hts (.static yX2_neighbour) (List.mem_of_getElem? (i := 17) rfl)), trivial⟩ pureS rfl rfl hl.1 rfl (lv_room (Nat.le_of_ble_eq_true rfl)) dX1_canBulge_64 ⟨(Nat.zero_le _), (Nat.zero_le _)⟩)) (fun q14 hq14 => ?_)
              subst hq14
              refine mf_nm (fun y15 ey15 => ?_)
              have b16 : -1 ≤ y15 ∧ y15 ≤ 383 := by rw [ey15]; exact nbr_b y12 sv
              refine vp_callSi (va_Run.run (va_runV (As := [.int (iI (y15))]) (rest := []) ⟨hx, hb, hml, hown, hts⟩ (c_X1_isOpen l G h ad r (y15) (i32_mk (by omega) (by omega)) (by assumption)) (cwV 1 hts gX1_canBulge_X1_isOpen rfl rfl rfl (by decide +kernel) ⟨Nat.le_of_ble_eq_true rfl, Nat.le_of_ble_eq_true rfl⟩) (rdV (wc := RW G h ad r) hK hP hN [0, 1, 2, 3, 4, 5, 6, 7, 8, 9, 10, 11] rfl (ci := 1) rfl rfl) rfl rfl hl.1 rfl (lv_room (Nat.le_of_ble_eq_true rfl)) dX1_canBulge_67 ⟨(Nat.zero_le _), (Nat.zero_le _)⟩)) (fun q17 hq17 => ?_)
              subst hq17
              refine mf_bp_eq (tgt := 111) hx hb dX1_canBulge_70 (by decide) (fun c18 => ?_) (fun c18 => ?_)
              · skip
                have c18' := c18; unfold openP at c18'
                refine mf_iconst hx hb dX1_canBulge_111 ?_
                exact W.zret hx hb hr (mf_nar01 (by omega)) (fun t ht hW => ⟨_, rfl, (congrArg iI (bP_f (by subst_vars; intro z; unfold canB at z; obtain ⟨z1, z2, z3, z4, z5, z6, z7, z8⟩ := z; first | contradiction | omega)).symm), ht⟩) t_nil dX1_canBulge_112
              · skip
                have c18' := c18; unfold openP at c18'
                refine lv_aload_n hx hb dX1_canBulge_73 rfl (lv_at hl 1 rfl) ?_
                refine lv_aload_n hx hb dX1_canBulge_74 rfl (lv_at hl 1 rfl) ?_
                refine lv_iload_n hx hb dX1_canBulge_75 rfl (lv_at hl 2 rfl) ?_
                refine vp_callSi (va_Run.run (va_runV (As := [.int (iI (iv))]) (rest := [.ref h]) ⟨hx, hb, hml, hown, hts⟩ (c_X1_cellAt l G h ad r (iv) (i32_mk (by omega) (by omega)) (by assumption)) (cwV 1 hts gX1_canBulge_X1_cellAt rfl rfl rfl (by decide +kernel) ⟨Nat.le_of_ble_eq_true rfl, Nat.le_of_ble_eq_true rfl⟩) (rdV (wc := RW G h ad r) hK hP hN [0, 1, 2, 3, 4, 5, 6, 7, 8, 9, 10, 11] rfl (ci := 1) rfl rfl) rfl rfl hl.1 rfl (lv_room (Nat.le_of_ble_eq_true rfl)) dX1_canBulge_76 ⟨(Nat.zero_le _), (Nat.zero_le _)⟩)) (fun q19 hq19 => ?_)
                subst hq19
                refine mf_nm (fun y20 ey20 => ?_)
                have b21 : -1 ≤ y20 ∧ y20 ≤ 383 := by rw [ey20]; exact cellAtF_b (by assumption) iv
                refine lv_iload_n hx hb dX1_canBulge_79 rfl (lv_at hl 3 rfl) ?_
                refine vp_callSi (va_Run.run (va_runSN (As := [.int (iI (y20)), .int (iI (sv))]) (rest := [.ref h]) ⟨hx, hb, hml, hown, hts⟩ (c_X2_neighbour l (y20) (sv) (i32_mk (by omega) (by omega)) (i32_mk (by omega) (by omega))) ⟨(va_cnB 2 hts gX1_canBulge_X2_neighbour_n89 rfl rfl rfl (hN.m 29 rfl) (hts (.initialized RX2) (List.mem_of_getElem? (i := 18) rfl)) (by decide +kernel) ⟨Nat.le_of_ble_eq_true rfl, Nat.le_of_ble_eq_true rfl⟩), (hts (.static yX2_neighbour) (List.mem_of_getElem? (i := 17) rfl)), trivial⟩ pureS rfl rfl hl.1 rfl (lv_room (Nat.le_of_ble_eq_true rfl)) dX1_canBulge_80 ⟨(Nat.zero_le _), (Nat.zero_le _)⟩)) (fun q22 hq22 => ?_)
                subst hq22
                refine mf_nm (fun y23 ey23 => ?_)
                have b24 : -1 ≤ y23 ∧ y23 ≤ 383 := by rw [ey23]; exact nbr_b y20 sv
                refine vp_callSi (va_Run.run (va_runV (As := [.int (iI (y23))]) (rest := []) ⟨hx, hb, hml, hown, hts⟩ (c_X1_isOpen l G h ad r (y23) (i32_mk (by omega) (by omega)) (by assumption)) (cwV 1 hts gX1_canBulge_X1_isOpen rfl rfl rfl (by decide +kernel) ⟨Nat.le_of_ble_eq_true rfl, Nat.le_of_ble_eq_true rfl⟩) (rdV (wc := RW G h ad r) hK hP hN [0, 1, 2, 3, 4, 5, 6, 7, 8, 9, 10, 11] rfl (ci := 1) rfl rfl) rfl rfl hl.1 rfl (lv_room (Nat.le_of_ble_eq_true rfl)) dX1_canBulge_83 ⟨(Nat.zero_le _), (Nat.zero_le _)⟩)) (fun q25 hq25 => ?_)
                subst hq25
                refine mf_bp_eq (tgt := 111) hx hb dX1_canBulge_86 (by decide) (fun c26 => ?_) (fun c26 => ?_)
                · skip
                  have c26' := c26; unfold openP at c26'
                  refine mf_iconst hx hb dX1_canBulge_111 ?_
                  exact W.zret hx hb hr (mf_nar01 (by omega)) (fun t ht hW => ⟨_, rfl, (congrArg iI (bP_f (by subst_vars; intro z; unfold canB at z; obtain ⟨z1, z2, z3, z4, z5, z6, z7, z8⟩ := z; first | contradiction | omega)).symm), ht⟩) t_nil dX1_canBulge_112
                · skip
                  have c26' := c26; unfold openP at c26'
                  refine lv_aload_n hx hb dX1_canBulge_89 rfl (lv_at hl 1 rfl) ?_
                  refine lv_aload_n hx hb dX1_canBulge_90 rfl (lv_at hl 1 rfl) ?_
                  refine lv_iload_n hx hb dX1_canBulge_91 rfl (lv_at hl 2 rfl) ?_
                  refine mf_iconst hx hb dX1_canBulge_92 ?_
                  refine mf_iadd hx hb dX1_canBulge_93 ?_
                  refine vp_callSi (va_Run.run (va_runV (As := [.int (iI (iv + 1))]) (rest := [.ref h]) ⟨hx, hb, hml, hown, hts⟩ (c_X1_cellAt l G h ad r (iv + 1) (i32_mk (by omega) (by omega)) (by assumption)) (cwV 1 hts gX1_canBulge_X1_cellAt rfl rfl rfl (by decide +kernel) ⟨Nat.le_of_ble_eq_true rfl, Nat.le_of_ble_eq_true rfl⟩) (rdV (wc := RW G h ad r) hK hP hN [0, 1, 2, 3, 4, 5, 6, 7, 8, 9, 10, 11] rfl (ci := 1) rfl rfl) rfl rfl hl.1 rfl (lv_room (Nat.le_of_ble_eq_true rfl)) dX1_canBulge_94 ⟨(Nat.zero_le _), (Nat.zero_le _)⟩)) (fun q27 hq27 => ?_)
                  subst hq27
                  refine mf_nm (fun y28 ey28 => ?_)
                  have b29 : -1 ≤ y28 ∧ y28 ≤ 383 := by rw [ey28]; exact cellAtF_b (by assumption) (iv + 1)
                  refine lv_iload_n hx hb dX1_canBulge_97 rfl (lv_at hl 3 rfl) ?_
                  refine vp_callSi (va_Run.run (va_runSN (As := [.int (iI (y28)), .int (iI (sv))]) (rest := [.ref h]) ⟨hx, hb, hml, hown, hts⟩ (c_X2_neighbour l (y28) (sv) (i32_mk (by omega) (by omega)) (i32_mk (by omega) (by omega))) ⟨(va_cnB 2 hts gX1_canBulge_X2_neighbour_n89 rfl rfl rfl (hN.m 29 rfl) (hts (.initialized RX2) (List.mem_of_getElem? (i := 18) rfl)) (by decide +kernel) ⟨Nat.le_of_ble_eq_true rfl, Nat.le_of_ble_eq_true rfl⟩), (hts (.static yX2_neighbour) (List.mem_of_getElem? (i := 17) rfl)), trivial⟩ pureS rfl rfl hl.1 rfl (lv_room (Nat.le_of_ble_eq_true rfl)) dX1_canBulge_98 ⟨(Nat.zero_le _), (Nat.zero_le _)⟩)) (fun q30 hq30 => ?_)
                  subst hq30
                  refine mf_nm (fun y31 ey31 => ?_)
                  have b32 : -1 ≤ y31 ∧ y31 ≤ 383 := by rw [ey31]; exact nbr_b y28 sv
                  refine vp_callSi (va_Run.run (va_runV (As := [.int (iI (y31))]) (rest := []) ⟨hx, hb, hml, hown, hts⟩ (c_X1_isOpen l G h ad r (y31) (i32_mk (by omega) (by omega)) (by assumption)) (cwV 1 hts gX1_canBulge_X1_isOpen rfl rfl rfl (by decide +kernel) ⟨Nat.le_of_ble_eq_true rfl, Nat.le_of_ble_eq_true rfl⟩) (rdV (wc := RW G h ad r) hK hP hN [0, 1, 2, 3, 4, 5, 6, 7, 8, 9, 10, 11] rfl (ci := 1) rfl rfl) rfl rfl hl.1 rfl (lv_room (Nat.le_of_ble_eq_true rfl)) dX1_canBulge_101 ⟨(Nat.zero_le _), (Nat.zero_le _)⟩)) (fun q33 hq33 => ?_)
                  subst hq33
                  refine mf_bp_eq (tgt := 111) hx hb dX1_canBulge_104 (by decide) (fun c34 => ?_) (fun c34 => ?_)
                  · skip
                    have c34' := c34; unfold openP at c34'
                    refine mf_iconst hx hb dX1_canBulge_111 ?_
                    exact W.zret hx hb hr (mf_nar01 (by omega)) (fun t ht hW => ⟨_, rfl, (congrArg iI (bP_f (by subst_vars; intro z; unfold canB at z; obtain ⟨z1, z2, z3, z4, z5, z6, z7, z8⟩ := z; first | contradiction | omega)).symm), ht⟩) t_nil dX1_canBulge_112
                  · skip
                    have c34' := c34; unfold openP at c34'
                    refine mf_iconst hx hb dX1_canBulge_107 ?_
                    refine lv_goto (tgt := 112) hx hb dX1_canBulge_108 (by decide) ?_
                    exact W.zret hx hb hr (mf_nar01 (by omega)) (fun t ht hW => ⟨_, rfl, (congrArg iI (bP_t (by subst_vars; unfold canB; exact ⟨by assumption, by omega, by omega, by omega, by assumption, by assumption, by assumption, by assumption⟩)).symm), ht⟩) t_nil dX1_canBulge_112
        · skip
          refine mf_iconst hx hb dX1_canBulge_29 ?_
          exact W.zret hx hb hr (mf_nar01 (by omega)) (fun t ht hW => ⟨_, rfl, (congrArg iI (bP_f (by subst_vars; intro z; unfold canB at z; obtain ⟨z1, z2, z3, z4, z5, z6, z7, z8⟩ := z; first | contradiction | omega)).symm), ht⟩) t_nil dX1_canBulge_30
set_option maxHeartbeats 4000000 in
set_option maxRecDepth 100000 in
theorem c_X1_isNeck (l : Launch) (G : mf_G) (h : Nat) (ad : Nat → Nat) (r : mf_V) (iv : Int) (jv : Int) (hiv : i32 iv) (hjv : i32 jv) (ok : rOK rlo rhi r) : Met l yX1_isNeck wsX1_isNeck ({ frames := 2, cells := 0, slots := 0, locals := 45 }) (va_Pc [.ref h, .int (iI (iv)), .int (iI (jv))] (RdP G (RW G h ad r))) (vp_Si (fun q => q = iI (bP (neckP r iv jv)))) 0 0 (fun _ => False) := by
  refine Met.ofW (cc := cX1_isNeck) (maxL := 3) (ret := (some .boolean)) (by decide) rfl ?_
  intro p e s m args below meth c s₁ B hml hv
  obtain ⟨rfl, hP, hK, hN⟩ := hv
  have hx := B.exec
  have hb := B.bytes
  have hr := B.returns
  have hts := atoms_spec (ws := wsX1_isNeck) B.pre
  have hown : s.vm.findClass RX1 = some m.cls := findClass_of_methodNamed B.named
  have hlocks := B.notSynchronized
  have hinX1 : ∀ w ∈ u_ws RX1 TX1 14, w ∈ wsX1_isNeck := fun w h => List.mem_cons_of_mem _ (List.mem_append_right _ h)
  have hl := lv_entry ([.ref h, .int (iI (iv)), .int (iI (jv))]) (n := 3) (Nat.le_of_ble_eq_true rfl)
  rw [lg_entry_eq]
  generalize (lg_sl ([.ref h, .int (iI (iv)), .int (iI (jv))]) ++ List.replicate (3 - (lg_sl ([.ref h, .int (iI (iv)), .int (iI (jv))])).length) Slot.unset).toArray = ls at hl ⊢
  have hl : lv_has ls 3 [(0, .ref h), (1, .int (iI (iv))), (2, .int (iI (jv)))] := hl
  have hiv1 := hiv.1
  have hiv2 := hiv.2
  have hjv1 := hjv.1
  have hjv2 := hjv.2
  have okLr : (0 : Int) ≤ r 7 0 ∧ r 7 0 ≤ 150 := ok 7 0
  refine lv_aload_n hx hb dX1_isNeck_0 rfl (lv_at hl 0 rfl) ?_
  refine lv_iload_n hx hb dX1_isNeck_1 rfl (lv_at hl 1 rfl) ?_
  refine vp_callSi (va_Run.run (va_runV (As := [.int (iI (iv))]) (rest := []) ⟨hx, hb, hml, hown, hts⟩ (c_X1_isInCourse l G h ad r (iv) (i32_mk (by omega) (by omega)) (by assumption)) (cwV 1 hts gX1_isNeck_X1_isInCourse rfl rfl rfl (by decide +kernel) ⟨Nat.le_of_ble_eq_true rfl, Nat.le_of_ble_eq_true rfl⟩) (rdV (wc := RW G h ad r) hK hP hN [0, 1, 2, 3, 4, 5, 6, 7, 8, 9, 10, 11] rfl (ci := 1) rfl rfl) rfl rfl hl.1 rfl (lv_room (Nat.le_of_ble_eq_true rfl)) dX1_isNeck_2 ⟨(Nat.zero_le _), (Nat.zero_le _)⟩)) (fun q1 hq1 => ?_)
  subst hq1
  refine mf_bp_eq (tgt := 46) hx hb dX1_isNeck_5 (by decide) (fun c2 => ?_) (fun c2 => ?_)
  · skip
    have c2' := c2; unfold inC at c2'
    refine mf_iconst hx hb dX1_isNeck_46 ?_
    exact W.zret hx hb hr (mf_nar01 (by omega)) (fun t ht hW => ⟨_, rfl, (congrArg iI (bP_f (by subst_vars; intro z; unfold neckP at z; obtain ⟨z1, z2, z3, z4⟩ := z; first | contradiction | omega)).symm), ht⟩) t_nil dX1_isNeck_47
  · skip
    have c2' := c2; unfold inC at c2'
    refine lv_aload_n hx hb dX1_isNeck_8 rfl (lv_at hl 0 rfl) ?_
    refine lv_iload_n hx hb dX1_isNeck_9 rfl (lv_at hl 2 rfl) ?_
    refine vp_callSi (va_Run.run (va_runV (As := [.int (iI (jv))]) (rest := []) ⟨hx, hb, hml, hown, hts⟩ (c_X1_isInCourse l G h ad r (jv) (i32_mk (by omega) (by omega)) (by assumption)) (cwV 1 hts gX1_isNeck_X1_isInCourse rfl rfl rfl (by decide +kernel) ⟨Nat.le_of_ble_eq_true rfl, Nat.le_of_ble_eq_true rfl⟩) (rdV (wc := RW G h ad r) hK hP hN [0, 1, 2, 3, 4, 5, 6, 7, 8, 9, 10, 11] rfl (ci := 1) rfl rfl) rfl rfl hl.1 rfl (lv_room (Nat.le_of_ble_eq_true rfl)) dX1_isNeck_10 ⟨(Nat.zero_le _), (Nat.zero_le _)⟩)) (fun q3 hq3 => ?_)
    subst hq3
    refine mf_bp_eq (tgt := 46) hx hb dX1_isNeck_13 (by decide) (fun c4 => ?_) (fun c4 => ?_)
    · skip
      have c4' := c4; unfold inC at c4'
      refine mf_iconst hx hb dX1_isNeck_46 ?_
      exact W.zret hx hb hr (mf_nar01 (by omega)) (fun t ht hW => ⟨_, rfl, (congrArg iI (bP_f (by subst_vars; intro z; unfold neckP at z; obtain ⟨z1, z2, z3, z4⟩ := z; first | contradiction | omega)).symm), ht⟩) t_nil dX1_isNeck_47
    · skip
      have c4' := c4; unfold inC at c4'
      refine lv_iload_n hx hb dX1_isNeck_16 rfl (lv_at hl 2 rfl) ?_
      refine lv_iload_n hx hb dX1_isNeck_17 rfl (lv_at hl 1 rfl) ?_
      refine mf_isub hx hb dX1_isNeck_18 ?_
      refine mf_iconst hx hb dX1_isNeck_19 ?_
      refine mf_icmp_lt (tgt := 46) hx hb dX1_isNeck_20 (by decide) (i32_mk (by omega) (by omega)) (i32_mk (by decide) (by decide)) (fun c5 => ?_) (fun c5 => ?_)
      · skip
        refine mf_iconst hx hb dX1_isNeck_46 ?_
        exact W.zret hx hb hr (mf_nar01 (by omega)) (fun t ht hW => ⟨_, rfl, (congrArg iI (bP_f (by subst_vars; intro z; unfold neckP at z; obtain ⟨z1, z2, z3, z4⟩ := z; first | contradiction | omega)).symm), ht⟩) t_nil dX1_isNeck_47
      · skip
        refine lv_aload_n hx hb dX1_isNeck_23 rfl (lv_at hl 0 rfl) ?_
        refine va_get (D := G.1) (ci := 1) (v := .ref (ad 6)) (C := RX1) (T := TX1) (N := 14) hx hb hts hinX1 hown hK hP 0 rfl rfl 6 (by decide) (hts (.fieldLink RX1 31 "MeanderFarm$River" "course" "[I") (List.mem_of_getElem? (i := 1) rfl)) (fun _ h9 => h9) rfl dX1_isNeck_24 ?_
        refine lv_iload_n hx hb dX1_isNeck_27 rfl (lv_at hl 1 rfl) ?_
        refine mf_iald (n := 150) (f := r 6) hx hb hK hP 7 0 rfl rfl (z := iv) (by omega) (by omega) (by decide) dX1_isNeck_28 ?_
        have b6 : (0 : Int) ≤ r 6 iv ∧ r 6 iv ≤ 383 := ok 6 (iv)
        refine lv_aload_n hx hb dX1_isNeck_29 rfl (lv_at hl 0 rfl) ?_
        refine va_get (D := G.1) (ci := 1) (v := .ref (ad 6)) (C := RX1) (T := TX1) (N := 14) hx hb hts hinX1 hown hK hP 0 rfl rfl 6 (by decide) (hts (.fieldLink RX1 31 "MeanderFarm$River" "course" "[I") (List.mem_of_getElem? (i := 1) rfl)) (fun _ h9 => h9) rfl dX1_isNeck_30 ?_
        refine lv_iload_n hx hb dX1_isNeck_33 rfl (lv_at hl 2 rfl) ?_
        refine mf_iald (n := 150) (f := r 6) hx hb hK hP 7 0 rfl rfl (z := jv) (by omega) (by omega) (by decide) dX1_isNeck_34 ?_
        have b7 : (0 : Int) ≤ r 6 jv ∧ r 6 jv ≤ 383 := ok 6 (jv)
        refine vp_callSi (va_Run.run (va_runSN (As := [.int (iI (r 6 iv)), .int (iI (r 6 jv))]) (rest := []) ⟨hx, hb, hml, hown, hts⟩ (c_X2_directionTo l (r 6 iv) (r 6 jv) (i32_mk (by omega) (by omega)) (i32_mk (by omega) (by omega))) ⟨(va_cnB 2 hts gX1_isNeck_X2_directionTo_n83 rfl rfl rfl (hN.m 28 rfl) (hts (.initialized RX2) (List.mem_of_getElem? (i := 9) rfl)) (by decide +kernel) ⟨Nat.le_of_ble_eq_true rfl, Nat.le_of_ble_eq_true rfl⟩), (hts (.static yX2_directionTo) (List.mem_of_getElem? (i := 8) rfl)), trivial⟩ pureS rfl rfl hl.1 rfl (lv_room (Nat.le_of_ble_eq_true rfl)) dX1_isNeck_35 ⟨(Nat.zero_le _), (Nat.zero_le _)⟩)) (fun q8 hq8 => ?_)
        subst hq8
        refine mf_nm (fun y9 ey9 => ?_)
        have b10 : -1 ≤ y9 ∧ y9 ≤ 3 := by rw [ey9]; exact dirTo_b (r 6 iv) (r 6 jv)
        refine mf_iconst hx hb dX1_isNeck_38 ?_
        refine mf_icmp_eq (tgt := 46) hx hb dX1_isNeck_39 (by decide) (i32_mk (by omega) (by omega)) (i32_mk (by decide) (by decide)) (fun c11 => ?_) (fun c11 => ?_)
        · skip
          refine mf_iconst hx hb dX1_isNeck_46 ?_
          exact W.zret hx hb hr (mf_nar01 (by omega)) (fun t ht hW => ⟨_, rfl, (congrArg iI (bP_f (by subst_vars; intro z; unfold neckP at z; obtain ⟨z1, z2, z3, z4⟩ := z; first | contradiction | omega)).symm), ht⟩) t_nil dX1_isNeck_47
        · skip
          refine mf_iconst hx hb dX1_isNeck_42 ?_
          refine lv_goto (tgt := 47) hx hb dX1_isNeck_43 (by decide) ?_
          exact W.zret hx hb hr (mf_nar01 (by omega)) (fun t ht hW => ⟨_, rfl, (congrArg iI (bP_t (by subst_vars; unfold neckP; exact ⟨by assumption, by assumption, by omega, by omega⟩)).symm), ht⟩) t_nil dX1_isNeck_47
set_option maxHeartbeats 4000000 in
set_option maxRecDepth 100000 in
theorem c_X1_lakeYearsLeft (l : Launch) (G : mf_G) (h : Nat) (ad : Nat → Nat) (r : mf_V) (cv : Int) (hcv : i32 cv) (ok : rOK rlo rhi r) : Met l yX1_lakeYearsLeft wsX1_lakeYearsLeft ({ frames := 1, cells := 0, slots := 0, locals := 21 }) (va_Pc [.ref h, .int (iI (cv))] (RdP G (RW G h ad r))) (vp_Si (fun q => q = iI (lyl r cv))) 0 0 (fun _ => False) := by
  refine Met.ofW (cc := cX1_lakeYearsLeft) (maxL := 2) (ret := (some .int)) (by decide) rfl ?_
  intro p e s m args below meth c s₁ B hml hv
  obtain ⟨rfl, hP, hK, hN⟩ := hv
  have hx := B.exec
  have hb := B.bytes
  have hr := B.returns
  have hts := atoms_spec (ws := wsX1_lakeYearsLeft) B.pre
  have hown : s.vm.findClass RX1 = some m.cls := findClass_of_methodNamed B.named
  have hlocks := B.notSynchronized
  have hinX1 : ∀ w ∈ u_ws RX1 TX1 14, w ∈ wsX1_lakeYearsLeft := fun w h => List.mem_cons_of_mem _ (List.mem_append_right _ h)
  have hl := lv_entry ([.ref h, .int (iI (cv))]) (n := 2) (Nat.le_of_ble_eq_true rfl)
  rw [lg_entry_eq]
  generalize (lg_sl ([.ref h, .int (iI (cv))]) ++ List.replicate (2 - (lg_sl ([.ref h, .int (iI (cv))])).length) Slot.unset).toArray = ls at hl ⊢
  have hl : lv_has ls 2 [(0, .ref h), (1, .int (iI (cv)))] := hl
  have hcv1 := hcv.1
  have hcv2 := hcv.2
  have okLr : (0 : Int) ≤ r 7 0 ∧ r 7 0 ≤ 150 := ok 7 0
  refine lv_iload_n hx hb dX1_lakeYearsLeft_0 rfl (lv_at hl 1 rfl) ?_
  refine vp_callSi (va_Run.run (va_runSN (As := [.int (iI (cv))]) (rest := []) ⟨hx, hb, hml, hown, hts⟩ (c_X2_isCell l (cv) (i32_mk (by omega) (by omega))) ⟨(va_cnB 1 hts gX1_lakeYearsLeft_X2_isCell_n70 rfl rfl rfl (hN.m 27 rfl) (hts (.initialized RX2) (List.mem_of_getElem? (i := 8) rfl)) (by decide +kernel) ⟨Nat.le_of_ble_eq_true rfl, Nat.le_of_ble_eq_true rfl⟩), (hts (.static yX2_isCell) (List.mem_of_getElem? (i := 7) rfl)), trivial⟩ pureS rfl rfl hl.1 rfl (lv_room (Nat.le_of_ble_eq_true rfl)) dX1_lakeYearsLeft_1 ⟨(Nat.zero_le _), (Nat.zero_le _)⟩)) (fun q1 hq1 => ?_)
  subst hq1
  refine mf_bp_eq (tgt := 25) hx hb dX1_lakeYearsLeft_4 (by decide) (fun c2 => ?_) (fun c2 => ?_)
  · skip
    refine mf_iconst hx hb dX1_lakeYearsLeft_25 ?_
    exact W.iret hx hb hr (fun t ht hW => ⟨_, rfl, (congrArg iI (by unfold lyl; first | (rw [mf_if_t (by assumption)]; omega) | exact (mf_if_f (by assumption)).symm)), ht⟩) t_nil dX1_lakeYearsLeft_26
  · skip
    refine mf_iconst hx hb dX1_lakeYearsLeft_7 ?_
    refine lv_aload_n hx hb dX1_lakeYearsLeft_8 rfl (lv_at hl 0 rfl) ?_
    refine va_get (D := G.1) (ci := 1) (v := .ref (ad 3)) (C := RX1) (T := TX1) (N := 14) hx hb hts hinX1 hown hK hP 0 rfl rfl 3 (by decide) (hts (.fieldLink RX1 22 "MeanderFarm$River" "lakeEnd" "[I") (List.mem_of_getElem? (i := 1) rfl)) (fun _ h9 => h9) rfl dX1_lakeYearsLeft_9 ?_
    refine lv_iload_n hx hb dX1_lakeYearsLeft_12 rfl (lv_at hl 1 rfl) ?_
    refine mf_iald (n := 384) (f := r 3) hx hb hK hP 4 0 rfl rfl (z := cv) (by omega) (by omega) (by decide) dX1_lakeYearsLeft_13 ?_
    have b3 : (0 : Int) ≤ r 3 cv ∧ r 3 cv ≤ 100000 := ok 3 (cv)
    refine lv_aload_n hx hb dX1_lakeYearsLeft_14 rfl (lv_at hl 0 rfl) ?_
    refine va_get (D := G.1) (ci := 1) (v := .int (iI (r 8 0))) (C := RX1) (T := TX1) (N := 14) hx hb hts hinX1 hown hK hP 0 rfl rfl 8 (by decide) (hts (.fieldLink RX1 60 "MeanderFarm$River" "year" "I") (List.mem_of_getElem? (i := 2) rfl)) (fun _ h9 => h9) rfl dX1_lakeYearsLeft_15 ?_
    have b4 : (0 : Int) ≤ r 8 0 ∧ r 8 0 ≤ 90000 := ok 8 (0)
    refine mf_isub hx hb dX1_lakeYearsLeft_18 ?_
    refine mf_mmax hx hb (hml.trans hl.1.symm) hown (hts (.methodLink RX1 73 Lib.Math.max.name) (List.mem_of_getElem? (i := 3) rfl)) (hts (.static Lib.Math.max.name) (List.mem_of_getElem? (i := 4) rfl)) (hts (.initialized "java/lang/Math") (List.mem_of_getElem? (i := 5) rfl)) (hts (.code Lib.Math.max.name Lib.Math.max.code 2 (some .int)) (List.mem_of_getElem? (i := 6) rfl)) (by decide) (Nat.le_of_ble_eq_true rfl) (Nat.zero_le _) (Nat.zero_le _) (i32_mk (by decide) (by decide)) (i32_mk (by omega) (by omega)) dX1_lakeYearsLeft_19 ?_
    refine mf_nm (fun y5 ey5 => ?_)
    refine lv_goto (tgt := 26) hx hb dX1_lakeYearsLeft_22 (by decide) ?_
    exact W.iret hx hb hr (fun t ht hW => ⟨_, rfl, (congrArg iI (by unfold lyl; first | (rw [mf_if_t (by assumption)]; omega) | exact (mf_if_f (by assumption)).symm)), ht⟩) t_nil dX1_lakeYearsLeft_26
set_option maxHeartbeats 4000000 in
set_option maxRecDepth 100000 in
theorem c_X1_lakes (l : Launch) (G : mf_G) (h : Nat) (ad : Nat → Nat) (r : mf_V) (ok : rOK rlo rhi r) : Met l yX1_lakes wsX1_lakes ({ frames := 0, cells := 0, slots := 0, locals := 0 }) (va_Pc [.ref h] (RdP G (RW G h ad r))) (vp_Si (fun q => q = iI (lakesF r))) 0 0 (fun _ => False) := by
  refine Met.ofW (cc := cX1_lakes) (maxL := 3) (ret := (some .int)) (by decide) rfl ?_
  intro p e s m args below meth c s₁ B hml hv
  obtain ⟨rfl, hP, hK, hN⟩ := hv
  have hx := B.exec
  have hb := B.bytes
  have hr := B.returns
  have hts := atoms_spec (ws := wsX1_lakes) B.pre
  have hown : s.vm.findClass RX1 = some m.cls := findClass_of_methodNamed B.named
  have hlocks := B.notSynchronized
  have hinX1 : ∀ w ∈ u_ws RX1 TX1 14, w ∈ wsX1_lakes := fun w h => List.mem_cons_of_mem _ (List.mem_append_right _ h)
  have hl := lv_entry ([.ref h]) (n := 3) (Nat.le_of_ble_eq_true rfl)
  rw [lg_entry_eq]
  generalize (lg_sl ([.ref h]) ++ List.replicate (3 - (lg_sl ([.ref h])).length) Slot.unset).toArray = ls at hl ⊢
  have hl : lv_has ls 3 [(0, .ref h)] := hl
  have okLr : (0 : Int) ≤ r 7 0 ∧ r 7 0 ≤ 150 := ok 7 0
  refine mf_iconst hx hb dX1_lakes_0 ?_
  refine lv_istore_n (lv' := [(1, .int (iI (0))), (0, .ref h)]) hx hb dX1_lakes_1 rfl hl (by decide) rfl (fun ls hl => ?_)
  refine mf_iconst hx hb dX1_lakes_2 ?_
  refine lv_istore_n (lv' := [(2, .int (iI (0))), (1, .int (iI (0))), (0, .ref h)]) hx hb dX1_lakes_3 rfl hl (by decide) rfl (fun ls hl => ?_)
  have lp4 : ∀ (n : Nat) (xv : Int) (kv : Int), (384 - kv).toNat < n → (0 ≤ kv ∧ kv ≤ 384) → (xv = msum (fun c => bP (r 8 0 < r 3 c)) kv) → ∀ (ls : Array Slot), lv_has ls 3 [(0, .ref h), (1, .int (iI (xv))), (2, .int (iI (kv)))] → W p l e (headSpec wsX1_lakes ({ frames := 0, cells := 0, slots := 0, locals := 0 })).room s m ([.ref h] : List Value).toArray below meth c s.heap [] 0 0 (MQ below (vp_Si (fun q => q = iI (lakesF r))) ([.ref h] : List Value).toArray s 0 0 (fun _ => False)) (F0 m 4 ls []) := by
    intro n
    induction n with
    | zero => intro xv kv hn; exact absurd hn (Nat.not_lt_zero _)
    | succ n ih4 =>
      intro xv kv hn hk hs ls hl
      refine lv_iload_n hx hb dX1_lakes_4 rfl (lv_at hl 2 rfl) ?_
      refine mf_sipush hx hb dX1_lakes_5 rfl ?_
      refine mf_icmp_ge (tgt := 33) hx hb dX1_lakes_8 (by decide) (i32_mk (by omega) (by omega)) (i32_mk (by decide) (by decide)) (fun c1 => ?_) (fun c1 => ?_)
      · skip
        refine lv_iload_n hx hb dX1_lakes_33 rfl (lv_at hl 1 rfl) ?_
        exact W.iret hx hb hr (fun t ht hW => ⟨_, rfl, (congrArg iI (by rw [show kv = 384 by omega] at hs; exact hs)), ht⟩) t_nil dX1_lakes_34
      · skip
        refine lv_aload_n hx hb dX1_lakes_11 rfl (lv_at hl 0 rfl) ?_
        refine va_get (D := G.1) (ci := 1) (v := .ref (ad 3)) (C := RX1) (T := TX1) (N := 14) hx hb hts hinX1 hown hK hP 0 rfl rfl 3 (by decide) (hts (.fieldLink RX1 22 "MeanderFarm$River" "lakeEnd" "[I") (List.mem_of_getElem? (i := 1) rfl)) (fun _ h9 => h9) rfl dX1_lakes_12 ?_
        refine lv_iload_n hx hb dX1_lakes_15 rfl (lv_at hl 2 rfl) ?_
        refine mf_iald (n := 384) (f := r 3) hx hb hK hP 4 0 rfl rfl (z := kv) (by omega) (by omega) (by decide) dX1_lakes_16 ?_
        have b2 : (0 : Int) ≤ r 3 kv ∧ r 3 kv ≤ 100000 := ok 3 (kv)
        refine lv_aload_n hx hb dX1_lakes_17 rfl (lv_at hl 0 rfl) ?_
        refine va_get (D := G.1) (ci := 1) (v := .int (iI (r 8 0))) (C := RX1) (T := TX1) (N := 14) hx hb hts hinX1 hown hK hP 0 rfl rfl 8 (by decide) (hts (.fieldLink RX1 60 "MeanderFarm$River" "year" "I") (List.mem_of_getElem? (i := 2) rfl)) (fun _ h9 => h9) rfl dX1_lakes_18 ?_
        have b3 : (0 : Int) ≤ r 8 0 ∧ r 8 0 ≤ 90000 := ok 8 (0)
        refine mf_icmp_le (tgt := 27) hx hb dX1_lakes_21 (by decide) (i32_mk (by omega) (by omega)) (i32_mk (by omega) (by omega)) (fun c4 => ?_) (fun c4 => ?_)
        · skip
          refine lv_iinc (v := iI (kv + 1)) (lv' := [(2, .int (iI (kv + 1))), (0, .ref h), (1, .int (iI (xv)))]) hx hb dX1_lakes_27 hl (k := 2) rfl (iI_add _ _).symm (by decide) rfl (fun ls hl => ?_)
          refine lv_goto (tgt := 4) hx hb dX1_lakes_30 (by decide) ?_
          exact ih4 xv (kv + 1) (by omega) (by first | assumption | omega) (by first | (rw [msum_s _ (by omega), bP_t (by first | assumption | omega)]; omega) | (rw [msum_s _ (by omega), bP_f (by first | assumption | omega)]; omega) | (rw [msum_s _ (by omega)]; omega) | exact (msum_0 _).symm)  ls (lv_sub hl [1, 2, 0] rfl)
        · skip
          refine lv_iinc (v := iI (xv + 1)) (lv' := [(1, .int (iI (xv + 1))), (0, .ref h), (2, .int (iI (kv)))]) hx hb dX1_lakes_24 hl (k := 1) rfl (iI_add _ _).symm (by decide) rfl (fun ls hl => ?_)
          refine lv_iinc (v := iI (kv + 1)) (lv' := [(2, .int (iI (kv + 1))), (1, .int (iI (xv + 1))), (0, .ref h)]) hx hb dX1_lakes_27 hl (k := 2) rfl (iI_add _ _).symm (by decide) rfl (fun ls hl => ?_)
          refine lv_goto (tgt := 4) hx hb dX1_lakes_30 (by decide) ?_
          exact ih4 (xv + 1) (kv + 1) (by omega) (by first | assumption | omega) (by first | (rw [msum_s _ (by omega), bP_t (by first | assumption | omega)]; omega) | (rw [msum_s _ (by omega), bP_f (by first | assumption | omega)]; omega) | (rw [msum_s _ (by omega)]; omega) | exact (msum_0 _).symm)  ls (lv_sub hl [2, 1, 0] rfl)
  exact lp4 (_ + 1) 0 0 (Nat.lt_succ_self _) (by first | assumption | omega) (by first | (rw [msum_s _ (by omega), bP_t (by first | assumption | omega)]; omega) | (rw [msum_s _ (by omega), bP_f (by first | assumption | omega)]; omega) | (rw [msum_s _ (by omega)]; omega) | exact (msum_0 _).symm)  ls (lv_sub hl [2, 1, 0] rfl)
set_option maxHeartbeats 4000000 in
set_option maxRecDepth 100000 in
theorem c_X1_cellsWithStones (l : Launch) (G : mf_G) (h : Nat) (ad : Nat → Nat) (r : mf_V) (ok : rOK rlo rhi r) : Met l yX1_cellsWithStones wsX1_cellsWithStones ({ frames := 0, cells := 0, slots := 0, locals := 0 }) (va_Pc [.ref h] (RdP G (RW G h ad r))) (vp_Si (fun q => q = iI (stonesF r))) 0 0 (fun _ => False) := by
  refine Met.ofW (cc := cX1_cellsWithStones) (maxL := 3) (ret := (some .int)) (by decide) rfl ?_
  intro p e s m args below meth c s₁ B hml hv
  obtain ⟨rfl, hP, hK, hN⟩ := hv
  have hx := B.exec
  have hb := B.bytes
  have hr := B.returns
  have hts := atoms_spec (ws := wsX1_cellsWithStones) B.pre
  have hown : s.vm.findClass RX1 = some m.cls := findClass_of_methodNamed B.named
  have hlocks := B.notSynchronized
  have hinX1 : ∀ w ∈ u_ws RX1 TX1 14, w ∈ wsX1_cellsWithStones := fun w h => List.mem_cons_of_mem _ (List.mem_append_right _ h)
  have hl := lv_entry ([.ref h]) (n := 3) (Nat.le_of_ble_eq_true rfl)
  rw [lg_entry_eq]
  generalize (lg_sl ([.ref h]) ++ List.replicate (3 - (lg_sl ([.ref h])).length) Slot.unset).toArray = ls at hl ⊢
  have hl : lv_has ls 3 [(0, .ref h)] := hl
  have okLr : (0 : Int) ≤ r 7 0 ∧ r 7 0 ≤ 150 := ok 7 0
  refine mf_iconst hx hb dX1_cellsWithStones_0 ?_
  refine lv_istore_n (lv' := [(1, .int (iI (0))), (0, .ref h)]) hx hb dX1_cellsWithStones_1 rfl hl (by decide) rfl (fun ls hl => ?_)
  refine mf_iconst hx hb dX1_cellsWithStones_2 ?_
  refine lv_istore_n (lv' := [(2, .int (iI (0))), (1, .int (iI (0))), (0, .ref h)]) hx hb dX1_cellsWithStones_3 rfl hl (by decide) rfl (fun ls hl => ?_)
  have lp4 : ∀ (n : Nat) (xv : Int) (kv : Int), (384 - kv).toNat < n → (0 ≤ kv ∧ kv ≤ 384) → (xv = msum (fun c => bP (¬ r 2 c = 0)) kv) → ∀ (ls : Array Slot), lv_has ls 3 [(0, .ref h), (1, .int (iI (xv))), (2, .int (iI (kv)))] → W p l e (headSpec wsX1_cellsWithStones ({ frames := 0, cells := 0, slots := 0, locals := 0 })).room s m ([.ref h] : List Value).toArray below meth c s.heap [] 0 0 (MQ below (vp_Si (fun q => q = iI (stonesF r))) ([.ref h] : List Value).toArray s 0 0 (fun _ => False)) (F0 m 4 ls []) := by
    intro n
    induction n with
    | zero => intro xv kv hn; exact absurd hn (Nat.not_lt_zero _)
    | succ n ih4 =>
      intro xv kv hn hk hs ls hl
      refine lv_iload_n hx hb dX1_cellsWithStones_4 rfl (lv_at hl 2 rfl) ?_
      refine mf_sipush hx hb dX1_cellsWithStones_5 rfl ?_
      refine mf_icmp_ge (tgt := 29) hx hb dX1_cellsWithStones_8 (by decide) (i32_mk (by omega) (by omega)) (i32_mk (by decide) (by decide)) (fun c1 => ?_) (fun c1 => ?_)
      · skip
        refine lv_iload_n hx hb dX1_cellsWithStones_29 rfl (lv_at hl 1 rfl) ?_
        exact W.iret hx hb hr (fun t ht hW => ⟨_, rfl, (congrArg iI (by rw [show kv = 384 by omega] at hs; exact hs)), ht⟩) t_nil dX1_cellsWithStones_30
      · skip
        refine lv_aload_n hx hb dX1_cellsWithStones_11 rfl (lv_at hl 0 rfl) ?_
        refine va_get (D := G.1) (ci := 1) (v := .ref (ad 2)) (C := RX1) (T := TX1) (N := 14) hx hb hts hinX1 hown hK hP 0 rfl rfl 2 (by decide) (hts (.fieldLink RX1 18 "MeanderFarm$River" "stones" "[Z") (List.mem_of_getElem? (i := 1) rfl)) (fun _ h9 => h9) rfl dX1_cellsWithStones_12 ?_
        refine lv_iload_n hx hb dX1_cellsWithStones_15 rfl (lv_at hl 2 rfl) ?_
        refine mf_zald (n := 384) (f := r 2) hx hb hK hP 3 1 rfl rfl (z := kv) (by omega) (by omega) (by decide) dX1_cellsWithStones_16 ?_
        have b2 : (0 : Int) ≤ r 2 kv ∧ r 2 kv ≤ 1 := ok 2 (kv)
        refine mf_if_eq (tgt := 23) hx hb dX1_cellsWithStones_17 (by decide) (i32_mk (by omega) (by omega)) (fun c3 => ?_) (fun c3 => ?_)
        · skip
          refine lv_iinc (v := iI (kv + 1)) (lv' := [(2, .int (iI (kv + 1))), (0, .ref h), (1, .int (iI (xv)))]) hx hb dX1_cellsWithStones_23 hl (k := 2) rfl (iI_add _ _).symm (by decide) rfl (fun ls hl => ?_)
          refine lv_goto (tgt := 4) hx hb dX1_cellsWithStones_26 (by decide) ?_
          exact ih4 xv (kv + 1) (by omega) (by first | assumption | omega) (by first | (rw [msum_s _ (by omega), bP_t (by first | assumption | omega)]; omega) | (rw [msum_s _ (by omega), bP_f (by first | assumption | omega)]; omega) | (rw [msum_s _ (by omega)]; omega) | exact (msum_0 _).symm)  ls (lv_sub hl [1, 2, 0] rfl)
        · skip
          refine lv_iinc (v := iI (xv + 1)) (lv' := [(1, .int (iI (xv + 1))), (0, .ref h), (2, .int (iI (kv)))]) hx hb dX1_cellsWithStones_20 hl (k := 1) rfl (iI_add _ _).symm (by decide) rfl (fun ls hl => ?_)
          refine lv_iinc (v := iI (kv + 1)) (lv' := [(2, .int (iI (kv + 1))), (1, .int (iI (xv + 1))), (0, .ref h)]) hx hb dX1_cellsWithStones_23 hl (k := 2) rfl (iI_add _ _).symm (by decide) rfl (fun ls hl => ?_)
          refine lv_goto (tgt := 4) hx hb dX1_cellsWithStones_26 (by decide) ?_
          exact ih4 (xv + 1) (kv + 1) (by omega) (by first | assumption | omega) (by first | (rw [msum_s _ (by omega), bP_t (by first | assumption | omega)]; omega) | (rw [msum_s _ (by omega), bP_f (by first | assumption | omega)]; omega) | (rw [msum_s _ (by omega)]; omega) | exact (msum_0 _).symm)  ls (lv_sub hl [2, 1, 0] rfl)
  exact lp4 (_ + 1) 0 0 (Nat.lt_succ_self _) (by first | assumption | omega) (by first | (rw [msum_s _ (by omega), bP_t (by first | assumption | omega)]; omega) | (rw [msum_s _ (by omega), bP_f (by first | assumption | omega)]; omega) | (rw [msum_s _ (by omega)]; omega) | exact (msum_0 _).symm)  ls (lv_sub hl [2, 1, 0] rfl)
set_option maxHeartbeats 4000000 in
set_option maxRecDepth 100000 in
theorem c_X1_allWear (l : Launch) (G : mf_G) (h : Nat) (ad : Nat → Nat) (r : mf_V) (ok : rOK rlo rhi r) : Met l yX1_allWear wsX1_allWear ({ frames := 0, cells := 0, slots := 0, locals := 0 }) (va_Pc [.ref h] (RdP G (RW G h ad r))) (vp_Si (fun q => q = iI (wearF r))) 0 0 (fun _ => False) := by
  refine Met.ofW (cc := cX1_allWear) (maxL := 3) (ret := (some .int)) (by decide) rfl ?_
  intro p e s m args below meth c s₁ B hml hv
  obtain ⟨rfl, hP, hK, hN⟩ := hv
  have hx := B.exec
  have hb := B.bytes
  have hr := B.returns
  have hts := atoms_spec (ws := wsX1_allWear) B.pre
  have hown : s.vm.findClass RX1 = some m.cls := findClass_of_methodNamed B.named
  have hlocks := B.notSynchronized
  have hinX1 : ∀ w ∈ u_ws RX1 TX1 14, w ∈ wsX1_allWear := fun w h => List.mem_cons_of_mem _ (List.mem_append_right _ h)
  have hl := lv_entry ([.ref h]) (n := 3) (Nat.le_of_ble_eq_true rfl)
  rw [lg_entry_eq]
  generalize (lg_sl ([.ref h]) ++ List.replicate (3 - (lg_sl ([.ref h])).length) Slot.unset).toArray = ls at hl ⊢
  have hl : lv_has ls 3 [(0, .ref h)] := hl
  have okLr : (0 : Int) ≤ r 7 0 ∧ r 7 0 ≤ 150 := ok 7 0
  refine mf_iconst hx hb dX1_allWear_0 ?_
  refine lv_istore_n (lv' := [(1, .int (iI (0))), (0, .ref h)]) hx hb dX1_allWear_1 rfl hl (by decide) rfl (fun ls hl => ?_)
  refine mf_iconst hx hb dX1_allWear_2 ?_
  refine lv_istore_n (lv' := [(2, .int (iI (0))), (1, .int (iI (0))), (0, .ref h)]) hx hb dX1_allWear_3 rfl hl (by decide) rfl (fun ls hl => ?_)
  have lp4 : ∀ (n : Nat) (xv : Int) (kv : Int), (384 - kv).toNat < n → (0 ≤ kv ∧ kv ≤ 384) → (xv = msum (r 1) kv) → ∀ (ls : Array Slot), lv_has ls 3 [(0, .ref h), (1, .int (iI (xv))), (2, .int (iI (kv)))] → W p l e (headSpec wsX1_allWear ({ frames := 0, cells := 0, slots := 0, locals := 0 })).room s m ([.ref h] : List Value).toArray below meth c s.heap [] 0 0 (MQ below (vp_Si (fun q => q = iI (wearF r))) ([.ref h] : List Value).toArray s 0 0 (fun _ => False)) (F0 m 4 ls []) := by
    intro n
    induction n with
    | zero => intro xv kv hn; exact absurd hn (Nat.not_lt_zero _)
    | succ n ih4 =>
      intro xv kv hn hk hs ls hl
      refine lv_iload_n hx hb dX1_allWear_4 rfl (lv_at hl 2 rfl) ?_
      refine mf_sipush hx hb dX1_allWear_5 rfl ?_
      refine mf_icmp_ge (tgt := 26) hx hb dX1_allWear_8 (by decide) (i32_mk (by omega) (by omega)) (i32_mk (by decide) (by decide)) (fun c1 => ?_) (fun c1 => ?_)
      · skip
        refine lv_iload_n hx hb dX1_allWear_26 rfl (lv_at hl 1 rfl) ?_
        exact W.iret hx hb hr (fun t ht hW => ⟨_, rfl, (congrArg iI (by rw [show kv = 384 by omega] at hs; exact hs)), ht⟩) t_nil dX1_allWear_27
      · skip
        refine lv_iload_n hx hb dX1_allWear_11 rfl (lv_at hl 1 rfl) ?_
        refine lv_aload_n hx hb dX1_allWear_12 rfl (lv_at hl 0 rfl) ?_
        refine va_get (D := G.1) (ci := 1) (v := .ref (ad 1)) (C := RX1) (T := TX1) (N := 14) hx hb hts hinX1 hown hK hP 0 rfl rfl 1 (by decide) (hts (.fieldLink RX1 15 "MeanderFarm$River" "wear" "[I") (List.mem_of_getElem? (i := 1) rfl)) (fun _ h9 => h9) rfl dX1_allWear_13 ?_
        refine lv_iload_n hx hb dX1_allWear_16 rfl (lv_at hl 2 rfl) ?_
        refine mf_iald (n := 384) (f := r 1) hx hb hK hP 2 0 rfl rfl (z := kv) (by omega) (by omega) (by decide) dX1_allWear_17 ?_
        have b2 : (0 : Int) ≤ r 1 kv ∧ r 1 kv ≤ 200000000 := ok 1 (kv)
        refine mf_iadd hx hb dX1_allWear_18 ?_
        refine lv_istore_n (lv' := [(1, .int (iI (xv + (r 1 kv)))), (0, .ref h), (2, .int (iI (kv)))]) hx hb dX1_allWear_19 rfl hl (by decide) rfl (fun ls hl => ?_)
        refine lv_iinc (v := iI (kv + 1)) (lv' := [(2, .int (iI (kv + 1))), (1, .int (iI (xv + (r 1 kv)))), (0, .ref h)]) hx hb dX1_allWear_20 hl (k := 2) rfl (iI_add _ _).symm (by decide) rfl (fun ls hl => ?_)
        refine lv_goto (tgt := 4) hx hb dX1_allWear_23 (by decide) ?_
        exact ih4 (xv + (r 1 kv)) (kv + 1) (by omega) (by first | assumption | omega) (by first | (rw [msum_s _ (by omega), bP_t (by first | assumption | omega)]; omega) | (rw [msum_s _ (by omega), bP_f (by first | assumption | omega)]; omega) | (rw [msum_s _ (by omega)]; omega) | exact (msum_0 _).symm)  ls (lv_sub hl [2, 1, 0] rfl)
  exact lp4 (_ + 1) 0 0 (Nat.lt_succ_self _) (by first | assumption | omega) (by first | (rw [msum_s _ (by omega), bP_t (by first | assumption | omega)]; omega) | (rw [msum_s _ (by omega), bP_f (by first | assumption | omega)]; omega) | (rw [msum_s _ (by omega)]; omega) | exact (msum_0 _).symm)  ls (lv_sub hl [2, 1, 0] rfl)
