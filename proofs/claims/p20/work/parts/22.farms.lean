/-! 22.farms: farms -/
def isF (f : mf_V) (k : Int) : Prop := 0 ≤ k ∧ k < f 4 0
/-- whether the call farm() counts a cell by the number w -/
def cntP (r : mf_V) (w c : Int) : Prop := (0 ≤ c ∧ c < 384) ∧ ((w = 0) ∨ (w = 1 ∧ r 10 c = -1 ∧ lyl r c ≤ 0) ∨ (w = 2 ∧ ¬ r 10 c = -1) ∨ (w = 3 ∧ 0 < lyl r c) ∨ ((w < 0 ∨ 3 < w) ∧ r 2 c = 1))
noncomputable def cof (f r : mf_V) (k w : Int) : Int := msum (fun j => msum (fun i => bP (cntP r w (cellNo (f 0 k + i) (f 1 k + j)))) (f 2 k)) (f 3 k)
theorem msum_bb {g : Int → Int} {lo hi N : Int} (hl : lo ≤ 0) (hh : 0 ≤ hi) (h : ∀ z, lo ≤ g z ∧ g z ≤ hi) (hN : 0 ≤ N) : lo * N ≤ msum g N ∧ msum g N ≤ hi * N := by
  obtain ⟨n, rfl⟩ := Int.eq_ofNat_of_zero_le hN
  exact msum_b hl hh h n
theorem cof_b {f r : mf_V} (h : rOK flo fhi f) (k w : Int) : 0 ≤ cof f r k w ∧ cof f r k w ≤ 384 := by
  have b2 : (0 : Int) ≤ f 2 k ∧ f 2 k ≤ 24 := h 2 k
  have b3 : (0 : Int) ≤ f 3 k ∧ f 3 k ≤ 16 := h 3 k
  unfold cof
  have g := msum_bb (g := fun j => msum (fun i => bP (cntP r w (cellNo (f 0 k + i) (f 1 k + j)))) (f 2 k)) (lo := 0) (hi := 24) (N := f 3 k) (by omega) (by omega) (fun z => by
    have g2 := msum_bb (g := fun i => bP (cntP r w (cellNo (f 0 k + i) (f 1 k + z)))) (lo := 0) (hi := 1) (N := f 2 k) (by omega) (by omega) (fun y => bP_01 _) b2.1
    omega) b3.1
  omega
noncomputable def cofF (f r : mf_V) (k w : Int) : Int := mf_if (isF f k) (cof f r k w) 0
theorem cofF_b {f r : mf_V} (h : rOK flo fhi f) (k w : Int) : 0 ≤ cofF f r k w ∧ cofF f r k w ≤ 384 := by
  unfold cofF
  by_cases q : isF f k
  · rw [mf_if_t q]; exact cof_b h k w
  · rw [mf_if_f q]; omega
/-- whether a farm has the cell in column x, row y -/
def inF (f : mf_V) (x y k : Int) : Prop := f 0 k ≤ x ∧ x < f 0 k + f 2 k ∧ f 1 k ≤ y ∧ y < f 1 k + f 3 k
noncomputable def faG (f : mf_V) (x y k : Int) : Int32 := Nat.rec (motive := fun _ => Int32) 0 (fun n s => @ite _ (inF f x y n) (Classical.propDecidable _) (s ||| ((iI 1) <<< (iI n &&& 31))) s) k.toNat
theorem faG_0 (f : mf_V) (x y : Int) : faG f x y 0 = 0 := rfl
theorem faG_s (f : mf_V) (x y : Int) {k : Int} (h : 0 ≤ k) : faG f x y (k + 1) = @ite _ (inF f x y k) (Classical.propDecidable _) (faG f x y k ||| ((iI 1) <<< (iI k &&& 31))) (faG f x y k) := by
  obtain ⟨n, rfl⟩ := Int.eq_ofNat_of_zero_le h
  unfold faG
  rw [show ((n : Int) + 1).toNat = n + 1 by omega, show ((n : Int)).toNat = n by omega]
theorem faG_t (f : mf_V) (x y : Int) {k : Int} (h : 0 ≤ k) (q : inF f x y k) : faG f x y (k + 1) = faG f x y k ||| ((iI 1) <<< (iI k &&& 31)) := by rw [faG_s f x y h]; exact if_pos q
theorem faG_f (f : mf_V) (x y : Int) {k : Int} (h : 0 ≤ k) (q : ¬ inF f x y k) : faG f x y (k + 1) = faG f x y k := by rw [faG_s f x y h]; exact if_neg q
set_option maxHeartbeats 4000000 in
set_option maxRecDepth 100000 in
theorem c_X0_isFarm (l : Launch) (G : mf_G) (hf : Nat) (adf : Nat → Nat) (f : mf_V) (kv : Int) (hkv : i32 kv) (okf : rOK flo fhi f) : Met l yX0_isFarm wsX0_isFarm ({ frames := 0, cells := 0, slots := 0, locals := 0 }) (va_Pc [.ref hf, .int (iI (kv))] (RdP G (FW G hf adf f))) (vp_Si (fun q => q = iI (bP (isF f kv)))) 0 0 (fun _ => False) := by
  refine Met.ofW (cc := cX0_isFarm) (maxL := 2) (ret := (some .boolean)) (by decide) rfl ?_
  intro p e s m args below meth c s₁ B hml hv
  obtain ⟨rfl, hP, hK, hN⟩ := hv
  have hx := B.exec
  have hb := B.bytes
  have hr := B.returns
  have hts := atoms_spec (ws := wsX0_isFarm) B.pre
  have hown : s.vm.findClass RX0 = some m.cls := findClass_of_methodNamed B.named
  have hlocks := B.notSynchronized
  have hinX0 : ∀ w ∈ u_ws RX0 TX0 5, w ∈ wsX0_isFarm := fun w h => List.mem_cons_of_mem _ (List.mem_append_right _ h)
  have hl := lv_entry ([.ref hf, .int (iI (kv))]) (n := 2) (Nat.le_of_ble_eq_true rfl)
  rw [lg_entry_eq]
  generalize (lg_sl ([.ref hf, .int (iI (kv))]) ++ List.replicate (2 - (lg_sl ([.ref hf, .int (iI (kv))])).length) Slot.unset).toArray = ls at hl ⊢
  have hl : lv_has ls 2 [(0, .ref hf), (1, .int (iI (kv)))] := hl
  have hkv1 := hkv.1
  have hkv2 := hkv.2
  refine lv_iload_n hx hb dX0_isFarm_0 rfl (lv_at hl 1 rfl) ?_
  refine mf_if_lt (tgt := 22) hx hb dX0_isFarm_1 (by decide) (i32_mk (by omega) (by omega)) (fun c1 => ?_) (fun c1 => ?_)
  · skip
    refine mf_iconst hx hb dX0_isFarm_22 ?_
    exact W.zret hx hb hr (mf_nar01 (by omega)) (fun t ht hW => ⟨_, rfl, (congrArg iI (bP_f (by unfold isF; omega)).symm), ht⟩) t_nil dX0_isFarm_23
  · skip
    refine lv_iload_n hx hb dX0_isFarm_4 rfl (lv_at hl 1 rfl) ?_
    refine lv_aload_n hx hb dX0_isFarm_5 rfl (lv_at hl 0 rfl) ?_
    refine va_get (D := G.1) (ci := 0) (v := .int (iI (f 4 0))) (C := RX0) (T := TX0) (N := 5) hx hb hts hinX0 hown hK hP 0 rfl rfl 4 (by decide) (hts (.fieldLink RX0 24 "MeanderFarm$Farms" "size" "I") (List.mem_of_getElem? (i := 1) rfl)) (fun _ h9 => h9) rfl dX0_isFarm_6 ?_
    have b2 : (0 : Int) ≤ f 4 0 ∧ f 4 0 ≤ 6 := okf 4 (0)
    refine mf_icmp_ge (tgt := 22) hx hb dX0_isFarm_9 (by decide) (i32_mk (by omega) (by omega)) (i32_mk (by omega) (by omega)) (fun c3 => ?_) (fun c3 => ?_)
    · skip
      refine mf_iconst hx hb dX0_isFarm_22 ?_
      exact W.zret hx hb hr (mf_nar01 (by omega)) (fun t ht hW => ⟨_, rfl, (congrArg iI (bP_f (by unfold isF; omega)).symm), ht⟩) t_nil dX0_isFarm_23
    · skip
      refine lv_iload_n hx hb dX0_isFarm_12 rfl (lv_at hl 1 rfl) ?_
      refine mf_bipush hx hb dX0_isFarm_13 rfl ?_
      refine mf_icmp_ge (tgt := 22) hx hb dX0_isFarm_15 (by decide) (i32_mk (by omega) (by omega)) (i32_mk (by decide) (by decide)) (fun c4 => ?_) (fun c4 => ?_)
      · skip
        refine mf_iconst hx hb dX0_isFarm_22 ?_
        exact W.zret hx hb hr (mf_nar01 (by omega)) (fun t ht hW => ⟨_, rfl, (congrArg iI (bP_f (by unfold isF; omega)).symm), ht⟩) t_nil dX0_isFarm_23
      · skip
        refine mf_iconst hx hb dX0_isFarm_18 ?_
        refine lv_goto (tgt := 23) hx hb dX0_isFarm_19 (by decide) ?_
        exact W.zret hx hb hr (mf_nar01 (by omega)) (fun t ht hW => ⟨_, rfl, (congrArg iI (bP_t (by unfold isF; omega)).symm), ht⟩) t_nil dX0_isFarm_23
set_option maxHeartbeats 4000000 in
set_option maxRecDepth 100000 in
theorem c_X0_isCounted (l : Launch) (G : mf_G) (h2r : Nat) (ad : Nat → Nat) (r : mf_V) (cv : Int) (wv : Int) (hcv : i32 cv) (hwv : i32 wv) (ok : rOK rlo rhi r) : Met l yX0_isCounted wsX0_isCounted ({ frames := 2, cells := 0, slots := 0, locals := 42 }) (va_Pc [.int (iI (cv)), .int (iI (wv)), .ref h2r] (RdP G (RW G h2r ad r))) (vp_Si (fun q => q = iI (bP (cntP r wv cv)))) 0 0 (fun _ => False) := by
  refine Met.ofW (cc := cX0_isCounted) (maxL := 5) (ret := (some .boolean)) (by decide) rfl ?_
  intro p e s m args below meth c s₁ B hml hv
  obtain ⟨rfl, hP, hK, hN⟩ := hv
  have hx := B.exec
  have hb := B.bytes
  have hr := B.returns
  have hts := atoms_spec (ws := wsX0_isCounted) B.pre
  have hown : s.vm.findClass RX0 = some m.cls := findClass_of_methodNamed B.named
  have hlocks := B.notSynchronized
  have hinX1 : ∀ w ∈ u_ws RX1 TX1 14, w ∈ wsX0_isCounted := fun w h => List.mem_cons_of_mem _ (List.mem_append_right _ h)
  have hl := lv_entry ([.int (iI (cv)), .int (iI (wv)), .ref h2r]) (n := 5) (Nat.le_of_ble_eq_true rfl)
  rw [lg_entry_eq]
  generalize (lg_sl ([.int (iI (cv)), .int (iI (wv)), .ref h2r]) ++ List.replicate (5 - (lg_sl ([.int (iI (cv)), .int (iI (wv)), .ref h2r])).length) Slot.unset).toArray = ls at hl ⊢
  have hl : lv_has ls 5 [(0, .int (iI (cv))), (1, .int (iI (wv))), (2, .ref h2r)] := hl
  have hcv1 := hcv.1
  have hcv2 := hcv.2
  have hwv1 := hwv.1
  have hwv2 := hwv.2
  have okLr : (0 : Int) ≤ r 7 0 ∧ r 7 0 ≤ 150 := ok 7 0
  refine lv_iload_n hx hb dX0_isCounted_0 rfl (lv_at hl 0 rfl) ?_
  refine vp_callSi (va_Run.run (va_runSN (As := [.int (iI (cv))]) (rest := []) ⟨hx, hb, hml, hown, hts⟩ (c_X2_isCell l (cv) (i32_mk (by omega) (by omega))) ⟨(va_cnB 1 hts gX0_isCounted_X2_isCell_n40 rfl rfl rfl (hN.m 25 rfl) (hts (.initialized RX2) (List.mem_of_getElem? (i := 2) rfl)) (by decide +kernel) ⟨Nat.le_of_ble_eq_true rfl, Nat.le_of_ble_eq_true rfl⟩), (hts (.static yX2_isCell) (List.mem_of_getElem? (i := 1) rfl)), trivial⟩ pureS rfl rfl hl.1 rfl (lv_room (Nat.le_of_ble_eq_true rfl)) dX0_isCounted_1 ⟨(Nat.zero_le _), (Nat.zero_le _)⟩)) (fun q1 hq1 => ?_)
  subst hq1
  refine mf_bp_eq (tgt := 11) hx hb dX0_isCounted_4 (by decide) (fun c2 => ?_) (fun c2 => ?_)
  · skip
    refine mf_iconst hx hb dX0_isCounted_11 ?_
    exact W.zret hx hb hr (mf_nar01 (by omega)) (fun t ht hW => ⟨_, rfl, (congrArg iI (bP_f (by unfold cntP; omega)).symm), ht⟩) t_nil dX0_isCounted_12
  · skip
    refine lv_aload_n hx hb dX0_isCounted_7 rfl (lv_at hl 2 rfl) ?_
    refine lv_ifnonnull (tgt := 13) hx hb dX0_isCounted_8 (by decide) ?_
    refine lv_aload_n hx hb dX0_isCounted_13 rfl (lv_at hl 2 rfl) ?_
    refine va_getN (D := G.1) (ci := 1) (v := .ref (ad 10)) (C := RX1) (T := TX1) (N := 14) hx hb hts hinX1 hown hK hP 0 rfl rfl 10 (by decide) (va_Nw.use rfl (hN.f 14 rfl)) (fun _ h9 => h9) rfl dX0_isCounted_14 ?_
    refine lv_iload_n hx hb dX0_isCounted_17 rfl (lv_at hl 0 rfl) ?_
    refine mf_iald (n := 384) (f := r 10) hx hb hK hP 8 0 rfl rfl (z := cv) (by omega) (by omega) (by decide) dX0_isCounted_18 ?_
    have b3 : (-1 : Int) ≤ r 10 cv ∧ r 10 cv ≤ 149 := ok 10 (cv)
    refine mf_iconst hx hb dX0_isCounted_19 ?_
    refine mf_icmp_eq (tgt := 27) hx hb dX0_isCounted_20 (by decide) (i32_mk (by omega) (by omega)) (i32_mk (by decide) (by decide)) (fun c4 => ?_) (fun c4 => ?_)
    · skip
      refine mf_iconst hx hb dX0_isCounted_27 ?_
      refine lv_istore_n (lv' := [(3, .int (iI (0))), (0, .int (iI (cv))), (1, .int (iI (wv))), (2, .ref h2r)]) hx hb dX0_isCounted_28 rfl hl (by decide) rfl (fun ls hl => ?_)
      refine lv_aload_n hx hb dX0_isCounted_29 rfl (lv_at hl 3 rfl) ?_
      refine lv_iload_n hx hb dX0_isCounted_30 rfl (lv_at hl 1 rfl) ?_
      refine vp_callSi (va_Run.run (va_runVN (As := [.int (iI (cv))]) (rest := []) ⟨hx, hb, hml, hown, hts⟩ (c_X1_lakeYearsLeft l G h2r ad r (cv) (i32_mk (by omega) (by omega)) (by assumption)) ⟨(va_cnB 1 hts gX0_isCounted_X1_lakeYearsLeft_n48 rfl rfl rfl (hN.m 26 rfl) (hts (.initialized RX1) (List.mem_of_getElem? (i := 5) rfl)) (by decide +kernel) ⟨Nat.le_of_ble_eq_true rfl, Nat.le_of_ble_eq_true rfl⟩), (hts (.instanceMethod yX1_lakeYearsLeft) (List.mem_of_getElem? (i := 4) rfl)), (hts (.selects RX1 yX1_lakeYearsLeft yX1_lakeYearsLeft) (List.mem_of_getElem? (i := 6) rfl))⟩ (rdV (wc := RW G h2r ad r) hK hP hN [0, 1, 2, 3, 4, 5, 6, 7, 8, 9, 10, 11] rfl (ci := 1) rfl rfl) rfl rfl hl.1 rfl (lv_room (Nat.le_of_ble_eq_true rfl)) dX0_isCounted_31 ⟨(Nat.zero_le _), (Nat.zero_le _)⟩)) (fun q5 hq5 => ?_)
      subst hq5
      refine mf_nm (fun y6 ey6 => ?_)
      have b7 : 0 ≤ y6 ∧ y6 ≤ 100000 := by rw [ey6]; exact lyl_b (by assumption) cv
      refine mf_if_le (tgt := 41) hx hb dX0_isCounted_34 (by decide) (i32_mk (by omega) (by omega)) (fun c8 => ?_) (fun c8 => ?_)
      · skip
        refine mf_iconst hx hb dX0_isCounted_41 ?_
        refine lv_istore (lv' := [(4, .int (iI (0))), (3, .int (iI (0))), (0, .int (iI (cv))), (1, .int (iI (wv))), (2, .ref h2r)]) hx hb dX0_isCounted_42 hl (by decide) rfl (fun ls hl => ?_)
        refine lv_iload_n hx hb dX0_isCounted_44 rfl (lv_at hl 3 rfl) ?_
        have w9 : i32 (wv) := (i32_mk (by omega) (by omega))
        rcases (show  (wv) = 0 ∨  (wv) = 1 ∨  (wv) = 2 ∨  (wv) = 3 ∨  ((wv) < 0 ∨ 3 < (wv)) by omega) with c10 | c10 | c10 | c10 | c10
        · skip
          refine lv_tableIn (off := 31) (tgt := 76) hx hb dX0_isCounted_45 (by rw [iI_toInt w9]; omega) (by rw [iI_toInt w9]; omega) (by rw [iI_toInt w9, c10]; rfl) (by decide) ?_
          refine mf_iconst hx hb dX0_isCounted_76 ?_
          exact W.zret hx hb hr (mf_nar01 (by omega)) (fun t ht hW => ⟨_, rfl, (congrArg iI (bP_t (by unfold cntP; omega)).symm), ht⟩) t_nil dX0_isCounted_77
        · skip
          refine lv_tableIn (off := 33) (tgt := 78) hx hb dX0_isCounted_45 (by rw [iI_toInt w9]; omega) (by rw [iI_toInt w9]; omega) (by rw [iI_toInt w9, c10]; rfl) (by decide) ?_
          refine lv_iload_n hx hb dX0_isCounted_78 rfl (lv_at hl 1 rfl) ?_
          refine mf_if_ne (tgt := 91) hx hb dX0_isCounted_79 (by decide) (i32_mk (by decide) (by decide)) (fun c11 => ?_) (fun c11 => ?_)
          · skip
            exact absurd c11 (by omega)
          · skip
            refine lv_iload hx hb dX0_isCounted_82 (lv_at hl 0 rfl) ?_
            refine mf_if_ne (tgt := 91) hx hb dX0_isCounted_84 (by decide) (i32_mk (by decide) (by decide)) (fun c12 => ?_) (fun c12 => ?_)
            · skip
              exact absurd c12 (by omega)
            · skip
              refine mf_iconst hx hb dX0_isCounted_87 ?_
              refine lv_goto (tgt := 92) hx hb dX0_isCounted_88 (by decide) ?_
              exact W.zret hx hb hr (mf_nar01 (by omega)) (fun t ht hW => ⟨_, rfl, (congrArg iI (bP_t (by unfold cntP; omega)).symm), ht⟩) t_nil dX0_isCounted_92
        · skip
          refine lv_tableIn (off := 48) (tgt := 93) hx hb dX0_isCounted_45 (by rw [iI_toInt w9]; omega) (by rw [iI_toInt w9]; omega) (by rw [iI_toInt w9, c10]; rfl) (by decide) ?_
          refine lv_iload_n hx hb dX0_isCounted_93 rfl (lv_at hl 1 rfl) ?_
          exact W.zret hx hb hr (mf_nar01 (by omega)) (fun t ht hW => ⟨_, rfl, (congrArg iI (bP_f (by unfold cntP; omega)).symm), ht⟩) t_nil dX0_isCounted_94
        · skip
          refine lv_tableIn (off := 50) (tgt := 95) hx hb dX0_isCounted_45 (by rw [iI_toInt w9]; omega) (by rw [iI_toInt w9]; omega) (by rw [iI_toInt w9, c10]; rfl) (by decide) ?_
          refine lv_iload hx hb dX0_isCounted_95 (lv_at hl 0 rfl) ?_
          exact W.zret hx hb hr (mf_nar01 (by omega)) (fun t ht hW => ⟨_, rfl, (congrArg iI (bP_f (by unfold cntP; omega)).symm), ht⟩) t_nil dX0_isCounted_97
        · skip
          refine lv_tableOut (tgt := 98) hx hb dX0_isCounted_45 (by rw [iI_toInt w9]; omega) (by decide) ?_
          refine lv_aload_n hx hb dX0_isCounted_98 rfl (lv_at hl 4 rfl) ?_
          refine va_getN (D := G.1) (ci := 1) (v := .ref (ad 2)) (C := RX1) (T := TX1) (N := 14) hx hb hts hinX1 hown hK hP 0 rfl rfl 2 (by decide) (va_Nw.use rfl (hN.f 15 rfl)) (fun _ h9 => h9) rfl dX0_isCounted_99 ?_
          refine lv_iload_n hx hb dX0_isCounted_102 rfl (lv_at hl 2 rfl) ?_
          refine mf_zald (n := 384) (f := r 2) hx hb hK hP 3 1 rfl rfl (z := cv) (by omega) (by omega) (by decide) dX0_isCounted_103 ?_
          have b13 : (0 : Int) ≤ r 2 cv ∧ r 2 cv ≤ 1 := ok 2 (cv)
          exact W.zret hx hb hr (mf_nar01 (by omega)) (fun t ht hW => ⟨_, rfl, (congrArg iI (by rcases (show r 2 cv = 0 ∨ r 2 cv = 1 by omega) with z | z; (rw [z, bP_f (by unfold cntP; omega)]); (rw [z, bP_t (by unfold cntP; omega)]))), ht⟩) t_nil dX0_isCounted_104
      · skip
        refine mf_iconst hx hb dX0_isCounted_37 ?_
        refine lv_goto (tgt := 42) hx hb dX0_isCounted_38 (by decide) ?_
        refine lv_istore (lv' := [(4, .int (iI (1))), (3, .int (iI (0))), (0, .int (iI (cv))), (1, .int (iI (wv))), (2, .ref h2r)]) hx hb dX0_isCounted_42 hl (by decide) rfl (fun ls hl => ?_)
        refine lv_iload_n hx hb dX0_isCounted_44 rfl (lv_at hl 3 rfl) ?_
        have w14 : i32 (wv) := (i32_mk (by omega) (by omega))
        rcases (show  (wv) = 0 ∨  (wv) = 1 ∨  (wv) = 2 ∨  (wv) = 3 ∨  ((wv) < 0 ∨ 3 < (wv)) by omega) with c15 | c15 | c15 | c15 | c15
        · skip
          refine lv_tableIn (off := 31) (tgt := 76) hx hb dX0_isCounted_45 (by rw [iI_toInt w14]; omega) (by rw [iI_toInt w14]; omega) (by rw [iI_toInt w14, c15]; rfl) (by decide) ?_
          refine mf_iconst hx hb dX0_isCounted_76 ?_
          exact W.zret hx hb hr (mf_nar01 (by omega)) (fun t ht hW => ⟨_, rfl, (congrArg iI (bP_t (by unfold cntP; omega)).symm), ht⟩) t_nil dX0_isCounted_77
        · skip
          refine lv_tableIn (off := 33) (tgt := 78) hx hb dX0_isCounted_45 (by rw [iI_toInt w14]; omega) (by rw [iI_toInt w14]; omega) (by rw [iI_toInt w14, c15]; rfl) (by decide) ?_
          refine lv_iload_n hx hb dX0_isCounted_78 rfl (lv_at hl 1 rfl) ?_
          refine mf_if_ne (tgt := 91) hx hb dX0_isCounted_79 (by decide) (i32_mk (by decide) (by decide)) (fun c16 => ?_) (fun c16 => ?_)
          · skip
            exact absurd c16 (by omega)
          · skip
            refine lv_iload hx hb dX0_isCounted_82 (lv_at hl 0 rfl) ?_
            refine mf_if_ne (tgt := 91) hx hb dX0_isCounted_84 (by decide) (i32_mk (by decide) (by decide)) (fun c17 => ?_) (fun c17 => ?_)
            · skip
              refine mf_iconst hx hb dX0_isCounted_91 ?_
              exact W.zret hx hb hr (mf_nar01 (by omega)) (fun t ht hW => ⟨_, rfl, (congrArg iI (bP_f (by unfold cntP; omega)).symm), ht⟩) t_nil dX0_isCounted_92
            · skip
              exact absurd c17 (by omega)
        · skip
          refine lv_tableIn (off := 48) (tgt := 93) hx hb dX0_isCounted_45 (by rw [iI_toInt w14]; omega) (by rw [iI_toInt w14]; omega) (by rw [iI_toInt w14, c15]; rfl) (by decide) ?_
          refine lv_iload_n hx hb dX0_isCounted_93 rfl (lv_at hl 1 rfl) ?_
          exact W.zret hx hb hr (mf_nar01 (by omega)) (fun t ht hW => ⟨_, rfl, (congrArg iI (bP_f (by unfold cntP; omega)).symm), ht⟩) t_nil dX0_isCounted_94
        · skip
          refine lv_tableIn (off := 50) (tgt := 95) hx hb dX0_isCounted_45 (by rw [iI_toInt w14]; omega) (by rw [iI_toInt w14]; omega) (by rw [iI_toInt w14, c15]; rfl) (by decide) ?_
          refine lv_iload hx hb dX0_isCounted_95 (lv_at hl 0 rfl) ?_
          exact W.zret hx hb hr (mf_nar01 (by omega)) (fun t ht hW => ⟨_, rfl, (congrArg iI (bP_t (by unfold cntP; omega)).symm), ht⟩) t_nil dX0_isCounted_97
        · skip
          refine lv_tableOut (tgt := 98) hx hb dX0_isCounted_45 (by rw [iI_toInt w14]; omega) (by decide) ?_
          refine lv_aload_n hx hb dX0_isCounted_98 rfl (lv_at hl 4 rfl) ?_
          refine va_getN (D := G.1) (ci := 1) (v := .ref (ad 2)) (C := RX1) (T := TX1) (N := 14) hx hb hts hinX1 hown hK hP 0 rfl rfl 2 (by decide) (va_Nw.use rfl (hN.f 15 rfl)) (fun _ h9 => h9) rfl dX0_isCounted_99 ?_
          refine lv_iload_n hx hb dX0_isCounted_102 rfl (lv_at hl 2 rfl) ?_
          refine mf_zald (n := 384) (f := r 2) hx hb hK hP 3 1 rfl rfl (z := cv) (by omega) (by omega) (by decide) dX0_isCounted_103 ?_
          have b18 : (0 : Int) ≤ r 2 cv ∧ r 2 cv ≤ 1 := ok 2 (cv)
          exact W.zret hx hb hr (mf_nar01 (by omega)) (fun t ht hW => ⟨_, rfl, (congrArg iI (by rcases (show r 2 cv = 0 ∨ r 2 cv = 1 by omega) with z | z; (rw [z, bP_f (by unfold cntP; omega)]); (rw [z, bP_t (by unfold cntP; omega)]))), ht⟩) t_nil dX0_isCounted_104
    · skip
      refine mf_iconst hx hb dX0_isCounted_23 ?_
      refine lv_goto (tgt := 28) hx hb dX0_isCounted_24 (by decide) ?_
      refine lv_istore_n (lv' := [(3, .int (iI (1))), (0, .int (iI (cv))), (1, .int (iI (wv))), (2, .ref h2r)]) hx hb dX0_isCounted_28 rfl hl (by decide) rfl (fun ls hl => ?_)
      refine lv_aload_n hx hb dX0_isCounted_29 rfl (lv_at hl 3 rfl) ?_
      refine lv_iload_n hx hb dX0_isCounted_30 rfl (lv_at hl 1 rfl) ?_
      refine vp_callSi (va_Run.run (va_runVN (As := [.int (iI (cv))]) (rest := []) ⟨hx, hb, hml, hown, hts⟩ (c_X1_lakeYearsLeft l G h2r ad r (cv) (i32_mk (by omega) (by omega)) (by assumption)) ⟨(va_cnB 1 hts gX0_isCounted_X1_lakeYearsLeft_n48 rfl rfl rfl (hN.m 26 rfl) (hts (.initialized RX1) (List.mem_of_getElem? (i := 5) rfl)) (by decide +kernel) ⟨Nat.le_of_ble_eq_true rfl, Nat.le_of_ble_eq_true rfl⟩), (hts (.instanceMethod yX1_lakeYearsLeft) (List.mem_of_getElem? (i := 4) rfl)), (hts (.selects RX1 yX1_lakeYearsLeft yX1_lakeYearsLeft) (List.mem_of_getElem? (i := 6) rfl))⟩ (rdV (wc := RW G h2r ad r) hK hP hN [0, 1, 2, 3, 4, 5, 6, 7, 8, 9, 10, 11] rfl (ci := 1) rfl rfl) rfl rfl hl.1 rfl (lv_room (Nat.le_of_ble_eq_true rfl)) dX0_isCounted_31 ⟨(Nat.zero_le _), (Nat.zero_le _)⟩)) (fun q19 hq19 => ?_)
      subst hq19
      refine mf_nm (fun y20 ey20 => ?_)
      have b21 : 0 ≤ y20 ∧ y20 ≤ 100000 := by rw [ey20]; exact lyl_b (by assumption) cv
      refine mf_if_le (tgt := 41) hx hb dX0_isCounted_34 (by decide) (i32_mk (by omega) (by omega)) (fun c22 => ?_) (fun c22 => ?_)
      · skip
        refine mf_iconst hx hb dX0_isCounted_41 ?_
        refine lv_istore (lv' := [(4, .int (iI (0))), (3, .int (iI (1))), (0, .int (iI (cv))), (1, .int (iI (wv))), (2, .ref h2r)]) hx hb dX0_isCounted_42 hl (by decide) rfl (fun ls hl => ?_)
        refine lv_iload_n hx hb dX0_isCounted_44 rfl (lv_at hl 3 rfl) ?_
        have w23 : i32 (wv) := (i32_mk (by omega) (by omega))
        rcases (show  (wv) = 0 ∨  (wv) = 1 ∨  (wv) = 2 ∨  (wv) = 3 ∨  ((wv) < 0 ∨ 3 < (wv)) by omega) with c24 | c24 | c24 | c24 | c24
        · skip
          refine lv_tableIn (off := 31) (tgt := 76) hx hb dX0_isCounted_45 (by rw [iI_toInt w23]; omega) (by rw [iI_toInt w23]; omega) (by rw [iI_toInt w23, c24]; rfl) (by decide) ?_
          refine mf_iconst hx hb dX0_isCounted_76 ?_
          exact W.zret hx hb hr (mf_nar01 (by omega)) (fun t ht hW => ⟨_, rfl, (congrArg iI (bP_t (by unfold cntP; omega)).symm), ht⟩) t_nil dX0_isCounted_77
        · skip
          refine lv_tableIn (off := 33) (tgt := 78) hx hb dX0_isCounted_45 (by rw [iI_toInt w23]; omega) (by rw [iI_toInt w23]; omega) (by rw [iI_toInt w23, c24]; rfl) (by decide) ?_
          refine lv_iload_n hx hb dX0_isCounted_78 rfl (lv_at hl 1 rfl) ?_
          refine mf_if_ne (tgt := 91) hx hb dX0_isCounted_79 (by decide) (i32_mk (by decide) (by decide)) (fun c25 => ?_) (fun c25 => ?_)
          · skip
            refine mf_iconst hx hb dX0_isCounted_91 ?_
            exact W.zret hx hb hr (mf_nar01 (by omega)) (fun t ht hW => ⟨_, rfl, (congrArg iI (bP_f (by unfold cntP; omega)).symm), ht⟩) t_nil dX0_isCounted_92
          · skip
            exact absurd c25 (by omega)
        · skip
          refine lv_tableIn (off := 48) (tgt := 93) hx hb dX0_isCounted_45 (by rw [iI_toInt w23]; omega) (by rw [iI_toInt w23]; omega) (by rw [iI_toInt w23, c24]; rfl) (by decide) ?_
          refine lv_iload_n hx hb dX0_isCounted_93 rfl (lv_at hl 1 rfl) ?_
          exact W.zret hx hb hr (mf_nar01 (by omega)) (fun t ht hW => ⟨_, rfl, (congrArg iI (bP_t (by unfold cntP; omega)).symm), ht⟩) t_nil dX0_isCounted_94
        · skip
          refine lv_tableIn (off := 50) (tgt := 95) hx hb dX0_isCounted_45 (by rw [iI_toInt w23]; omega) (by rw [iI_toInt w23]; omega) (by rw [iI_toInt w23, c24]; rfl) (by decide) ?_
          refine lv_iload hx hb dX0_isCounted_95 (lv_at hl 0 rfl) ?_
          exact W.zret hx hb hr (mf_nar01 (by omega)) (fun t ht hW => ⟨_, rfl, (congrArg iI (bP_f (by unfold cntP; omega)).symm), ht⟩) t_nil dX0_isCounted_97
        · skip
          refine lv_tableOut (tgt := 98) hx hb dX0_isCounted_45 (by rw [iI_toInt w23]; omega) (by decide) ?_
          refine lv_aload_n hx hb dX0_isCounted_98 rfl (lv_at hl 4 rfl) ?_
          refine va_getN (D := G.1) (ci := 1) (v := .ref (ad 2)) (C := RX1) (T := TX1) (N := 14) hx hb hts hinX1 hown hK hP 0 rfl rfl 2 (by decide) (va_Nw.use rfl (hN.f 15 rfl)) (fun _ h9 => h9) rfl dX0_isCounted_99 ?_
          refine lv_iload_n hx hb dX0_isCounted_102 rfl (lv_at hl 2 rfl) ?_
          refine mf_zald (n := 384) (f := r 2) hx hb hK hP 3 1 rfl rfl (z := cv) (by omega) (by omega) (by decide) dX0_isCounted_103 ?_
          have b26 : (0 : Int) ≤ r 2 cv ∧ r 2 cv ≤ 1 := ok 2 (cv)
          exact W.zret hx hb hr (mf_nar01 (by omega)) (fun t ht hW => ⟨_, rfl, (congrArg iI (by rcases (show r 2 cv = 0 ∨ r 2 cv = 1 by omega) with z | z; (rw [z, bP_f (by unfold cntP; omega)]); (rw [z, bP_t (by unfold cntP; omega)]))), ht⟩) t_nil dX0_isCounted_104
      · skip
        refine mf_iconst hx hb dX0_isCounted_37 ?_
        refine lv_goto (tgt := 42) hx hb dX0_isCounted_38 (by decide) ?_
        refine lv_istore (lv' := [(4, .int (iI (1))), (3, .int (iI (1))), (0, .int (iI (cv))), (1, .int (iI (wv))), (2, .ref h2r)]) hx hb dX0_isCounted_42 hl (by decide) rfl (fun ls hl => ?_)
        refine lv_iload_n hx hb dX0_isCounted_44 rfl (lv_at hl 3 rfl) ?_
        have w27 : i32 (wv) := (i32_mk (by omega) (by omega))
        rcases (show  (wv) = 0 ∨  (wv) = 1 ∨  (wv) = 2 ∨  (wv) = 3 ∨  ((wv) < 0 ∨ 3 < (wv)) by omega) with c28 | c28 | c28 | c28 | c28
        · skip
          refine lv_tableIn (off := 31) (tgt := 76) hx hb dX0_isCounted_45 (by rw [iI_toInt w27]; omega) (by rw [iI_toInt w27]; omega) (by rw [iI_toInt w27, c28]; rfl) (by decide) ?_
          refine mf_iconst hx hb dX0_isCounted_76 ?_
          exact W.zret hx hb hr (mf_nar01 (by omega)) (fun t ht hW => ⟨_, rfl, (congrArg iI (bP_t (by unfold cntP; omega)).symm), ht⟩) t_nil dX0_isCounted_77
        · skip
          refine lv_tableIn (off := 33) (tgt := 78) hx hb dX0_isCounted_45 (by rw [iI_toInt w27]; omega) (by rw [iI_toInt w27]; omega) (by rw [iI_toInt w27, c28]; rfl) (by decide) ?_
          refine lv_iload_n hx hb dX0_isCounted_78 rfl (lv_at hl 1 rfl) ?_
          refine mf_if_ne (tgt := 91) hx hb dX0_isCounted_79 (by decide) (i32_mk (by decide) (by decide)) (fun c29 => ?_) (fun c29 => ?_)
          · skip
            refine mf_iconst hx hb dX0_isCounted_91 ?_
            exact W.zret hx hb hr (mf_nar01 (by omega)) (fun t ht hW => ⟨_, rfl, (congrArg iI (bP_f (by unfold cntP; omega)).symm), ht⟩) t_nil dX0_isCounted_92
          · skip
            exact absurd c29 (by omega)
        · skip
          refine lv_tableIn (off := 48) (tgt := 93) hx hb dX0_isCounted_45 (by rw [iI_toInt w27]; omega) (by rw [iI_toInt w27]; omega) (by rw [iI_toInt w27, c28]; rfl) (by decide) ?_
          refine lv_iload_n hx hb dX0_isCounted_93 rfl (lv_at hl 1 rfl) ?_
          exact W.zret hx hb hr (mf_nar01 (by omega)) (fun t ht hW => ⟨_, rfl, (congrArg iI (bP_t (by unfold cntP; omega)).symm), ht⟩) t_nil dX0_isCounted_94
        · skip
          refine lv_tableIn (off := 50) (tgt := 95) hx hb dX0_isCounted_45 (by rw [iI_toInt w27]; omega) (by rw [iI_toInt w27]; omega) (by rw [iI_toInt w27, c28]; rfl) (by decide) ?_
          refine lv_iload hx hb dX0_isCounted_95 (lv_at hl 0 rfl) ?_
          exact W.zret hx hb hr (mf_nar01 (by omega)) (fun t ht hW => ⟨_, rfl, (congrArg iI (bP_t (by unfold cntP; omega)).symm), ht⟩) t_nil dX0_isCounted_97
        · skip
          refine lv_tableOut (tgt := 98) hx hb dX0_isCounted_45 (by rw [iI_toInt w27]; omega) (by decide) ?_
          refine lv_aload_n hx hb dX0_isCounted_98 rfl (lv_at hl 4 rfl) ?_
          refine va_getN (D := G.1) (ci := 1) (v := .ref (ad 2)) (C := RX1) (T := TX1) (N := 14) hx hb hts hinX1 hown hK hP 0 rfl rfl 2 (by decide) (va_Nw.use rfl (hN.f 15 rfl)) (fun _ h9 => h9) rfl dX0_isCounted_99 ?_
          refine lv_iload_n hx hb dX0_isCounted_102 rfl (lv_at hl 2 rfl) ?_
          refine mf_zald (n := 384) (f := r 2) hx hb hK hP 3 1 rfl rfl (z := cv) (by omega) (by omega) (by decide) dX0_isCounted_103 ?_
          have b30 : (0 : Int) ≤ r 2 cv ∧ r 2 cv ≤ 1 := ok 2 (cv)
          exact W.zret hx hb hr (mf_nar01 (by omega)) (fun t ht hW => ⟨_, rfl, (congrArg iI (by rcases (show r 2 cv = 0 ∨ r 2 cv = 1 by omega) with z | z; (rw [z, bP_f (by unfold cntP; omega)]); (rw [z, bP_t (by unfold cntP; omega)]))), ht⟩) t_nil dX0_isCounted_104
set_option maxHeartbeats 4000000 in
set_option maxRecDepth 100000 in
theorem c_X0_cellsOf (l : Launch) (G : mf_G) (hf : Nat) (adf : Nat → Nat) (f : mf_V) (h2r : Nat) (ad : Nat → Nat) (r : mf_V) (kv : Int) (wv : Int) (hkv : i32 kv) (hwv : i32 wv) (okf : rOK flo fhi f) (ok : rOK rlo rhi r) : Met l yX0_cellsOf wsX0_cellsOf ({ frames := 3, cells := 0, slots := 0, locals := 66 }) (va_Pc [.ref hf, .int (iI (kv)), .int (iI (wv)), .ref h2r] (RdP G (FW G hf adf f ++ RW G h2r ad r))) (vp_Si (fun q => q = iI (cofF f r kv wv))) 0 0 (fun _ => False) := by
  refine Met.ofW (cc := cX0_cellsOf) (maxL := 7) (ret := (some .int)) (by decide) rfl ?_
  intro p e s m args below meth c s₁ B hml hv
  obtain ⟨rfl, hP, hK, hN⟩ := hv
  have hx := B.exec
  have hb := B.bytes
  have hr := B.returns
  have hts := atoms_spec (ws := wsX0_cellsOf) B.pre
  have hown : s.vm.findClass RX0 = some m.cls := findClass_of_methodNamed B.named
  have hlocks := B.notSynchronized
  have hinX0 : ∀ w ∈ u_ws RX0 TX0 5, w ∈ wsX0_cellsOf := fun w h => List.mem_cons_of_mem _ (List.mem_append_left _ (List.mem_append_right _ h))
  have hl := lv_entry ([.ref hf, .int (iI (kv)), .int (iI (wv)), .ref h2r]) (n := 7) (Nat.le_of_ble_eq_true rfl)
  rw [lg_entry_eq]
  generalize (lg_sl ([.ref hf, .int (iI (kv)), .int (iI (wv)), .ref h2r]) ++ List.replicate (7 - (lg_sl ([.ref hf, .int (iI (kv)), .int (iI (wv)), .ref h2r])).length) Slot.unset).toArray = ls at hl ⊢
  have hl : lv_has ls 7 [(0, .ref hf), (1, .int (iI (kv))), (2, .int (iI (wv))), (3, .ref h2r)] := hl
  have hkv1 := hkv.1
  have hkv2 := hkv.2
  have hwv1 := hwv.1
  have hwv2 := hwv.2
  have okLr : (0 : Int) ≤ r 7 0 ∧ r 7 0 ≤ 150 := ok 7 0
  refine lv_aload_n hx hb dX0_cellsOf_0 rfl (lv_at hl 0 rfl) ?_
  refine lv_iload_n hx hb dX0_cellsOf_1 rfl (lv_at hl 1 rfl) ?_
  refine vp_callSi (va_Run.run (va_runV (As := [.int (iI (kv))]) (rest := []) ⟨hx, hb, hml, hown, hts⟩ (c_X0_isFarm l G hf adf f (kv) (i32_mk (by omega) (by omega)) (by assumption)) (cwV 1 hts gX0_cellsOf_X0_isFarm rfl rfl rfl (by decide +kernel) ⟨Nat.le_of_ble_eq_true rfl, Nat.le_of_ble_eq_true rfl⟩) (rdV (wc := FW G hf adf f) hK hP hN [0, 1, 2, 3, 4] rfl (ci := 0) rfl rfl) rfl rfl hl.1 rfl (lv_room (Nat.le_of_ble_eq_true rfl)) dX0_cellsOf_2 ⟨(Nat.zero_le _), (Nat.zero_le _)⟩)) (fun q1 hq1 => ?_)
  subst hq1
  refine mf_bp_ne (tgt := 10) hx hb dX0_cellsOf_5 (by decide) (fun c2 => ?_) (fun c2 => ?_)
  · skip
    have c2' := c2; unfold isF at c2'
    have b6 : (0 : Int) ≤ f 4 0 ∧ f 4 0 ≤ 6 := okf 4 0
    have hF : isF f kv := by assumption
    unfold isF at hF
    have g0 : (0 : Int) ≤ f 0 kv ∧ f 0 kv ≤ 23 := okf 0 kv
    have g1 : (0 : Int) ≤ f 1 kv ∧ f 1 kv ≤ 15 := okf 1 kv
    have g2 : (0 : Int) ≤ f 2 kv ∧ f 2 kv ≤ 24 := okf 2 kv
    have g3 : (0 : Int) ≤ f 3 kv ∧ f 3 kv ≤ 16 := okf 3 kv
    refine mf_iconst hx hb dX0_cellsOf_10 ?_
    refine lv_istore (lv' := [(4, .int (iI (0))), (0, .ref hf), (1, .int (iI (kv))), (2, .int (iI (wv))), (3, .ref h2r)]) hx hb dX0_cellsOf_11 hl (by decide) rfl (fun ls hl => ?_)
    refine lv_aload_n hx hb dX0_cellsOf_13 rfl (lv_at hl 1 rfl) ?_
    refine va_get (D := G.1) (ci := 0) (v := .ref (adf 1)) (C := RX0) (T := TX0) (N := 5) hx hb hts hinX0 hown hK hP 0 rfl rfl 1 (by decide) (hts (.fieldLink RX0 15 "MeanderFarm$Farms" "row" "[I") (List.mem_of_getElem? (i := 1) rfl)) (fun _ h9 => h9) rfl dX0_cellsOf_14 ?_
    refine lv_iload_n hx hb dX0_cellsOf_17 rfl (lv_at hl 2 rfl) ?_
    refine mf_iald (n := 6) (f := f 1) hx hb hK hP 2 0 rfl rfl (z := kv) (by omega) (by omega) (by decide) dX0_cellsOf_18 ?_
    have b3 : (0 : Int) ≤ f 1 kv ∧ f 1 kv ≤ 15 := okf 1 (kv)
    refine lv_istore (lv' := [(5, .int (iI (f 1 kv))), (4, .int (iI (0))), (0, .ref hf), (1, .int (iI (kv))), (2, .int (iI (wv))), (3, .ref h2r)]) hx hb dX0_cellsOf_19 hl (by decide) rfl (fun ls hl => ?_)
    have lp21 : ∀ (n : Nat) (sv : Int) (yv : Int), (f 1 kv + f 3 kv - yv).toNat < n → (f 1 kv ≤ yv ∧ yv ≤ f 1 kv + f 3 kv) → (sv = msum (fun j => msum (fun i => bP (cntP r wv (cellNo (f 0 kv + i) (f 1 kv + j)))) (f 2 kv)) (yv - f 1 kv)) → ∀ (ls : Array Slot), lv_has ls 7 [(0, .ref hf), (1, .int (iI (kv))), (2, .int (iI (wv))), (3, .ref h2r), (4, .int (iI (sv))), (5, .int (iI (yv)))] → W p l e (headSpec wsX0_cellsOf ({ frames := 3, cells := 0, slots := 0, locals := 66 })).room s m ([.ref hf, .int (iI (kv)), .int (iI (wv)), .ref h2r] : List Value).toArray below meth c s.heap [] 0 0 (MQ below (vp_Si (fun q => q = iI (cofF f r kv wv))) ([.ref hf, .int (iI (kv)), .int (iI (wv)), .ref h2r] : List Value).toArray s 0 0 (fun _ => False)) (F0 m 21 ls []) := by
      intro n
      induction n with
      | zero => intro sv yv hn; exact absurd hn (Nat.not_lt_zero _)
      | succ n ih21 =>
        intro sv yv hn hy hs ls hl
        refine lv_iload hx hb dX0_cellsOf_21 (lv_at hl 5 rfl) ?_
        refine lv_aload_n hx hb dX0_cellsOf_23 rfl (lv_at hl 0 rfl) ?_
        refine va_get (D := G.1) (ci := 0) (v := .ref (adf 1)) (C := RX0) (T := TX0) (N := 5) hx hb hts hinX0 hown hK hP 0 rfl rfl 1 (by decide) (hts (.fieldLink RX0 15 "MeanderFarm$Farms" "row" "[I") (List.mem_of_getElem? (i := 1) rfl)) (fun _ h9 => h9) rfl dX0_cellsOf_24 ?_
        refine lv_iload_n hx hb dX0_cellsOf_27 rfl (lv_at hl 1 rfl) ?_
        refine mf_iald (n := 6) (f := f 1) hx hb hK hP 2 0 rfl rfl (z := kv) (by omega) (by omega) (by decide) dX0_cellsOf_28 ?_
        have b4 : (0 : Int) ≤ f 1 kv ∧ f 1 kv ≤ 15 := okf 1 (kv)
        refine lv_aload_n hx hb dX0_cellsOf_29 rfl (lv_at hl 0 rfl) ?_
        refine va_get (D := G.1) (ci := 0) (v := .ref (adf 3)) (C := RX0) (T := TX0) (N := 5) hx hb hts hinX0 hown hK hP 0 rfl rfl 3 (by decide) (hts (.fieldLink RX0 21 "MeanderFarm$Farms" "deep" "[I") (List.mem_of_getElem? (i := 2) rfl)) (fun _ h9 => h9) rfl dX0_cellsOf_30 ?_
        refine lv_iload_n hx hb dX0_cellsOf_33 rfl (lv_at hl 1 rfl) ?_
        refine mf_iald (n := 6) (f := f 3) hx hb hK hP 4 0 rfl rfl (z := kv) (by omega) (by omega) (by decide) dX0_cellsOf_34 ?_
        have b5 : (0 : Int) ≤ f 3 kv ∧ f 3 kv ≤ 16 := okf 3 (kv)
        refine mf_iadd hx hb dX0_cellsOf_35 ?_
        refine mf_icmp_ge (tgt := 95) hx hb dX0_cellsOf_36 (by decide) (i32_mk (by omega) (by omega)) (i32_mk (by omega) (by omega)) (fun c6 => ?_) (fun c6 => ?_)
        · skip
          refine lv_iload hx hb dX0_cellsOf_95 (lv_at hl 4 rfl) ?_
          exact W.iret hx hb hr (fun t ht hW => ⟨_, rfl, (congrArg iI (by unfold cofF; rw [mf_if_t (by assumption)]; rw [show yv - f 1 kv = f 3 kv by omega] at hs; exact hs)), ht⟩) t_nil dX0_cellsOf_97
        · skip
          refine lv_aload_n hx hb dX0_cellsOf_39 rfl (lv_at hl 0 rfl) ?_
          refine va_get (D := G.1) (ci := 0) (v := .ref (adf 0)) (C := RX0) (T := TX0) (N := 5) hx hb hts hinX0 hown hK hP 0 rfl rfl 0 (by decide) (hts (.fieldLink RX0 9 "MeanderFarm$Farms" "column" "[I") (List.mem_of_getElem? (i := 3) rfl)) (fun _ h9 => h9) rfl dX0_cellsOf_40 ?_
          refine lv_iload_n hx hb dX0_cellsOf_43 rfl (lv_at hl 1 rfl) ?_
          refine mf_iald (n := 6) (f := f 0) hx hb hK hP 1 0 rfl rfl (z := kv) (by omega) (by omega) (by decide) dX0_cellsOf_44 ?_
          have b7 : (0 : Int) ≤ f 0 kv ∧ f 0 kv ≤ 23 := okf 0 (kv)
          refine lv_istore (lv' := [(6, .int (iI (f 0 kv))), (0, .ref hf), (1, .int (iI (kv))), (2, .int (iI (wv))), (3, .ref h2r), (4, .int (iI (sv))), (5, .int (iI (yv)))]) hx hb dX0_cellsOf_45 hl (by decide) rfl (fun ls hl => ?_)
          have lp47 : ∀ (n : Nat) (tv : Int) (xv : Int), (f 0 kv + f 2 kv - xv).toNat < n → (f 0 kv ≤ xv ∧ xv ≤ f 0 kv + f 2 kv) → (tv = msum (fun j => msum (fun i => bP (cntP r wv (cellNo (f 0 kv + i) (f 1 kv + j)))) (f 2 kv)) (yv - f 1 kv) + msum (fun i => bP (cntP r wv (cellNo (f 0 kv + i) (f 1 kv + (yv - f 1 kv))))) (xv - f 0 kv)) → ∀ (ls : Array Slot), lv_has ls 7 [(0, .ref hf), (1, .int (iI (kv))), (2, .int (iI (wv))), (3, .ref h2r), (4, .int (iI (tv))), (5, .int (iI (yv))), (6, .int (iI (xv)))] → W p l e (headSpec wsX0_cellsOf ({ frames := 3, cells := 0, slots := 0, locals := 66 })).room s m ([.ref hf, .int (iI (kv)), .int (iI (wv)), .ref h2r] : List Value).toArray below meth c s.heap [] 0 0 (MQ below (vp_Si (fun q => q = iI (cofF f r kv wv))) ([.ref hf, .int (iI (kv)), .int (iI (wv)), .ref h2r] : List Value).toArray s 0 0 (fun _ => False)) (F0 m 47 ls []) := by
            intro n
            induction n with
            | zero => intro tv xv hn; exact absurd hn (Nat.not_lt_zero _)
            | succ n ih47 =>
              intro tv xv hn hx2 ht ls hl
              refine lv_iload hx hb dX0_cellsOf_47 (lv_at hl 6 rfl) ?_
              refine lv_aload_n hx hb dX0_cellsOf_49 rfl (lv_at hl 0 rfl) ?_
              refine va_get (D := G.1) (ci := 0) (v := .ref (adf 0)) (C := RX0) (T := TX0) (N := 5) hx hb hts hinX0 hown hK hP 0 rfl rfl 0 (by decide) (hts (.fieldLink RX0 9 "MeanderFarm$Farms" "column" "[I") (List.mem_of_getElem? (i := 3) rfl)) (fun _ h9 => h9) rfl dX0_cellsOf_50 ?_
              refine lv_iload_n hx hb dX0_cellsOf_53 rfl (lv_at hl 1 rfl) ?_
              refine mf_iald (n := 6) (f := f 0) hx hb hK hP 1 0 rfl rfl (z := kv) (by omega) (by omega) (by decide) dX0_cellsOf_54 ?_
              have b8 : (0 : Int) ≤ f 0 kv ∧ f 0 kv ≤ 23 := okf 0 (kv)
              refine lv_aload_n hx hb dX0_cellsOf_55 rfl (lv_at hl 0 rfl) ?_
              refine va_get (D := G.1) (ci := 0) (v := .ref (adf 2)) (C := RX0) (T := TX0) (N := 5) hx hb hts hinX0 hown hK hP 0 rfl rfl 2 (by decide) (hts (.fieldLink RX0 18 "MeanderFarm$Farms" "wide" "[I") (List.mem_of_getElem? (i := 4) rfl)) (fun _ h9 => h9) rfl dX0_cellsOf_56 ?_
              refine lv_iload_n hx hb dX0_cellsOf_59 rfl (lv_at hl 1 rfl) ?_
              refine mf_iald (n := 6) (f := f 2) hx hb hK hP 3 0 rfl rfl (z := kv) (by omega) (by omega) (by decide) dX0_cellsOf_60 ?_
              have b9 : (0 : Int) ≤ f 2 kv ∧ f 2 kv ≤ 24 := okf 2 (kv)
              refine mf_iadd hx hb dX0_cellsOf_61 ?_
              refine mf_icmp_ge (tgt := 89) hx hb dX0_cellsOf_62 (by decide) (i32_mk (by omega) (by omega)) (i32_mk (by omega) (by omega)) (fun c10 => ?_) (fun c10 => ?_)
              · skip
                refine lv_iinc (v := iI (yv + 1)) (lv' := [(5, .int (iI (yv + 1))), (0, .ref hf), (1, .int (iI (kv))), (2, .int (iI (wv))), (3, .ref h2r), (4, .int (iI (tv))), (6, .int (iI (xv)))]) hx hb dX0_cellsOf_89 hl (k := 5) rfl (iI_add _ _).symm (by decide) rfl (fun ls hl => ?_)
                refine lv_goto (tgt := 21) hx hb dX0_cellsOf_92 (by decide) ?_
                exact ih21 tv (yv + 1) (by omega) (by first | assumption | omega) (by rw [show yv + 1 - f 1 kv = (yv - f 1 kv) + 1 by omega, msum_s _ (by omega)]; rw [show xv - f 0 kv = f 2 kv by omega] at ht; exact ht)  ls (lv_sub hl [1, 2, 3, 4, 5, 0] rfl)
              · skip
                refine lv_iload hx hb dX0_cellsOf_65 (lv_at hl 6 rfl) ?_
                refine lv_iload hx hb dX0_cellsOf_67 (lv_at hl 5 rfl) ?_
                refine vp_callSi (va_Run.run (va_runSN (As := [.int (iI (xv)), .int (iI (yv))]) (rest := []) ⟨hx, hb, hml, hown, hts⟩ (c_X2_cellNumber l (xv) (yv) (i32_mk (by omega) (by omega)) (i32_mk (by omega) (by omega))) ⟨(va_cnB 2 hts gX0_cellsOf_X2_cellNumber_n32 rfl rfl rfl (hN.m 24 rfl) (hts (.initialized RX2) (List.mem_of_getElem? (i := 12) rfl)) (by decide +kernel) ⟨Nat.le_of_ble_eq_true rfl, Nat.le_of_ble_eq_true rfl⟩), (hts (.static yX2_cellNumber) (List.mem_of_getElem? (i := 11) rfl)), trivial⟩ pureS rfl rfl hl.1 rfl (lv_room (Nat.le_of_ble_eq_true rfl)) dX0_cellsOf_69 ⟨(Nat.zero_le _), (Nat.zero_le _)⟩)) (fun q11 hq11 => ?_)
                subst hq11
                refine mf_nm (fun y12 ey12 => ?_)
                have b13 : -1 ≤ y12 ∧ y12 ≤ 383 := by rw [ey12]; exact cellNo_b xv yv
                refine lv_iload_n hx hb dX0_cellsOf_72 rfl (lv_at hl 2 rfl) ?_
                refine lv_aload_n hx hb dX0_cellsOf_73 rfl (lv_at hl 3 rfl) ?_
                refine vp_callSi (va_Run.run (va_runS (As := [.int (iI (y12)), .int (iI (wv)), .ref h2r]) (rest := []) ⟨hx, hb, hml, hown, hts⟩ (c_X0_isCounted l G h2r ad r (y12) (wv) (i32_mk (by omega) (by omega)) (i32_mk (by omega) (by omega)) (by assumption)) (va_cwS 3 hts gX0_cellsOf_X0_isCounted rfl rfl rfl (by decide +kernel) ⟨Nat.le_of_ble_eq_true rfl, Nat.le_of_ble_eq_true rfl⟩) (rdS (wc := RW G h2r ad r) hK hP hN [5, 6, 7, 8, 9, 10, 11, 12, 13, 14, 15, 16] rfl) rfl rfl hl.1 rfl (lv_room (Nat.le_of_ble_eq_true rfl)) dX0_cellsOf_74 ⟨(Nat.zero_le _), (Nat.zero_le _)⟩)) (fun q14 hq14 => ?_)
                subst hq14
                refine mf_bp_eq (tgt := 83) hx hb dX0_cellsOf_77 (by decide) (fun c15 => ?_) (fun c15 => ?_)
                · skip
                  refine lv_iinc (v := iI (xv + 1)) (lv' := [(6, .int (iI (xv + 1))), (0, .ref hf), (1, .int (iI (kv))), (2, .int (iI (wv))), (3, .ref h2r), (4, .int (iI (tv))), (5, .int (iI (yv)))]) hx hb dX0_cellsOf_83 hl (k := 6) rfl (iI_add _ _).symm (by decide) rfl (fun ls hl => ?_)
                  refine lv_goto (tgt := 47) hx hb dX0_cellsOf_86 (by decide) ?_
                  exact ih47 tv (xv + 1) (by omega) (by first | assumption | omega) (by rw [show xv + 1 - f 0 kv = (xv - f 0 kv) + 1 by omega, msum_s _ (by omega), show f 0 kv + (xv - f 0 kv) = xv by omega, show f 1 kv + (yv - f 1 kv) = yv by omega, ← ey12]; rw [show f 1 kv + (yv - f 1 kv) = yv by omega] at ht; first | (rw [bP_t (by assumption)]; omega) | (rw [bP_f (by assumption)]; omega))  ls (lv_sub hl [1, 2, 3, 4, 5, 6, 0] rfl)
                · skip
                  refine lv_iinc (v := iI (tv + 1)) (lv' := [(4, .int (iI (tv + 1))), (0, .ref hf), (1, .int (iI (kv))), (2, .int (iI (wv))), (3, .ref h2r), (5, .int (iI (yv))), (6, .int (iI (xv)))]) hx hb dX0_cellsOf_80 hl (k := 4) rfl (iI_add _ _).symm (by decide) rfl (fun ls hl => ?_)
                  refine lv_iinc (v := iI (xv + 1)) (lv' := [(6, .int (iI (xv + 1))), (4, .int (iI (tv + 1))), (0, .ref hf), (1, .int (iI (kv))), (2, .int (iI (wv))), (3, .ref h2r), (5, .int (iI (yv)))]) hx hb dX0_cellsOf_83 hl (k := 6) rfl (iI_add _ _).symm (by decide) rfl (fun ls hl => ?_)
                  refine lv_goto (tgt := 47) hx hb dX0_cellsOf_86 (by decide) ?_
                  exact ih47 (tv + 1) (xv + 1) (by omega) (by first | assumption | omega) (by rw [show xv + 1 - f 0 kv = (xv - f 0 kv) + 1 by omega, msum_s _ (by omega), show f 0 kv + (xv - f 0 kv) = xv by omega, show f 1 kv + (yv - f 1 kv) = yv by omega, ← ey12]; rw [show f 1 kv + (yv - f 1 kv) = yv by omega] at ht; first | (rw [bP_t (by assumption)]; omega) | (rw [bP_f (by assumption)]; omega))  ls (lv_sub hl [2, 3, 4, 5, 1, 6, 0] rfl)
          exact lp47 (_ + 1) sv (f 0 kv) (Nat.lt_succ_self _) (by first | assumption | omega) (by rw [Int.sub_self, msum_0, Int.add_zero]; exact hs)  ls (lv_sub hl [1, 2, 3, 4, 5, 6, 0] rfl)
    exact lp21 (_ + 1) 0 (f 1 kv) (Nat.lt_succ_self _) (by first | assumption | omega) (by rw [Int.sub_self]; exact (msum_0 _).symm)  ls (lv_sub hl [2, 3, 4, 5, 1, 0] rfl)
  · skip
    have c2' := c2; unfold isF at c2'
    refine mf_iconst hx hb dX0_cellsOf_8 ?_
    exact W.iret hx hb hr (fun t ht hW => ⟨_, rfl, (congrArg iI (by exact (mf_if_f (by assumption)).symm)), ht⟩) t_nil dX0_cellsOf_9
set_option maxHeartbeats 4000000 in
set_option maxRecDepth 100000 in
theorem c_X0_farmsAt (l : Launch) (G : mf_G) (hf : Nat) (adf : Nat → Nat) (f : mf_V) (xv : Int) (yv : Int) (hxv : i32 xv) (hyv : i32 yv) (okf : rOK flo fhi f) : Met l yX0_farmsAt wsX0_farmsAt ({ frames := 0, cells := 0, slots := 0, locals := 0 }) (va_Pc [.ref hf, .int (iI (xv)), .int (iI (yv))] (RdP G (FW G hf adf f))) (vp_Si (fun q => q = faG f xv yv (f 4 0))) 0 0 (fun _ => False) := by
  refine Met.ofW (cc := cX0_farmsAt) (maxL := 5) (ret := (some .int)) (by decide) rfl ?_
  intro p e s m args below meth c s₁ B hml hv
  obtain ⟨rfl, hP, hK, hN⟩ := hv
  have hx := B.exec
  have hb := B.bytes
  have hr := B.returns
  have hts := atoms_spec (ws := wsX0_farmsAt) B.pre
  have hown : s.vm.findClass RX0 = some m.cls := findClass_of_methodNamed B.named
  have hlocks := B.notSynchronized
  have hinX0 : ∀ w ∈ u_ws RX0 TX0 5, w ∈ wsX0_farmsAt := fun w h => List.mem_cons_of_mem _ (List.mem_append_right _ h)
  have hl := lv_entry ([.ref hf, .int (iI (xv)), .int (iI (yv))]) (n := 5) (Nat.le_of_ble_eq_true rfl)
  rw [lg_entry_eq]
  generalize (lg_sl ([.ref hf, .int (iI (xv)), .int (iI (yv))]) ++ List.replicate (5 - (lg_sl ([.ref hf, .int (iI (xv)), .int (iI (yv))])).length) Slot.unset).toArray = ls at hl ⊢
  have hl : lv_has ls 5 [(0, .ref hf), (1, .int (iI (xv))), (2, .int (iI (yv)))] := hl
  have hxv1 := hxv.1
  have hxv2 := hxv.2
  have hyv1 := hyv.1
  have hyv2 := hyv.2
  have b6 : (0 : Int) ≤ f 4 0 ∧ f 4 0 ≤ 6 := okf 4 0
  refine mf_iconst hx hb dX0_farmsAt_0 ?_
  refine lv_istore_n (lv' := [(3, .int (iI (0))), (0, .ref hf), (1, .int (iI (xv))), (2, .int (iI (yv)))]) hx hb dX0_farmsAt_1 rfl hl (by decide) rfl (fun ls hl => ?_)
  refine mf_iconst hx hb dX0_farmsAt_2 ?_
  refine lv_istore (lv' := [(4, .int (iI (0))), (3, .int (iI (0))), (0, .ref hf), (1, .int (iI (xv))), (2, .int (iI (yv)))]) hx hb dX0_farmsAt_3 hl (by decide) rfl (fun ls hl => ?_)
  have lp5 : ∀ (n : Nat) (sv : Int32) (kv : Int), (f 4 0 - kv).toNat < n → (0 ≤ kv ∧ kv ≤ f 4 0) → (sv = faG f xv yv kv) → ∀ (ls : Array Slot), lv_has ls 5 [(0, .ref hf), (1, .int (iI (xv))), (2, .int (iI (yv))), (3, .int (sv)), (4, .int (iI (kv)))] → W p l e (headSpec wsX0_farmsAt ({ frames := 0, cells := 0, slots := 0, locals := 0 })).room s m ([.ref hf, .int (iI (xv)), .int (iI (yv))] : List Value).toArray below meth c s.heap [] 0 0 (MQ below (vp_Si (fun q => q = faG f xv yv (f 4 0))) ([.ref hf, .int (iI (xv)), .int (iI (yv))] : List Value).toArray s 0 0 (fun _ => False)) (F0 m 5 ls []) := by
    intro n
    induction n with
    | zero => intro sv kv hn; exact absurd hn (Nat.not_lt_zero _)
    | succ n ih5 =>
      intro sv kv hn hk hs ls hl
      refine lv_iload hx hb dX0_farmsAt_5 (lv_at hl 4 rfl) ?_
      refine lv_aload_n hx hb dX0_farmsAt_7 rfl (lv_at hl 0 rfl) ?_
      refine va_get (D := G.1) (ci := 0) (v := .int (iI (f 4 0))) (C := RX0) (T := TX0) (N := 5) hx hb hts hinX0 hown hK hP 0 rfl rfl 4 (by decide) (hts (.fieldLink RX0 24 "MeanderFarm$Farms" "size" "I") (List.mem_of_getElem? (i := 1) rfl)) (fun _ h9 => h9) rfl dX0_farmsAt_8 ?_
      have b1 : (0 : Int) ≤ f 4 0 ∧ f 4 0 ≤ 6 := okf 4 (0)
      refine mf_icmp_ge (tgt := 87) hx hb dX0_farmsAt_11 (by decide) (i32_mk (by omega) (by omega)) (i32_mk (by omega) (by omega)) (fun c2 => ?_) (fun c2 => ?_)
      · skip
        refine lv_iload_n hx hb dX0_farmsAt_87 rfl (lv_at hl 3 rfl) ?_
        exact W.iret hx hb hr (fun t ht hW => ⟨_, rfl, (by rw [show kv = f 4 0 by omega] at hs; exact hs), ht⟩) t_nil dX0_farmsAt_88
      · skip
        refine lv_iload_n hx hb dX0_farmsAt_14 rfl (lv_at hl 1 rfl) ?_
        refine lv_aload_n hx hb dX0_farmsAt_15 rfl (lv_at hl 0 rfl) ?_
        refine va_get (D := G.1) (ci := 0) (v := .ref (adf 0)) (C := RX0) (T := TX0) (N := 5) hx hb hts hinX0 hown hK hP 0 rfl rfl 0 (by decide) (hts (.fieldLink RX0 9 "MeanderFarm$Farms" "column" "[I") (List.mem_of_getElem? (i := 2) rfl)) (fun _ h9 => h9) rfl dX0_farmsAt_16 ?_
        refine lv_iload hx hb dX0_farmsAt_19 (lv_at hl 4 rfl) ?_
        refine mf_iald (n := 6) (f := f 0) hx hb hK hP 1 0 rfl rfl (z := kv) (by omega) (by omega) (by decide) dX0_farmsAt_21 ?_
        have b3 : (0 : Int) ≤ f 0 kv ∧ f 0 kv ≤ 23 := okf 0 (kv)
        refine mf_icmp_lt (tgt := 81) hx hb dX0_farmsAt_22 (by decide) (i32_mk (by omega) (by omega)) (i32_mk (by omega) (by omega)) (fun c4 => ?_) (fun c4 => ?_)
        · skip
          refine lv_iinc (v := iI (kv + 1)) (lv' := [(4, .int (iI (kv + 1))), (0, .ref hf), (1, .int (iI (xv))), (2, .int (iI (yv))), (3, .int (sv))]) hx hb dX0_farmsAt_81 hl (k := 4) rfl (iI_add _ _).symm (by decide) rfl (fun ls hl => ?_)
          refine lv_goto (tgt := 5) hx hb dX0_farmsAt_84 (by decide) ?_
          exact ih5 sv (kv + 1) (by omega) (by first | assumption | omega) (by subst hs; first | (rw [faG_t f xv yv (by omega) (by unfold inF; omega)]; done) | (rw [faG_f f xv yv (by omega) (by unfold inF; omega)]; done))  ls (lv_sub hl [1, 2, 3, 4, 0] rfl)
        · skip
          refine lv_iload_n hx hb dX0_farmsAt_25 rfl (lv_at hl 1 rfl) ?_
          refine lv_aload_n hx hb dX0_farmsAt_26 rfl (lv_at hl 0 rfl) ?_
          refine va_get (D := G.1) (ci := 0) (v := .ref (adf 0)) (C := RX0) (T := TX0) (N := 5) hx hb hts hinX0 hown hK hP 0 rfl rfl 0 (by decide) (hts (.fieldLink RX0 9 "MeanderFarm$Farms" "column" "[I") (List.mem_of_getElem? (i := 2) rfl)) (fun _ h9 => h9) rfl dX0_farmsAt_27 ?_
          refine lv_iload hx hb dX0_farmsAt_30 (lv_at hl 4 rfl) ?_
          refine mf_iald (n := 6) (f := f 0) hx hb hK hP 1 0 rfl rfl (z := kv) (by omega) (by omega) (by decide) dX0_farmsAt_32 ?_
          have b5 : (0 : Int) ≤ f 0 kv ∧ f 0 kv ≤ 23 := okf 0 (kv)
          refine lv_aload_n hx hb dX0_farmsAt_33 rfl (lv_at hl 0 rfl) ?_
          refine va_get (D := G.1) (ci := 0) (v := .ref (adf 2)) (C := RX0) (T := TX0) (N := 5) hx hb hts hinX0 hown hK hP 0 rfl rfl 2 (by decide) (hts (.fieldLink RX0 18 "MeanderFarm$Farms" "wide" "[I") (List.mem_of_getElem? (i := 3) rfl)) (fun _ h9 => h9) rfl dX0_farmsAt_34 ?_
          refine lv_iload hx hb dX0_farmsAt_37 (lv_at hl 4 rfl) ?_
          refine mf_iald (n := 6) (f := f 2) hx hb hK hP 3 0 rfl rfl (z := kv) (by omega) (by omega) (by decide) dX0_farmsAt_39 ?_
          have b6 : (0 : Int) ≤ f 2 kv ∧ f 2 kv ≤ 24 := okf 2 (kv)
          refine mf_iadd hx hb dX0_farmsAt_40 ?_
          refine mf_icmp_ge (tgt := 81) hx hb dX0_farmsAt_41 (by decide) (i32_mk (by omega) (by omega)) (i32_mk (by omega) (by omega)) (fun c7 => ?_) (fun c7 => ?_)
          · skip
            refine lv_iinc (v := iI (kv + 1)) (lv' := [(4, .int (iI (kv + 1))), (0, .ref hf), (1, .int (iI (xv))), (2, .int (iI (yv))), (3, .int (sv))]) hx hb dX0_farmsAt_81 hl (k := 4) rfl (iI_add _ _).symm (by decide) rfl (fun ls hl => ?_)
            refine lv_goto (tgt := 5) hx hb dX0_farmsAt_84 (by decide) ?_
            exact ih5 sv (kv + 1) (by omega) (by first | assumption | omega) (by subst hs; first | (rw [faG_t f xv yv (by omega) (by unfold inF; omega)]; done) | (rw [faG_f f xv yv (by omega) (by unfold inF; omega)]; done))  ls (lv_sub hl [1, 2, 3, 4, 0] rfl)
          · skip
            refine lv_iload_n hx hb dX0_farmsAt_44 rfl (lv_at hl 2 rfl) ?_
            refine lv_aload_n hx hb dX0_farmsAt_45 rfl (lv_at hl 0 rfl) ?_
            refine va_get (D := G.1) (ci := 0) (v := .ref (adf 1)) (C := RX0) (T := TX0) (N := 5) hx hb hts hinX0 hown hK hP 0 rfl rfl 1 (by decide) (hts (.fieldLink RX0 15 "MeanderFarm$Farms" "row" "[I") (List.mem_of_getElem? (i := 4) rfl)) (fun _ h9 => h9) rfl dX0_farmsAt_46 ?_
            refine lv_iload hx hb dX0_farmsAt_49 (lv_at hl 4 rfl) ?_
            refine mf_iald (n := 6) (f := f 1) hx hb hK hP 2 0 rfl rfl (z := kv) (by omega) (by omega) (by decide) dX0_farmsAt_51 ?_
            have b8 : (0 : Int) ≤ f 1 kv ∧ f 1 kv ≤ 15 := okf 1 (kv)
            refine mf_icmp_lt (tgt := 81) hx hb dX0_farmsAt_52 (by decide) (i32_mk (by omega) (by omega)) (i32_mk (by omega) (by omega)) (fun c9 => ?_) (fun c9 => ?_)
            · skip
              refine lv_iinc (v := iI (kv + 1)) (lv' := [(4, .int (iI (kv + 1))), (0, .ref hf), (1, .int (iI (xv))), (2, .int (iI (yv))), (3, .int (sv))]) hx hb dX0_farmsAt_81 hl (k := 4) rfl (iI_add _ _).symm (by decide) rfl (fun ls hl => ?_)
              refine lv_goto (tgt := 5) hx hb dX0_farmsAt_84 (by decide) ?_
              exact ih5 sv (kv + 1) (by omega) (by first | assumption | omega) (by subst hs; first | (rw [faG_t f xv yv (by omega) (by unfold inF; omega)]; done) | (rw [faG_f f xv yv (by omega) (by unfold inF; omega)]; done))  ls (lv_sub hl [1, 2, 3, 4, 0] rfl)
            · skip
              refine lv_iload_n hx hb dX0_farmsAt_55 rfl (lv_at hl 2 rfl) ?_
              refine lv_aload_n hx hb dX0_farmsAt_56 rfl (lv_at hl 0 rfl) ?_
              refine va_get (D := G.1) (ci := 0) (v := .ref (adf 1)) (C := RX0) (T := TX0) (N := 5) hx hb hts hinX0 hown hK hP 0 rfl rfl 1 (by decide) (hts (.fieldLink RX0 15 "MeanderFarm$Farms" "row" "[I") (List.mem_of_getElem? (i := 4) rfl)) (fun _ h9 => h9) rfl dX0_farmsAt_57 ?_
              refine lv_iload hx hb dX0_farmsAt_60 (lv_at hl 4 rfl) ?_
              refine mf_iald (n := 6) (f := f 1) hx hb hK hP 2 0 rfl rfl (z := kv) (by omega) (by omega) (by decide) dX0_farmsAt_62 ?_
              have b10 : (0 : Int) ≤ f 1 kv ∧ f 1 kv ≤ 15 := okf 1 (kv)
              refine lv_aload_n hx hb dX0_farmsAt_63 rfl (lv_at hl 0 rfl) ?_
              refine va_get (D := G.1) (ci := 0) (v := .ref (adf 3)) (C := RX0) (T := TX0) (N := 5) hx hb hts hinX0 hown hK hP 0 rfl rfl 3 (by decide) (hts (.fieldLink RX0 21 "MeanderFarm$Farms" "deep" "[I") (List.mem_of_getElem? (i := 5) rfl)) (fun _ h9 => h9) rfl dX0_farmsAt_64 ?_
              refine lv_iload hx hb dX0_farmsAt_67 (lv_at hl 4 rfl) ?_
              refine mf_iald (n := 6) (f := f 3) hx hb hK hP 4 0 rfl rfl (z := kv) (by omega) (by omega) (by decide) dX0_farmsAt_69 ?_
              have b11 : (0 : Int) ≤ f 3 kv ∧ f 3 kv ≤ 16 := okf 3 (kv)
              refine mf_iadd hx hb dX0_farmsAt_70 ?_
              refine mf_icmp_ge (tgt := 81) hx hb dX0_farmsAt_71 (by decide) (i32_mk (by omega) (by omega)) (i32_mk (by omega) (by omega)) (fun c12 => ?_) (fun c12 => ?_)
              · skip
                refine lv_iinc (v := iI (kv + 1)) (lv' := [(4, .int (iI (kv + 1))), (0, .ref hf), (1, .int (iI (xv))), (2, .int (iI (yv))), (3, .int (sv))]) hx hb dX0_farmsAt_81 hl (k := 4) rfl (iI_add _ _).symm (by decide) rfl (fun ls hl => ?_)
                refine lv_goto (tgt := 5) hx hb dX0_farmsAt_84 (by decide) ?_
                exact ih5 sv (kv + 1) (by omega) (by first | assumption | omega) (by subst hs; first | (rw [faG_t f xv yv (by omega) (by unfold inF; omega)]; done) | (rw [faG_f f xv yv (by omega) (by unfold inF; omega)]; done))  ls (lv_sub hl [1, 2, 3, 4, 0] rfl)
              · skip
                refine lv_iload_n hx hb dX0_farmsAt_74 rfl (lv_at hl 3 rfl) ?_
                refine mf_iconst hx hb dX0_farmsAt_75 ?_
                refine lv_iload hx hb dX0_farmsAt_76 (lv_at hl 4 rfl) ?_
                refine lv_ishl hx hb dX0_farmsAt_78 ?_
                refine lv_ior hx hb dX0_farmsAt_79 ?_
                refine lv_istore_n (lv' := [(3, .int ((sv) ||| ((iI (1)) <<< ((iI (kv)) &&& 31)))), (0, .ref hf), (1, .int (iI (xv))), (2, .int (iI (yv))), (4, .int (iI (kv)))]) hx hb dX0_farmsAt_80 rfl hl (by decide) rfl (fun ls hl => ?_)
                refine lv_iinc (v := iI (kv + 1)) (lv' := [(4, .int (iI (kv + 1))), (3, .int ((sv) ||| ((iI (1)) <<< ((iI (kv)) &&& 31)))), (0, .ref hf), (1, .int (iI (xv))), (2, .int (iI (yv)))]) hx hb dX0_farmsAt_81 hl (k := 4) rfl (iI_add _ _).symm (by decide) rfl (fun ls hl => ?_)
                refine lv_goto (tgt := 5) hx hb dX0_farmsAt_84 (by decide) ?_
                exact ih5 ((sv) ||| ((iI (1)) <<< ((iI (kv)) &&& 31))) (kv + 1) (by omega) (by first | assumption | omega) (by subst hs; first | (rw [faG_t f xv yv (by omega) (by unfold inF; omega)]; done) | (rw [faG_f f xv yv (by omega) (by unfold inF; omega)]; done))  ls (lv_sub hl [2, 3, 4, 1, 0] rfl)
  exact lp5 (_ + 1) 0 0 (Nat.lt_succ_self _) (by first | assumption | omega) (by rfl)  ls (lv_sub hl [2, 3, 4, 1, 0] rfl)
set_option maxHeartbeats 4000000 in
set_option maxRecDepth 100000 in
theorem c_X0_append (l : Launch) (G : mf_G) (hf : Nat) (adf : Nat → Nat) (f : mf_V)  (xv : Int) (yv : Int) (wv : Int) (dv : Int) (hxv : i32 xv) (hyv : i32 yv) (hwv : i32 wv) (hdv : i32 dv) (okf : rOK flo fhi f) (hsz : f 4 0 < 6) (hx9 : 0 ≤ xv ∧ xv ≤ 23) (hy9 : 0 ≤ yv ∧ yv ≤ 15) (hw9 : 0 ≤ wv ∧ wv ≤ 24) (hd9 : 0 ≤ dv ∧ dv ≤ 16) (sz : Nat) : Met l yX0_append wsX0_append ({ frames := 0, cells := 0, slots := 0, locals := 0 }) (va_Pc [.ref hf, .int (iI (xv)), .int (iI (yv)), .int (iI (wv)), .int (iI (dv))] (WrP G (FW G hf adf f) sz)) (va_Qi (fun q (f' : mf_V) => ∃ z : Int, q = iI z ∧ rOK flo fhi f' ∧ f' 0 = mf_up (f 0) (f 4 0) xv ∧ f' 1 = mf_up (f 1) (f 4 0) yv ∧ f' 2 = mf_up (f 2) (f 4 0) wv ∧ f' 3 = mf_up (f 3) (f 4 0) dv ∧ f' 4 0 = f 4 0 + 1 ∧ z = f 4 0) (fun (f' : mf_V) t => WrQ G (va_A (FW G hf adf f) sz) (FW G hf adf f') t) (va_A (FW G hf adf f) sz)) 0 0 (va_A (FW G hf adf f) sz) := by
  refine Met.ofW (cc := cX0_append) (maxL := 6) (ret := (some .int)) (by decide) rfl ?_
  intro p e s m args below meth c s₁ B hml hv
  obtain ⟨rfl, hsz, hP, hK, hD0, hN⟩ := hv
  have hx := B.exec
  have hb := B.bytes
  have hr := B.returns
  have hts := atoms_spec (ws := wsX0_append) B.pre
  have hown : s.vm.findClass RX0 = some m.cls := findClass_of_methodNamed B.named
  have hlocks := B.notSynchronized
  have hinX0 : ∀ w ∈ u_ws RX0 TX0 5, w ∈ wsX0_append := fun w h => List.mem_cons_of_mem _ (List.mem_append_right _ h)
  subst hsz
  have hD := hD0.self (sz := s.heap.size)
  generalize hAe : va_A (FW G hf adf f) s.heap.size = A at hD ⊢
  have hA : ∀ q : Nat, s.heap.size ≤ q → A q := fun q h => by rw [← hAe]; exact Or.inr h
  have hS : va_S A s.heap s.heap [] := va_S.rf
  have hl := lv_entry ([.ref hf, .int (iI (xv)), .int (iI (yv)), .int (iI (wv)), .int (iI (dv))]) (n := 6) (Nat.le_of_ble_eq_true rfl)
  rw [lg_entry_eq]
  generalize (lg_sl ([.ref hf, .int (iI (xv)), .int (iI (yv)), .int (iI (wv)), .int (iI (dv))]) ++ List.replicate (6 - (lg_sl ([.ref hf, .int (iI (xv)), .int (iI (yv)), .int (iI (wv)), .int (iI (dv))])).length) Slot.unset).toArray = ls at hl ⊢
  have hl : lv_has ls 6 [(0, .ref hf), (1, .int (iI (xv))), (2, .int (iI (yv))), (3, .int (iI (wv))), (4, .int (iI (dv)))] := hl
  have hxv1 := hxv.1
  have hxv2 := hxv.2
  have hyv1 := hyv.1
  have hyv2 := hyv.2
  have hwv1 := hwv.1
  have hwv2 := hwv.2
  have hdv1 := hdv.1
  have hdv2 := hdv.2
  refine lv_aload_n hx hb dX0_append_0 rfl (lv_at hl 0 rfl) ?_
  refine va_get (D := G.1) (ci := 0) (v := .int (iI (f 4 0))) (C := RX0) (T := TX0) (N := 5) hx hb hts hinX0 hown hK hP 0 rfl rfl 4 (by decide) (hts (.fieldLink RX0 24 "MeanderFarm$Farms" "size" "I") (List.mem_of_getElem? (i := 1) rfl)) (fun _ h9 => h9) rfl dX0_append_1 ?_
  have b1 : (0 : Int) ≤ f 4 0 ∧ f 4 0 ≤ 6 := okf 4 (0)
  refine lv_istore (lv' := [(5, .int (iI (f 4 0))), (0, .ref hf), (1, .int (iI (xv))), (2, .int (iI (yv))), (3, .int (iI (wv))), (4, .int (iI (dv)))]) hx hb dX0_append_4 hl (by decide) rfl (fun ls hl => ?_)
  refine lv_iload hx hb dX0_append_6 (lv_at hl 0 rfl) ?_
  refine mf_if_lt (tgt := 18) hx hb dX0_append_8 (by decide) (i32_mk (by omega) (by omega)) (fun c2 => ?_) (fun c2 => ?_)
  · skip
    exact absurd c2 (by omega)
  · skip
    refine lv_iload hx hb dX0_append_11 (lv_at hl 0 rfl) ?_
    refine mf_bipush hx hb dX0_append_13 rfl ?_
    refine mf_icmp_lt (tgt := 20) hx hb dX0_append_15 (by decide) (i32_mk (by omega) (by omega)) (i32_mk (by decide) (by decide)) (fun c3 => ?_) (fun c3 => ?_)
    · skip
      refine lv_aload_n hx hb dX0_append_20 rfl (lv_at hl 1 rfl) ?_
      refine va_get (D := G.1) (ci := 0) (v := .ref (adf 0)) (C := RX0) (T := TX0) (N := 5) hx hb hts hinX0 hown hK hP 0 rfl rfl 0 (by decide) (hts (.fieldLink RX0 9 "MeanderFarm$Farms" "column" "[I") (List.mem_of_getElem? (i := 2) rfl)) (fun _ h9 => h9) rfl dX0_append_21 ?_
      refine lv_iload hx hb dX0_append_24 (lv_at hl 0 rfl) ?_
      refine lv_iload_n hx hb dX0_append_26 rfl (lv_at hl 2 rfl) ?_
      refine mf_iast (n := 6) (f := f 0) hx hb hK hP hD hS 1 0 rfl rfl (z := f 4 0) (x := xv) (by omega) (by omega) (by decide) dX0_append_27 (fun H locs hP hD hS => ?_)
      obtain ⟨f4, ef4⟩ : ∃ q : mf_V, q = mf_sF f 0 (mf_up (f 0) (f 4 0) (xv)) := ⟨_, rfl⟩
      have hP : va_P G.1 vwCl (FW G hf adf f4) H := by rw [ef4]; exact hP
      have hD : va_D A (FW G hf adf f4) := by rw [ef4]; exact hD
      have okf4 : rOK flo fhi f4 := by rw [ef4]; exact rOK_up okf 0 _ _ (show (0 : Int) ≤ xv by omega) (show xv ≤ (23 : Int) by omega)
      have f1_f4 : f4 0 (f 4 0) = xv := by rw [ef4, mf_sF_s, mf_up_s]
      have f2_f4 : ∀ y, y ≠ (f 4 0) → f4 0 y = f 0 y := fun y hy => by rw [ef4, mf_sF_s, mf_up_n hy]
      have f3_f4 : ∀ q, q ≠ 0 → f4 q = f q := fun q hq => by rw [ef4, mf_sF_n hq]
      refine lv_aload_n hx hb dX0_append_28 rfl (lv_at hl 1 rfl) ?_
      refine va_get (D := G.1) (ci := 0) (v := .ref (adf 1)) (C := RX0) (T := TX0) (N := 5) hx hb hts hinX0 hown hK hP 0 rfl rfl 1 (by decide) (hts (.fieldLink RX0 15 "MeanderFarm$Farms" "row" "[I") (List.mem_of_getElem? (i := 3) rfl)) (fun _ h9 => h9) rfl dX0_append_29 ?_
      refine lv_iload hx hb dX0_append_32 (lv_at hl 0 rfl) ?_
      refine lv_iload_n hx hb dX0_append_34 rfl (lv_at hl 3 rfl) ?_
      refine mf_iast (n := 6) (f := f4 1) hx hb hK hP hD hS 2 0 rfl rfl (z := f 4 0) (x := yv) (by omega) (by omega) (by decide) dX0_append_35 (fun H locs hP hD hS => ?_)
      obtain ⟨f5, ef5⟩ : ∃ q : mf_V, q = mf_sF f4 1 (mf_up (f4 1) (f 4 0) (yv)) := ⟨_, rfl⟩
      have hP : va_P G.1 vwCl (FW G hf adf f5) H := by rw [ef5]; exact hP
      have hD : va_D A (FW G hf adf f5) := by rw [ef5]; exact hD
      have okf5 : rOK flo fhi f5 := by rw [ef5]; exact rOK_up okf4 1 _ _ (show (0 : Int) ≤ yv by omega) (show yv ≤ (15 : Int) by omega)
      have f1_f5 : f5 1 (f 4 0) = yv := by rw [ef5, mf_sF_s, mf_up_s]
      have f2_f5 : ∀ y, y ≠ (f 4 0) → f5 1 y = f4 1 y := fun y hy => by rw [ef5, mf_sF_s, mf_up_n hy]
      have f3_f5 : ∀ q, q ≠ 1 → f5 q = f4 q := fun q hq => by rw [ef5, mf_sF_n hq]
      refine lv_aload_n hx hb dX0_append_36 rfl (lv_at hl 1 rfl) ?_
      refine va_get (D := G.1) (ci := 0) (v := .ref (adf 2)) (C := RX0) (T := TX0) (N := 5) hx hb hts hinX0 hown hK hP 0 rfl rfl 2 (by decide) (hts (.fieldLink RX0 18 "MeanderFarm$Farms" "wide" "[I") (List.mem_of_getElem? (i := 4) rfl)) (fun _ h9 => h9) rfl dX0_append_37 ?_
      refine lv_iload hx hb dX0_append_40 (lv_at hl 0 rfl) ?_
      refine lv_iload_n hx hb dX0_append_42 rfl (lv_at hl 4 rfl) ?_
      refine mf_iast (n := 6) (f := f5 2) hx hb hK hP hD hS 3 0 rfl rfl (z := f 4 0) (x := wv) (by omega) (by omega) (by decide) dX0_append_43 (fun H locs hP hD hS => ?_)
      obtain ⟨f6, ef6⟩ : ∃ q : mf_V, q = mf_sF f5 2 (mf_up (f5 2) (f 4 0) (wv)) := ⟨_, rfl⟩
      have hP : va_P G.1 vwCl (FW G hf adf f6) H := by rw [ef6]; exact hP
      have hD : va_D A (FW G hf adf f6) := by rw [ef6]; exact hD
      have okf6 : rOK flo fhi f6 := by rw [ef6]; exact rOK_up okf5 2 _ _ (show (0 : Int) ≤ wv by omega) (show wv ≤ (24 : Int) by omega)
      have f1_f6 : f6 2 (f 4 0) = wv := by rw [ef6, mf_sF_s, mf_up_s]
      have f2_f6 : ∀ y, y ≠ (f 4 0) → f6 2 y = f5 2 y := fun y hy => by rw [ef6, mf_sF_s, mf_up_n hy]
      have f3_f6 : ∀ q, q ≠ 2 → f6 q = f5 q := fun q hq => by rw [ef6, mf_sF_n hq]
      refine lv_aload_n hx hb dX0_append_44 rfl (lv_at hl 1 rfl) ?_
      refine va_get (D := G.1) (ci := 0) (v := .ref (adf 3)) (C := RX0) (T := TX0) (N := 5) hx hb hts hinX0 hown hK hP 0 rfl rfl 3 (by decide) (hts (.fieldLink RX0 21 "MeanderFarm$Farms" "deep" "[I") (List.mem_of_getElem? (i := 5) rfl)) (fun _ h9 => h9) rfl dX0_append_45 ?_
      refine lv_iload hx hb dX0_append_48 (lv_at hl 0 rfl) ?_
      refine lv_iload hx hb dX0_append_50 (lv_at hl 5 rfl) ?_
      refine mf_iast (n := 6) (f := f6 3) hx hb hK hP hD hS 4 0 rfl rfl (z := f 4 0) (x := dv) (by omega) (by omega) (by decide) dX0_append_52 (fun H locs hP hD hS => ?_)
      obtain ⟨f7, ef7⟩ : ∃ q : mf_V, q = mf_sF f6 3 (mf_up (f6 3) (f 4 0) (dv)) := ⟨_, rfl⟩
      have hP : va_P G.1 vwCl (FW G hf adf f7) H := by rw [ef7]; exact hP
      have hD : va_D A (FW G hf adf f7) := by rw [ef7]; exact hD
      have okf7 : rOK flo fhi f7 := by rw [ef7]; exact rOK_up okf6 3 _ _ (show (0 : Int) ≤ dv by omega) (show dv ≤ (16 : Int) by omega)
      have f1_f7 : f7 3 (f 4 0) = dv := by rw [ef7, mf_sF_s, mf_up_s]
      have f2_f7 : ∀ y, y ≠ (f 4 0) → f7 3 y = f6 3 y := fun y hy => by rw [ef7, mf_sF_s, mf_up_n hy]
      have f3_f7 : ∀ q, q ≠ 3 → f7 q = f6 q := fun q hq => by rw [ef7, mf_sF_n hq]
      refine lv_aload_n hx hb dX0_append_53 rfl (lv_at hl 1 rfl) ?_
      refine lv_dup hx hb dX0_append_54 rfl ?_
      refine va_get (D := G.1) (ci := 0) (v := .int (iI (f7 4 0))) (C := RX0) (T := TX0) (N := 5) hx hb hts hinX0 hown hK hP 0 rfl rfl 4 (by decide) (hts (.fieldLink RX0 24 "MeanderFarm$Farms" "size" "I") (List.mem_of_getElem? (i := 1) rfl)) (fun _ h9 => h9) rfl dX0_append_55 ?_
      refine mf_top (f7 4 0) (f 4 0) (by rw [f3_f7 4 (by decide), f3_f6 4 (by decide), f3_f5 4 (by decide), f3_f4 4 (by decide)]) ?_
      have b8 : (0 : Int) ≤ f 4 0 ∧ f 4 0 ≤ 6 := okf 4 (0)
      refine mf_iconst hx hb dX0_append_58 ?_
      refine mf_iadd hx hb dX0_append_59 ?_
      refine va_put (D := G.1) (ci := 0) (v := .int (iI ((f 4 0) + 1))) (ty := .int) (C := RX0) (T := TX0) (N := 5) hx hb hts hinX0 tyX0 tyX0_ok nmX0 hown hK hP hD hS 0 rfl rfl 4 (by decide) (hts (.fieldLink RX0 24 "MeanderFarm$Farms" "size" "I") (List.mem_of_getElem? (i := 1) rfl)) (fun _ h9 => h9) rfl (by decide +kernel) rfl rfl (Nat.le_of_ble_eq_true rfl) dX0_append_60 (fun H locs hP hD hS => ?_)
      obtain ⟨f9, ef9⟩ : ∃ q : mf_V, q = mf_sF f7 4 (fun _ => (f 4 0) + 1) := ⟨_, rfl⟩
      have hP : va_P G.1 vwCl (FW G hf adf f9) H := by rw [ef9]; exact hP
      have hD : va_D A (FW G hf adf f9) := by rw [ef9]; exact hD
      have okf9 : rOK flo fhi f9 := by rw [ef9]; exact rOK_set okf7 4 _ (show (0 : Int) ≤ (f 4 0) + 1 by omega) (show (f 4 0) + 1 ≤ (6 : Int) by omega)
      have f1_f9 : ∀ y, f9 4 y = (f 4 0) + 1 := fun y => by rw [ef9, mf_sF_s]
      have f3_f9 : ∀ q, q ≠ 4 → f9 q = f7 q := fun q hq => by rw [ef9, mf_sF_n hq]
      refine lv_iload hx hb dX0_append_63 (lv_at hl 0 rfl) ?_
      exact W.iret hx hb hr (fun t ht hW => ⟨⟨_, f9, rfl, ⟨_, rfl, by exact ⟨okf9, by rw [f3_f9 0 (by decide), f3_f7 0 (by decide), f3_f6 0 (by decide), f3_f5 0 (by decide), ef4, mf_sF_s], by rw [f3_f9 1 (by decide), f3_f7 1 (by decide), f3_f6 1 (by decide), ef5, mf_sF_s, f3_f4 1 (by decide)], by rw [f3_f9 2 (by decide), f3_f7 2 (by decide), ef6, mf_sF_s, f3_f5 2 (by decide), f3_f4 2 (by decide)], by rw [f3_f9 3 (by decide), ef7, mf_sF_s, f3_f6 3 (by decide), f3_f5 3 (by decide), f3_f4 3 (by decide)], f1_f9 0, rfl⟩⟩, by rw [ht]; exact hP, hD⟩, hS.F ht⟩) hS.2.2 dX0_append_65
    · skip
      exact absurd c3 (by omega)
