/-! 10.leaf: the functions of MeanderFarm that look at nothing but their numbers -/
def cellNo (x y : Int) : Int := if x < 0 ∨ 24 ≤ x ∨ y < 0 ∨ 16 ≤ y then -1 else x + 24 * y
theorem cellNo_b (x y : Int) : -1 ≤ cellNo x y ∧ cellNo x y ≤ 383 := by
  unfold cellNo
  split <;> omega
set_option maxHeartbeats 4000000 in
set_option maxRecDepth 100000 in
theorem c_X2_isGrade (l : Launch) (gv : Int) (hgv : i32 gv) : Met l yX2_isGrade wsX2_isGrade ({ frames := 0, cells := 0, slots := 0, locals := 0 }) (va_Pc [.int (iI (gv))] (fun _ => True)) (vp_Si (fun q => q = iI (bP (1 ≤ gv ∧ gv ≤ 9)))) 0 0 (fun _ => False) := by
  refine Met.ofW (cc := cX2_isGrade) (maxL := 1) (ret := (some .boolean)) (by decide) rfl ?_
  intro p e s m args below meth c s₁ B hml hv
  obtain ⟨rfl, -⟩ := hv
  have hx := B.exec
  have hb := B.bytes
  have hr := B.returns
  have hts := atoms_spec (ws := wsX2_isGrade) B.pre
  have hown : s.vm.findClass RX2 = some m.cls := findClass_of_methodNamed B.named
  have hlocks := B.notSynchronized
  have hl := lv_entry ([.int (iI (gv))]) (n := 1) (Nat.le_of_ble_eq_true rfl)
  rw [lg_entry_eq]
  generalize (lg_sl ([.int (iI (gv))]) ++ List.replicate (1 - (lg_sl ([.int (iI (gv))])).length) Slot.unset).toArray = ls at hl ⊢
  have hl : lv_has ls 1 [(0, .int (iI (gv)))] := hl
  have hgv1 := hgv.1
  have hgv2 := hgv.2
  refine lv_iload_n hx hb dX2_isGrade_0 rfl (lv_at hl 0 rfl) ?_
  refine mf_iconst hx hb dX2_isGrade_1 ?_
  refine mf_icmp_lt (tgt := 15) hx hb dX2_isGrade_2 (by decide) (i32_mk (by omega) (by omega)) (i32_mk (by decide) (by decide)) (fun c1 => ?_) (fun c1 => ?_)
  · skip
    refine mf_iconst hx hb dX2_isGrade_15 ?_
    exact W.zret hx hb hr (mf_nar01 (by omega)) (fun t ht hW => ⟨_, rfl, (congrArg iI (bP_f (by omega)).symm), ht⟩) t_nil dX2_isGrade_16
  · skip
    refine lv_iload_n hx hb dX2_isGrade_5 rfl (lv_at hl 0 rfl) ?_
    refine mf_bipush hx hb dX2_isGrade_6 rfl ?_
    refine mf_icmp_gt (tgt := 15) hx hb dX2_isGrade_8 (by decide) (i32_mk (by omega) (by omega)) (i32_mk (by decide) (by decide)) (fun c2 => ?_) (fun c2 => ?_)
    · skip
      refine mf_iconst hx hb dX2_isGrade_15 ?_
      exact W.zret hx hb hr (mf_nar01 (by omega)) (fun t ht hW => ⟨_, rfl, (congrArg iI (bP_f (by omega)).symm), ht⟩) t_nil dX2_isGrade_16
    · skip
      refine mf_iconst hx hb dX2_isGrade_11 ?_
      refine lv_goto (tgt := 16) hx hb dX2_isGrade_12 (by decide) ?_
      exact W.zret hx hb hr (mf_nar01 (by omega)) (fun t ht hW => ⟨_, rfl, (congrArg iI (bP_t (by omega)).symm), ht⟩) t_nil dX2_isGrade_16
set_option maxHeartbeats 4000000 in
set_option maxRecDepth 100000 in
theorem c_X2_isSpan (l : Launch) (sv : Int) (zv : Int) (ev : Int) (hsv : i32 sv) (hzv : i32 zv) (hev : i32 ev) (he : 0 ≤ ev) : Met l yX2_isSpan wsX2_isSpan ({ frames := 0, cells := 0, slots := 0, locals := 0 }) (va_Pc [.int (iI (sv)), .int (iI (zv)), .int (iI (ev))] (fun _ => True)) (vp_Si (fun q => q = iI (bP (0 ≤ sv ∧ sv < ev ∧ 1 ≤ zv ∧ zv ≤ ev - sv)))) 0 0 (fun _ => False) := by
  refine Met.ofW (cc := cX2_isSpan) (maxL := 3) (ret := (some .boolean)) (by decide) rfl ?_
  intro p e s m args below meth c s₁ B hml hv
  obtain ⟨rfl, -⟩ := hv
  have hx := B.exec
  have hb := B.bytes
  have hr := B.returns
  have hts := atoms_spec (ws := wsX2_isSpan) B.pre
  have hown : s.vm.findClass RX2 = some m.cls := findClass_of_methodNamed B.named
  have hlocks := B.notSynchronized
  have hl := lv_entry ([.int (iI (sv)), .int (iI (zv)), .int (iI (ev))]) (n := 3) (Nat.le_of_ble_eq_true rfl)
  rw [lg_entry_eq]
  generalize (lg_sl ([.int (iI (sv)), .int (iI (zv)), .int (iI (ev))]) ++ List.replicate (3 - (lg_sl ([.int (iI (sv)), .int (iI (zv)), .int (iI (ev))])).length) Slot.unset).toArray = ls at hl ⊢
  have hl : lv_has ls 3 [(0, .int (iI (sv))), (1, .int (iI (zv))), (2, .int (iI (ev)))] := hl
  have hsv1 := hsv.1
  have hsv2 := hsv.2
  have hzv1 := hzv.1
  have hzv2 := hzv.2
  have hev1 := hev.1
  have hev2 := hev.2
  refine lv_iload_n hx hb dX2_isSpan_0 rfl (lv_at hl 0 rfl) ?_
  refine mf_if_lt (tgt := 25) hx hb dX2_isSpan_1 (by decide) (i32_mk (by omega) (by omega)) (fun c1 => ?_) (fun c1 => ?_)
  · skip
    refine mf_iconst hx hb dX2_isSpan_25 ?_
    exact W.zret hx hb hr (mf_nar01 (by omega)) (fun t ht hW => ⟨_, rfl, (congrArg iI (bP_f (by omega)).symm), ht⟩) t_nil dX2_isSpan_26
  · skip
    refine lv_iload_n hx hb dX2_isSpan_4 rfl (lv_at hl 0 rfl) ?_
    refine lv_iload_n hx hb dX2_isSpan_5 rfl (lv_at hl 2 rfl) ?_
    refine mf_icmp_ge (tgt := 25) hx hb dX2_isSpan_6 (by decide) (i32_mk (by omega) (by omega)) (i32_mk (by omega) (by omega)) (fun c2 => ?_) (fun c2 => ?_)
    · skip
      refine mf_iconst hx hb dX2_isSpan_25 ?_
      exact W.zret hx hb hr (mf_nar01 (by omega)) (fun t ht hW => ⟨_, rfl, (congrArg iI (bP_f (by omega)).symm), ht⟩) t_nil dX2_isSpan_26
    · skip
      refine lv_iload_n hx hb dX2_isSpan_9 rfl (lv_at hl 1 rfl) ?_
      refine mf_iconst hx hb dX2_isSpan_10 ?_
      refine mf_icmp_lt (tgt := 25) hx hb dX2_isSpan_11 (by decide) (i32_mk (by omega) (by omega)) (i32_mk (by decide) (by decide)) (fun c3 => ?_) (fun c3 => ?_)
      · skip
        refine mf_iconst hx hb dX2_isSpan_25 ?_
        exact W.zret hx hb hr (mf_nar01 (by omega)) (fun t ht hW => ⟨_, rfl, (congrArg iI (bP_f (by omega)).symm), ht⟩) t_nil dX2_isSpan_26
      · skip
        refine lv_iload_n hx hb dX2_isSpan_14 rfl (lv_at hl 1 rfl) ?_
        refine lv_iload_n hx hb dX2_isSpan_15 rfl (lv_at hl 2 rfl) ?_
        refine lv_iload_n hx hb dX2_isSpan_16 rfl (lv_at hl 0 rfl) ?_
        refine mf_isub hx hb dX2_isSpan_17 ?_
        refine mf_icmp_gt (tgt := 25) hx hb dX2_isSpan_18 (by decide) (i32_mk (by omega) (by omega)) (i32_mk (by omega) (by omega)) (fun c4 => ?_) (fun c4 => ?_)
        · skip
          refine mf_iconst hx hb dX2_isSpan_25 ?_
          exact W.zret hx hb hr (mf_nar01 (by omega)) (fun t ht hW => ⟨_, rfl, (congrArg iI (bP_f (by omega)).symm), ht⟩) t_nil dX2_isSpan_26
        · skip
          refine mf_iconst hx hb dX2_isSpan_21 ?_
          refine lv_goto (tgt := 26) hx hb dX2_isSpan_22 (by decide) ?_
          exact W.zret hx hb hr (mf_nar01 (by omega)) (fun t ht hW => ⟨_, rfl, (congrArg iI (bP_t (by omega)).symm), ht⟩) t_nil dX2_isSpan_26
set_option maxHeartbeats 4000000 in
set_option maxRecDepth 100000 in
theorem c_X2_isCell (l : Launch) (cv : Int) (hcv : i32 cv) : Met l yX2_isCell wsX2_isCell ({ frames := 0, cells := 0, slots := 0, locals := 0 }) (va_Pc [.int (iI (cv))] (fun _ => True)) (vp_Si (fun q => q = iI (bP (0 ≤ cv ∧ cv < 384)))) 0 0 (fun _ => False) := by
  refine Met.ofW (cc := cX2_isCell) (maxL := 1) (ret := (some .boolean)) (by decide) rfl ?_
  intro p e s m args below meth c s₁ B hml hv
  obtain ⟨rfl, -⟩ := hv
  have hx := B.exec
  have hb := B.bytes
  have hr := B.returns
  have hts := atoms_spec (ws := wsX2_isCell) B.pre
  have hown : s.vm.findClass RX2 = some m.cls := findClass_of_methodNamed B.named
  have hlocks := B.notSynchronized
  have hl := lv_entry ([.int (iI (cv))]) (n := 1) (Nat.le_of_ble_eq_true rfl)
  rw [lg_entry_eq]
  generalize (lg_sl ([.int (iI (cv))]) ++ List.replicate (1 - (lg_sl ([.int (iI (cv))])).length) Slot.unset).toArray = ls at hl ⊢
  have hl : lv_has ls 1 [(0, .int (iI (cv)))] := hl
  have hcv1 := hcv.1
  have hcv2 := hcv.2
  refine lv_iload_n hx hb dX2_isCell_0 rfl (lv_at hl 0 rfl) ?_
  refine mf_if_lt (tgt := 15) hx hb dX2_isCell_1 (by decide) (i32_mk (by omega) (by omega)) (fun c1 => ?_) (fun c1 => ?_)
  · skip
    refine mf_iconst hx hb dX2_isCell_15 ?_
    exact W.zret hx hb hr (mf_nar01 (by omega)) (fun t ht hW => ⟨_, rfl, (congrArg iI (bP_f (by omega)).symm), ht⟩) t_nil dX2_isCell_16
  · skip
    refine lv_iload_n hx hb dX2_isCell_4 rfl (lv_at hl 0 rfl) ?_
    refine mf_sipush hx hb dX2_isCell_5 rfl ?_
    refine mf_icmp_ge (tgt := 15) hx hb dX2_isCell_8 (by decide) (i32_mk (by omega) (by omega)) (i32_mk (by decide) (by decide)) (fun c2 => ?_) (fun c2 => ?_)
    · skip
      refine mf_iconst hx hb dX2_isCell_15 ?_
      exact W.zret hx hb hr (mf_nar01 (by omega)) (fun t ht hW => ⟨_, rfl, (congrArg iI (bP_f (by omega)).symm), ht⟩) t_nil dX2_isCell_16
    · skip
      refine mf_iconst hx hb dX2_isCell_11 ?_
      refine lv_goto (tgt := 16) hx hb dX2_isCell_12 (by decide) ?_
      exact W.zret hx hb hr (mf_nar01 (by omega)) (fun t ht hW => ⟨_, rfl, (congrArg iI (bP_t (by omega)).symm), ht⟩) t_nil dX2_isCell_16
set_option maxHeartbeats 4000000 in
set_option maxRecDepth 100000 in
theorem c_X2_cellNumber (l : Launch) (xv : Int) (yv : Int) (hxv : i32 xv) (hyv : i32 yv) : Met l yX2_cellNumber wsX2_cellNumber ({ frames := 0, cells := 0, slots := 0, locals := 0 }) (va_Pc [.int (iI (xv)), .int (iI (yv))] (fun _ => True)) (vp_Si (fun q => q = iI (cellNo xv yv))) 0 0 (fun _ => False) := by
  refine Met.ofW (cc := cX2_cellNumber) (maxL := 2) (ret := (some .int)) (by decide) rfl ?_
  intro p e s m args below meth c s₁ B hml hv
  obtain ⟨rfl, -⟩ := hv
  have hx := B.exec
  have hb := B.bytes
  have hr := B.returns
  have hts := atoms_spec (ws := wsX2_cellNumber) B.pre
  have hown : s.vm.findClass RX2 = some m.cls := findClass_of_methodNamed B.named
  have hlocks := B.notSynchronized
  have hl := lv_entry ([.int (iI (xv)), .int (iI (yv))]) (n := 2) (Nat.le_of_ble_eq_true rfl)
  rw [lg_entry_eq]
  generalize (lg_sl ([.int (iI (xv)), .int (iI (yv))]) ++ List.replicate (2 - (lg_sl ([.int (iI (xv)), .int (iI (yv))])).length) Slot.unset).toArray = ls at hl ⊢
  have hl : lv_has ls 2 [(0, .int (iI (xv))), (1, .int (iI (yv)))] := hl
  have hxv1 := hxv.1
  have hxv2 := hxv.2
  have hyv1 := hyv.1
  have hyv2 := hyv.2
  refine lv_iload_n hx hb dX2_cellNumber_0 rfl (lv_at hl 0 rfl) ?_
  refine mf_if_lt (tgt := 20) hx hb dX2_cellNumber_1 (by decide) (i32_mk (by omega) (by omega)) (fun c1 => ?_) (fun c1 => ?_)
  · skip
    refine mf_iconst hx hb dX2_cellNumber_20 ?_
    exact W.iret hx hb hr (fun t ht hW => ⟨_, rfl, (congrArg iI (by unfold cellNo; split <;> omega)), ht⟩) t_nil dX2_cellNumber_21
  · skip
    refine lv_iload_n hx hb dX2_cellNumber_4 rfl (lv_at hl 0 rfl) ?_
    refine mf_bipush hx hb dX2_cellNumber_5 rfl ?_
    refine mf_icmp_ge (tgt := 20) hx hb dX2_cellNumber_7 (by decide) (i32_mk (by omega) (by omega)) (i32_mk (by decide) (by decide)) (fun c2 => ?_) (fun c2 => ?_)
    · skip
      refine mf_iconst hx hb dX2_cellNumber_20 ?_
      exact W.iret hx hb hr (fun t ht hW => ⟨_, rfl, (congrArg iI (by unfold cellNo; split <;> omega)), ht⟩) t_nil dX2_cellNumber_21
    · skip
      refine lv_iload_n hx hb dX2_cellNumber_10 rfl (lv_at hl 1 rfl) ?_
      refine mf_if_lt (tgt := 20) hx hb dX2_cellNumber_11 (by decide) (i32_mk (by omega) (by omega)) (fun c3 => ?_) (fun c3 => ?_)
      · skip
        refine mf_iconst hx hb dX2_cellNumber_20 ?_
        exact W.iret hx hb hr (fun t ht hW => ⟨_, rfl, (congrArg iI (by unfold cellNo; split <;> omega)), ht⟩) t_nil dX2_cellNumber_21
      · skip
        refine lv_iload_n hx hb dX2_cellNumber_14 rfl (lv_at hl 1 rfl) ?_
        refine mf_bipush hx hb dX2_cellNumber_15 rfl ?_
        refine mf_icmp_lt (tgt := 22) hx hb dX2_cellNumber_17 (by decide) (i32_mk (by omega) (by omega)) (i32_mk (by decide) (by decide)) (fun c4 => ?_) (fun c4 => ?_)
        · skip
          refine lv_iload_n hx hb dX2_cellNumber_22 rfl (lv_at hl 0 rfl) ?_
          refine mf_bipush hx hb dX2_cellNumber_23 rfl ?_
          refine lv_iload_n hx hb dX2_cellNumber_25 rfl (lv_at hl 1 rfl) ?_
          refine mf_imul hx hb dX2_cellNumber_26 ?_
          refine mf_iadd hx hb dX2_cellNumber_27 ?_
          exact W.iret hx hb hr (fun t ht hW => ⟨_, rfl, (congrArg iI (by unfold cellNo; split <;> omega)), ht⟩) t_nil dX2_cellNumber_28
        · skip
          refine mf_iconst hx hb dX2_cellNumber_20 ?_
          exact W.iret hx hb hr (fun t ht hW => ⟨_, rfl, (congrArg iI (by unfold cellNo; split <;> omega)), ht⟩) t_nil dX2_cellNumber_21
set_option maxHeartbeats 4000000 in
set_option maxRecDepth 100000 in
theorem c_X2_neighbour (l : Launch) (cv : Int) (dv : Int) (hcv : i32 cv) (hdv : i32 dv) : Met l yX2_neighbour wsX2_neighbour ({ frames := 0, cells := 0, slots := 0, locals := 0 }) (va_Pc [.int (iI (cv)), .int (iI (dv))] (fun _ => True)) (vp_Si (fun q => q = iI (nbr cv dv))) 0 0 (fun _ => False) := by
  refine Met.ofW (cc := cX2_neighbour) (maxL := 3) (ret := (some .int)) (by decide) rfl ?_
  intro p e s m args below meth c s₁ B hml hv
  obtain ⟨rfl, -⟩ := hv
  have hx := B.exec
  have hb := B.bytes
  have hr := B.returns
  have hts := atoms_spec (ws := wsX2_neighbour) B.pre
  have hown : s.vm.findClass RX2 = some m.cls := findClass_of_methodNamed B.named
  have hlocks := B.notSynchronized
  have hl := lv_entry ([.int (iI (cv)), .int (iI (dv))]) (n := 3) (Nat.le_of_ble_eq_true rfl)
  rw [lg_entry_eq]
  generalize (lg_sl ([.int (iI (cv)), .int (iI (dv))]) ++ List.replicate (3 - (lg_sl ([.int (iI (cv)), .int (iI (dv))])).length) Slot.unset).toArray = ls at hl ⊢
  have hl : lv_has ls 3 [(0, .int (iI (cv))), (1, .int (iI (dv)))] := hl
  have hcv1 := hcv.1
  have hcv2 := hcv.2
  have hdv1 := hdv.1
  have hdv2 := hdv.2
  refine lv_iload_n hx hb dX2_neighbour_0 rfl (lv_at hl 0 rfl) ?_
  refine mf_if_lt (tgt := 11) hx hb dX2_neighbour_1 (by decide) (i32_mk (by omega) (by omega)) (fun c1 => ?_) (fun c1 => ?_)
  · skip
    refine mf_iconst hx hb dX2_neighbour_11 ?_
    exact W.iret hx hb hr (fun t ht hW => ⟨_, rfl, (congrArg iI (by unfold nbr; (repeat' split) <;> omega)), ht⟩) t_nil dX2_neighbour_12
  · skip
    refine lv_iload_n hx hb dX2_neighbour_4 rfl (lv_at hl 0 rfl) ?_
    refine mf_sipush hx hb dX2_neighbour_5 rfl ?_
    refine mf_icmp_lt (tgt := 13) hx hb dX2_neighbour_8 (by decide) (i32_mk (by omega) (by omega)) (i32_mk (by decide) (by decide)) (fun c2 => ?_) (fun c2 => ?_)
    · skip
      refine lv_iload_n hx hb dX2_neighbour_13 rfl (lv_at hl 0 rfl) ?_
      refine mf_bipush hx hb dX2_neighbour_14 rfl ?_
      refine mf_irem hx hb dX2_neighbour_16 (i32_mk (by omega) (by omega)) (by omega) (i32_mk (by decide) (by decide)) (by omega) ?_
      refine lv_istore_n (lv' := [(2, .int (iI (cv % 24))), (0, .int (iI (cv))), (1, .int (iI (dv)))]) hx hb dX2_neighbour_17 rfl hl (by decide) rfl (fun ls hl => ?_)
      refine lv_iload_n hx hb dX2_neighbour_18 rfl (lv_at hl 2 rfl) ?_
      have w3 : i32 (dv) := (i32_mk (by omega) (by omega))
      rcases (show  (dv) = 0 ∨  (dv) = 1 ∨  (dv) = 2 ∨  (dv) = 3 ∨  ((dv) < 0 ∨ 3 < (dv)) by omega) with c4 | c4 | c4 | c4 | c4
      · skip
        refine lv_tableIn (off := 29) (tgt := 48) hx hb dX2_neighbour_19 (by rw [iI_toInt w3]; omega) (by rw [iI_toInt w3]; omega) (by rw [iI_toInt w3, c4]; rfl) (by decide) ?_
        refine lv_iload_n hx hb dX2_neighbour_48 rfl (lv_at hl 1 rfl) ?_
        refine mf_bipush hx hb dX2_neighbour_49 rfl ?_
        refine mf_icmp_lt (tgt := 61) hx hb dX2_neighbour_51 (by decide) (i32_mk (by omega) (by omega)) (i32_mk (by decide) (by decide)) (fun c5 => ?_) (fun c5 => ?_)
        · skip
          refine mf_iconst hx hb dX2_neighbour_61 ?_
          exact W.iret hx hb hr (fun t ht hW => ⟨_, rfl, (congrArg iI (by unfold nbr; (repeat' split) <;> omega)), ht⟩) t_nil dX2_neighbour_62
        · skip
          refine lv_iload_n hx hb dX2_neighbour_54 rfl (lv_at hl 1 rfl) ?_
          refine mf_bipush hx hb dX2_neighbour_55 rfl ?_
          refine mf_isub hx hb dX2_neighbour_57 ?_
          refine lv_goto (tgt := 62) hx hb dX2_neighbour_58 (by decide) ?_
          exact W.iret hx hb hr (fun t ht hW => ⟨_, rfl, (congrArg iI (by unfold nbr; (repeat' split) <;> omega)), ht⟩) t_nil dX2_neighbour_62
      · skip
        refine lv_tableIn (off := 44) (tgt := 63) hx hb dX2_neighbour_19 (by rw [iI_toInt w3]; omega) (by rw [iI_toInt w3]; omega) (by rw [iI_toInt w3, c4]; rfl) (by decide) ?_
        refine lv_iload_n hx hb dX2_neighbour_63 rfl (lv_at hl 0 rfl) ?_
        refine mf_bipush hx hb dX2_neighbour_64 rfl ?_
        refine mf_icmp_ge (tgt := 75) hx hb dX2_neighbour_66 (by decide) (i32_mk (by omega) (by omega)) (i32_mk (by decide) (by decide)) (fun c6 => ?_) (fun c6 => ?_)
        · skip
          refine mf_iconst hx hb dX2_neighbour_75 ?_
          exact W.iret hx hb hr (fun t ht hW => ⟨_, rfl, (congrArg iI (by unfold nbr; (repeat' split) <;> omega)), ht⟩) t_nil dX2_neighbour_76
        · skip
          refine lv_iload_n hx hb dX2_neighbour_69 rfl (lv_at hl 1 rfl) ?_
          refine mf_iconst hx hb dX2_neighbour_70 ?_
          refine mf_iadd hx hb dX2_neighbour_71 ?_
          refine lv_goto (tgt := 76) hx hb dX2_neighbour_72 (by decide) ?_
          exact W.iret hx hb hr (fun t ht hW => ⟨_, rfl, (congrArg iI (by unfold nbr; (repeat' split) <;> omega)), ht⟩) t_nil dX2_neighbour_76
      · skip
        refine lv_tableIn (off := 58) (tgt := 77) hx hb dX2_neighbour_19 (by rw [iI_toInt w3]; omega) (by rw [iI_toInt w3]; omega) (by rw [iI_toInt w3, c4]; rfl) (by decide) ?_
        refine lv_iload_n hx hb dX2_neighbour_77 rfl (lv_at hl 1 rfl) ?_
        refine mf_sipush hx hb dX2_neighbour_78 rfl ?_
        refine mf_icmp_ge (tgt := 91) hx hb dX2_neighbour_81 (by decide) (i32_mk (by omega) (by omega)) (i32_mk (by decide) (by decide)) (fun c7 => ?_) (fun c7 => ?_)
        · skip
          refine mf_iconst hx hb dX2_neighbour_91 ?_
          exact W.iret hx hb hr (fun t ht hW => ⟨_, rfl, (congrArg iI (by unfold nbr; (repeat' split) <;> omega)), ht⟩) t_nil dX2_neighbour_92
        · skip
          refine lv_iload_n hx hb dX2_neighbour_84 rfl (lv_at hl 1 rfl) ?_
          refine mf_bipush hx hb dX2_neighbour_85 rfl ?_
          refine mf_iadd hx hb dX2_neighbour_87 ?_
          refine lv_goto (tgt := 92) hx hb dX2_neighbour_88 (by decide) ?_
          exact W.iret hx hb hr (fun t ht hW => ⟨_, rfl, (congrArg iI (by unfold nbr; (repeat' split) <;> omega)), ht⟩) t_nil dX2_neighbour_92
      · skip
        refine lv_tableIn (off := 74) (tgt := 93) hx hb dX2_neighbour_19 (by rw [iI_toInt w3]; omega) (by rw [iI_toInt w3]; omega) (by rw [iI_toInt w3, c4]; rfl) (by decide) ?_
        refine lv_iload_n hx hb dX2_neighbour_93 rfl (lv_at hl 0 rfl) ?_
        refine mf_if_le (tgt := 103) hx hb dX2_neighbour_94 (by decide) (i32_mk (by omega) (by omega)) (fun c8 => ?_) (fun c8 => ?_)
        · skip
          refine mf_iconst hx hb dX2_neighbour_103 ?_
          exact W.iret hx hb hr (fun t ht hW => ⟨_, rfl, (congrArg iI (by unfold nbr; (repeat' split) <;> omega)), ht⟩) t_nil dX2_neighbour_104
        · skip
          refine lv_iload_n hx hb dX2_neighbour_97 rfl (lv_at hl 1 rfl) ?_
          refine mf_iconst hx hb dX2_neighbour_98 ?_
          refine mf_isub hx hb dX2_neighbour_99 ?_
          refine lv_goto (tgt := 104) hx hb dX2_neighbour_100 (by decide) ?_
          exact W.iret hx hb hr (fun t ht hW => ⟨_, rfl, (congrArg iI (by unfold nbr; (repeat' split) <;> omega)), ht⟩) t_nil dX2_neighbour_104
      · skip
        refine lv_tableOut (tgt := 105) hx hb dX2_neighbour_19 (by rw [iI_toInt w3]; omega) (by decide) ?_
        refine mf_iconst hx hb dX2_neighbour_105 ?_
        exact W.iret hx hb hr (fun t ht hW => ⟨_, rfl, (congrArg iI (by unfold nbr; (repeat' split) <;> omega)), ht⟩) t_nil dX2_neighbour_106
    · skip
      refine mf_iconst hx hb dX2_neighbour_11 ?_
      exact W.iret hx hb hr (fun t ht hW => ⟨_, rfl, (congrArg iI (by unfold nbr; (repeat' split) <;> omega)), ht⟩) t_nil dX2_neighbour_12
set_option maxHeartbeats 4000000 in
set_option maxRecDepth 100000 in
theorem c_X2_directionTo (l : Launch) (av : Int) (bv : Int) (hav : i32 av) (hbv : i32 bv) : Met l yX2_directionTo wsX2_directionTo ({ frames := 1, cells := 0, slots := 0, locals := 22 }) (va_Pc [.int (iI (av)), .int (iI (bv))] (fun _ => True)) (vp_Si (fun q => q = iI (dirTo av bv))) 0 0 (fun _ => False) := by
  refine Met.ofW (cc := cX2_directionTo) (maxL := 4) (ret := (some .int)) (by decide) rfl ?_
  intro p e s m args below meth c s₁ B hml hv
  obtain ⟨rfl, -⟩ := hv
  have hx := B.exec
  have hb := B.bytes
  have hr := B.returns
  have hts := atoms_spec (ws := wsX2_directionTo) B.pre
  have hown : s.vm.findClass RX2 = some m.cls := findClass_of_methodNamed B.named
  have hlocks := B.notSynchronized
  have hl := lv_entry ([.int (iI (av)), .int (iI (bv))]) (n := 4) (Nat.le_of_ble_eq_true rfl)
  rw [lg_entry_eq]
  generalize (lg_sl ([.int (iI (av)), .int (iI (bv))]) ++ List.replicate (4 - (lg_sl ([.int (iI (av)), .int (iI (bv))])).length) Slot.unset).toArray = ls at hl ⊢
  have hl : lv_has ls 4 [(0, .int (iI (av))), (1, .int (iI (bv)))] := hl
  have hav1 := hav.1
  have hav2 := hav.2
  have hbv1 := hbv.1
  have hbv2 := hbv.2
  refine mf_iconst hx hb dX2_directionTo_0 ?_
  refine lv_istore_n (lv' := [(2, .int (iI (0))), (0, .int (iI (av))), (1, .int (iI (bv)))]) hx hb dX2_directionTo_1 rfl hl (by decide) rfl (fun ls hl => ?_)
  have lp2 : ∀ (n : Nat) (k : Int), (4 - k).toNat < n → (0 ≤ k ∧ k ≤ 4) → (0 < k → ¬ (nbr av 0 ≠ -1 ∧ nbr av 0 = bv)) → (1 < k → ¬ (nbr av 1 ≠ -1 ∧ nbr av 1 = bv)) → (2 < k → ¬ (nbr av 2 ≠ -1 ∧ nbr av 2 = bv)) → (3 < k → ¬ (nbr av 3 ≠ -1 ∧ nbr av 3 = bv)) → ∀ (ls : Array Slot), lv_has ls 4 [(0, .int (iI (av))), (1, .int (iI (bv))), (2, .int (iI (k)))] → W p l e (headSpec wsX2_directionTo ({ frames := 1, cells := 0, slots := 0, locals := 22 })).room s m ([.int (iI (av)), .int (iI (bv))] : List Value).toArray below meth c s.heap [] 0 0 (MQ below (vp_Si (fun q => q = iI (dirTo av bv))) ([.int (iI (av)), .int (iI (bv))] : List Value).toArray s 0 0 (fun _ => False)) (F0 m 2 ls []) := by
    intro n
    induction n with
    | zero => intro k hn; exact absurd hn (Nat.not_lt_zero _)
    | succ n ih2 =>
      intro k hn hk h0 h1 h2 h3 ls hl
      refine lv_iload_n hx hb dX2_directionTo_2 rfl (lv_at hl 2 rfl) ?_
      refine mf_iconst hx hb dX2_directionTo_3 ?_
      refine mf_icmp_ge (tgt := 31) hx hb dX2_directionTo_4 (by decide) (i32_mk (by omega) (by omega)) (i32_mk (by decide) (by decide)) (fun c1 => ?_) (fun c1 => ?_)
      · skip
        refine mf_iconst hx hb dX2_directionTo_31 ?_
        exact W.iret hx hb hr (fun t ht hW => ⟨_, rfl, (congrArg iI (by unfold dirTo; (repeat' split) <;> omega)), ht⟩) t_nil dX2_directionTo_32
      · skip
        refine lv_iload_n hx hb dX2_directionTo_7 rfl (lv_at hl 0 rfl) ?_
        refine lv_iload_n hx hb dX2_directionTo_8 rfl (lv_at hl 2 rfl) ?_
        refine vp_callSi (va_Run.run (va_runS (As := [.int (iI (av)), .int (iI (k))]) (rest := []) ⟨hx, hb, hml, hown, hts⟩ (c_X2_neighbour l (av) (k) (i32_mk (by omega) (by omega)) (i32_mk (by omega) (by omega))) (va_cwS 2 hts gX2_directionTo_X2_neighbour rfl rfl rfl (by decide +kernel) ⟨Nat.le_of_ble_eq_true rfl, Nat.le_of_ble_eq_true rfl⟩) pureS rfl rfl hl.1 rfl (lv_room (Nat.le_of_ble_eq_true rfl)) dX2_directionTo_9 ⟨(Nat.zero_le _), (Nat.zero_le _)⟩)) (fun q2 hq2 => ?_)
        subst hq2
        refine mf_nm (fun y3 ey3 => ?_)
        have b4 : -1 ≤ y3 ∧ y3 ≤ 383 := by rw [ey3]; exact nbr_b av k
        refine lv_istore_n (lv' := [(3, .int (iI (y3))), (0, .int (iI (av))), (1, .int (iI (bv))), (2, .int (iI (k)))]) hx hb dX2_directionTo_12 rfl hl (by decide) rfl (fun ls hl => ?_)
        refine lv_iload_n hx hb dX2_directionTo_13 rfl (lv_at hl 0 rfl) ?_
        refine mf_iconst hx hb dX2_directionTo_14 ?_
        refine mf_icmp_eq (tgt := 25) hx hb dX2_directionTo_15 (by decide) (i32_mk (by omega) (by omega)) (i32_mk (by decide) (by decide)) (fun c5 => ?_) (fun c5 => ?_)
        · skip
          refine lv_iinc (v := iI (k + 1)) (lv' := [(2, .int (iI (k + 1))), (3, .int (iI (y3))), (0, .int (iI (av))), (1, .int (iI (bv)))]) hx hb dX2_directionTo_25 hl (k := 3) rfl (iI_add _ _).symm (by decide) rfl (fun ls hl => ?_)
          refine lv_goto (tgt := 2) hx hb dX2_directionTo_28 (by decide) ?_
          exact ih2 (k + 1) (by omega) (by first | assumption | omega) (by intro q; first | omega | (have := h0; rcases (show k = 0 ∨ 0 < k by omega) with rfl | z <;> omega)) (by intro q; first | omega | (have := h1; rcases (show k = 1 ∨ 1 < k by omega) with rfl | z <;> omega)) (by intro q; first | omega | (have := h2; rcases (show k = 2 ∨ 2 < k by omega) with rfl | z <;> omega)) (by intro q; first | omega | (have := h3; rcases (show k = 3 ∨ 3 < k by omega) with rfl | z <;> omega))  ls (lv_sub hl [2, 3, 0] rfl)
        · skip
          refine lv_iload_n hx hb dX2_directionTo_18 rfl (lv_at hl 0 rfl) ?_
          refine lv_iload_n hx hb dX2_directionTo_19 rfl (lv_at hl 2 rfl) ?_
          refine mf_icmp_ne (tgt := 25) hx hb dX2_directionTo_20 (by decide) (i32_mk (by omega) (by omega)) (i32_mk (by omega) (by omega)) (fun c6 => ?_) (fun c6 => ?_)
          · skip
            refine lv_iinc (v := iI (k + 1)) (lv' := [(2, .int (iI (k + 1))), (3, .int (iI (y3))), (0, .int (iI (av))), (1, .int (iI (bv)))]) hx hb dX2_directionTo_25 hl (k := 3) rfl (iI_add _ _).symm (by decide) rfl (fun ls hl => ?_)
            refine lv_goto (tgt := 2) hx hb dX2_directionTo_28 (by decide) ?_
            exact ih2 (k + 1) (by omega) (by first | assumption | omega) (by intro q; first | omega | (have := h0; rcases (show k = 0 ∨ 0 < k by omega) with rfl | z <;> omega)) (by intro q; first | omega | (have := h1; rcases (show k = 1 ∨ 1 < k by omega) with rfl | z <;> omega)) (by intro q; first | omega | (have := h2; rcases (show k = 2 ∨ 2 < k by omega) with rfl | z <;> omega)) (by intro q; first | omega | (have := h3; rcases (show k = 3 ∨ 3 < k by omega) with rfl | z <;> omega))  ls (lv_sub hl [2, 3, 0] rfl)
          · skip
            refine lv_iload_n hx hb dX2_directionTo_23 rfl (lv_at hl 3 rfl) ?_
            exact W.iret hx hb hr (fun t ht hW => ⟨_, rfl, (congrArg iI (by rcases (show k = 0 ∨ k = 1 ∨ k = 2 ∨ k = 3 by omega) with rfl | rfl | rfl | rfl <;> unfold dirTo <;> (repeat' split) <;> omega)), ht⟩) t_nil dX2_directionTo_24
  exact lp2 (_ + 1) 0 (Nat.lt_succ_self _) (by first | assumption | omega) (by intro q; first | omega | (have := h0; rcases (show k = 0 ∨ 0 < k by omega) with rfl | z <;> omega)) (by intro q; first | omega | (have := h1; rcases (show k = 1 ∨ 1 < k by omega) with rfl | z <;> omega)) (by intro q; first | omega | (have := h2; rcases (show k = 2 ∨ 2 < k by omega) with rfl | z <;> omega)) (by intro q; first | omega | (have := h3; rcases (show k = 3 ∨ 3 < k by omega) with rfl | z <;> omega))  ls (lv_sub hl [1, 2, 0] rfl)
