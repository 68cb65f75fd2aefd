/-! 31.model: the reference, tied to a river's values -/
/-- the reference u holds what the river r holds -/
def relU (r u : mf_V) : Prop := rgA 384 (u 1) (r 0) ∧ rgA 384 (u 2) (r 2) ∧ rgA 12 (u 3) (r 5) ∧ rgA (r 7 0) (u 6) (r 6) ∧ rgA 384 (u 7) (r 10) ∧ rgA 384 (u 8) (r 1) ∧ rgA 384 (u 9) (lyl r) ∧ u 10 0 = r 8 0 ∧ u 10 1 = r 9 0 ∧ u 10 2 = r 7 0
theorem rel1 {r u : mf_V} (h : relU r u) {z : Int} (h0 : 0 ≤ z) (h1 : z < 384) : u 1 z = r 0 z := h.1 z h0 h1
theorem rel2 {r u : mf_V} (h : relU r u) {z : Int} (h0 : 0 ≤ z) (h1 : z < 384) : u 2 z = r 2 z := h.2.1 z h0 h1
theorem rel3 {r u : mf_V} (h : relU r u) {z : Int} (h0 : 0 ≤ z) (h1 : z < 12) : u 3 z = r 5 z := h.2.2.1 z h0 h1
theorem rel6 {r u : mf_V} (h : relU r u) {z : Int} (h0 : 0 ≤ z) (h1 : z < r 7 0) : u 6 z = r 6 z := h.2.2.2.1 z h0 h1
theorem rel7 {r u : mf_V} (h : relU r u) {z : Int} (h0 : 0 ≤ z) (h1 : z < 384) : u 7 z = r 10 z := h.2.2.2.2.1 z h0 h1
theorem rel8 {r u : mf_V} (h : relU r u) {z : Int} (h0 : 0 ≤ z) (h1 : z < 384) : u 8 z = r 1 z := h.2.2.2.2.2.1 z h0 h1
theorem rel9 {r u : mf_V} (h : relU r u) {z : Int} (h0 : 0 ≤ z) (h1 : z < 384) : u 9 z = lyl r z := h.2.2.2.2.2.2.1 z h0 h1
theorem rel10_0 {r u : mf_V} (h : relU r u) : u 10 0 = r 8 0 := h.2.2.2.2.2.2.2.1
theorem rel10_1 {r u : mf_V} (h : relU r u) : u 10 1 = r 9 0 := h.2.2.2.2.2.2.2.2.1
theorem rel10_2 {r u : mf_V} (h : relU r u) : u 10 2 = r 7 0 := h.2.2.2.2.2.2.2.2.2
/-- the direction of a cell of the course, by what adding it means -/
theorem dirW {r : mf_V} (hI : RInv r) {i : Int} (h0 : 0 ≤ i) (h1 : i < r 7 0 - 1) : 0 ≤ r 11 i ∧ r 11 i < 4 ∧ nbr (r 6 i) (r 11 i) = r 6 (i + 1) ∧ ¬ r 6 (i + 1) = -1 := by
  have e : r 11 i = dirTo (r 6 i) (r 6 (i + 1)) := by rw [hI.2.1 i h0 (by omega), cellAtF_in (by omega) (by omega)]
  rw [e]
  exact dirTo_nbr (hI.1.2.1 i h0 h1)
theorem dirD {r : mf_V} (ok : rOK rlo rhi r) (hI : RInv r) {i : Int} (h0 : 0 ≤ i) (h1 : i < r 7 0 - 1) : (r 11 i = 0 ∧ r 6 (i + 1) = r 6 i - 24) ∨ (r 11 i = 1 ∧ r 6 (i + 1) = r 6 i + 1) ∨ (r 11 i = 2 ∧ r 6 (i + 1) = r 6 i + 24) ∨ (r 11 i = 3 ∧ r 6 (i + 1) = r 6 i - 1) := by
  obtain ⟨a, b, e, f⟩ := dirW hI h0 h1
  have c : (0 : Int) ≤ r 6 i ∧ r 6 i ≤ 383 := ok 6 i
  have n0 := nbr0 c.1 (by omega)
  have n1 := nbr1 c.1 (by omega)
  have n2 := nbr2 c.1 (by omega)
  have n3 := nbr3 c.1 (by omega)
  rcases d4 a b with z | z | z | z <;> rw [z] at e <;> omega
set_option maxHeartbeats 4000000 in
set_option maxRecDepth 100000 in
theorem c_X3_isIn (l : Launch) (vv : Int) (lv : Int) (wv : Int) (hvv : i32 vv) (hlv : i32 lv) (hwv : i32 wv) : Met l yX3_isIn wsX3_isIn ({ frames := 0, cells := 0, slots := 0, locals := 0 }) (va_Pc [.int (iI (vv)), .int (iI (lv)), .int (iI (wv))] (fun _ => True)) (vp_Si (fun q => q = iI (bP (lv ≤ vv ∧ vv ≤ wv)))) 0 0 (fun _ => False) := by
  refine Met.ofW (cc := cX3_isIn) (maxL := 3) (ret := (some .boolean)) (by decide) rfl ?_
  intro p e s m args below meth c s₁ B hml hv
  obtain ⟨rfl, -⟩ := hv
  have hx := B.exec
  have hb := B.bytes
  have hr := B.returns
  have hts := atoms_spec (ws := wsX3_isIn) B.pre
  have hown : s.vm.findClass RX3 = some m.cls := findClass_of_methodNamed B.named
  have hlocks := B.notSynchronized
  have hl := lv_entry ([.int (iI (vv)), .int (iI (lv)), .int (iI (wv))]) (n := 3) (Nat.le_of_ble_eq_true rfl)
  rw [lg_entry_eq]
  generalize (lg_sl ([.int (iI (vv)), .int (iI (lv)), .int (iI (wv))]) ++ List.replicate (3 - (lg_sl ([.int (iI (vv)), .int (iI (lv)), .int (iI (wv))])).length) Slot.unset).toArray = ls at hl ⊢
  have hl : lv_has ls 3 [(0, .int (iI (vv))), (1, .int (iI (lv))), (2, .int (iI (wv)))] := hl
  have hvv1 := hvv.1
  have hvv2 := hvv.2
  have hlv1 := hlv.1
  have hlv2 := hlv.2
  have hwv1 := hwv.1
  have hwv2 := hwv.2
  refine lv_iload_n hx hb dX3_isIn_0 rfl (lv_at hl 0 rfl) ?_
  refine lv_iload_n hx hb dX3_isIn_1 rfl (lv_at hl 1 rfl) ?_
  refine mf_icmp_lt (tgt := 14) hx hb dX3_isIn_2 (by decide) (i32_mk (by omega) (by omega)) (i32_mk (by omega) (by omega)) (fun c1 => ?_) (fun c1 => ?_)
  · skip
    refine mf_iconst hx hb dX3_isIn_14 ?_
    exact W.zret hx hb hr (mf_nar01 (by omega)) (fun t ht hW => ⟨_, rfl, (congrArg iI (bP_f (by omega)).symm), ht⟩) t_nil dX3_isIn_15
  · skip
    refine lv_iload_n hx hb dX3_isIn_5 rfl (lv_at hl 0 rfl) ?_
    refine lv_iload_n hx hb dX3_isIn_6 rfl (lv_at hl 2 rfl) ?_
    refine mf_icmp_gt (tgt := 14) hx hb dX3_isIn_7 (by decide) (i32_mk (by omega) (by omega)) (i32_mk (by omega) (by omega)) (fun c2 => ?_) (fun c2 => ?_)
    · skip
      refine mf_iconst hx hb dX3_isIn_14 ?_
      exact W.zret hx hb hr (mf_nar01 (by omega)) (fun t ht hW => ⟨_, rfl, (congrArg iI (bP_f (by omega)).symm), ht⟩) t_nil dX3_isIn_15
    · skip
      refine mf_iconst hx hb dX3_isIn_10 ?_
      refine lv_goto (tgt := 15) hx hb dX3_isIn_11 (by decide) ?_
      exact W.zret hx hb hr (mf_nar01 (by omega)) (fun t ht hW => ⟨_, rfl, (congrArg iI (bP_t (by omega)).symm), ht⟩) t_nil dX3_isIn_15
set_option maxHeartbeats 4000000 in
set_option maxRecDepth 100000 in
theorem c_X3_isCell (l : Launch) (xv : Int) (yv : Int) (hxv : i32 xv) (hyv : i32 yv) : Met l yX3_isCell wsX3_isCell ({ frames := 1, cells := 0, slots := 0, locals := 22 }) (va_Pc [.int (iI (xv)), .int (iI (yv))] (fun _ => True)) (vp_Si (fun q => q = iI (bP ((0 ≤ xv ∧ xv < 24) ∧ 0 ≤ yv ∧ yv < 16)))) 0 0 (fun _ => False) := by
  refine Met.ofW (cc := cX3_isCell) (maxL := 2) (ret := (some .boolean)) (by decide) rfl ?_
  intro p e s m args below meth c s₁ B hml hv
  obtain ⟨rfl, -⟩ := hv
  have hx := B.exec
  have hb := B.bytes
  have hr := B.returns
  have hts := atoms_spec (ws := wsX3_isCell) B.pre
  have hown : s.vm.findClass RX3 = some m.cls := findClass_of_methodNamed B.named
  have hlocks := B.notSynchronized
  have hl := lv_entry ([.int (iI (xv)), .int (iI (yv))]) (n := 2) (Nat.le_of_ble_eq_true rfl)
  rw [lg_entry_eq]
  generalize (lg_sl ([.int (iI (xv)), .int (iI (yv))]) ++ List.replicate (2 - (lg_sl ([.int (iI (xv)), .int (iI (yv))])).length) Slot.unset).toArray = ls at hl ⊢
  have hl : lv_has ls 2 [(0, .int (iI (xv))), (1, .int (iI (yv)))] := hl
  have hxv1 := hxv.1
  have hxv2 := hxv.2
  have hyv1 := hyv.1
  have hyv2 := hyv.2
  refine lv_iload_n hx hb dX3_isCell_0 rfl (lv_at hl 0 rfl) ?_
  refine mf_iconst hx hb dX3_isCell_1 ?_
  refine mf_bipush hx hb dX3_isCell_2 rfl ?_
  refine vp_callSi (va_Run.run (va_runS (As := [.int (iI (xv)), .int (iI (0)), .int (iI (23))]) (rest := []) ⟨hx, hb, hml, hown, hts⟩ (c_X3_isIn l (xv) (0) (23) (i32_mk (by omega) (by omega)) (i32_mk (by decide) (by decide)) (i32_mk (by decide) (by decide))) (va_cwS 3 hts gX3_isCell_X3_isIn rfl rfl rfl (by decide +kernel) ⟨Nat.le_of_ble_eq_true rfl, Nat.le_of_ble_eq_true rfl⟩) pureS rfl rfl hl.1 rfl (lv_room (Nat.le_of_ble_eq_true rfl)) dX3_isCell_4 ⟨(Nat.zero_le _), (Nat.zero_le _)⟩)) (fun q1 hq1 => ?_)
  subst hq1
  refine mf_bp_eq (tgt := 24) hx hb dX3_isCell_7 (by decide) (fun c2 => ?_) (fun c2 => ?_)
  · skip
    refine mf_iconst hx hb dX3_isCell_24 ?_
    exact W.zret hx hb hr (mf_nar01 (by omega)) (fun t ht hW => ⟨_, rfl, (congrArg iI (bP_f (by omega)).symm), ht⟩) t_nil dX3_isCell_25
  · skip
    refine lv_iload_n hx hb dX3_isCell_10 rfl (lv_at hl 1 rfl) ?_
    refine mf_iconst hx hb dX3_isCell_11 ?_
    refine mf_bipush hx hb dX3_isCell_12 rfl ?_
    refine vp_callSi (va_Run.run (va_runS (As := [.int (iI (yv)), .int (iI (0)), .int (iI (15))]) (rest := []) ⟨hx, hb, hml, hown, hts⟩ (c_X3_isIn l (yv) (0) (15) (i32_mk (by omega) (by omega)) (i32_mk (by decide) (by decide)) (i32_mk (by decide) (by decide))) (va_cwS 3 hts gX3_isCell_X3_isIn rfl rfl rfl (by decide +kernel) ⟨Nat.le_of_ble_eq_true rfl, Nat.le_of_ble_eq_true rfl⟩) pureS rfl rfl hl.1 rfl (lv_room (Nat.le_of_ble_eq_true rfl)) dX3_isCell_14 ⟨(Nat.zero_le _), (Nat.zero_le _)⟩)) (fun q3 hq3 => ?_)
    subst hq3
    refine mf_bp_eq (tgt := 24) hx hb dX3_isCell_17 (by decide) (fun c4 => ?_) (fun c4 => ?_)
    · skip
      refine mf_iconst hx hb dX3_isCell_24 ?_
      exact W.zret hx hb hr (mf_nar01 (by omega)) (fun t ht hW => ⟨_, rfl, (congrArg iI (bP_f (by omega)).symm), ht⟩) t_nil dX3_isCell_25
    · skip
      refine mf_iconst hx hb dX3_isCell_20 ?_
      refine lv_goto (tgt := 25) hx hb dX3_isCell_21 (by decide) ?_
      exact W.zret hx hb hr (mf_nar01 (by omega)) (fun t ht hW => ⟨_, rfl, (congrArg iI (bP_t (by omega)).symm), ht⟩) t_nil dX3_isCell_25
set_option maxHeartbeats 4000000 in
set_option maxRecDepth 100000 in
theorem c_X3_beside (l : Launch) (cv : Int) (dv : Int) (hcv : i32 cv) (hdv : i32 dv) (hc9 : 0 ≤ cv ∧ cv < 384) (hd9 : 0 ≤ dv ∧ dv ≤ 3) : Met l yX3_beside wsX3_beside ({ frames := 2, cells := 0, slots := 0, locals := 43 }) (va_Pc [.int (iI (cv)), .int (iI (dv))] (fun _ => True)) (vp_Si (fun q => q = iI (nbr cv dv))) 0 0 (fun _ => False) := by
  refine Met.ofW (cc := cX3_beside) (maxL := 4) (ret := (some .int)) (by decide) rfl ?_
  intro p e s m args below meth c s₁ B hml hv
  obtain ⟨rfl, -⟩ := hv
  have hx := B.exec
  have hb := B.bytes
  have hr := B.returns
  have hts := atoms_spec (ws := wsX3_beside) B.pre
  have hown : s.vm.findClass RX3 = some m.cls := findClass_of_methodNamed B.named
  have hlocks := B.notSynchronized
  have hl := lv_entry ([.int (iI (cv)), .int (iI (dv))]) (n := 4) (Nat.le_of_ble_eq_true rfl)
  rw [lg_entry_eq]
  generalize (lg_sl ([.int (iI (cv)), .int (iI (dv))]) ++ List.replicate (4 - (lg_sl ([.int (iI (cv)), .int (iI (dv))])).length) Slot.unset).toArray = ls at hl ⊢
  have hl : lv_has ls 4 [(0, .int (iI (cv))), (1, .int (iI (dv)))] := hl
  have hcv1 := hcv.1
  have hcv2 := hcv.2
  have hdv1 := hdv.1
  have hdv2 := hdv.2
  refine lv_iload_n hx hb dX3_beside_0 rfl (lv_at hl 0 rfl) ?_
  refine mf_bipush hx hb dX3_beside_1 rfl ?_
  refine mf_irem hx hb dX3_beside_3 (i32_mk (by omega) (by omega)) (by omega) (i32_mk (by decide) (by decide)) (by omega) ?_
  refine lv_iload_n hx hb dX3_beside_4 rfl (lv_at hl 1 rfl) ?_
  refine mf_iconst hx hb dX3_beside_5 ?_
  refine mf_icmp_ne (tgt := 13) hx hb dX3_beside_6 (by decide) (i32_mk (by omega) (by omega)) (i32_mk (by decide) (by decide)) (fun c1 => ?_) (fun c1 => ?_)
  · skip
    refine lv_iload_n hx hb dX3_beside_13 rfl (lv_at hl 1 rfl) ?_
    refine mf_iconst hx hb dX3_beside_14 ?_
    refine mf_icmp_ne (tgt := 22) hx hb dX3_beside_15 (by decide) (i32_mk (by omega) (by omega)) (i32_mk (by decide) (by decide)) (fun c2 => ?_) (fun c2 => ?_)
    · skip
      refine mf_iconst hx hb dX3_beside_22 ?_
      refine mf_iadd hx hb dX3_beside_23 ?_
      refine lv_istore_n (lv' := [(2, .int (iI ((cv % 24) + 0))), (0, .int (iI (cv))), (1, .int (iI (dv)))]) hx hb dX3_beside_24 rfl hl (by decide) rfl (fun ls hl => ?_)
      refine lv_iload_n hx hb dX3_beside_25 rfl (lv_at hl 1 rfl) ?_
      refine mf_bipush hx hb dX3_beside_26 rfl ?_
      refine mf_idiv hx hb dX3_beside_28 (i32_mk (by omega) (by omega)) (by omega) (i32_mk (by decide) (by decide)) (by omega) ?_
      refine lv_iload_n hx hb dX3_beside_29 rfl (lv_at hl 2 rfl) ?_
      refine mf_iconst hx hb dX3_beside_30 ?_
      refine mf_icmp_ne (tgt := 38) hx hb dX3_beside_31 (by decide) (i32_mk (by omega) (by omega)) (i32_mk (by decide) (by decide)) (fun c3 => ?_) (fun c3 => ?_)
      · skip
        refine lv_iload_n hx hb dX3_beside_38 rfl (lv_at hl 2 rfl) ?_
        refine mf_if_ne (tgt := 46) hx hb dX3_beside_39 (by decide) (i32_mk (by omega) (by omega)) (fun c4 => ?_) (fun c4 => ?_)
        · skip
          refine mf_iconst hx hb dX3_beside_46 ?_
          refine mf_iadd hx hb dX3_beside_47 ?_
          refine lv_istore_n (lv' := [(3, .int (iI ((cv / 24) + 0))), (2, .int (iI ((cv % 24) + 0))), (0, .int (iI (cv))), (1, .int (iI (dv)))]) hx hb dX3_beside_48 rfl hl (by decide) rfl (fun ls hl => ?_)
          refine lv_iload_n hx hb dX3_beside_49 rfl (lv_at hl 1 rfl) ?_
          refine lv_iload_n hx hb dX3_beside_50 rfl (lv_at hl 0 rfl) ?_
          refine vp_callSi (va_Run.run (va_runS (As := [.int (iI ((cv % 24) + 0)), .int (iI ((cv / 24) + 0))]) (rest := []) ⟨hx, hb, hml, hown, hts⟩ (c_X3_isCell l ((cv % 24) + 0) ((cv / 24) + 0) (i32_mk (by omega) (by omega)) (i32_mk (by omega) (by omega))) (va_cwS 2 hts gX3_beside_X3_isCell rfl rfl rfl (by decide +kernel) ⟨Nat.le_of_ble_eq_true rfl, Nat.le_of_ble_eq_true rfl⟩) pureS rfl rfl hl.1 rfl (lv_room (Nat.le_of_ble_eq_true rfl)) dX3_beside_51 ⟨(Nat.zero_le _), (Nat.zero_le _)⟩)) (fun q5 hq5 => ?_)
          subst hq5
          refine mf_bp_eq (tgt := 66) hx hb dX3_beside_54 (by decide) (fun c6 => ?_) (fun c6 => ?_)
          · skip
            refine mf_iconst hx hb dX3_beside_66 ?_
            have n0 := nbr0 hc9.1 hc9.2
            have n1 := nbr1 hc9.1 hc9.2
            have n2 := nbr2 hc9.1 hc9.2
            have n3 := nbr3 hc9.1 hc9.2
            exact W.iret hx hb hr (fun t ht hW => ⟨_, rfl, (congrArg iI (by rcases d4 hd9.1 (show dv < 4 by omega) with z9 | z9 | z9 | z9 <;> rw [z9] <;> omega)), ht⟩) t_nil dX3_beside_67
          · skip
            refine lv_iload_n hx hb dX3_beside_57 rfl (lv_at hl 1 rfl) ?_
            refine mf_bipush hx hb dX3_beside_58 rfl ?_
            refine lv_iload_n hx hb dX3_beside_60 rfl (lv_at hl 0 rfl) ?_
            refine mf_imul hx hb dX3_beside_61 ?_
            refine mf_iadd hx hb dX3_beside_62 ?_
            refine lv_goto (tgt := 67) hx hb dX3_beside_63 (by decide) ?_
            have n0 := nbr0 hc9.1 hc9.2
            have n1 := nbr1 hc9.1 hc9.2
            have n2 := nbr2 hc9.1 hc9.2
            have n3 := nbr3 hc9.1 hc9.2
            exact W.iret hx hb hr (fun t ht hW => ⟨_, rfl, (congrArg iI (by rcases d4 hd9.1 (show dv < 4 by omega) with z9 | z9 | z9 | z9 <;> rw [z9] <;> omega)), ht⟩) t_nil dX3_beside_67
        · skip
          refine mf_iconst hx hb dX3_beside_42 ?_
          refine lv_goto (tgt := 47) hx hb dX3_beside_43 (by decide) ?_
          refine mf_iadd hx hb dX3_beside_47 ?_
          refine lv_istore_n (lv' := [(3, .int (iI ((cv / 24) + (-1)))), (2, .int (iI ((cv % 24) + 0))), (0, .int (iI (cv))), (1, .int (iI (dv)))]) hx hb dX3_beside_48 rfl hl (by decide) rfl (fun ls hl => ?_)
          refine lv_iload_n hx hb dX3_beside_49 rfl (lv_at hl 1 rfl) ?_
          refine lv_iload_n hx hb dX3_beside_50 rfl (lv_at hl 0 rfl) ?_
          refine vp_callSi (va_Run.run (va_runS (As := [.int (iI ((cv % 24) + 0)), .int (iI ((cv / 24) + (-1)))]) (rest := []) ⟨hx, hb, hml, hown, hts⟩ (c_X3_isCell l ((cv % 24) + 0) ((cv / 24) + (-1)) (i32_mk (by omega) (by omega)) (i32_mk (by omega) (by omega))) (va_cwS 2 hts gX3_beside_X3_isCell rfl rfl rfl (by decide +kernel) ⟨Nat.le_of_ble_eq_true rfl, Nat.le_of_ble_eq_true rfl⟩) pureS rfl rfl hl.1 rfl (lv_room (Nat.le_of_ble_eq_true rfl)) dX3_beside_51 ⟨(Nat.zero_le _), (Nat.zero_le _)⟩)) (fun q7 hq7 => ?_)
          subst hq7
          refine mf_bp_eq (tgt := 66) hx hb dX3_beside_54 (by decide) (fun c8 => ?_) (fun c8 => ?_)
          · skip
            refine mf_iconst hx hb dX3_beside_66 ?_
            have n0 := nbr0 hc9.1 hc9.2
            have n1 := nbr1 hc9.1 hc9.2
            have n2 := nbr2 hc9.1 hc9.2
            have n3 := nbr3 hc9.1 hc9.2
            exact W.iret hx hb hr (fun t ht hW => ⟨_, rfl, (congrArg iI (by rcases d4 hd9.1 (show dv < 4 by omega) with z9 | z9 | z9 | z9 <;> rw [z9] <;> omega)), ht⟩) t_nil dX3_beside_67
          · skip
            refine lv_iload_n hx hb dX3_beside_57 rfl (lv_at hl 1 rfl) ?_
            refine mf_bipush hx hb dX3_beside_58 rfl ?_
            refine lv_iload_n hx hb dX3_beside_60 rfl (lv_at hl 0 rfl) ?_
            refine mf_imul hx hb dX3_beside_61 ?_
            refine mf_iadd hx hb dX3_beside_62 ?_
            refine lv_goto (tgt := 67) hx hb dX3_beside_63 (by decide) ?_
            have n0 := nbr0 hc9.1 hc9.2
            have n1 := nbr1 hc9.1 hc9.2
            have n2 := nbr2 hc9.1 hc9.2
            have n3 := nbr3 hc9.1 hc9.2
            exact W.iret hx hb hr (fun t ht hW => ⟨_, rfl, (congrArg iI (by rcases d4 hd9.1 (show dv < 4 by omega) with z9 | z9 | z9 | z9 <;> rw [z9] <;> omega)), ht⟩) t_nil dX3_beside_67
      · skip
        refine mf_iconst hx hb dX3_beside_34 ?_
        refine lv_goto (tgt := 47) hx hb dX3_beside_35 (by decide) ?_
        refine mf_iadd hx hb dX3_beside_47 ?_
        refine lv_istore_n (lv' := [(3, .int (iI ((cv / 24) + 1))), (2, .int (iI ((cv % 24) + 0))), (0, .int (iI (cv))), (1, .int (iI (dv)))]) hx hb dX3_beside_48 rfl hl (by decide) rfl (fun ls hl => ?_)
        refine lv_iload_n hx hb dX3_beside_49 rfl (lv_at hl 1 rfl) ?_
        refine lv_iload_n hx hb dX3_beside_50 rfl (lv_at hl 0 rfl) ?_
        refine vp_callSi (va_Run.run (va_runS (As := [.int (iI ((cv % 24) + 0)), .int (iI ((cv / 24) + 1))]) (rest := []) ⟨hx, hb, hml, hown, hts⟩ (c_X3_isCell l ((cv % 24) + 0) ((cv / 24) + 1) (i32_mk (by omega) (by omega)) (i32_mk (by omega) (by omega))) (va_cwS 2 hts gX3_beside_X3_isCell rfl rfl rfl (by decide +kernel) ⟨Nat.le_of_ble_eq_true rfl, Nat.le_of_ble_eq_true rfl⟩) pureS rfl rfl hl.1 rfl (lv_room (Nat.le_of_ble_eq_true rfl)) dX3_beside_51 ⟨(Nat.zero_le _), (Nat.zero_le _)⟩)) (fun q9 hq9 => ?_)
        subst hq9
        refine mf_bp_eq (tgt := 66) hx hb dX3_beside_54 (by decide) (fun c10 => ?_) (fun c10 => ?_)
        · skip
          refine mf_iconst hx hb dX3_beside_66 ?_
          have n0 := nbr0 hc9.1 hc9.2
          have n1 := nbr1 hc9.1 hc9.2
          have n2 := nbr2 hc9.1 hc9.2
          have n3 := nbr3 hc9.1 hc9.2
          exact W.iret hx hb hr (fun t ht hW => ⟨_, rfl, (congrArg iI (by rcases d4 hd9.1 (show dv < 4 by omega) with z9 | z9 | z9 | z9 <;> rw [z9] <;> omega)), ht⟩) t_nil dX3_beside_67
        · skip
          refine lv_iload_n hx hb dX3_beside_57 rfl (lv_at hl 1 rfl) ?_
          refine mf_bipush hx hb dX3_beside_58 rfl ?_
          refine lv_iload_n hx hb dX3_beside_60 rfl (lv_at hl 0 rfl) ?_
          refine mf_imul hx hb dX3_beside_61 ?_
          refine mf_iadd hx hb dX3_beside_62 ?_
          refine lv_goto (tgt := 67) hx hb dX3_beside_63 (by decide) ?_
          have n0 := nbr0 hc9.1 hc9.2
          have n1 := nbr1 hc9.1 hc9.2
          have n2 := nbr2 hc9.1 hc9.2
          have n3 := nbr3 hc9.1 hc9.2
          exact W.iret hx hb hr (fun t ht hW => ⟨_, rfl, (congrArg iI (by rcases d4 hd9.1 (show dv < 4 by omega) with z9 | z9 | z9 | z9 <;> rw [z9] <;> omega)), ht⟩) t_nil dX3_beside_67
    · skip
      refine mf_iconst hx hb dX3_beside_18 ?_
      refine lv_goto (tgt := 23) hx hb dX3_beside_19 (by decide) ?_
      refine mf_iadd hx hb dX3_beside_23 ?_
      refine lv_istore_n (lv' := [(2, .int (iI ((cv % 24) + (-1)))), (0, .int (iI (cv))), (1, .int (iI (dv)))]) hx hb dX3_beside_24 rfl hl (by decide) rfl (fun ls hl => ?_)
      refine lv_iload_n hx hb dX3_beside_25 rfl (lv_at hl 1 rfl) ?_
      refine mf_bipush hx hb dX3_beside_26 rfl ?_
      refine mf_idiv hx hb dX3_beside_28 (i32_mk (by omega) (by omega)) (by omega) (i32_mk (by decide) (by decide)) (by omega) ?_
      refine lv_iload_n hx hb dX3_beside_29 rfl (lv_at hl 2 rfl) ?_
      refine mf_iconst hx hb dX3_beside_30 ?_
      refine mf_icmp_ne (tgt := 38) hx hb dX3_beside_31 (by decide) (i32_mk (by omega) (by omega)) (i32_mk (by decide) (by decide)) (fun c11 => ?_) (fun c11 => ?_)
      · skip
        refine lv_iload_n hx hb dX3_beside_38 rfl (lv_at hl 2 rfl) ?_
        refine mf_if_ne (tgt := 46) hx hb dX3_beside_39 (by decide) (i32_mk (by omega) (by omega)) (fun c12 => ?_) (fun c12 => ?_)
        · skip
          refine mf_iconst hx hb dX3_beside_46 ?_
          refine mf_iadd hx hb dX3_beside_47 ?_
          refine lv_istore_n (lv' := [(3, .int (iI ((cv / 24) + 0))), (2, .int (iI ((cv % 24) + (-1)))), (0, .int (iI (cv))), (1, .int (iI (dv)))]) hx hb dX3_beside_48 rfl hl (by decide) rfl (fun ls hl => ?_)
          refine lv_iload_n hx hb dX3_beside_49 rfl (lv_at hl 1 rfl) ?_
          refine lv_iload_n hx hb dX3_beside_50 rfl (lv_at hl 0 rfl) ?_
          refine vp_callSi (va_Run.run (va_runS (As := [.int (iI ((cv % 24) + (-1))), .int (iI ((cv / 24) + 0))]) (rest := []) ⟨hx, hb, hml, hown, hts⟩ (c_X3_isCell l ((cv % 24) + (-1)) ((cv / 24) + 0) (i32_mk (by omega) (by omega)) (i32_mk (by omega) (by omega))) (va_cwS 2 hts gX3_beside_X3_isCell rfl rfl rfl (by decide +kernel) ⟨Nat.le_of_ble_eq_true rfl, Nat.le_of_ble_eq_true rfl⟩) pureS rfl rfl hl.1 rfl (lv_room (Nat.le_of_ble_eq_true rfl)) dX3_beside_51 ⟨(Nat.zero_le _), (Nat.zero_le _)⟩)) (fun q13 hq13 => ?_)
          subst hq13
          refine mf_bp_eq (tgt := 66) hx hb dX3_beside_54 (by decide) (fun c14 => ?_) (fun c14 => ?_)
          · skip
            refine mf_iconst hx hb dX3_beside_66 ?_
            have n0 := nbr0 hc9.1 hc9.2
            have n1 := nbr1 hc9.1 hc9.2
            have n2 := nbr2 hc9.1 hc9.2
            have n3 := nbr3 hc9.1 hc9.2
            exact W.iret hx hb hr (fun t ht hW => ⟨_, rfl, (congrArg iI (by rcases d4 hd9.1 (show dv < 4 by omega) with z9 | z9 | z9 | z9 <;> rw [z9] <;> omega)), ht⟩) t_nil dX3_beside_67
          · skip
            refine lv_iload_n hx hb dX3_beside_57 rfl (lv_at hl 1 rfl) ?_
            refine mf_bipush hx hb dX3_beside_58 rfl ?_
            refine lv_iload_n hx hb dX3_beside_60 rfl (lv_at hl 0 rfl) ?_
            refine mf_imul hx hb dX3_beside_61 ?_
            refine mf_iadd hx hb dX3_beside_62 ?_
            refine lv_goto (tgt := 67) hx hb dX3_beside_63 (by decide) ?_
            have n0 := nbr0 hc9.1 hc9.2
            have n1 := nbr1 hc9.1 hc9.2
            have n2 := nbr2 hc9.1 hc9.2
            have n3 := nbr3 hc9.1 hc9.2
            exact W.iret hx hb hr (fun t ht hW => ⟨_, rfl, (congrArg iI (by rcases d4 hd9.1 (show dv < 4 by omega) with z9 | z9 | z9 | z9 <;> rw [z9] <;> omega)), ht⟩) t_nil dX3_beside_67
        · skip
          refine mf_iconst hx hb dX3_beside_42 ?_
          refine lv_goto (tgt := 47) hx hb dX3_beside_43 (by decide) ?_
          refine mf_iadd hx hb dX3_beside_47 ?_
          refine lv_istore_n (lv' := [(3, .int (iI ((cv / 24) + (-1)))), (2, .int (iI ((cv % 24) + (-1)))), (0, .int (iI (cv))), (1, .int (iI (dv)))]) hx hb dX3_beside_48 rfl hl (by decide) rfl (fun ls hl => ?_)
          refine lv_iload_n hx hb dX3_beside_49 rfl (lv_at hl 1 rfl) ?_
          refine lv_iload_n hx hb dX3_beside_50 rfl (lv_at hl 0 rfl) ?_
          refine vp_callSi (va_Run.run (va_runS (As := [.int (iI ((cv % 24) + (-1))), .int (iI ((cv / 24) + (-1)))]) (rest := []) ⟨hx, hb, hml, hown, hts⟩ (c_X3_isCell l ((cv % 24) + (-1)) ((cv / 24) + (-1)) (i32_mk (by omega) (by omega)) (i32_mk (by omega) (by omega))) (va_cwS 2 hts gX3_beside_X3_isCell rfl rfl rfl (by decide +kernel) ⟨Nat.le_of_ble_eq_true rfl, Nat.le_of_ble_eq_true rfl⟩) pureS rfl rfl hl.1 rfl (lv_room (Nat.le_of_ble_eq_true rfl)) dX3_beside_51 ⟨(Nat.zero_le _), (Nat.zero_le _)⟩)) (fun q15 hq15 => ?_)
          subst hq15
          refine mf_bp_eq (tgt := 66) hx hb dX3_beside_54 (by decide) (fun c16 => ?_) (fun c16 => ?_)
          · skip
            refine mf_iconst hx hb dX3_beside_66 ?_
            have n0 := nbr0 hc9.1 hc9.2
            have n1 := nbr1 hc9.1 hc9.2
            have n2 := nbr2 hc9.1 hc9.2
            have n3 := nbr3 hc9.1 hc9.2
            exact W.iret hx hb hr (fun t ht hW => ⟨_, rfl, (congrArg iI (by rcases d4 hd9.1 (show dv < 4 by omega) with z9 | z9 | z9 | z9 <;> rw [z9] <;> omega)), ht⟩) t_nil dX3_beside_67
          · skip
            refine lv_iload_n hx hb dX3_beside_57 rfl (lv_at hl 1 rfl) ?_
            refine mf_bipush hx hb dX3_beside_58 rfl ?_
            refine lv_iload_n hx hb dX3_beside_60 rfl (lv_at hl 0 rfl) ?_
            refine mf_imul hx hb dX3_beside_61 ?_
            refine mf_iadd hx hb dX3_beside_62 ?_
            refine lv_goto (tgt := 67) hx hb dX3_beside_63 (by decide) ?_
            have n0 := nbr0 hc9.1 hc9.2
            have n1 := nbr1 hc9.1 hc9.2
            have n2 := nbr2 hc9.1 hc9.2
            have n3 := nbr3 hc9.1 hc9.2
            exact W.iret hx hb hr (fun t ht hW => ⟨_, rfl, (congrArg iI (by rcases d4 hd9.1 (show dv < 4 by omega) with z9 | z9 | z9 | z9 <;> rw [z9] <;> omega)), ht⟩) t_nil dX3_beside_67
      · skip
        refine mf_iconst hx hb dX3_beside_34 ?_
        refine lv_goto (tgt := 47) hx hb dX3_beside_35 (by decide) ?_
        refine mf_iadd hx hb dX3_beside_47 ?_
        refine lv_istore_n (lv' := [(3, .int (iI ((cv / 24) + 1))), (2, .int (iI ((cv % 24) + (-1)))), (0, .int (iI (cv))), (1, .int (iI (dv)))]) hx hb dX3_beside_48 rfl hl (by decide) rfl (fun ls hl => ?_)
        refine lv_iload_n hx hb dX3_beside_49 rfl (lv_at hl 1 rfl) ?_
        refine lv_iload_n hx hb dX3_beside_50 rfl (lv_at hl 0 rfl) ?_
        refine vp_callSi (va_Run.run (va_runS (As := [.int (iI ((cv % 24) + (-1))), .int (iI ((cv / 24) + 1))]) (rest := []) ⟨hx, hb, hml, hown, hts⟩ (c_X3_isCell l ((cv % 24) + (-1)) ((cv / 24) + 1) (i32_mk (by omega) (by omega)) (i32_mk (by omega) (by omega))) (va_cwS 2 hts gX3_beside_X3_isCell rfl rfl rfl (by decide +kernel) ⟨Nat.le_of_ble_eq_true rfl, Nat.le_of_ble_eq_true rfl⟩) pureS rfl rfl hl.1 rfl (lv_room (Nat.le_of_ble_eq_true rfl)) dX3_beside_51 ⟨(Nat.zero_le _), (Nat.zero_le _)⟩)) (fun q17 hq17 => ?_)
        subst hq17
        refine mf_bp_eq (tgt := 66) hx hb dX3_beside_54 (by decide) (fun c18 => ?_) (fun c18 => ?_)
        · skip
          refine mf_iconst hx hb dX3_beside_66 ?_
          have n0 := nbr0 hc9.1 hc9.2
          have n1 := nbr1 hc9.1 hc9.2
          have n2 := nbr2 hc9.1 hc9.2
          have n3 := nbr3 hc9.1 hc9.2
          exact W.iret hx hb hr (fun t ht hW => ⟨_, rfl, (congrArg iI (by rcases d4 hd9.1 (show dv < 4 by omega) with z9 | z9 | z9 | z9 <;> rw [z9] <;> omega)), ht⟩) t_nil dX3_beside_67
        · skip
          refine lv_iload_n hx hb dX3_beside_57 rfl (lv_at hl 1 rfl) ?_
          refine mf_bipush hx hb dX3_beside_58 rfl ?_
          refine lv_iload_n hx hb dX3_beside_60 rfl (lv_at hl 0 rfl) ?_
          refine mf_imul hx hb dX3_beside_61 ?_
          refine mf_iadd hx hb dX3_beside_62 ?_
          refine lv_goto (tgt := 67) hx hb dX3_beside_63 (by decide) ?_
          have n0 := nbr0 hc9.1 hc9.2
          have n1 := nbr1 hc9.1 hc9.2
          have n2 := nbr2 hc9.1 hc9.2
          have n3 := nbr3 hc9.1 hc9.2
          exact W.iret hx hb hr (fun t ht hW => ⟨_, rfl, (congrArg iI (by rcases d4 hd9.1 (show dv < 4 by omega) with z9 | z9 | z9 | z9 <;> rw [z9] <;> omega)), ht⟩) t_nil dX3_beside_67
  · skip
    refine mf_iconst hx hb dX3_beside_9 ?_
    refine lv_goto (tgt := 23) hx hb dX3_beside_10 (by decide) ?_
    refine mf_iadd hx hb dX3_beside_23 ?_
    refine lv_istore_n (lv' := [(2, .int (iI ((cv % 24) + 1))), (0, .int (iI (cv))), (1, .int (iI (dv)))]) hx hb dX3_beside_24 rfl hl (by decide) rfl (fun ls hl => ?_)
    refine lv_iload_n hx hb dX3_beside_25 rfl (lv_at hl 1 rfl) ?_
    refine mf_bipush hx hb dX3_beside_26 rfl ?_
    refine mf_idiv hx hb dX3_beside_28 (i32_mk (by omega) (by omega)) (by omega) (i32_mk (by decide) (by decide)) (by omega) ?_
    refine lv_iload_n hx hb dX3_beside_29 rfl (lv_at hl 2 rfl) ?_
    refine mf_iconst hx hb dX3_beside_30 ?_
    refine mf_icmp_ne (tgt := 38) hx hb dX3_beside_31 (by decide) (i32_mk (by omega) (by omega)) (i32_mk (by decide) (by decide)) (fun c19 => ?_) (fun c19 => ?_)
    · skip
      refine lv_iload_n hx hb dX3_beside_38 rfl (lv_at hl 2 rfl) ?_
      refine mf_if_ne (tgt := 46) hx hb dX3_beside_39 (by decide) (i32_mk (by omega) (by omega)) (fun c20 => ?_) (fun c20 => ?_)
      · skip
        refine mf_iconst hx hb dX3_beside_46 ?_
        refine mf_iadd hx hb dX3_beside_47 ?_
        refine lv_istore_n (lv' := [(3, .int (iI ((cv / 24) + 0))), (2, .int (iI ((cv % 24) + 1))), (0, .int (iI (cv))), (1, .int (iI (dv)))]) hx hb dX3_beside_48 rfl hl (by decide) rfl (fun ls hl => ?_)
        refine lv_iload_n hx hb dX3_beside_49 rfl (lv_at hl 1 rfl) ?_
        refine lv_iload_n hx hb dX3_beside_50 rfl (lv_at hl 0 rfl) ?_
        refine vp_callSi (va_Run.run (va_runS (As := [.int (iI ((cv % 24) + 1)), .int (iI ((cv / 24) + 0))]) (rest := []) ⟨hx, hb, hml, hown, hts⟩ (c_X3_isCell l ((cv % 24) + 1) ((cv / 24) + 0) (i32_mk (by omega) (by omega)) (i32_mk (by omega) (by omega))) (va_cwS 2 hts gX3_beside_X3_isCell rfl rfl rfl (by decide +kernel) ⟨Nat.le_of_ble_eq_true rfl, Nat.le_of_ble_eq_true rfl⟩) pureS rfl rfl hl.1 rfl (lv_room (Nat.le_of_ble_eq_true rfl)) dX3_beside_51 ⟨(Nat.zero_le _), (Nat.zero_le _)⟩)) (fun q21 hq21 => ?_)
        subst hq21
        refine mf_bp_eq (tgt := 66) hx hb dX3_beside_54 (by decide) (fun c22 => ?_) (fun c22 => ?_)
        · skip
          refine mf_iconst hx hb dX3_beside_66 ?_
          have n0 := nbr0 hc9.1 hc9.2
          have n1 := nbr1 hc9.1 hc9.2
          have n2 := nbr2 hc9.1 hc9.2
          have n3 := nbr3 hc9.1 hc9.2
          exact W.iret hx hb hr (fun t ht hW => ⟨_, rfl, (congrArg iI (by rcases d4 hd9.1 (show dv < 4 by omega) with z9 | z9 | z9 | z9 <;> rw [z9] <;> omega)), ht⟩) t_nil dX3_beside_67
        · skip
          refine lv_iload_n hx hb dX3_beside_57 rfl (lv_at hl 1 rfl) ?_
          refine mf_bipush hx hb dX3_beside_58 rfl ?_
          refine lv_iload_n hx hb dX3_beside_60 rfl (lv_at hl 0 rfl) ?_
          refine mf_imul hx hb dX3_beside_61 ?_
          refine mf_iadd hx hb dX3_beside_62 ?_
          refine lv_goto (tgt := 67) hx hb dX3_beside_63 (by decide) ?_
          have n0 := nbr0 hc9.1 hc9.2
          have n1 := nbr1 hc9.1 hc9.2
          have n2 := nbr2 hc9.1 hc9.2
          have n3 := nbr3 hc9.1 hc9.2
          exact W.iret hx hb hr (fun t ht hW => ⟨_, rfl, (congrArg iI (by rcases d4 hd9.1 (show dv < 4 by omega) with z9 | z9 | z9 | z9 <;> rw [z9] <;> omega)), ht⟩) t_nil dX3_beside_67
      · skip
        refine mf_iconst hx hb dX3_beside_42 ?_
        refine lv_goto (tgt := 47) hx hb dX3_beside_43 (by decide) ?_
        refine mf_iadd hx hb dX3_beside_47 ?_
        refine lv_istore_n (lv' := [(3, .int (iI ((cv / 24) + (-1)))), (2, .int (iI ((cv % 24) + 1))), (0, .int (iI (cv))), (1, .int (iI (dv)))]) hx hb dX3_beside_48 rfl hl (by decide) rfl (fun ls hl => ?_)
        refine lv_iload_n hx hb dX3_beside_49 rfl (lv_at hl 1 rfl) ?_
        refine lv_iload_n hx hb dX3_beside_50 rfl (lv_at hl 0 rfl) ?_
        refine vp_callSi (va_Run.run (va_runS (As := [.int (iI ((cv % 24) + 1)), .int (iI ((cv / 24) + (-1)))]) (rest := []) ⟨hx, hb, hml, hown, hts⟩ (c_X3_isCell l ((cv % 24) + 1) ((cv / 24) + (-1)) (i32_mk (by omega) (by omega)) (i32_mk (by omega) (by omega))) (va_cwS 2 hts gX3_beside_X3_isCell rfl rfl rfl (by decide +kernel) ⟨Nat.le_of_ble_eq_true rfl, Nat.le_of_ble_eq_true rfl⟩) pureS rfl rfl hl.1 rfl (lv_room (Nat.le_of_ble_eq_true rfl)) dX3_beside_51 ⟨(Nat.zero_le _), (Nat.zero_le _)⟩)) (fun q23 hq23 => ?_)
        subst hq23
        refine mf_bp_eq (tgt := 66) hx hb dX3_beside_54 (by decide) (fun c24 => ?_) (fun c24 => ?_)
        · skip
          refine mf_iconst hx hb dX3_beside_66 ?_
          have n0 := nbr0 hc9.1 hc9.2
          have n1 := nbr1 hc9.1 hc9.2
          have n2 := nbr2 hc9.1 hc9.2
          have n3 := nbr3 hc9.1 hc9.2
          exact W.iret hx hb hr (fun t ht hW => ⟨_, rfl, (congrArg iI (by rcases d4 hd9.1 (show dv < 4 by omega) with z9 | z9 | z9 | z9 <;> rw [z9] <;> omega)), ht⟩) t_nil dX3_beside_67
        · skip
          refine lv_iload_n hx hb dX3_beside_57 rfl (lv_at hl 1 rfl) ?_
          refine mf_bipush hx hb dX3_beside_58 rfl ?_
          refine lv_iload_n hx hb dX3_beside_60 rfl (lv_at hl 0 rfl) ?_
          refine mf_imul hx hb dX3_beside_61 ?_
          refine mf_iadd hx hb dX3_beside_62 ?_
          refine lv_goto (tgt := 67) hx hb dX3_beside_63 (by decide) ?_
          have n0 := nbr0 hc9.1 hc9.2
          have n1 := nbr1 hc9.1 hc9.2
          have n2 := nbr2 hc9.1 hc9.2
          have n3 := nbr3 hc9.1 hc9.2
          exact W.iret hx hb hr (fun t ht hW => ⟨_, rfl, (congrArg iI (by rcases d4 hd9.1 (show dv < 4 by omega) with z9 | z9 | z9 | z9 <;> rw [z9] <;> omega)), ht⟩) t_nil dX3_beside_67
    · skip
      refine mf_iconst hx hb dX3_beside_34 ?_
      refine lv_goto (tgt := 47) hx hb dX3_beside_35 (by decide) ?_
      refine mf_iadd hx hb dX3_beside_47 ?_
      refine lv_istore_n (lv' := [(3, .int (iI ((cv / 24) + 1))), (2, .int (iI ((cv % 24) + 1))), (0, .int (iI (cv))), (1, .int (iI (dv)))]) hx hb dX3_beside_48 rfl hl (by decide) rfl (fun ls hl => ?_)
      refine lv_iload_n hx hb dX3_beside_49 rfl (lv_at hl 1 rfl) ?_
      refine lv_iload_n hx hb dX3_beside_50 rfl (lv_at hl 0 rfl) ?_
      refine vp_callSi (va_Run.run (va_runS (As := [.int (iI ((cv % 24) + 1)), .int (iI ((cv / 24) + 1))]) (rest := []) ⟨hx, hb, hml, hown, hts⟩ (c_X3_isCell l ((cv % 24) + 1) ((cv / 24) + 1) (i32_mk (by omega) (by omega)) (i32_mk (by omega) (by omega))) (va_cwS 2 hts gX3_beside_X3_isCell rfl rfl rfl (by decide +kernel) ⟨Nat.le_of_ble_eq_true rfl, Nat.le_of_ble_eq_true rfl⟩) pureS rfl rfl hl.1 rfl (lv_room (Nat.le_of_ble_eq_true rfl)) dX3_beside_51 ⟨(Nat.zero_le _), (Nat.zero_le _)⟩)) (fun q25 hq25 => ?_)
      subst hq25
      refine mf_bp_eq (tgt := 66) hx hb dX3_beside_54 (by decide) (fun c26 => ?_) (fun c26 => ?_)
      · skip
        refine mf_iconst hx hb dX3_beside_66 ?_
        have n0 := nbr0 hc9.1 hc9.2
        have n1 := nbr1 hc9.1 hc9.2
        have n2 := nbr2 hc9.1 hc9.2
        have n3 := nbr3 hc9.1 hc9.2
        exact W.iret hx hb hr (fun t ht hW => ⟨_, rfl, (congrArg iI (by rcases d4 hd9.1 (show dv < 4 by omega) with z9 | z9 | z9 | z9 <;> rw [z9] <;> omega)), ht⟩) t_nil dX3_beside_67
      · skip
        refine lv_iload_n hx hb dX3_beside_57 rfl (lv_at hl 1 rfl) ?_
        refine mf_bipush hx hb dX3_beside_58 rfl ?_
        refine lv_iload_n hx hb dX3_beside_60 rfl (lv_at hl 0 rfl) ?_
        refine mf_imul hx hb dX3_beside_61 ?_
        refine mf_iadd hx hb dX3_beside_62 ?_
        refine lv_goto (tgt := 67) hx hb dX3_beside_63 (by decide) ?_
        have n0 := nbr0 hc9.1 hc9.2
        have n1 := nbr1 hc9.1 hc9.2
        have n2 := nbr2 hc9.1 hc9.2
        have n3 := nbr3 hc9.1 hc9.2
        exact W.iret hx hb hr (fun t ht hW => ⟨_, rfl, (congrArg iI (by rcases d4 hd9.1 (show dv < 4 by omega) with z9 | z9 | z9 | z9 <;> rw [z9] <;> omega)), ht⟩) t_nil dX3_beside_67
set_option maxHeartbeats 4000000 in
set_option maxRecDepth 100000 in
theorem c_X3_thrown (l : Launch) (G : mf_G) (hm : Nat) (adm : Nat → Nat) (u : mf_V) (oku : rOK ulo uhi u) : Met l yX3_thrown wsX3_thrown ({ frames := 0, cells := 0, slots := 0, locals := 0 }) (va_Pc [.ref hm] (RdP G (MW G hm adm u))) (vp_Si (fun q => q = iI (u 0 0))) 0 0 (fun _ => False) := by
  refine Met.ofW (cc := cX3_thrown) (maxL := 1) (ret := (some .int)) (by decide) rfl ?_
  intro p e s m args below meth c s₁ B hml hv
  obtain ⟨rfl, hP, hK, hN⟩ := hv
  have hx := B.exec
  have hb := B.bytes
  have hr := B.returns
  have hts := atoms_spec (ws := wsX3_thrown) B.pre
  have hown : s.vm.findClass RX3 = some m.cls := findClass_of_methodNamed B.named
  have hlocks := B.notSynchronized
  have hinX3 : ∀ w ∈ u_ws RX3 TX3 11, w ∈ wsX3_thrown := fun w h => List.mem_cons_of_mem _ (List.mem_append_right _ h)
  have hl := lv_entry ([.ref hm]) (n := 1) (Nat.le_of_ble_eq_true rfl)
  rw [lg_entry_eq]
  generalize (lg_sl ([.ref hm]) ++ List.replicate (1 - (lg_sl ([.ref hm])).length) Slot.unset).toArray = ls at hl ⊢
  have hl : lv_has ls 1 [(0, .ref hm)] := hl
  refine lv_aload_n hx hb dX3_thrown_0 rfl (lv_at hl 0 rfl) ?_
  refine va_get (D := G.1) (ci := 3) (v := .int (iI (u 0 0))) (C := RX3) (T := TX3) (N := 11) hx hb hts hinX3 hown hK hP 0 rfl rfl 0 (by decide) (hts (.fieldLink RX3 41 "MeanderFarmModel" "thrown" "I") (List.mem_of_getElem? (i := 1) rfl)) (fun _ h9 => h9) rfl dX3_thrown_1 ?_
  have b1 : (-1 : Int) ≤ u 0 0 ∧ u 0 0 ≤ 9 := oku 0 (0)
  exact W.iret hx hb hr (fun t ht hW => ⟨_, rfl, (congrArg iI (by first | rfl | omega)), ht⟩) t_nil dX3_thrown_4
set_option maxHeartbeats 4000000 in
set_option maxRecDepth 100000 in
theorem c_X3_length (l : Launch) (G : mf_G) (hm : Nat) (adm : Nat → Nat) (u : mf_V) (oku : rOK ulo uhi u) : Met l yX3_length wsX3_length ({ frames := 0, cells := 0, slots := 0, locals := 0 }) (va_Pc [.ref hm] (RdP G (MW G hm adm u))) (vp_Si (fun q => q = iI (u 10 2))) 0 0 (fun _ => False) := by
  refine Met.ofW (cc := cX3_length) (maxL := 1) (ret := (some .int)) (by decide) rfl ?_
  intro p e s m args below meth c s₁ B hml hv
  obtain ⟨rfl, hP, hK, hN⟩ := hv
  have hx := B.exec
  have hb := B.bytes
  have hr := B.returns
  have hts := atoms_spec (ws := wsX3_length) B.pre
  have hown : s.vm.findClass RX3 = some m.cls := findClass_of_methodNamed B.named
  have hlocks := B.notSynchronized
  have hinX3 : ∀ w ∈ u_ws RX3 TX3 11, w ∈ wsX3_length := fun w h => List.mem_cons_of_mem _ (List.mem_append_right _ h)
  have hl := lv_entry ([.ref hm]) (n := 1) (Nat.le_of_ble_eq_true rfl)
  rw [lg_entry_eq]
  generalize (lg_sl ([.ref hm]) ++ List.replicate (1 - (lg_sl ([.ref hm])).length) Slot.unset).toArray = ls at hl ⊢
  have hl : lv_has ls 1 [(0, .ref hm)] := hl
  refine lv_aload_n hx hb dX3_length_0 rfl (lv_at hl 0 rfl) ?_
  refine va_get (D := G.1) (ci := 3) (v := .ref (adm 10)) (C := RX3) (T := TX3) (N := 11) hx hb hts hinX3 hown hK hP 0 rfl rfl 10 (by decide) (hts (.fieldLink RX3 35 "MeanderFarmModel" "numbers" "[I") (List.mem_of_getElem? (i := 1) rfl)) (fun _ h9 => h9) rfl dX3_length_1 ?_
  refine mf_iconst hx hb dX3_length_4 ?_
  refine mf_iald (n := 3) (f := u 10) hx hb hK hP 9 0 rfl rfl (z := 2) (by omega) (by omega) (by decide) dX3_length_5 ?_
  have b1 : (0 : Int) ≤ u 10 2 ∧ u 10 2 ≤ 100000000 := oku 10 (2)
  exact W.iret hx hb hr (fun t ht hW => ⟨_, rfl, (congrArg iI (by first | rfl | omega)), ht⟩) t_nil dX3_length_6
set_option maxHeartbeats 4000000 in
set_option maxRecDepth 100000 in
theorem c_X3_isCourse (l : Launch) (G : mf_G) (hm : Nat) (adm : Nat → Nat) (u : mf_V) (iv : Int) (r : mf_V) (hiv : i32 iv) (oku : rOK ulo uhi u) (ok : rOK rlo rhi r) (hI : RInv r) (hrel : relU r u) : Met l yX3_isCourse wsX3_isCourse ({ frames := 1, cells := 0, slots := 0, locals := 22 }) (va_Pc [.ref hm, .int (iI (iv))] (RdP G (MW G hm adm u))) (vp_Si (fun q => q = iI (bP (inC r iv)))) 0 0 (fun _ => False) := by
  refine Met.ofW (cc := cX3_isCourse) (maxL := 2) (ret := (some .boolean)) (by decide) rfl ?_
  intro p e s m args below meth c s₁ B hml hv
  obtain ⟨rfl, hP, hK, hN⟩ := hv
  have hx := B.exec
  have hb := B.bytes
  have hr := B.returns
  have hts := atoms_spec (ws := wsX3_isCourse) B.pre
  have hown : s.vm.findClass RX3 = some m.cls := findClass_of_methodNamed B.named
  have hlocks := B.notSynchronized
  have hl := lv_entry ([.ref hm, .int (iI (iv))]) (n := 2) (Nat.le_of_ble_eq_true rfl)
  rw [lg_entry_eq]
  generalize (lg_sl ([.ref hm, .int (iI (iv))]) ++ List.replicate (2 - (lg_sl ([.ref hm, .int (iI (iv))])).length) Slot.unset).toArray = ls at hl ⊢
  have hl : lv_has ls 2 [(0, .ref hm), (1, .int (iI (iv)))] := hl
  have hiv1 := hiv.1
  have hiv2 := hiv.2
  have okLr : (0 : Int) ≤ r 7 0 ∧ r 7 0 ≤ 150 := ok 7 0
  refine lv_iload_n hx hb dX3_isCourse_0 rfl (lv_at hl 1 rfl) ?_
  refine mf_iconst hx hb dX3_isCourse_1 ?_
  refine lv_aload_n hx hb dX3_isCourse_2 rfl (lv_at hl 0 rfl) ?_
  refine vp_callSi (va_Run.run (va_runV (As := []) (rest := [.int (iI (0)), .int (iI (iv))]) ⟨hx, hb, hml, hown, hts⟩ (c_X3_length l G hm adm u (by assumption)) (cwV 0 hts gX3_isCourse_X3_length rfl rfl rfl (by decide +kernel) ⟨Nat.le_of_ble_eq_true rfl, Nat.le_of_ble_eq_true rfl⟩) (rdV (wc := MW G hm adm u) hK hP hN [0, 1, 2, 3, 4, 5, 6, 7, 8, 9] rfl (ci := 3) rfl rfl) rfl rfl hl.1 rfl (lv_room (Nat.le_of_ble_eq_true rfl)) dX3_isCourse_3 ⟨(Nat.zero_le _), (Nat.zero_le _)⟩)) (fun q1 hq1 => ?_)
  subst hq1
  refine mf_top (u 10 2) (r 7 0) (by rw [rel10_2 hrel]) ?_
  have b2 : (0 : Int) ≤ r 7 0 ∧ r 7 0 ≤ 150 := ok 7 0
  refine mf_iconst hx hb dX3_isCourse_6 ?_
  refine mf_isub hx hb dX3_isCourse_7 ?_
  refine vp_callSi (va_Run.run (va_runS (As := [.int (iI (iv)), .int (iI (0)), .int (iI ((r 7 0) - 1))]) (rest := []) ⟨hx, hb, hml, hown, hts⟩ (c_X3_isIn l (iv) (0) ((r 7 0) - 1) (i32_mk (by omega) (by omega)) (i32_mk (by decide) (by decide)) (i32_mk (by omega) (by omega))) (va_cwS 3 hts gX3_isCourse_X3_isIn rfl rfl rfl (by decide +kernel) ⟨Nat.le_of_ble_eq_true rfl, Nat.le_of_ble_eq_true rfl⟩) pureS rfl rfl hl.1 rfl (lv_room (Nat.le_of_ble_eq_true rfl)) dX3_isCourse_8 ⟨(Nat.zero_le _), (Nat.zero_le _)⟩)) (fun q3 hq3 => ?_)
  subst hq3
  exact W.zret hx hb hr (mf_nar01 (by have := bP_01 ((0 ≤ iv ∧ iv ≤ ((r 7 0) - 1))); omega)) (fun t ht hW => ⟨_, rfl, (congrArg iI (bP_cg (by unfold inC; omega))), ht⟩) t_nil dX3_isCourse_11
set_option maxHeartbeats 4000000 in
set_option maxRecDepth 100000 in
theorem c_X3_direction (l : Launch) (G : mf_G) (hm : Nat) (adm : Nat → Nat) (u : mf_V) (iv : Int) (r : mf_V) (hiv : i32 iv) (oku : rOK ulo uhi u) (ok : rOK rlo rhi r) (hI : RInv r) (hrel : relU r u) (hi9 : 0 ≤ iv ∧ iv < r 7 0 - 1) : Met l yX3_direction wsX3_direction ({ frames := 0, cells := 0, slots := 0, locals := 0 }) (va_Pc [.ref hm, .int (iI (iv))] (RdP G (MW G hm adm u))) (vp_Si (fun q => q = iI (r 11 iv))) 0 0 (fun _ => False) := by
  refine Met.ofW (cc := cX3_direction) (maxL := 3) (ret := (some .int)) (by decide) rfl ?_
  intro p e s m args below meth c s₁ B hml hv
  obtain ⟨rfl, hP, hK, hN⟩ := hv
  have hx := B.exec
  have hb := B.bytes
  have hr := B.returns
  have hts := atoms_spec (ws := wsX3_direction) B.pre
  have hown : s.vm.findClass RX3 = some m.cls := findClass_of_methodNamed B.named
  have hlocks := B.notSynchronized
  have hinX3 : ∀ w ∈ u_ws RX3 TX3 11, w ∈ wsX3_direction := fun w h => List.mem_cons_of_mem _ (List.mem_append_right _ h)
  have hl := lv_entry ([.ref hm, .int (iI (iv))]) (n := 3) (Nat.le_of_ble_eq_true rfl)
  rw [lg_entry_eq]
  generalize (lg_sl ([.ref hm, .int (iI (iv))]) ++ List.replicate (3 - (lg_sl ([.ref hm, .int (iI (iv))])).length) Slot.unset).toArray = ls at hl ⊢
  have hl : lv_has ls 3 [(0, .ref hm), (1, .int (iI (iv)))] := hl
  have hiv1 := hiv.1
  have hiv2 := hiv.2
  have okLr : (0 : Int) ≤ r 7 0 ∧ r 7 0 ≤ 150 := ok 7 0
  have hdd := dirD ok hI hi9.1 hi9.2
  refine lv_aload_n hx hb dX3_direction_0 rfl (lv_at hl 0 rfl) ?_
  refine va_get (D := G.1) (ci := 3) (v := .ref (adm 6)) (C := RX3) (T := TX3) (N := 11) hx hb hts hinX3 hown hK hP 0 rfl rfl 6 (by decide) (hts (.fieldLink RX3 23 "MeanderFarmModel" "course" "[I") (List.mem_of_getElem? (i := 1) rfl)) (fun _ h9 => h9) rfl dX3_direction_1 ?_
  refine lv_iload_n hx hb dX3_direction_4 rfl (lv_at hl 1 rfl) ?_
  refine mf_iconst hx hb dX3_direction_5 ?_
  refine mf_iadd hx hb dX3_direction_6 ?_
  refine mf_iald (n := 152) (f := u 6) hx hb hK hP 5 0 rfl rfl (z := iv + 1) (by omega) (by omega) (by decide) dX3_direction_7 ?_
  refine mf_top (u 6 (iv + 1)) (r 6 (iv + 1)) (by rw [(rel6 hrel (z := iv + 1) (by omega) (by omega))]) ?_
  have b1 : (0 : Int) ≤ r 6 (iv + 1) ∧ r 6 (iv + 1) ≤ 383 := ok 6 (iv + 1)
  refine lv_aload_n hx hb dX3_direction_8 rfl (lv_at hl 0 rfl) ?_
  refine va_get (D := G.1) (ci := 3) (v := .ref (adm 6)) (C := RX3) (T := TX3) (N := 11) hx hb hts hinX3 hown hK hP 0 rfl rfl 6 (by decide) (hts (.fieldLink RX3 23 "MeanderFarmModel" "course" "[I") (List.mem_of_getElem? (i := 1) rfl)) (fun _ h9 => h9) rfl dX3_direction_9 ?_
  refine lv_iload_n hx hb dX3_direction_12 rfl (lv_at hl 1 rfl) ?_
  refine mf_iald (n := 152) (f := u 6) hx hb hK hP 5 0 rfl rfl (z := iv) (by omega) (by omega) (by decide) dX3_direction_13 ?_
  refine mf_top (u 6 iv) (r 6 iv) (by rw [(rel6 hrel (z := iv) (by omega) (by omega))]) ?_
  have b2 : (0 : Int) ≤ r 6 iv ∧ r 6 iv ≤ 383 := ok 6 (iv)
  refine mf_isub hx hb dX3_direction_14 ?_
  refine lv_istore_n (lv' := [(2, .int (iI ((r 6 (iv + 1)) - (r 6 iv)))), (0, .ref hm), (1, .int (iI (iv)))]) hx hb dX3_direction_15 rfl hl (by decide) rfl (fun ls hl => ?_)
  refine lv_iload_n hx hb dX3_direction_16 rfl (lv_at hl 0 rfl) ?_
  refine mf_bipush hx hb dX3_direction_17 rfl ?_
  refine mf_icmp_ne (tgt := 26) hx hb dX3_direction_19 (by decide) (i32_mk (by omega) (by omega)) (i32_mk (by decide) (by decide)) (fun c3 => ?_) (fun c3 => ?_)
  · skip
    refine lv_iload_n hx hb dX3_direction_26 rfl (lv_at hl 0 rfl) ?_
    refine mf_iconst hx hb dX3_direction_27 ?_
    refine mf_icmp_ne (tgt := 35) hx hb dX3_direction_28 (by decide) (i32_mk (by omega) (by omega)) (i32_mk (by decide) (by decide)) (fun c4 => ?_) (fun c4 => ?_)
    · skip
      refine lv_iload_n hx hb dX3_direction_35 rfl (lv_at hl 0 rfl) ?_
      refine mf_bipush hx hb dX3_direction_36 rfl ?_
      refine mf_icmp_ne (tgt := 45) hx hb dX3_direction_38 (by decide) (i32_mk (by omega) (by omega)) (i32_mk (by decide) (by decide)) (fun c5 => ?_) (fun c5 => ?_)
      · skip
        refine mf_iconst hx hb dX3_direction_45 ?_
        exact W.iret hx hb hr (fun t ht hW => ⟨_, rfl, (congrArg iI (by first | rfl | omega)), ht⟩) t_nil dX3_direction_46
      · skip
        refine mf_iconst hx hb dX3_direction_41 ?_
        refine lv_goto (tgt := 46) hx hb dX3_direction_42 (by decide) ?_
        exact W.iret hx hb hr (fun t ht hW => ⟨_, rfl, (congrArg iI (by first | rfl | omega)), ht⟩) t_nil dX3_direction_46
    · skip
      refine mf_iconst hx hb dX3_direction_31 ?_
      refine lv_goto (tgt := 46) hx hb dX3_direction_32 (by decide) ?_
      exact W.iret hx hb hr (fun t ht hW => ⟨_, rfl, (congrArg iI (by first | rfl | omega)), ht⟩) t_nil dX3_direction_46
  · skip
    refine mf_iconst hx hb dX3_direction_22 ?_
    refine lv_goto (tgt := 46) hx hb dX3_direction_23 (by decide) ?_
    exact W.iret hx hb hr (fun t ht hW => ⟨_, rfl, (congrArg iI (by first | rfl | omega)), ht⟩) t_nil dX3_direction_46
set_option maxHeartbeats 4000000 in
set_option maxRecDepth 100000 in
theorem c_X3_isStraight (l : Launch) (G : mf_G) (hm : Nat) (adm : Nat → Nat) (u : mf_V) (iv : Int) (r : mf_V) (hiv : i32 iv) (oku : rOK ulo uhi u) (ok : rOK rlo rhi r) (hI : RInv r) (hrel : relU r u) : Met l yX3_isStraight wsX3_isStraight ({ frames := 1, cells := 0, slots := 0, locals := 22 }) (va_Pc [.ref hm, .int (iI (iv))] (RdP G (MW G hm adm u))) (vp_Si (fun q => q = iI (bP (strP r iv)))) 0 0 (fun _ => False) := by
  refine Met.ofW (cc := cX3_isStraight) (maxL := 2) (ret := (some .boolean)) (by decide) rfl ?_
  intro p e s m args below meth c s₁ B hml hv
  obtain ⟨rfl, hP, hK, hN⟩ := hv
  have hx := B.exec
  have hb := B.bytes
  have hr := B.returns
  have hts := atoms_spec (ws := wsX3_isStraight) B.pre
  have hown : s.vm.findClass RX3 = some m.cls := findClass_of_methodNamed B.named
  have hlocks := B.notSynchronized
  have hl := lv_entry ([.ref hm, .int (iI (iv))]) (n := 2) (Nat.le_of_ble_eq_true rfl)
  rw [lg_entry_eq]
  generalize (lg_sl ([.ref hm, .int (iI (iv))]) ++ List.replicate (2 - (lg_sl ([.ref hm, .int (iI (iv))])).length) Slot.unset).toArray = ls at hl ⊢
  have hl : lv_has ls 2 [(0, .ref hm), (1, .int (iI (iv)))] := hl
  have hiv1 := hiv.1
  have hiv2 := hiv.2
  have okLr : (0 : Int) ≤ r 7 0 ∧ r 7 0 ≤ 150 := ok 7 0
  refine lv_iload_n hx hb dX3_isStraight_0 rfl (lv_at hl 1 rfl) ?_
  refine mf_if_le (tgt := 33) hx hb dX3_isStraight_1 (by decide) (i32_mk (by omega) (by omega)) (fun c1 => ?_) (fun c1 => ?_)
  · skip
    refine mf_iconst hx hb dX3_isStraight_33 ?_
    exact W.zret hx hb hr (mf_nar01 (by omega)) (fun t ht hW => ⟨_, rfl, (congrArg iI (bP_f (by unfold strP; omega)).symm), ht⟩) t_nil dX3_isStraight_34
  · skip
    refine lv_iload_n hx hb dX3_isStraight_4 rfl (lv_at hl 1 rfl) ?_
    refine lv_aload_n hx hb dX3_isStraight_5 rfl (lv_at hl 0 rfl) ?_
    refine vp_callSi (va_Run.run (va_runV (As := []) (rest := [.int (iI (iv))]) ⟨hx, hb, hml, hown, hts⟩ (c_X3_length l G hm adm u (by assumption)) (cwV 0 hts gX3_isStraight_X3_length rfl rfl rfl (by decide +kernel) ⟨Nat.le_of_ble_eq_true rfl, Nat.le_of_ble_eq_true rfl⟩) (rdV (wc := MW G hm adm u) hK hP hN [0, 1, 2, 3, 4, 5, 6, 7, 8, 9] rfl (ci := 3) rfl rfl) rfl rfl hl.1 rfl (lv_room (Nat.le_of_ble_eq_true rfl)) dX3_isStraight_6 ⟨(Nat.zero_le _), (Nat.zero_le _)⟩)) (fun q2 hq2 => ?_)
    subst hq2
    refine mf_top (u 10 2) (r 7 0) (by rw [rel10_2 hrel]) ?_
    have b3 : (0 : Int) ≤ r 7 0 ∧ r 7 0 ≤ 150 := ok 7 0
    refine mf_iconst hx hb dX3_isStraight_9 ?_
    refine mf_isub hx hb dX3_isStraight_10 ?_
    refine mf_icmp_ge (tgt := 33) hx hb dX3_isStraight_11 (by decide) (i32_mk (by omega) (by omega)) (i32_mk (by omega) (by omega)) (fun c4 => ?_) (fun c4 => ?_)
    · skip
      refine mf_iconst hx hb dX3_isStraight_33 ?_
      exact W.zret hx hb hr (mf_nar01 (by omega)) (fun t ht hW => ⟨_, rfl, (congrArg iI (bP_f (by unfold strP; omega)).symm), ht⟩) t_nil dX3_isStraight_34
    · skip
      refine lv_aload_n hx hb dX3_isStraight_14 rfl (lv_at hl 0 rfl) ?_
      refine lv_iload_n hx hb dX3_isStraight_15 rfl (lv_at hl 1 rfl) ?_
      refine mf_iconst hx hb dX3_isStraight_16 ?_
      refine mf_isub hx hb dX3_isStraight_17 ?_
      refine vp_callSi (va_Run.run (va_runV (As := [.int (iI (iv - 1))]) (rest := []) ⟨hx, hb, hml, hown, hts⟩ (c_X3_direction l G hm adm u (iv - 1) (_) (i32_mk (by omega) (by omega)) (by assumption) (by assumption) (by first | assumption | omega) (by first | assumption | omega) (by first | assumption | omega)) (cwV 1 hts gX3_isStraight_X3_direction rfl rfl rfl (by decide +kernel) ⟨Nat.le_of_ble_eq_true rfl, Nat.le_of_ble_eq_true rfl⟩) (rdV (wc := MW G hm adm u) hK hP hN [0, 1, 2, 3, 4, 5, 6, 7, 8, 9] rfl (ci := 3) rfl rfl) rfl rfl hl.1 rfl (lv_room (Nat.le_of_ble_eq_true rfl)) dX3_isStraight_18 ⟨(Nat.zero_le _), (Nat.zero_le _)⟩)) (fun q5 hq5 => ?_)
      subst hq5
      have b6 : (-1 : Int) ≤ (r 11 (iv - 1)) ∧ (r 11 (iv - 1)) ≤ 3 := (show rOK rlo rhi r by assumption) 11 (iv - 1)
      refine lv_aload_n hx hb dX3_isStraight_21 rfl (lv_at hl 0 rfl) ?_
      refine lv_iload_n hx hb dX3_isStraight_22 rfl (lv_at hl 1 rfl) ?_
      refine vp_callSi (va_Run.run (va_runV (As := [.int (iI (iv))]) (rest := [.int (iI (r 11 (iv - 1)))]) ⟨hx, hb, hml, hown, hts⟩ (c_X3_direction l G hm adm u (iv) (_) (i32_mk (by omega) (by omega)) (by assumption) (by assumption) (by first | assumption | omega) (by first | assumption | omega) (by first | assumption | omega)) (cwV 1 hts gX3_isStraight_X3_direction rfl rfl rfl (by decide +kernel) ⟨Nat.le_of_ble_eq_true rfl, Nat.le_of_ble_eq_true rfl⟩) (rdV (wc := MW G hm adm u) hK hP hN [0, 1, 2, 3, 4, 5, 6, 7, 8, 9] rfl (ci := 3) rfl rfl) rfl rfl hl.1 rfl (lv_room (Nat.le_of_ble_eq_true rfl)) dX3_isStraight_23 ⟨(Nat.zero_le _), (Nat.zero_le _)⟩)) (fun q7 hq7 => ?_)
      subst hq7
      have b8 : (-1 : Int) ≤ (r 11 iv) ∧ (r 11 iv) ≤ 3 := (show rOK rlo rhi r by assumption) 11 iv
      refine mf_icmp_ne (tgt := 33) hx hb dX3_isStraight_26 (by decide) (i32_mk (by omega) (by omega)) (i32_mk (by omega) (by omega)) (fun c9 => ?_) (fun c9 => ?_)
      · skip
        refine mf_iconst hx hb dX3_isStraight_33 ?_
        exact W.zret hx hb hr (mf_nar01 (by omega)) (fun t ht hW => ⟨_, rfl, (congrArg iI (bP_f (by unfold strP; omega)).symm), ht⟩) t_nil dX3_isStraight_34
      · skip
        refine mf_iconst hx hb dX3_isStraight_29 ?_
        refine lv_goto (tgt := 34) hx hb dX3_isStraight_30 (by decide) ?_
        exact W.zret hx hb hr (mf_nar01 (by omega)) (fun t ht hW => ⟨_, rfl, (congrArg iI (bP_t (by unfold strP; omega)).symm), ht⟩) t_nil dX3_isStraight_34
