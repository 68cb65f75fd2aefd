/-! 61.simread: what the Sim reads -/
set_option maxHeartbeats 4000000 in
set_option maxRecDepth 100000 in
theorem c_X3_to (l : Launch) (cv : Int) (dv : Int) (hcv : i32 cv) (hdv : i32 dv) (hc9 : 0 ≤ cv ∧ cv < 384) (hd9 : 0 ≤ dv ∧ dv ≤ 3) : Met l yX3_to wsX3_to ({ frames := 0, cells := 0, slots := 0, locals := 0 }) (va_Pc [.int (iI (cv)), .int (iI (dv))] (fun _ => True)) (vp_Si (fun q9 => q9 = iI (nbr cv dv))) 0 0 (fun _ => False) := by
  refine Met.ofW (cc := cX3_to) (maxL := 3) (ret := (some .int)) (by decide) rfl ?_
  intro p e s m args below meth c s₁ B hml hv
  obtain ⟨rfl, -⟩ := hv
  have hx := B.exec
  have hb := B.bytes
  have hr := B.returns
  have hts := atoms_spec (ws := wsX3_to) B.pre
  have hown : s.vm.findClass RX3 = some m.cls := findClass_of_methodNamed B.named
  have hlocks := B.notSynchronized
  have hl := lv_entry ([.int (iI (cv)), .int (iI (dv))]) (n := 3) (Nat.le_of_ble_eq_true rfl)
  rw [lg_entry_eq]
  generalize (lg_sl ([.int (iI (cv)), .int (iI (dv))]) ++ List.replicate (3 - (lg_sl ([.int (iI (cv)), .int (iI (dv))])).length) Slot.unset).toArray = ls at hl ⊢
  have hl : lv_has ls 3 [(0, .int (iI (cv))), (1, .int (iI (dv)))] := hl
  have hcv1 := hcv.1
  have hcv2 := hcv.2
  have hdv1 := hdv.1
  have hdv2 := hdv.2
  refine lv_iload_n hx hb dX3_to_0 rfl (lv_at hl 0 rfl) ?_
  refine mf_bipush hx hb dX3_to_1 rfl ?_
  refine mf_irem hx hb dX3_to_3 (i32_mk (by omega) (by omega)) (by omega) (i32_mk (by decide) (by decide)) (by omega) ?_
  refine lv_istore_n (lv' := [(2, .int (iI (cv % 24))), (0, .int (iI (cv))), (1, .int (iI (dv)))]) hx hb dX3_to_4 rfl hl (by decide) rfl (fun ls hl => ?_)
  refine lv_iload_n hx hb dX3_to_5 rfl (lv_at hl 2 rfl) ?_
  have w1 : i32 (dv) := (i32_mk (by omega) (by omega))
  rcases (show  (dv) = 0 ∨  (dv) = 1 ∨  (dv) = 2 ∨  ((dv) < 0 ∨ 2 < (dv)) by omega) with c2 | c2 | c2 | c2
  · skip
    refine lv_tableIn (off := 26) (tgt := 32) hx hb dX3_to_6 (by rw [iI_toInt w1]; omega) (by rw [iI_toInt w1]; omega) (by rw [iI_toInt w1, c2]; rfl) (by decide) ?_
    refine lv_iload_n hx hb dX3_to_32 rfl (lv_at hl 1 rfl) ?_
    refine mf_bipush hx hb dX3_to_33 rfl ?_
    refine mf_icmp_ge (tgt := 42) hx hb dX3_to_35 (by decide) (i32_mk (by omega) (by omega)) (i32_mk (by decide) (by decide)) (fun c3 => ?_) (fun c3 => ?_)
    · skip
      refine lv_iload_n hx hb dX3_to_42 rfl (lv_at hl 1 rfl) ?_
      refine mf_bipush hx hb dX3_to_43 rfl ?_
      refine mf_isub hx hb dX3_to_45 ?_
      have n0 := nbr0 hc9.1 hc9.2
      have n1 := nbr1 hc9.1 hc9.2
      have n2 := nbr2 hc9.1 hc9.2
      have n3 := nbr3 hc9.1 hc9.2
      exact W.iret hx hb hr (fun t ht hW => ⟨_, rfl, (congrArg iI (by rcases d4 hd9.1 (show dv < 4 by omega) with z9 | z9 | z9 | z9 <;> rw [z9] <;> omega)), ht⟩) t_nil dX3_to_46
    · skip
      refine mf_iconst hx hb dX3_to_38 ?_
      refine lv_goto (tgt := 46) hx hb dX3_to_39 (by decide) ?_
      have n0 := nbr0 hc9.1 hc9.2
      have n1 := nbr1 hc9.1 hc9.2
      have n2 := nbr2 hc9.1 hc9.2
      have n3 := nbr3 hc9.1 hc9.2
      exact W.iret hx hb hr (fun t ht hW => ⟨_, rfl, (congrArg iI (by rcases d4 hd9.1 (show dv < 4 by omega) with z9 | z9 | z9 | z9 <;> rw [z9] <;> omega)), ht⟩) t_nil dX3_to_46
  · skip
    refine lv_tableIn (off := 41) (tgt := 47) hx hb dX3_to_6 (by rw [iI_toInt w1]; omega) (by rw [iI_toInt w1]; omega) (by rw [iI_toInt w1, c2]; rfl) (by decide) ?_
    refine lv_iload_n hx hb dX3_to_47 rfl (lv_at hl 0 rfl) ?_
    refine mf_bipush hx hb dX3_to_48 rfl ?_
    refine mf_icmp_ne (tgt := 57) hx hb dX3_to_50 (by decide) (i32_mk (by omega) (by omega)) (i32_mk (by decide) (by decide)) (fun c4 => ?_) (fun c4 => ?_)
    · skip
      refine lv_iload_n hx hb dX3_to_57 rfl (lv_at hl 1 rfl) ?_
      refine mf_iconst hx hb dX3_to_58 ?_
      refine mf_iadd hx hb dX3_to_59 ?_
      have n0 := nbr0 hc9.1 hc9.2
      have n1 := nbr1 hc9.1 hc9.2
      have n2 := nbr2 hc9.1 hc9.2
      have n3 := nbr3 hc9.1 hc9.2
      exact W.iret hx hb hr (fun t ht hW => ⟨_, rfl, (congrArg iI (by rcases d4 hd9.1 (show dv < 4 by omega) with z9 | z9 | z9 | z9 <;> rw [z9] <;> omega)), ht⟩) t_nil dX3_to_60
    · skip
      refine mf_iconst hx hb dX3_to_53 ?_
      refine lv_goto (tgt := 60) hx hb dX3_to_54 (by decide) ?_
      have n0 := nbr0 hc9.1 hc9.2
      have n1 := nbr1 hc9.1 hc9.2
      have n2 := nbr2 hc9.1 hc9.2
      have n3 := nbr3 hc9.1 hc9.2
      exact W.iret hx hb hr (fun t ht hW => ⟨_, rfl, (congrArg iI (by rcases d4 hd9.1 (show dv < 4 by omega) with z9 | z9 | z9 | z9 <;> rw [z9] <;> omega)), ht⟩) t_nil dX3_to_60
  · skip
    refine lv_tableIn (off := 55) (tgt := 61) hx hb dX3_to_6 (by rw [iI_toInt w1]; omega) (by rw [iI_toInt w1]; omega) (by rw [iI_toInt w1, c2]; rfl) (by decide) ?_
    refine lv_iload_n hx hb dX3_to_61 rfl (lv_at hl 1 rfl) ?_
    refine mf_sipush hx hb dX3_to_62 rfl ?_
    refine mf_icmp_lt (tgt := 72) hx hb dX3_to_65 (by decide) (i32_mk (by omega) (by omega)) (i32_mk (by decide) (by decide)) (fun c5 => ?_) (fun c5 => ?_)
    · skip
      refine lv_iload_n hx hb dX3_to_72 rfl (lv_at hl 1 rfl) ?_
      refine mf_bipush hx hb dX3_to_73 rfl ?_
      refine mf_iadd hx hb dX3_to_75 ?_
      have n0 := nbr0 hc9.1 hc9.2
      have n1 := nbr1 hc9.1 hc9.2
      have n2 := nbr2 hc9.1 hc9.2
      have n3 := nbr3 hc9.1 hc9.2
      exact W.iret hx hb hr (fun t ht hW => ⟨_, rfl, (congrArg iI (by rcases d4 hd9.1 (show dv < 4 by omega) with z9 | z9 | z9 | z9 <;> rw [z9] <;> omega)), ht⟩) t_nil dX3_to_76
    · skip
      refine mf_iconst hx hb dX3_to_68 ?_
      refine lv_goto (tgt := 76) hx hb dX3_to_69 (by decide) ?_
      have n0 := nbr0 hc9.1 hc9.2
      have n1 := nbr1 hc9.1 hc9.2
      have n2 := nbr2 hc9.1 hc9.2
      have n3 := nbr3 hc9.1 hc9.2
      exact W.iret hx hb hr (fun t ht hW => ⟨_, rfl, (congrArg iI (by rcases d4 hd9.1 (show dv < 4 by omega) with z9 | z9 | z9 | z9 <;> rw [z9] <;> omega)), ht⟩) t_nil dX3_to_76
  · skip
    refine lv_tableOut (tgt := 77) hx hb dX3_to_6 (by rw [iI_toInt w1]; omega) (by decide) ?_
    refine lv_iload_n hx hb dX3_to_77 rfl (lv_at hl 0 rfl) ?_
    refine mf_if_ne (tgt := 85) hx hb dX3_to_78 (by decide) (i32_mk (by omega) (by omega)) (fun c6 => ?_) (fun c6 => ?_)
    · skip
      refine lv_iload_n hx hb dX3_to_85 rfl (lv_at hl 1 rfl) ?_
      refine mf_iconst hx hb dX3_to_86 ?_
      refine mf_isub hx hb dX3_to_87 ?_
      have n0 := nbr0 hc9.1 hc9.2
      have n1 := nbr1 hc9.1 hc9.2
      have n2 := nbr2 hc9.1 hc9.2
      have n3 := nbr3 hc9.1 hc9.2
      exact W.iret hx hb hr (fun t ht hW => ⟨_, rfl, (congrArg iI (by rcases d4 hd9.1 (show dv < 4 by omega) with z9 | z9 | z9 | z9 <;> rw [z9] <;> omega)), ht⟩) t_nil dX3_to_88
    · skip
      refine mf_iconst hx hb dX3_to_81 ?_
      refine lv_goto (tgt := 88) hx hb dX3_to_82 (by decide) ?_
      have n0 := nbr0 hc9.1 hc9.2
      have n1 := nbr1 hc9.1 hc9.2
      have n2 := nbr2 hc9.1 hc9.2
      have n3 := nbr3 hc9.1 hc9.2
      exact W.iret hx hb hr (fun t ht hW => ⟨_, rfl, (congrArg iI (by rcases d4 hd9.1 (show dv < 4 by omega) with z9 | z9 | z9 | z9 <;> rw [z9] <;> omega)), ht⟩) t_nil dX3_to_88
set_option maxHeartbeats 4000000 in
set_option maxRecDepth 100000 in
theorem c_X3_direction (l : Launch) (G : mf_G) (hm : Nat) (adm : Nat → Nat) (ca nn : Nat) (u : mf_V) (iv : Int) (r : mf_V) (hiv : i32 iv) (oku : rOK slo shi u) (ok : rOK rlo rhi r) (hI : RInv r) (hrel : relS r nn u) (hi9 : 0 ≤ iv ∧ iv < r 7 0 - 1) : Met l yX3_direction wsX3_direction ({ frames := 1, cells := 0, slots := 0, locals := 22 }) (va_Pc [.ref hm, .int (iI (iv))] (RdP G (SW G hm adm ca nn u))) (vp_Si (fun q9 => q9 = iI (r 11 iv))) 0 0 (fun _ => False) := by
  refine Met.ofW (cc := cX3_direction) (maxL := 3) (ret := (some .int)) (by decide) rfl ?_
  intro p e s m args below meth c s₁ B hml hv
  obtain ⟨rfl, hP, hK, hN⟩ := hv
  have hx := B.exec
  have hb := B.bytes
  have hr := B.returns
  have hts := atoms_spec (ws := wsX3_direction) B.pre
  have hown : s.vm.findClass RX3 = some m.cls := findClass_of_methodNamed B.named
  have hlocks := B.notSynchronized
  have hinX3 : ∀ w ∈ u_ws RX3 TX3 9, w ∈ wsX3_direction := fun w h => List.mem_cons_of_mem _ (List.mem_append_right _ h)
  have hl := lv_entry ([.ref hm, .int (iI (iv))]) (n := 3) (Nat.le_of_ble_eq_true rfl)
  rw [lg_entry_eq]
  generalize (lg_sl ([.ref hm, .int (iI (iv))]) ++ List.replicate (3 - (lg_sl ([.ref hm, .int (iI (iv))])).length) Slot.unset).toArray = ls at hl ⊢
  have hl : lv_has ls 3 [(0, .ref hm), (1, .int (iI (iv)))] := hl
  have hiv1 := hiv.1
  have hiv2 := hiv.2
  have okLr : (0 : Int) ≤ r 7 0 ∧ r 7 0 ≤ 150 := ok 7 0
  have hN9 : (nn : Int) = r 7 0 := rel9 hrel
  have hdw := dirW hI hi9.1 hi9.2
  refine mf_iconst hx hb dX3_direction_0 ?_
  refine lv_istore_n (lv' := [(2, .int (iI (0))), (0, .ref hm), (1, .int (iI (iv)))]) hx hb dX3_direction_1 rfl hl (by decide) rfl (fun ls hl => ?_)
  have lp2 : ∀ (n : Nat) (kv : Int), (4 - kv).toNat < n → (0 ≤ kv ∧ kv ≤ 4) → (∀ d, 0 ≤ d → d < kv → ¬ nbr (r 6 iv) d = r 6 (iv + 1)) → ∀ (ls : Array Slot), lv_has ls 3 [(0, .ref hm), (1, .int (iI (iv))), (2, .int (iI (kv)))] → W p l e (headSpec wsX3_direction ({ frames := 1, cells := 0, slots := 0, locals := 22 })).room s m ([.ref hm, .int (iI (iv))] : List Value).toArray below meth c s.heap [] 0 0 (MQ below (vp_Si (fun q9 => q9 = iI (r 11 iv))) ([.ref hm, .int (iI (iv))] : List Value).toArray s 0 0 (fun _ => False)) (F0 m 2 ls []) := by
    intro n
    induction n with
    | zero => intro kv hn; exact absurd hn (Nat.not_lt_zero _)
    | succ n ih2 =>
      intro kv hn hk hq ls hl
      refine lv_iload_n hx hb dX3_direction_2 rfl (lv_at hl 2 rfl) ?_
      refine mf_iconst hx hb dX3_direction_3 ?_
      refine mf_icmp_ge (tgt := 36) hx hb dX3_direction_4 (by decide) (i32_mk (by omega) (by omega)) (i32_mk (by decide) (by decide)) (fun c1 => ?_) (fun c1 => ?_)
      · skip
        refine mf_iconst hx hb dX3_direction_36 ?_
        exact W.iret hx hb hr (fun t ht hW => ⟨_, rfl, (congrArg iI (by exact absurd hdw.2.2.1 (hq _ hdw.1 (by omega)))), ht⟩) t_nil dX3_direction_37
      · skip
        refine lv_aload_n hx hb dX3_direction_7 rfl (lv_at hl 0 rfl) ?_
        refine va_get (D := G.1) (ci := 3) (v := .ref ca) (C := RX3) (T := TX3) (N := 9) hx hb hts hinX3 hown hK hP 0 rfl rfl 2 (by decide) (hts (.fieldLink RX3 29 "MeanderFarmLaw$Sim" "course" "[I") (List.mem_of_getElem? (i := 1) rfl)) (fun _ h9 => h9) rfl dX3_direction_8 ?_
        refine lv_iload_n hx hb dX3_direction_11 rfl (lv_at hl 1 rfl) ?_
        refine mf_iald (n := nn) (f := u 2) hx hb hK hP 1 0 rfl rfl (z := iv) (by omega) (by omega) (by first | decide | omega) dX3_direction_12 ?_
        refine mf_top (u 2 iv) (r 6 iv) (by rw [(rel2 hrel (z := iv) (by omega) (by omega))]) ?_
        have b2 : (0 : Int) ≤ r 6 iv ∧ r 6 iv ≤ 383 := ok 6 (iv)
        refine lv_iload_n hx hb dX3_direction_13 rfl (lv_at hl 2 rfl) ?_
        refine vp_callSi (va_Run.run (va_runS (As := [.int (iI (r 6 iv)), .int (iI (kv))]) (rest := []) ⟨hx, hb, hml, hown, hts⟩ (c_X3_to l (r 6 iv) (kv) (i32_mk (by omega) (by omega)) (i32_mk (by omega) (by omega)) (by first | assumption | omega) (by first | assumption | omega)) (va_cwS 2 hts gX3_direction_X3_to rfl rfl rfl (by decide +kernel) ⟨Nat.le_of_ble_eq_true rfl, Nat.le_of_ble_eq_true rfl⟩) pureS rfl rfl hl.1 rfl (lv_room (Nat.le_of_ble_eq_true rfl)) dX3_direction_14 ⟨(Nat.zero_le _), (Nat.zero_le _)⟩)) (fun q3 hq3 => ?_)
        subst hq3
        refine mf_nm (fun y4 ey4 => ?_)
        have b5 : -1 ≤ y4 ∧ y4 ≤ 383 := by rw [ey4]; exact nbr_b (r 6 iv) kv
        refine lv_aload_n hx hb dX3_direction_17 rfl (lv_at hl 0 rfl) ?_
        refine va_get (D := G.1) (ci := 3) (v := .ref ca) (C := RX3) (T := TX3) (N := 9) hx hb hts hinX3 hown hK hP 0 rfl rfl 2 (by decide) (hts (.fieldLink RX3 29 "MeanderFarmLaw$Sim" "course" "[I") (List.mem_of_getElem? (i := 1) rfl)) (fun _ h9 => h9) rfl dX3_direction_18 ?_
        refine lv_iload_n hx hb dX3_direction_21 rfl (lv_at hl 1 rfl) ?_
        refine mf_iconst hx hb dX3_direction_22 ?_
        refine mf_iadd hx hb dX3_direction_23 ?_
        refine mf_iald (n := nn) (f := u 2) hx hb hK hP 1 0 rfl rfl (z := iv + 1) (by omega) (by omega) (by first | decide | omega) dX3_direction_24 ?_
        refine mf_top (u 2 (iv + 1)) (r 6 (iv + 1)) (by rw [(rel2 hrel (z := iv + 1) (by omega) (by omega))]) ?_
        have b6 : (0 : Int) ≤ r 6 (iv + 1) ∧ r 6 (iv + 1) ≤ 383 := ok 6 (iv + 1)
        refine mf_icmp_ne (tgt := 30) hx hb dX3_direction_25 (by decide) (i32_mk (by omega) (by omega)) (i32_mk (by omega) (by omega)) (fun c7 => ?_) (fun c7 => ?_)
        · skip
          refine lv_iinc (v := iI (kv + 1)) (lv' := [(2, .int (iI (kv + 1))), (0, .ref hm), (1, .int (iI (iv)))]) hx hb dX3_direction_30 hl (k := 2) rfl (iI_add _ _).symm (by decide) rfl (fun ls hl => ?_)
          refine lv_goto (tgt := 2) hx hb dX3_direction_33 (by decide) ?_
          exact ih2 (kv + 1) (by omega) (by first | assumption | omega) (by intro d h0 h1; rcases (show d < kv ∨ d = kv by omega) with z | z; (exact hq d h0 z); (rw [z, ← ey4]; assumption))  ls (lv_sub hl [1, 2, 0] rfl)
        · skip
          refine lv_iload_n hx hb dX3_direction_28 rfl (lv_at hl 2 rfl) ?_
          exact W.iret hx hb hr (fun t ht hW => ⟨_, rfl, (congrArg iI (by exact (dirU hI hi9.1 hi9.2 (by rw [← ey4]; assumption)).symm)), ht⟩) t_nil dX3_direction_29
  exact lp2 (_ + 1) 0 (Nat.lt_succ_self _) (by first | assumption | omega) (by intro d h0 h1; omega)  ls (lv_sub hl [1, 2, 0] rfl)
set_option maxHeartbeats 4000000 in
set_option maxRecDepth 100000 in
theorem c_X3_at (l : Launch) (G : mf_G) (hm : Nat) (adm : Nat → Nat) (ca nn : Nat) (u : mf_V) (cv : Int) (r : mf_V) (hcv : i32 cv) (oku : rOK slo shi u) (ok : rOK rlo rhi r) (hI : RInv r) (hrel : relS r nn u) (hc9 : 0 ≤ cv ∧ cv < 384) : Met l yX3_at wsX3_at ({ frames := 0, cells := 0, slots := 0, locals := 0 }) (va_Pc [.ref hm, .int (iI (cv))] (RdP G (SW G hm adm ca nn u))) (vp_Si (fun q9 => q9 = iI (r 10 cv))) 0 0 (fun _ => False) := by
  refine Met.ofW (cc := cX3_at) (maxL := 2) (ret := (some .int)) (by decide) rfl ?_
  intro p e s m args below meth c s₁ B hml hv
  obtain ⟨rfl, hP, hK, hN⟩ := hv
  have hx := B.exec
  have hb := B.bytes
  have hr := B.returns
  have hts := atoms_spec (ws := wsX3_at) B.pre
  have hown : s.vm.findClass RX3 = some m.cls := findClass_of_methodNamed B.named
  have hlocks := B.notSynchronized
  have hinX3 : ∀ w ∈ u_ws RX3 TX3 9, w ∈ wsX3_at := fun w h => List.mem_cons_of_mem _ (List.mem_append_right _ h)
  have hl := lv_entry ([.ref hm, .int (iI (cv))]) (n := 2) (Nat.le_of_ble_eq_true rfl)
  rw [lg_entry_eq]
  generalize (lg_sl ([.ref hm, .int (iI (cv))]) ++ List.replicate (2 - (lg_sl ([.ref hm, .int (iI (cv))])).length) Slot.unset).toArray = ls at hl ⊢
  have hl : lv_has ls 2 [(0, .ref hm), (1, .int (iI (cv)))] := hl
  have hcv1 := hcv.1
  have hcv2 := hcv.2
  have okLr : (0 : Int) ≤ r 7 0 ∧ r 7 0 ≤ 150 := ok 7 0
  have hN9 : (nn : Int) = r 7 0 := rel9 hrel
  refine lv_aload_n hx hb dX3_at_0 rfl (lv_at hl 0 rfl) ?_
  refine va_get (D := G.1) (ci := 3) (v := .ref (adm 8)) (C := RX3) (T := TX3) (N := 9) hx hb hts hinX3 hown hK hP 0 rfl rfl 8 (by decide) (hts (.fieldLink RX3 26 "MeanderFarmLaw$Sim" "where" "[I") (List.mem_of_getElem? (i := 1) rfl)) (fun _ h9 => h9) rfl dX3_at_1 ?_
  refine lv_iload_n hx hb dX3_at_4 rfl (lv_at hl 1 rfl) ?_
  refine mf_iald (n := 384) (f := u 8) hx hb hK hP 7 0 rfl rfl (z := cv) (by omega) (by omega) (by first | decide | omega) dX3_at_5 ?_
  refine mf_top (u 8 cv) (r 10 cv + 1) (by rw [(rel8 hrel (z := cv) (by omega) (by omega))]) ?_
  have b1 : (-1 : Int) ≤ r 10 cv ∧ r 10 cv ≤ 149 := ok 10 (cv)
  refine mf_iconst hx hb dX3_at_6 ?_
  refine mf_isub hx hb dX3_at_7 ?_
  exact W.iret hx hb hr (fun t ht hW => ⟨_, rfl, (congrArg iI (by omega)), ht⟩) t_nil dX3_at_8
set_option maxHeartbeats 4000000 in
set_option maxRecDepth 100000 in
theorem c_X3_isStraight (l : Launch) (G : mf_G) (hm : Nat) (adm : Nat → Nat) (ca nn : Nat) (u : mf_V) (iv : Int) (r : mf_V) (hiv : i32 iv) (oku : rOK slo shi u) (ok : rOK rlo rhi r) (hI : RInv r) (hrel : relS r nn u) (hi9 : -1 ≤ iv ∧ iv ≤ 1000) : Met l yX3_isStraight wsX3_isStraight ({ frames := 2, cells := 0, slots := 0, locals := 44 }) (va_Pc [.ref hm, .int (iI (iv))] (RdP G (SW G hm adm ca nn u))) (vp_Si (fun q9 => q9 = iI (bP (strP r iv)))) 0 0 (fun _ => False) := by
  refine Met.ofW (cc := cX3_isStraight) (maxL := 2) (ret := (some .boolean)) (by decide) rfl ?_
  intro p e s m args below meth c s₁ B hml hv
  obtain ⟨rfl, hP, hK, hN⟩ := hv
  have hx := B.exec
  have hb := B.bytes
  have hr := B.returns
  have hts := atoms_spec (ws := wsX3_isStraight) B.pre
  have hown : s.vm.findClass RX3 = some m.cls := findClass_of_methodNamed B.named
  have hlocks := B.notSynchronized
  have hinX3 : ∀ w ∈ u_ws RX3 TX3 9, w ∈ wsX3_isStraight := fun w h => List.mem_cons_of_mem _ (List.mem_append_right _ h)
  have hl := lv_entry ([.ref hm, .int (iI (iv))]) (n := 2) (Nat.le_of_ble_eq_true rfl)
  rw [lg_entry_eq]
  generalize (lg_sl ([.ref hm, .int (iI (iv))]) ++ List.replicate (2 - (lg_sl ([.ref hm, .int (iI (iv))])).length) Slot.unset).toArray = ls at hl ⊢
  have hl : lv_has ls 2 [(0, .ref hm), (1, .int (iI (iv)))] := hl
  have hiv1 := hiv.1
  have hiv2 := hiv.2
  have okLr : (0 : Int) ≤ r 7 0 ∧ r 7 0 ≤ 150 := ok 7 0
  have hN9 : (nn : Int) = r 7 0 := rel9 hrel
  refine lv_iload_n hx hb dX3_isStraight_0 rfl (lv_at hl 1 rfl) ?_
  refine mf_if_le (tgt := 34) hx hb dX3_isStraight_1 (by decide) (i32_mk (by omega) (by omega)) (fun c1 => ?_) (fun c1 => ?_)
  · skip
    refine mf_iconst hx hb dX3_isStraight_34 ?_
    exact W.zret hx hb hr (mf_nar01 (by omega)) (fun t ht hW => ⟨_, rfl, (congrArg iI (bP_f (by unfold strP; omega)).symm), ht⟩) t_nil dX3_isStraight_35
  · skip
    refine lv_iload_n hx hb dX3_isStraight_4 rfl (lv_at hl 1 rfl) ?_
    refine mf_iconst hx hb dX3_isStraight_5 ?_
    refine mf_iadd hx hb dX3_isStraight_6 ?_
    refine lv_aload_n hx hb dX3_isStraight_7 rfl (lv_at hl 0 rfl) ?_
    refine va_get (D := G.1) (ci := 3) (v := .ref ca) (C := RX3) (T := TX3) (N := 9) hx hb hts hinX3 hown hK hP 0 rfl rfl 2 (by decide) (hts (.fieldLink RX3 29 "MeanderFarmLaw$Sim" "course" "[I") (List.mem_of_getElem? (i := 1) rfl)) (fun _ h9 => h9) rfl dX3_isStraight_8 ?_
    refine va_alen hx hb hK hP 1 0 rfl rfl (v := iI ((nn : Nat) : Int)) (nI_iI _) dX3_isStraight_11 ?_
    refine mf_top (((nn : Nat) : Int)) (r 7 0) (rel9 hrel) ?_
    refine mf_icmp_ge (tgt := 34) hx hb dX3_isStraight_12 (by decide) (i32_mk (by omega) (by omega)) (i32_mk (by omega) (by omega)) (fun c2 => ?_) (fun c2 => ?_)
    · skip
      refine mf_iconst hx hb dX3_isStraight_34 ?_
      exact W.zret hx hb hr (mf_nar01 (by omega)) (fun t ht hW => ⟨_, rfl, (congrArg iI (bP_f (by unfold strP; omega)).symm), ht⟩) t_nil dX3_isStraight_35
    · skip
      refine lv_aload_n hx hb dX3_isStraight_15 rfl (lv_at hl 0 rfl) ?_
      refine lv_iload_n hx hb dX3_isStraight_16 rfl (lv_at hl 1 rfl) ?_
      refine vp_callSi (va_Run.run (va_runV (As := [.int (iI (iv))]) (rest := []) ⟨hx, hb, hml, hown, hts⟩ (c_X3_direction l G hm adm ca nn u (iv) (_) (i32_mk (by omega) (by omega)) (by assumption) (by assumption) (by first | assumption | omega) (by first | assumption | omega) (by first | assumption | omega)) (cwV 1 hts gX3_isStraight_X3_direction rfl rfl rfl (by decide +kernel) ⟨Nat.le_of_ble_eq_true rfl, Nat.le_of_ble_eq_true rfl⟩) (rdV (wc := SW G hm adm ca nn u) hK hP hN [0, 1, 2, 3, 4, 5, 6, 7] rfl (ci := 3) rfl rfl) rfl rfl hl.1 rfl (lv_room (Nat.le_of_ble_eq_true rfl)) dX3_isStraight_17 ⟨(Nat.zero_le _), (Nat.zero_le _)⟩)) (fun q3 hq3 => ?_)
      subst hq3
      have b4 : (-1 : Int) ≤ (r 11 iv) ∧ (r 11 iv) ≤ 3 := (show rOK rlo rhi r by assumption) 11 iv
      refine lv_aload_n hx hb dX3_isStraight_20 rfl (lv_at hl 0 rfl) ?_
      refine lv_iload_n hx hb dX3_isStraight_21 rfl (lv_at hl 1 rfl) ?_
      refine mf_iconst hx hb dX3_isStraight_22 ?_
      refine mf_isub hx hb dX3_isStraight_23 ?_
      refine vp_callSi (va_Run.run (va_runV (As := [.int (iI (iv - 1))]) (rest := [.int (iI (r 11 iv))]) ⟨hx, hb, hml, hown, hts⟩ (c_X3_direction l G hm adm ca nn u (iv - 1) (_) (i32_mk (by omega) (by omega)) (by assumption) (by assumption) (by first | assumption | omega) (by first | assumption | omega) (by first | assumption | omega)) (cwV 1 hts gX3_isStraight_X3_direction rfl rfl rfl (by decide +kernel) ⟨Nat.le_of_ble_eq_true rfl, Nat.le_of_ble_eq_true rfl⟩) (rdV (wc := SW G hm adm ca nn u) hK hP hN [0, 1, 2, 3, 4, 5, 6, 7] rfl (ci := 3) rfl rfl) rfl rfl hl.1 rfl (lv_room (Nat.le_of_ble_eq_true rfl)) dX3_isStraight_24 ⟨(Nat.zero_le _), (Nat.zero_le _)⟩)) (fun q5 hq5 => ?_)
      subst hq5
      have b6 : (-1 : Int) ≤ (r 11 (iv - 1)) ∧ (r 11 (iv - 1)) ≤ 3 := (show rOK rlo rhi r by assumption) 11 (iv - 1)
      refine mf_icmp_ne (tgt := 34) hx hb dX3_isStraight_27 (by decide) (i32_mk (by omega) (by omega)) (i32_mk (by omega) (by omega)) (fun c7 => ?_) (fun c7 => ?_)
      · skip
        refine mf_iconst hx hb dX3_isStraight_34 ?_
        exact W.zret hx hb hr (mf_nar01 (by omega)) (fun t ht hW => ⟨_, rfl, (congrArg iI (bP_f (by unfold strP; omega)).symm), ht⟩) t_nil dX3_isStraight_35
      · skip
        refine mf_iconst hx hb dX3_isStraight_30 ?_
        refine lv_goto (tgt := 35) hx hb dX3_isStraight_31 (by decide) ?_
        exact W.zret hx hb hr (mf_nar01 (by omega)) (fun t ht hW => ⟨_, rfl, (congrArg iI (bP_t (by unfold strP; omega)).symm), ht⟩) t_nil dX3_isStraight_35
set_option maxHeartbeats 4000000 in
set_option maxRecDepth 100000 in
theorem c_X3_side (l : Launch) (G : mf_G) (hm : Nat) (adm : Nat → Nat) (ca nn : Nat) (u : mf_V) (iv : Int) (r : mf_V) (hiv : i32 iv) (oku : rOK slo shi u) (ok : rOK rlo rhi r) (hI : RInv r) (hrel : relS r nn u) (hi9 : 0 ≤ iv ∧ iv < r 7 0) : Met l yX3_side wsX3_side ({ frames := 3, cells := 0, slots := 0, locals := 65 }) (va_Pc [.ref hm, .int (iI (iv))] (RdP G (SW G hm adm ca nn u))) (vp_Si (fun q9 => q9 = iI (r 12 iv))) 0 0 (fun _ => False) := by
  refine Met.ofW (cc := cX3_side) (maxL := 3) (ret := (some .int)) (by decide) rfl ?_
  intro p e s m args below meth c s₁ B hml hv
  obtain ⟨rfl, hP, hK, hN⟩ := hv
  have hx := B.exec
  have hb := B.bytes
  have hr := B.returns
  have hts := atoms_spec (ws := wsX3_side) B.pre
  have hown : s.vm.findClass RX3 = some m.cls := findClass_of_methodNamed B.named
  have hlocks := B.notSynchronized
  have hl := lv_entry ([.ref hm, .int (iI (iv))]) (n := 3) (Nat.le_of_ble_eq_true rfl)
  rw [lg_entry_eq]
  generalize (lg_sl ([.ref hm, .int (iI (iv))]) ++ List.replicate (3 - (lg_sl ([.ref hm, .int (iI (iv))])).length) Slot.unset).toArray = ls at hl ⊢
  have hl : lv_has ls 3 [(0, .ref hm), (1, .int (iI (iv)))] := hl
  have hiv1 := hiv.1
  have hiv2 := hiv.2
  have okLr : (0 : Int) ≤ r 7 0 ∧ r 7 0 ≤ 150 := ok 7 0
  have hN9 : (nn : Int) = r 7 0 := rel9 hrel
  have hT := (hI.2.2.2 iv hi9.1 hi9.2).1
  refine lv_aload_n hx hb dX3_side_0 rfl (lv_at hl 0 rfl) ?_
  refine lv_iload_n hx hb dX3_side_1 rfl (lv_at hl 1 rfl) ?_
  refine vp_callSi (va_Run.run (va_runV (As := [.int (iI (iv))]) (rest := []) ⟨hx, hb, hml, hown, hts⟩ (c_X3_isStraight l G hm adm ca nn u (iv) (_) (i32_mk (by omega) (by omega)) (by assumption) (by assumption) (by first | assumption | omega) (by first | assumption | omega) (by first | assumption | omega)) (cwV 1 hts gX3_side_X3_isStraight rfl rfl rfl (by decide +kernel) ⟨Nat.le_of_ble_eq_true rfl, Nat.le_of_ble_eq_true rfl⟩) (rdV (wc := SW G hm adm ca nn u) hK hP hN [0, 1, 2, 3, 4, 5, 6, 7] rfl (ci := 3) rfl rfl) rfl rfl hl.1 rfl (lv_room (Nat.le_of_ble_eq_true rfl)) dX3_side_2 ⟨(Nat.zero_le _), (Nat.zero_le _)⟩)) (fun q1 hq1 => ?_)
  subst hq1
  refine mf_bp_ne (tgt := 10) hx hb dX3_side_5 (by decide) (fun c2 => ?_) (fun c2 => ?_)
  · skip
    have c2' := c2; unfold strP at c2'
    have hsp : strP r iv := by assumption
    have hsp2 := hsp
    unfold strP at hsp2
    refine lv_iload_n hx hb dX3_side_10 rfl (lv_at hl 1 rfl) ?_
    refine mf_iconst hx hb dX3_side_11 ?_
    refine mf_isub hx hb dX3_side_12 ?_
    refine lv_istore_n (lv' := [(2, .int (iI (iv - 1))), (0, .ref hm), (1, .int (iI (iv)))]) hx hb dX3_side_13 rfl hl (by decide) rfl (fun ls hl => ?_)
    have lp14 : ∀ (n : Nat) (jv : Int), jv.toNat < n → (0 ≤ jv ∧ jv < iv) → (∀ q, jv < q → q ≤ iv → r 11 q = r 11 (q - 1)) → ∀ (ls : Array Slot), lv_has ls 3 [(0, .ref hm), (1, .int (iI (iv))), (2, .int (iI (jv)))] → W p l e (headSpec wsX3_side ({ frames := 3, cells := 0, slots := 0, locals := 65 })).room s m ([.ref hm, .int (iI (iv))] : List Value).toArray below meth c s.heap [] 0 0 (MQ below (vp_Si (fun q9 => q9 = iI (r 12 iv))) ([.ref hm, .int (iI (iv))] : List Value).toArray s 0 0 (fun _ => False)) (F0 m 14 ls []) := by
      intro n
      induction n with
      | zero => intro jv hn; exact absurd hn (Nat.not_lt_zero _)
      | succ n ih14 =>
        intro jv hn hj hq ls hl
        refine lv_iload_n hx hb dX3_side_14 rfl (lv_at hl 2 rfl) ?_
        refine mf_if_le (tgt := 39) hx hb dX3_side_15 (by decide) (i32_mk (by omega) (by omega)) (fun c3 => ?_) (fun c3 => ?_)
        · skip
          refine lv_iload_n hx hb dX3_side_39 rfl (lv_at hl 2 rfl) ?_
          refine mf_if_le (tgt := 60) hx hb dX3_side_40 (by decide) (i32_mk (by omega) (by omega)) (fun c4 => ?_) (fun c4 => ?_)
          · skip
            refine mf_iconst hx hb dX3_side_60 ?_
            exact W.iret hx hb hr (fun t ht hW => ⟨_, rfl, (congrArg iI (by first | (exfalso; omega) | exact thrS_uniq (Or.inr (Or.inr ⟨hsp, fun q h0 h1 h2 => hq q (by omega) h1, rfl⟩)) hT)), ht⟩) t_nil dX3_side_61
          · skip
            refine lv_iload_n hx hb dX3_side_43 rfl (lv_at hl 1 rfl) ?_
            refine lv_iload_n hx hb dX3_side_44 rfl (lv_at hl 2 rfl) ?_
            refine mf_isub hx hb dX3_side_45 ?_
            refine mf_iconst hx hb dX3_side_46 ?_
            refine mf_icmp_ge (tgt := 60) hx hb dX3_side_47 (by decide) (i32_mk (by omega) (by omega)) (i32_mk (by decide) (by decide)) (fun c5 => ?_) (fun c5 => ?_)
            · skip
              refine mf_iconst hx hb dX3_side_60 ?_
              exact W.iret hx hb hr (fun t ht hW => ⟨_, rfl, (congrArg iI (by first | (exfalso; omega) | exact thrS_uniq (Or.inr (Or.inr ⟨hsp, fun q h0 h1 h2 => hq q (by omega) h1, rfl⟩)) hT)), ht⟩) t_nil dX3_side_61
            · skip
              refine lv_aload_n hx hb dX3_side_50 rfl (lv_at hl 0 rfl) ?_
              refine lv_iload_n hx hb dX3_side_51 rfl (lv_at hl 2 rfl) ?_
              refine mf_iconst hx hb dX3_side_52 ?_
              refine mf_isub hx hb dX3_side_53 ?_
              refine vp_callSi (va_Run.run (va_runV (As := [.int (iI (jv - 1))]) (rest := []) ⟨hx, hb, hml, hown, hts⟩ (c_X3_direction l G hm adm ca nn u (jv - 1) (_) (i32_mk (by omega) (by omega)) (by assumption) (by assumption) (by first | assumption | omega) (by first | assumption | omega) (by first | assumption | omega)) (cwV 1 hts gX3_side_X3_direction rfl rfl rfl (by decide +kernel) ⟨Nat.le_of_ble_eq_true rfl, Nat.le_of_ble_eq_true rfl⟩) (rdV (wc := SW G hm adm ca nn u) hK hP hN [0, 1, 2, 3, 4, 5, 6, 7] rfl (ci := 3) rfl rfl) rfl rfl hl.1 rfl (lv_room (Nat.le_of_ble_eq_true rfl)) dX3_side_54 ⟨(Nat.zero_le _), (Nat.zero_le _)⟩)) (fun q6 hq6 => ?_)
              subst hq6
              have b7 : (-1 : Int) ≤ (r 11 (jv - 1)) ∧ (r 11 (jv - 1)) ≤ 3 := (show rOK rlo rhi r by assumption) 11 (jv - 1)
              refine lv_goto (tgt := 61) hx hb dX3_side_57 (by decide) ?_
              exact W.iret hx hb hr (fun t ht hW => ⟨_, rfl, (congrArg iI (by first | (exfalso; omega) | exact thrS_uniq (Or.inr (Or.inl ⟨hsp, jv, by omega, by omega, by omega, by assumption, hq, rfl⟩)) hT)), ht⟩) t_nil dX3_side_61
        · skip
          refine lv_aload_n hx hb dX3_side_18 rfl (lv_at hl 0 rfl) ?_
          refine lv_iload_n hx hb dX3_side_19 rfl (lv_at hl 2 rfl) ?_
          refine vp_callSi (va_Run.run (va_runV (As := [.int (iI (jv))]) (rest := []) ⟨hx, hb, hml, hown, hts⟩ (c_X3_direction l G hm adm ca nn u (jv) (_) (i32_mk (by omega) (by omega)) (by assumption) (by assumption) (by first | assumption | omega) (by first | assumption | omega) (by first | assumption | omega)) (cwV 1 hts gX3_side_X3_direction rfl rfl rfl (by decide +kernel) ⟨Nat.le_of_ble_eq_true rfl, Nat.le_of_ble_eq_true rfl⟩) (rdV (wc := SW G hm adm ca nn u) hK hP hN [0, 1, 2, 3, 4, 5, 6, 7] rfl (ci := 3) rfl rfl) rfl rfl hl.1 rfl (lv_room (Nat.le_of_ble_eq_true rfl)) dX3_side_20 ⟨(Nat.zero_le _), (Nat.zero_le _)⟩)) (fun q8 hq8 => ?_)
          subst hq8
          have b9 : (-1 : Int) ≤ (r 11 jv) ∧ (r 11 jv) ≤ 3 := (show rOK rlo rhi r by assumption) 11 jv
          refine lv_aload_n hx hb dX3_side_23 rfl (lv_at hl 0 rfl) ?_
          refine lv_iload_n hx hb dX3_side_24 rfl (lv_at hl 2 rfl) ?_
          refine mf_iconst hx hb dX3_side_25 ?_
          refine mf_isub hx hb dX3_side_26 ?_
          refine vp_callSi (va_Run.run (va_runV (As := [.int (iI (jv - 1))]) (rest := [.int (iI (r 11 jv))]) ⟨hx, hb, hml, hown, hts⟩ (c_X3_direction l G hm adm ca nn u (jv - 1) (_) (i32_mk (by omega) (by omega)) (by assumption) (by assumption) (by first | assumption | omega) (by first | assumption | omega) (by first | assumption | omega)) (cwV 1 hts gX3_side_X3_direction rfl rfl rfl (by decide +kernel) ⟨Nat.le_of_ble_eq_true rfl, Nat.le_of_ble_eq_true rfl⟩) (rdV (wc := SW G hm adm ca nn u) hK hP hN [0, 1, 2, 3, 4, 5, 6, 7] rfl (ci := 3) rfl rfl) rfl rfl hl.1 rfl (lv_room (Nat.le_of_ble_eq_true rfl)) dX3_side_27 ⟨(Nat.zero_le _), (Nat.zero_le _)⟩)) (fun q10 hq10 => ?_)
          subst hq10
          have b11 : (-1 : Int) ≤ (r 11 (jv - 1)) ∧ (r 11 (jv - 1)) ≤ 3 := (show rOK rlo rhi r by assumption) 11 (jv - 1)
          refine mf_icmp_ne (tgt := 39) hx hb dX3_side_30 (by decide) (i32_mk (by omega) (by omega)) (i32_mk (by omega) (by omega)) (fun c12 => ?_) (fun c12 => ?_)
          · skip
            refine lv_iload_n hx hb dX3_side_39 rfl (lv_at hl 2 rfl) ?_
            refine mf_if_le (tgt := 60) hx hb dX3_side_40 (by decide) (i32_mk (by omega) (by omega)) (fun c13 => ?_) (fun c13 => ?_)
            · skip
              refine mf_iconst hx hb dX3_side_60 ?_
              exact W.iret hx hb hr (fun t ht hW => ⟨_, rfl, (congrArg iI (by first | (exfalso; omega) | exact thrS_uniq (Or.inr (Or.inr ⟨hsp, fun q h0 h1 h2 => hq q (by omega) h1, rfl⟩)) hT)), ht⟩) t_nil dX3_side_61
            · skip
              refine lv_iload_n hx hb dX3_side_43 rfl (lv_at hl 1 rfl) ?_
              refine lv_iload_n hx hb dX3_side_44 rfl (lv_at hl 2 rfl) ?_
              refine mf_isub hx hb dX3_side_45 ?_
              refine mf_iconst hx hb dX3_side_46 ?_
              refine mf_icmp_ge (tgt := 60) hx hb dX3_side_47 (by decide) (i32_mk (by omega) (by omega)) (i32_mk (by decide) (by decide)) (fun c14 => ?_) (fun c14 => ?_)
              · skip
                refine mf_iconst hx hb dX3_side_60 ?_
                exact W.iret hx hb hr (fun t ht hW => ⟨_, rfl, (congrArg iI (by first | (exfalso; omega) | exact thrS_uniq (Or.inr (Or.inr ⟨hsp, fun q h0 h1 h2 => hq q (by omega) h1, rfl⟩)) hT)), ht⟩) t_nil dX3_side_61
              · skip
                refine lv_aload_n hx hb dX3_side_50 rfl (lv_at hl 0 rfl) ?_
                refine lv_iload_n hx hb dX3_side_51 rfl (lv_at hl 2 rfl) ?_
                refine mf_iconst hx hb dX3_side_52 ?_
                refine mf_isub hx hb dX3_side_53 ?_
                refine vp_callSi (va_Run.run (va_runV (As := [.int (iI (jv - 1))]) (rest := []) ⟨hx, hb, hml, hown, hts⟩ (c_X3_direction l G hm adm ca nn u (jv - 1) (_) (i32_mk (by omega) (by omega)) (by assumption) (by assumption) (by first | assumption | omega) (by first | assumption | omega) (by first | assumption | omega)) (cwV 1 hts gX3_side_X3_direction rfl rfl rfl (by decide +kernel) ⟨Nat.le_of_ble_eq_true rfl, Nat.le_of_ble_eq_true rfl⟩) (rdV (wc := SW G hm adm ca nn u) hK hP hN [0, 1, 2, 3, 4, 5, 6, 7] rfl (ci := 3) rfl rfl) rfl rfl hl.1 rfl (lv_room (Nat.le_of_ble_eq_true rfl)) dX3_side_54 ⟨(Nat.zero_le _), (Nat.zero_le _)⟩)) (fun q15 hq15 => ?_)
                subst hq15
                have b16 : (-1 : Int) ≤ (r 11 (jv - 1)) ∧ (r 11 (jv - 1)) ≤ 3 := (show rOK rlo rhi r by assumption) 11 (jv - 1)
                refine lv_goto (tgt := 61) hx hb dX3_side_57 (by decide) ?_
                exact W.iret hx hb hr (fun t ht hW => ⟨_, rfl, (congrArg iI (by first | (exfalso; omega) | exact thrS_uniq (Or.inr (Or.inl ⟨hsp, jv, by omega, by omega, by omega, by assumption, hq, rfl⟩)) hT)), ht⟩) t_nil dX3_side_61
          · skip
            refine lv_iinc (v := iI (jv + (-1))) (lv' := [(2, .int (iI (jv + (-1)))), (0, .ref hm), (1, .int (iI (iv)))]) hx hb dX3_side_33 hl (k := 2) rfl (iI_add _ _).symm (by decide) rfl (fun ls hl => ?_)
            refine lv_goto (tgt := 14) hx hb dX3_side_36 (by decide) ?_
            exact ih14 (jv + (-1)) (by omega) (by first | assumption | omega) (by intro q h0 h1; rcases (show jv < q ∨ q = jv by omega) with z | z; (exact hq q z h1); (rw [z]; assumption))  ls (lv_sub hl [1, 2, 0] rfl)
    exact lp14 (_ + 1) (iv - 1) (Nat.lt_succ_self _) (by first | assumption | omega) (by intro q h0 h1; rw [show q = iv by omega]; exact hsp2.2.2.symm)  ls (lv_sub hl [1, 2, 0] rfl)
  · skip
    have c2' := c2; unfold strP at c2'
    refine mf_iconst hx hb dX3_side_8 ?_
    exact W.iret hx hb hr (fun t ht hW => ⟨_, rfl, (congrArg iI (by exact thrS_uniq (Or.inl ⟨(show ¬ strP r iv by assumption), rfl⟩) hT)), ht⟩) t_nil dX3_side_9
set_option maxHeartbeats 4000000 in
set_option maxRecDepth 100000 in
theorem c_X3_can (l : Launch) (G : mf_G) (hm : Nat) (adm : Nat → Nat) (ca nn : Nat) (u : mf_V) (iv : Int) (sv : Int) (r : mf_V) (hiv : i32 iv) (hsv : i32 sv) (oku : rOK slo shi u) (ok : rOK rlo rhi r) (hI : RInv r) (hrel : relS r nn u) (hi9 : 0 ≤ iv ∧ iv < r 7 0) (hs9 : 0 ≤ sv ∧ sv ≤ 3) : Met l yX3_can wsX3_can ({ frames := 3, cells := 0, slots := 0, locals := 65 }) (va_Pc [.ref hm, .int (iI (iv)), .int (iI (sv))] (RdP G (SW G hm adm ca nn u))) (vp_Si (fun q9 => q9 = iI (bP (canB r iv sv)))) 0 0 (fun _ => False) := by
  refine Met.ofW (cc := cX3_can) (maxL := 5) (ret := (some .boolean)) (by decide) rfl ?_
  intro p e s m args below meth c s₁ B hml hv
  obtain ⟨rfl, hP, hK, hN⟩ := hv
  have hx := B.exec
  have hb := B.bytes
  have hr := B.returns
  have hts := atoms_spec (ws := wsX3_can) B.pre
  have hown : s.vm.findClass RX3 = some m.cls := findClass_of_methodNamed B.named
  have hlocks := B.notSynchronized
  have hinX3 : ∀ w ∈ u_ws RX3 TX3 9, w ∈ wsX3_can := fun w h => List.mem_cons_of_mem _ (List.mem_append_right _ h)
  have hl := lv_entry ([.ref hm, .int (iI (iv)), .int (iI (sv))]) (n := 5) (Nat.le_of_ble_eq_true rfl)
  rw [lg_entry_eq]
  generalize (lg_sl ([.ref hm, .int (iI (iv)), .int (iI (sv))]) ++ List.replicate (5 - (lg_sl ([.ref hm, .int (iI (iv)), .int (iI (sv))])).length) Slot.unset).toArray = ls at hl ⊢
  have hl : lv_has ls 5 [(0, .ref hm), (1, .int (iI (iv))), (2, .int (iI (sv)))] := hl
  have hiv1 := hiv.1
  have hiv2 := hiv.2
  have hsv1 := hsv.1
  have hsv2 := hsv.2
  have okLr : (0 : Int) ≤ r 7 0 ∧ r 7 0 ≤ 150 := ok 7 0
  have hN9 : (nn : Int) = r 7 0 := rel9 hrel
  refine lv_aload_n hx hb dX3_can_0 rfl (lv_at hl 0 rfl) ?_
  refine lv_iload_n hx hb dX3_can_1 rfl (lv_at hl 1 rfl) ?_
  refine vp_callSi (va_Run.run (va_runV (As := [.int (iI (iv))]) (rest := []) ⟨hx, hb, hml, hown, hts⟩ (c_X3_isStraight l G hm adm ca nn u (iv) (_) (i32_mk (by omega) (by omega)) (by assumption) (by assumption) (by first | assumption | omega) (by first | assumption | omega) (by first | assumption | omega)) (cwV 1 hts gX3_can_X3_isStraight rfl rfl rfl (by decide +kernel) ⟨Nat.le_of_ble_eq_true rfl, Nat.le_of_ble_eq_true rfl⟩) (rdV (wc := SW G hm adm ca nn u) hK hP hN [0, 1, 2, 3, 4, 5, 6, 7] rfl (ci := 3) rfl rfl) rfl rfl hl.1 rfl (lv_room (Nat.le_of_ble_eq_true rfl)) dX3_can_2 ⟨(Nat.zero_le _), (Nat.zero_le _)⟩)) (fun q1 hq1 => ?_)
  subst hq1
  refine mf_bp_eq (tgt := 34) hx hb dX3_can_5 (by decide) (fun c2 => ?_) (fun c2 => ?_)
  · skip
    have c2' := c2; unfold strP at c2'
    refine mf_iconst hx hb dX3_can_34 ?_
    exact W.zret hx hb hr (mf_nar01 (by omega)) (fun t ht hW => ⟨_, rfl, (congrArg iI (by exact (bP_f (fun z => by unfold canB at z; obtain ⟨z1, z2, z3, z4, z5, -⟩ := z; first | contradiction | omega)).symm)), ht⟩) t_nil dX3_can_35
  · skip
    have c2' := c2; unfold strP at c2'
    have hsp : strP r iv := by assumption
    have hsp2 := hsp
    unfold strP at hsp2
    have hd8 := dirW hI (i := iv) (by omega) (by omega)
    refine lv_iload_n hx hb dX3_can_8 rfl (lv_at hl 2 rfl) ?_
    refine lv_aload_n hx hb dX3_can_9 rfl (lv_at hl 0 rfl) ?_
    refine lv_iload_n hx hb dX3_can_10 rfl (lv_at hl 1 rfl) ?_
    refine vp_callSi (va_Run.run (va_runV (As := [.int (iI (iv))]) (rest := [.int (iI (sv))]) ⟨hx, hb, hml, hown, hts⟩ (c_X3_direction l G hm adm ca nn u (iv) (_) (i32_mk (by omega) (by omega)) (by assumption) (by assumption) (by first | assumption | omega) (by first | assumption | omega) (by first | assumption | omega)) (cwV 1 hts gX3_can_X3_direction rfl rfl rfl (by decide +kernel) ⟨Nat.le_of_ble_eq_true rfl, Nat.le_of_ble_eq_true rfl⟩) (rdV (wc := SW G hm adm ca nn u) hK hP hN [0, 1, 2, 3, 4, 5, 6, 7] rfl (ci := 3) rfl rfl) rfl rfl hl.1 rfl (lv_room (Nat.le_of_ble_eq_true rfl)) dX3_can_11 ⟨(Nat.zero_le _), (Nat.zero_le _)⟩)) (fun q3 hq3 => ?_)
    subst hq3
    have b4 : (-1 : Int) ≤ (r 11 iv) ∧ (r 11 iv) ≤ 3 := (show rOK rlo rhi r by assumption) 11 iv
    refine mf_isub hx hb dX3_can_14 ?_
    refine mf_abs hx hb (hml.trans hl.1.symm) hown (hts (.methodLink RX3 65 Lib.Math.abs.name) (List.mem_of_getElem? (i := 1) rfl)) (hts (.static Lib.Math.abs.name) (List.mem_of_getElem? (i := 2) rfl)) (hts (.initialized "java/lang/Math") (List.mem_of_getElem? (i := 3) rfl)) (hts (.code Lib.Math.abs.name Lib.Math.abs.code 1 (some .int)) (List.mem_of_getElem? (i := 4) rfl)) (by decide) (Nat.le_of_ble_eq_true rfl) (Nat.zero_le _) (Nat.zero_le _) (i32_mk (by omega) (by omega)) dX3_can_15 ?_
    refine mf_nm (fun y5 ey5 => ?_)
    have by5 := mf_absI_s (sv - (r 11 iv))
    rw [← ey5] at by5
    refine mf_iconst hx hb dX3_can_18 ?_
    refine mf_irem hx hb dX3_can_19 (i32_mk (by omega) (by omega)) (by omega) (i32_mk (by decide) (by decide)) (by omega) ?_
    refine mf_if_eq (tgt := 34) hx hb dX3_can_20 (by decide) (i32_mk (by omega) (by omega)) (fun c6 => ?_) (fun c6 => ?_)
    · skip
      refine mf_iconst hx hb dX3_can_34 ?_
      exact W.zret hx hb hr (mf_nar01 (by omega)) (fun t ht hW => ⟨_, rfl, (congrArg iI (by exact (bP_f (fun z => by unfold canB at z; obtain ⟨z1, z2, z3, z4, z5, -⟩ := z; first | contradiction | omega)).symm)), ht⟩) t_nil dX3_can_35
    · skip
      refine lv_aload_n hx hb dX3_can_23 rfl (lv_at hl 0 rfl) ?_
      refine va_get (D := G.1) (ci := 3) (v := .ref ca) (C := RX3) (T := TX3) (N := 9) hx hb hts hinX3 hown hK hP 0 rfl rfl 2 (by decide) (hts (.fieldLink RX3 29 "MeanderFarmLaw$Sim" "course" "[I") (List.mem_of_getElem? (i := 5) rfl)) (fun _ h9 => h9) rfl dX3_can_24 ?_
      refine va_alen hx hb hK hP 1 0 rfl rfl (v := iI ((nn : Nat) : Int)) (nI_iI _) dX3_can_27 ?_
      refine mf_top (((nn : Nat) : Int)) (r 7 0) (rel9 hrel) ?_
      refine mf_sipush hx hb dX3_can_28 rfl ?_
      refine mf_icmp_le (tgt := 36) hx hb dX3_can_31 (by decide) (i32_mk (by omega) (by omega)) (i32_mk (by decide) (by decide)) (fun c7 => ?_) (fun c7 => ?_)
      · skip
        refine lv_iload_n hx hb dX3_can_36 rfl (lv_at hl 1 rfl) ?_
        refine mf_iconst hx hb dX3_can_37 ?_
        refine mf_isub hx hb dX3_can_38 ?_
        refine lv_istore_n (lv' := [(3, .int (iI (iv - 1))), (0, .ref hm), (1, .int (iI (iv))), (2, .int (iI (sv)))]) hx hb dX3_can_39 rfl hl (by decide) rfl (fun ls hl => ?_)
        have lp40 : ∀ (n : Nat) (kv : Int), (iv + 2 - kv).toNat < n → (iv - 1 ≤ kv ∧ kv ≤ iv + 2) → (∀ q, iv - 1 ≤ q → q < kv → openP r (nbr (r 6 q) sv)) → ∀ (ls : Array Slot), lv_has ls 5 [(0, .ref hm), (1, .int (iI (iv))), (2, .int (iI (sv))), (3, .int (iI (kv)))] → W p l e (headSpec wsX3_can ({ frames := 3, cells := 0, slots := 0, locals := 65 })).room s m ([.ref hm, .int (iI (iv)), .int (iI (sv))] : List Value).toArray below meth c s.heap [] 0 0 (MQ below (vp_Si (fun q9 => q9 = iI (bP (canB r iv sv)))) ([.ref hm, .int (iI (iv)), .int (iI (sv))] : List Value).toArray s 0 0 (fun _ => False)) (F0 m 40 ls []) := by
          intro n
          induction n with
          | zero => intro kv hn; exact absurd hn (Nat.not_lt_zero _)
          | succ n ih40 =>
            intro kv hn hk hq ls hl
            refine lv_iload_n hx hb dX3_can_40 rfl (lv_at hl 3 rfl) ?_
            refine lv_iload_n hx hb dX3_can_41 rfl (lv_at hl 1 rfl) ?_
            refine mf_iconst hx hb dX3_can_42 ?_
            refine mf_iadd hx hb dX3_can_43 ?_
            refine mf_icmp_gt (tgt := 91) hx hb dX3_can_44 (by decide) (i32_mk (by omega) (by omega)) (i32_mk (by omega) (by omega)) (fun c8 => ?_) (fun c8 => ?_)
            · skip
              refine mf_iconst hx hb dX3_can_91 ?_
              exact W.zret hx hb hr (mf_nar01 (by omega)) (fun t ht hW => ⟨_, rfl, (congrArg iI (by exact (bP_t (by unfold canB; rw [cellAtF_in (by omega) (by omega), cellAtF_in (by omega) (by omega), cellAtF_in (by omega) (by omega)]; exact ⟨by assumption, by omega, by omega, by omega, by omega, hq _ (by omega) (by omega), hq _ (by omega) (by omega), hq _ (by omega) (by omega)⟩)).symm)), ht⟩) t_nil dX3_can_92
            · skip
              refine lv_aload_n hx hb dX3_can_47 rfl (lv_at hl 0 rfl) ?_
              refine va_get (D := G.1) (ci := 3) (v := .ref ca) (C := RX3) (T := TX3) (N := 9) hx hb hts hinX3 hown hK hP 0 rfl rfl 2 (by decide) (hts (.fieldLink RX3 29 "MeanderFarmLaw$Sim" "course" "[I") (List.mem_of_getElem? (i := 5) rfl)) (fun _ h9 => h9) rfl dX3_can_48 ?_
              refine lv_iload_n hx hb dX3_can_51 rfl (lv_at hl 3 rfl) ?_
              refine mf_iald (n := nn) (f := u 2) hx hb hK hP 1 0 rfl rfl (z := kv) (by omega) (by omega) (by first | decide | omega) dX3_can_52 ?_
              refine mf_top (u 2 kv) (r 6 kv) (by rw [(rel2 hrel (z := kv) (by omega) (by omega))]) ?_
              have b9 : (0 : Int) ≤ r 6 kv ∧ r 6 kv ≤ 383 := ok 6 (kv)
              refine lv_iload_n hx hb dX3_can_53 rfl (lv_at hl 2 rfl) ?_
              refine vp_callSi (va_Run.run (va_runS (As := [.int (iI (r 6 kv)), .int (iI (sv))]) (rest := []) ⟨hx, hb, hml, hown, hts⟩ (c_X3_to l (r 6 kv) (sv) (i32_mk (by omega) (by omega)) (i32_mk (by omega) (by omega)) (by first | assumption | omega) (by first | assumption | omega)) (va_cwS 2 hts gX3_can_X3_to rfl rfl rfl (by decide +kernel) ⟨Nat.le_of_ble_eq_true rfl, Nat.le_of_ble_eq_true rfl⟩) pureS rfl rfl hl.1 rfl (lv_room (Nat.le_of_ble_eq_true rfl)) dX3_can_54 ⟨(Nat.zero_le _), (Nat.zero_le _)⟩)) (fun q10 hq10 => ?_)
              subst hq10
              refine mf_nm (fun y11 ey11 => ?_)
              have b12 : -1 ≤ y11 ∧ y11 ≤ 383 := by rw [ey11]; exact nbr_b (r 6 kv) sv
              refine lv_istore (lv' := [(4, .int (iI (y11))), (0, .ref hm), (1, .int (iI (iv))), (2, .int (iI (sv))), (3, .int (iI (kv)))]) hx hb dX3_can_57 hl (by decide) rfl (fun ls hl => ?_)
              refine lv_iload hx hb dX3_can_59 (lv_at hl 0 rfl) ?_
              refine mf_if_lt (tgt := 83) hx hb dX3_can_61 (by decide) (i32_mk (by omega) (by omega)) (fun c13 => ?_) (fun c13 => ?_)
              · skip
                refine mf_iconst hx hb dX3_can_83 ?_
                exact W.zret hx hb hr (mf_nar01 (by omega)) (fun t ht hW => ⟨_, rfl, (congrArg iI (by exact (bP_f (fun z => by have g := (canB_w okLr.2 z).2.2.2 kv (by omega) (by omega); rw [← ey11] at g; omega)).symm)), ht⟩) t_nil dX3_can_84
              · skip
                refine lv_aload_n hx hb dX3_can_64 rfl (lv_at hl 1 rfl) ?_
                refine lv_iload hx hb dX3_can_65 (lv_at hl 0 rfl) ?_
                refine vp_callSi (va_Run.run (va_runV (As := [.int (iI (y11))]) (rest := []) ⟨hx, hb, hml, hown, hts⟩ (c_X3_at l G hm adm ca nn u (y11) (_) (i32_mk (by omega) (by omega)) (by assumption) (by assumption) (by first | assumption | omega) (by first | assumption | omega) (by first | assumption | omega)) (cwV 1 hts gX3_can_X3_at rfl rfl rfl (by decide +kernel) ⟨Nat.le_of_ble_eq_true rfl, Nat.le_of_ble_eq_true rfl⟩) (rdV (wc := SW G hm adm ca nn u) hK hP hN [0, 1, 2, 3, 4, 5, 6, 7] rfl (ci := 3) rfl rfl) rfl rfl hl.1 rfl (lv_room (Nat.le_of_ble_eq_true rfl)) dX3_can_67 ⟨(Nat.zero_le _), (Nat.zero_le _)⟩)) (fun q14 hq14 => ?_)
                subst hq14
                have b15 : (-1 : Int) ≤ (r 10 y11) ∧ (r 10 y11) ≤ 149 := (show rOK rlo rhi r by assumption) 10 y11
                refine mf_if_ge (tgt := 83) hx hb dX3_can_70 (by decide) (i32_mk (by omega) (by omega)) (fun c16 => ?_) (fun c16 => ?_)
                · skip
                  refine mf_iconst hx hb dX3_can_83 ?_
                  exact W.zret hx hb hr (mf_nar01 (by omega)) (fun t ht hW => ⟨_, rfl, (congrArg iI (by exact (bP_f (fun z => by have g := (canB_w okLr.2 z).2.2.2 kv (by omega) (by omega); rw [← ey11] at g; omega)).symm)), ht⟩) t_nil dX3_can_84
                · skip
                  refine lv_aload_n hx hb dX3_can_73 rfl (lv_at hl 1 rfl) ?_
                  refine va_get (D := G.1) (ci := 3) (v := .ref (adm 4)) (C := RX3) (T := TX3) (N := 9) hx hb hts hinX3 hown hK hP 0 rfl rfl 4 (by decide) (hts (.fieldLink RX3 13 "MeanderFarmLaw$Sim" "stones" "[Z") (List.mem_of_getElem? (i := 6) rfl)) (fun _ h9 => h9) rfl dX3_can_74 ?_
                  refine lv_iload hx hb dX3_can_77 (lv_at hl 0 rfl) ?_
                  refine mf_zald (n := 384) (f := u 4) hx hb hK hP 3 1 rfl rfl (z := y11) (by omega) (by omega) (by first | decide | omega) dX3_can_79 ?_
                  refine mf_top (u 4 y11) (r 2 y11) (by rw [(rel4 hrel (z := y11) (by omega) (by omega))]) ?_
                  have b17 : (0 : Int) ≤ r 2 y11 ∧ r 2 y11 ≤ 1 := ok 2 (y11)
                  refine mf_if_eq (tgt := 85) hx hb dX3_can_80 (by decide) (i32_mk (by omega) (by omega)) (fun c18 => ?_) (fun c18 => ?_)
                  · skip
                    refine lv_iinc (v := iI (kv + 1)) (lv' := [(3, .int (iI (kv + 1))), (4, .int (iI (y11))), (0, .ref hm), (1, .int (iI (iv))), (2, .int (iI (sv)))]) hx hb dX3_can_85 hl (k := 4) rfl (iI_add _ _).symm (by decide) rfl (fun ls hl => ?_)
                    refine lv_goto (tgt := 40) hx hb dX3_can_88 (by decide) ?_
                    exact ih40 (kv + 1) (by omega) (by first | assumption | omega) (by intro q h0 h1; rcases (show q < kv ∨ q = kv by omega) with z | z; (exact hq q h0 z); (rw [z, ← ey11]; exact ⟨by omega, by omega, by omega, by omega⟩))  ls (lv_sub hl [2, 3, 4, 0] rfl)
                  · skip
                    refine mf_iconst hx hb dX3_can_83 ?_
                    exact W.zret hx hb hr (mf_nar01 (by omega)) (fun t ht hW => ⟨_, rfl, (congrArg iI (by exact (bP_f (fun z => by have g := (canB_w okLr.2 z).2.2.2 kv (by omega) (by omega); rw [← ey11] at g; omega)).symm)), ht⟩) t_nil dX3_can_84
        exact lp40 (_ + 1) (iv - 1) (Nat.lt_succ_self _) (by first | assumption | omega) (by intro q h0 h1; omega)  ls (lv_sub hl [1, 2, 3, 0] rfl)
      · skip
        refine mf_iconst hx hb dX3_can_34 ?_
        exact W.zret hx hb hr (mf_nar01 (by omega)) (fun t ht hW => ⟨_, rfl, (congrArg iI (by exact (bP_f (fun z => by unfold canB at z; obtain ⟨z1, z2, z3, z4, z5, -⟩ := z; first | contradiction | omega)).symm)), ht⟩) t_nil dX3_can_35
