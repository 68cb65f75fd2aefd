/-! 34.model3: counts of the reference -/
set_option maxHeartbeats 4000000 in
set_option maxRecDepth 100000 in
theorem c_X3_necks (l : Launch) (G : mf_G) (hm : Nat) (adm : Nat → Nat) (u : mf_V) (r : mf_V) (oku : rOK ulo uhi u) (ok : rOK rlo rhi r) (hI : RInv r) (hrel : relU r u) : Met l yX3_necks wsX3_necks ({ frames := 2, cells := 0, slots := 0, locals := 45 }) (va_Pc [.ref hm] (RdP G (MW G hm adm u))) (vp_Si (fun q => q = iI (neckF r))) 0 0 (fun _ => False) := by
  refine Met.ofW (cc := cX3_necks) (maxL := 4) (ret := (some .int)) (by decide) rfl ?_
  intro p e s m args below meth c s₁ B hml hv
  obtain ⟨rfl, hP, hK, hN⟩ := hv
  have hx := B.exec
  have hb := B.bytes
  have hr := B.returns
  have hts := atoms_spec (ws := wsX3_necks) B.pre
  have hown : s.vm.findClass RX3 = some m.cls := findClass_of_methodNamed B.named
  have hlocks := B.notSynchronized
  have hl := lv_entry ([.ref hm]) (n := 4) (Nat.le_of_ble_eq_true rfl)
  rw [lg_entry_eq]
  generalize (lg_sl ([.ref hm]) ++ List.replicate (4 - (lg_sl ([.ref hm])).length) Slot.unset).toArray = ls at hl ⊢
  have hl : lv_has ls 4 [(0, .ref hm)] := hl
  have okLr : (0 : Int) ≤ r 7 0 ∧ r 7 0 ≤ 150 := ok 7 0
  refine mf_iconst hx hb dX3_necks_0 ?_
  refine lv_istore_n (lv' := [(1, .int (iI (0))), (0, .ref hm)]) hx hb dX3_necks_1 rfl hl (by decide) rfl (fun ls hl => ?_)
  refine mf_iconst hx hb dX3_necks_2 ?_
  refine lv_istore_n (lv' := [(2, .int (iI (0))), (1, .int (iI (0))), (0, .ref hm)]) hx hb dX3_necks_3 rfl hl (by decide) rfl (fun ls hl => ?_)
  have lp4 : ∀ (n : Nat) (xv : Int) (kv : Int), (r 7 0 - kv).toNat < n → (0 ≤ kv ∧ kv ≤ r 7 0) → (xv = msum (fun i => msum (fun d => bP (3 ≤ placeOfF r (nbr (r 6 i) d) - i)) 4) kv) → ∀ (ls : Array Slot), lv_has ls 4 [(0, .ref hm), (1, .int (iI (xv))), (2, .int (iI (kv)))] → W p l e (headSpec wsX3_necks ({ frames := 2, cells := 0, slots := 0, locals := 45 })).room s m ([.ref hm] : List Value).toArray below meth c s.heap [] 0 0 (MQ below (vp_Si (fun q => q = iI (neckF r))) ([.ref hm] : List Value).toArray s 0 0 (fun _ => False)) (F0 m 4 ls []) := by
    intro n
    induction n with
    | zero => intro xv kv hn; exact absurd hn (Nat.not_lt_zero _)
    | succ n ih4 =>
      intro xv kv hn hk hs ls hl
      refine lv_iload_n hx hb dX3_necks_4 rfl (lv_at hl 2 rfl) ?_
      refine lv_aload_n hx hb dX3_necks_5 rfl (lv_at hl 0 rfl) ?_
      refine vp_callSi (va_Run.run (va_runV (As := []) (rest := [.int (iI (kv))]) ⟨hx, hb, hml, hown, hts⟩ (c_X3_length l G hm adm u (by assumption)) (cwV 0 hts gX3_necks_X3_length rfl rfl rfl (by decide +kernel) ⟨Nat.le_of_ble_eq_true rfl, Nat.le_of_ble_eq_true rfl⟩) (rdV (wc := MW G hm adm u) hK hP hN [0, 1, 2, 3, 4, 5, 6, 7, 8, 9] rfl (ci := 3) rfl rfl) rfl rfl hl.1 rfl (lv_room (Nat.le_of_ble_eq_true rfl)) dX3_necks_6 ⟨(Nat.zero_le _), (Nat.zero_le _)⟩)) (fun q1 hq1 => ?_)
      subst hq1
      refine mf_top (u 10 2) (r 7 0) (by rw [rel10_2 hrel]) ?_
      have b2 : (0 : Int) ≤ r 7 0 ∧ r 7 0 ≤ 150 := ok 7 0
      refine mf_icmp_ge (tgt := 53) hx hb dX3_necks_9 (by decide) (i32_mk (by omega) (by omega)) (i32_mk (by omega) (by omega)) (fun c3 => ?_) (fun c3 => ?_)
      · skip
        refine lv_iload_n hx hb dX3_necks_53 rfl (lv_at hl 1 rfl) ?_
        exact W.iret hx hb hr (fun t ht hW => ⟨_, rfl, (congrArg iI (by rw [show kv = r 7 0 by omega] at hs; exact hs)), ht⟩) t_nil dX3_necks_54
      · skip
        refine lv_iload_n hx hb dX3_necks_12 rfl (lv_at hl 2 rfl) ?_
        refine mf_iconst hx hb dX3_necks_13 ?_
        refine mf_iadd hx hb dX3_necks_14 ?_
        refine lv_istore_n (lv' := [(3, .int (iI (kv + 3))), (0, .ref hm), (1, .int (iI (xv))), (2, .int (iI (kv)))]) hx hb dX3_necks_15 rfl hl (by decide) rfl (fun ls hl => ?_)
        have lp16 : ∀ (n : Nat) (yv : Int) (jv : Int), (r 7 0 - jv).toNat < n → (kv + 3 ≤ jv ∧ (jv ≤ r 7 0 ∨ jv = kv + 3)) → (yv = msum (fun i => msum (fun d => bP (3 ≤ placeOfF r (nbr (r 6 i) d) - i)) 4) kv + msum (fun t => bP (neckP r kv (kv + 3 + t))) (jv - (kv + 3))) → ∀ (ls : Array Slot), lv_has ls 4 [(0, .ref hm), (1, .int (iI (yv))), (2, .int (iI (kv))), (3, .int (iI (jv)))] → W p l e (headSpec wsX3_necks ({ frames := 2, cells := 0, slots := 0, locals := 45 })).room s m ([.ref hm] : List Value).toArray below meth c s.heap [] 0 0 (MQ below (vp_Si (fun q => q = iI (neckF r))) ([.ref hm] : List Value).toArray s 0 0 (fun _ => False)) (F0 m 16 ls []) := by
          intro n
          induction n with
          | zero => intro yv jv hn; exact absurd hn (Nat.not_lt_zero _)
          | succ n ih16 =>
            intro yv jv hn hj ht ls hl
            refine lv_iload_n hx hb dX3_necks_16 rfl (lv_at hl 3 rfl) ?_
            refine lv_aload_n hx hb dX3_necks_17 rfl (lv_at hl 0 rfl) ?_
            refine vp_callSi (va_Run.run (va_runV (As := []) (rest := [.int (iI (jv))]) ⟨hx, hb, hml, hown, hts⟩ (c_X3_length l G hm adm u (by assumption)) (cwV 0 hts gX3_necks_X3_length rfl rfl rfl (by decide +kernel) ⟨Nat.le_of_ble_eq_true rfl, Nat.le_of_ble_eq_true rfl⟩) (rdV (wc := MW G hm adm u) hK hP hN [0, 1, 2, 3, 4, 5, 6, 7, 8, 9] rfl (ci := 3) rfl rfl) rfl rfl hl.1 rfl (lv_room (Nat.le_of_ble_eq_true rfl)) dX3_necks_18 ⟨(Nat.zero_le _), (Nat.zero_le _)⟩)) (fun q4 hq4 => ?_)
            subst hq4
            refine mf_top (u 10 2) (r 7 0) (by rw [rel10_2 hrel]) ?_
            have b5 : (0 : Int) ≤ r 7 0 ∧ r 7 0 ≤ 150 := ok 7 0
            refine mf_icmp_ge (tgt := 47) hx hb dX3_necks_21 (by decide) (i32_mk (by omega) (by omega)) (i32_mk (by omega) (by omega)) (fun c6 => ?_) (fun c6 => ?_)
            · skip
              refine lv_iinc (v := iI (kv + 1)) (lv' := [(2, .int (iI (kv + 1))), (0, .ref hm), (1, .int (iI (yv))), (3, .int (iI (jv)))]) hx hb dX3_necks_47 hl (k := 2) rfl (iI_add _ _).symm (by decide) rfl (fun ls hl => ?_)
              refine lv_goto (tgt := 4) hx hb dX3_necks_50 (by decide) ?_
              exact ih4 yv (kv + 1) (by omega) (by first | assumption | omega) (by rw [msum_s _ hk.1]; by_cases q : kv + 3 ≤ r 7 0; (rw [show jv - (kv + 3) = r 7 0 - (kv + 3) by omega, neck_row ok hI hk.1 (by omega) rfl (by omega)] at ht; exact ht); (rw [ht]; congr 1; rw [show jv - (kv + 3) = 0 by omega, msum_0]; refine (msum_zero (by decide) (fun d d0 d1 => bP_f (fun z => ?_))).symm; have hz := neckOut ok hI (i := kv) (d := d) (by omega) (by omega); omega))  ls (lv_sub hl [1, 2, 0] rfl)
            · skip
              refine lv_iload_n hx hb dX3_necks_24 rfl (lv_at hl 1 rfl) ?_
              refine lv_aload_n hx hb dX3_necks_25 rfl (lv_at hl 0 rfl) ?_
              refine lv_iload_n hx hb dX3_necks_26 rfl (lv_at hl 2 rfl) ?_
              refine lv_iload_n hx hb dX3_necks_27 rfl (lv_at hl 3 rfl) ?_
              refine vp_callSi (va_Run.run (va_runV (As := [.int (iI (kv)), .int (iI (jv))]) (rest := [.int (iI (yv))]) ⟨hx, hb, hml, hown, hts⟩ (c_X3_isNeck l G hm adm u (kv) (jv) (_) (i32_mk (by omega) (by omega)) (i32_mk (by omega) (by omega)) (by assumption) (by assumption) (by first | assumption | omega) (by first | assumption | omega) (by first | assumption | omega) (by first | assumption | omega)) (cwV 2 hts gX3_necks_X3_isNeck rfl rfl rfl (by decide +kernel) ⟨Nat.le_of_ble_eq_true rfl, Nat.le_of_ble_eq_true rfl⟩) (rdV (wc := MW G hm adm u) hK hP hN [0, 1, 2, 3, 4, 5, 6, 7, 8, 9] rfl (ci := 3) rfl rfl) rfl rfl hl.1 rfl (lv_room (Nat.le_of_ble_eq_true rfl)) dX3_necks_28 ⟨(Nat.zero_le _), (Nat.zero_le _)⟩)) (fun q7 hq7 => ?_)
              subst hq7
              refine mf_bp_eq (tgt := 38) hx hb dX3_necks_31 (by decide) (fun c8 => ?_) (fun c8 => ?_)
              · skip
                refine mf_iconst hx hb dX3_necks_38 ?_
                refine mf_iadd hx hb dX3_necks_39 ?_
                refine lv_istore_n (lv' := [(1, .int (iI (yv + 0))), (0, .ref hm), (2, .int (iI (kv))), (3, .int (iI (jv)))]) hx hb dX3_necks_40 rfl hl (by decide) rfl (fun ls hl => ?_)
                refine lv_iinc (v := iI (jv + 1)) (lv' := [(3, .int (iI (jv + 1))), (1, .int (iI (yv + 0))), (0, .ref hm), (2, .int (iI (kv)))]) hx hb dX3_necks_41 hl (k := 3) rfl (iI_add _ _).symm (by decide) rfl (fun ls hl => ?_)
                refine lv_goto (tgt := 16) hx hb dX3_necks_44 (by decide) ?_
                exact ih16 (yv + 0) (jv + 1) (by omega) (by first | assumption | omega) (by rw [show jv + 1 - (kv + 3) = (jv - (kv + 3)) + 1 by omega, msum_s _ (by omega), show kv + 3 + (jv - (kv + 3)) = jv by omega]; first | (rw [bP_t (by assumption)]; omega) | (rw [bP_f (by assumption)]; omega))  ls (lv_sub hl [2, 1, 3, 0] rfl)
              · skip
                refine mf_iconst hx hb dX3_necks_34 ?_
                refine lv_goto (tgt := 39) hx hb dX3_necks_35 (by decide) ?_
                refine mf_iadd hx hb dX3_necks_39 ?_
                refine lv_istore_n (lv' := [(1, .int (iI (yv + 1))), (0, .ref hm), (2, .int (iI (kv))), (3, .int (iI (jv)))]) hx hb dX3_necks_40 rfl hl (by decide) rfl (fun ls hl => ?_)
                refine lv_iinc (v := iI (jv + 1)) (lv' := [(3, .int (iI (jv + 1))), (1, .int (iI (yv + 1))), (0, .ref hm), (2, .int (iI (kv)))]) hx hb dX3_necks_41 hl (k := 3) rfl (iI_add _ _).symm (by decide) rfl (fun ls hl => ?_)
                refine lv_goto (tgt := 16) hx hb dX3_necks_44 (by decide) ?_
                exact ih16 (yv + 1) (jv + 1) (by omega) (by first | assumption | omega) (by rw [show jv + 1 - (kv + 3) = (jv - (kv + 3)) + 1 by omega, msum_s _ (by omega), show kv + 3 + (jv - (kv + 3)) = jv by omega]; first | (rw [bP_t (by assumption)]; omega) | (rw [bP_f (by assumption)]; omega))  ls (lv_sub hl [2, 1, 3, 0] rfl)
        exact lp16 (_ + 1) xv (kv + 3) (Nat.lt_succ_self _) (by first | assumption | omega) (by rw [Int.sub_self, msum_0, Int.add_zero]; exact hs)  ls (lv_sub hl [1, 2, 3, 0] rfl)
  exact lp4 (_ + 1) 0 0 (Nat.lt_succ_self _) (by first | assumption | omega) (by rfl)  ls (lv_sub hl [2, 1, 0] rfl)
set_option maxHeartbeats 4000000 in
set_option maxRecDepth 100000 in
theorem c_X3_farmTold (l : Launch) (G : mf_G) (hm : Nat) (adm : Nat → Nat) (u : mf_V) (fk : Int) (wv : Int) (r : mf_V) (f : mf_V) (hfk : i32 fk) (hwv : i32 wv) (oku : rOK ulo uhi u) (ok : rOK rlo rhi r) (hI : RInv r) (hrel : relU r u) (okf : rOK flo fhi f) (hrf : relF f u) (hFI : FInv f) (hk9 : 0 ≤ fk ∧ fk < f 4 0) (hw9 : 0 ≤ wv ∧ wv ≤ 4) : Met l yX3_farmTold wsX3_farmTold ({ frames := 2, cells := 0, slots := 0, locals := 45 }) (va_Pc [.ref hm, .int (iI (fk)), .int (iI (wv))] (RdP G (MW G hm adm u))) (vp_Si (fun q => q = iI (cof f r fk wv))) 0 0 (fun _ => False) := by
  refine Met.ofW (cc := cX3_farmTold) (maxL := 8) (ret := (some .int)) (by decide) rfl ?_
  intro p e s m args below meth c s₁ B hml hv
  obtain ⟨rfl, hP, hK, hN⟩ := hv
  have hx := B.exec
  have hb := B.bytes
  have hr := B.returns
  have hts := atoms_spec (ws := wsX3_farmTold) B.pre
  have hown : s.vm.findClass RX3 = some m.cls := findClass_of_methodNamed B.named
  have hlocks := B.notSynchronized
  have hinX3 : ∀ w ∈ u_ws RX3 TX3 11, w ∈ wsX3_farmTold := fun w h => List.mem_cons_of_mem _ (List.mem_append_right _ h)
  have hl := lv_entry ([.ref hm, .int (iI (fk)), .int (iI (wv))]) (n := 8) (Nat.le_of_ble_eq_true rfl)
  rw [lg_entry_eq]
  generalize (lg_sl ([.ref hm, .int (iI (fk)), .int (iI (wv))]) ++ List.replicate (8 - (lg_sl ([.ref hm, .int (iI (fk)), .int (iI (wv))])).length) Slot.unset).toArray = ls at hl ⊢
  have hl : lv_has ls 8 [(0, .ref hm), (1, .int (iI (fk))), (2, .int (iI (wv)))] := hl
  have hfk1 := hfk.1
  have hfk2 := hfk.2
  have hwv1 := hwv.1
  have hwv2 := hwv.2
  have okLr : (0 : Int) ≤ r 7 0 ∧ r 7 0 ≤ 150 := ok 7 0
  have b4 : (0 : Int) ≤ f 4 0 ∧ f 4 0 ≤ 6 := okf 4 0
  refine mf_iconst hx hb dX3_farmTold_0 ?_
  refine lv_istore_n (lv' := [(3, .int (iI (0))), (0, .ref hm), (1, .int (iI (fk))), (2, .int (iI (wv)))]) hx hb dX3_farmTold_1 rfl hl (by decide) rfl (fun ls hl => ?_)
  refine mf_iconst hx hb dX3_farmTold_2 ?_
  refine lv_istore (lv' := [(4, .int (iI (0))), (3, .int (iI (0))), (0, .ref hm), (1, .int (iI (fk))), (2, .int (iI (wv)))]) hx hb dX3_farmTold_3 hl (by decide) rfl (fun ls hl => ?_)
  have lp5 : ∀ (n : Nat) (xv : Int) (kv : Int), (384 - kv).toNat < n → (0 ≤ kv ∧ kv ≤ 384) → (xv = msum (fun c => bP (inF f (c % 24) (c / 24) fk ∧ cntP r wv c)) kv) → ∀ (ls : Array Slot), lv_has ls 8 [(0, .ref hm), (1, .int (iI (fk))), (2, .int (iI (wv))), (3, .int (iI (xv))), (4, .int (iI (kv)))] → W p l e (headSpec wsX3_farmTold ({ frames := 2, cells := 0, slots := 0, locals := 45 })).room s m ([.ref hm, .int (iI (fk)), .int (iI (wv))] : List Value).toArray below meth c s.heap [] 0 0 (MQ below (vp_Si (fun q => q = iI (cof f r fk wv))) ([.ref hm, .int (iI (fk)), .int (iI (wv))] : List Value).toArray s 0 0 (fun _ => False)) (F0 m 5 ls []) := by
    intro n
    induction n with
    | zero => intro xv kv hn; exact absurd hn (Nat.not_lt_zero _)
    | succ n ih5 =>
      intro xv kv hn hk hs ls hl
      refine lv_iload hx hb dX3_farmTold_5 (lv_at hl 4 rfl) ?_
      refine mf_sipush hx hb dX3_farmTold_7 rfl ?_
      refine mf_icmp_ge (tgt := 145) hx hb dX3_farmTold_10 (by decide) (i32_mk (by omega) (by omega)) (i32_mk (by decide) (by decide)) (fun c1 => ?_) (fun c1 => ?_)
      · skip
        refine lv_iload_n hx hb dX3_farmTold_145 rfl (lv_at hl 3 rfl) ?_
        exact W.iret hx hb hr (fun t ht hW => ⟨_, rfl, (congrArg iI (by rw [show kv = 384 by omega] at hs; rw [hs]; exact farm_sum okf hFI hk9.1 hk9.2)), ht⟩) t_nil dX3_farmTold_146
      · skip
        refine lv_aload_n hx hb dX3_farmTold_13 rfl (lv_at hl 0 rfl) ?_
        refine lv_iload_n hx hb dX3_farmTold_14 rfl (lv_at hl 1 rfl) ?_
        refine lv_iload hx hb dX3_farmTold_15 (lv_at hl 4 rfl) ?_
        refine vp_callSi (va_Run.run (va_runV (As := [.int (iI (fk)), .int (iI (kv))]) (rest := []) ⟨hx, hb, hml, hown, hts⟩ (c_X3_isOf l G hm adm u (fk) (kv) (f) (i32_mk (by omega) (by omega)) (i32_mk (by omega) (by omega)) (by assumption) (by assumption) (by first | assumption | omega) (by first | assumption | omega) (by first | assumption | omega)) (cwV 2 hts gX3_farmTold_X3_isOf rfl rfl rfl (by decide +kernel) ⟨Nat.le_of_ble_eq_true rfl, Nat.le_of_ble_eq_true rfl⟩) (rdV (wc := MW G hm adm u) hK hP hN [0, 1, 2, 3, 4, 5, 6, 7, 8, 9] rfl (ci := 3) rfl rfl) rfl rfl hl.1 rfl (lv_room (Nat.le_of_ble_eq_true rfl)) dX3_farmTold_17 ⟨(Nat.zero_le _), (Nat.zero_le _)⟩)) (fun q2 hq2 => ?_)
        subst hq2
        refine mf_bp_ne (tgt := 26) hx hb dX3_farmTold_20 (by decide) (fun c3 => ?_) (fun c3 => ?_)
        · skip
          refine lv_aload_n hx hb dX3_farmTold_26 rfl (lv_at hl 0 rfl) ?_
          refine va_get (D := G.1) (ci := 3) (v := .ref (adm 7)) (C := RX3) (T := TX3) (N := 11) hx hb hts hinX3 hown hK hP 0 rfl rfl 7 (by decide) (hts (.fieldLink RX3 26 "MeanderFarmModel" "where" "[I") (List.mem_of_getElem? (i := 1) rfl)) (fun _ h9 => h9) rfl dX3_farmTold_27 ?_
          refine lv_iload hx hb dX3_farmTold_30 (lv_at hl 4 rfl) ?_
          refine mf_iald (n := 384) (f := u 7) hx hb hK hP 6 0 rfl rfl (z := kv) (by omega) (by omega) (by decide) dX3_farmTold_32 ?_
          refine mf_top (u 7 kv) (r 10 kv) (by rw [(rel7 hrel (z := kv) (by omega) (by omega))]) ?_
          have b4 : (-1 : Int) ≤ r 10 kv ∧ r 10 kv ≤ 149 := ok 10 (kv)
          refine mf_iconst hx hb dX3_farmTold_33 ?_
          refine mf_icmp_eq (tgt := 41) hx hb dX3_farmTold_34 (by decide) (i32_mk (by omega) (by omega)) (i32_mk (by decide) (by decide)) (fun c5 => ?_) (fun c5 => ?_)
          · skip
            refine mf_iconst hx hb dX3_farmTold_41 ?_
            refine lv_istore (lv' := [(5, .int (iI (0))), (0, .ref hm), (1, .int (iI (fk))), (2, .int (iI (wv))), (3, .int (iI (xv))), (4, .int (iI (kv)))]) hx hb dX3_farmTold_42 hl (by decide) rfl (fun ls hl => ?_)
            refine lv_aload_n hx hb dX3_farmTold_44 rfl (lv_at hl 1 rfl) ?_
            refine va_get (D := G.1) (ci := 3) (v := .ref (adm 9)) (C := RX3) (T := TX3) (N := 11) hx hb hts hinX3 hown hK hP 0 rfl rfl 9 (by decide) (hts (.fieldLink RX3 32 "MeanderFarmModel" "lake" "[I") (List.mem_of_getElem? (i := 2) rfl)) (fun _ h9 => h9) rfl dX3_farmTold_45 ?_
            refine lv_iload hx hb dX3_farmTold_48 (lv_at hl 5 rfl) ?_
            refine mf_iald (n := 384) (f := u 9) hx hb hK hP 8 0 rfl rfl (z := kv) (by omega) (by omega) (by decide) dX3_farmTold_50 ?_
            refine mf_top (u 9 kv) (lyl r kv) (by rw [(rel9 hrel (z := kv) (by omega) (by omega))]) ?_
            have b6 := lyl_b ok (kv)
            refine mf_if_le (tgt := 58) hx hb dX3_farmTold_51 (by decide) (i32_mk (by omega) (by omega)) (fun c7 => ?_) (fun c7 => ?_)
            · skip
              refine mf_iconst hx hb dX3_farmTold_58 ?_
              refine lv_istore (lv' := [(6, .int (iI (0))), (5, .int (iI (0))), (0, .ref hm), (1, .int (iI (fk))), (2, .int (iI (wv))), (3, .int (iI (xv))), (4, .int (iI (kv)))]) hx hb dX3_farmTold_59 hl (by decide) rfl (fun ls hl => ?_)
              refine lv_iload_n hx hb dX3_farmTold_61 rfl (lv_at hl 4 rfl) ?_
              refine mf_if_eq (tgt := 119) hx hb dX3_farmTold_62 (by decide) (i32_mk (by omega) (by omega)) (fun c8 => ?_) (fun c8 => ?_)
              · skip
                refine mf_iconst hx hb dX3_farmTold_119 ?_
                refine lv_goto (tgt := 124) hx hb dX3_farmTold_120 (by decide) ?_
                refine lv_istore (lv' := [(7, .int (iI (1))), (6, .int (iI (0))), (5, .int (iI (0))), (0, .ref hm), (1, .int (iI (fk))), (2, .int (iI (wv))), (3, .int (iI (xv))), (4, .int (iI (kv)))]) hx hb dX3_farmTold_124 hl (by decide) rfl (fun ls hl => ?_)
                refine lv_iload_n hx hb dX3_farmTold_126 rfl (lv_at hl 6 rfl) ?_
                refine lv_iload hx hb dX3_farmTold_127 (lv_at hl 0 rfl) ?_
                refine mf_if_eq (tgt := 136) hx hb dX3_farmTold_129 (by decide) (i32_mk (by decide) (by decide)) (fun c9 => ?_) (fun c9 => ?_)
                · skip
                  exact absurd c9 (by omega)
                · skip
                  refine mf_iconst hx hb dX3_farmTold_132 ?_
                  refine lv_goto (tgt := 137) hx hb dX3_farmTold_133 (by decide) ?_
                  refine mf_iadd hx hb dX3_farmTold_137 ?_
                  refine lv_istore_n (lv' := [(3, .int (iI (xv + 1))), (7, .int (iI (1))), (6, .int (iI (0))), (5, .int (iI (0))), (0, .ref hm), (1, .int (iI (fk))), (2, .int (iI (wv))), (4, .int (iI (kv)))]) hx hb dX3_farmTold_138 rfl hl (by decide) rfl (fun ls hl => ?_)
                  refine lv_iinc (v := iI (kv + 1)) (lv' := [(4, .int (iI (kv + 1))), (3, .int (iI (xv + 1))), (7, .int (iI (1))), (6, .int (iI (0))), (5, .int (iI (0))), (0, .ref hm), (1, .int (iI (fk))), (2, .int (iI (wv)))]) hx hb dX3_farmTold_139 hl (k := 7) rfl (iI_add _ _).symm (by decide) rfl (fun ls hl => ?_)
                  refine lv_goto (tgt := 5) hx hb dX3_farmTold_142 (by decide) ?_
                  exact ih5 (xv + 1) (kv + 1) (by omega) (by first | assumption | omega) (by rw [msum_s _ hk.1]; first | (rw [bP_f (fun z => absurd z.1 (by assumption))]; omega) | (rw [bP_t ⟨by assumption, by unfold cntP; omega⟩]; omega) | (rw [bP_f (fun z => by have z2 := z.2; unfold cntP at z2; omega)]; omega))  ls (lv_sub hl [5, 6, 7, 1, 0] rfl)
              · skip
                refine lv_iload_n hx hb dX3_farmTold_65 rfl (lv_at hl 4 rfl) ?_
                refine mf_iconst hx hb dX3_farmTold_66 ?_
                refine mf_icmp_ne (tgt := 83) hx hb dX3_farmTold_67 (by decide) (i32_mk (by omega) (by omega)) (i32_mk (by decide) (by decide)) (fun c10 => ?_) (fun c10 => ?_)
                · skip
                  refine lv_iload_n hx hb dX3_farmTold_83 rfl (lv_at hl 4 rfl) ?_
                  refine mf_iconst hx hb dX3_farmTold_84 ?_
                  refine mf_icmp_ne (tgt := 96) hx hb dX3_farmTold_85 (by decide) (i32_mk (by omega) (by omega)) (i32_mk (by decide) (by decide)) (fun c11 => ?_) (fun c11 => ?_)
                  · skip
                    refine lv_iload_n hx hb dX3_farmTold_96 rfl (lv_at hl 4 rfl) ?_
                    refine mf_iconst hx hb dX3_farmTold_97 ?_
                    refine mf_icmp_ne (tgt := 109) hx hb dX3_farmTold_98 (by decide) (i32_mk (by omega) (by omega)) (i32_mk (by decide) (by decide)) (fun c12 => ?_) (fun c12 => ?_)
                    · skip
                      refine lv_aload_n hx hb dX3_farmTold_109 rfl (lv_at hl 2 rfl) ?_
                      refine va_get (D := G.1) (ci := 3) (v := .ref (adm 2)) (C := RX3) (T := TX3) (N := 11) hx hb hts hinX3 hown hK hP 0 rfl rfl 2 (by decide) (hts (.fieldLink RX3 13 "MeanderFarmModel" "stones" "[Z") (List.mem_of_getElem? (i := 3) rfl)) (fun _ h9 => h9) rfl dX3_farmTold_110 ?_
                      refine lv_iload hx hb dX3_farmTold_113 (lv_at hl 6 rfl) ?_
                      refine mf_zald (n := 384) (f := u 2) hx hb hK hP 2 1 rfl rfl (z := kv) (by omega) (by omega) (by decide) dX3_farmTold_115 ?_
                      refine mf_top (u 2 kv) (r 2 kv) (by rw [(rel2 hrel (z := kv) (by omega) (by omega))]) ?_
                      have b13 : (0 : Int) ≤ r 2 kv ∧ r 2 kv ≤ 1 := ok 2 (kv)
                      refine mf_if_eq (tgt := 123) hx hb dX3_farmTold_116 (by decide) (i32_mk (by omega) (by omega)) (fun c14 => ?_) (fun c14 => ?_)
                      · skip
                        refine mf_iconst hx hb dX3_farmTold_123 ?_
                        refine lv_istore (lv' := [(7, .int (iI (0))), (6, .int (iI (0))), (5, .int (iI (0))), (0, .ref hm), (1, .int (iI (fk))), (2, .int (iI (wv))), (3, .int (iI (xv))), (4, .int (iI (kv)))]) hx hb dX3_farmTold_124 hl (by decide) rfl (fun ls hl => ?_)
                        refine lv_iload_n hx hb dX3_farmTold_126 rfl (lv_at hl 6 rfl) ?_
                        refine lv_iload hx hb dX3_farmTold_127 (lv_at hl 0 rfl) ?_
                        refine mf_if_eq (tgt := 136) hx hb dX3_farmTold_129 (by decide) (i32_mk (by decide) (by decide)) (fun c15 => ?_) (fun c15 => ?_)
                        · skip
                          refine mf_iconst hx hb dX3_farmTold_136 ?_
                          refine mf_iadd hx hb dX3_farmTold_137 ?_
                          refine lv_istore_n (lv' := [(3, .int (iI (xv + 0))), (7, .int (iI (0))), (6, .int (iI (0))), (5, .int (iI (0))), (0, .ref hm), (1, .int (iI (fk))), (2, .int (iI (wv))), (4, .int (iI (kv)))]) hx hb dX3_farmTold_138 rfl hl (by decide) rfl (fun ls hl => ?_)
                          refine lv_iinc (v := iI (kv + 1)) (lv' := [(4, .int (iI (kv + 1))), (3, .int (iI (xv + 0))), (7, .int (iI (0))), (6, .int (iI (0))), (5, .int (iI (0))), (0, .ref hm), (1, .int (iI (fk))), (2, .int (iI (wv)))]) hx hb dX3_farmTold_139 hl (k := 7) rfl (iI_add _ _).symm (by decide) rfl (fun ls hl => ?_)
                          refine lv_goto (tgt := 5) hx hb dX3_farmTold_142 (by decide) ?_
                          exact ih5 (xv + 0) (kv + 1) (by omega) (by first | assumption | omega) (by rw [msum_s _ hk.1]; first | (rw [bP_f (fun z => absurd z.1 (by assumption))]; omega) | (rw [bP_t ⟨by assumption, by unfold cntP; omega⟩]; omega) | (rw [bP_f (fun z => by have z2 := z.2; unfold cntP at z2; omega)]; omega))  ls (lv_sub hl [5, 6, 7, 1, 0] rfl)
                        · skip
                          exact absurd c15 (by omega)
                      · skip
                        refine mf_iconst hx hb dX3_farmTold_119 ?_
                        refine lv_goto (tgt := 124) hx hb dX3_farmTold_120 (by decide) ?_
                        refine lv_istore (lv' := [(7, .int (iI (1))), (6, .int (iI (0))), (5, .int (iI (0))), (0, .ref hm), (1, .int (iI (fk))), (2, .int (iI (wv))), (3, .int (iI (xv))), (4, .int (iI (kv)))]) hx hb dX3_farmTold_124 hl (by decide) rfl (fun ls hl => ?_)
                        refine lv_iload_n hx hb dX3_farmTold_126 rfl (lv_at hl 6 rfl) ?_
                        refine lv_iload hx hb dX3_farmTold_127 (lv_at hl 0 rfl) ?_
                        refine mf_if_eq (tgt := 136) hx hb dX3_farmTold_129 (by decide) (i32_mk (by decide) (by decide)) (fun c16 => ?_) (fun c16 => ?_)
                        · skip
                          exact absurd c16 (by omega)
                        · skip
                          refine mf_iconst hx hb dX3_farmTold_132 ?_
                          refine lv_goto (tgt := 137) hx hb dX3_farmTold_133 (by decide) ?_
                          refine mf_iadd hx hb dX3_farmTold_137 ?_
                          refine lv_istore_n (lv' := [(3, .int (iI (xv + 1))), (7, .int (iI (1))), (6, .int (iI (0))), (5, .int (iI (0))), (0, .ref hm), (1, .int (iI (fk))), (2, .int (iI (wv))), (4, .int (iI (kv)))]) hx hb dX3_farmTold_138 rfl hl (by decide) rfl (fun ls hl => ?_)
                          refine lv_iinc (v := iI (kv + 1)) (lv' := [(4, .int (iI (kv + 1))), (3, .int (iI (xv + 1))), (7, .int (iI (1))), (6, .int (iI (0))), (5, .int (iI (0))), (0, .ref hm), (1, .int (iI (fk))), (2, .int (iI (wv)))]) hx hb dX3_farmTold_139 hl (k := 7) rfl (iI_add _ _).symm (by decide) rfl (fun ls hl => ?_)
                          refine lv_goto (tgt := 5) hx hb dX3_farmTold_142 (by decide) ?_
                          exact ih5 (xv + 1) (kv + 1) (by omega) (by first | assumption | omega) (by rw [msum_s _ hk.1]; first | (rw [bP_f (fun z => absurd z.1 (by assumption))]; omega) | (rw [bP_t ⟨by assumption, by unfold cntP; omega⟩]; omega) | (rw [bP_f (fun z => by have z2 := z.2; unfold cntP at z2; omega)]; omega))  ls (lv_sub hl [5, 6, 7, 1, 0] rfl)
                    · skip
                      refine lv_iload hx hb dX3_farmTold_101 (lv_at hl 0 rfl) ?_
                      refine mf_if_eq (tgt := 123) hx hb dX3_farmTold_103 (by decide) (i32_mk (by decide) (by decide)) (fun c17 => ?_) (fun c17 => ?_)
                      · skip
                        refine mf_iconst hx hb dX3_farmTold_123 ?_
                        refine lv_istore (lv' := [(7, .int (iI (0))), (6, .int (iI (0))), (5, .int (iI (0))), (0, .ref hm), (1, .int (iI (fk))), (2, .int (iI (wv))), (3, .int (iI (xv))), (4, .int (iI (kv)))]) hx hb dX3_farmTold_124 hl (by decide) rfl (fun ls hl => ?_)
                        refine lv_iload_n hx hb dX3_farmTold_126 rfl (lv_at hl 6 rfl) ?_
                        refine lv_iload hx hb dX3_farmTold_127 (lv_at hl 0 rfl) ?_
                        refine mf_if_eq (tgt := 136) hx hb dX3_farmTold_129 (by decide) (i32_mk (by decide) (by decide)) (fun c18 => ?_) (fun c18 => ?_)
                        · skip
                          refine mf_iconst hx hb dX3_farmTold_136 ?_
                          refine mf_iadd hx hb dX3_farmTold_137 ?_
                          refine lv_istore_n (lv' := [(3, .int (iI (xv + 0))), (7, .int (iI (0))), (6, .int (iI (0))), (5, .int (iI (0))), (0, .ref hm), (1, .int (iI (fk))), (2, .int (iI (wv))), (4, .int (iI (kv)))]) hx hb dX3_farmTold_138 rfl hl (by decide) rfl (fun ls hl => ?_)
                          refine lv_iinc (v := iI (kv + 1)) (lv' := [(4, .int (iI (kv + 1))), (3, .int (iI (xv + 0))), (7, .int (iI (0))), (6, .int (iI (0))), (5, .int (iI (0))), (0, .ref hm), (1, .int (iI (fk))), (2, .int (iI (wv)))]) hx hb dX3_farmTold_139 hl (k := 7) rfl (iI_add _ _).symm (by decide) rfl (fun ls hl => ?_)
                          refine lv_goto (tgt := 5) hx hb dX3_farmTold_142 (by decide) ?_
                          exact ih5 (xv + 0) (kv + 1) (by omega) (by first | assumption | omega) (by rw [msum_s _ hk.1]; first | (rw [bP_f (fun z => absurd z.1 (by assumption))]; omega) | (rw [bP_t ⟨by assumption, by unfold cntP; omega⟩]; omega) | (rw [bP_f (fun z => by have z2 := z.2; unfold cntP at z2; omega)]; omega))  ls (lv_sub hl [5, 6, 7, 1, 0] rfl)
                        · skip
                          exact absurd c18 (by omega)
                      · skip
                        exact absurd c17 (by omega)
                  · skip
                    refine lv_iload hx hb dX3_farmTold_88 (lv_at hl 1 rfl) ?_
                    refine mf_if_eq (tgt := 123) hx hb dX3_farmTold_90 (by decide) (i32_mk (by decide) (by decide)) (fun c19 => ?_) (fun c19 => ?_)
                    · skip
                      refine mf_iconst hx hb dX3_farmTold_123 ?_
                      refine lv_istore (lv' := [(7, .int (iI (0))), (6, .int (iI (0))), (5, .int (iI (0))), (0, .ref hm), (1, .int (iI (fk))), (2, .int (iI (wv))), (3, .int (iI (xv))), (4, .int (iI (kv)))]) hx hb dX3_farmTold_124 hl (by decide) rfl (fun ls hl => ?_)
                      refine lv_iload_n hx hb dX3_farmTold_126 rfl (lv_at hl 6 rfl) ?_
                      refine lv_iload hx hb dX3_farmTold_127 (lv_at hl 0 rfl) ?_
                      refine mf_if_eq (tgt := 136) hx hb dX3_farmTold_129 (by decide) (i32_mk (by decide) (by decide)) (fun c20 => ?_) (fun c20 => ?_)
                      · skip
                        refine mf_iconst hx hb dX3_farmTold_136 ?_
                        refine mf_iadd hx hb dX3_farmTold_137 ?_
                        refine lv_istore_n (lv' := [(3, .int (iI (xv + 0))), (7, .int (iI (0))), (6, .int (iI (0))), (5, .int (iI (0))), (0, .ref hm), (1, .int (iI (fk))), (2, .int (iI (wv))), (4, .int (iI (kv)))]) hx hb dX3_farmTold_138 rfl hl (by decide) rfl (fun ls hl => ?_)
                        refine lv_iinc (v := iI (kv + 1)) (lv' := [(4, .int (iI (kv + 1))), (3, .int (iI (xv + 0))), (7, .int (iI (0))), (6, .int (iI (0))), (5, .int (iI (0))), (0, .ref hm), (1, .int (iI (fk))), (2, .int (iI (wv)))]) hx hb dX3_farmTold_139 hl (k := 7) rfl (iI_add _ _).symm (by decide) rfl (fun ls hl => ?_)
                        refine lv_goto (tgt := 5) hx hb dX3_farmTold_142 (by decide) ?_
                        exact ih5 (xv + 0) (kv + 1) (by omega) (by first | assumption | omega) (by rw [msum_s _ hk.1]; first | (rw [bP_f (fun z => absurd z.1 (by assumption))]; omega) | (rw [bP_t ⟨by assumption, by unfold cntP; omega⟩]; omega) | (rw [bP_f (fun z => by have z2 := z.2; unfold cntP at z2; omega)]; omega))  ls (lv_sub hl [5, 6, 7, 1, 0] rfl)
                      · skip
                        exact absurd c20 (by omega)
                    · skip
                      exact absurd c19 (by omega)
                · skip
                  refine lv_iload hx hb dX3_farmTold_70 (lv_at hl 1 rfl) ?_
                  refine mf_if_ne (tgt := 123) hx hb dX3_farmTold_72 (by decide) (i32_mk (by decide) (by decide)) (fun c21 => ?_) (fun c21 => ?_)
                  · skip
                    exact absurd c21 (by omega)
                  · skip
                    refine lv_iload hx hb dX3_farmTold_75 (lv_at hl 0 rfl) ?_
                    refine mf_if_ne (tgt := 123) hx hb dX3_farmTold_77 (by decide) (i32_mk (by decide) (by decide)) (fun c22 => ?_) (fun c22 => ?_)
                    · skip
                      exact absurd c22 (by omega)
                    · skip
                      refine lv_goto (tgt := 119) hx hb dX3_farmTold_80 (by decide) ?_
                      refine mf_iconst hx hb dX3_farmTold_119 ?_
                      refine lv_goto (tgt := 124) hx hb dX3_farmTold_120 (by decide) ?_
                      refine lv_istore (lv' := [(7, .int (iI (1))), (6, .int (iI (0))), (5, .int (iI (0))), (0, .ref hm), (1, .int (iI (fk))), (2, .int (iI (wv))), (3, .int (iI (xv))), (4, .int (iI (kv)))]) hx hb dX3_farmTold_124 hl (by decide) rfl (fun ls hl => ?_)
                      refine lv_iload_n hx hb dX3_farmTold_126 rfl (lv_at hl 6 rfl) ?_
                      refine lv_iload hx hb dX3_farmTold_127 (lv_at hl 0 rfl) ?_
                      refine mf_if_eq (tgt := 136) hx hb dX3_farmTold_129 (by decide) (i32_mk (by decide) (by decide)) (fun c23 => ?_) (fun c23 => ?_)
                      · skip
                        exact absurd c23 (by omega)
                      · skip
                        refine mf_iconst hx hb dX3_farmTold_132 ?_
                        refine lv_goto (tgt := 137) hx hb dX3_farmTold_133 (by decide) ?_
                        refine mf_iadd hx hb dX3_farmTold_137 ?_
                        refine lv_istore_n (lv' := [(3, .int (iI (xv + 1))), (7, .int (iI (1))), (6, .int (iI (0))), (5, .int (iI (0))), (0, .ref hm), (1, .int (iI (fk))), (2, .int (iI (wv))), (4, .int (iI (kv)))]) hx hb dX3_farmTold_138 rfl hl (by decide) rfl (fun ls hl => ?_)
                        refine lv_iinc (v := iI (kv + 1)) (lv' := [(4, .int (iI (kv + 1))), (3, .int (iI (xv + 1))), (7, .int (iI (1))), (6, .int (iI (0))), (5, .int (iI (0))), (0, .ref hm), (1, .int (iI (fk))), (2, .int (iI (wv)))]) hx hb dX3_farmTold_139 hl (k := 7) rfl (iI_add _ _).symm (by decide) rfl (fun ls hl => ?_)
                        refine lv_goto (tgt := 5) hx hb dX3_farmTold_142 (by decide) ?_
                        exact ih5 (xv + 1) (kv + 1) (by omega) (by first | assumption | omega) (by rw [msum_s _ hk.1]; first | (rw [bP_f (fun z => absurd z.1 (by assumption))]; omega) | (rw [bP_t ⟨by assumption, by unfold cntP; omega⟩]; omega) | (rw [bP_f (fun z => by have z2 := z.2; unfold cntP at z2; omega)]; omega))  ls (lv_sub hl [5, 6, 7, 1, 0] rfl)
            · skip
              refine mf_iconst hx hb dX3_farmTold_54 ?_
              refine lv_goto (tgt := 59) hx hb dX3_farmTold_55 (by decide) ?_
              refine lv_istore (lv' := [(6, .int (iI (1))), (5, .int (iI (0))), (0, .ref hm), (1, .int (iI (fk))), (2, .int (iI (wv))), (3, .int (iI (xv))), (4, .int (iI (kv)))]) hx hb dX3_farmTold_59 hl (by decide) rfl (fun ls hl => ?_)
              refine lv_iload_n hx hb dX3_farmTold_61 rfl (lv_at hl 4 rfl) ?_
              refine mf_if_eq (tgt := 119) hx hb dX3_farmTold_62 (by decide) (i32_mk (by omega) (by omega)) (fun c24 => ?_) (fun c24 => ?_)
              · skip
                refine mf_iconst hx hb dX3_farmTold_119 ?_
                refine lv_goto (tgt := 124) hx hb dX3_farmTold_120 (by decide) ?_
                refine lv_istore (lv' := [(7, .int (iI (1))), (6, .int (iI (1))), (5, .int (iI (0))), (0, .ref hm), (1, .int (iI (fk))), (2, .int (iI (wv))), (3, .int (iI (xv))), (4, .int (iI (kv)))]) hx hb dX3_farmTold_124 hl (by decide) rfl (fun ls hl => ?_)
                refine lv_iload_n hx hb dX3_farmTold_126 rfl (lv_at hl 6 rfl) ?_
                refine lv_iload hx hb dX3_farmTold_127 (lv_at hl 0 rfl) ?_
                refine mf_if_eq (tgt := 136) hx hb dX3_farmTold_129 (by decide) (i32_mk (by decide) (by decide)) (fun c25 => ?_) (fun c25 => ?_)
                · skip
                  exact absurd c25 (by omega)
                · skip
                  refine mf_iconst hx hb dX3_farmTold_132 ?_
                  refine lv_goto (tgt := 137) hx hb dX3_farmTold_133 (by decide) ?_
                  refine mf_iadd hx hb dX3_farmTold_137 ?_
                  refine lv_istore_n (lv' := [(3, .int (iI (xv + 1))), (7, .int (iI (1))), (6, .int (iI (1))), (5, .int (iI (0))), (0, .ref hm), (1, .int (iI (fk))), (2, .int (iI (wv))), (4, .int (iI (kv)))]) hx hb dX3_farmTold_138 rfl hl (by decide) rfl (fun ls hl => ?_)
                  refine lv_iinc (v := iI (kv + 1)) (lv' := [(4, .int (iI (kv + 1))), (3, .int (iI (xv + 1))), (7, .int (iI (1))), (6, .int (iI (1))), (5, .int (iI (0))), (0, .ref hm), (1, .int (iI (fk))), (2, .int (iI (wv)))]) hx hb dX3_farmTold_139 hl (k := 7) rfl (iI_add _ _).symm (by decide) rfl (fun ls hl => ?_)
                  refine lv_goto (tgt := 5) hx hb dX3_farmTold_142 (by decide) ?_
                  exact ih5 (xv + 1) (kv + 1) (by omega) (by first | assumption | omega) (by rw [msum_s _ hk.1]; first | (rw [bP_f (fun z => absurd z.1 (by assumption))]; omega) | (rw [bP_t ⟨by assumption, by unfold cntP; omega⟩]; omega) | (rw [bP_f (fun z => by have z2 := z.2; unfold cntP at z2; omega)]; omega))  ls (lv_sub hl [5, 6, 7, 1, 0] rfl)
              · skip
                refine lv_iload_n hx hb dX3_farmTold_65 rfl (lv_at hl 4 rfl) ?_
                refine mf_iconst hx hb dX3_farmTold_66 ?_
                refine mf_icmp_ne (tgt := 83) hx hb dX3_farmTold_67 (by decide) (i32_mk (by omega) (by omega)) (i32_mk (by decide) (by decide)) (fun c26 => ?_) (fun c26 => ?_)
                · skip
                  refine lv_iload_n hx hb dX3_farmTold_83 rfl (lv_at hl 4 rfl) ?_
                  refine mf_iconst hx hb dX3_farmTold_84 ?_
                  refine mf_icmp_ne (tgt := 96) hx hb dX3_farmTold_85 (by decide) (i32_mk (by omega) (by omega)) (i32_mk (by decide) (by decide)) (fun c27 => ?_) (fun c27 => ?_)
                  · skip
                    refine lv_iload_n hx hb dX3_farmTold_96 rfl (lv_at hl 4 rfl) ?_
                    refine mf_iconst hx hb dX3_farmTold_97 ?_
                    refine mf_icmp_ne (tgt := 109) hx hb dX3_farmTold_98 (by decide) (i32_mk (by omega) (by omega)) (i32_mk (by decide) (by decide)) (fun c28 => ?_) (fun c28 => ?_)
                    · skip
                      refine lv_aload_n hx hb dX3_farmTold_109 rfl (lv_at hl 2 rfl) ?_
                      refine va_get (D := G.1) (ci := 3) (v := .ref (adm 2)) (C := RX3) (T := TX3) (N := 11) hx hb hts hinX3 hown hK hP 0 rfl rfl 2 (by decide) (hts (.fieldLink RX3 13 "MeanderFarmModel" "stones" "[Z") (List.mem_of_getElem? (i := 3) rfl)) (fun _ h9 => h9) rfl dX3_farmTold_110 ?_
                      refine lv_iload hx hb dX3_farmTold_113 (lv_at hl 6 rfl) ?_
                      refine mf_zald (n := 384) (f := u 2) hx hb hK hP 2 1 rfl rfl (z := kv) (by omega) (by omega) (by decide) dX3_farmTold_115 ?_
                      refine mf_top (u 2 kv) (r 2 kv) (by rw [(rel2 hrel (z := kv) (by omega) (by omega))]) ?_
                      have b29 : (0 : Int) ≤ r 2 kv ∧ r 2 kv ≤ 1 := ok 2 (kv)
                      refine mf_if_eq (tgt := 123) hx hb dX3_farmTold_116 (by decide) (i32_mk (by omega) (by omega)) (fun c30 => ?_) (fun c30 => ?_)
                      · skip
                        refine mf_iconst hx hb dX3_farmTold_123 ?_
                        refine lv_istore (lv' := [(7, .int (iI (0))), (6, .int (iI (1))), (5, .int (iI (0))), (0, .ref hm), (1, .int (iI (fk))), (2, .int (iI (wv))), (3, .int (iI (xv))), (4, .int (iI (kv)))]) hx hb dX3_farmTold_124 hl (by decide) rfl (fun ls hl => ?_)
                        refine lv_iload_n hx hb dX3_farmTold_126 rfl (lv_at hl 6 rfl) ?_
                        refine lv_iload hx hb dX3_farmTold_127 (lv_at hl 0 rfl) ?_
                        refine mf_if_eq (tgt := 136) hx hb dX3_farmTold_129 (by decide) (i32_mk (by decide) (by decide)) (fun c31 => ?_) (fun c31 => ?_)
                        · skip
                          refine mf_iconst hx hb dX3_farmTold_136 ?_
                          refine mf_iadd hx hb dX3_farmTold_137 ?_
                          refine lv_istore_n (lv' := [(3, .int (iI (xv + 0))), (7, .int (iI (0))), (6, .int (iI (1))), (5, .int (iI (0))), (0, .ref hm), (1, .int (iI (fk))), (2, .int (iI (wv))), (4, .int (iI (kv)))]) hx hb dX3_farmTold_138 rfl hl (by decide) rfl (fun ls hl => ?_)
                          refine lv_iinc (v := iI (kv + 1)) (lv' := [(4, .int (iI (kv + 1))), (3, .int (iI (xv + 0))), (7, .int (iI (0))), (6, .int (iI (1))), (5, .int (iI (0))), (0, .ref hm), (1, .int (iI (fk))), (2, .int (iI (wv)))]) hx hb dX3_farmTold_139 hl (k := 7) rfl (iI_add _ _).symm (by decide) rfl (fun ls hl => ?_)
                          refine lv_goto (tgt := 5) hx hb dX3_farmTold_142 (by decide) ?_
                          exact ih5 (xv + 0) (kv + 1) (by omega) (by first | assumption | omega) (by rw [msum_s _ hk.1]; first | (rw [bP_f (fun z => absurd z.1 (by assumption))]; omega) | (rw [bP_t ⟨by assumption, by unfold cntP; omega⟩]; omega) | (rw [bP_f (fun z => by have z2 := z.2; unfold cntP at z2; omega)]; omega))  ls (lv_sub hl [5, 6, 7, 1, 0] rfl)
                        · skip
                          exact absurd c31 (by omega)
                      · skip
                        refine mf_iconst hx hb dX3_farmTold_119 ?_
                        refine lv_goto (tgt := 124) hx hb dX3_farmTold_120 (by decide) ?_
                        refine lv_istore (lv' := [(7, .int (iI (1))), (6, .int (iI (1))), (5, .int (iI (0))), (0, .ref hm), (1, .int (iI (fk))), (2, .int (iI (wv))), (3, .int (iI (xv))), (4, .int (iI (kv)))]) hx hb dX3_farmTold_124 hl (by decide) rfl (fun ls hl => ?_)
                        refine lv_iload_n hx hb dX3_farmTold_126 rfl (lv_at hl 6 rfl) ?_
                        refine lv_iload hx hb dX3_farmTold_127 (lv_at hl 0 rfl) ?_
                        refine mf_if_eq (tgt := 136) hx hb dX3_farmTold_129 (by decide) (i32_mk (by decide) (by decide)) (fun c32 => ?_) (fun c32 => ?_)
                        · skip
                          exact absurd c32 (by omega)
                        · skip
                          refine mf_iconst hx hb dX3_farmTold_132 ?_
                          refine lv_goto (tgt := 137) hx hb dX3_farmTold_133 (by decide) ?_
                          refine mf_iadd hx hb dX3_farmTold_137 ?_
                          refine lv_istore_n (lv' := [(3, .int (iI (xv + 1))), (7, .int (iI (1))), (6, .int (iI (1))), (5, .int (iI (0))), (0, .ref hm), (1, .int (iI (fk))), (2, .int (iI (wv))), (4, .int (iI (kv)))]) hx hb dX3_farmTold_138 rfl hl (by decide) rfl (fun ls hl => ?_)
                          refine lv_iinc (v := iI (kv + 1)) (lv' := [(4, .int (iI (kv + 1))), (3, .int (iI (xv + 1))), (7, .int (iI (1))), (6, .int (iI (1))), (5, .int (iI (0))), (0, .ref hm), (1, .int (iI (fk))), (2, .int (iI (wv)))]) hx hb dX3_farmTold_139 hl (k := 7) rfl (iI_add _ _).symm (by decide) rfl (fun ls hl => ?_)
                          refine lv_goto (tgt := 5) hx hb dX3_farmTold_142 (by decide) ?_
                          exact ih5 (xv + 1) (kv + 1) (by omega) (by first | assumption | omega) (by rw [msum_s _ hk.1]; first | (rw [bP_f (fun z => absurd z.1 (by assumption))]; omega) | (rw [bP_t ⟨by assumption, by unfold cntP; omega⟩]; omega) | (rw [bP_f (fun z => by have z2 := z.2; unfold cntP at z2; omega)]; omega))  ls (lv_sub hl [5, 6, 7, 1, 0] rfl)
                    · skip
                      refine lv_iload hx hb dX3_farmTold_101 (lv_at hl 0 rfl) ?_
                      refine mf_if_eq (tgt := 123) hx hb dX3_farmTold_103 (by decide) (i32_mk (by decide) (by decide)) (fun c33 => ?_) (fun c33 => ?_)
                      · skip
                        exact absurd c33 (by omega)
                      · skip
                        refine lv_goto (tgt := 119) hx hb dX3_farmTold_106 (by decide) ?_
                        refine mf_iconst hx hb dX3_farmTold_119 ?_
                        refine lv_goto (tgt := 124) hx hb dX3_farmTold_120 (by decide) ?_
                        refine lv_istore (lv' := [(7, .int (iI (1))), (6, .int (iI (1))), (5, .int (iI (0))), (0, .ref hm), (1, .int (iI (fk))), (2, .int (iI (wv))), (3, .int (iI (xv))), (4, .int (iI (kv)))]) hx hb dX3_farmTold_124 hl (by decide) rfl (fun ls hl => ?_)
                        refine lv_iload_n hx hb dX3_farmTold_126 rfl (lv_at hl 6 rfl) ?_
                        refine lv_iload hx hb dX3_farmTold_127 (lv_at hl 0 rfl) ?_
                        refine mf_if_eq (tgt := 136) hx hb dX3_farmTold_129 (by decide) (i32_mk (by decide) (by decide)) (fun c34 => ?_) (fun c34 => ?_)
                        · skip
                          exact absurd c34 (by omega)
                        · skip
                          refine mf_iconst hx hb dX3_farmTold_132 ?_
                          refine lv_goto (tgt := 137) hx hb dX3_farmTold_133 (by decide) ?_
                          refine mf_iadd hx hb dX3_farmTold_137 ?_
                          refine lv_istore_n (lv' := [(3, .int (iI (xv + 1))), (7, .int (iI (1))), (6, .int (iI (1))), (5, .int (iI (0))), (0, .ref hm), (1, .int (iI (fk))), (2, .int (iI (wv))), (4, .int (iI (kv)))]) hx hb dX3_farmTold_138 rfl hl (by decide) rfl (fun ls hl => ?_)
                          refine lv_iinc (v := iI (kv + 1)) (lv' := [(4, .int (iI (kv + 1))), (3, .int (iI (xv + 1))), (7, .int (iI (1))), (6, .int (iI (1))), (5, .int (iI (0))), (0, .ref hm), (1, .int (iI (fk))), (2, .int (iI (wv)))]) hx hb dX3_farmTold_139 hl (k := 7) rfl (iI_add _ _).symm (by decide) rfl (fun ls hl => ?_)
                          refine lv_goto (tgt := 5) hx hb dX3_farmTold_142 (by decide) ?_
                          exact ih5 (xv + 1) (kv + 1) (by omega) (by first | assumption | omega) (by rw [msum_s _ hk.1]; first | (rw [bP_f (fun z => absurd z.1 (by assumption))]; omega) | (rw [bP_t ⟨by assumption, by unfold cntP; omega⟩]; omega) | (rw [bP_f (fun z => by have z2 := z.2; unfold cntP at z2; omega)]; omega))  ls (lv_sub hl [5, 6, 7, 1, 0] rfl)
                  · skip
                    refine lv_iload hx hb dX3_farmTold_88 (lv_at hl 1 rfl) ?_
                    refine mf_if_eq (tgt := 123) hx hb dX3_farmTold_90 (by decide) (i32_mk (by decide) (by decide)) (fun c35 => ?_) (fun c35 => ?_)
                    · skip
                      refine mf_iconst hx hb dX3_farmTold_123 ?_
                      refine lv_istore (lv' := [(7, .int (iI (0))), (6, .int (iI (1))), (5, .int (iI (0))), (0, .ref hm), (1, .int (iI (fk))), (2, .int (iI (wv))), (3, .int (iI (xv))), (4, .int (iI (kv)))]) hx hb dX3_farmTold_124 hl (by decide) rfl (fun ls hl => ?_)
                      refine lv_iload_n hx hb dX3_farmTold_126 rfl (lv_at hl 6 rfl) ?_
                      refine lv_iload hx hb dX3_farmTold_127 (lv_at hl 0 rfl) ?_
                      refine mf_if_eq (tgt := 136) hx hb dX3_farmTold_129 (by decide) (i32_mk (by decide) (by decide)) (fun c36 => ?_) (fun c36 => ?_)
                      · skip
                        refine mf_iconst hx hb dX3_farmTold_136 ?_
                        refine mf_iadd hx hb dX3_farmTold_137 ?_
                        refine lv_istore_n (lv' := [(3, .int (iI (xv + 0))), (7, .int (iI (0))), (6, .int (iI (1))), (5, .int (iI (0))), (0, .ref hm), (1, .int (iI (fk))), (2, .int (iI (wv))), (4, .int (iI (kv)))]) hx hb dX3_farmTold_138 rfl hl (by decide) rfl (fun ls hl => ?_)
                        refine lv_iinc (v := iI (kv + 1)) (lv' := [(4, .int (iI (kv + 1))), (3, .int (iI (xv + 0))), (7, .int (iI (0))), (6, .int (iI (1))), (5, .int (iI (0))), (0, .ref hm), (1, .int (iI (fk))), (2, .int (iI (wv)))]) hx hb dX3_farmTold_139 hl (k := 7) rfl (iI_add _ _).symm (by decide) rfl (fun ls hl => ?_)
                        refine lv_goto (tgt := 5) hx hb dX3_farmTold_142 (by decide) ?_
                        exact ih5 (xv + 0) (kv + 1) (by omega) (by first | assumption | omega) (by rw [msum_s _ hk.1]; first | (rw [bP_f (fun z => absurd z.1 (by assumption))]; omega) | (rw [bP_t ⟨by assumption, by unfold cntP; omega⟩]; omega) | (rw [bP_f (fun z => by have z2 := z.2; unfold cntP at z2; omega)]; omega))  ls (lv_sub hl [5, 6, 7, 1, 0] rfl)
                      · skip
                        exact absurd c36 (by omega)
                    · skip
                      exact absurd c35 (by omega)
                · skip
                  refine lv_iload hx hb dX3_farmTold_70 (lv_at hl 1 rfl) ?_
                  refine mf_if_ne (tgt := 123) hx hb dX3_farmTold_72 (by decide) (i32_mk (by decide) (by decide)) (fun c37 => ?_) (fun c37 => ?_)
                  · skip
                    exact absurd c37 (by omega)
                  · skip
                    refine lv_iload hx hb dX3_farmTold_75 (lv_at hl 0 rfl) ?_
                    refine mf_if_ne (tgt := 123) hx hb dX3_farmTold_77 (by decide) (i32_mk (by decide) (by decide)) (fun c38 => ?_) (fun c38 => ?_)
                    · skip
                      refine mf_iconst hx hb dX3_farmTold_123 ?_
                      refine lv_istore (lv' := [(7, .int (iI (0))), (6, .int (iI (1))), (5, .int (iI (0))), (0, .ref hm), (1, .int (iI (fk))), (2, .int (iI (wv))), (3, .int (iI (xv))), (4, .int (iI (kv)))]) hx hb dX3_farmTold_124 hl (by decide) rfl (fun ls hl => ?_)
                      refine lv_iload_n hx hb dX3_farmTold_126 rfl (lv_at hl 6 rfl) ?_
                      refine lv_iload hx hb dX3_farmTold_127 (lv_at hl 0 rfl) ?_
                      refine mf_if_eq (tgt := 136) hx hb dX3_farmTold_129 (by decide) (i32_mk (by decide) (by decide)) (fun c39 => ?_) (fun c39 => ?_)
                      · skip
                        refine mf_iconst hx hb dX3_farmTold_136 ?_
                        refine mf_iadd hx hb dX3_farmTold_137 ?_
                        refine lv_istore_n (lv' := [(3, .int (iI (xv + 0))), (7, .int (iI (0))), (6, .int (iI (1))), (5, .int (iI (0))), (0, .ref hm), (1, .int (iI (fk))), (2, .int (iI (wv))), (4, .int (iI (kv)))]) hx hb dX3_farmTold_138 rfl hl (by decide) rfl (fun ls hl => ?_)
                        refine lv_iinc (v := iI (kv + 1)) (lv' := [(4, .int (iI (kv + 1))), (3, .int (iI (xv + 0))), (7, .int (iI (0))), (6, .int (iI (1))), (5, .int (iI (0))), (0, .ref hm), (1, .int (iI (fk))), (2, .int (iI (wv)))]) hx hb dX3_farmTold_139 hl (k := 7) rfl (iI_add _ _).symm (by decide) rfl (fun ls hl => ?_)
                        refine lv_goto (tgt := 5) hx hb dX3_farmTold_142 (by decide) ?_
                        exact ih5 (xv + 0) (kv + 1) (by omega) (by first | assumption | omega) (by rw [msum_s _ hk.1]; first | (rw [bP_f (fun z => absurd z.1 (by assumption))]; omega) | (rw [bP_t ⟨by assumption, by unfold cntP; omega⟩]; omega) | (rw [bP_f (fun z => by have z2 := z.2; unfold cntP at z2; omega)]; omega))  ls (lv_sub hl [5, 6, 7, 1, 0] rfl)
                      · skip
                        exact absurd c39 (by omega)
                    · skip
                      exact absurd c38 (by omega)
          · skip
            refine mf_iconst hx hb dX3_farmTold_37 ?_
            refine lv_goto (tgt := 42) hx hb dX3_farmTold_38 (by decide) ?_
            refine lv_istore (lv' := [(5, .int (iI (1))), (0, .ref hm), (1, .int (iI (fk))), (2, .int (iI (wv))), (3, .int (iI (xv))), (4, .int (iI (kv)))]) hx hb dX3_farmTold_42 hl (by decide) rfl (fun ls hl => ?_)
            refine lv_aload_n hx hb dX3_farmTold_44 rfl (lv_at hl 1 rfl) ?_
            refine va_get (D := G.1) (ci := 3) (v := .ref (adm 9)) (C := RX3) (T := TX3) (N := 11) hx hb hts hinX3 hown hK hP 0 rfl rfl 9 (by decide) (hts (.fieldLink RX3 32 "MeanderFarmModel" "lake" "[I") (List.mem_of_getElem? (i := 2) rfl)) (fun _ h9 => h9) rfl dX3_farmTold_45 ?_
            refine lv_iload hx hb dX3_farmTold_48 (lv_at hl 5 rfl) ?_
            refine mf_iald (n := 384) (f := u 9) hx hb hK hP 8 0 rfl rfl (z := kv) (by omega) (by omega) (by decide) dX3_farmTold_50 ?_
            refine mf_top (u 9 kv) (lyl r kv) (by rw [(rel9 hrel (z := kv) (by omega) (by omega))]) ?_
            have b40 := lyl_b ok (kv)
            refine mf_if_le (tgt := 58) hx hb dX3_farmTold_51 (by decide) (i32_mk (by omega) (by omega)) (fun c41 => ?_) (fun c41 => ?_)
            · skip
              refine mf_iconst hx hb dX3_farmTold_58 ?_
              refine lv_istore (lv' := [(6, .int (iI (0))), (5, .int (iI (1))), (0, .ref hm), (1, .int (iI (fk))), (2, .int (iI (wv))), (3, .int (iI (xv))), (4, .int (iI (kv)))]) hx hb dX3_farmTold_59 hl (by decide) rfl (fun ls hl => ?_)
              refine lv_iload_n hx hb dX3_farmTold_61 rfl (lv_at hl 4 rfl) ?_
              refine mf_if_eq (tgt := 119) hx hb dX3_farmTold_62 (by decide) (i32_mk (by omega) (by omega)) (fun c42 => ?_) (fun c42 => ?_)
              · skip
                refine mf_iconst hx hb dX3_farmTold_119 ?_
                refine lv_goto (tgt := 124) hx hb dX3_farmTold_120 (by decide) ?_
                refine lv_istore (lv' := [(7, .int (iI (1))), (6, .int (iI (0))), (5, .int (iI (1))), (0, .ref hm), (1, .int (iI (fk))), (2, .int (iI (wv))), (3, .int (iI (xv))), (4, .int (iI (kv)))]) hx hb dX3_farmTold_124 hl (by decide) rfl (fun ls hl => ?_)
                refine lv_iload_n hx hb dX3_farmTold_126 rfl (lv_at hl 6 rfl) ?_
                refine lv_iload hx hb dX3_farmTold_127 (lv_at hl 0 rfl) ?_
                refine mf_if_eq (tgt := 136) hx hb dX3_farmTold_129 (by decide) (i32_mk (by decide) (by decide)) (fun c43 => ?_) (fun c43 => ?_)
                · skip
                  exact absurd c43 (by omega)
                · skip
                  refine mf_iconst hx hb dX3_farmTold_132 ?_
                  refine lv_goto (tgt := 137) hx hb dX3_farmTold_133 (by decide) ?_
                  refine mf_iadd hx hb dX3_farmTold_137 ?_
                  refine lv_istore_n (lv' := [(3, .int (iI (xv + 1))), (7, .int (iI (1))), (6, .int (iI (0))), (5, .int (iI (1))), (0, .ref hm), (1, .int (iI (fk))), (2, .int (iI (wv))), (4, .int (iI (kv)))]) hx hb dX3_farmTold_138 rfl hl (by decide) rfl (fun ls hl => ?_)
                  refine lv_iinc (v := iI (kv + 1)) (lv' := [(4, .int (iI (kv + 1))), (3, .int (iI (xv + 1))), (7, .int (iI (1))), (6, .int (iI (0))), (5, .int (iI (1))), (0, .ref hm), (1, .int (iI (fk))), (2, .int (iI (wv)))]) hx hb dX3_farmTold_139 hl (k := 7) rfl (iI_add _ _).symm (by decide) rfl (fun ls hl => ?_)
                  refine lv_goto (tgt := 5) hx hb dX3_farmTold_142 (by decide) ?_
                  exact ih5 (xv + 1) (kv + 1) (by omega) (by first | assumption | omega) (by rw [msum_s _ hk.1]; first | (rw [bP_f (fun z => absurd z.1 (by assumption))]; omega) | (rw [bP_t ⟨by assumption, by unfold cntP; omega⟩]; omega) | (rw [bP_f (fun z => by have z2 := z.2; unfold cntP at z2; omega)]; omega))  ls (lv_sub hl [5, 6, 7, 1, 0] rfl)
              · skip
                refine lv_iload_n hx hb dX3_farmTold_65 rfl (lv_at hl 4 rfl) ?_
                refine mf_iconst hx hb dX3_farmTold_66 ?_
                refine mf_icmp_ne (tgt := 83) hx hb dX3_farmTold_67 (by decide) (i32_mk (by omega) (by omega)) (i32_mk (by decide) (by decide)) (fun c44 => ?_) (fun c44 => ?_)
                · skip
                  refine lv_iload_n hx hb dX3_farmTold_83 rfl (lv_at hl 4 rfl) ?_
                  refine mf_iconst hx hb dX3_farmTold_84 ?_
                  refine mf_icmp_ne (tgt := 96) hx hb dX3_farmTold_85 (by decide) (i32_mk (by omega) (by omega)) (i32_mk (by decide) (by decide)) (fun c45 => ?_) (fun c45 => ?_)
                  · skip
                    refine lv_iload_n hx hb dX3_farmTold_96 rfl (lv_at hl 4 rfl) ?_
                    refine mf_iconst hx hb dX3_farmTold_97 ?_
                    refine mf_icmp_ne (tgt := 109) hx hb dX3_farmTold_98 (by decide) (i32_mk (by omega) (by omega)) (i32_mk (by decide) (by decide)) (fun c46 => ?_) (fun c46 => ?_)
                    · skip
                      refine lv_aload_n hx hb dX3_farmTold_109 rfl (lv_at hl 2 rfl) ?_
                      refine va_get (D := G.1) (ci := 3) (v := .ref (adm 2)) (C := RX3) (T := TX3) (N := 11) hx hb hts hinX3 hown hK hP 0 rfl rfl 2 (by decide) (hts (.fieldLink RX3 13 "MeanderFarmModel" "stones" "[Z") (List.mem_of_getElem? (i := 3) rfl)) (fun _ h9 => h9) rfl dX3_farmTold_110 ?_
                      refine lv_iload hx hb dX3_farmTold_113 (lv_at hl 6 rfl) ?_
                      refine mf_zald (n := 384) (f := u 2) hx hb hK hP 2 1 rfl rfl (z := kv) (by omega) (by omega) (by decide) dX3_farmTold_115 ?_
                      refine mf_top (u 2 kv) (r 2 kv) (by rw [(rel2 hrel (z := kv) (by omega) (by omega))]) ?_
                      have b47 : (0 : Int) ≤ r 2 kv ∧ r 2 kv ≤ 1 := ok 2 (kv)
                      refine mf_if_eq (tgt := 123) hx hb dX3_farmTold_116 (by decide) (i32_mk (by omega) (by omega)) (fun c48 => ?_) (fun c48 => ?_)
                      · skip
                        refine mf_iconst hx hb dX3_farmTold_123 ?_
                        refine lv_istore (lv' := [(7, .int (iI (0))), (6, .int (iI (0))), (5, .int (iI (1))), (0, .ref hm), (1, .int (iI (fk))), (2, .int (iI (wv))), (3, .int (iI (xv))), (4, .int (iI (kv)))]) hx hb dX3_farmTold_124 hl (by decide) rfl (fun ls hl => ?_)
                        refine lv_iload_n hx hb dX3_farmTold_126 rfl (lv_at hl 6 rfl) ?_
                        refine lv_iload hx hb dX3_farmTold_127 (lv_at hl 0 rfl) ?_
                        refine mf_if_eq (tgt := 136) hx hb dX3_farmTold_129 (by decide) (i32_mk (by decide) (by decide)) (fun c49 => ?_) (fun c49 => ?_)
                        · skip
                          refine mf_iconst hx hb dX3_farmTold_136 ?_
                          refine mf_iadd hx hb dX3_farmTold_137 ?_
                          refine lv_istore_n (lv' := [(3, .int (iI (xv + 0))), (7, .int (iI (0))), (6, .int (iI (0))), (5, .int (iI (1))), (0, .ref hm), (1, .int (iI (fk))), (2, .int (iI (wv))), (4, .int (iI (kv)))]) hx hb dX3_farmTold_138 rfl hl (by decide) rfl (fun ls hl => ?_)
                          refine lv_iinc (v := iI (kv + 1)) (lv' := [(4, .int (iI (kv + 1))), (3, .int (iI (xv + 0))), (7, .int (iI (0))), (6, .int (iI (0))), (5, .int (iI (1))), (0, .ref hm), (1, .int (iI (fk))), (2, .int (iI (wv)))]) hx hb dX3_farmTold_139 hl (k := 7) rfl (iI_add _ _).symm (by decide) rfl (fun ls hl => ?_)
                          refine lv_goto (tgt := 5) hx hb dX3_farmTold_142 (by decide) ?_
                          exact ih5 (xv + 0) (kv + 1) (by omega) (by first | assumption | omega) (by rw [msum_s _ hk.1]; first | (rw [bP_f (fun z => absurd z.1 (by assumption))]; omega) | (rw [bP_t ⟨by assumption, by unfold cntP; omega⟩]; omega) | (rw [bP_f (fun z => by have z2 := z.2; unfold cntP at z2; omega)]; omega))  ls (lv_sub hl [5, 6, 7, 1, 0] rfl)
                        · skip
                          exact absurd c49 (by omega)
                      · skip
                        refine mf_iconst hx hb dX3_farmTold_119 ?_
                        refine lv_goto (tgt := 124) hx hb dX3_farmTold_120 (by decide) ?_
                        refine lv_istore (lv' := [(7, .int (iI (1))), (6, .int (iI (0))), (5, .int (iI (1))), (0, .ref hm), (1, .int (iI (fk))), (2, .int (iI (wv))), (3, .int (iI (xv))), (4, .int (iI (kv)))]) hx hb dX3_farmTold_124 hl (by decide) rfl (fun ls hl => ?_)
                        refine lv_iload_n hx hb dX3_farmTold_126 rfl (lv_at hl 6 rfl) ?_
                        refine lv_iload hx hb dX3_farmTold_127 (lv_at hl 0 rfl) ?_
                        refine mf_if_eq (tgt := 136) hx hb dX3_farmTold_129 (by decide) (i32_mk (by decide) (by decide)) (fun c50 => ?_) (fun c50 => ?_)
                        · skip
                          exact absurd c50 (by omega)
                        · skip
                          refine mf_iconst hx hb dX3_farmTold_132 ?_
                          refine lv_goto (tgt := 137) hx hb dX3_farmTold_133 (by decide) ?_
                          refine mf_iadd hx hb dX3_farmTold_137 ?_
                          refine lv_istore_n (lv' := [(3, .int (iI (xv + 1))), (7, .int (iI (1))), (6, .int (iI (0))), (5, .int (iI (1))), (0, .ref hm), (1, .int (iI (fk))), (2, .int (iI (wv))), (4, .int (iI (kv)))]) hx hb dX3_farmTold_138 rfl hl (by decide) rfl (fun ls hl => ?_)
                          refine lv_iinc (v := iI (kv + 1)) (lv' := [(4, .int (iI (kv + 1))), (3, .int (iI (xv + 1))), (7, .int (iI (1))), (6, .int (iI (0))), (5, .int (iI (1))), (0, .ref hm), (1, .int (iI (fk))), (2, .int (iI (wv)))]) hx hb dX3_farmTold_139 hl (k := 7) rfl (iI_add _ _).symm (by decide) rfl (fun ls hl => ?_)
                          refine lv_goto (tgt := 5) hx hb dX3_farmTold_142 (by decide) ?_
                          exact ih5 (xv + 1) (kv + 1) (by omega) (by first | assumption | omega) (by rw [msum_s _ hk.1]; first | (rw [bP_f (fun z => absurd z.1 (by assumption))]; omega) | (rw [bP_t ⟨by assumption, by unfold cntP; omega⟩]; omega) | (rw [bP_f (fun z => by have z2 := z.2; unfold cntP at z2; omega)]; omega))  ls (lv_sub hl [5, 6, 7, 1, 0] rfl)
                    · skip
                      refine lv_iload hx hb dX3_farmTold_101 (lv_at hl 0 rfl) ?_
                      refine mf_if_eq (tgt := 123) hx hb dX3_farmTold_103 (by decide) (i32_mk (by decide) (by decide)) (fun c51 => ?_) (fun c51 => ?_)
                      · skip
                        refine mf_iconst hx hb dX3_farmTold_123 ?_
                        refine lv_istore (lv' := [(7, .int (iI (0))), (6, .int (iI (0))), (5, .int (iI (1))), (0, .ref hm), (1, .int (iI (fk))), (2, .int (iI (wv))), (3, .int (iI (xv))), (4, .int (iI (kv)))]) hx hb dX3_farmTold_124 hl (by decide) rfl (fun ls hl => ?_)
                        refine lv_iload_n hx hb dX3_farmTold_126 rfl (lv_at hl 6 rfl) ?_
                        refine lv_iload hx hb dX3_farmTold_127 (lv_at hl 0 rfl) ?_
                        refine mf_if_eq (tgt := 136) hx hb dX3_farmTold_129 (by decide) (i32_mk (by decide) (by decide)) (fun c52 => ?_) (fun c52 => ?_)
                        · skip
                          refine mf_iconst hx hb dX3_farmTold_136 ?_
                          refine mf_iadd hx hb dX3_farmTold_137 ?_
                          refine lv_istore_n (lv' := [(3, .int (iI (xv + 0))), (7, .int (iI (0))), (6, .int (iI (0))), (5, .int (iI (1))), (0, .ref hm), (1, .int (iI (fk))), (2, .int (iI (wv))), (4, .int (iI (kv)))]) hx hb dX3_farmTold_138 rfl hl (by decide) rfl (fun ls hl => ?_)
                          refine lv_iinc (v := iI (kv + 1)) (lv' := [(4, .int (iI (kv + 1))), (3, .int (iI (xv + 0))), (7, .int (iI (0))), (6, .int (iI (0))), (5, .int (iI (1))), (0, .ref hm), (1, .int (iI (fk))), (2, .int (iI (wv)))]) hx hb dX3_farmTold_139 hl (k := 7) rfl (iI_add _ _).symm (by decide) rfl (fun ls hl => ?_)
                          refine lv_goto (tgt := 5) hx hb dX3_farmTold_142 (by decide) ?_
                          exact ih5 (xv + 0) (kv + 1) (by omega) (by first | assumption | omega) (by rw [msum_s _ hk.1]; first | (rw [bP_f (fun z => absurd z.1 (by assumption))]; omega) | (rw [bP_t ⟨by assumption, by unfold cntP; omega⟩]; omega) | (rw [bP_f (fun z => by have z2 := z.2; unfold cntP at z2; omega)]; omega))  ls (lv_sub hl [5, 6, 7, 1, 0] rfl)
                        · skip
                          exact absurd c52 (by omega)
                      · skip
                        exact absurd c51 (by omega)
                  · skip
                    refine lv_iload hx hb dX3_farmTold_88 (lv_at hl 1 rfl) ?_
                    refine mf_if_eq (tgt := 123) hx hb dX3_farmTold_90 (by decide) (i32_mk (by decide) (by decide)) (fun c53 => ?_) (fun c53 => ?_)
                    · skip
                      exact absurd c53 (by omega)
                    · skip
                      refine lv_goto (tgt := 119) hx hb dX3_farmTold_93 (by decide) ?_
                      refine mf_iconst hx hb dX3_farmTold_119 ?_
                      refine lv_goto (tgt := 124) hx hb dX3_farmTold_120 (by decide) ?_
                      refine lv_istore (lv' := [(7, .int (iI (1))), (6, .int (iI (0))), (5, .int (iI (1))), (0, .ref hm), (1, .int (iI (fk))), (2, .int (iI (wv))), (3, .int (iI (xv))), (4, .int (iI (kv)))]) hx hb dX3_farmTold_124 hl (by decide) rfl (fun ls hl => ?_)
                      refine lv_iload_n hx hb dX3_farmTold_126 rfl (lv_at hl 6 rfl) ?_
                      refine lv_iload hx hb dX3_farmTold_127 (lv_at hl 0 rfl) ?_
                      refine mf_if_eq (tgt := 136) hx hb dX3_farmTold_129 (by decide) (i32_mk (by decide) (by decide)) (fun c54 => ?_) (fun c54 => ?_)
                      · skip
                        exact absurd c54 (by omega)
                      · skip
                        refine mf_iconst hx hb dX3_farmTold_132 ?_
                        refine lv_goto (tgt := 137) hx hb dX3_farmTold_133 (by decide) ?_
                        refine mf_iadd hx hb dX3_farmTold_137 ?_
                        refine lv_istore_n (lv' := [(3, .int (iI (xv + 1))), (7, .int (iI (1))), (6, .int (iI (0))), (5, .int (iI (1))), (0, .ref hm), (1, .int (iI (fk))), (2, .int (iI (wv))), (4, .int (iI (kv)))]) hx hb dX3_farmTold_138 rfl hl (by decide) rfl (fun ls hl => ?_)
                        refine lv_iinc (v := iI (kv + 1)) (lv' := [(4, .int (iI (kv + 1))), (3, .int (iI (xv + 1))), (7, .int (iI (1))), (6, .int (iI (0))), (5, .int (iI (1))), (0, .ref hm), (1, .int (iI (fk))), (2, .int (iI (wv)))]) hx hb dX3_farmTold_139 hl (k := 7) rfl (iI_add _ _).symm (by decide) rfl (fun ls hl => ?_)
                        refine lv_goto (tgt := 5) hx hb dX3_farmTold_142 (by decide) ?_
                        exact ih5 (xv + 1) (kv + 1) (by omega) (by first | assumption | omega) (by rw [msum_s _ hk.1]; first | (rw [bP_f (fun z => absurd z.1 (by assumption))]; omega) | (rw [bP_t ⟨by assumption, by unfold cntP; omega⟩]; omega) | (rw [bP_f (fun z => by have z2 := z.2; unfold cntP at z2; omega)]; omega))  ls (lv_sub hl [5, 6, 7, 1, 0] rfl)
                · skip
                  refine lv_iload hx hb dX3_farmTold_70 (lv_at hl 1 rfl) ?_
                  refine mf_if_ne (tgt := 123) hx hb dX3_farmTold_72 (by decide) (i32_mk (by decide) (by decide)) (fun c55 => ?_) (fun c55 => ?_)
                  · skip
                    refine mf_iconst hx hb dX3_farmTold_123 ?_
                    refine lv_istore (lv' := [(7, .int (iI (0))), (6, .int (iI (0))), (5, .int (iI (1))), (0, .ref hm), (1, .int (iI (fk))), (2, .int (iI (wv))), (3, .int (iI (xv))), (4, .int (iI (kv)))]) hx hb dX3_farmTold_124 hl (by decide) rfl (fun ls hl => ?_)
                    refine lv_iload_n hx hb dX3_farmTold_126 rfl (lv_at hl 6 rfl) ?_
                    refine lv_iload hx hb dX3_farmTold_127 (lv_at hl 0 rfl) ?_
                    refine mf_if_eq (tgt := 136) hx hb dX3_farmTold_129 (by decide) (i32_mk (by decide) (by decide)) (fun c56 => ?_) (fun c56 => ?_)
                    · skip
                      refine mf_iconst hx hb dX3_farmTold_136 ?_
                      refine mf_iadd hx hb dX3_farmTold_137 ?_
                      refine lv_istore_n (lv' := [(3, .int (iI (xv + 0))), (7, .int (iI (0))), (6, .int (iI (0))), (5, .int (iI (1))), (0, .ref hm), (1, .int (iI (fk))), (2, .int (iI (wv))), (4, .int (iI (kv)))]) hx hb dX3_farmTold_138 rfl hl (by decide) rfl (fun ls hl => ?_)
                      refine lv_iinc (v := iI (kv + 1)) (lv' := [(4, .int (iI (kv + 1))), (3, .int (iI (xv + 0))), (7, .int (iI (0))), (6, .int (iI (0))), (5, .int (iI (1))), (0, .ref hm), (1, .int (iI (fk))), (2, .int (iI (wv)))]) hx hb dX3_farmTold_139 hl (k := 7) rfl (iI_add _ _).symm (by decide) rfl (fun ls hl => ?_)
                      refine lv_goto (tgt := 5) hx hb dX3_farmTold_142 (by decide) ?_
                      exact ih5 (xv + 0) (kv + 1) (by omega) (by first | assumption | omega) (by rw [msum_s _ hk.1]; first | (rw [bP_f (fun z => absurd z.1 (by assumption))]; omega) | (rw [bP_t ⟨by assumption, by unfold cntP; omega⟩]; omega) | (rw [bP_f (fun z => by have z2 := z.2; unfold cntP at z2; omega)]; omega))  ls (lv_sub hl [5, 6, 7, 1, 0] rfl)
                    · skip
                      exact absurd c56 (by omega)
                  · skip
                    exact absurd c55 (by omega)
            · skip
              refine mf_iconst hx hb dX3_farmTold_54 ?_
              refine lv_goto (tgt := 59) hx hb dX3_farmTold_55 (by decide) ?_
              refine lv_istore (lv' := [(6, .int (iI (1))), (5, .int (iI (1))), (0, .ref hm), (1, .int (iI (fk))), (2, .int (iI (wv))), (3, .int (iI (xv))), (4, .int (iI (kv)))]) hx hb dX3_farmTold_59 hl (by decide) rfl (fun ls hl => ?_)
              refine lv_iload_n hx hb dX3_farmTold_61 rfl (lv_at hl 4 rfl) ?_
              refine mf_if_eq (tgt := 119) hx hb dX3_farmTold_62 (by decide) (i32_mk (by omega) (by omega)) (fun c57 => ?_) (fun c57 => ?_)
              · skip
                refine mf_iconst hx hb dX3_farmTold_119 ?_
                refine lv_goto (tgt := 124) hx hb dX3_farmTold_120 (by decide) ?_
                refine lv_istore (lv' := [(7, .int (iI (1))), (6, .int (iI (1))), (5, .int (iI (1))), (0, .ref hm), (1, .int (iI (fk))), (2, .int (iI (wv))), (3, .int (iI (xv))), (4, .int (iI (kv)))]) hx hb dX3_farmTold_124 hl (by decide) rfl (fun ls hl => ?_)
                refine lv_iload_n hx hb dX3_farmTold_126 rfl (lv_at hl 6 rfl) ?_
                refine lv_iload hx hb dX3_farmTold_127 (lv_at hl 0 rfl) ?_
                refine mf_if_eq (tgt := 136) hx hb dX3_farmTold_129 (by decide) (i32_mk (by decide) (by decide)) (fun c58 => ?_) (fun c58 => ?_)
                · skip
                  exact absurd c58 (by omega)
                · skip
                  refine mf_iconst hx hb dX3_farmTold_132 ?_
                  refine lv_goto (tgt := 137) hx hb dX3_farmTold_133 (by decide) ?_
                  refine mf_iadd hx hb dX3_farmTold_137 ?_
                  refine lv_istore_n (lv' := [(3, .int (iI (xv + 1))), (7, .int (iI (1))), (6, .int (iI (1))), (5, .int (iI (1))), (0, .ref hm), (1, .int (iI (fk))), (2, .int (iI (wv))), (4, .int (iI (kv)))]) hx hb dX3_farmTold_138 rfl hl (by decide) rfl (fun ls hl => ?_)
                  refine lv_iinc (v := iI (kv + 1)) (lv' := [(4, .int (iI (kv + 1))), (3, .int (iI (xv + 1))), (7, .int (iI (1))), (6, .int (iI (1))), (5, .int (iI (1))), (0, .ref hm), (1, .int (iI (fk))), (2, .int (iI (wv)))]) hx hb dX3_farmTold_139 hl (k := 7) rfl (iI_add _ _).symm (by decide) rfl (fun ls hl => ?_)
                  refine lv_goto (tgt := 5) hx hb dX3_farmTold_142 (by decide) ?_
                  exact ih5 (xv + 1) (kv + 1) (by omega) (by first | assumption | omega) (by rw [msum_s _ hk.1]; first | (rw [bP_f (fun z => absurd z.1 (by assumption))]; omega) | (rw [bP_t ⟨by assumption, by unfold cntP; omega⟩]; omega) | (rw [bP_f (fun z => by have z2 := z.2; unfold cntP at z2; omega)]; omega))  ls (lv_sub hl [5, 6, 7, 1, 0] rfl)
              · skip
                refine lv_iload_n hx hb dX3_farmTold_65 rfl (lv_at hl 4 rfl) ?_
                refine mf_iconst hx hb dX3_farmTold_66 ?_
                refine mf_icmp_ne (tgt := 83) hx hb dX3_farmTold_67 (by decide) (i32_mk (by omega) (by omega)) (i32_mk (by decide) (by decide)) (fun c59 => ?_) (fun c59 => ?_)
                · skip
                  refine lv_iload_n hx hb dX3_farmTold_83 rfl (lv_at hl 4 rfl) ?_
                  refine mf_iconst hx hb dX3_farmTold_84 ?_
                  refine mf_icmp_ne (tgt := 96) hx hb dX3_farmTold_85 (by decide) (i32_mk (by omega) (by omega)) (i32_mk (by decide) (by decide)) (fun c60 => ?_) (fun c60 => ?_)
                  · skip
                    refine lv_iload_n hx hb dX3_farmTold_96 rfl (lv_at hl 4 rfl) ?_
                    refine mf_iconst hx hb dX3_farmTold_97 ?_
                    refine mf_icmp_ne (tgt := 109) hx hb dX3_farmTold_98 (by decide) (i32_mk (by omega) (by omega)) (i32_mk (by decide) (by decide)) (fun c61 => ?_) (fun c61 => ?_)
                    · skip
                      refine lv_aload_n hx hb dX3_farmTold_109 rfl (lv_at hl 2 rfl) ?_
                      refine va_get (D := G.1) (ci := 3) (v := .ref (adm 2)) (C := RX3) (T := TX3) (N := 11) hx hb hts hinX3 hown hK hP 0 rfl rfl 2 (by decide) (hts (.fieldLink RX3 13 "MeanderFarmModel" "stones" "[Z") (List.mem_of_getElem? (i := 3) rfl)) (fun _ h9 => h9) rfl dX3_farmTold_110 ?_
                      refine lv_iload hx hb dX3_farmTold_113 (lv_at hl 6 rfl) ?_
                      refine mf_zald (n := 384) (f := u 2) hx hb hK hP 2 1 rfl rfl (z := kv) (by omega) (by omega) (by decide) dX3_farmTold_115 ?_
                      refine mf_top (u 2 kv) (r 2 kv) (by rw [(rel2 hrel (z := kv) (by omega) (by omega))]) ?_
                      have b62 : (0 : Int) ≤ r 2 kv ∧ r 2 kv ≤ 1 := ok 2 (kv)
                      refine mf_if_eq (tgt := 123) hx hb dX3_farmTold_116 (by decide) (i32_mk (by omega) (by omega)) (fun c63 => ?_) (fun c63 => ?_)
                      · skip
                        refine mf_iconst hx hb dX3_farmTold_123 ?_
                        refine lv_istore (lv' := [(7, .int (iI (0))), (6, .int (iI (1))), (5, .int (iI (1))), (0, .ref hm), (1, .int (iI (fk))), (2, .int (iI (wv))), (3, .int (iI (xv))), (4, .int (iI (kv)))]) hx hb dX3_farmTold_124 hl (by decide) rfl (fun ls hl => ?_)
                        refine lv_iload_n hx hb dX3_farmTold_126 rfl (lv_at hl 6 rfl) ?_
                        refine lv_iload hx hb dX3_farmTold_127 (lv_at hl 0 rfl) ?_
                        refine mf_if_eq (tgt := 136) hx hb dX3_farmTold_129 (by decide) (i32_mk (by decide) (by decide)) (fun c64 => ?_) (fun c64 => ?_)
                        · skip
                          refine mf_iconst hx hb dX3_farmTold_136 ?_
                          refine mf_iadd hx hb dX3_farmTold_137 ?_
                          refine lv_istore_n (lv' := [(3, .int (iI (xv + 0))), (7, .int (iI (0))), (6, .int (iI (1))), (5, .int (iI (1))), (0, .ref hm), (1, .int (iI (fk))), (2, .int (iI (wv))), (4, .int (iI (kv)))]) hx hb dX3_farmTold_138 rfl hl (by decide) rfl (fun ls hl => ?_)
                          refine lv_iinc (v := iI (kv + 1)) (lv' := [(4, .int (iI (kv + 1))), (3, .int (iI (xv + 0))), (7, .int (iI (0))), (6, .int (iI (1))), (5, .int (iI (1))), (0, .ref hm), (1, .int (iI (fk))), (2, .int (iI (wv)))]) hx hb dX3_farmTold_139 hl (k := 7) rfl (iI_add _ _).symm (by decide) rfl (fun ls hl => ?_)
                          refine lv_goto (tgt := 5) hx hb dX3_farmTold_142 (by decide) ?_
                          exact ih5 (xv + 0) (kv + 1) (by omega) (by first | assumption | omega) (by rw [msum_s _ hk.1]; first | (rw [bP_f (fun z => absurd z.1 (by assumption))]; omega) | (rw [bP_t ⟨by assumption, by unfold cntP; omega⟩]; omega) | (rw [bP_f (fun z => by have z2 := z.2; unfold cntP at z2; omega)]; omega))  ls (lv_sub hl [5, 6, 7, 1, 0] rfl)
                        · skip
                          exact absurd c64 (by omega)
                      · skip
                        refine mf_iconst hx hb dX3_farmTold_119 ?_
                        refine lv_goto (tgt := 124) hx hb dX3_farmTold_120 (by decide) ?_
                        refine lv_istore (lv' := [(7, .int (iI (1))), (6, .int (iI (1))), (5, .int (iI (1))), (0, .ref hm), (1, .int (iI (fk))), (2, .int (iI (wv))), (3, .int (iI (xv))), (4, .int (iI (kv)))]) hx hb dX3_farmTold_124 hl (by decide) rfl (fun ls hl => ?_)
                        refine lv_iload_n hx hb dX3_farmTold_126 rfl (lv_at hl 6 rfl) ?_
                        refine lv_iload hx hb dX3_farmTold_127 (lv_at hl 0 rfl) ?_
                        refine mf_if_eq (tgt := 136) hx hb dX3_farmTold_129 (by decide) (i32_mk (by decide) (by decide)) (fun c65 => ?_) (fun c65 => ?_)
                        · skip
                          exact absurd c65 (by omega)
                        · skip
                          refine mf_iconst hx hb dX3_farmTold_132 ?_
                          refine lv_goto (tgt := 137) hx hb dX3_farmTold_133 (by decide) ?_
                          refine mf_iadd hx hb dX3_farmTold_137 ?_
                          refine lv_istore_n (lv' := [(3, .int (iI (xv + 1))), (7, .int (iI (1))), (6, .int (iI (1))), (5, .int (iI (1))), (0, .ref hm), (1, .int (iI (fk))), (2, .int (iI (wv))), (4, .int (iI (kv)))]) hx hb dX3_farmTold_138 rfl hl (by decide) rfl (fun ls hl => ?_)
                          refine lv_iinc (v := iI (kv + 1)) (lv' := [(4, .int (iI (kv + 1))), (3, .int (iI (xv + 1))), (7, .int (iI (1))), (6, .int (iI (1))), (5, .int (iI (1))), (0, .ref hm), (1, .int (iI (fk))), (2, .int (iI (wv)))]) hx hb dX3_farmTold_139 hl (k := 7) rfl (iI_add _ _).symm (by decide) rfl (fun ls hl => ?_)
                          refine lv_goto (tgt := 5) hx hb dX3_farmTold_142 (by decide) ?_
                          exact ih5 (xv + 1) (kv + 1) (by omega) (by first | assumption | omega) (by rw [msum_s _ hk.1]; first | (rw [bP_f (fun z => absurd z.1 (by assumption))]; omega) | (rw [bP_t ⟨by assumption, by unfold cntP; omega⟩]; omega) | (rw [bP_f (fun z => by have z2 := z.2; unfold cntP at z2; omega)]; omega))  ls (lv_sub hl [5, 6, 7, 1, 0] rfl)
                    · skip
                      refine lv_iload hx hb dX3_farmTold_101 (lv_at hl 0 rfl) ?_
                      refine mf_if_eq (tgt := 123) hx hb dX3_farmTold_103 (by decide) (i32_mk (by decide) (by decide)) (fun c66 => ?_) (fun c66 => ?_)
                      · skip
                        exact absurd c66 (by omega)
                      · skip
                        refine lv_goto (tgt := 119) hx hb dX3_farmTold_106 (by decide) ?_
                        refine mf_iconst hx hb dX3_farmTold_119 ?_
                        refine lv_goto (tgt := 124) hx hb dX3_farmTold_120 (by decide) ?_
                        refine lv_istore (lv' := [(7, .int (iI (1))), (6, .int (iI (1))), (5, .int (iI (1))), (0, .ref hm), (1, .int (iI (fk))), (2, .int (iI (wv))), (3, .int (iI (xv))), (4, .int (iI (kv)))]) hx hb dX3_farmTold_124 hl (by decide) rfl (fun ls hl => ?_)
                        refine lv_iload_n hx hb dX3_farmTold_126 rfl (lv_at hl 6 rfl) ?_
                        refine lv_iload hx hb dX3_farmTold_127 (lv_at hl 0 rfl) ?_
                        refine mf_if_eq (tgt := 136) hx hb dX3_farmTold_129 (by decide) (i32_mk (by decide) (by decide)) (fun c67 => ?_) (fun c67 => ?_)
                        · skip
                          exact absurd c67 (by omega)
                        · skip
                          refine mf_iconst hx hb dX3_farmTold_132 ?_
                          refine lv_goto (tgt := 137) hx hb dX3_farmTold_133 (by decide) ?_
                          refine mf_iadd hx hb dX3_farmTold_137 ?_
                          refine lv_istore_n (lv' := [(3, .int (iI (xv + 1))), (7, .int (iI (1))), (6, .int (iI (1))), (5, .int (iI (1))), (0, .ref hm), (1, .int (iI (fk))), (2, .int (iI (wv))), (4, .int (iI (kv)))]) hx hb dX3_farmTold_138 rfl hl (by decide) rfl (fun ls hl => ?_)
                          refine lv_iinc (v := iI (kv + 1)) (lv' := [(4, .int (iI (kv + 1))), (3, .int (iI (xv + 1))), (7, .int (iI (1))), (6, .int (iI (1))), (5, .int (iI (1))), (0, .ref hm), (1, .int (iI (fk))), (2, .int (iI (wv)))]) hx hb dX3_farmTold_139 hl (k := 7) rfl (iI_add _ _).symm (by decide) rfl (fun ls hl => ?_)
                          refine lv_goto (tgt := 5) hx hb dX3_farmTold_142 (by decide) ?_
                          exact ih5 (xv + 1) (kv + 1) (by omega) (by first | assumption | omega) (by rw [msum_s _ hk.1]; first | (rw [bP_f (fun z => absurd z.1 (by assumption))]; omega) | (rw [bP_t ⟨by assumption, by unfold cntP; omega⟩]; omega) | (rw [bP_f (fun z => by have z2 := z.2; unfold cntP at z2; omega)]; omega))  ls (lv_sub hl [5, 6, 7, 1, 0] rfl)
                  · skip
                    refine lv_iload hx hb dX3_farmTold_88 (lv_at hl 1 rfl) ?_
                    refine mf_if_eq (tgt := 123) hx hb dX3_farmTold_90 (by decide) (i32_mk (by decide) (by decide)) (fun c68 => ?_) (fun c68 => ?_)
                    · skip
                      exact absurd c68 (by omega)
                    · skip
                      refine lv_goto (tgt := 119) hx hb dX3_farmTold_93 (by decide) ?_
                      refine mf_iconst hx hb dX3_farmTold_119 ?_
                      refine lv_goto (tgt := 124) hx hb dX3_farmTold_120 (by decide) ?_
                      refine lv_istore (lv' := [(7, .int (iI (1))), (6, .int (iI (1))), (5, .int (iI (1))), (0, .ref hm), (1, .int (iI (fk))), (2, .int (iI (wv))), (3, .int (iI (xv))), (4, .int (iI (kv)))]) hx hb dX3_farmTold_124 hl (by decide) rfl (fun ls hl => ?_)
                      refine lv_iload_n hx hb dX3_farmTold_126 rfl (lv_at hl 6 rfl) ?_
                      refine lv_iload hx hb dX3_farmTold_127 (lv_at hl 0 rfl) ?_
                      refine mf_if_eq (tgt := 136) hx hb dX3_farmTold_129 (by decide) (i32_mk (by decide) (by decide)) (fun c69 => ?_) (fun c69 => ?_)
                      · skip
                        exact absurd c69 (by omega)
                      · skip
                        refine mf_iconst hx hb dX3_farmTold_132 ?_
                        refine lv_goto (tgt := 137) hx hb dX3_farmTold_133 (by decide) ?_
                        refine mf_iadd hx hb dX3_farmTold_137 ?_
                        refine lv_istore_n (lv' := [(3, .int (iI (xv + 1))), (7, .int (iI (1))), (6, .int (iI (1))), (5, .int (iI (1))), (0, .ref hm), (1, .int (iI (fk))), (2, .int (iI (wv))), (4, .int (iI (kv)))]) hx hb dX3_farmTold_138 rfl hl (by decide) rfl (fun ls hl => ?_)
                        refine lv_iinc (v := iI (kv + 1)) (lv' := [(4, .int (iI (kv + 1))), (3, .int (iI (xv + 1))), (7, .int (iI (1))), (6, .int (iI (1))), (5, .int (iI (1))), (0, .ref hm), (1, .int (iI (fk))), (2, .int (iI (wv)))]) hx hb dX3_farmTold_139 hl (k := 7) rfl (iI_add _ _).symm (by decide) rfl (fun ls hl => ?_)
                        refine lv_goto (tgt := 5) hx hb dX3_farmTold_142 (by decide) ?_
                        exact ih5 (xv + 1) (kv + 1) (by omega) (by first | assumption | omega) (by rw [msum_s _ hk.1]; first | (rw [bP_f (fun z => absurd z.1 (by assumption))]; omega) | (rw [bP_t ⟨by assumption, by unfold cntP; omega⟩]; omega) | (rw [bP_f (fun z => by have z2 := z.2; unfold cntP at z2; omega)]; omega))  ls (lv_sub hl [5, 6, 7, 1, 0] rfl)
                · skip
                  refine lv_iload hx hb dX3_farmTold_70 (lv_at hl 1 rfl) ?_
                  refine mf_if_ne (tgt := 123) hx hb dX3_farmTold_72 (by decide) (i32_mk (by decide) (by decide)) (fun c70 => ?_) (fun c70 => ?_)
                  · skip
                    refine mf_iconst hx hb dX3_farmTold_123 ?_
                    refine lv_istore (lv' := [(7, .int (iI (0))), (6, .int (iI (1))), (5, .int (iI (1))), (0, .ref hm), (1, .int (iI (fk))), (2, .int (iI (wv))), (3, .int (iI (xv))), (4, .int (iI (kv)))]) hx hb dX3_farmTold_124 hl (by decide) rfl (fun ls hl => ?_)
                    refine lv_iload_n hx hb dX3_farmTold_126 rfl (lv_at hl 6 rfl) ?_
                    refine lv_iload hx hb dX3_farmTold_127 (lv_at hl 0 rfl) ?_
                    refine mf_if_eq (tgt := 136) hx hb dX3_farmTold_129 (by decide) (i32_mk (by decide) (by decide)) (fun c71 => ?_) (fun c71 => ?_)
                    · skip
                      refine mf_iconst hx hb dX3_farmTold_136 ?_
                      refine mf_iadd hx hb dX3_farmTold_137 ?_
                      refine lv_istore_n (lv' := [(3, .int (iI (xv + 0))), (7, .int (iI (0))), (6, .int (iI (1))), (5, .int (iI (1))), (0, .ref hm), (1, .int (iI (fk))), (2, .int (iI (wv))), (4, .int (iI (kv)))]) hx hb dX3_farmTold_138 rfl hl (by decide) rfl (fun ls hl => ?_)
                      refine lv_iinc (v := iI (kv + 1)) (lv' := [(4, .int (iI (kv + 1))), (3, .int (iI (xv + 0))), (7, .int (iI (0))), (6, .int (iI (1))), (5, .int (iI (1))), (0, .ref hm), (1, .int (iI (fk))), (2, .int (iI (wv)))]) hx hb dX3_farmTold_139 hl (k := 7) rfl (iI_add _ _).symm (by decide) rfl (fun ls hl => ?_)
                      refine lv_goto (tgt := 5) hx hb dX3_farmTold_142 (by decide) ?_
                      exact ih5 (xv + 0) (kv + 1) (by omega) (by first | assumption | omega) (by rw [msum_s _ hk.1]; first | (rw [bP_f (fun z => absurd z.1 (by assumption))]; omega) | (rw [bP_t ⟨by assumption, by unfold cntP; omega⟩]; omega) | (rw [bP_f (fun z => by have z2 := z.2; unfold cntP at z2; omega)]; omega))  ls (lv_sub hl [5, 6, 7, 1, 0] rfl)
                    · skip
                      exact absurd c71 (by omega)
                  · skip
                    exact absurd c70 (by omega)
        · skip
          refine lv_goto (tgt := 139) hx hb dX3_farmTold_23 (by decide) ?_
          refine lv_iinc (v := iI (kv + 1)) (lv' := [(4, .int (iI (kv + 1))), (0, .ref hm), (1, .int (iI (fk))), (2, .int (iI (wv))), (3, .int (iI (xv)))]) hx hb dX3_farmTold_139 hl (k := 4) rfl (iI_add _ _).symm (by decide) rfl (fun ls hl => ?_)
          refine lv_goto (tgt := 5) hx hb dX3_farmTold_142 (by decide) ?_
          exact ih5 xv (kv + 1) (by omega) (by first | assumption | omega) (by rw [msum_s _ hk.1]; first | (rw [bP_f (fun z => absurd z.1 (by assumption))]; omega) | (rw [bP_t ⟨by assumption, by unfold cntP; omega⟩]; omega) | (rw [bP_f (fun z => by have z2 := z.2; unfold cntP at z2; omega)]; omega))  ls (lv_sub hl [1, 2, 3, 4, 0] rfl)
  exact lp5 (_ + 1) 0 0 (Nat.lt_succ_self _) (by first | assumption | omega) (by rfl)  ls (lv_sub hl [2, 3, 4, 1, 0] rfl)
set_option maxHeartbeats 4000000 in
set_option maxRecDepth 100000 in
theorem c_X3_counted (l : Launch) (G : mf_G) (hm : Nat) (adm : Nat → Nat) (u : mf_V) (wv : Int) (r : mf_V) (hwv : i32 wv) (oku : rOK ulo uhi u) (ok : rOK rlo rhi r) (hI : RInv r) (hrel : relU r u) (hw9 : 0 ≤ wv ∧ wv ≤ 7) : Met l yX3_counted wsX3_counted ({ frames := 2, cells := 0, slots := 0, locals := 43 }) (va_Pc [.ref hm, .int (iI (wv))] (RdP G (MW G hm adm u))) (vp_Si (fun q => q = iI (totF r (u 4 0) wv))) 0 0 (fun _ => False) := by
  refine Met.ofW (cc := cX3_counted) (maxL := 4) (ret := (some .int)) (by decide) rfl ?_
  intro p e s m args below meth c s₁ B hml hv
  obtain ⟨rfl, hP, hK, hN⟩ := hv
  have hx := B.exec
  have hb := B.bytes
  have hr := B.returns
  have hts := atoms_spec (ws := wsX3_counted) B.pre
  have hown : s.vm.findClass RX3 = some m.cls := findClass_of_methodNamed B.named
  have hlocks := B.notSynchronized
  have hinX3 : ∀ w ∈ u_ws RX3 TX3 11, w ∈ wsX3_counted := fun w h => List.mem_cons_of_mem _ (List.mem_append_right _ h)
  have hl := lv_entry ([.ref hm, .int (iI (wv))]) (n := 4) (Nat.le_of_ble_eq_true rfl)
  rw [lg_entry_eq]
  generalize (lg_sl ([.ref hm, .int (iI (wv))]) ++ List.replicate (4 - (lg_sl ([.ref hm, .int (iI (wv))])).length) Slot.unset).toArray = ls at hl ⊢
  have hl : lv_has ls 4 [(0, .ref hm), (1, .int (iI (wv)))] := hl
  have hwv1 := hwv.1
  have hwv2 := hwv.2
  have okLr : (0 : Int) ≤ r 7 0 ∧ r 7 0 ≤ 150 := ok 7 0
  refine mf_iconst hx hb dX3_counted_0 ?_
  refine lv_istore_n (lv' := [(2, .int (iI (0))), (0, .ref hm), (1, .int (iI (wv)))]) hx hb dX3_counted_1 rfl hl (by decide) rfl (fun ls hl => ?_)
  refine lv_iload_n hx hb dX3_counted_2 rfl (lv_at hl 2 rfl) ?_
  have w1 : i32 (wv) := (i32_mk (by omega) (by omega))
  rcases (show  (wv) = 0 ∨  (wv) = 1 ∨  (wv) = 2 ∨  (wv) = 3 ∨  (wv) = 4 ∨  (wv) = 5 ∨  (wv) = 6 ∨  ((wv) < 0 ∨ 6 < (wv)) by omega) with c2 | c2 | c2 | c2 | c2 | c2 | c2 | c2
  · skip
    refine lv_tableIn (off := 41) (tgt := 44) hx hb dX3_counted_3 (by rw [iI_toInt w1]; omega) (by rw [iI_toInt w1]; omega) (by rw [iI_toInt w1, c2]; rfl) (by decide) ?_
    refine lv_aload_n hx hb dX3_counted_44 rfl (lv_at hl 1 rfl) ?_
    refine va_get (D := G.1) (ci := 3) (v := .ref (adm 10)) (C := RX3) (T := TX3) (N := 11) hx hb hts hinX3 hown hK hP 0 rfl rfl 10 (by decide) (hts (.fieldLink RX3 35 "MeanderFarmModel" "numbers" "[I") (List.mem_of_getElem? (i := 1) rfl)) (fun _ h9 => h9) rfl dX3_counted_45 ?_
    refine mf_iconst hx hb dX3_counted_48 ?_
    refine mf_iald (n := 3) (f := u 10) hx hb hK hP 9 0 rfl rfl (z := 0) (by omega) (by omega) (by decide) dX3_counted_49 ?_
    refine mf_top (u 10 0) (r 8 0) (by rw [rel10_0 hrel]) ?_
    have b3 : (0 : Int) ≤ r 8 0 ∧ r 8 0 ≤ 90000 := ok 8 0
    exact W.iret hx hb hr (fun t ht hW => ⟨_, rfl, (congrArg iI (by unfold totF; rw [if_pos (by omega)])), ht⟩) t_nil dX3_counted_50
  · skip
    refine lv_tableIn (off := 48) (tgt := 51) hx hb dX3_counted_3 (by rw [iI_toInt w1]; omega) (by rw [iI_toInt w1]; omega) (by rw [iI_toInt w1, c2]; rfl) (by decide) ?_
    refine lv_aload_n hx hb dX3_counted_51 rfl (lv_at hl 1 rfl) ?_
    refine vp_callSi (va_Run.run (va_runV (As := []) (rest := []) ⟨hx, hb, hml, hown, hts⟩ (c_X3_length l G hm adm u (by assumption)) (cwV 0 hts gX3_counted_X3_length rfl rfl rfl (by decide +kernel) ⟨Nat.le_of_ble_eq_true rfl, Nat.le_of_ble_eq_true rfl⟩) (rdV (wc := MW G hm adm u) hK hP hN [0, 1, 2, 3, 4, 5, 6, 7, 8, 9] rfl (ci := 3) rfl rfl) rfl rfl hl.1 rfl (lv_room (Nat.le_of_ble_eq_true rfl)) dX3_counted_52 ⟨(Nat.zero_le _), (Nat.zero_le _)⟩)) (fun q4 hq4 => ?_)
    subst hq4
    refine mf_top (u 10 2) (r 7 0) (by rw [rel10_2 hrel]) ?_
    have b5 : (0 : Int) ≤ r 7 0 ∧ r 7 0 ≤ 150 := ok 7 0
    exact W.iret hx hb hr (fun t ht hW => ⟨_, rfl, (congrArg iI (by unfold totF; rw [if_neg (by omega), if_pos (by omega)])), ht⟩) t_nil dX3_counted_55
  · skip
    refine lv_tableIn (off := 106) (tgt := 109) hx hb dX3_counted_3 (by rw [iI_toInt w1]; omega) (by rw [iI_toInt w1]; omega) (by rw [iI_toInt w1, c2]; rfl) (by decide) ?_
    refine mf_iconst hx hb dX3_counted_109 ?_
    refine lv_istore_n (lv' := [(3, .int (iI (0))), (2, .int (iI (0))), (0, .ref hm), (1, .int (iI (wv)))]) hx hb dX3_counted_110 rfl hl (by decide) rfl (fun ls hl => ?_)
    have lp111 : ∀ (n : Nat) (xv : Int) (kv : Int), (384 - kv).toNat < n → (0 ≤ kv ∧ kv ≤ 384) → (xv = msum (fun c => if wv = 7 then r 1 c else bP (r 8 0 < r 3 c)) kv) → ∀ (ls : Array Slot), lv_has ls 4 [(0, .ref hm), (1, .int (iI (wv))), (2, .int (iI (xv))), (3, .int (iI (kv)))] → W p l e (headSpec wsX3_counted ({ frames := 2, cells := 0, slots := 0, locals := 43 })).room s m ([.ref hm, .int (iI (wv))] : List Value).toArray below meth c s.heap [] 0 0 (MQ below (vp_Si (fun q => q = iI (totF r (u 4 0) wv))) ([.ref hm, .int (iI (wv))] : List Value).toArray s 0 0 (fun _ => False)) (F0 m 111 ls []) := by
      intro n
      induction n with
      | zero => intro xv kv hn; exact absurd hn (Nat.not_lt_zero _)
      | succ n ih111 =>
        intro xv kv hn hk hs ls hl
        refine lv_iload_n hx hb dX3_counted_111 rfl (lv_at hl 3 rfl) ?_
        refine mf_sipush hx hb dX3_counted_112 rfl ?_
        refine mf_icmp_ge (tgt := 156) hx hb dX3_counted_115 (by decide) (i32_mk (by omega) (by omega)) (i32_mk (by decide) (by decide)) (fun c6 => ?_) (fun c6 => ?_)
        · skip
          refine lv_iload_n hx hb dX3_counted_156 rfl (lv_at hl 2 rfl) ?_
          exact W.iret hx hb hr (fun t ht hW => ⟨_, rfl, (congrArg iI (by rw [show kv = 384 by omega] at hs; rw [hs]; unfold totF; rw [if_neg (by omega), if_neg (by omega)]; by_cases q : wv = 7; (rw [if_neg (by omega), if_neg (by omega), if_neg (by omega), if_neg (by omega), if_neg (by omega)]; unfold wearF; exact msum_cg (by decide) (fun z _ _ => if_pos q)); (rw [if_pos (by omega)]; unfold lakesF; exact msum_cg (by decide) (fun z _ _ => if_neg q)))), ht⟩) t_nil dX3_counted_157
        · skip
          refine lv_iload_n hx hb dX3_counted_118 rfl (lv_at hl 2 rfl) ?_
          refine lv_iload_n hx hb dX3_counted_119 rfl (lv_at hl 1 rfl) ?_
          refine mf_bipush hx hb dX3_counted_120 rfl ?_
          refine mf_icmp_ne (tgt := 134) hx hb dX3_counted_122 (by decide) (i32_mk (by omega) (by omega)) (i32_mk (by decide) (by decide)) (fun c7 => ?_) (fun c7 => ?_)
          · skip
            refine lv_aload_n hx hb dX3_counted_134 rfl (lv_at hl 0 rfl) ?_
            refine va_get (D := G.1) (ci := 3) (v := .ref (adm 9)) (C := RX3) (T := TX3) (N := 11) hx hb hts hinX3 hown hK hP 0 rfl rfl 9 (by decide) (hts (.fieldLink RX3 32 "MeanderFarmModel" "lake" "[I") (List.mem_of_getElem? (i := 4) rfl)) (fun _ h9 => h9) rfl dX3_counted_135 ?_
            refine lv_iload_n hx hb dX3_counted_138 rfl (lv_at hl 3 rfl) ?_
            refine mf_iald (n := 384) (f := u 9) hx hb hK hP 8 0 rfl rfl (z := kv) (by omega) (by omega) (by decide) dX3_counted_139 ?_
            refine mf_top (u 9 kv) (lyl r kv) (by rw [(rel9 hrel (z := kv) (by omega) (by omega))]) ?_
            have b8 := lyl_b ok (kv)
            refine mf_if_le (tgt := 147) hx hb dX3_counted_140 (by decide) (i32_mk (by omega) (by omega)) (fun c9 => ?_) (fun c9 => ?_)
            · skip
              refine mf_iconst hx hb dX3_counted_147 ?_
              refine mf_iadd hx hb dX3_counted_148 ?_
              refine lv_istore_n (lv' := [(2, .int (iI (xv + 0))), (0, .ref hm), (1, .int (iI (wv))), (3, .int (iI (kv)))]) hx hb dX3_counted_149 rfl hl (by decide) rfl (fun ls hl => ?_)
              refine lv_iinc (v := iI (kv + 1)) (lv' := [(3, .int (iI (kv + 1))), (2, .int (iI (xv + 0))), (0, .ref hm), (1, .int (iI (wv)))]) hx hb dX3_counted_150 hl (k := 3) rfl (iI_add _ _).symm (by decide) rfl (fun ls hl => ?_)
              refine lv_goto (tgt := 111) hx hb dX3_counted_153 (by decide) ?_
              exact ih111 (xv + 0) (kv + 1) (by omega) (by first | assumption | omega) (by rw [msum_s _ hk.1]; have lp := lyl_pos (r := r) hk.1 (show kv < 384 by omega); first | (rw [if_pos (by assumption)]; omega) | (rw [if_neg (by assumption), bP_t (by omega)]; omega) | (rw [if_neg (by assumption), bP_f (by omega)]; omega))  ls (lv_sub hl [2, 3, 1, 0] rfl)
            · skip
              refine mf_iconst hx hb dX3_counted_143 ?_
              refine lv_goto (tgt := 148) hx hb dX3_counted_144 (by decide) ?_
              refine mf_iadd hx hb dX3_counted_148 ?_
              refine lv_istore_n (lv' := [(2, .int (iI (xv + 1))), (0, .ref hm), (1, .int (iI (wv))), (3, .int (iI (kv)))]) hx hb dX3_counted_149 rfl hl (by decide) rfl (fun ls hl => ?_)
              refine lv_iinc (v := iI (kv + 1)) (lv' := [(3, .int (iI (kv + 1))), (2, .int (iI (xv + 1))), (0, .ref hm), (1, .int (iI (wv)))]) hx hb dX3_counted_150 hl (k := 3) rfl (iI_add _ _).symm (by decide) rfl (fun ls hl => ?_)
              refine lv_goto (tgt := 111) hx hb dX3_counted_153 (by decide) ?_
              exact ih111 (xv + 1) (kv + 1) (by omega) (by first | assumption | omega) (by rw [msum_s _ hk.1]; have lp := lyl_pos (r := r) hk.1 (show kv < 384 by omega); first | (rw [if_pos (by assumption)]; omega) | (rw [if_neg (by assumption), bP_t (by omega)]; omega) | (rw [if_neg (by assumption), bP_f (by omega)]; omega))  ls (lv_sub hl [2, 3, 1, 0] rfl)
          · skip
            refine lv_aload_n hx hb dX3_counted_125 rfl (lv_at hl 0 rfl) ?_
            refine va_get (D := G.1) (ci := 3) (v := .ref (adm 8)) (C := RX3) (T := TX3) (N := 11) hx hb hts hinX3 hown hK hP 0 rfl rfl 8 (by decide) (hts (.fieldLink RX3 29 "MeanderFarmModel" "wear" "[I") (List.mem_of_getElem? (i := 3) rfl)) (fun _ h9 => h9) rfl dX3_counted_126 ?_
            refine lv_iload_n hx hb dX3_counted_129 rfl (lv_at hl 3 rfl) ?_
            refine mf_iald (n := 384) (f := u 8) hx hb hK hP 7 0 rfl rfl (z := kv) (by omega) (by omega) (by decide) dX3_counted_130 ?_
            refine mf_top (u 8 kv) (r 1 kv) (by rw [(rel8 hrel (z := kv) (by omega) (by omega))]) ?_
            have b10 : (0 : Int) ≤ r 1 kv ∧ r 1 kv ≤ 200000000 := ok 1 (kv)
            refine lv_goto (tgt := 148) hx hb dX3_counted_131 (by decide) ?_
            refine mf_iadd hx hb dX3_counted_148 ?_
            refine lv_istore_n (lv' := [(2, .int (iI (xv + (r 1 kv)))), (0, .ref hm), (1, .int (iI (wv))), (3, .int (iI (kv)))]) hx hb dX3_counted_149 rfl hl (by decide) rfl (fun ls hl => ?_)
            refine lv_iinc (v := iI (kv + 1)) (lv' := [(3, .int (iI (kv + 1))), (2, .int (iI (xv + (r 1 kv)))), (0, .ref hm), (1, .int (iI (wv)))]) hx hb dX3_counted_150 hl (k := 3) rfl (iI_add _ _).symm (by decide) rfl (fun ls hl => ?_)
            refine lv_goto (tgt := 111) hx hb dX3_counted_153 (by decide) ?_
            exact ih111 (xv + (r 1 kv)) (kv + 1) (by omega) (by first | assumption | omega) (by rw [msum_s _ hk.1]; have lp := lyl_pos (r := r) hk.1 (show kv < 384 by omega); first | (rw [if_pos (by assumption)]; omega) | (rw [if_neg (by assumption), bP_t (by omega)]; omega) | (rw [if_neg (by assumption), bP_f (by omega)]; omega))  ls (lv_sub hl [2, 3, 1, 0] rfl)
    exact lp111 (_ + 1) 0 0 (Nat.lt_succ_self _) (by first | assumption | omega) (by rfl)  ls (lv_sub hl [2, 3, 1, 0] rfl)
  · skip
    refine lv_tableIn (off := 53) (tgt := 56) hx hb dX3_counted_3 (by rw [iI_toInt w1]; omega) (by rw [iI_toInt w1]; omega) (by rw [iI_toInt w1, c2]; rfl) (by decide) ?_
    refine lv_aload_n hx hb dX3_counted_56 rfl (lv_at hl 1 rfl) ?_
    refine va_get (D := G.1) (ci := 3) (v := .ref (adm 10)) (C := RX3) (T := TX3) (N := 11) hx hb hts hinX3 hown hK hP 0 rfl rfl 10 (by decide) (hts (.fieldLink RX3 35 "MeanderFarmModel" "numbers" "[I") (List.mem_of_getElem? (i := 1) rfl)) (fun _ h9 => h9) rfl dX3_counted_57 ?_
    refine mf_iconst hx hb dX3_counted_60 ?_
    refine mf_iald (n := 3) (f := u 10) hx hb hK hP 9 0 rfl rfl (z := 1) (by omega) (by omega) (by decide) dX3_counted_61 ?_
    refine mf_top (u 10 1) (r 9 0) (by rw [rel10_1 hrel]) ?_
    have b11 : (0 : Int) ≤ r 9 0 ∧ r 9 0 ≤ 100000000 := ok 9 0
    exact W.iret hx hb hr (fun t ht hW => ⟨_, rfl, (congrArg iI (by unfold totF; rw [if_neg (by omega), if_neg (by omega), if_neg (by omega), if_pos (by omega)])), ht⟩) t_nil dX3_counted_62
  · skip
    refine lv_tableIn (off := 60) (tgt := 63) hx hb dX3_counted_3 (by rw [iI_toInt w1]; omega) (by rw [iI_toInt w1]; omega) (by rw [iI_toInt w1, c2]; rfl) (by decide) ?_
    refine lv_aload_n hx hb dX3_counted_63 rfl (lv_at hl 1 rfl) ?_
    refine va_get (D := G.1) (ci := 3) (v := .int (iI (u 4 0))) (C := RX3) (T := TX3) (N := 11) hx hb hts hinX3 hown hK hP 0 rfl rfl 4 (by decide) (hts (.fieldLink RX3 64 "MeanderFarmModel" "farms" "I") (List.mem_of_getElem? (i := 2) rfl)) (fun _ h9 => h9) rfl dX3_counted_64 ?_
    have b12 : (0 : Int) ≤ u 4 0 ∧ u 4 0 ≤ 6 := oku 4 (0)
    exact W.iret hx hb hr (fun t ht hW => ⟨_, rfl, (congrArg iI (by unfold totF; rw [if_neg (by omega), if_neg (by omega), if_neg (by omega), if_neg (by omega), if_pos (by omega)])), ht⟩) t_nil dX3_counted_67
  · skip
    refine lv_tableIn (off := 65) (tgt := 68) hx hb dX3_counted_3 (by rw [iI_toInt w1]; omega) (by rw [iI_toInt w1]; omega) (by rw [iI_toInt w1, c2]; rfl) (by decide) ?_
    refine lv_aload_n hx hb dX3_counted_68 rfl (lv_at hl 1 rfl) ?_
    refine vp_callSi (va_Run.run (va_runV (As := []) (rest := []) ⟨hx, hb, hml, hown, hts⟩ (c_X3_allStones l G hm adm u (_) (by assumption) (by assumption) (by first | assumption | omega) (by first | assumption | omega)) (cwV 0 hts gX3_counted_X3_allStones rfl rfl rfl (by decide +kernel) ⟨Nat.le_of_ble_eq_true rfl, Nat.le_of_ble_eq_true rfl⟩) (rdV (wc := MW G hm adm u) hK hP hN [0, 1, 2, 3, 4, 5, 6, 7, 8, 9] rfl (ci := 3) rfl rfl) rfl rfl hl.1 rfl (lv_room (Nat.le_of_ble_eq_true rfl)) dX3_counted_69 ⟨(Nat.zero_le _), (Nat.zero_le _)⟩)) (fun q13 hq13 => ?_)
    subst hq13
    have b14 : 0 ≤ (stonesF r) ∧ (stonesF r) ≤ 384 := stonesF_b r
    exact W.iret hx hb hr (fun t ht hW => ⟨_, rfl, (congrArg iI (by unfold totF; rw [if_neg (by omega), if_neg (by omega), if_neg (by omega), if_neg (by omega), if_neg (by omega), if_pos (by omega)])), ht⟩) t_nil dX3_counted_72
  · skip
    refine lv_tableIn (off := 70) (tgt := 73) hx hb dX3_counted_3 (by rw [iI_toInt w1]; omega) (by rw [iI_toInt w1]; omega) (by rw [iI_toInt w1, c2]; rfl) (by decide) ?_
    refine mf_iconst hx hb dX3_counted_73 ?_
    refine lv_istore_n (lv' := [(3, .int (iI (1))), (2, .int (iI (0))), (0, .ref hm), (1, .int (iI (wv)))]) hx hb dX3_counted_74 rfl hl (by decide) rfl (fun ls hl => ?_)
    have lp75 : ∀ (n : Nat) (xv : Int) (kv : Int), (r 7 0 - kv).toNat < n → (1 ≤ kv ∧ kv ≤ r 7 0 - 1) → (xv = msum (fun c => bP (1 ≤ c ∧ ¬ strP r c)) kv) → ∀ (ls : Array Slot), lv_has ls 4 [(0, .ref hm), (1, .int (iI (wv))), (2, .int (iI (xv))), (3, .int (iI (kv)))] → W p l e (headSpec wsX3_counted ({ frames := 2, cells := 0, slots := 0, locals := 43 })).room s m ([.ref hm, .int (iI (wv))] : List Value).toArray below meth c s.heap [] 0 0 (MQ below (vp_Si (fun q => q = iI (totF r (u 4 0) wv))) ([.ref hm, .int (iI (wv))] : List Value).toArray s 0 0 (fun _ => False)) (F0 m 75 ls []) := by
      intro n
      induction n with
      | zero => intro xv kv hn; exact absurd hn (Nat.not_lt_zero _)
      | succ n ih75 =>
        intro xv kv hn hk hs ls hl
        refine lv_iload_n hx hb dX3_counted_75 rfl (lv_at hl 3 rfl) ?_
        refine lv_aload_n hx hb dX3_counted_76 rfl (lv_at hl 0 rfl) ?_
        refine vp_callSi (va_Run.run (va_runV (As := []) (rest := [.int (iI (kv))]) ⟨hx, hb, hml, hown, hts⟩ (c_X3_length l G hm adm u (by assumption)) (cwV 0 hts gX3_counted_X3_length rfl rfl rfl (by decide +kernel) ⟨Nat.le_of_ble_eq_true rfl, Nat.le_of_ble_eq_true rfl⟩) (rdV (wc := MW G hm adm u) hK hP hN [0, 1, 2, 3, 4, 5, 6, 7, 8, 9] rfl (ci := 3) rfl rfl) rfl rfl hl.1 rfl (lv_room (Nat.le_of_ble_eq_true rfl)) dX3_counted_77 ⟨(Nat.zero_le _), (Nat.zero_le _)⟩)) (fun q15 hq15 => ?_)
        subst hq15
        refine mf_top (u 10 2) (r 7 0) (by rw [rel10_2 hrel]) ?_
        have b16 : (0 : Int) ≤ r 7 0 ∧ r 7 0 ≤ 150 := ok 7 0
        refine mf_iconst hx hb dX3_counted_80 ?_
        refine mf_isub hx hb dX3_counted_81 ?_
        refine mf_icmp_ge (tgt := 107) hx hb dX3_counted_82 (by decide) (i32_mk (by omega) (by omega)) (i32_mk (by omega) (by omega)) (fun c17 => ?_) (fun c17 => ?_)
        · skip
          refine lv_iload_n hx hb dX3_counted_107 rfl (lv_at hl 2 rfl) ?_
          exact W.iret hx hb hr (fun t ht hW => ⟨_, rfl, (congrArg iI (by unfold totF; rw [if_neg (by omega), if_neg (by omega), if_neg (by omega), if_neg (by omega), if_neg (by omega), if_neg (by omega), if_pos (by omega)]; rw [show kv = r 7 0 - 1 by omega] at hs; exact hs)), ht⟩) t_nil dX3_counted_108
        · skip
          refine lv_iload_n hx hb dX3_counted_85 rfl (lv_at hl 2 rfl) ?_
          refine lv_aload_n hx hb dX3_counted_86 rfl (lv_at hl 0 rfl) ?_
          refine lv_iload_n hx hb dX3_counted_87 rfl (lv_at hl 3 rfl) ?_
          refine vp_callSi (va_Run.run (va_runV (As := [.int (iI (kv))]) (rest := [.int (iI (xv))]) ⟨hx, hb, hml, hown, hts⟩ (c_X3_isStraight l G hm adm u (kv) (_) (i32_mk (by omega) (by omega)) (by assumption) (by assumption) (by first | assumption | omega) (by first | assumption | omega)) (cwV 1 hts gX3_counted_X3_isStraight rfl rfl rfl (by decide +kernel) ⟨Nat.le_of_ble_eq_true rfl, Nat.le_of_ble_eq_true rfl⟩) (rdV (wc := MW G hm adm u) hK hP hN [0, 1, 2, 3, 4, 5, 6, 7, 8, 9] rfl (ci := 3) rfl rfl) rfl rfl hl.1 rfl (lv_room (Nat.le_of_ble_eq_true rfl)) dX3_counted_88 ⟨(Nat.zero_le _), (Nat.zero_le _)⟩)) (fun q18 hq18 => ?_)
          subst hq18
          refine mf_bp_eq (tgt := 98) hx hb dX3_counted_91 (by decide) (fun c19 => ?_) (fun c19 => ?_)
          · skip
            have c19' := c19; unfold strP at c19'
            refine mf_iconst hx hb dX3_counted_98 ?_
            refine mf_iadd hx hb dX3_counted_99 ?_
            refine lv_istore_n (lv' := [(2, .int (iI (xv + 1))), (0, .ref hm), (1, .int (iI (wv))), (3, .int (iI (kv)))]) hx hb dX3_counted_100 rfl hl (by decide) rfl (fun ls hl => ?_)
            refine lv_iinc (v := iI (kv + 1)) (lv' := [(3, .int (iI (kv + 1))), (2, .int (iI (xv + 1))), (0, .ref hm), (1, .int (iI (wv)))]) hx hb dX3_counted_101 hl (k := 3) rfl (iI_add _ _).symm (by decide) rfl (fun ls hl => ?_)
            refine lv_goto (tgt := 75) hx hb dX3_counted_104 (by decide) ?_
            exact ih75 (xv + 1) (kv + 1) (by omega) (by first | assumption | omega) (by rw [msum_s _ (by omega)]; first | (rw [bP_t ⟨by omega, by assumption⟩]; omega) | (rw [bP_f (fun z => z.2 (by assumption))]; omega))  ls (lv_sub hl [2, 3, 1, 0] rfl)
          · skip
            have c19' := c19; unfold strP at c19'
            refine mf_iconst hx hb dX3_counted_94 ?_
            refine lv_goto (tgt := 99) hx hb dX3_counted_95 (by decide) ?_
            refine mf_iadd hx hb dX3_counted_99 ?_
            refine lv_istore_n (lv' := [(2, .int (iI (xv + 0))), (0, .ref hm), (1, .int (iI (wv))), (3, .int (iI (kv)))]) hx hb dX3_counted_100 rfl hl (by decide) rfl (fun ls hl => ?_)
            refine lv_iinc (v := iI (kv + 1)) (lv' := [(3, .int (iI (kv + 1))), (2, .int (iI (xv + 0))), (0, .ref hm), (1, .int (iI (wv)))]) hx hb dX3_counted_101 hl (k := 3) rfl (iI_add _ _).symm (by decide) rfl (fun ls hl => ?_)
            refine lv_goto (tgt := 75) hx hb dX3_counted_104 (by decide) ?_
            exact ih75 (xv + 0) (kv + 1) (by omega) (by first | assumption | omega) (by rw [msum_s _ (by omega)]; first | (rw [bP_t ⟨by omega, by assumption⟩]; omega) | (rw [bP_f (fun z => z.2 (by assumption))]; omega))  ls (lv_sub hl [2, 3, 1, 0] rfl)
    exact lp75 (_ + 1) 0 1 (Nat.lt_succ_self _) (by have := hI.1.1; omega) (by rw [show (1 : Int) = 0 + 1 from rfl, msum_s _ (by omega), bP_f (by omega), msum_0]; rfl)  ls (lv_sub hl [2, 3, 1, 0] rfl)
  · skip
    refine lv_tableOut (tgt := 109) hx hb dX3_counted_3 (by rw [iI_toInt w1]; omega) (by decide) ?_
    refine mf_iconst hx hb dX3_counted_109 ?_
    refine lv_istore_n (lv' := [(3, .int (iI (0))), (2, .int (iI (0))), (0, .ref hm), (1, .int (iI (wv)))]) hx hb dX3_counted_110 rfl hl (by decide) rfl (fun ls hl => ?_)
    have lp111 : ∀ (n : Nat) (xv : Int) (kv : Int), (384 - kv).toNat < n → (0 ≤ kv ∧ kv ≤ 384) → (xv = msum (fun c => if wv = 7 then r 1 c else bP (r 8 0 < r 3 c)) kv) → ∀ (ls : Array Slot), lv_has ls 4 [(0, .ref hm), (1, .int (iI (wv))), (2, .int (iI (xv))), (3, .int (iI (kv)))] → W p l e (headSpec wsX3_counted ({ frames := 2, cells := 0, slots := 0, locals := 43 })).room s m ([.ref hm, .int (iI (wv))] : List Value).toArray below meth c s.heap [] 0 0 (MQ below (vp_Si (fun q => q = iI (totF r (u 4 0) wv))) ([.ref hm, .int (iI (wv))] : List Value).toArray s 0 0 (fun _ => False)) (F0 m 111 ls []) := by
      intro n
      induction n with
      | zero => intro xv kv hn; exact absurd hn (Nat.not_lt_zero _)
      | succ n ih111 =>
        intro xv kv hn hk hs ls hl
        refine lv_iload_n hx hb dX3_counted_111 rfl (lv_at hl 3 rfl) ?_
        refine mf_sipush hx hb dX3_counted_112 rfl ?_
        refine mf_icmp_ge (tgt := 156) hx hb dX3_counted_115 (by decide) (i32_mk (by omega) (by omega)) (i32_mk (by decide) (by decide)) (fun c20 => ?_) (fun c20 => ?_)
        · skip
          refine lv_iload_n hx hb dX3_counted_156 rfl (lv_at hl 2 rfl) ?_
          exact W.iret hx hb hr (fun t ht hW => ⟨_, rfl, (congrArg iI (by rw [show kv = 384 by omega] at hs; rw [hs]; unfold totF; rw [if_neg (by omega), if_neg (by omega)]; by_cases q : wv = 7; (rw [if_neg (by omega), if_neg (by omega), if_neg (by omega), if_neg (by omega), if_neg (by omega)]; unfold wearF; exact msum_cg (by decide) (fun z _ _ => if_pos q)); (rw [if_pos (by omega)]; unfold lakesF; exact msum_cg (by decide) (fun z _ _ => if_neg q)))), ht⟩) t_nil dX3_counted_157
        · skip
          refine lv_iload_n hx hb dX3_counted_118 rfl (lv_at hl 2 rfl) ?_
          refine lv_iload_n hx hb dX3_counted_119 rfl (lv_at hl 1 rfl) ?_
          refine mf_bipush hx hb dX3_counted_120 rfl ?_
          refine mf_icmp_ne (tgt := 134) hx hb dX3_counted_122 (by decide) (i32_mk (by omega) (by omega)) (i32_mk (by decide) (by decide)) (fun c21 => ?_) (fun c21 => ?_)
          · skip
            refine lv_aload_n hx hb dX3_counted_134 rfl (lv_at hl 0 rfl) ?_
            refine va_get (D := G.1) (ci := 3) (v := .ref (adm 9)) (C := RX3) (T := TX3) (N := 11) hx hb hts hinX3 hown hK hP 0 rfl rfl 9 (by decide) (hts (.fieldLink RX3 32 "MeanderFarmModel" "lake" "[I") (List.mem_of_getElem? (i := 4) rfl)) (fun _ h9 => h9) rfl dX3_counted_135 ?_
            refine lv_iload_n hx hb dX3_counted_138 rfl (lv_at hl 3 rfl) ?_
            refine mf_iald (n := 384) (f := u 9) hx hb hK hP 8 0 rfl rfl (z := kv) (by omega) (by omega) (by decide) dX3_counted_139 ?_
            refine mf_top (u 9 kv) (lyl r kv) (by rw [(rel9 hrel (z := kv) (by omega) (by omega))]) ?_
            have b22 := lyl_b ok (kv)
            refine mf_if_le (tgt := 147) hx hb dX3_counted_140 (by decide) (i32_mk (by omega) (by omega)) (fun c23 => ?_) (fun c23 => ?_)
            · skip
              refine mf_iconst hx hb dX3_counted_147 ?_
              refine mf_iadd hx hb dX3_counted_148 ?_
              refine lv_istore_n (lv' := [(2, .int (iI (xv + 0))), (0, .ref hm), (1, .int (iI (wv))), (3, .int (iI (kv)))]) hx hb dX3_counted_149 rfl hl (by decide) rfl (fun ls hl => ?_)
              refine lv_iinc (v := iI (kv + 1)) (lv' := [(3, .int (iI (kv + 1))), (2, .int (iI (xv + 0))), (0, .ref hm), (1, .int (iI (wv)))]) hx hb dX3_counted_150 hl (k := 3) rfl (iI_add _ _).symm (by decide) rfl (fun ls hl => ?_)
              refine lv_goto (tgt := 111) hx hb dX3_counted_153 (by decide) ?_
              exact ih111 (xv + 0) (kv + 1) (by omega) (by first | assumption | omega) (by rw [msum_s _ hk.1]; have lp := lyl_pos (r := r) hk.1 (show kv < 384 by omega); first | (rw [if_pos (by assumption)]; omega) | (rw [if_neg (by assumption), bP_t (by omega)]; omega) | (rw [if_neg (by assumption), bP_f (by omega)]; omega))  ls (lv_sub hl [2, 3, 1, 0] rfl)
            · skip
              refine mf_iconst hx hb dX3_counted_143 ?_
              refine lv_goto (tgt := 148) hx hb dX3_counted_144 (by decide) ?_
              refine mf_iadd hx hb dX3_counted_148 ?_
              refine lv_istore_n (lv' := [(2, .int (iI (xv + 1))), (0, .ref hm), (1, .int (iI (wv))), (3, .int (iI (kv)))]) hx hb dX3_counted_149 rfl hl (by decide) rfl (fun ls hl => ?_)
              refine lv_iinc (v := iI (kv + 1)) (lv' := [(3, .int (iI (kv + 1))), (2, .int (iI (xv + 1))), (0, .ref hm), (1, .int (iI (wv)))]) hx hb dX3_counted_150 hl (k := 3) rfl (iI_add _ _).symm (by decide) rfl (fun ls hl => ?_)
              refine lv_goto (tgt := 111) hx hb dX3_counted_153 (by decide) ?_
              exact ih111 (xv + 1) (kv + 1) (by omega) (by first | assumption | omega) (by rw [msum_s _ hk.1]; have lp := lyl_pos (r := r) hk.1 (show kv < 384 by omega); first | (rw [if_pos (by assumption)]; omega) | (rw [if_neg (by assumption), bP_t (by omega)]; omega) | (rw [if_neg (by assumption), bP_f (by omega)]; omega))  ls (lv_sub hl [2, 3, 1, 0] rfl)
          · skip
            refine lv_aload_n hx hb dX3_counted_125 rfl (lv_at hl 0 rfl) ?_
            refine va_get (D := G.1) (ci := 3) (v := .ref (adm 8)) (C := RX3) (T := TX3) (N := 11) hx hb hts hinX3 hown hK hP 0 rfl rfl 8 (by decide) (hts (.fieldLink RX3 29 "MeanderFarmModel" "wear" "[I") (List.mem_of_getElem? (i := 3) rfl)) (fun _ h9 => h9) rfl dX3_counted_126 ?_
            refine lv_iload_n hx hb dX3_counted_129 rfl (lv_at hl 3 rfl) ?_
            refine mf_iald (n := 384) (f := u 8) hx hb hK hP 7 0 rfl rfl (z := kv) (by omega) (by omega) (by decide) dX3_counted_130 ?_
            refine mf_top (u 8 kv) (r 1 kv) (by rw [(rel8 hrel (z := kv) (by omega) (by omega))]) ?_
            have b24 : (0 : Int) ≤ r 1 kv ∧ r 1 kv ≤ 200000000 := ok 1 (kv)
            refine lv_goto (tgt := 148) hx hb dX3_counted_131 (by decide) ?_
            refine mf_iadd hx hb dX3_counted_148 ?_
            refine lv_istore_n (lv' := [(2, .int (iI (xv + (r 1 kv)))), (0, .ref hm), (1, .int (iI (wv))), (3, .int (iI (kv)))]) hx hb dX3_counted_149 rfl hl (by decide) rfl (fun ls hl => ?_)
            refine lv_iinc (v := iI (kv + 1)) (lv' := [(3, .int (iI (kv + 1))), (2, .int (iI (xv + (r 1 kv)))), (0, .ref hm), (1, .int (iI (wv)))]) hx hb dX3_counted_150 hl (k := 3) rfl (iI_add _ _).symm (by decide) rfl (fun ls hl => ?_)
            refine lv_goto (tgt := 111) hx hb dX3_counted_153 (by decide) ?_
            exact ih111 (xv + (r 1 kv)) (kv + 1) (by omega) (by first | assumption | omega) (by rw [msum_s _ hk.1]; have lp := lyl_pos (r := r) hk.1 (show kv < 384 by omega); first | (rw [if_pos (by assumption)]; omega) | (rw [if_neg (by assumption), bP_t (by omega)]; omega) | (rw [if_neg (by assumption), bP_f (by omega)]; omega))  ls (lv_sub hl [2, 3, 1, 0] rfl)
    exact lp111 (_ + 1) 0 0 (Nat.lt_succ_self _) (by first | assumption | omega) (by rfl)  ls (lv_sub hl [2, 3, 1, 0] rfl)
