/-! 64.simpass: a year of the Sim, walked -/
set_option maxHeartbeats 4000000 in
set_option maxRecDepth 100000 in
theorem c_X3_pass (l : Launch) (G : mf_G) (hm : Nat) (adm : Nat → Nat) (ca nn : Nat) (u : mf_V)  (r : mf_V) (q : mf_V) (b : Int) (oku : rOK slo shi u) (ok : rOK rlo rhi r) (hI : RInv r) (hrel : relS r nn u) (hY : YearR r q b) (hwb : ∀ c, r 1 c + 1350 ≤ 200000000) (hbk : r 9 0 + 150 ≤ 100000000) (hyb : r 8 0 + 1 ≤ 90000) (sz : Nat) : Met l yX3_pass wsX3_pass ({ frames := 4, cells := 153, slots := 11855, locals := 89 }) (va_Pc [.ref hm] (WrP G (SW G hm adm ca nn u) sz)) (va_Qi (fun q9 (uZ : mf_V × Nat × Nat) => ∃ z : Int, q9 = iI z ∧ rOK slo shi uZ.1 ∧ relS q uZ.2.2 uZ.1) (fun (uZ : mf_V × Nat × Nat) t => WrQ G (va_A (SW G hm adm ca nn u) sz) (SW G hm adm (uZ.2.1) (uZ.2.2) (uZ.1)) t) (va_A (SW G hm adm ca nn u) sz)) 153 11855 (va_A (SW G hm adm ca nn u) sz) := by
  refine Met.ofW (cc := cX3_pass) (maxL := 7) (ret := (some .boolean)) (by decide) rfl ?_
  intro p e s m args below meth c s₁ B hml hv
  obtain ⟨rfl, hsz, hP, hK, hD0, hN⟩ := hv
  have hx := B.exec
  have hb := B.bytes
  have hr := B.returns
  have hts := atoms_spec (ws := wsX3_pass) B.pre
  have hown : s.vm.findClass RX3 = some m.cls := findClass_of_methodNamed B.named
  have hlocks := B.notSynchronized
  have hinX3 : ∀ w ∈ u_ws RX3 TX3 9, w ∈ wsX3_pass := fun w h => List.mem_cons_of_mem _ (List.mem_append_right _ h)
  subst hsz
  have hD := hD0.self (sz := s.heap.size)
  generalize hAe : va_A (SW G hm adm ca nn u) s.heap.size = A at hD ⊢
  have hA : ∀ q : Nat, s.heap.size ≤ q → A q := fun q h => by rw [← hAe]; exact Or.inr h
  have hS : va_S A s.heap s.heap [] := va_S.rf
  have hl := lv_entry ([.ref hm]) (n := 7) (Nat.le_of_ble_eq_true rfl)
  rw [lg_entry_eq]
  generalize (lg_sl ([.ref hm]) ++ List.replicate (7 - (lg_sl ([.ref hm])).length) Slot.unset).toArray = ls at hl ⊢
  have hl : lv_has ls 7 [(0, .ref hm)] := hl
  have okLr : (0 : Int) ≤ r 7 0 ∧ r 7 0 ≤ 150 := ok 7 0
  have hN9 : (nn : Int) = r 7 0 := rel9 hrel
  obtain ⟨r1, r2, r3, h1f, h1w, ok1, hI1, hrip, ok2, hI2, hfl, ok3, hI3, hqf, hq8⟩ := hY
  have h28 : r2 8 = r 8 := by rcases hrip with ⟨-, z, -⟩ | ⟨-, z, -⟩; (rw [z, h1f 8 (by decide)]); (rw [z.2.2.2.2.2.2.1, h1f 8 (by decide)])
  have h38 : r3 8 0 = r 8 0 := by rcases hfl with ⟨-, n, z⟩ | ⟨-, z⟩; (rw [(FloodN_fr6 n z).2.2.2.2.2, h28]); (rw [z, h28])
  refine lv_aload_n hx hb dX3_pass_0 rfl (lv_at hl 0 rfl) ?_
  refine va_get (D := G.1) (ci := 3) (v := .ref (adm 7)) (C := RX3) (T := TX3) (N := 9) hx hb hts hinX3 hown hK hP 0 rfl rfl 7 (by decide) (hts (.fieldLink RX3 23 "MeanderFarmLaw$Sim" "flow" "[I") (List.mem_of_getElem? (i := 1) rfl)) (fun _ h9 => h9) rfl dX3_pass_1 ?_
  refine lv_aload_n hx hb dX3_pass_4 rfl (lv_at hl 0 rfl) ?_
  refine va_get (D := G.1) (ci := 3) (v := .int (iI (u 0 0))) (C := RX3) (T := TX3) (N := 9) hx hb hts hinX3 hown hK hP 0 rfl rfl 0 (by decide) (hts (.fieldLink RX3 35 "MeanderFarmLaw$Sim" "year" "I") (List.mem_of_getElem? (i := 2) rfl)) (fun _ h9 => h9) rfl dX3_pass_5 ?_
  refine mf_top (u 0 0) (r 8 0) (by rw [(rel0 hrel)]) ?_
  have b1 : (0 : Int) ≤ r 8 0 ∧ r 8 0 ≤ 90000 := ok 8 (0)
  refine mf_bipush hx hb dX3_pass_8 rfl ?_
  refine mf_irem hx hb dX3_pass_10 (i32_mk (by omega) (by omega)) (by omega) (i32_mk (by decide) (by decide)) (by omega) ?_
  refine mf_iald (n := 12) (f := u 7) hx hb hK hP 6 0 rfl rfl (z := (r 8 0) % 12) (by omega) (by omega) (by first | decide | omega) dX3_pass_11 ?_
  refine mf_top (u 7 ((r 8 0) % 12)) (r 5 ((r 8 0) % 12)) (by rw [(rel7 hrel (z := (r 8 0) % 12) (by omega) (by omega))]) ?_
  have b2 : (0 : Int) ≤ r 5 ((r 8 0) % 12) ∧ r 5 ((r 8 0) % 12) ≤ 9 := ok 5 ((r 8 0) % 12)
  refine lv_istore_n (lv' := [(1, .int (iI (r 5 ((r 8 0) % 12)))), (0, .ref hm)]) hx hb dX3_pass_12 rfl hl (by decide) rfl (fun ls hl => ?_)
  refine lv_aload_n hx hb dX3_pass_13 rfl (lv_at hl 1 rfl) ?_
  refine va_get (D := G.1) (ci := 3) (v := .ref ca) (C := RX3) (T := TX3) (N := 9) hx hb hts hinX3 hown hK hP 0 rfl rfl 2 (by decide) (hts (.fieldLink RX3 29 "MeanderFarmLaw$Sim" "course" "[I") (List.mem_of_getElem? (i := 3) rfl)) (fun _ h9 => h9) rfl dX3_pass_14 ?_
  refine va_alen hx hb hK hP 1 0 rfl rfl (v := iI ((nn : Nat) : Int)) (nI_iI _) dX3_pass_17 ?_
  refine mf_top (((nn : Nat) : Int)) (r 7 0) (rel9 hrel) ?_
  obtain ⟨nv5, hnv5⟩ : ∃ z9 : Nat, (z9 : Int) = r 7 0 := ⟨(r 7 0).toNat, Int.toNat_of_nonneg (by omega)⟩
  refine mf_newv (M := 150) hx hb (hts (.arrayClass .int) (List.mem_of_getElem? (i := 4) rfl)) hK hP hD hS hA (n := r 7 0) (N := nv5) hnv5.symm (by omega) (by omega) (Nat.le_of_ble_eq_true rfl) (Nat.le_of_ble_eq_true rfl) dX3_pass_18 (fun na3 H hP hD hS => ?_)
  obtain ⟨av4, eav4⟩ : ∃ z9 : mf_V, z9 = fun _ _ => 0 := ⟨_, rfl⟩
  have hP : va_P G.1 vwCl (SW G hm adm ca nn u ++ AW G na3 nv5 av4) H := by rw [eav4]; exact hP
  have hD : va_D A (SW G hm adm ca nn u ++ AW G na3 nv5 av4) := by rw [eav4]; exact hD
  refine lv_astore_n (lv' := [(2, .ref na3), (1, .int (iI (r 5 ((r 8 0) % 12)))), (0, .ref hm)]) hx hb dX3_pass_20 rfl hl (by decide) rfl (fun ls hl => ?_)
  refine mf_iconst hx hb dX3_pass_21 ?_
  refine lv_istore_n (lv' := [(3, .int (iI (0))), (2, .ref na3), (1, .int (iI (r 5 ((r 8 0) % 12)))), (0, .ref hm)]) hx hb dX3_pass_22 rfl hl (by decide) rfl (fun ls hl => ?_)
  have lp23 : ∀ (n : Nat) (kv : Int) (ua : mf_V) (va : mf_V) (rk : mf_V), (r 7 0 - kv).toNat < n → (0 ≤ kv ∧ kv ≤ r 7 0) → (rOK slo shi ua) → (∀ k, k ≠ 5 → ua k = u k) → (∀ k, k ≠ 1 → rk k = r k) → (rk 1 = wearG r (r 5 (r 8 0 % 12)) kv) → (rOK rlo rhi rk) → (RInv rk) → (relS rk nn ua) → (∀ c, rk 1 c ≤ r 1 c + 9 * kv) → (∀ j, 0 ≤ j → j < kv → va 0 j = r 12 j) → (∀ z, -1 ≤ va 0 z ∧ va 0 z ≤ 3) → ∀ (H : Heap) (locs : List Loc), va_P G.1 vwCl (SW G hm adm ca nn ua ++ AW G na3 nv5 va) H → va_D A (SW G hm adm ca nn ua ++ AW G na3 nv5 va) → va_S A s.heap H locs → ∀ (ls : Array Slot), lv_has ls 7 [(0, .ref hm), (1, .int (iI (r 5 (r 8 0 % 12)))), (2, .ref na3), (3, .int (iI (kv)))] → W p l e (headSpec wsX3_pass ({ frames := 4, cells := 153, slots := 11855, locals := 89 })).room s m ([.ref hm] : List Value).toArray below meth c H locs 1 150 (MQ below (va_Qi (fun q9 (uZ : mf_V × Nat × Nat) => ∃ z : Int, q9 = iI z ∧ rOK slo shi uZ.1 ∧ relS q uZ.2.2 uZ.1) (fun (uZ : mf_V × Nat × Nat) t => WrQ G A (SW G hm adm (uZ.2.1) (uZ.2.2) (uZ.1)) t) A) ([.ref hm] : List Value).toArray s 153 11855 A) (F0 m 23 ls []) := by
    intro n
    induction n with
    | zero => intro kv ua va rk hn; exact absurd hn (Nat.not_lt_zero _)
    | succ n ih23 =>
      intro kv ua va rk hn hk oka hfr hrk hrk1 okk hIk hrelk hwk hvs hvb H locs hP hD hS ls hl
      have okLk : (0 : Int) ≤ rk 7 0 ∧ rk 7 0 ≤ 150 := okk 7 0
      have e7 : rk 7 0 = r 7 0 := by rw [hrk 7 (by decide)]
      refine lv_iload_n hx hb dX3_pass_23 rfl (lv_at hl 3 rfl) ?_
      refine lv_aload_n hx hb dX3_pass_24 rfl (lv_at hl 0 rfl) ?_
      refine va_get (D := G.1) (ci := 3) (v := .ref ca) (C := RX3) (T := TX3) (N := 9) hx hb hts hinX3 hown hK hP 0 rfl rfl 2 (by decide) (hts (.fieldLink RX3 29 "MeanderFarmLaw$Sim" "course" "[I") (List.mem_of_getElem? (i := 3) rfl)) (fun _ h9 => h9) rfl dX3_pass_25 ?_
      refine va_alen hx hb hK hP 1 0 rfl rfl (v := iI ((nn : Nat) : Int)) (nI_iI _) dX3_pass_28 ?_
      refine mf_top (((nn : Nat) : Int)) (r 7 0) (rel9 hrel) ?_
      refine mf_icmp_ge (tgt := 105) hx hb dX3_pass_29 (by decide) (i32_mk (by omega) (by omega)) (i32_mk (by omega) (by omega)) (fun c6 => ?_) (fun c6 => ?_)
      · skip
        have hr1 : rk = r1 := funext fun k => by
          by_cases z : k = 1
          · rw [z, hrk1, h1w, show kv = r 7 0 by omega]
          · rw [hrk k z, h1f k z]
        subst hr1
        clear hwk
        have hvs2 : ∀ j, 0 ≤ j → j < rk 7 0 → va 0 j = rk 12 j := fun j j0 j1 => by rw [hvs j j0 (by omega), hrk 12 (by decide)]
        skip
        refine mf_iconst hx hb dX3_pass_105 ?_
        refine lv_istore_n (lv' := [(3, .int (iI ((-1)))), (0, .ref hm), (1, .int (iI (r 5 (r 8 0 % 12)))), (2, .ref na3)]) hx hb dX3_pass_106 rfl hl (by decide) rfl (fun ls hl => ?_)
        refine mf_iconst hx hb dX3_pass_107 ?_
        refine lv_istore (lv' := [(4, .int (iI (0))), (3, .int (iI ((-1)))), (0, .ref hm), (1, .int (iI (r 5 (r 8 0 % 12)))), (2, .ref na3)]) hx hb dX3_pass_108 hl (by decide) rfl (fun ls hl => ?_)
        refine lv_aload_n hx hb dX3_pass_110 rfl (lv_at hl 2 rfl) ?_
        refine va_get (D := G.1) (ci := 3) (v := .ref ca) (C := RX3) (T := TX3) (N := 9) hx hb hts hinX3 hown hK hP 0 rfl rfl 2 (by decide) (hts (.fieldLink RX3 29 "MeanderFarmLaw$Sim" "course" "[I") (List.mem_of_getElem? (i := 3) rfl)) (fun _ h9 => h9) rfl dX3_pass_111 ?_
        refine va_alen hx hb hK hP 1 0 rfl rfl (v := iI ((nn : Nat) : Int)) (nI_iI _) dX3_pass_114 ?_
        refine mf_top (((nn : Nat) : Int)) (r 7 0) (rel9 hrel) ?_
        refine mf_iconst hx hb dX3_pass_115 ?_
        refine mf_isub hx hb dX3_pass_116 ?_
        refine lv_istore (lv' := [(5, .int (iI ((r 7 0) - 1))), (4, .int (iI (0))), (3, .int (iI ((-1)))), (0, .ref hm), (1, .int (iI (r 5 (r 8 0 % 12)))), (2, .ref na3)]) hx hb dX3_pass_117 hl (by decide) rfl (fun ls hl => ?_)
        have lp119 : ∀ (n : Nat) (bv : Int) (mv : Int) (k2 : Int), (k2 + 1).toNat < n → (-1 ≤ k2 ∧ k2 < rk 7 0) → (-1 ≤ mv ∧ mv ≤ 200000000) → (-1 ≤ bv ∧ bv ≤ 150) → (ripC rk (k2 + 1) (rk 7 0) bv mv) → ∀ (H : Heap) (locs : List Loc), va_P G.1 vwCl (SW G hm adm ca nn ua ++ AW G na3 nv5 va) H → va_D A (SW G hm adm ca nn ua ++ AW G na3 nv5 va) → va_S A s.heap H locs → ∀ (ls : Array Slot), lv_has ls 7 [(0, .ref hm), (1, .int (iI (r 5 (r 8 0 % 12)))), (2, .ref na3), (3, .int (iI (bv))), (4, .int (iI (mv))), (5, .int (iI (k2)))] → W p l e (headSpec wsX3_pass ({ frames := 4, cells := 153, slots := 11855, locals := 89 })).room s m ([.ref hm] : List Value).toArray below meth c H locs 1 150 (MQ below (va_Qi (fun q9 (uZ : mf_V × Nat × Nat) => ∃ z : Int, q9 = iI z ∧ rOK slo shi uZ.1 ∧ relS q uZ.2.2 uZ.1) (fun (uZ : mf_V × Nat × Nat) t => WrQ G A (SW G hm adm (uZ.2.1) (uZ.2.2) (uZ.1)) t) A) ([.ref hm] : List Value).toArray s 153 11855 A) (F0 m 119 ls []) := by
          intro n
          induction n with
          | zero => intro bv mv k2 hn; exact absurd hn (Nat.not_lt_zero _)
          | succ n ih119 =>
            intro bv mv k2 hn hk2 hmb hbb hrc H locs hP hD hS ls hl
            refine lv_iload hx hb dX3_pass_119 (lv_at hl 5 rfl) ?_
            refine mf_if_lt (tgt := 251) hx hb dX3_pass_121 (by decide) (i32_mk (by omega) (by omega)) (fun c7 => ?_) (fun c7 => ?_)
            · skip
              have e9 : ripF rk = bv := ripC_F (by omega) (by rw [show k2 + 1 = 0 by omega] at hrc; exact hrc)
              rw [e9] at hrip
              refine lv_iload_n hx hb dX3_pass_251 rfl (lv_at hl 3 rfl) ?_
              refine mf_if_lt (tgt := 263) hx hb dX3_pass_252 (by decide) (i32_mk (by omega) (by omega)) (fun c8 => ?_) (fun c8 => ?_)
              · skip
                have lp263 : ∀ (ub : mf_V) (cab : Nat) (nb : Nat), (rOK slo shi ub) → (relS r2 nb ub) → (r2 9 0 = r 9 0) → ∀ (H : Heap) (locs : List Loc), va_P G.1 vwCl (SW G hm adm cab nb ub ++ AW G na3 nv5 va) H → va_D A (SW G hm adm cab nb ub ++ AW G na3 nv5 va) → va_S A s.heap H locs → ∀ (ls : Array Slot), lv_has ls 7 [(0, .ref hm), (1, .int (iI (r 5 (r 8 0 % 12)))), (3, .int (iI (bv)))] → W p l e (headSpec wsX3_pass ({ frames := 4, cells := 153, slots := 11855, locals := 89 })).room s m ([.ref hm] : List Value).toArray below meth c H locs 2 302 (MQ below (va_Qi (fun q9 (uZ : mf_V × Nat × Nat) => ∃ z : Int, q9 = iI z ∧ rOK slo shi uZ.1 ∧ relS q uZ.2.2 uZ.1) (fun (uZ : mf_V × Nat × Nat) t => WrQ G A (SW G hm adm (uZ.2.1) (uZ.2.2) (uZ.1)) t) A) ([.ref hm] : List Value).toArray s 153 11855 A) (F0 m 263 ls []) := by
                  intro ub cab nb okb hrel2 e29 H locs hP hD hS ls hl
                  refine lv_iload_n hx hb dX3_pass_263 rfl (lv_at hl 1 rfl) ?_
                  refine mf_bipush hx hb dX3_pass_264 rfl ?_
                  refine mf_icmp_le (tgt := 273) hx hb dX3_pass_266 (by decide) (i32_mk (by omega) (by omega)) (i32_mk (by decide) (by decide)) (fun c9 => ?_) (fun c9 => ?_)
                  · skip
                    have lp273 : ∀ (uc : mf_V) (cac : Nat) (nc : Nat), (rOK slo shi uc) → (relS r3 nc uc) → ∀ (H : Heap) (locs : List Loc), va_P G.1 vwCl (SW G hm adm cac nc uc ++ AW G na3 nv5 va) H → va_D A (SW G hm adm cac nc uc ++ AW G na3 nv5 va) → va_S A s.heap H locs → ∀ (ls : Array Slot), lv_has ls 7 [(0, .ref hm), (3, .int (iI (bv)))] → W p l e (headSpec wsX3_pass ({ frames := 4, cells := 153, slots := 11855, locals := 89 })).room s m ([.ref hm] : List Value).toArray below meth c H locs 153 11855 (MQ below (va_Qi (fun q9 (uZ : mf_V × Nat × Nat) => ∃ z : Int, q9 = iI z ∧ rOK slo shi uZ.1 ∧ relS q uZ.2.2 uZ.1) (fun (uZ : mf_V × Nat × Nat) t => WrQ G A (SW G hm adm (uZ.2.1) (uZ.2.2) (uZ.1)) t) A) ([.ref hm] : List Value).toArray s 153 11855 A) (F0 m 273 ls []) := by
                      intro uc cac nc okc hrel3 H locs hP hD hS ls hl
                      refine mf_iconst hx hb dX3_pass_273 ?_
                      refine lv_istore (lv' := [(5, .int (iI (0))), (0, .ref hm), (3, .int (iI (bv)))]) hx hb dX3_pass_274 hl (by decide) rfl (fun ls hl => ?_)
                      have lp276 : ∀ (n : Nat) (k5 : Int) (ud : mf_V), (384 - k5).toNat < n → (0 ≤ k5 ∧ k5 ≤ 384) → (rOK slo shi ud) → (∀ k, k ≠ 6 → ud k = uc k) → ∀ (H : Heap) (locs : List Loc), va_P G.1 vwCl (SW G hm adm cac nc ud ++ AW G na3 nv5 va) H → va_D A (SW G hm adm cac nc ud ++ AW G na3 nv5 va) → va_S A s.heap H locs → ∀ (ls : Array Slot), lv_has ls 7 [(0, .ref hm), (3, .int (iI (bv))), (5, .int (iI (k5)))] → W p l e (headSpec wsX3_pass ({ frames := 4, cells := 153, slots := 11855, locals := 89 })).room s m ([.ref hm] : List Value).toArray below meth c H locs 153 11855 (MQ below (va_Qi (fun q9 (uZ : mf_V × Nat × Nat) => ∃ z : Int, q9 = iI z ∧ rOK slo shi uZ.1 ∧ relS q uZ.2.2 uZ.1) (fun (uZ : mf_V × Nat × Nat) t => WrQ G A (SW G hm adm (uZ.2.1) (uZ.2.2) (uZ.1)) t) A) ([.ref hm] : List Value).toArray s 153 11855 A) (F0 m 276 ls []) := by
                        intro n
                        induction n with
                        | zero => intro k5 ud hn; exact absurd hn (Nat.not_lt_zero _)
                        | succ n ih276 =>
                          intro k5 ud hn hk5 okd hfr5 H locs hP hD hS ls hl
                          refine lv_iload hx hb dX3_pass_276 (lv_at hl 2 rfl) ?_
                          refine mf_sipush hx hb dX3_pass_278 rfl ?_
                          refine mf_icmp_ge (tgt := 311) hx hb dX3_pass_281 (by decide) (i32_mk (by omega) (by omega)) (i32_mk (by decide) (by decide)) (fun c10 => ?_) (fun c10 => ?_)
                          · skip
                            refine lv_aload_n hx hb dX3_pass_311 rfl (lv_at hl 0 rfl) ?_
                            refine lv_dup hx hb dX3_pass_312 rfl ?_
                            refine va_get (D := G.1) (ci := 3) (v := .int (iI (ud 0 0))) (C := RX3) (T := TX3) (N := 9) hx hb hts hinX3 hown hK hP 0 rfl rfl 0 (by decide) (hts (.fieldLink RX3 35 "MeanderFarmLaw$Sim" "year" "I") (List.mem_of_getElem? (i := 2) rfl)) (fun _ h9 => h9) rfl dX3_pass_313 ?_
                            refine mf_top (ud 0 0) (r3 8 0) (by rw [hfr5 0 (by decide), (rel0 hrel3)]) ?_
                            have b11 : (0 : Int) ≤ r3 8 0 ∧ r3 8 0 ≤ 90000 := ok3 8 (0)
                            refine mf_iconst hx hb dX3_pass_316 ?_
                            refine mf_iadd hx hb dX3_pass_317 ?_
                            refine va_put (D := G.1) (ci := 3) (v := .int (iI ((r3 8 0) + 1))) (ty := .int) (C := RX3) (T := TX3) (N := 9) hx hb hts hinX3 tyX3 tyX3_ok nmX3 hown hK hP hD hS 0 rfl rfl 0 (by decide) (hts (.fieldLink RX3 35 "MeanderFarmLaw$Sim" "year" "I") (List.mem_of_getElem? (i := 2) rfl)) (fun _ h9 => h9) rfl (by decide +kernel) rfl rfl (Nat.le_of_ble_eq_true rfl) dX3_pass_318 (fun H locs hP hD hS => ?_)
                            obtain ⟨ud12, eud12⟩ : ∃ z9 : mf_V, z9 = mf_sF ud 0 (fun _ => (r3 8 0) + 1) := ⟨_, rfl⟩
                            have hP : va_P G.1 vwCl (SW G hm adm cac nc ud12 ++ AW G na3 nv5 va) H := by rw [eud12]; exact hP
                            have hD : va_D A (SW G hm adm cac nc ud12 ++ AW G na3 nv5 va) := by rw [eud12]; exact hD
                            have okud12 : rOK slo shi ud12 := by rw [eud12]; exact rOK_set okd 0 _ (show (0 : Int) ≤ (r3 8 0) + 1 by omega) (show (r3 8 0) + 1 ≤ (90000 : Int) by omega)
                            have f1_ud12 : ∀ y, ud12 0 y = (r3 8 0) + 1 := fun y => by rw [eud12, mf_sF_s]
                            have f3_ud12 : ∀ q, q ≠ 0 → ud12 q = ud q := fun q hq => by rw [eud12, mf_sF_n hq]
                            refine lv_iload_n hx hb dX3_pass_321 rfl (lv_at hl 1 rfl) ?_
                            refine mf_if_lt (tgt := 329) hx hb dX3_pass_322 (by decide) (i32_mk (by omega) (by omega)) (fun c13 => ?_) (fun c13 => ?_)
                            · skip
                              refine mf_iconst hx hb dX3_pass_329 ?_
                              have hP := hP.sub (ws' := SW G hm adm cac nc ud12) [0, 1, 2, 3, 4, 5, 6, 7] rfl
                              have hD := hD.sub (ws' := SW G hm adm cac nc ud12) [0, 1, 2, 3, 4, 5, 6, 7] (by decide) rfl
                              exact W.zret hx hb hr (mf_nar01 (by omega)) (fun t ht hW => ⟨⟨_, (ud12, cac, nc), rfl, ⟨_, rfl, by (try dsimp only); exact ⟨okud12, yearRelS hrel3 hqf (by rw [hq8, h38]) (fun k h0 h6 => by rw [f3_ud12 k h0]; exact hfr5 k h6) (f1_ud12 0)⟩⟩, by rw [ht]; exact hP, hD⟩, hS.F ht⟩) hS.2.2 dX3_pass_330
                            · skip
                              refine mf_iconst hx hb dX3_pass_325 ?_
                              refine lv_goto (tgt := 330) hx hb dX3_pass_326 (by decide) ?_
                              have hP := hP.sub (ws' := SW G hm adm cac nc ud12) [0, 1, 2, 3, 4, 5, 6, 7] rfl
                              have hD := hD.sub (ws' := SW G hm adm cac nc ud12) [0, 1, 2, 3, 4, 5, 6, 7] (by decide) rfl
                              exact W.zret hx hb hr (mf_nar01 (by omega)) (fun t ht hW => ⟨⟨_, (ud12, cac, nc), rfl, ⟨_, rfl, by (try dsimp only); exact ⟨okud12, yearRelS hrel3 hqf (by rw [hq8, h38]) (fun k h0 h6 => by rw [f3_ud12 k h0]; exact hfr5 k h6) (f1_ud12 0)⟩⟩, by rw [ht]; exact hP, hD⟩, hS.F ht⟩) hS.2.2 dX3_pass_330
                          · skip
                            refine lv_aload_n hx hb dX3_pass_284 rfl (lv_at hl 0 rfl) ?_
                            refine va_get (D := G.1) (ci := 3) (v := .ref (adm 6)) (C := RX3) (T := TX3) (N := 9) hx hb hts hinX3 hown hK hP 0 rfl rfl 6 (by decide) (hts (.fieldLink RX3 20 "MeanderFarmLaw$Sim" "lake" "[I") (List.mem_of_getElem? (i := 8) rfl)) (fun _ h9 => h9) rfl dX3_pass_285 ?_
                            refine lv_iload hx hb dX3_pass_288 (lv_at hl 2 rfl) ?_
                            refine mf_iald (n := 384) (f := ud 6) hx hb hK hP 5 0 rfl rfl (z := k5) (by omega) (by omega) (by first | decide | omega) dX3_pass_290 ?_
                            have b14 : (0 : Int) ≤ ud 6 k5 ∧ ud 6 k5 ≤ 10 := okd 6 (k5)
                            refine mf_if_le (tgt := 305) hx hb dX3_pass_291 (by decide) (i32_mk (by omega) (by omega)) (fun c15 => ?_) (fun c15 => ?_)
                            · skip
                              refine lv_iinc (v := iI (k5 + 1)) (lv' := [(5, .int (iI (k5 + 1))), (0, .ref hm), (3, .int (iI (bv)))]) hx hb dX3_pass_305 hl (k := 2) rfl (iI_add _ _).symm (by decide) rfl (fun ls hl => ?_)
                              refine lv_goto (tgt := 276) hx hb dX3_pass_308 (by decide) ?_
                              exact ih276 (k5 + 1) ud (by omega) (by first | assumption | omega) (by first | assumption | omega) (by exact hfr5) _ _ hP hD hS ls (lv_sub hl [1, 2, 0] rfl)
                            · skip
                              refine lv_aload_n hx hb dX3_pass_294 rfl (lv_at hl 0 rfl) ?_
                              refine va_get (D := G.1) (ci := 3) (v := .ref (adm 6)) (C := RX3) (T := TX3) (N := 9) hx hb hts hinX3 hown hK hP 0 rfl rfl 6 (by decide) (hts (.fieldLink RX3 20 "MeanderFarmLaw$Sim" "lake" "[I") (List.mem_of_getElem? (i := 8) rfl)) (fun _ h9 => h9) rfl dX3_pass_295 ?_
                              refine lv_iload hx hb dX3_pass_298 (lv_at hl 2 rfl) ?_
                              refine lv_dup2_11 hx hb dX3_pass_300 rfl rfl ?_
                              refine mf_iald (n := 384) (f := ud 6) hx hb hK hP 5 0 rfl rfl (z := k5) (by omega) (by omega) (by first | decide | omega) dX3_pass_301 ?_
                              have b16 : (0 : Int) ≤ ud 6 k5 ∧ ud 6 k5 ≤ 10 := okd 6 (k5)
                              refine mf_iconst hx hb dX3_pass_302 ?_
                              refine mf_isub hx hb dX3_pass_303 ?_
                              refine mf_iast (n := 384) (f := ud 6) hx hb hK hP hD hS 5 0 rfl rfl (z := k5) (x := (ud 6 k5) - 1) (by omega) (by omega) (by first | decide | omega) dX3_pass_304 (fun H locs hP hD hS => ?_)
                              obtain ⟨ud17, eud17⟩ : ∃ z9 : mf_V, z9 = mf_sF ud 6 (mf_up (ud 6) (k5) ((ud 6 k5) - 1)) := ⟨_, rfl⟩
                              have hP : va_P G.1 vwCl (SW G hm adm cac nc ud17 ++ AW G na3 nv5 va) H := by rw [eud17]; exact hP
                              have hD : va_D A (SW G hm adm cac nc ud17 ++ AW G na3 nv5 va) := by rw [eud17]; exact hD
                              have okud17 : rOK slo shi ud17 := by rw [eud17]; exact rOK_up okd 6 _ _ (show (0 : Int) ≤ (ud 6 k5) - 1 by omega) (show (ud 6 k5) - 1 ≤ (10 : Int) by omega)
                              have f1_ud17 : ud17 6 (k5) = (ud 6 k5) - 1 := by rw [eud17, mf_sF_s, mf_up_s]
                              have f2_ud17 : ∀ y, y ≠ (k5) → ud17 6 y = ud 6 y := fun y hy => by rw [eud17, mf_sF_s, mf_up_n hy]
                              have f3_ud17 : ∀ q, q ≠ 6 → ud17 q = ud q := fun q hq => by rw [eud17, mf_sF_n hq]
                              refine lv_iinc (v := iI (k5 + 1)) (lv' := [(5, .int (iI (k5 + 1))), (0, .ref hm), (3, .int (iI (bv)))]) hx hb dX3_pass_305 hl (k := 2) rfl (iI_add _ _).symm (by decide) rfl (fun ls hl => ?_)
                              refine lv_goto (tgt := 276) hx hb dX3_pass_308 (by decide) ?_
                              exact ih276 (k5 + 1) ud17 (by omega) (by first | assumption | omega) (by first | assumption | omega) (by intro k hk; rw [f3_ud17 k hk]; exact hfr5 k hk) _ _ hP hD hS ls (lv_sub hl [1, 2, 0] rfl)
                      exact lp276 (_ + 1) 0 uc (Nat.lt_succ_self _) (by first | assumption | omega) (by first | assumption | omega) (by intro k _; rfl) _ _ hP hD hS ls (lv_sub hl [1, 2, 0] rfl)
                    refine W.widen (k := 153) (n := 11855) (Nat.le_of_ble_eq_true rfl) (Nat.le_of_ble_eq_true rfl) ?_
                    exact lp273 ub cab nb (by first | assumption | omega) (by rcases hfl with z | z; (omega); (rw [z.2]; exact hrel2)) _ _ hP hD hS ls (lv_sub hl [0, 2] rfl)
                  · skip
                    refine lv_aload_n hx hb dX3_pass_269 rfl (lv_at hl 0 rfl) ?_
                    have hFc := va_free (wc := SW G hm adm cab nb ub) hD hS hA [0, 1, 2, 3, 4, 5, 6, 7] rfl
                    refine va_callv (va_runV (As := []) (rest := []) ⟨hx, hb, hml, hown, hts⟩ (c_X3_flood l G hm adm cab nb ub (r2) (r3) (by assumption) (by exact ok2) (by exact hI2) (by exact hrel2) (by rcases hfl with z | z; (exact z.2); (omega)) (by rw [e29]; exact hbk) _) (cwV 0 hts gX3_pass_X3_flood rfl rfl rfl (by decide +kernel) ⟨Nat.le_of_ble_eq_true rfl, Nat.le_of_ble_eq_true rfl⟩) (wrV (wc := SW G hm adm cab nb ub) hK hP hD hN [0, 1, 2, 3, 4, 5, 6, 7] (by decide) rfl rfl (ci := 3) rfl rfl) rfl rfl hl.1 rfl (lv_room (Nat.le_of_ble_eq_true rfl)) dX3_pass_270 ⟨(Nat.le_of_ble_eq_true rfl), (Nat.le_of_ble_eq_true rfl)⟩) hS (fun q _ h => hFc q h) hFc (fun u19 t H1 locs ht hvm hw hB hz1 hk1 hS => ?_)
                    obtain ⟨ub20, cx21, nx22⟩ := u19
                    try dsimp only at hw hB
                    obtain ⟨hP, hD⟩ := wrJ2 (ws := SW G hm adm cab nb ub ++ AW G na3 nv5 va) (wc := SW G hm adm cab nb ub) (wr := AW G na3 nv5 va) (w1 := SW G hm adm cx21 nx22 ub20) hP hD [0, 1, 2, 3, 4, 5, 6, 7] [8] rfl rfl (by decide) (by decide) hk1 ht hFc hB
                    have hP : va_P G.1 vwCl (SW G hm adm cx21 nx22 ub20 ++ AW G na3 nv5 va) H1 := hP.sub [1, 2, 3, 4, 5, 6, 7, 8, 0] rfl
                    have hD : va_D A (SW G hm adm cx21 nx22 ub20 ++ AW G na3 nv5 va) := hD.sub [1, 2, 3, 4, 5, 6, 7, 8, 0] (by decide) rfl
                    have hP : va_P G.1 vwCl (SW G hm adm cx21 nx22 ub20 ++ AW G na3 nv5 va) H1 := hP
                    have hD : va_D A (SW G hm adm cx21 nx22 ub20 ++ AW G na3 nv5 va) := hD
                    clear hB hk1 hFc ht hz1 hvm
                    generalize H1 = H at hP hS ⊢
                    have w23 := hw; clear hw
                    have okub20 : rOK slo shi ub20 := w23.1
                    have lp273 : ∀ (uc : mf_V) (cac : Nat) (nc : Nat), (rOK slo shi uc) → (relS r3 nc uc) → ∀ (H : Heap) (locs : List Loc), va_P G.1 vwCl (SW G hm adm cac nc uc ++ AW G na3 nv5 va) H → va_D A (SW G hm adm cac nc uc ++ AW G na3 nv5 va) → va_S A s.heap H locs → ∀ (ls : Array Slot), lv_has ls 7 [(0, .ref hm), (3, .int (iI (bv)))] → W p l e (headSpec wsX3_pass ({ frames := 4, cells := 153, slots := 11855, locals := 89 })).room s m ([.ref hm] : List Value).toArray below meth c H locs 153 11855 (MQ below (va_Qi (fun q9 (uZ : mf_V × Nat × Nat) => ∃ z : Int, q9 = iI z ∧ rOK slo shi uZ.1 ∧ relS q uZ.2.2 uZ.1) (fun (uZ : mf_V × Nat × Nat) t => WrQ G A (SW G hm adm (uZ.2.1) (uZ.2.2) (uZ.1)) t) A) ([.ref hm] : List Value).toArray s 153 11855 A) (F0 m 273 ls []) := by
                      intro uc cac nc okc hrel3 H locs hP hD hS ls hl
                      refine mf_iconst hx hb dX3_pass_273 ?_
                      refine lv_istore (lv' := [(5, .int (iI (0))), (0, .ref hm), (3, .int (iI (bv)))]) hx hb dX3_pass_274 hl (by decide) rfl (fun ls hl => ?_)
                      have lp276 : ∀ (n : Nat) (k5 : Int) (ud : mf_V), (384 - k5).toNat < n → (0 ≤ k5 ∧ k5 ≤ 384) → (rOK slo shi ud) → (∀ k, k ≠ 6 → ud k = uc k) → ∀ (H : Heap) (locs : List Loc), va_P G.1 vwCl (SW G hm adm cac nc ud ++ AW G na3 nv5 va) H → va_D A (SW G hm adm cac nc ud ++ AW G na3 nv5 va) → va_S A s.heap H locs → ∀ (ls : Array Slot), lv_has ls 7 [(0, .ref hm), (3, .int (iI (bv))), (5, .int (iI (k5)))] → W p l e (headSpec wsX3_pass ({ frames := 4, cells := 153, slots := 11855, locals := 89 })).room s m ([.ref hm] : List Value).toArray below meth c H locs 153 11855 (MQ below (va_Qi (fun q9 (uZ : mf_V × Nat × Nat) => ∃ z : Int, q9 = iI z ∧ rOK slo shi uZ.1 ∧ relS q uZ.2.2 uZ.1) (fun (uZ : mf_V × Nat × Nat) t => WrQ G A (SW G hm adm (uZ.2.1) (uZ.2.2) (uZ.1)) t) A) ([.ref hm] : List Value).toArray s 153 11855 A) (F0 m 276 ls []) := by
                        intro n
                        induction n with
                        | zero => intro k5 ud hn; exact absurd hn (Nat.not_lt_zero _)
                        | succ n ih276 =>
                          intro k5 ud hn hk5 okd hfr5 H locs hP hD hS ls hl
                          refine lv_iload hx hb dX3_pass_276 (lv_at hl 2 rfl) ?_
                          refine mf_sipush hx hb dX3_pass_278 rfl ?_
                          refine mf_icmp_ge (tgt := 311) hx hb dX3_pass_281 (by decide) (i32_mk (by omega) (by omega)) (i32_mk (by decide) (by decide)) (fun c24 => ?_) (fun c24 => ?_)
                          · skip
                            refine lv_aload_n hx hb dX3_pass_311 rfl (lv_at hl 0 rfl) ?_
                            refine lv_dup hx hb dX3_pass_312 rfl ?_
                            refine va_get (D := G.1) (ci := 3) (v := .int (iI (ud 0 0))) (C := RX3) (T := TX3) (N := 9) hx hb hts hinX3 hown hK hP 0 rfl rfl 0 (by decide) (hts (.fieldLink RX3 35 "MeanderFarmLaw$Sim" "year" "I") (List.mem_of_getElem? (i := 2) rfl)) (fun _ h9 => h9) rfl dX3_pass_313 ?_
                            refine mf_top (ud 0 0) (r3 8 0) (by rw [hfr5 0 (by decide), (rel0 hrel3)]) ?_
                            have b25 : (0 : Int) ≤ r3 8 0 ∧ r3 8 0 ≤ 90000 := ok3 8 (0)
                            refine mf_iconst hx hb dX3_pass_316 ?_
                            refine mf_iadd hx hb dX3_pass_317 ?_
                            refine va_put (D := G.1) (ci := 3) (v := .int (iI ((r3 8 0) + 1))) (ty := .int) (C := RX3) (T := TX3) (N := 9) hx hb hts hinX3 tyX3 tyX3_ok nmX3 hown hK hP hD hS 0 rfl rfl 0 (by decide) (hts (.fieldLink RX3 35 "MeanderFarmLaw$Sim" "year" "I") (List.mem_of_getElem? (i := 2) rfl)) (fun _ h9 => h9) rfl (by decide +kernel) rfl rfl (Nat.le_of_ble_eq_true rfl) dX3_pass_318 (fun H locs hP hD hS => ?_)
                            obtain ⟨ud26, eud26⟩ : ∃ z9 : mf_V, z9 = mf_sF ud 0 (fun _ => (r3 8 0) + 1) := ⟨_, rfl⟩
                            have hP : va_P G.1 vwCl (SW G hm adm cac nc ud26 ++ AW G na3 nv5 va) H := by rw [eud26]; exact hP
                            have hD : va_D A (SW G hm adm cac nc ud26 ++ AW G na3 nv5 va) := by rw [eud26]; exact hD
                            have okud26 : rOK slo shi ud26 := by rw [eud26]; exact rOK_set okd 0 _ (show (0 : Int) ≤ (r3 8 0) + 1 by omega) (show (r3 8 0) + 1 ≤ (90000 : Int) by omega)
                            have f1_ud26 : ∀ y, ud26 0 y = (r3 8 0) + 1 := fun y => by rw [eud26, mf_sF_s]
                            have f3_ud26 : ∀ q, q ≠ 0 → ud26 q = ud q := fun q hq => by rw [eud26, mf_sF_n hq]
                            refine lv_iload_n hx hb dX3_pass_321 rfl (lv_at hl 1 rfl) ?_
                            refine mf_if_lt (tgt := 329) hx hb dX3_pass_322 (by decide) (i32_mk (by omega) (by omega)) (fun c27 => ?_) (fun c27 => ?_)
                            · skip
                              refine mf_iconst hx hb dX3_pass_329 ?_
                              have hP := hP.sub (ws' := SW G hm adm cac nc ud26) [0, 1, 2, 3, 4, 5, 6, 7] rfl
                              have hD := hD.sub (ws' := SW G hm adm cac nc ud26) [0, 1, 2, 3, 4, 5, 6, 7] (by decide) rfl
                              exact W.zret hx hb hr (mf_nar01 (by omega)) (fun t ht hW => ⟨⟨_, (ud26, cac, nc), rfl, ⟨_, rfl, by (try dsimp only); exact ⟨okud26, yearRelS hrel3 hqf (by rw [hq8, h38]) (fun k h0 h6 => by rw [f3_ud26 k h0]; exact hfr5 k h6) (f1_ud26 0)⟩⟩, by rw [ht]; exact hP, hD⟩, hS.F ht⟩) hS.2.2 dX3_pass_330
                            · skip
                              refine mf_iconst hx hb dX3_pass_325 ?_
                              refine lv_goto (tgt := 330) hx hb dX3_pass_326 (by decide) ?_
                              have hP := hP.sub (ws' := SW G hm adm cac nc ud26) [0, 1, 2, 3, 4, 5, 6, 7] rfl
                              have hD := hD.sub (ws' := SW G hm adm cac nc ud26) [0, 1, 2, 3, 4, 5, 6, 7] (by decide) rfl
                              exact W.zret hx hb hr (mf_nar01 (by omega)) (fun t ht hW => ⟨⟨_, (ud26, cac, nc), rfl, ⟨_, rfl, by (try dsimp only); exact ⟨okud26, yearRelS hrel3 hqf (by rw [hq8, h38]) (fun k h0 h6 => by rw [f3_ud26 k h0]; exact hfr5 k h6) (f1_ud26 0)⟩⟩, by rw [ht]; exact hP, hD⟩, hS.F ht⟩) hS.2.2 dX3_pass_330
                          · skip
                            refine lv_aload_n hx hb dX3_pass_284 rfl (lv_at hl 0 rfl) ?_
                            refine va_get (D := G.1) (ci := 3) (v := .ref (adm 6)) (C := RX3) (T := TX3) (N := 9) hx hb hts hinX3 hown hK hP 0 rfl rfl 6 (by decide) (hts (.fieldLink RX3 20 "MeanderFarmLaw$Sim" "lake" "[I") (List.mem_of_getElem? (i := 8) rfl)) (fun _ h9 => h9) rfl dX3_pass_285 ?_
                            refine lv_iload hx hb dX3_pass_288 (lv_at hl 2 rfl) ?_
                            refine mf_iald (n := 384) (f := ud 6) hx hb hK hP 5 0 rfl rfl (z := k5) (by omega) (by omega) (by first | decide | omega) dX3_pass_290 ?_
                            have b28 : (0 : Int) ≤ ud 6 k5 ∧ ud 6 k5 ≤ 10 := okd 6 (k5)
                            refine mf_if_le (tgt := 305) hx hb dX3_pass_291 (by decide) (i32_mk (by omega) (by omega)) (fun c29 => ?_) (fun c29 => ?_)
                            · skip
                              refine lv_iinc (v := iI (k5 + 1)) (lv' := [(5, .int (iI (k5 + 1))), (0, .ref hm), (3, .int (iI (bv)))]) hx hb dX3_pass_305 hl (k := 2) rfl (iI_add _ _).symm (by decide) rfl (fun ls hl => ?_)
                              refine lv_goto (tgt := 276) hx hb dX3_pass_308 (by decide) ?_
                              exact ih276 (k5 + 1) ud (by omega) (by first | assumption | omega) (by first | assumption | omega) (by exact hfr5) _ _ hP hD hS ls (lv_sub hl [1, 2, 0] rfl)
                            · skip
                              refine lv_aload_n hx hb dX3_pass_294 rfl (lv_at hl 0 rfl) ?_
                              refine va_get (D := G.1) (ci := 3) (v := .ref (adm 6)) (C := RX3) (T := TX3) (N := 9) hx hb hts hinX3 hown hK hP 0 rfl rfl 6 (by decide) (hts (.fieldLink RX3 20 "MeanderFarmLaw$Sim" "lake" "[I") (List.mem_of_getElem? (i := 8) rfl)) (fun _ h9 => h9) rfl dX3_pass_295 ?_
                              refine lv_iload hx hb dX3_pass_298 (lv_at hl 2 rfl) ?_
                              refine lv_dup2_11 hx hb dX3_pass_300 rfl rfl ?_
                              refine mf_iald (n := 384) (f := ud 6) hx hb hK hP 5 0 rfl rfl (z := k5) (by omega) (by omega) (by first | decide | omega) dX3_pass_301 ?_
                              have b30 : (0 : Int) ≤ ud 6 k5 ∧ ud 6 k5 ≤ 10 := okd 6 (k5)
                              refine mf_iconst hx hb dX3_pass_302 ?_
                              refine mf_isub hx hb dX3_pass_303 ?_
                              refine mf_iast (n := 384) (f := ud 6) hx hb hK hP hD hS 5 0 rfl rfl (z := k5) (x := (ud 6 k5) - 1) (by omega) (by omega) (by first | decide | omega) dX3_pass_304 (fun H locs hP hD hS => ?_)
                              obtain ⟨ud31, eud31⟩ : ∃ z9 : mf_V, z9 = mf_sF ud 6 (mf_up (ud 6) (k5) ((ud 6 k5) - 1)) := ⟨_, rfl⟩
                              have hP : va_P G.1 vwCl (SW G hm adm cac nc ud31 ++ AW G na3 nv5 va) H := by rw [eud31]; exact hP
                              have hD : va_D A (SW G hm adm cac nc ud31 ++ AW G na3 nv5 va) := by rw [eud31]; exact hD
                              have okud31 : rOK slo shi ud31 := by rw [eud31]; exact rOK_up okd 6 _ _ (show (0 : Int) ≤ (ud 6 k5) - 1 by omega) (show (ud 6 k5) - 1 ≤ (10 : Int) by omega)
                              have f1_ud31 : ud31 6 (k5) = (ud 6 k5) - 1 := by rw [eud31, mf_sF_s, mf_up_s]
                              have f2_ud31 : ∀ y, y ≠ (k5) → ud31 6 y = ud 6 y := fun y hy => by rw [eud31, mf_sF_s, mf_up_n hy]
                              have f3_ud31 : ∀ q, q ≠ 6 → ud31 q = ud q := fun q hq => by rw [eud31, mf_sF_n hq]
                              refine lv_iinc (v := iI (k5 + 1)) (lv' := [(5, .int (iI (k5 + 1))), (0, .ref hm), (3, .int (iI (bv)))]) hx hb dX3_pass_305 hl (k := 2) rfl (iI_add _ _).symm (by decide) rfl (fun ls hl => ?_)
                              refine lv_goto (tgt := 276) hx hb dX3_pass_308 (by decide) ?_
                              exact ih276 (k5 + 1) ud31 (by omega) (by first | assumption | omega) (by first | assumption | omega) (by intro k hk; rw [f3_ud31 k hk]; exact hfr5 k hk) _ _ hP hD hS ls (lv_sub hl [1, 2, 0] rfl)
                      exact lp276 (_ + 1) 0 uc (Nat.lt_succ_self _) (by first | assumption | omega) (by first | assumption | omega) (by intro k _; rfl) _ _ hP hD hS ls (lv_sub hl [1, 2, 0] rfl)
                    exact lp273 ub20 cx21 nx22 (by first | assumption | omega) (by exact w23.2) _ _ hP hD hS ls (lv_sub hl [0, 2] rfl)
                refine W.widen (k := 2) (n := 302) (Nat.le_of_ble_eq_true rfl) (Nat.le_of_ble_eq_true rfl) ?_
                exact lp263 ua ca nn (by first | assumption | omega) (by rcases hrip with hz | hz; (rw [hz.2.1]; exact hrelk); (exact absurd (by omega) hz.1)) (by rcases hrip with hz | hz; (rw [hz.2.1, h1f 9 (by decide)]); (exact absurd (by omega) hz.1)) _ _ hP hD hS ls (lv_sub hl [0, 1, 3] rfl)
              · skip
                rcases hrip with hz | hz
                · exact absurd hz.1 (by omega)
                rcases hrc with y9 | y9
                · exact absurd y9.1 (by omega)
                have y1 := y9.1
                have y2 := y9.2.1
                refine lv_aload_n hx hb dX3_pass_255 rfl (lv_at hl 0 rfl) ?_
                refine lv_iload_n hx hb dX3_pass_256 rfl (lv_at hl 3 rfl) ?_
                refine lv_aload_n hx hb dX3_pass_257 rfl (lv_at hl 2 rfl) ?_
                refine lv_iload_n hx hb dX3_pass_258 rfl (lv_at hl 3 rfl) ?_
                refine mf_iald (n := nv5) (f := va 0) hx hb hK hP 8 0 rfl rfl (z := bv) (by omega) (by omega) (by first | decide | omega) dX3_pass_259 ?_
                refine mf_top (va 0 bv) (rk 12 bv) (by exact hvs2 bv (by omega) (by omega)) ?_
                have b12 : (-1 : Int) ≤ rk 12 bv ∧ rk 12 bv ≤ 3 := okk 12 bv
                skip
                have hFc := va_free (wc := SW G hm adm ca nn ua) hD hS hA [0, 1, 2, 3, 4, 5, 6, 7] rfl
                refine va_callv (va_runV (As := [.int (iI (bv)), .int (iI (rk 12 bv))]) (rest := []) ⟨hx, hb, hml, hown, hts⟩ (c_X3_bulge l G hm adm ca nn ua (bv) (rk 12 bv) (rk) (i32_mk (by omega) (by omega)) (i32_mk (by omega) (by omega)) (by assumption) (by exact okk) (by exact hIk) (by exact hrelk) (by exact y9.2.2.1.2.2) _) (cwV 2 hts gX3_pass_X3_bulge rfl rfl rfl (by decide +kernel) ⟨Nat.le_of_ble_eq_true rfl, Nat.le_of_ble_eq_true rfl⟩) (wrV (wc := SW G hm adm ca nn ua) hK hP hD hN [0, 1, 2, 3, 4, 5, 6, 7] (by decide) rfl rfl (ci := 3) rfl rfl) rfl rfl hl.1 rfl (lv_room (Nat.le_of_ble_eq_true rfl)) dX3_pass_260 ⟨(Nat.le_of_ble_eq_true rfl), (Nat.le_of_ble_eq_true rfl)⟩) hS (fun q _ h => hFc q h) hFc (fun u33 t H1 locs ht hvm hw hB hz1 hk1 hS => ?_)
                obtain ⟨ua34, cx35, nx36⟩ := u33
                try dsimp only at hw hB
                obtain ⟨hP, hD⟩ := wrJ2 (ws := SW G hm adm ca nn ua ++ AW G na3 nv5 va) (wc := SW G hm adm ca nn ua) (wr := AW G na3 nv5 va) (w1 := SW G hm adm cx35 nx36 ua34) hP hD [0, 1, 2, 3, 4, 5, 6, 7] [8] rfl rfl (by decide) (by decide) hk1 ht hFc hB
                have hP : va_P G.1 vwCl (SW G hm adm cx35 nx36 ua34 ++ AW G na3 nv5 va) H1 := hP.sub [1, 2, 3, 4, 5, 6, 7, 8, 0] rfl
                have hD : va_D A (SW G hm adm cx35 nx36 ua34 ++ AW G na3 nv5 va) := hD.sub [1, 2, 3, 4, 5, 6, 7, 8, 0] (by decide) rfl
                have hP : va_P G.1 vwCl (SW G hm adm cx35 nx36 ua34 ++ AW G na3 nv5 va) H1 := hP
                have hD : va_D A (SW G hm adm cx35 nx36 ua34 ++ AW G na3 nv5 va) := hD
                clear hB hk1 hFc ht hz1 hvm
                generalize H1 = H at hP hS ⊢
                have w37 := hw; clear hw
                have okua34 : rOK slo shi ua34 := w37.1
                have lp263 : ∀ (ub : mf_V) (cab : Nat) (nb : Nat), (rOK slo shi ub) → (relS r2 nb ub) → (r2 9 0 = r 9 0) → ∀ (H : Heap) (locs : List Loc), va_P G.1 vwCl (SW G hm adm cab nb ub ++ AW G na3 nv5 va) H → va_D A (SW G hm adm cab nb ub ++ AW G na3 nv5 va) → va_S A s.heap H locs → ∀ (ls : Array Slot), lv_has ls 7 [(0, .ref hm), (1, .int (iI (r 5 (r 8 0 % 12)))), (3, .int (iI (bv)))] → W p l e (headSpec wsX3_pass ({ frames := 4, cells := 153, slots := 11855, locals := 89 })).room s m ([.ref hm] : List Value).toArray below meth c H locs 2 302 (MQ below (va_Qi (fun q9 (uZ : mf_V × Nat × Nat) => ∃ z : Int, q9 = iI z ∧ rOK slo shi uZ.1 ∧ relS q uZ.2.2 uZ.1) (fun (uZ : mf_V × Nat × Nat) t => WrQ G A (SW G hm adm (uZ.2.1) (uZ.2.2) (uZ.1)) t) A) ([.ref hm] : List Value).toArray s 153 11855 A) (F0 m 263 ls []) := by
                  intro ub cab nb okb hrel2 e29 H locs hP hD hS ls hl
                  refine lv_iload_n hx hb dX3_pass_263 rfl (lv_at hl 1 rfl) ?_
                  refine mf_bipush hx hb dX3_pass_264 rfl ?_
                  refine mf_icmp_le (tgt := 273) hx hb dX3_pass_266 (by decide) (i32_mk (by omega) (by omega)) (i32_mk (by decide) (by decide)) (fun c38 => ?_) (fun c38 => ?_)
                  · skip
                    have lp273 : ∀ (uc : mf_V) (cac : Nat) (nc : Nat), (rOK slo shi uc) → (relS r3 nc uc) → ∀ (H : Heap) (locs : List Loc), va_P G.1 vwCl (SW G hm adm cac nc uc ++ AW G na3 nv5 va) H → va_D A (SW G hm adm cac nc uc ++ AW G na3 nv5 va) → va_S A s.heap H locs → ∀ (ls : Array Slot), lv_has ls 7 [(0, .ref hm), (3, .int (iI (bv)))] → W p l e (headSpec wsX3_pass ({ frames := 4, cells := 153, slots := 11855, locals := 89 })).room s m ([.ref hm] : List Value).toArray below meth c H locs 153 11855 (MQ below (va_Qi (fun q9 (uZ : mf_V × Nat × Nat) => ∃ z : Int, q9 = iI z ∧ rOK slo shi uZ.1 ∧ relS q uZ.2.2 uZ.1) (fun (uZ : mf_V × Nat × Nat) t => WrQ G A (SW G hm adm (uZ.2.1) (uZ.2.2) (uZ.1)) t) A) ([.ref hm] : List Value).toArray s 153 11855 A) (F0 m 273 ls []) := by
                      intro uc cac nc okc hrel3 H locs hP hD hS ls hl
                      refine mf_iconst hx hb dX3_pass_273 ?_
                      refine lv_istore (lv' := [(5, .int (iI (0))), (0, .ref hm), (3, .int (iI (bv)))]) hx hb dX3_pass_274 hl (by decide) rfl (fun ls hl => ?_)
                      have lp276 : ∀ (n : Nat) (k5 : Int) (ud : mf_V), (384 - k5).toNat < n → (0 ≤ k5 ∧ k5 ≤ 384) → (rOK slo shi ud) → (∀ k, k ≠ 6 → ud k = uc k) → ∀ (H : Heap) (locs : List Loc), va_P G.1 vwCl (SW G hm adm cac nc ud ++ AW G na3 nv5 va) H → va_D A (SW G hm adm cac nc ud ++ AW G na3 nv5 va) → va_S A s.heap H locs → ∀ (ls : Array Slot), lv_has ls 7 [(0, .ref hm), (3, .int (iI (bv))), (5, .int (iI (k5)))] → W p l e (headSpec wsX3_pass ({ frames := 4, cells := 153, slots := 11855, locals := 89 })).room s m ([.ref hm] : List Value).toArray below meth c H locs 153 11855 (MQ below (va_Qi (fun q9 (uZ : mf_V × Nat × Nat) => ∃ z : Int, q9 = iI z ∧ rOK slo shi uZ.1 ∧ relS q uZ.2.2 uZ.1) (fun (uZ : mf_V × Nat × Nat) t => WrQ G A (SW G hm adm (uZ.2.1) (uZ.2.2) (uZ.1)) t) A) ([.ref hm] : List Value).toArray s 153 11855 A) (F0 m 276 ls []) := by
                        intro n
                        induction n with
                        | zero => intro k5 ud hn; exact absurd hn (Nat.not_lt_zero _)
                        | succ n ih276 =>
                          intro k5 ud hn hk5 okd hfr5 H locs hP hD hS ls hl
                          refine lv_iload hx hb dX3_pass_276 (lv_at hl 2 rfl) ?_
                          refine mf_sipush hx hb dX3_pass_278 rfl ?_
                          refine mf_icmp_ge (tgt := 311) hx hb dX3_pass_281 (by decide) (i32_mk (by omega) (by omega)) (i32_mk (by decide) (by decide)) (fun c39 => ?_) (fun c39 => ?_)
                          · skip
                            refine lv_aload_n hx hb dX3_pass_311 rfl (lv_at hl 0 rfl) ?_
                            refine lv_dup hx hb dX3_pass_312 rfl ?_
                            refine va_get (D := G.1) (ci := 3) (v := .int (iI (ud 0 0))) (C := RX3) (T := TX3) (N := 9) hx hb hts hinX3 hown hK hP 0 rfl rfl 0 (by decide) (hts (.fieldLink RX3 35 "MeanderFarmLaw$Sim" "year" "I") (List.mem_of_getElem? (i := 2) rfl)) (fun _ h9 => h9) rfl dX3_pass_313 ?_
                            refine mf_top (ud 0 0) (r3 8 0) (by rw [hfr5 0 (by decide), (rel0 hrel3)]) ?_
                            have b40 : (0 : Int) ≤ r3 8 0 ∧ r3 8 0 ≤ 90000 := ok3 8 (0)
                            refine mf_iconst hx hb dX3_pass_316 ?_
                            refine mf_iadd hx hb dX3_pass_317 ?_
                            refine va_put (D := G.1) (ci := 3) (v := .int (iI ((r3 8 0) + 1))) (ty := .int) (C := RX3) (T := TX3) (N := 9) hx hb hts hinX3 tyX3 tyX3_ok nmX3 hown hK hP hD hS 0 rfl rfl 0 (by decide) (hts (.fieldLink RX3 35 "MeanderFarmLaw$Sim" "year" "I") (List.mem_of_getElem? (i := 2) rfl)) (fun _ h9 => h9) rfl (by decide +kernel) rfl rfl (Nat.le_of_ble_eq_true rfl) dX3_pass_318 (fun H locs hP hD hS => ?_)
                            obtain ⟨ud41, eud41⟩ : ∃ z9 : mf_V, z9 = mf_sF ud 0 (fun _ => (r3 8 0) + 1) := ⟨_, rfl⟩
                            have hP : va_P G.1 vwCl (SW G hm adm cac nc ud41 ++ AW G na3 nv5 va) H := by rw [eud41]; exact hP
                            have hD : va_D A (SW G hm adm cac nc ud41 ++ AW G na3 nv5 va) := by rw [eud41]; exact hD
                            have okud41 : rOK slo shi ud41 := by rw [eud41]; exact rOK_set okd 0 _ (show (0 : Int) ≤ (r3 8 0) + 1 by omega) (show (r3 8 0) + 1 ≤ (90000 : Int) by omega)
                            have f1_ud41 : ∀ y, ud41 0 y = (r3 8 0) + 1 := fun y => by rw [eud41, mf_sF_s]
                            have f3_ud41 : ∀ q, q ≠ 0 → ud41 q = ud q := fun q hq => by rw [eud41, mf_sF_n hq]
                            refine lv_iload_n hx hb dX3_pass_321 rfl (lv_at hl 1 rfl) ?_
                            refine mf_if_lt (tgt := 329) hx hb dX3_pass_322 (by decide) (i32_mk (by omega) (by omega)) (fun c42 => ?_) (fun c42 => ?_)
                            · skip
                              refine mf_iconst hx hb dX3_pass_329 ?_
                              have hP := hP.sub (ws' := SW G hm adm cac nc ud41) [0, 1, 2, 3, 4, 5, 6, 7] rfl
                              have hD := hD.sub (ws' := SW G hm adm cac nc ud41) [0, 1, 2, 3, 4, 5, 6, 7] (by decide) rfl
                              exact W.zret hx hb hr (mf_nar01 (by omega)) (fun t ht hW => ⟨⟨_, (ud41, cac, nc), rfl, ⟨_, rfl, by (try dsimp only); exact ⟨okud41, yearRelS hrel3 hqf (by rw [hq8, h38]) (fun k h0 h6 => by rw [f3_ud41 k h0]; exact hfr5 k h6) (f1_ud41 0)⟩⟩, by rw [ht]; exact hP, hD⟩, hS.F ht⟩) hS.2.2 dX3_pass_330
                            · skip
                              refine mf_iconst hx hb dX3_pass_325 ?_
                              refine lv_goto (tgt := 330) hx hb dX3_pass_326 (by decide) ?_
                              have hP := hP.sub (ws' := SW G hm adm cac nc ud41) [0, 1, 2, 3, 4, 5, 6, 7] rfl
                              have hD := hD.sub (ws' := SW G hm adm cac nc ud41) [0, 1, 2, 3, 4, 5, 6, 7] (by decide) rfl
                              exact W.zret hx hb hr (mf_nar01 (by omega)) (fun t ht hW => ⟨⟨_, (ud41, cac, nc), rfl, ⟨_, rfl, by (try dsimp only); exact ⟨okud41, yearRelS hrel3 hqf (by rw [hq8, h38]) (fun k h0 h6 => by rw [f3_ud41 k h0]; exact hfr5 k h6) (f1_ud41 0)⟩⟩, by rw [ht]; exact hP, hD⟩, hS.F ht⟩) hS.2.2 dX3_pass_330
                          · skip
                            refine lv_aload_n hx hb dX3_pass_284 rfl (lv_at hl 0 rfl) ?_
                            refine va_get (D := G.1) (ci := 3) (v := .ref (adm 6)) (C := RX3) (T := TX3) (N := 9) hx hb hts hinX3 hown hK hP 0 rfl rfl 6 (by decide) (hts (.fieldLink RX3 20 "MeanderFarmLaw$Sim" "lake" "[I") (List.mem_of_getElem? (i := 8) rfl)) (fun _ h9 => h9) rfl dX3_pass_285 ?_
                            refine lv_iload hx hb dX3_pass_288 (lv_at hl 2 rfl) ?_
                            refine mf_iald (n := 384) (f := ud 6) hx hb hK hP 5 0 rfl rfl (z := k5) (by omega) (by omega) (by first | decide | omega) dX3_pass_290 ?_
                            have b43 : (0 : Int) ≤ ud 6 k5 ∧ ud 6 k5 ≤ 10 := okd 6 (k5)
                            refine mf_if_le (tgt := 305) hx hb dX3_pass_291 (by decide) (i32_mk (by omega) (by omega)) (fun c44 => ?_) (fun c44 => ?_)
                            · skip
                              refine lv_iinc (v := iI (k5 + 1)) (lv' := [(5, .int (iI (k5 + 1))), (0, .ref hm), (3, .int (iI (bv)))]) hx hb dX3_pass_305 hl (k := 2) rfl (iI_add _ _).symm (by decide) rfl (fun ls hl => ?_)
                              refine lv_goto (tgt := 276) hx hb dX3_pass_308 (by decide) ?_
                              exact ih276 (k5 + 1) ud (by omega) (by first | assumption | omega) (by first | assumption | omega) (by exact hfr5) _ _ hP hD hS ls (lv_sub hl [1, 2, 0] rfl)
                            · skip
                              refine lv_aload_n hx hb dX3_pass_294 rfl (lv_at hl 0 rfl) ?_
                              refine va_get (D := G.1) (ci := 3) (v := .ref (adm 6)) (C := RX3) (T := TX3) (N := 9) hx hb hts hinX3 hown hK hP 0 rfl rfl 6 (by decide) (hts (.fieldLink RX3 20 "MeanderFarmLaw$Sim" "lake" "[I") (List.mem_of_getElem? (i := 8) rfl)) (fun _ h9 => h9) rfl dX3_pass_295 ?_
                              refine lv_iload hx hb dX3_pass_298 (lv_at hl 2 rfl) ?_
                              refine lv_dup2_11 hx hb dX3_pass_300 rfl rfl ?_
                              refine mf_iald (n := 384) (f := ud 6) hx hb hK hP 5 0 rfl rfl (z := k5) (by omega) (by omega) (by first | decide | omega) dX3_pass_301 ?_
                              have b45 : (0 : Int) ≤ ud 6 k5 ∧ ud 6 k5 ≤ 10 := okd 6 (k5)
                              refine mf_iconst hx hb dX3_pass_302 ?_
                              refine mf_isub hx hb dX3_pass_303 ?_
                              refine mf_iast (n := 384) (f := ud 6) hx hb hK hP hD hS 5 0 rfl rfl (z := k5) (x := (ud 6 k5) - 1) (by omega) (by omega) (by first | decide | omega) dX3_pass_304 (fun H locs hP hD hS => ?_)
                              obtain ⟨ud46, eud46⟩ : ∃ z9 : mf_V, z9 = mf_sF ud 6 (mf_up (ud 6) (k5) ((ud 6 k5) - 1)) := ⟨_, rfl⟩
                              have hP : va_P G.1 vwCl (SW G hm adm cac nc ud46 ++ AW G na3 nv5 va) H := by rw [eud46]; exact hP
                              have hD : va_D A (SW G hm adm cac nc ud46 ++ AW G na3 nv5 va) := by rw [eud46]; exact hD
                              have okud46 : rOK slo shi ud46 := by rw [eud46]; exact rOK_up okd 6 _ _ (show (0 : Int) ≤ (ud 6 k5) - 1 by omega) (show (ud 6 k5) - 1 ≤ (10 : Int) by omega)
                              have f1_ud46 : ud46 6 (k5) = (ud 6 k5) - 1 := by rw [eud46, mf_sF_s, mf_up_s]
                              have f2_ud46 : ∀ y, y ≠ (k5) → ud46 6 y = ud 6 y := fun y hy => by rw [eud46, mf_sF_s, mf_up_n hy]
                              have f3_ud46 : ∀ q, q ≠ 6 → ud46 q = ud q := fun q hq => by rw [eud46, mf_sF_n hq]
                              refine lv_iinc (v := iI (k5 + 1)) (lv' := [(5, .int (iI (k5 + 1))), (0, .ref hm), (3, .int (iI (bv)))]) hx hb dX3_pass_305 hl (k := 2) rfl (iI_add _ _).symm (by decide) rfl (fun ls hl => ?_)
                              refine lv_goto (tgt := 276) hx hb dX3_pass_308 (by decide) ?_
                              exact ih276 (k5 + 1) ud46 (by omega) (by first | assumption | omega) (by first | assumption | omega) (by intro k hk; rw [f3_ud46 k hk]; exact hfr5 k hk) _ _ hP hD hS ls (lv_sub hl [1, 2, 0] rfl)
                      exact lp276 (_ + 1) 0 uc (Nat.lt_succ_self _) (by first | assumption | omega) (by first | assumption | omega) (by intro k _; rfl) _ _ hP hD hS ls (lv_sub hl [1, 2, 0] rfl)
                    refine W.widen (k := 153) (n := 11855) (Nat.le_of_ble_eq_true rfl) (Nat.le_of_ble_eq_true rfl) ?_
                    exact lp273 ub cab nb (by first | assumption | omega) (by rcases hfl with z | z; (omega); (rw [z.2]; exact hrel2)) _ _ hP hD hS ls (lv_sub hl [0, 2] rfl)
                  · skip
                    refine lv_aload_n hx hb dX3_pass_269 rfl (lv_at hl 0 rfl) ?_
                    have hFc := va_free (wc := SW G hm adm cab nb ub) hD hS hA [0, 1, 2, 3, 4, 5, 6, 7] rfl
                    refine va_callv (va_runV (As := []) (rest := []) ⟨hx, hb, hml, hown, hts⟩ (c_X3_flood l G hm adm cab nb ub (r2) (r3) (by assumption) (by exact ok2) (by exact hI2) (by exact hrel2) (by rcases hfl with z | z; (exact z.2); (omega)) (by rw [e29]; exact hbk) _) (cwV 0 hts gX3_pass_X3_flood rfl rfl rfl (by decide +kernel) ⟨Nat.le_of_ble_eq_true rfl, Nat.le_of_ble_eq_true rfl⟩) (wrV (wc := SW G hm adm cab nb ub) hK hP hD hN [0, 1, 2, 3, 4, 5, 6, 7] (by decide) rfl rfl (ci := 3) rfl rfl) rfl rfl hl.1 rfl (lv_room (Nat.le_of_ble_eq_true rfl)) dX3_pass_270 ⟨(Nat.le_of_ble_eq_true rfl), (Nat.le_of_ble_eq_true rfl)⟩) hS (fun q _ h => hFc q h) hFc (fun u48 t H1 locs ht hvm hw hB hz1 hk1 hS => ?_)
                    obtain ⟨ub49, cx50, nx51⟩ := u48
                    try dsimp only at hw hB
                    obtain ⟨hP, hD⟩ := wrJ2 (ws := SW G hm adm cab nb ub ++ AW G na3 nv5 va) (wc := SW G hm adm cab nb ub) (wr := AW G na3 nv5 va) (w1 := SW G hm adm cx50 nx51 ub49) hP hD [0, 1, 2, 3, 4, 5, 6, 7] [8] rfl rfl (by decide) (by decide) hk1 ht hFc hB
                    have hP : va_P G.1 vwCl (SW G hm adm cx50 nx51 ub49 ++ AW G na3 nv5 va) H1 := hP.sub [1, 2, 3, 4, 5, 6, 7, 8, 0] rfl
                    have hD : va_D A (SW G hm adm cx50 nx51 ub49 ++ AW G na3 nv5 va) := hD.sub [1, 2, 3, 4, 5, 6, 7, 8, 0] (by decide) rfl
                    have hP : va_P G.1 vwCl (SW G hm adm cx50 nx51 ub49 ++ AW G na3 nv5 va) H1 := hP
                    have hD : va_D A (SW G hm adm cx50 nx51 ub49 ++ AW G na3 nv5 va) := hD
                    clear hB hk1 hFc ht hz1 hvm
                    generalize H1 = H at hP hS ⊢
                    have w52 := hw; clear hw
                    have okub49 : rOK slo shi ub49 := w52.1
                    have lp273 : ∀ (uc : mf_V) (cac : Nat) (nc : Nat), (rOK slo shi uc) → (relS r3 nc uc) → ∀ (H : Heap) (locs : List Loc), va_P G.1 vwCl (SW G hm adm cac nc uc ++ AW G na3 nv5 va) H → va_D A (SW G hm adm cac nc uc ++ AW G na3 nv5 va) → va_S A s.heap H locs → ∀ (ls : Array Slot), lv_has ls 7 [(0, .ref hm), (3, .int (iI (bv)))] → W p l e (headSpec wsX3_pass ({ frames := 4, cells := 153, slots := 11855, locals := 89 })).room s m ([.ref hm] : List Value).toArray below meth c H locs 153 11855 (MQ below (va_Qi (fun q9 (uZ : mf_V × Nat × Nat) => ∃ z : Int, q9 = iI z ∧ rOK slo shi uZ.1 ∧ relS q uZ.2.2 uZ.1) (fun (uZ : mf_V × Nat × Nat) t => WrQ G A (SW G hm adm (uZ.2.1) (uZ.2.2) (uZ.1)) t) A) ([.ref hm] : List Value).toArray s 153 11855 A) (F0 m 273 ls []) := by
                      intro uc cac nc okc hrel3 H locs hP hD hS ls hl
                      refine mf_iconst hx hb dX3_pass_273 ?_
                      refine lv_istore (lv' := [(5, .int (iI (0))), (0, .ref hm), (3, .int (iI (bv)))]) hx hb dX3_pass_274 hl (by decide) rfl (fun ls hl => ?_)
                      have lp276 : ∀ (n : Nat) (k5 : Int) (ud : mf_V), (384 - k5).toNat < n → (0 ≤ k5 ∧ k5 ≤ 384) → (rOK slo shi ud) → (∀ k, k ≠ 6 → ud k = uc k) → ∀ (H : Heap) (locs : List Loc), va_P G.1 vwCl (SW G hm adm cac nc ud ++ AW G na3 nv5 va) H → va_D A (SW G hm adm cac nc ud ++ AW G na3 nv5 va) → va_S A s.heap H locs → ∀ (ls : Array Slot), lv_has ls 7 [(0, .ref hm), (3, .int (iI (bv))), (5, .int (iI (k5)))] → W p l e (headSpec wsX3_pass ({ frames := 4, cells := 153, slots := 11855, locals := 89 })).room s m ([.ref hm] : List Value).toArray below meth c H locs 153 11855 (MQ below (va_Qi (fun q9 (uZ : mf_V × Nat × Nat) => ∃ z : Int, q9 = iI z ∧ rOK slo shi uZ.1 ∧ relS q uZ.2.2 uZ.1) (fun (uZ : mf_V × Nat × Nat) t => WrQ G A (SW G hm adm (uZ.2.1) (uZ.2.2) (uZ.1)) t) A) ([.ref hm] : List Value).toArray s 153 11855 A) (F0 m 276 ls []) := by
                        intro n
                        induction n with
                        | zero => intro k5 ud hn; exact absurd hn (Nat.not_lt_zero _)
                        | succ n ih276 =>
                          intro k5 ud hn hk5 okd hfr5 H locs hP hD hS ls hl
                          refine lv_iload hx hb dX3_pass_276 (lv_at hl 2 rfl) ?_
                          refine mf_sipush hx hb dX3_pass_278 rfl ?_
                          refine mf_icmp_ge (tgt := 311) hx hb dX3_pass_281 (by decide) (i32_mk (by omega) (by omega)) (i32_mk (by decide) (by decide)) (fun c53 => ?_) (fun c53 => ?_)
                          · skip
                            refine lv_aload_n hx hb dX3_pass_311 rfl (lv_at hl 0 rfl) ?_
                            refine lv_dup hx hb dX3_pass_312 rfl ?_
                            refine va_get (D := G.1) (ci := 3) (v := .int (iI (ud 0 0))) (C := RX3) (T := TX3) (N := 9) hx hb hts hinX3 hown hK hP 0 rfl rfl 0 (by decide) (hts (.fieldLink RX3 35 "MeanderFarmLaw$Sim" "year" "I") (List.mem_of_getElem? (i := 2) rfl)) (fun _ h9 => h9) rfl dX3_pass_313 ?_
                            refine mf_top (ud 0 0) (r3 8 0) (by rw [hfr5 0 (by decide), (rel0 hrel3)]) ?_
                            have b54 : (0 : Int) ≤ r3 8 0 ∧ r3 8 0 ≤ 90000 := ok3 8 (0)
                            refine mf_iconst hx hb dX3_pass_316 ?_
                            refine mf_iadd hx hb dX3_pass_317 ?_
                            refine va_put (D := G.1) (ci := 3) (v := .int (iI ((r3 8 0) + 1))) (ty := .int) (C := RX3) (T := TX3) (N := 9) hx hb hts hinX3 tyX3 tyX3_ok nmX3 hown hK hP hD hS 0 rfl rfl 0 (by decide) (hts (.fieldLink RX3 35 "MeanderFarmLaw$Sim" "year" "I") (List.mem_of_getElem? (i := 2) rfl)) (fun _ h9 => h9) rfl (by decide +kernel) rfl rfl (Nat.le_of_ble_eq_true rfl) dX3_pass_318 (fun H locs hP hD hS => ?_)
                            obtain ⟨ud55, eud55⟩ : ∃ z9 : mf_V, z9 = mf_sF ud 0 (fun _ => (r3 8 0) + 1) := ⟨_, rfl⟩
                            have hP : va_P G.1 vwCl (SW G hm adm cac nc ud55 ++ AW G na3 nv5 va) H := by rw [eud55]; exact hP
                            have hD : va_D A (SW G hm adm cac nc ud55 ++ AW G na3 nv5 va) := by rw [eud55]; exact hD
                            have okud55 : rOK slo shi ud55 := by rw [eud55]; exact rOK_set okd 0 _ (show (0 : Int) ≤ (r3 8 0) + 1 by omega) (show (r3 8 0) + 1 ≤ (90000 : Int) by omega)
                            have f1_ud55 : ∀ y, ud55 0 y = (r3 8 0) + 1 := fun y => by rw [eud55, mf_sF_s]
                            have f3_ud55 : ∀ q, q ≠ 0 → ud55 q = ud q := fun q hq => by rw [eud55, mf_sF_n hq]
                            refine lv_iload_n hx hb dX3_pass_321 rfl (lv_at hl 1 rfl) ?_
                            refine mf_if_lt (tgt := 329) hx hb dX3_pass_322 (by decide) (i32_mk (by omega) (by omega)) (fun c56 => ?_) (fun c56 => ?_)
                            · skip
                              refine mf_iconst hx hb dX3_pass_329 ?_
                              have hP := hP.sub (ws' := SW G hm adm cac nc ud55) [0, 1, 2, 3, 4, 5, 6, 7] rfl
                              have hD := hD.sub (ws' := SW G hm adm cac nc ud55) [0, 1, 2, 3, 4, 5, 6, 7] (by decide) rfl
                              exact W.zret hx hb hr (mf_nar01 (by omega)) (fun t ht hW => ⟨⟨_, (ud55, cac, nc), rfl, ⟨_, rfl, by (try dsimp only); exact ⟨okud55, yearRelS hrel3 hqf (by rw [hq8, h38]) (fun k h0 h6 => by rw [f3_ud55 k h0]; exact hfr5 k h6) (f1_ud55 0)⟩⟩, by rw [ht]; exact hP, hD⟩, hS.F ht⟩) hS.2.2 dX3_pass_330
                            · skip
                              refine mf_iconst hx hb dX3_pass_325 ?_
                              refine lv_goto (tgt := 330) hx hb dX3_pass_326 (by decide) ?_
                              have hP := hP.sub (ws' := SW G hm adm cac nc ud55) [0, 1, 2, 3, 4, 5, 6, 7] rfl
                              have hD := hD.sub (ws' := SW G hm adm cac nc ud55) [0, 1, 2, 3, 4, 5, 6, 7] (by decide) rfl
                              exact W.zret hx hb hr (mf_nar01 (by omega)) (fun t ht hW => ⟨⟨_, (ud55, cac, nc), rfl, ⟨_, rfl, by (try dsimp only); exact ⟨okud55, yearRelS hrel3 hqf (by rw [hq8, h38]) (fun k h0 h6 => by rw [f3_ud55 k h0]; exact hfr5 k h6) (f1_ud55 0)⟩⟩, by rw [ht]; exact hP, hD⟩, hS.F ht⟩) hS.2.2 dX3_pass_330
                          · skip
                            refine lv_aload_n hx hb dX3_pass_284 rfl (lv_at hl 0 rfl) ?_
                            refine va_get (D := G.1) (ci := 3) (v := .ref (adm 6)) (C := RX3) (T := TX3) (N := 9) hx hb hts hinX3 hown hK hP 0 rfl rfl 6 (by decide) (hts (.fieldLink RX3 20 "MeanderFarmLaw$Sim" "lake" "[I") (List.mem_of_getElem? (i := 8) rfl)) (fun _ h9 => h9) rfl dX3_pass_285 ?_
                            refine lv_iload hx hb dX3_pass_288 (lv_at hl 2 rfl) ?_
                            refine mf_iald (n := 384) (f := ud 6) hx hb hK hP 5 0 rfl rfl (z := k5) (by omega) (by omega) (by first | decide | omega) dX3_pass_290 ?_
                            have b57 : (0 : Int) ≤ ud 6 k5 ∧ ud 6 k5 ≤ 10 := okd 6 (k5)
                            refine mf_if_le (tgt := 305) hx hb dX3_pass_291 (by decide) (i32_mk (by omega) (by omega)) (fun c58 => ?_) (fun c58 => ?_)
                            · skip
                              refine lv_iinc (v := iI (k5 + 1)) (lv' := [(5, .int (iI (k5 + 1))), (0, .ref hm), (3, .int (iI (bv)))]) hx hb dX3_pass_305 hl (k := 2) rfl (iI_add _ _).symm (by decide) rfl (fun ls hl => ?_)
                              refine lv_goto (tgt := 276) hx hb dX3_pass_308 (by decide) ?_
                              exact ih276 (k5 + 1) ud (by omega) (by first | assumption | omega) (by first | assumption | omega) (by exact hfr5) _ _ hP hD hS ls (lv_sub hl [1, 2, 0] rfl)
                            · skip
                              refine lv_aload_n hx hb dX3_pass_294 rfl (lv_at hl 0 rfl) ?_
                              refine va_get (D := G.1) (ci := 3) (v := .ref (adm 6)) (C := RX3) (T := TX3) (N := 9) hx hb hts hinX3 hown hK hP 0 rfl rfl 6 (by decide) (hts (.fieldLink RX3 20 "MeanderFarmLaw$Sim" "lake" "[I") (List.mem_of_getElem? (i := 8) rfl)) (fun _ h9 => h9) rfl dX3_pass_295 ?_
                              refine lv_iload hx hb dX3_pass_298 (lv_at hl 2 rfl) ?_
                              refine lv_dup2_11 hx hb dX3_pass_300 rfl rfl ?_
                              refine mf_iald (n := 384) (f := ud 6) hx hb hK hP 5 0 rfl rfl (z := k5) (by omega) (by omega) (by first | decide | omega) dX3_pass_301 ?_
                              have b59 : (0 : Int) ≤ ud 6 k5 ∧ ud 6 k5 ≤ 10 := okd 6 (k5)
                              refine mf_iconst hx hb dX3_pass_302 ?_
                              refine mf_isub hx hb dX3_pass_303 ?_
                              refine mf_iast (n := 384) (f := ud 6) hx hb hK hP hD hS 5 0 rfl rfl (z := k5) (x := (ud 6 k5) - 1) (by omega) (by omega) (by first | decide | omega) dX3_pass_304 (fun H locs hP hD hS => ?_)
                              obtain ⟨ud60, eud60⟩ : ∃ z9 : mf_V, z9 = mf_sF ud 6 (mf_up (ud 6) (k5) ((ud 6 k5) - 1)) := ⟨_, rfl⟩
                              have hP : va_P G.1 vwCl (SW G hm adm cac nc ud60 ++ AW G na3 nv5 va) H := by rw [eud60]; exact hP
                              have hD : va_D A (SW G hm adm cac nc ud60 ++ AW G na3 nv5 va) := by rw [eud60]; exact hD
                              have okud60 : rOK slo shi ud60 := by rw [eud60]; exact rOK_up okd 6 _ _ (show (0 : Int) ≤ (ud 6 k5) - 1 by omega) (show (ud 6 k5) - 1 ≤ (10 : Int) by omega)
                              have f1_ud60 : ud60 6 (k5) = (ud 6 k5) - 1 := by rw [eud60, mf_sF_s, mf_up_s]
                              have f2_ud60 : ∀ y, y ≠ (k5) → ud60 6 y = ud 6 y := fun y hy => by rw [eud60, mf_sF_s, mf_up_n hy]
                              have f3_ud60 : ∀ q, q ≠ 6 → ud60 q = ud q := fun q hq => by rw [eud60, mf_sF_n hq]
                              refine lv_iinc (v := iI (k5 + 1)) (lv' := [(5, .int (iI (k5 + 1))), (0, .ref hm), (3, .int (iI (bv)))]) hx hb dX3_pass_305 hl (k := 2) rfl (iI_add _ _).symm (by decide) rfl (fun ls hl => ?_)
                              refine lv_goto (tgt := 276) hx hb dX3_pass_308 (by decide) ?_
                              exact ih276 (k5 + 1) ud60 (by omega) (by first | assumption | omega) (by first | assumption | omega) (by intro k hk; rw [f3_ud60 k hk]; exact hfr5 k hk) _ _ hP hD hS ls (lv_sub hl [1, 2, 0] rfl)
                      exact lp276 (_ + 1) 0 uc (Nat.lt_succ_self _) (by first | assumption | omega) (by first | assumption | omega) (by intro k _; rfl) _ _ hP hD hS ls (lv_sub hl [1, 2, 0] rfl)
                    exact lp273 ub49 cx50 nx51 (by first | assumption | omega) (by exact w52.2) _ _ hP hD hS ls (lv_sub hl [0, 2] rfl)
                exact lp263 ua34 cx35 nx36 (by first | assumption | omega) (by exact w37.2.2 r2 hI2 hz.2.1) (by rw [hz.2.1.2.2.2.2.2.2.2, h1f 9 (by decide)]) _ _ hP hD hS ls (lv_sub hl [0, 1, 3] rfl)
            · skip
              refine lv_aload_n hx hb dX3_pass_124 rfl (lv_at hl 2 rfl) ?_
              refine lv_iload hx hb dX3_pass_125 (lv_at hl 5 rfl) ?_
              refine mf_iald (n := nv5) (f := va 0) hx hb hK hP 8 0 rfl rfl (z := k2) (by omega) (by omega) (by first | decide | omega) dX3_pass_127 ?_
              refine mf_top (va 0 k2) (rk 12 k2) (by exact hvs2 k2 (by omega) (by omega)) ?_
              have b12 : (-1 : Int) ≤ rk 12 k2 ∧ rk 12 k2 ≤ 3 := okk 12 k2
              skip
              refine mf_if_ge (tgt := 135) hx hb dX3_pass_128 (by decide) (i32_mk (by omega) (by omega)) (fun c61 => ?_) (fun c61 => ?_)
              · skip
                refine lv_aload_n hx hb dX3_pass_135 rfl (lv_at hl 0 rfl) ?_
                refine va_get (D := G.1) (ci := 3) (v := .ref ca) (C := RX3) (T := TX3) (N := 9) hx hb hts hinX3 hown hK hP 0 rfl rfl 2 (by decide) (hts (.fieldLink RX3 29 "MeanderFarmLaw$Sim" "course" "[I") (List.mem_of_getElem? (i := 3) rfl)) (fun _ h9 => h9) rfl dX3_pass_136 ?_
                refine lv_iload hx hb dX3_pass_139 (lv_at hl 5 rfl) ?_
                refine mf_iald (n := nn) (f := ua 2) hx hb hK hP 1 0 rfl rfl (z := k2) (by omega) (by omega) (by first | decide | omega) dX3_pass_141 ?_
                refine mf_top (ua 2 k2) (rk 6 k2) (by rw [(rel2 hrelk (z := k2) (by omega) (by omega))]) ?_
                have b62 : (0 : Int) ≤ rk 6 k2 ∧ rk 6 k2 ≤ 383 := okk 6 (k2)
                refine lv_aload_n hx hb dX3_pass_142 rfl (lv_at hl 2 rfl) ?_
                refine lv_iload hx hb dX3_pass_143 (lv_at hl 5 rfl) ?_
                refine mf_iald (n := nv5) (f := va 0) hx hb hK hP 8 0 rfl rfl (z := k2) (by omega) (by omega) (by first | decide | omega) dX3_pass_145 ?_
                refine mf_top (va 0 k2) (rk 12 k2) (by exact hvs2 k2 (by omega) (by omega)) ?_
                have b12 : (-1 : Int) ≤ rk 12 k2 ∧ rk 12 k2 ≤ 3 := okk 12 k2
                skip
                refine vp_callSi (va_Run.run (va_runS (As := [.int (iI (rk 6 k2)), .int (iI (rk 12 k2))]) (rest := []) ⟨hx, hb, hml, hown, hts⟩ (c_X3_to l (rk 6 k2) (rk 12 k2) (i32_mk (by omega) (by omega)) (i32_mk (by omega) (by omega)) (by first | assumption | omega) (by first | assumption | omega)) (va_cwS 2 hts gX3_pass_X3_to rfl rfl rfl (by decide +kernel) ⟨Nat.le_of_ble_eq_true rfl, Nat.le_of_ble_eq_true rfl⟩) pureS rfl rfl hl.1 rfl (lv_room (Nat.le_of_ble_eq_true rfl)) dX3_pass_146 ⟨(Nat.le_of_ble_eq_true rfl), (Nat.le_of_ble_eq_true rfl)⟩)) (fun q63 hq63 => ?_)
                subst hq63
                refine mf_nm (fun y64 ey64 => ?_)
                have b65 : -1 ≤ y64 ∧ y64 ≤ 383 := by rw [ey64]; exact nbr_b (rk 6 k2) (rk 12 k2)
                refine mf_top (y64) (rk 13 k2) (by rw [(hIk.2.2.2 k2 (by omega) (by omega)).2]; exact ey64) ?_
                have b13 : (-1 : Int) ≤ rk 13 k2 ∧ rk 13 k2 ≤ 383 := okk 13 k2
                skip
                refine lv_istore (lv' := [(6, .int (iI (rk 13 k2))), (0, .ref hm), (1, .int (iI (r 5 (r 8 0 % 12)))), (2, .ref na3), (3, .int (iI (bv))), (4, .int (iI (mv))), (5, .int (iI (k2)))]) hx hb dX3_pass_149 hl (by decide) rfl (fun ls hl => ?_)
                refine lv_iload hx hb dX3_pass_151 (lv_at hl 0 rfl) ?_
                refine mf_if_lt (tgt := 245) hx hb dX3_pass_153 (by decide) (i32_mk (by omega) (by omega)) (fun c66 => ?_) (fun c66 => ?_)
                · skip
                  refine lv_iinc (v := iI (k2 + (-1))) (lv' := [(5, .int (iI (k2 + (-1)))), (6, .int (iI (rk 13 k2))), (0, .ref hm), (1, .int (iI (r 5 (r 8 0 % 12)))), (2, .ref na3), (3, .int (iI (bv))), (4, .int (iI (mv)))]) hx hb dX3_pass_245 hl (k := 6) rfl (iI_add _ _).symm (by decide) rfl (fun ls hl => ?_)
                  refine lv_goto (tgt := 119) hx hb dX3_pass_248 (by decide) ?_
                  exact ih119 bv mv (k2 + (-1)) (by omega) (by first | assumption | omega) (by first | assumption | omega) (by first | assumption | omega) (by rw [show k2 + (-1) + 1 = k2 by omega]; exact (ripC_dn (by omega) (by omega) hrc).1 (Or.inl (fun z => by obtain ⟨z1, z2, z3⟩ := z; have z2 : (0 : Int) ≤ rk 1 (rk 13 k2) - 10 * rk 0 (rk 13 k2) := z2; first | omega | contradiction))) _ _ hP hD hS ls (lv_sub hl [2, 3, 4, 5, 6, 0] rfl)
                · skip
                  refine lv_aload_n hx hb dX3_pass_156 rfl (lv_at hl 1 rfl) ?_
                  refine va_get (D := G.1) (ci := 3) (v := .ref (adm 5)) (C := RX3) (T := TX3) (N := 9) hx hb hts hinX3 hown hK hP 0 rfl rfl 5 (by decide) (hts (.fieldLink RX3 17 "MeanderFarmLaw$Sim" "wear" "[I") (List.mem_of_getElem? (i := 6) rfl)) (fun _ h9 => h9) rfl dX3_pass_157 ?_
                  refine lv_iload hx hb dX3_pass_160 (lv_at hl 0 rfl) ?_
                  refine mf_iald (n := 384) (f := ua 5) hx hb hK hP 4 0 rfl rfl (z := rk 13 k2) (by omega) (by omega) (by first | decide | omega) dX3_pass_162 ?_
                  refine mf_top (ua 5 (rk 13 k2)) (rk 1 (rk 13 k2)) (by rw [(rel5 hrelk (z := rk 13 k2) (by omega) (by omega))]) ?_
                  have b67 : (0 : Int) ≤ rk 1 (rk 13 k2) ∧ rk 1 (rk 13 k2) ≤ 200000000 := okk 1 (rk 13 k2)
                  refine mf_bipush hx hb dX3_pass_163 rfl ?_
                  refine lv_aload_n hx hb dX3_pass_165 rfl (lv_at hl 1 rfl) ?_
                  refine va_get (D := G.1) (ci := 3) (v := .ref (adm 3)) (C := RX3) (T := TX3) (N := 9) hx hb hts hinX3 hown hK hP 0 rfl rfl 3 (by decide) (hts (.fieldLink RX3 7 "MeanderFarmLaw$Sim" "hardness" "[I") (List.mem_of_getElem? (i := 7) rfl)) (fun _ h9 => h9) rfl dX3_pass_166 ?_
                  refine lv_iload hx hb dX3_pass_169 (lv_at hl 0 rfl) ?_
                  refine mf_iald (n := 384) (f := ua 3) hx hb hK hP 2 0 rfl rfl (z := rk 13 k2) (by omega) (by omega) (by first | decide | omega) dX3_pass_171 ?_
                  refine mf_top (ua 3 (rk 13 k2)) (rk 0 (rk 13 k2)) (by rw [(rel3 hrelk (z := rk 13 k2) (by omega) (by omega))]) ?_
                  have b68 : (0 : Int) ≤ rk 0 (rk 13 k2) ∧ rk 0 (rk 13 k2) ≤ 9 := okk 0 (rk 13 k2)
                  refine mf_imul hx hb dX3_pass_172 ?_
                  refine mf_icmp_lt (tgt := 245) hx hb dX3_pass_173 (by decide) (i32_mk (by omega) (by omega)) (i32_mk (by omega) (by omega)) (fun c69 => ?_) (fun c69 => ?_)
                  · skip
                    refine lv_iinc (v := iI (k2 + (-1))) (lv' := [(5, .int (iI (k2 + (-1)))), (6, .int (iI (rk 13 k2))), (0, .ref hm), (1, .int (iI (r 5 (r 8 0 % 12)))), (2, .ref na3), (3, .int (iI (bv))), (4, .int (iI (mv)))]) hx hb dX3_pass_245 hl (k := 6) rfl (iI_add _ _).symm (by decide) rfl (fun ls hl => ?_)
                    refine lv_goto (tgt := 119) hx hb dX3_pass_248 (by decide) ?_
                    exact ih119 bv mv (k2 + (-1)) (by omega) (by first | assumption | omega) (by first | assumption | omega) (by first | assumption | omega) (by rw [show k2 + (-1) + 1 = k2 by omega]; exact (ripC_dn (by omega) (by omega) hrc).1 (Or.inl (fun z => by obtain ⟨z1, z2, z3⟩ := z; have z2 : (0 : Int) ≤ rk 1 (rk 13 k2) - 10 * rk 0 (rk 13 k2) := z2; first | omega | contradiction))) _ _ hP hD hS ls (lv_sub hl [2, 3, 4, 5, 6, 0] rfl)
                  · skip
                    refine lv_aload_n hx hb dX3_pass_176 rfl (lv_at hl 1 rfl) ?_
                    refine lv_iload hx hb dX3_pass_177 (lv_at hl 6 rfl) ?_
                    refine lv_aload_n hx hb dX3_pass_179 rfl (lv_at hl 3 rfl) ?_
                    refine lv_iload hx hb dX3_pass_180 (lv_at hl 6 rfl) ?_
                    refine mf_iald (n := nv5) (f := va 0) hx hb hK hP 8 0 rfl rfl (z := k2) (by omega) (by omega) (by first | decide | omega) dX3_pass_182 ?_
                    refine mf_top (va 0 k2) (rk 12 k2) (by exact hvs2 k2 (by omega) (by omega)) ?_
                    have b12 : (-1 : Int) ≤ rk 12 k2 ∧ rk 12 k2 ≤ 3 := okk 12 k2
                    skip
                    refine vp_callSi (va_Run.run (va_runV (As := [.int (iI (k2)), .int (iI (rk 12 k2))]) (rest := []) ⟨hx, hb, hml, hown, hts⟩ (c_X3_can l G hm adm ca nn ua (k2) (rk 12 k2) (rk) (i32_mk (by omega) (by omega)) (i32_mk (by omega) (by omega)) (by assumption) (by exact okk) (by exact hIk) (by exact hrelk) (by first | assumption | omega) (by omega)) (cwV 2 hts gX3_pass_X3_can rfl rfl rfl (by decide +kernel) ⟨Nat.le_of_ble_eq_true rfl, Nat.le_of_ble_eq_true rfl⟩) (rdV (wc := SW G hm adm ca nn ua) hK hP hN [0, 1, 2, 3, 4, 5, 6, 7] rfl (ci := 3) rfl rfl) rfl rfl hl.1 rfl (lv_room (Nat.le_of_ble_eq_true rfl)) dX3_pass_183 ⟨(Nat.le_of_ble_eq_true rfl), (Nat.le_of_ble_eq_true rfl)⟩)) (fun q70 hq70 => ?_)
                    subst hq70
                    refine mf_bp_ne (tgt := 192) hx hb dX3_pass_186 (by decide) (fun c71 => ?_) (fun c71 => ?_)
                    · skip
                      refine lv_iload_n hx hb dX3_pass_192 rfl (lv_at hl 4 rfl) ?_
                      refine mf_if_lt (tgt := 222) hx hb dX3_pass_193 (by decide) (i32_mk (by omega) (by omega)) (fun c72 => ?_) (fun c72 => ?_)
                      · skip
                        refine lv_iload hx hb dX3_pass_222 (lv_at hl 6 rfl) ?_
                        refine lv_istore_n (lv' := [(3, .int (iI (k2))), (6, .int (iI (rk 13 k2))), (0, .ref hm), (1, .int (iI (r 5 (r 8 0 % 12)))), (2, .ref na3), (4, .int (iI (mv))), (5, .int (iI (k2)))]) hx hb dX3_pass_224 rfl hl (by decide) rfl (fun ls hl => ?_)
                        refine lv_aload_n hx hb dX3_pass_225 rfl (lv_at hl 2 rfl) ?_
                        refine va_get (D := G.1) (ci := 3) (v := .ref (adm 5)) (C := RX3) (T := TX3) (N := 9) hx hb hts hinX3 hown hK hP 0 rfl rfl 5 (by decide) (hts (.fieldLink RX3 17 "MeanderFarmLaw$Sim" "wear" "[I") (List.mem_of_getElem? (i := 6) rfl)) (fun _ h9 => h9) rfl dX3_pass_226 ?_
                        refine lv_iload hx hb dX3_pass_229 (lv_at hl 1 rfl) ?_
                        refine mf_iald (n := 384) (f := ua 5) hx hb hK hP 4 0 rfl rfl (z := rk 13 k2) (by omega) (by omega) (by first | decide | omega) dX3_pass_231 ?_
                        refine mf_top (ua 5 (rk 13 k2)) (rk 1 (rk 13 k2)) (by rw [(rel5 hrelk (z := rk 13 k2) (by omega) (by omega))]) ?_
                        have b73 : (0 : Int) ≤ rk 1 (rk 13 k2) ∧ rk 1 (rk 13 k2) ≤ 200000000 := okk 1 (rk 13 k2)
                        refine mf_bipush hx hb dX3_pass_232 rfl ?_
                        refine lv_aload_n hx hb dX3_pass_234 rfl (lv_at hl 2 rfl) ?_
                        refine va_get (D := G.1) (ci := 3) (v := .ref (adm 3)) (C := RX3) (T := TX3) (N := 9) hx hb hts hinX3 hown hK hP 0 rfl rfl 3 (by decide) (hts (.fieldLink RX3 7 "MeanderFarmLaw$Sim" "hardness" "[I") (List.mem_of_getElem? (i := 7) rfl)) (fun _ h9 => h9) rfl dX3_pass_235 ?_
                        refine lv_iload hx hb dX3_pass_238 (lv_at hl 1 rfl) ?_
                        refine mf_iald (n := 384) (f := ua 3) hx hb hK hP 2 0 rfl rfl (z := rk 13 k2) (by omega) (by omega) (by first | decide | omega) dX3_pass_240 ?_
                        refine mf_top (ua 3 (rk 13 k2)) (rk 0 (rk 13 k2)) (by rw [(rel3 hrelk (z := rk 13 k2) (by omega) (by omega))]) ?_
                        have b74 : (0 : Int) ≤ rk 0 (rk 13 k2) ∧ rk 0 (rk 13 k2) ≤ 9 := okk 0 (rk 13 k2)
                        refine mf_imul hx hb dX3_pass_241 ?_
                        refine mf_isub hx hb dX3_pass_242 ?_
                        refine lv_istore (lv' := [(4, .int (iI ((rk 1 (rk 13 k2)) - (10 * (rk 0 (rk 13 k2)))))), (3, .int (iI (k2))), (6, .int (iI (rk 13 k2))), (0, .ref hm), (1, .int (iI (r 5 (r 8 0 % 12)))), (2, .ref na3), (5, .int (iI (k2)))]) hx hb dX3_pass_243 hl (by decide) rfl (fun ls hl => ?_)
                        refine lv_iinc (v := iI (k2 + (-1))) (lv' := [(5, .int (iI (k2 + (-1)))), (4, .int (iI ((rk 1 (rk 13 k2)) - (10 * (rk 0 (rk 13 k2)))))), (3, .int (iI (k2))), (6, .int (iI (rk 13 k2))), (0, .ref hm), (1, .int (iI (r 5 (r 8 0 % 12)))), (2, .ref na3)]) hx hb dX3_pass_245 hl (k := 6) rfl (iI_add _ _).symm (by decide) rfl (fun ls hl => ?_)
                        refine lv_goto (tgt := 119) hx hb dX3_pass_248 (by decide) ?_
                        exact ih119 k2 ((rk 1 (rk 13 k2)) - (10 * (rk 0 (rk 13 k2)))) (k2 + (-1)) (by omega) (by first | assumption | omega) (by first | assumption | omega) (by first | assumption | omega) (by rw [show k2 + (-1) + 1 = k2 by omega]; exact (ripC_dn (by omega) (by omega) hrc).2 ⟨⟨by omega, by omega⟩, (show (0 : Int) ≤ rk 1 (rk 13 k2) - 10 * rk 0 (rk 13 k2) by omega), by assumption⟩ (show bv < 0 ∨ mv ≤ rk 1 (rk 13 k2) - 10 * rk 0 (rk 13 k2) by omega)) _ _ hP hD hS ls (lv_sub hl [4, 5, 6, 2, 1, 0] rfl)
                      · skip
                        refine lv_aload_n hx hb dX3_pass_196 rfl (lv_at hl 1 rfl) ?_
                        refine va_get (D := G.1) (ci := 3) (v := .ref (adm 5)) (C := RX3) (T := TX3) (N := 9) hx hb hts hinX3 hown hK hP 0 rfl rfl 5 (by decide) (hts (.fieldLink RX3 17 "MeanderFarmLaw$Sim" "wear" "[I") (List.mem_of_getElem? (i := 6) rfl)) (fun _ h9 => h9) rfl dX3_pass_197 ?_
                        refine lv_iload hx hb dX3_pass_200 (lv_at hl 0 rfl) ?_
                        refine mf_iald (n := 384) (f := ua 5) hx hb hK hP 4 0 rfl rfl (z := rk 13 k2) (by omega) (by omega) (by first | decide | omega) dX3_pass_202 ?_
                        refine mf_top (ua 5 (rk 13 k2)) (rk 1 (rk 13 k2)) (by rw [(rel5 hrelk (z := rk 13 k2) (by omega) (by omega))]) ?_
                        have b75 : (0 : Int) ≤ rk 1 (rk 13 k2) ∧ rk 1 (rk 13 k2) ≤ 200000000 := okk 1 (rk 13 k2)
                        refine mf_bipush hx hb dX3_pass_203 rfl ?_
                        refine lv_aload_n hx hb dX3_pass_205 rfl (lv_at hl 1 rfl) ?_
                        refine va_get (D := G.1) (ci := 3) (v := .ref (adm 3)) (C := RX3) (T := TX3) (N := 9) hx hb hts hinX3 hown hK hP 0 rfl rfl 3 (by decide) (hts (.fieldLink RX3 7 "MeanderFarmLaw$Sim" "hardness" "[I") (List.mem_of_getElem? (i := 7) rfl)) (fun _ h9 => h9) rfl dX3_pass_206 ?_
                        refine lv_iload hx hb dX3_pass_209 (lv_at hl 0 rfl) ?_
                        refine mf_iald (n := 384) (f := ua 3) hx hb hK hP 2 0 rfl rfl (z := rk 13 k2) (by omega) (by omega) (by first | decide | omega) dX3_pass_211 ?_
                        refine mf_top (ua 3 (rk 13 k2)) (rk 0 (rk 13 k2)) (by rw [(rel3 hrelk (z := rk 13 k2) (by omega) (by omega))]) ?_
                        have b76 : (0 : Int) ≤ rk 0 (rk 13 k2) ∧ rk 0 (rk 13 k2) ≤ 9 := okk 0 (rk 13 k2)
                        refine mf_imul hx hb dX3_pass_212 ?_
                        refine mf_isub hx hb dX3_pass_213 ?_
                        refine lv_iload hx hb dX3_pass_214 (lv_at hl 5 rfl) ?_
                        refine mf_icmp_ge (tgt := 222) hx hb dX3_pass_216 (by decide) (i32_mk (by omega) (by omega)) (i32_mk (by omega) (by omega)) (fun c77 => ?_) (fun c77 => ?_)
                        · skip
                          refine lv_iload hx hb dX3_pass_222 (lv_at hl 6 rfl) ?_
                          refine lv_istore_n (lv' := [(3, .int (iI (k2))), (6, .int (iI (rk 13 k2))), (0, .ref hm), (1, .int (iI (r 5 (r 8 0 % 12)))), (2, .ref na3), (4, .int (iI (mv))), (5, .int (iI (k2)))]) hx hb dX3_pass_224 rfl hl (by decide) rfl (fun ls hl => ?_)
                          refine lv_aload_n hx hb dX3_pass_225 rfl (lv_at hl 2 rfl) ?_
                          refine va_get (D := G.1) (ci := 3) (v := .ref (adm 5)) (C := RX3) (T := TX3) (N := 9) hx hb hts hinX3 hown hK hP 0 rfl rfl 5 (by decide) (hts (.fieldLink RX3 17 "MeanderFarmLaw$Sim" "wear" "[I") (List.mem_of_getElem? (i := 6) rfl)) (fun _ h9 => h9) rfl dX3_pass_226 ?_
                          refine lv_iload hx hb dX3_pass_229 (lv_at hl 1 rfl) ?_
                          refine mf_iald (n := 384) (f := ua 5) hx hb hK hP 4 0 rfl rfl (z := rk 13 k2) (by omega) (by omega) (by first | decide | omega) dX3_pass_231 ?_
                          refine mf_top (ua 5 (rk 13 k2)) (rk 1 (rk 13 k2)) (by rw [(rel5 hrelk (z := rk 13 k2) (by omega) (by omega))]) ?_
                          have b78 : (0 : Int) ≤ rk 1 (rk 13 k2) ∧ rk 1 (rk 13 k2) ≤ 200000000 := okk 1 (rk 13 k2)
                          refine mf_bipush hx hb dX3_pass_232 rfl ?_
                          refine lv_aload_n hx hb dX3_pass_234 rfl (lv_at hl 2 rfl) ?_
                          refine va_get (D := G.1) (ci := 3) (v := .ref (adm 3)) (C := RX3) (T := TX3) (N := 9) hx hb hts hinX3 hown hK hP 0 rfl rfl 3 (by decide) (hts (.fieldLink RX3 7 "MeanderFarmLaw$Sim" "hardness" "[I") (List.mem_of_getElem? (i := 7) rfl)) (fun _ h9 => h9) rfl dX3_pass_235 ?_
                          refine lv_iload hx hb dX3_pass_238 (lv_at hl 1 rfl) ?_
                          refine mf_iald (n := 384) (f := ua 3) hx hb hK hP 2 0 rfl rfl (z := rk 13 k2) (by omega) (by omega) (by first | decide | omega) dX3_pass_240 ?_
                          refine mf_top (ua 3 (rk 13 k2)) (rk 0 (rk 13 k2)) (by rw [(rel3 hrelk (z := rk 13 k2) (by omega) (by omega))]) ?_
                          have b79 : (0 : Int) ≤ rk 0 (rk 13 k2) ∧ rk 0 (rk 13 k2) ≤ 9 := okk 0 (rk 13 k2)
                          refine mf_imul hx hb dX3_pass_241 ?_
                          refine mf_isub hx hb dX3_pass_242 ?_
                          refine lv_istore (lv' := [(4, .int (iI ((rk 1 (rk 13 k2)) - (10 * (rk 0 (rk 13 k2)))))), (3, .int (iI (k2))), (6, .int (iI (rk 13 k2))), (0, .ref hm), (1, .int (iI (r 5 (r 8 0 % 12)))), (2, .ref na3), (5, .int (iI (k2)))]) hx hb dX3_pass_243 hl (by decide) rfl (fun ls hl => ?_)
                          refine lv_iinc (v := iI (k2 + (-1))) (lv' := [(5, .int (iI (k2 + (-1)))), (4, .int (iI ((rk 1 (rk 13 k2)) - (10 * (rk 0 (rk 13 k2)))))), (3, .int (iI (k2))), (6, .int (iI (rk 13 k2))), (0, .ref hm), (1, .int (iI (r 5 (r 8 0 % 12)))), (2, .ref na3)]) hx hb dX3_pass_245 hl (k := 6) rfl (iI_add _ _).symm (by decide) rfl (fun ls hl => ?_)
                          refine lv_goto (tgt := 119) hx hb dX3_pass_248 (by decide) ?_
                          exact ih119 k2 ((rk 1 (rk 13 k2)) - (10 * (rk 0 (rk 13 k2)))) (k2 + (-1)) (by omega) (by first | assumption | omega) (by first | assumption | omega) (by first | assumption | omega) (by rw [show k2 + (-1) + 1 = k2 by omega]; exact (ripC_dn (by omega) (by omega) hrc).2 ⟨⟨by omega, by omega⟩, (show (0 : Int) ≤ rk 1 (rk 13 k2) - 10 * rk 0 (rk 13 k2) by omega), by assumption⟩ (show bv < 0 ∨ mv ≤ rk 1 (rk 13 k2) - 10 * rk 0 (rk 13 k2) by omega)) _ _ hP hD hS ls (lv_sub hl [4, 5, 6, 2, 1, 0] rfl)
                        · skip
                          refine lv_goto (tgt := 245) hx hb dX3_pass_219 (by decide) ?_
                          refine lv_iinc (v := iI (k2 + (-1))) (lv' := [(5, .int (iI (k2 + (-1)))), (6, .int (iI (rk 13 k2))), (0, .ref hm), (1, .int (iI (r 5 (r 8 0 % 12)))), (2, .ref na3), (3, .int (iI (bv))), (4, .int (iI (mv)))]) hx hb dX3_pass_245 hl (k := 6) rfl (iI_add _ _).symm (by decide) rfl (fun ls hl => ?_)
                          refine lv_goto (tgt := 119) hx hb dX3_pass_248 (by decide) ?_
                          exact ih119 bv mv (k2 + (-1)) (by omega) (by first | assumption | omega) (by first | assumption | omega) (by first | assumption | omega) (by rw [show k2 + (-1) + 1 = k2 by omega]; exact (ripC_dn (by omega) (by omega) hrc).1 (Or.inr ⟨by omega, (show rk 1 (rk 13 k2) - 10 * rk 0 (rk 13 k2) < mv by omega)⟩)) _ _ hP hD hS ls (lv_sub hl [2, 3, 4, 5, 6, 0] rfl)
                    · skip
                      refine lv_goto (tgt := 245) hx hb dX3_pass_189 (by decide) ?_
                      refine lv_iinc (v := iI (k2 + (-1))) (lv' := [(5, .int (iI (k2 + (-1)))), (6, .int (iI (rk 13 k2))), (0, .ref hm), (1, .int (iI (r 5 (r 8 0 % 12)))), (2, .ref na3), (3, .int (iI (bv))), (4, .int (iI (mv)))]) hx hb dX3_pass_245 hl (k := 6) rfl (iI_add _ _).symm (by decide) rfl (fun ls hl => ?_)
                      refine lv_goto (tgt := 119) hx hb dX3_pass_248 (by decide) ?_
                      exact ih119 bv mv (k2 + (-1)) (by omega) (by first | assumption | omega) (by first | assumption | omega) (by first | assumption | omega) (by rw [show k2 + (-1) + 1 = k2 by omega]; exact (ripC_dn (by omega) (by omega) hrc).1 (Or.inl (fun z => by obtain ⟨z1, z2, z3⟩ := z; have z2 : (0 : Int) ≤ rk 1 (rk 13 k2) - 10 * rk 0 (rk 13 k2) := z2; first | omega | contradiction))) _ _ hP hD hS ls (lv_sub hl [2, 3, 4, 5, 6, 0] rfl)
              · skip
                refine mf_iconst hx hb dX3_pass_131 ?_
                refine lv_goto (tgt := 149) hx hb dX3_pass_132 (by decide) ?_
                have g13 : rk 13 k2 = -1 := by rw [(hIk.2.2.2 k2 (by omega) (by omega)).2, show rk 12 k2 = -1 by omega]; exact nbr_dm1 _
                refine lv_istore (lv' := [(6, .int (iI ((-1)))), (0, .ref hm), (1, .int (iI (r 5 (r 8 0 % 12)))), (2, .ref na3), (3, .int (iI (bv))), (4, .int (iI (mv))), (5, .int (iI (k2)))]) hx hb dX3_pass_149 hl (by decide) rfl (fun ls hl => ?_)
                refine lv_iload hx hb dX3_pass_151 (lv_at hl 0 rfl) ?_
                refine mf_if_lt (tgt := 245) hx hb dX3_pass_153 (by decide) (i32_mk (by decide) (by decide)) (fun c80 => ?_) (fun c80 => ?_)
                · skip
                  refine lv_iinc (v := iI (k2 + (-1))) (lv' := [(5, .int (iI (k2 + (-1)))), (6, .int (iI ((-1)))), (0, .ref hm), (1, .int (iI (r 5 (r 8 0 % 12)))), (2, .ref na3), (3, .int (iI (bv))), (4, .int (iI (mv)))]) hx hb dX3_pass_245 hl (k := 6) rfl (iI_add _ _).symm (by decide) rfl (fun ls hl => ?_)
                  refine lv_goto (tgt := 119) hx hb dX3_pass_248 (by decide) ?_
                  exact ih119 bv mv (k2 + (-1)) (by omega) (by first | assumption | omega) (by first | assumption | omega) (by first | assumption | omega) (by rw [show k2 + (-1) + 1 = k2 by omega]; exact (ripC_dn (by omega) (by omega) hrc).1 (Or.inl (fun z => by obtain ⟨z1, z2, z3⟩ := z; have z2 : (0 : Int) ≤ rk 1 (rk 13 k2) - 10 * rk 0 (rk 13 k2) := z2; first | omega | contradiction))) _ _ hP hD hS ls (lv_sub hl [2, 3, 4, 5, 6, 0] rfl)
                · skip
                  exact absurd c80 (by omega)
        exact lp119 (_ + 1) (-1) 0 ((r 7 0) - 1) (Nat.lt_succ_self _) (by first | assumption | omega) (by first | assumption | omega) (by first | assumption | omega) (by exact Or.inl ⟨rfl, fun j j0 j1 => by omega⟩) _ _ hP hD hS ls (lv_sub hl [3, 4, 5, 2, 1, 0] rfl)
      · skip
        refine lv_aload_n hx hb dX3_pass_32 rfl (lv_at hl 2 rfl) ?_
        refine lv_iload_n hx hb dX3_pass_33 rfl (lv_at hl 3 rfl) ?_
        refine lv_aload_n hx hb dX3_pass_34 rfl (lv_at hl 0 rfl) ?_
        refine lv_iload_n hx hb dX3_pass_35 rfl (lv_at hl 3 rfl) ?_
        refine vp_callSi (va_Run.run (va_runV (As := [.int (iI (kv))]) (rest := [.int (iI (kv)), .ref na3]) ⟨hx, hb, hml, hown, hts⟩ (c_X3_side l G hm adm ca nn ua (kv) (rk) (i32_mk (by omega) (by omega)) (by assumption) (by exact okk) (by exact hIk) (by exact hrelk) (by first | assumption | omega)) (cwV 1 hts gX3_pass_X3_side rfl rfl rfl (by decide +kernel) ⟨Nat.le_of_ble_eq_true rfl, Nat.le_of_ble_eq_true rfl⟩) (rdV (wc := SW G hm adm ca nn ua) hK hP hN [0, 1, 2, 3, 4, 5, 6, 7] rfl (ci := 3) rfl rfl) rfl rfl hl.1 rfl (lv_room (Nat.le_of_ble_eq_true rfl)) dX3_pass_36 ⟨(Nat.le_of_ble_eq_true rfl), (Nat.le_of_ble_eq_true rfl)⟩)) (fun q81 hq81 => ?_)
        subst hq81
        have b82 : (-1 : Int) ≤ ((rk) 12 kv) ∧ ((rk) 12 kv) ≤ 3 := (show rOK rlo rhi (rk) by assumption) 12 kv
        refine mf_iast (n := nv5) (f := va 0) hx hb hK hP hD hS 8 0 rfl rfl (z := kv) (x := (rk) 12 kv) (by omega) (by omega) (by first | decide | omega) dX3_pass_39 (fun H locs hP hD hS => ?_)
        obtain ⟨va83, eva83⟩ : ∃ z9 : mf_V, z9 = mf_sF va 0 (mf_up (va 0) (kv) ((rk) 12 kv)) := ⟨_, rfl⟩
        have hP : va_P G.1 vwCl (SW G hm adm ca nn ua ++ AW G na3 nv5 va83) H := by rw [eva83]; exact hP
        have hD : va_D A (SW G hm adm ca nn ua ++ AW G na3 nv5 va83) := by rw [eva83]; exact hD
        have f1_va83 : va83 0 (kv) = (rk) 12 kv := by rw [eva83, mf_sF_s, mf_up_s]
        have f2_va83 : ∀ y, y ≠ (kv) → va83 0 y = va 0 y := fun y hy => by rw [eva83, mf_sF_s, mf_up_n hy]
        have f3_va83 : ∀ q, q ≠ 0 → va83 q = va q := fun q hq => by rw [eva83, mf_sF_n hq]
        refine lv_aload_n hx hb dX3_pass_40 rfl (lv_at hl 2 rfl) ?_
        refine lv_iload_n hx hb dX3_pass_41 rfl (lv_at hl 3 rfl) ?_
        refine mf_iald (n := nv5) (f := va83 0) hx hb hK hP 8 0 rfl rfl (z := kv) (by omega) (by omega) (by first | decide | omega) dX3_pass_42 ?_
        refine mf_top (va83 0 kv) ((rk) 12 kv) (by rw [f1_va83]) ?_
        refine mf_if_ge (tgt := 50) hx hb dX3_pass_43 (by decide) (i32_mk (by omega) (by omega)) (fun c84 => ?_) (fun c84 => ?_)
        · skip
          refine lv_aload_n hx hb dX3_pass_50 rfl (lv_at hl 0 rfl) ?_
          refine va_get (D := G.1) (ci := 3) (v := .ref ca) (C := RX3) (T := TX3) (N := 9) hx hb hts hinX3 hown hK hP 0 rfl rfl 2 (by decide) (hts (.fieldLink RX3 29 "MeanderFarmLaw$Sim" "course" "[I") (List.mem_of_getElem? (i := 3) rfl)) (fun _ h9 => h9) rfl dX3_pass_51 ?_
          refine lv_iload_n hx hb dX3_pass_54 rfl (lv_at hl 3 rfl) ?_
          refine mf_iald (n := nn) (f := ua 2) hx hb hK hP 1 0 rfl rfl (z := kv) (by omega) (by omega) (by first | decide | omega) dX3_pass_55 ?_
          refine mf_top (ua 2 kv) (rk 6 kv) (by rw [(rel2 hrelk (z := kv) (by omega) (by omega))]) ?_
          have b85 : (0 : Int) ≤ rk 6 kv ∧ rk 6 kv ≤ 383 := okk 6 (kv)
          refine lv_aload_n hx hb dX3_pass_56 rfl (lv_at hl 2 rfl) ?_
          refine lv_iload_n hx hb dX3_pass_57 rfl (lv_at hl 3 rfl) ?_
          refine mf_iald (n := nv5) (f := va83 0) hx hb hK hP 8 0 rfl rfl (z := kv) (by omega) (by omega) (by first | decide | omega) dX3_pass_58 ?_
          refine mf_top (va83 0 kv) ((rk) 12 kv) (by rw [f1_va83]) ?_
          refine vp_callSi (va_Run.run (va_runS (As := [.int (iI (rk 6 kv)), .int (iI ((rk) 12 kv))]) (rest := []) ⟨hx, hb, hml, hown, hts⟩ (c_X3_to l (rk 6 kv) ((rk) 12 kv) (i32_mk (by omega) (by omega)) (i32_mk (by omega) (by omega)) (by first | assumption | omega) (by first | assumption | omega)) (va_cwS 2 hts gX3_pass_X3_to rfl rfl rfl (by decide +kernel) ⟨Nat.le_of_ble_eq_true rfl, Nat.le_of_ble_eq_true rfl⟩) pureS rfl rfl hl.1 rfl (lv_room (Nat.le_of_ble_eq_true rfl)) dX3_pass_59 ⟨(Nat.le_of_ble_eq_true rfl), (Nat.le_of_ble_eq_true rfl)⟩)) (fun q86 hq86 => ?_)
          subst hq86
          refine mf_nm (fun y87 ey87 => ?_)
          have b88 : -1 ≤ y87 ∧ y87 ≤ 383 := by rw [ey87]; exact nbr_b (rk 6 kv) ((rk) 12 kv)
          refine mf_top (y87) (rk 13 kv) (by rw [(hIk.2.2.2 kv (by omega) (by omega)).2]; exact ey87) ?_
          have b13 : (-1 : Int) ≤ rk 13 kv ∧ rk 13 kv ≤ 383 := okk 13 kv
          skip
          refine lv_istore (lv' := [(4, .int (iI (rk 13 kv))), (0, .ref hm), (1, .int (iI (r 5 (r 8 0 % 12)))), (2, .ref na3), (3, .int (iI (kv)))]) hx hb dX3_pass_62 hl (by decide) rfl (fun ls hl => ?_)
          refine lv_iload hx hb dX3_pass_64 (lv_at hl 0 rfl) ?_
          refine mf_if_lt (tgt := 99) hx hb dX3_pass_66 (by decide) (i32_mk (by omega) (by omega)) (fun c89 => ?_) (fun c89 => ?_)
          · skip
            refine lv_iinc (v := iI (kv + 1)) (lv' := [(3, .int (iI (kv + 1))), (4, .int (iI (rk 13 kv))), (0, .ref hm), (1, .int (iI (r 5 (r 8 0 % 12)))), (2, .ref na3)]) hx hb dX3_pass_99 hl (k := 4) rfl (iI_add _ _).symm (by decide) rfl (fun ls hl => ?_)
            refine lv_goto (tgt := 23) hx hb dX3_pass_102 (by decide) ?_
            exact ih23 (kv + 1) ua va83 (rk) (by omega) (by first | assumption | omega) (by first | assumption | omega) (by exact hfr) (by exact hrk) (by rw [hrk1, wearG_f r _ hk.1 (fun z => by rw [← hrk 13 (by decide)] at z; have z2 := (openP_cg (r := r) (q := rk) (hrk 10 (by decide)) (hrk 2 (by decide))).mpr z; unfold openP at z2; omega)]) (by exact okk) (by exact hIk) (by exact hrelk) (by intro cv; have := hwk cv; omega) (by intro j j0 j1; rw [hrk 12 (by decide)] at f1_va83; rcases (show j < kv ∨ j = kv by omega) with z | z; (rw [f2_va83 j (by omega)]; exact hvs j j0 z); (rw [z]; exact f1_va83)) (by intro z; by_cases y9 : z = kv; (rw [y9, f1_va83]; omega); (rw [f2_va83 z y9]; exact hvb z)) _ _ hP hD hS ls (lv_sub hl [2, 3, 4, 0] rfl)
          · skip
            refine lv_aload_n hx hb dX3_pass_69 rfl (lv_at hl 1 rfl) ?_
            refine lv_iload hx hb dX3_pass_70 (lv_at hl 0 rfl) ?_
            refine vp_callSi (va_Run.run (va_runV (As := [.int (iI (rk 13 kv))]) (rest := []) ⟨hx, hb, hml, hown, hts⟩ (c_X3_at l G hm adm ca nn ua (rk 13 kv) (rk) (i32_mk (by omega) (by omega)) (by assumption) (by exact okk) (by exact hIk) (by exact hrelk) (by first | assumption | omega)) (cwV 1 hts gX3_pass_X3_at rfl rfl rfl (by decide +kernel) ⟨Nat.le_of_ble_eq_true rfl, Nat.le_of_ble_eq_true rfl⟩) (rdV (wc := SW G hm adm ca nn ua) hK hP hN [0, 1, 2, 3, 4, 5, 6, 7] rfl (ci := 3) rfl rfl) rfl rfl hl.1 rfl (lv_room (Nat.le_of_ble_eq_true rfl)) dX3_pass_72 ⟨(Nat.le_of_ble_eq_true rfl), (Nat.le_of_ble_eq_true rfl)⟩)) (fun q90 hq90 => ?_)
            subst hq90
            have b91 : (-1 : Int) ≤ ((rk) 10 (rk 13 kv)) ∧ ((rk) 10 (rk 13 kv)) ≤ 149 := (show rOK rlo rhi (rk) by assumption) 10 (rk 13 kv)
            refine mf_if_ge (tgt := 99) hx hb dX3_pass_75 (by decide) (i32_mk (by omega) (by omega)) (fun c92 => ?_) (fun c92 => ?_)
            · skip
              refine lv_iinc (v := iI (kv + 1)) (lv' := [(3, .int (iI (kv + 1))), (4, .int (iI (rk 13 kv))), (0, .ref hm), (1, .int (iI (r 5 (r 8 0 % 12)))), (2, .ref na3)]) hx hb dX3_pass_99 hl (k := 4) rfl (iI_add _ _).symm (by decide) rfl (fun ls hl => ?_)
              refine lv_goto (tgt := 23) hx hb dX3_pass_102 (by decide) ?_
              exact ih23 (kv + 1) ua va83 (rk) (by omega) (by first | assumption | omega) (by first | assumption | omega) (by exact hfr) (by exact hrk) (by rw [hrk1, wearG_f r _ hk.1 (fun z => by rw [← hrk 13 (by decide)] at z; have z2 := (openP_cg (r := r) (q := rk) (hrk 10 (by decide)) (hrk 2 (by decide))).mpr z; unfold openP at z2; omega)]) (by exact okk) (by exact hIk) (by exact hrelk) (by intro cv; have := hwk cv; omega) (by intro j j0 j1; rw [hrk 12 (by decide)] at f1_va83; rcases (show j < kv ∨ j = kv by omega) with z | z; (rw [f2_va83 j (by omega)]; exact hvs j j0 z); (rw [z]; exact f1_va83)) (by intro z; by_cases y9 : z = kv; (rw [y9, f1_va83]; omega); (rw [f2_va83 z y9]; exact hvb z)) _ _ hP hD hS ls (lv_sub hl [2, 3, 4, 0] rfl)
            · skip
              refine lv_aload_n hx hb dX3_pass_78 rfl (lv_at hl 1 rfl) ?_
              refine va_get (D := G.1) (ci := 3) (v := .ref (adm 4)) (C := RX3) (T := TX3) (N := 9) hx hb hts hinX3 hown hK hP 0 rfl rfl 4 (by decide) (hts (.fieldLink RX3 13 "MeanderFarmLaw$Sim" "stones" "[Z") (List.mem_of_getElem? (i := 5) rfl)) (fun _ h9 => h9) rfl dX3_pass_79 ?_
              refine lv_iload hx hb dX3_pass_82 (lv_at hl 0 rfl) ?_
              refine mf_zald (n := 384) (f := ua 4) hx hb hK hP 3 1 rfl rfl (z := rk 13 kv) (by omega) (by omega) (by first | decide | omega) dX3_pass_84 ?_
              refine mf_top (ua 4 (rk 13 kv)) (rk 2 (rk 13 kv)) (by rw [(rel4 hrelk (z := rk 13 kv) (by omega) (by omega))]) ?_
              have b93 : (0 : Int) ≤ rk 2 (rk 13 kv) ∧ rk 2 (rk 13 kv) ≤ 1 := okk 2 (rk 13 kv)
              refine mf_if_ne (tgt := 99) hx hb dX3_pass_85 (by decide) (i32_mk (by omega) (by omega)) (fun c94 => ?_) (fun c94 => ?_)
              · skip
                refine lv_iinc (v := iI (kv + 1)) (lv' := [(3, .int (iI (kv + 1))), (4, .int (iI (rk 13 kv))), (0, .ref hm), (1, .int (iI (r 5 (r 8 0 % 12)))), (2, .ref na3)]) hx hb dX3_pass_99 hl (k := 4) rfl (iI_add _ _).symm (by decide) rfl (fun ls hl => ?_)
                refine lv_goto (tgt := 23) hx hb dX3_pass_102 (by decide) ?_
                exact ih23 (kv + 1) ua va83 (rk) (by omega) (by first | assumption | omega) (by first | assumption | omega) (by exact hfr) (by exact hrk) (by rw [hrk1, wearG_f r _ hk.1 (fun z => by rw [← hrk 13 (by decide)] at z; have z2 := (openP_cg (r := r) (q := rk) (hrk 10 (by decide)) (hrk 2 (by decide))).mpr z; unfold openP at z2; omega)]) (by exact okk) (by exact hIk) (by exact hrelk) (by intro cv; have := hwk cv; omega) (by intro j j0 j1; rw [hrk 12 (by decide)] at f1_va83; rcases (show j < kv ∨ j = kv by omega) with z | z; (rw [f2_va83 j (by omega)]; exact hvs j j0 z); (rw [z]; exact f1_va83)) (by intro z; by_cases y9 : z = kv; (rw [y9, f1_va83]; omega); (rw [f2_va83 z y9]; exact hvb z)) _ _ hP hD hS ls (lv_sub hl [2, 3, 4, 0] rfl)
              · skip
                refine lv_aload_n hx hb dX3_pass_88 rfl (lv_at hl 1 rfl) ?_
                refine va_get (D := G.1) (ci := 3) (v := .ref (adm 5)) (C := RX3) (T := TX3) (N := 9) hx hb hts hinX3 hown hK hP 0 rfl rfl 5 (by decide) (hts (.fieldLink RX3 17 "MeanderFarmLaw$Sim" "wear" "[I") (List.mem_of_getElem? (i := 6) rfl)) (fun _ h9 => h9) rfl dX3_pass_89 ?_
                refine lv_iload hx hb dX3_pass_92 (lv_at hl 0 rfl) ?_
                refine lv_dup2_11 hx hb dX3_pass_94 rfl rfl ?_
                refine mf_iald (n := 384) (f := ua 5) hx hb hK hP 4 0 rfl rfl (z := rk 13 kv) (by omega) (by omega) (by first | decide | omega) dX3_pass_95 ?_
                refine mf_top (ua 5 (rk 13 kv)) (rk 1 (rk 13 kv)) (by rw [(rel5 hrelk (z := rk 13 kv) (by omega) (by omega))]) ?_
                have b95 : (0 : Int) ≤ rk 1 (rk 13 kv) ∧ rk 1 (rk 13 kv) ≤ 200000000 := okk 1 (rk 13 kv)
                refine lv_iload_n hx hb dX3_pass_96 rfl (lv_at hl 2 rfl) ?_
                refine mf_iadd hx hb dX3_pass_97 ?_
                have b8 := hwk (rk 13 kv)
                have b9 := hwb (rk 13 kv)
                refine mf_iast (n := 384) (f := ua 5) hx hb hK hP hD hS 4 0 rfl rfl (z := rk 13 kv) (x := (rk 1 (rk 13 kv)) + (r 5 (r 8 0 % 12))) (by omega) (by omega) (by first | decide | omega) dX3_pass_98 (fun H locs hP hD hS => ?_)
                obtain ⟨ua96, eua96⟩ : ∃ z9 : mf_V, z9 = mf_sF ua 5 (mf_up (ua 5) (rk 13 kv) ((rk 1 (rk 13 kv)) + (r 5 (r 8 0 % 12)))) := ⟨_, rfl⟩
                have hP : va_P G.1 vwCl (SW G hm adm ca nn ua96 ++ AW G na3 nv5 va83) H := by rw [eua96]; exact hP
                have hD : va_D A (SW G hm adm ca nn ua96 ++ AW G na3 nv5 va83) := by rw [eua96]; exact hD
                have okua96 : rOK slo shi ua96 := by rw [eua96]; exact rOK_up oka 5 _ _ (show (0 : Int) ≤ (rk 1 (rk 13 kv)) + (r 5 (r 8 0 % 12)) by omega) (show (rk 1 (rk 13 kv)) + (r 5 (r 8 0 % 12)) ≤ (200000000 : Int) by omega)
                have f1_ua96 : ua96 5 (rk 13 kv) = (rk 1 (rk 13 kv)) + (r 5 (r 8 0 % 12)) := by rw [eua96, mf_sF_s, mf_up_s]
                have f2_ua96 : ∀ y, y ≠ (rk 13 kv) → ua96 5 y = ua 5 y := fun y hy => by rw [eua96, mf_sF_s, mf_up_n hy]
                have f3_ua96 : ∀ q, q ≠ 5 → ua96 q = ua q := fun q hq => by rw [eua96, mf_sF_n hq]
                refine lv_iinc (v := iI (kv + 1)) (lv' := [(3, .int (iI (kv + 1))), (4, .int (iI (rk 13 kv))), (0, .ref hm), (1, .int (iI (r 5 (r 8 0 % 12)))), (2, .ref na3)]) hx hb dX3_pass_99 hl (k := 4) rfl (iI_add _ _).symm (by decide) rfl (fun ls hl => ?_)
                refine lv_goto (tgt := 23) hx hb dX3_pass_102 (by decide) ?_
                exact ih23 (kv + 1) ua96 va83 ((mf_sF rk 1 (mf_up (rk 1) (rk 13 kv) (rk 1 (rk 13 kv) + r 5 (r 8 0 % 12))))) (by omega) (by first | assumption | omega) (by first | assumption | omega) (by intro k hk; rw [f3_ua96 k hk]; exact hfr k hk) (by intro k hk; rw [mf_sF_n hk]; exact hrk k hk) (by rw [mf_sF_s, hrk1, wearG_t r _ hk.1 (by rw [← hrk 13 (by decide)]; exact (openP_cg (r := r) (q := rk) (hrk 10 (by decide)) (hrk 2 (by decide))).mp ⟨by omega, by omega, by omega, by omega⟩), hrk 13 (by decide)]) (by have b8 := hwk (rk 13 kv); have b9 := hwb (rk 13 kv); exact rOK_up okk 1 _ _ (show (0 : Int) ≤ _ by omega) (show _ ≤ (200000000 : Int) by omega)) (by exact RInv_cg (mf_sF_n (by decide)) (mf_sF_n (by decide)) (mf_sF_n (by decide)) (mf_sF_n (by decide)) (mf_sF_n (by decide)) (mf_sF_n (by decide)) hIk) (by exact wearRelS hrelk f1_ua96 f2_ua96 f3_ua96) (by intro cv; rw [mf_sF_s]; by_cases z : cv = rk 13 kv; (rw [z, mf_up_s]; have := hwk (rk 13 kv); omega); (rw [mf_up_n z]; have := hwk cv; omega)) (by intro j j0 j1; rw [hrk 12 (by decide)] at f1_va83; rcases (show j < kv ∨ j = kv by omega) with z | z; (rw [f2_va83 j (by omega)]; exact hvs j j0 z); (rw [z]; exact f1_va83)) (by intro z; by_cases y9 : z = kv; (rw [y9, f1_va83]; omega); (rw [f2_va83 z y9]; exact hvb z)) _ _ hP hD hS ls (lv_sub hl [2, 3, 4, 0] rfl)
        · skip
          refine mf_iconst hx hb dX3_pass_46 ?_
          refine lv_goto (tgt := 62) hx hb dX3_pass_47 (by decide) ?_
          have g13 : rk 13 kv = -1 := by rw [(hIk.2.2.2 kv (by omega) (by omega)).2, show rk 12 kv = -1 by omega]; exact nbr_dm1 _
          refine lv_istore (lv' := [(4, .int (iI ((-1)))), (0, .ref hm), (1, .int (iI (r 5 (r 8 0 % 12)))), (2, .ref na3), (3, .int (iI (kv)))]) hx hb dX3_pass_62 hl (by decide) rfl (fun ls hl => ?_)
          refine lv_iload hx hb dX3_pass_64 (lv_at hl 0 rfl) ?_
          refine mf_if_lt (tgt := 99) hx hb dX3_pass_66 (by decide) (i32_mk (by decide) (by decide)) (fun c97 => ?_) (fun c97 => ?_)
          · skip
            refine lv_iinc (v := iI (kv + 1)) (lv' := [(3, .int (iI (kv + 1))), (4, .int (iI ((-1)))), (0, .ref hm), (1, .int (iI (r 5 (r 8 0 % 12)))), (2, .ref na3)]) hx hb dX3_pass_99 hl (k := 4) rfl (iI_add _ _).symm (by decide) rfl (fun ls hl => ?_)
            refine lv_goto (tgt := 23) hx hb dX3_pass_102 (by decide) ?_
            exact ih23 (kv + 1) ua va83 (rk) (by omega) (by first | assumption | omega) (by first | assumption | omega) (by exact hfr) (by exact hrk) (by rw [hrk1, wearG_f r _ hk.1 (fun z => by rw [← hrk 13 (by decide)] at z; have z2 := (openP_cg (r := r) (q := rk) (hrk 10 (by decide)) (hrk 2 (by decide))).mpr z; unfold openP at z2; omega)]) (by exact okk) (by exact hIk) (by exact hrelk) (by intro cv; have := hwk cv; omega) (by intro j j0 j1; rw [hrk 12 (by decide)] at f1_va83; rcases (show j < kv ∨ j = kv by omega) with z | z; (rw [f2_va83 j (by omega)]; exact hvs j j0 z); (rw [z]; exact f1_va83)) (by intro z; by_cases y9 : z = kv; (rw [y9, f1_va83]; omega); (rw [f2_va83 z y9]; exact hvb z)) _ _ hP hD hS ls (lv_sub hl [2, 3, 4, 0] rfl)
          · skip
            exact absurd c97 (by omega)
  exact lp23 (_ + 1) 0 u av4 (r) (Nat.lt_succ_self _) (by first | assumption | omega) (by exact oku) (by intro k _; rfl) (by intro k _; rfl) (by rfl) (by exact ok) (by exact hI) (by exact hrel) (by intro c; omega) (by intro j j0 j1; omega) (by intro z; rw [eav4]; exact ⟨(by decide : (-1 : Int) ≤ 0), (by decide : (0 : Int) ≤ 3)⟩) _ _ hP hD hS ls (lv_sub hl [3, 2, 1, 0] rfl)
