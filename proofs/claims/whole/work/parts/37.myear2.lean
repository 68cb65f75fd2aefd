/-! 37.myear2: a year of the reference, walked -/
set_option maxHeartbeats 4000000 in
set_option maxRecDepth 100000 in
theorem c_X3_yearOn (l : Launch) (G : mf_G) (hm : Nat) (adm : Nat → Nat) (u : mf_V)  (r : mf_V) (q : mf_V) (b : Int) (oku : rOK ulo uhi u) (ok : rOK rlo rhi r) (hI : RInv r) (hrel : relU r u) (hY : YearR r q b) (hwb : ∀ c, r 1 c + 1350 ≤ 200000000) (hbk : r 9 0 + 150 ≤ 100000000) (sz : Nat) : Met l yX3_yearOn wsX3_yearOn ({ frames := 6, cells := 0, slots := 0, locals := 133 }) (va_Pc [.ref hm] (WrP G (MW G hm adm u) sz)) (va_Qi (fun q9 (u' : mf_V) => ∃ z : Int, q9 = iI z ∧ rOK ulo uhi u' ∧ relU q u' ∧ frU u u' ∧ z = b) (fun (u' : mf_V) t => WrQ G (va_A (MW G hm adm u) sz) (MW G hm adm u') t) (va_A (MW G hm adm u) sz)) 0 0 (va_A (MW G hm adm u) sz) := by
  refine Met.ofW (cc := cX3_yearOn) (maxL := 6) (ret := (some .boolean)) (by decide) rfl ?_
  intro p e s m args below meth c s₁ B hml hv
  obtain ⟨rfl, hsz, hP, hK, hD0, hN⟩ := hv
  have hx := B.exec
  have hb := B.bytes
  have hr := B.returns
  have hts := atoms_spec (ws := wsX3_yearOn) B.pre
  have hown : s.vm.findClass RX3 = some m.cls := findClass_of_methodNamed B.named
  have hlocks := B.notSynchronized
  have hinX3 : ∀ w ∈ u_ws RX3 TX3 11, w ∈ wsX3_yearOn := fun w h => List.mem_cons_of_mem _ (List.mem_append_right _ h)
  subst hsz
  have hD := hD0.self (sz := s.heap.size)
  generalize hAe : va_A (MW G hm adm u) s.heap.size = A at hD ⊢
  have hA : ∀ q : Nat, s.heap.size ≤ q → A q := fun q h => by rw [← hAe]; exact Or.inr h
  have hS : va_S A s.heap s.heap [] := va_S.rf
  have hl := lv_entry ([.ref hm]) (n := 6) (Nat.le_of_ble_eq_true rfl)
  rw [lg_entry_eq]
  generalize (lg_sl ([.ref hm]) ++ List.replicate (6 - (lg_sl ([.ref hm])).length) Slot.unset).toArray = ls at hl ⊢
  have hl : lv_has ls 6 [(0, .ref hm)] := hl
  have okLr : (0 : Int) ≤ r 7 0 ∧ r 7 0 ≤ 150 := ok 7 0
  obtain ⟨r1, r2, r3, h1f, h1w, ok1, hI1, hrip, ok2, hI2, hfl, ok3, hI3, hqf, hq8⟩ := hY
  have h28 : r2 8 = r 8 := by rcases hrip with ⟨-, z, -⟩ | ⟨-, z, -⟩; (rw [z, h1f 8 (by decide)]); (rw [z.2.2.2.2.2.2.1, h1f 8 (by decide)])
  have h38 : r3 8 0 = r 8 0 := by rcases hfl with ⟨-, n, z⟩ | ⟨-, z⟩; (rw [(FloodN_fr6 n z).2.2.2.2.2, h28]); (rw [z, h28])
  refine lv_aload_n hx hb dX3_yearOn_0 rfl (lv_at hl 0 rfl) ?_
  refine va_get (D := G.1) (ci := 3) (v := .ref (adm 3)) (C := RX3) (T := TX3) (N := 11) hx hb hts hinX3 hown hK hP 0 rfl rfl 3 (by decide) (hts (.fieldLink RX3 17 "MeanderFarmModel" "flow" "[I") (List.mem_of_getElem? (i := 1) rfl)) (fun _ h9 => h9) rfl dX3_yearOn_1 ?_
  refine lv_aload_n hx hb dX3_yearOn_4 rfl (lv_at hl 0 rfl) ?_
  refine va_get (D := G.1) (ci := 3) (v := .ref (adm 10)) (C := RX3) (T := TX3) (N := 11) hx hb hts hinX3 hown hK hP 0 rfl rfl 10 (by decide) (hts (.fieldLink RX3 35 "MeanderFarmModel" "numbers" "[I") (List.mem_of_getElem? (i := 2) rfl)) (fun _ h9 => h9) rfl dX3_yearOn_5 ?_
  refine mf_iconst hx hb dX3_yearOn_8 ?_
  refine mf_iald (n := 3) (f := u 10) hx hb hK hP 9 0 rfl rfl (z := 0) (by omega) (by omega) (by decide) dX3_yearOn_9 ?_
  refine mf_top (u 10 0) (r 8 0) (by rw [rel10_0 hrel]) ?_
  have b1 : (0 : Int) ≤ r 8 0 ∧ r 8 0 ≤ 90000 := ok 8 0
  refine mf_bipush hx hb dX3_yearOn_10 rfl ?_
  refine mf_irem hx hb dX3_yearOn_12 (i32_mk (by omega) (by omega)) (by omega) (i32_mk (by decide) (by decide)) (by omega) ?_
  refine mf_iald (n := 12) (f := u 3) hx hb hK hP 3 0 rfl rfl (z := (r 8 0) % 12) (by omega) (by omega) (by decide) dX3_yearOn_13 ?_
  refine mf_top (u 3 ((r 8 0) % 12)) (r 5 ((r 8 0) % 12)) (by rw [(rel3 hrel (z := (r 8 0) % 12) (by omega) (by omega))]) ?_
  have b2 : (0 : Int) ≤ r 5 ((r 8 0) % 12) ∧ r 5 ((r 8 0) % 12) ≤ 9 := ok 5 ((r 8 0) % 12)
  refine lv_istore_n (lv' := [(1, .int (iI (r 5 ((r 8 0) % 12)))), (0, .ref hm)]) hx hb dX3_yearOn_14 rfl hl (by decide) rfl (fun ls hl => ?_)
  refine mf_iconst hx hb dX3_yearOn_15 ?_
  refine lv_istore_n (lv' := [(2, .int (iI (0))), (1, .int (iI (r 5 ((r 8 0) % 12)))), (0, .ref hm)]) hx hb dX3_yearOn_16 rfl hl (by decide) rfl (fun ls hl => ?_)
  have lp17 : ∀ (n : Nat) (kv : Int) (u1 : mf_V) (rk : mf_V), (r 7 0 - kv).toNat < n → (0 ≤ kv ∧ kv ≤ r 7 0) → (rOK ulo uhi u1) → (∀ k, k ≠ 8 → u1 k = u k) → (∀ k, k ≠ 1 → rk k = r k) → (rk 1 = wearG r (r 5 (r 8 0 % 12)) kv) → (rOK rlo rhi rk) → (RInv rk) → (relU rk u1) → (∀ c, rk 1 c ≤ r 1 c + 9 * kv) → ∀ (H : Heap) (locs : List Loc), va_P G.1 vwCl (MW G hm adm u1) H → va_D A (MW G hm adm u1) → va_S A s.heap H locs → ∀ (ls : Array Slot), lv_has ls 6 [(0, .ref hm), (1, .int (iI (r 5 (r 8 0 % 12)))), (2, .int (iI (kv)))] → W p l e (headSpec wsX3_yearOn ({ frames := 6, cells := 0, slots := 0, locals := 133 })).room s m ([.ref hm] : List Value).toArray below meth c H locs 0 0 (MQ below (va_Qi (fun q9 (u' : mf_V) => ∃ z : Int, q9 = iI z ∧ rOK ulo uhi u' ∧ relU q u' ∧ frU u u' ∧ z = b) (fun (u' : mf_V) t => WrQ G A (MW G hm adm u') t) A) ([.ref hm] : List Value).toArray s 0 0 A) (F0 m 17 ls []) := by
    intro n
    induction n with
    | zero => intro kv u1 rk hn; exact absurd hn (Nat.not_lt_zero _)
    | succ n ih17 =>
      intro kv u1 rk hn hk oku1 hfr hrk hrk1 okk hIk hrelk hwk H locs hP hD hS ls hl
      have okLk : (0 : Int) ≤ rk 7 0 ∧ rk 7 0 ≤ 150 := okk 7 0
      have e7 : rk 7 0 = r 7 0 := by rw [hrk 7 (by decide)]
      refine lv_iload_n hx hb dX3_yearOn_17 rfl (lv_at hl 2 rfl) ?_
      refine lv_aload_n hx hb dX3_yearOn_18 rfl (lv_at hl 0 rfl) ?_
      refine vp_callSi (va_Run.run (va_runV (As := []) (rest := [.int (iI (kv))]) ⟨hx, hb, hml, hown, hts⟩ (c_X3_length l G hm adm u1 (by assumption)) (cwV 0 hts gX3_yearOn_X3_length rfl rfl rfl (by decide +kernel) ⟨Nat.le_of_ble_eq_true rfl, Nat.le_of_ble_eq_true rfl⟩) (rdV (wc := MW G hm adm u1) hK hP hN [0, 1, 2, 3, 4, 5, 6, 7, 8, 9] rfl (ci := 3) rfl rfl) rfl rfl hl.1 rfl (lv_room (Nat.le_of_ble_eq_true rfl)) dX3_yearOn_19 ⟨(Nat.zero_le _), (Nat.zero_le _)⟩)) (fun q3 hq3 => ?_)
      subst hq3
      refine mf_top (u1 10 2) (rk 7 0) (by rw [rel10_2 hrelk]) ?_
      have b4 : (0 : Int) ≤ rk 7 0 ∧ rk 7 0 ≤ 150 := okk 7 0
      refine mf_icmp_ge (tgt := 71) hx hb dX3_yearOn_22 (by decide) (i32_mk (by omega) (by omega)) (i32_mk (by omega) (by omega)) (fun c5 => ?_) (fun c5 => ?_)
      · skip
        have hr1 : rk = r1 := funext fun k => by
          by_cases z : k = 1
          · rw [z, hrk1, h1w, show kv = r 7 0 by omega]
          · rw [hrk k z, h1f k z]
        subst hr1
        clear hwk
        skip
        refine mf_iconst hx hb dX3_yearOn_71 ?_
        refine lv_istore_n (lv' := [(2, .int (iI ((-1)))), (0, .ref hm), (1, .int (iI (r 5 (r 8 0 % 12))))]) hx hb dX3_yearOn_72 rfl hl (by decide) rfl (fun ls hl => ?_)
        refine mf_iconst hx hb dX3_yearOn_73 ?_
        refine lv_istore_n (lv' := [(3, .int (iI ((-1)))), (2, .int (iI ((-1)))), (0, .ref hm), (1, .int (iI (r 5 (r 8 0 % 12))))]) hx hb dX3_yearOn_74 rfl hl (by decide) rfl (fun ls hl => ?_)
        refine mf_iconst hx hb dX3_yearOn_75 ?_
        refine lv_istore (lv' := [(4, .int (iI (0))), (3, .int (iI ((-1)))), (2, .int (iI ((-1)))), (0, .ref hm), (1, .int (iI (r 5 (r 8 0 % 12))))]) hx hb dX3_yearOn_76 hl (by decide) rfl (fun ls hl => ?_)
        have lp78 : ∀ (n : Nat) (bv : Int) (mv : Int) (k2 : Int), (rk 7 0 - k2).toNat < n → (0 ≤ k2 ∧ k2 ≤ rk 7 0) → (-1 ≤ mv ∧ mv ≤ 200000000) → (-1 ≤ bv ∧ bv ≤ 150) → (bv = -1 ∨ (0 ≤ bv ∧ bv < k2 ∧ canB rk bv (rk 12 bv) ∧ ¬ rk 12 bv = -1)) → (bv = (ripG rk k2).1) → (mv = (ripG rk k2).2) → ∀ (H : Heap) (locs : List Loc), va_P G.1 vwCl (MW G hm adm u1) H → va_D A (MW G hm adm u1) → va_S A s.heap H locs → ∀ (ls : Array Slot), lv_has ls 6 [(0, .ref hm), (1, .int (iI (r 5 (r 8 0 % 12)))), (2, .int (iI (bv))), (3, .int (iI (mv))), (4, .int (iI (k2)))] → W p l e (headSpec wsX3_yearOn ({ frames := 6, cells := 0, slots := 0, locals := 133 })).room s m ([.ref hm] : List Value).toArray below meth c H locs 0 0 (MQ below (va_Qi (fun q9 (u' : mf_V) => ∃ z : Int, q9 = iI z ∧ rOK ulo uhi u' ∧ relU q u' ∧ frU u u' ∧ z = b) (fun (u' : mf_V) t => WrQ G A (MW G hm adm u') t) A) ([.ref hm] : List Value).toArray s 0 0 A) (F0 m 78 ls []) := by
          intro n
          induction n with
          | zero => intro bv mv k2 hn; exact absurd hn (Nat.not_lt_zero _)
          | succ n ih78 =>
            intro bv mv k2 hn hk2 hmb hbb hcb hbx hmx H locs hP hD hS ls hl
            refine lv_iload hx hb dX3_yearOn_78 (lv_at hl 4 rfl) ?_
            refine lv_aload_n hx hb dX3_yearOn_80 rfl (lv_at hl 0 rfl) ?_
            refine vp_callSi (va_Run.run (va_runV (As := []) (rest := [.int (iI (k2))]) ⟨hx, hb, hml, hown, hts⟩ (c_X3_length l G hm adm u1 (by assumption)) (cwV 0 hts gX3_yearOn_X3_length rfl rfl rfl (by decide +kernel) ⟨Nat.le_of_ble_eq_true rfl, Nat.le_of_ble_eq_true rfl⟩) (rdV (wc := MW G hm adm u1) hK hP hN [0, 1, 2, 3, 4, 5, 6, 7, 8, 9] rfl (ci := 3) rfl rfl) rfl rfl hl.1 rfl (lv_room (Nat.le_of_ble_eq_true rfl)) dX3_yearOn_81 ⟨(Nat.zero_le _), (Nat.zero_le _)⟩)) (fun q6 hq6 => ?_)
            subst hq6
            refine mf_top (u1 10 2) (rk 7 0) (by rw [rel10_2 hrelk]) ?_
            have b7 : (0 : Int) ≤ rk 7 0 ∧ rk 7 0 ≤ 150 := okk 7 0
            refine mf_icmp_ge (tgt := 169) hx hb dX3_yearOn_84 (by decide) (i32_mk (by omega) (by omega)) (i32_mk (by omega) (by omega)) (fun c8 => ?_) (fun c8 => ?_)
            · skip
              have e9 : ripF rk = bv := by unfold ripF; rw [← show k2 = rk 7 0 by omega, ← hbx]
              rw [e9] at hrip
              have hfrk : frU u u1 := ⟨hfr 0 (by decide), hfr 4 (by decide), hfr 5 (by decide)⟩
              skip
              refine lv_iload_n hx hb dX3_yearOn_169 rfl (lv_at hl 2 rfl) ?_
              refine mf_iconst hx hb dX3_yearOn_170 ?_
              refine mf_icmp_eq (tgt := 184) hx hb dX3_yearOn_171 (by decide) (i32_mk (by omega) (by omega)) (i32_mk (by decide) (by decide)) (fun c9 => ?_) (fun c9 => ?_)
              · skip
                have lp184 : ∀ (u3 : mf_V), (rOK ulo uhi u3) → (relU r2 u3) → (frU u u3) → ((bv = -1 ∧ b = 0) ∨ (¬ bv = -1 ∧ b = 1)) → (r2 9 0 = r 9 0) → ∀ (H : Heap) (locs : List Loc), va_P G.1 vwCl (MW G hm adm u3) H → va_D A (MW G hm adm u3) → va_S A s.heap H locs → ∀ (ls : Array Slot), lv_has ls 6 [(0, .ref hm), (1, .int (iI (r 5 (r 8 0 % 12)))), (2, .int (iI (bv)))] → W p l e (headSpec wsX3_yearOn ({ frames := 6, cells := 0, slots := 0, locals := 133 })).room s m ([.ref hm] : List Value).toArray below meth c H locs 0 0 (MQ below (va_Qi (fun q9 (u' : mf_V) => ∃ z : Int, q9 = iI z ∧ rOK ulo uhi u' ∧ relU q u' ∧ frU u u' ∧ z = b) (fun (u' : mf_V) t => WrQ G A (MW G hm adm u') t) A) ([.ref hm] : List Value).toArray s 0 0 A) (F0 m 184 ls []) := by
                  intro u3 oku3 hrel2 hfr3 hbz e29 H locs hP hD hS ls hl
                  refine lv_iload_n hx hb dX3_yearOn_184 rfl (lv_at hl 1 rfl) ?_
                  refine mf_bipush hx hb dX3_yearOn_185 rfl ?_
                  refine mf_icmp_lt (tgt := 194) hx hb dX3_yearOn_187 (by decide) (i32_mk (by omega) (by omega)) (i32_mk (by decide) (by decide)) (fun c10 => ?_) (fun c10 => ?_)
                  · skip
                    have lp194 : ∀ (u4 : mf_V), (rOK ulo uhi u4) → (relU r3 u4) → (frU u u4) → ∀ (H : Heap) (locs : List Loc), va_P G.1 vwCl (MW G hm adm u4) H → va_D A (MW G hm adm u4) → va_S A s.heap H locs → ∀ (ls : Array Slot), lv_has ls 6 [(0, .ref hm), (2, .int (iI (bv)))] → W p l e (headSpec wsX3_yearOn ({ frames := 6, cells := 0, slots := 0, locals := 133 })).room s m ([.ref hm] : List Value).toArray below meth c H locs 0 0 (MQ below (va_Qi (fun q9 (u' : mf_V) => ∃ z : Int, q9 = iI z ∧ rOK ulo uhi u' ∧ relU q u' ∧ frU u u' ∧ z = b) (fun (u' : mf_V) t => WrQ G A (MW G hm adm u') t) A) ([.ref hm] : List Value).toArray s 0 0 A) (F0 m 194 ls []) := by
                      intro u4 oku4 hrel3 hfr4 H locs hP hD hS ls hl
                      refine mf_iconst hx hb dX3_yearOn_194 ?_
                      refine lv_istore (lv' := [(4, .int (iI (0))), (0, .ref hm), (2, .int (iI (bv)))]) hx hb dX3_yearOn_195 hl (by decide) rfl (fun ls hl => ?_)
                      have lp197 : ∀ (n : Nat) (k5 : Int) (u5 : mf_V), (384 - k5).toNat < n → (0 ≤ k5 ∧ k5 ≤ 384) → (rOK ulo uhi u5) → (∀ k, k ≠ 9 → u5 k = u4 k) → (∀ z, 0 ≤ z → z < k5 → u5 9 z = max 0 (lyl r3 z - 1)) → (∀ z, k5 ≤ z → u5 9 z = u4 9 z) → ∀ (H : Heap) (locs : List Loc), va_P G.1 vwCl (MW G hm adm u5) H → va_D A (MW G hm adm u5) → va_S A s.heap H locs → ∀ (ls : Array Slot), lv_has ls 6 [(0, .ref hm), (2, .int (iI (bv))), (4, .int (iI (k5)))] → W p l e (headSpec wsX3_yearOn ({ frames := 6, cells := 0, slots := 0, locals := 133 })).room s m ([.ref hm] : List Value).toArray below meth c H locs 0 0 (MQ below (va_Qi (fun q9 (u' : mf_V) => ∃ z : Int, q9 = iI z ∧ rOK ulo uhi u' ∧ relU q u' ∧ frU u u' ∧ z = b) (fun (u' : mf_V) t => WrQ G A (MW G hm adm u') t) A) ([.ref hm] : List Value).toArray s 0 0 A) (F0 m 197 ls []) := by
                        intro n
                        induction n with
                        | zero => intro k5 u5 hn; exact absurd hn (Nat.not_lt_zero _)
                        | succ n ih197 =>
                          intro k5 u5 hn hk5 oku5 hfr5 hlo hge H locs hP hD hS ls hl
                          refine lv_iload hx hb dX3_yearOn_197 (lv_at hl 2 rfl) ?_
                          refine mf_sipush hx hb dX3_yearOn_199 rfl ?_
                          refine mf_icmp_ge (tgt := 231) hx hb dX3_yearOn_202 (by decide) (i32_mk (by omega) (by omega)) (i32_mk (by decide) (by decide)) (fun c11 => ?_) (fun c11 => ?_)
                          · skip
                            refine lv_aload_n hx hb dX3_yearOn_231 rfl (lv_at hl 0 rfl) ?_
                            refine va_get (D := G.1) (ci := 3) (v := .ref (adm 10)) (C := RX3) (T := TX3) (N := 11) hx hb hts hinX3 hown hK hP 0 rfl rfl 10 (by decide) (hts (.fieldLink RX3 35 "MeanderFarmModel" "numbers" "[I") (List.mem_of_getElem? (i := 2) rfl)) (fun _ h9 => h9) rfl dX3_yearOn_232 ?_
                            refine mf_iconst hx hb dX3_yearOn_235 ?_
                            refine lv_dup2_11 hx hb dX3_yearOn_236 rfl rfl ?_
                            refine mf_iald (n := 3) (f := u5 10) hx hb hK hP 9 0 rfl rfl (z := 0) (by omega) (by omega) (by decide) dX3_yearOn_237 ?_
                            refine mf_top (u5 10 0) (r3 8 0) (by rw [hfr5 10 (by decide), rel10_0 hrel3]) ?_
                            have b12 : (0 : Int) ≤ r3 8 0 ∧ r3 8 0 ≤ 90000 := ok3 8 0
                            refine mf_iconst hx hb dX3_yearOn_238 ?_
                            refine mf_iadd hx hb dX3_yearOn_239 ?_
                            refine mf_iast (n := 3) (f := u5 10) hx hb hK hP hD hS 9 0 rfl rfl (z := 0) (x := (r3 8 0) + 1) (by omega) (by omega) (by decide) dX3_yearOn_240 (fun H locs hP hD hS => ?_)
                            obtain ⟨u13, eu13⟩ : ∃ z9 : mf_V, z9 = mf_sF u5 10 (mf_up (u5 10) (0) ((r3 8 0) + 1)) := ⟨_, rfl⟩
                            have hP : va_P G.1 vwCl (MW G hm adm u13) H := by rw [eu13]; exact hP
                            have hD : va_D A (MW G hm adm u13) := by rw [eu13]; exact hD
                            have oku13 : rOK ulo uhi u13 := by rw [eu13]; exact rOK_up oku5 10 _ _ (show (0 : Int) ≤ (r3 8 0) + 1 by omega) (show (r3 8 0) + 1 ≤ (100000000 : Int) by omega)
                            have f1_u13 : u13 10 (0) = (r3 8 0) + 1 := by rw [eu13, mf_sF_s, mf_up_s]
                            have f2_u13 : ∀ y, y ≠ (0) → u13 10 y = u5 10 y := fun y hy => by rw [eu13, mf_sF_s, mf_up_n hy]
                            have f3_u13 : ∀ q, q ≠ 10 → u13 q = u5 q := fun q hq => by rw [eu13, mf_sF_n hq]
                            refine lv_iload_n hx hb dX3_yearOn_241 rfl (lv_at hl 1 rfl) ?_
                            refine mf_iconst hx hb dX3_yearOn_242 ?_
                            refine mf_icmp_eq (tgt := 250) hx hb dX3_yearOn_243 (by decide) (i32_mk (by omega) (by omega)) (i32_mk (by decide) (by decide)) (fun c14 => ?_) (fun c14 => ?_)
                            · skip
                              refine mf_iconst hx hb dX3_yearOn_250 ?_
                              exact W.zret hx hb hr (mf_nar01 (by omega)) (fun t ht hW => ⟨⟨_, u13, rfl, ⟨_, rfl, by exact ⟨oku13, yearRel hrel3 hqf (by rw [hq8, h38]) (fun z z0 z1 => by rw [f3_u13 9 (by decide)]; exact hlo z z0 (by omega)) (fun k h9 h10 => by rw [f3_u13 k h10, hfr5 k h9]) f1_u13 (by rw [f2_u13 1 (by omega), hfr5 10 (by decide)]) (by rw [f2_u13 2 (by omega), hfr5 10 (by decide)]), ⟨by rw [f3_u13 0 (by decide), hfr5 0 (by decide)]; exact hfr4.1, by rw [f3_u13 4 (by decide), hfr5 4 (by decide)]; exact hfr4.2.1, by rw [f3_u13 5 (by decide), hfr5 5 (by decide)]; exact hfr4.2.2⟩, by omega⟩⟩, by rw [ht]; exact hP, hD⟩, hS.F ht⟩) hS.2.2 dX3_yearOn_251
                            · skip
                              refine mf_iconst hx hb dX3_yearOn_246 ?_
                              refine lv_goto (tgt := 251) hx hb dX3_yearOn_247 (by decide) ?_
                              exact W.zret hx hb hr (mf_nar01 (by omega)) (fun t ht hW => ⟨⟨_, u13, rfl, ⟨_, rfl, by exact ⟨oku13, yearRel hrel3 hqf (by rw [hq8, h38]) (fun z z0 z1 => by rw [f3_u13 9 (by decide)]; exact hlo z z0 (by omega)) (fun k h9 h10 => by rw [f3_u13 k h10, hfr5 k h9]) f1_u13 (by rw [f2_u13 1 (by omega), hfr5 10 (by decide)]) (by rw [f2_u13 2 (by omega), hfr5 10 (by decide)]), ⟨by rw [f3_u13 0 (by decide), hfr5 0 (by decide)]; exact hfr4.1, by rw [f3_u13 4 (by decide), hfr5 4 (by decide)]; exact hfr4.2.1, by rw [f3_u13 5 (by decide), hfr5 5 (by decide)]; exact hfr4.2.2⟩, by omega⟩⟩, by rw [ht]; exact hP, hD⟩, hS.F ht⟩) hS.2.2 dX3_yearOn_251
                          · skip
                            refine lv_aload_n hx hb dX3_yearOn_205 rfl (lv_at hl 0 rfl) ?_
                            refine va_get (D := G.1) (ci := 3) (v := .ref (adm 9)) (C := RX3) (T := TX3) (N := 11) hx hb hts hinX3 hown hK hP 0 rfl rfl 9 (by decide) (hts (.fieldLink RX3 32 "MeanderFarmModel" "lake" "[I") (List.mem_of_getElem? (i := 7) rfl)) (fun _ h9 => h9) rfl dX3_yearOn_206 ?_
                            refine lv_iload hx hb dX3_yearOn_209 (lv_at hl 2 rfl) ?_
                            refine mf_iconst hx hb dX3_yearOn_211 ?_
                            refine lv_aload_n hx hb dX3_yearOn_212 rfl (lv_at hl 0 rfl) ?_
                            refine va_get (D := G.1) (ci := 3) (v := .ref (adm 9)) (C := RX3) (T := TX3) (N := 11) hx hb hts hinX3 hown hK hP 0 rfl rfl 9 (by decide) (hts (.fieldLink RX3 32 "MeanderFarmModel" "lake" "[I") (List.mem_of_getElem? (i := 7) rfl)) (fun _ h9 => h9) rfl dX3_yearOn_213 ?_
                            refine lv_iload hx hb dX3_yearOn_216 (lv_at hl 2 rfl) ?_
                            refine mf_iald (n := 384) (f := u5 9) hx hb hK hP 8 0 rfl rfl (z := k5) (by omega) (by omega) (by decide) dX3_yearOn_218 ?_
                            have b15 : (0 : Int) ≤ u5 9 k5 ∧ u5 9 k5 ≤ 10 := oku5 9 (k5)
                            refine mf_top (u5 9 k5) (lyl r3 k5) (by rw [hge k5 (by omega), rel9 hrel3 (by omega) (by omega)]) ?_
                            have bl9 : lyl r3 k5 = u5 9 k5 := by rw [hge k5 (by omega), rel9 hrel3 (by omega) (by omega)]
                            skip
                            refine mf_iconst hx hb dX3_yearOn_219 ?_
                            refine mf_isub hx hb dX3_yearOn_220 ?_
                            refine mf_mmax hx hb (hml.trans hl.1.symm) hown (hts (.methodLink RX3 108 Lib.Math.max.name) (List.mem_of_getElem? (i := 8) rfl)) (hts (.static Lib.Math.max.name) (List.mem_of_getElem? (i := 9) rfl)) (hts (.initialized "java/lang/Math") (List.mem_of_getElem? (i := 10) rfl)) (hts (.code Lib.Math.max.name Lib.Math.max.code 2 (some .int)) (List.mem_of_getElem? (i := 11) rfl)) (by decide) (Nat.le_of_ble_eq_true rfl) (Nat.zero_le _) (Nat.zero_le _) (i32_mk (by decide) (by decide)) (i32_mk (by omega) (by omega)) dX3_yearOn_221 ?_
                            refine mf_nm (fun y16 ey16 => ?_)
                            refine mf_iast (n := 384) (f := u5 9) hx hb hK hP hD hS 8 0 rfl rfl (z := k5) (x := y16) (by omega) (by omega) (by decide) dX3_yearOn_224 (fun H locs hP hD hS => ?_)
                            obtain ⟨u17, eu17⟩ : ∃ z9 : mf_V, z9 = mf_sF u5 9 (mf_up (u5 9) (k5) (y16)) := ⟨_, rfl⟩
                            have hP : va_P G.1 vwCl (MW G hm adm u17) H := by rw [eu17]; exact hP
                            have hD : va_D A (MW G hm adm u17) := by rw [eu17]; exact hD
                            have oku17 : rOK ulo uhi u17 := by rw [eu17]; exact rOK_up oku5 9 _ _ (show (0 : Int) ≤ y16 by omega) (show y16 ≤ (10 : Int) by omega)
                            have f1_u17 : u17 9 (k5) = y16 := by rw [eu17, mf_sF_s, mf_up_s]
                            have f2_u17 : ∀ y, y ≠ (k5) → u17 9 y = u5 9 y := fun y hy => by rw [eu17, mf_sF_s, mf_up_n hy]
                            have f3_u17 : ∀ q, q ≠ 9 → u17 q = u5 q := fun q hq => by rw [eu17, mf_sF_n hq]
                            refine lv_iinc (v := iI (k5 + 1)) (lv' := [(4, .int (iI (k5 + 1))), (0, .ref hm), (2, .int (iI (bv)))]) hx hb dX3_yearOn_225 hl (k := 2) rfl (iI_add _ _).symm (by decide) rfl (fun ls hl => ?_)
                            refine lv_goto (tgt := 197) hx hb dX3_yearOn_228 (by decide) ?_
                            exact ih197 (k5 + 1) u17 (by omega) (by first | assumption | omega) (by first | assumption | omega) (by intro k hk; rw [f3_u17 k hk]; exact hfr5 k hk) (by intro z h0 h1; rcases (show z < k5 ∨ z = k5 by omega) with y | y; (rw [f2_u17 z (by omega)]; exact hlo z h0 y); (rw [y, f1_u17]; exact ey16)) (by intro z hz; rw [f2_u17 z (by omega)]; exact hge z (by omega)) _ _ hP hD hS ls (lv_sub hl [1, 2, 0] rfl)
                      exact lp197 (_ + 1) 0 u4 (Nat.lt_succ_self _) (by first | assumption | omega) (by first | assumption | omega) (by intro k _; rfl) (by intro z h0 h1; omega) (by intro z _; rfl) _ _ hP hD hS ls (lv_sub hl [1, 2, 0] rfl)
                    exact lp194 u3 (by first | assumption | omega) (by rcases hfl with z | z; (omega); (rw [z.2]; exact hrel2)) (by exact hfr3) _ _ hP hD hS ls (lv_sub hl [0, 2] rfl)
                  · skip
                    refine lv_aload_n hx hb dX3_yearOn_190 rfl (lv_at hl 0 rfl) ?_
                    have hFc := va_free (wc := MW G hm adm u3) hD hS hA [0, 1, 2, 3, 4, 5, 6, 7, 8, 9] rfl
                    refine va_callv (va_runV (As := []) (rest := []) ⟨hx, hb, hml, hown, hts⟩ (c_X3_flood l G hm adm u3 (r2) (r3) (by assumption) (by exact ok2) (by exact hI2) (by exact hrel2) (by rcases hfl with z | z; (exact z.2); (omega)) (by rw [e29]; exact hbk) _) (cwV 0 hts gX3_yearOn_X3_flood rfl rfl rfl (by decide +kernel) ⟨Nat.le_of_ble_eq_true rfl, Nat.le_of_ble_eq_true rfl⟩) (wrV (wc := MW G hm adm u3) hK hP hD hN [0, 1, 2, 3, 4, 5, 6, 7, 8, 9] (by decide) rfl rfl (ci := 3) rfl rfl) rfl rfl hl.1 rfl (lv_room (Nat.le_of_ble_eq_true rfl)) dX3_yearOn_191 ⟨(Nat.zero_le _), (Nat.zero_le _)⟩) hS (fun q _ h => hFc q h) hFc (fun u19 t H1 locs ht hvm hw hB hz1 hk1 hS => ?_)
                    obtain ⟨u20, rfl⟩ : ∃ z, z = u19 := ⟨_, rfl⟩
                    try dsimp only at hw hB
                    obtain ⟨hP, hD⟩ := wrJ (ws := MW G hm adm u3) (w1 := MW G hm adm u20) ht hFc hB
                    have hP : va_P G.1 vwCl (MW G hm adm u20) H1 := hP
                    have hD : va_D A (MW G hm adm u20) := hD
                    clear hB hk1 hFc ht hz1 hvm
                    generalize H1 = H at hP hS ⊢
                    have w21 := hw; clear hw
                    have oku20 : rOK ulo uhi u20 := w21.1
                    have lp194 : ∀ (u4 : mf_V), (rOK ulo uhi u4) → (relU r3 u4) → (frU u u4) → ∀ (H : Heap) (locs : List Loc), va_P G.1 vwCl (MW G hm adm u4) H → va_D A (MW G hm adm u4) → va_S A s.heap H locs → ∀ (ls : Array Slot), lv_has ls 6 [(0, .ref hm), (2, .int (iI (bv)))] → W p l e (headSpec wsX3_yearOn ({ frames := 6, cells := 0, slots := 0, locals := 133 })).room s m ([.ref hm] : List Value).toArray below meth c H locs 0 0 (MQ below (va_Qi (fun q9 (u' : mf_V) => ∃ z : Int, q9 = iI z ∧ rOK ulo uhi u' ∧ relU q u' ∧ frU u u' ∧ z = b) (fun (u' : mf_V) t => WrQ G A (MW G hm adm u') t) A) ([.ref hm] : List Value).toArray s 0 0 A) (F0 m 194 ls []) := by
                      intro u4 oku4 hrel3 hfr4 H locs hP hD hS ls hl
                      refine mf_iconst hx hb dX3_yearOn_194 ?_
                      refine lv_istore (lv' := [(4, .int (iI (0))), (0, .ref hm), (2, .int (iI (bv)))]) hx hb dX3_yearOn_195 hl (by decide) rfl (fun ls hl => ?_)
                      have lp197 : ∀ (n : Nat) (k5 : Int) (u5 : mf_V), (384 - k5).toNat < n → (0 ≤ k5 ∧ k5 ≤ 384) → (rOK ulo uhi u5) → (∀ k, k ≠ 9 → u5 k = u4 k) → (∀ z, 0 ≤ z → z < k5 → u5 9 z = max 0 (lyl r3 z - 1)) → (∀ z, k5 ≤ z → u5 9 z = u4 9 z) → ∀ (H : Heap) (locs : List Loc), va_P G.1 vwCl (MW G hm adm u5) H → va_D A (MW G hm adm u5) → va_S A s.heap H locs → ∀ (ls : Array Slot), lv_has ls 6 [(0, .ref hm), (2, .int (iI (bv))), (4, .int (iI (k5)))] → W p l e (headSpec wsX3_yearOn ({ frames := 6, cells := 0, slots := 0, locals := 133 })).room s m ([.ref hm] : List Value).toArray below meth c H locs 0 0 (MQ below (va_Qi (fun q9 (u' : mf_V) => ∃ z : Int, q9 = iI z ∧ rOK ulo uhi u' ∧ relU q u' ∧ frU u u' ∧ z = b) (fun (u' : mf_V) t => WrQ G A (MW G hm adm u') t) A) ([.ref hm] : List Value).toArray s 0 0 A) (F0 m 197 ls []) := by
                        intro n
                        induction n with
                        | zero => intro k5 u5 hn; exact absurd hn (Nat.not_lt_zero _)
                        | succ n ih197 =>
                          intro k5 u5 hn hk5 oku5 hfr5 hlo hge H locs hP hD hS ls hl
                          refine lv_iload hx hb dX3_yearOn_197 (lv_at hl 2 rfl) ?_
                          refine mf_sipush hx hb dX3_yearOn_199 rfl ?_
                          refine mf_icmp_ge (tgt := 231) hx hb dX3_yearOn_202 (by decide) (i32_mk (by omega) (by omega)) (i32_mk (by decide) (by decide)) (fun c22 => ?_) (fun c22 => ?_)
                          · skip
                            refine lv_aload_n hx hb dX3_yearOn_231 rfl (lv_at hl 0 rfl) ?_
                            refine va_get (D := G.1) (ci := 3) (v := .ref (adm 10)) (C := RX3) (T := TX3) (N := 11) hx hb hts hinX3 hown hK hP 0 rfl rfl 10 (by decide) (hts (.fieldLink RX3 35 "MeanderFarmModel" "numbers" "[I") (List.mem_of_getElem? (i := 2) rfl)) (fun _ h9 => h9) rfl dX3_yearOn_232 ?_
                            refine mf_iconst hx hb dX3_yearOn_235 ?_
                            refine lv_dup2_11 hx hb dX3_yearOn_236 rfl rfl ?_
                            refine mf_iald (n := 3) (f := u5 10) hx hb hK hP 9 0 rfl rfl (z := 0) (by omega) (by omega) (by decide) dX3_yearOn_237 ?_
                            refine mf_top (u5 10 0) (r3 8 0) (by rw [hfr5 10 (by decide), rel10_0 hrel3]) ?_
                            have b23 : (0 : Int) ≤ r3 8 0 ∧ r3 8 0 ≤ 90000 := ok3 8 0
                            refine mf_iconst hx hb dX3_yearOn_238 ?_
                            refine mf_iadd hx hb dX3_yearOn_239 ?_
                            refine mf_iast (n := 3) (f := u5 10) hx hb hK hP hD hS 9 0 rfl rfl (z := 0) (x := (r3 8 0) + 1) (by omega) (by omega) (by decide) dX3_yearOn_240 (fun H locs hP hD hS => ?_)
                            obtain ⟨u24, eu24⟩ : ∃ z9 : mf_V, z9 = mf_sF u5 10 (mf_up (u5 10) (0) ((r3 8 0) + 1)) := ⟨_, rfl⟩
                            have hP : va_P G.1 vwCl (MW G hm adm u24) H := by rw [eu24]; exact hP
                            have hD : va_D A (MW G hm adm u24) := by rw [eu24]; exact hD
                            have oku24 : rOK ulo uhi u24 := by rw [eu24]; exact rOK_up oku5 10 _ _ (show (0 : Int) ≤ (r3 8 0) + 1 by omega) (show (r3 8 0) + 1 ≤ (100000000 : Int) by omega)
                            have f1_u24 : u24 10 (0) = (r3 8 0) + 1 := by rw [eu24, mf_sF_s, mf_up_s]
                            have f2_u24 : ∀ y, y ≠ (0) → u24 10 y = u5 10 y := fun y hy => by rw [eu24, mf_sF_s, mf_up_n hy]
                            have f3_u24 : ∀ q, q ≠ 10 → u24 q = u5 q := fun q hq => by rw [eu24, mf_sF_n hq]
                            refine lv_iload_n hx hb dX3_yearOn_241 rfl (lv_at hl 1 rfl) ?_
                            refine mf_iconst hx hb dX3_yearOn_242 ?_
                            refine mf_icmp_eq (tgt := 250) hx hb dX3_yearOn_243 (by decide) (i32_mk (by omega) (by omega)) (i32_mk (by decide) (by decide)) (fun c25 => ?_) (fun c25 => ?_)
                            · skip
                              refine mf_iconst hx hb dX3_yearOn_250 ?_
                              exact W.zret hx hb hr (mf_nar01 (by omega)) (fun t ht hW => ⟨⟨_, u24, rfl, ⟨_, rfl, by exact ⟨oku24, yearRel hrel3 hqf (by rw [hq8, h38]) (fun z z0 z1 => by rw [f3_u24 9 (by decide)]; exact hlo z z0 (by omega)) (fun k h9 h10 => by rw [f3_u24 k h10, hfr5 k h9]) f1_u24 (by rw [f2_u24 1 (by omega), hfr5 10 (by decide)]) (by rw [f2_u24 2 (by omega), hfr5 10 (by decide)]), ⟨by rw [f3_u24 0 (by decide), hfr5 0 (by decide)]; exact hfr4.1, by rw [f3_u24 4 (by decide), hfr5 4 (by decide)]; exact hfr4.2.1, by rw [f3_u24 5 (by decide), hfr5 5 (by decide)]; exact hfr4.2.2⟩, by omega⟩⟩, by rw [ht]; exact hP, hD⟩, hS.F ht⟩) hS.2.2 dX3_yearOn_251
                            · skip
                              refine mf_iconst hx hb dX3_yearOn_246 ?_
                              refine lv_goto (tgt := 251) hx hb dX3_yearOn_247 (by decide) ?_
                              exact W.zret hx hb hr (mf_nar01 (by omega)) (fun t ht hW => ⟨⟨_, u24, rfl, ⟨_, rfl, by exact ⟨oku24, yearRel hrel3 hqf (by rw [hq8, h38]) (fun z z0 z1 => by rw [f3_u24 9 (by decide)]; exact hlo z z0 (by omega)) (fun k h9 h10 => by rw [f3_u24 k h10, hfr5 k h9]) f1_u24 (by rw [f2_u24 1 (by omega), hfr5 10 (by decide)]) (by rw [f2_u24 2 (by omega), hfr5 10 (by decide)]), ⟨by rw [f3_u24 0 (by decide), hfr5 0 (by decide)]; exact hfr4.1, by rw [f3_u24 4 (by decide), hfr5 4 (by decide)]; exact hfr4.2.1, by rw [f3_u24 5 (by decide), hfr5 5 (by decide)]; exact hfr4.2.2⟩, by omega⟩⟩, by rw [ht]; exact hP, hD⟩, hS.F ht⟩) hS.2.2 dX3_yearOn_251
                          · skip
                            refine lv_aload_n hx hb dX3_yearOn_205 rfl (lv_at hl 0 rfl) ?_
                            refine va_get (D := G.1) (ci := 3) (v := .ref (adm 9)) (C := RX3) (T := TX3) (N := 11) hx hb hts hinX3 hown hK hP 0 rfl rfl 9 (by decide) (hts (.fieldLink RX3 32 "MeanderFarmModel" "lake" "[I") (List.mem_of_getElem? (i := 7) rfl)) (fun _ h9 => h9) rfl dX3_yearOn_206 ?_
                            refine lv_iload hx hb dX3_yearOn_209 (lv_at hl 2 rfl) ?_
                            refine mf_iconst hx hb dX3_yearOn_211 ?_
                            refine lv_aload_n hx hb dX3_yearOn_212 rfl (lv_at hl 0 rfl) ?_
                            refine va_get (D := G.1) (ci := 3) (v := .ref (adm 9)) (C := RX3) (T := TX3) (N := 11) hx hb hts hinX3 hown hK hP 0 rfl rfl 9 (by decide) (hts (.fieldLink RX3 32 "MeanderFarmModel" "lake" "[I") (List.mem_of_getElem? (i := 7) rfl)) (fun _ h9 => h9) rfl dX3_yearOn_213 ?_
                            refine lv_iload hx hb dX3_yearOn_216 (lv_at hl 2 rfl) ?_
                            refine mf_iald (n := 384) (f := u5 9) hx hb hK hP 8 0 rfl rfl (z := k5) (by omega) (by omega) (by decide) dX3_yearOn_218 ?_
                            have b26 : (0 : Int) ≤ u5 9 k5 ∧ u5 9 k5 ≤ 10 := oku5 9 (k5)
                            refine mf_top (u5 9 k5) (lyl r3 k5) (by rw [hge k5 (by omega), rel9 hrel3 (by omega) (by omega)]) ?_
                            have bl9 : lyl r3 k5 = u5 9 k5 := by rw [hge k5 (by omega), rel9 hrel3 (by omega) (by omega)]
                            skip
                            refine mf_iconst hx hb dX3_yearOn_219 ?_
                            refine mf_isub hx hb dX3_yearOn_220 ?_
                            refine mf_mmax hx hb (hml.trans hl.1.symm) hown (hts (.methodLink RX3 108 Lib.Math.max.name) (List.mem_of_getElem? (i := 8) rfl)) (hts (.static Lib.Math.max.name) (List.mem_of_getElem? (i := 9) rfl)) (hts (.initialized "java/lang/Math") (List.mem_of_getElem? (i := 10) rfl)) (hts (.code Lib.Math.max.name Lib.Math.max.code 2 (some .int)) (List.mem_of_getElem? (i := 11) rfl)) (by decide) (Nat.le_of_ble_eq_true rfl) (Nat.zero_le _) (Nat.zero_le _) (i32_mk (by decide) (by decide)) (i32_mk (by omega) (by omega)) dX3_yearOn_221 ?_
                            refine mf_nm (fun y27 ey27 => ?_)
                            refine mf_iast (n := 384) (f := u5 9) hx hb hK hP hD hS 8 0 rfl rfl (z := k5) (x := y27) (by omega) (by omega) (by decide) dX3_yearOn_224 (fun H locs hP hD hS => ?_)
                            obtain ⟨u28, eu28⟩ : ∃ z9 : mf_V, z9 = mf_sF u5 9 (mf_up (u5 9) (k5) (y27)) := ⟨_, rfl⟩
                            have hP : va_P G.1 vwCl (MW G hm adm u28) H := by rw [eu28]; exact hP
                            have hD : va_D A (MW G hm adm u28) := by rw [eu28]; exact hD
                            have oku28 : rOK ulo uhi u28 := by rw [eu28]; exact rOK_up oku5 9 _ _ (show (0 : Int) ≤ y27 by omega) (show y27 ≤ (10 : Int) by omega)
                            have f1_u28 : u28 9 (k5) = y27 := by rw [eu28, mf_sF_s, mf_up_s]
                            have f2_u28 : ∀ y, y ≠ (k5) → u28 9 y = u5 9 y := fun y hy => by rw [eu28, mf_sF_s, mf_up_n hy]
                            have f3_u28 : ∀ q, q ≠ 9 → u28 q = u5 q := fun q hq => by rw [eu28, mf_sF_n hq]
                            refine lv_iinc (v := iI (k5 + 1)) (lv' := [(4, .int (iI (k5 + 1))), (0, .ref hm), (2, .int (iI (bv)))]) hx hb dX3_yearOn_225 hl (k := 2) rfl (iI_add _ _).symm (by decide) rfl (fun ls hl => ?_)
                            refine lv_goto (tgt := 197) hx hb dX3_yearOn_228 (by decide) ?_
                            exact ih197 (k5 + 1) u28 (by omega) (by first | assumption | omega) (by first | assumption | omega) (by intro k hk; rw [f3_u28 k hk]; exact hfr5 k hk) (by intro z h0 h1; rcases (show z < k5 ∨ z = k5 by omega) with y | y; (rw [f2_u28 z (by omega)]; exact hlo z h0 y); (rw [y, f1_u28]; exact ey27)) (by intro z hz; rw [f2_u28 z (by omega)]; exact hge z (by omega)) _ _ hP hD hS ls (lv_sub hl [1, 2, 0] rfl)
                      exact lp197 (_ + 1) 0 u4 (Nat.lt_succ_self _) (by first | assumption | omega) (by first | assumption | omega) (by intro k _; rfl) (by intro z h0 h1; omega) (by intro z _; rfl) _ _ hP hD hS ls (lv_sub hl [1, 2, 0] rfl)
                    exact lp194 u20 (by first | assumption | omega) (by exact w21.2.1) (by exact frU_t hfr3 w21.2.2) _ _ hP hD hS ls (lv_sub hl [0, 2] rfl)
                exact lp184 u1 (by first | assumption | omega) (by rcases hrip with hz | hz; (rw [hz.2.1]; exact hrelk); (exact absurd (by assumption) hz.1)) (by exact hfrk) (by rcases hrip with hz | hz; (exact Or.inl ⟨by assumption, hz.2.2⟩); (exact absurd (by assumption) hz.1)) (by rcases hrip with hz | hz; (rw [hz.2.1, h1f 9 (by decide)]); (exact absurd (by assumption) hz.1)) _ _ hP hD hS ls (lv_sub hl [0, 1, 2] rfl)
              · skip
                rcases hrip with hz | hz
                · exact absurd hz.1 (by assumption)
                rcases hcb with y9 | y9
                · exact absurd y9 (by assumption)
                refine lv_aload_n hx hb dX3_yearOn_174 rfl (lv_at hl 0 rfl) ?_
                refine lv_iload_n hx hb dX3_yearOn_175 rfl (lv_at hl 2 rfl) ?_
                refine lv_aload_n hx hb dX3_yearOn_176 rfl (lv_at hl 0 rfl) ?_
                refine lv_iload_n hx hb dX3_yearOn_177 rfl (lv_at hl 2 rfl) ?_
                refine vp_callSi (va_Run.run (va_runV (As := [.int (iI (bv))]) (rest := [.int (iI (bv)), .ref hm]) ⟨hx, hb, hml, hown, hts⟩ (c_X3_side l G hm adm u1 (bv) (rk) (i32_mk (by omega) (by omega)) (by assumption) (by exact okk) (by exact hIk) (by exact hrelk) (by omega)) (cwV 1 hts gX3_yearOn_X3_side rfl rfl rfl (by decide +kernel) ⟨Nat.le_of_ble_eq_true rfl, Nat.le_of_ble_eq_true rfl⟩) (rdV (wc := MW G hm adm u1) hK hP hN [0, 1, 2, 3, 4, 5, 6, 7, 8, 9] rfl (ci := 3) rfl rfl) rfl rfl hl.1 rfl (lv_room (Nat.le_of_ble_eq_true rfl)) dX3_yearOn_178 ⟨(Nat.zero_le _), (Nat.zero_le _)⟩)) (fun q29 hq29 => ?_)
                subst hq29
                have b30 : (-1 : Int) ≤ ((rk) 12 bv) ∧ ((rk) 12 bv) ≤ 3 := (show rOK rlo rhi (rk) by assumption) 12 bv
                have hFc := va_free (wc := MW G hm adm u1) hD hS hA [0, 1, 2, 3, 4, 5, 6, 7, 8, 9] rfl
                refine va_callv (va_runV (As := [.int (iI (bv)), .int (iI ((rk) 12 bv))]) (rest := []) ⟨hx, hb, hml, hown, hts⟩ (c_X3_bulge l G hm adm u1 (bv) ((rk) 12 bv) (rk) (r2) (i32_mk (by omega) (by omega)) (i32_mk (by omega) (by omega)) (by assumption) (by exact okk) (by exact hIk) (by exact hrelk) (by exact ok2) (by exact hI2) (by exact y9.2.2.1) (by exact hz.2.1) _) (cwV 2 hts gX3_yearOn_X3_bulge rfl rfl rfl (by decide +kernel) ⟨Nat.le_of_ble_eq_true rfl, Nat.le_of_ble_eq_true rfl⟩) (wrV (wc := MW G hm adm u1) hK hP hD hN [0, 1, 2, 3, 4, 5, 6, 7, 8, 9] (by decide) rfl rfl (ci := 3) rfl rfl) rfl rfl hl.1 rfl (lv_room (Nat.le_of_ble_eq_true rfl)) dX3_yearOn_181 ⟨(Nat.zero_le _), (Nat.zero_le _)⟩) hS (fun q _ h => hFc q h) hFc (fun u32 t H1 locs ht hvm hw hB hz1 hk1 hS => ?_)
                obtain ⟨u33, rfl⟩ : ∃ z, z = u32 := ⟨_, rfl⟩
                try dsimp only at hw hB
                obtain ⟨hP, hD⟩ := wrJ (ws := MW G hm adm u1) (w1 := MW G hm adm u33) ht hFc hB
                have hP : va_P G.1 vwCl (MW G hm adm u33) H1 := hP
                have hD : va_D A (MW G hm adm u33) := hD
                clear hB hk1 hFc ht hz1 hvm
                generalize H1 = H at hP hS ⊢
                have w34 := hw; clear hw
                have oku33 : rOK ulo uhi u33 := w34.1
                have lp184 : ∀ (u3 : mf_V), (rOK ulo uhi u3) → (relU r2 u3) → (frU u u3) → ((bv = -1 ∧ b = 0) ∨ (¬ bv = -1 ∧ b = 1)) → (r2 9 0 = r 9 0) → ∀ (H : Heap) (locs : List Loc), va_P G.1 vwCl (MW G hm adm u3) H → va_D A (MW G hm adm u3) → va_S A s.heap H locs → ∀ (ls : Array Slot), lv_has ls 6 [(0, .ref hm), (1, .int (iI (r 5 (r 8 0 % 12)))), (2, .int (iI (bv)))] → W p l e (headSpec wsX3_yearOn ({ frames := 6, cells := 0, slots := 0, locals := 133 })).room s m ([.ref hm] : List Value).toArray below meth c H locs 0 0 (MQ below (va_Qi (fun q9 (u' : mf_V) => ∃ z : Int, q9 = iI z ∧ rOK ulo uhi u' ∧ relU q u' ∧ frU u u' ∧ z = b) (fun (u' : mf_V) t => WrQ G A (MW G hm adm u') t) A) ([.ref hm] : List Value).toArray s 0 0 A) (F0 m 184 ls []) := by
                  intro u3 oku3 hrel2 hfr3 hbz e29 H locs hP hD hS ls hl
                  refine lv_iload_n hx hb dX3_yearOn_184 rfl (lv_at hl 1 rfl) ?_
                  refine mf_bipush hx hb dX3_yearOn_185 rfl ?_
                  refine mf_icmp_lt (tgt := 194) hx hb dX3_yearOn_187 (by decide) (i32_mk (by omega) (by omega)) (i32_mk (by decide) (by decide)) (fun c35 => ?_) (fun c35 => ?_)
                  · skip
                    have lp194 : ∀ (u4 : mf_V), (rOK ulo uhi u4) → (relU r3 u4) → (frU u u4) → ∀ (H : Heap) (locs : List Loc), va_P G.1 vwCl (MW G hm adm u4) H → va_D A (MW G hm adm u4) → va_S A s.heap H locs → ∀ (ls : Array Slot), lv_has ls 6 [(0, .ref hm), (2, .int (iI (bv)))] → W p l e (headSpec wsX3_yearOn ({ frames := 6, cells := 0, slots := 0, locals := 133 })).room s m ([.ref hm] : List Value).toArray below meth c H locs 0 0 (MQ below (va_Qi (fun q9 (u' : mf_V) => ∃ z : Int, q9 = iI z ∧ rOK ulo uhi u' ∧ relU q u' ∧ frU u u' ∧ z = b) (fun (u' : mf_V) t => WrQ G A (MW G hm adm u') t) A) ([.ref hm] : List Value).toArray s 0 0 A) (F0 m 194 ls []) := by
                      intro u4 oku4 hrel3 hfr4 H locs hP hD hS ls hl
                      refine mf_iconst hx hb dX3_yearOn_194 ?_
                      refine lv_istore (lv' := [(4, .int (iI (0))), (0, .ref hm), (2, .int (iI (bv)))]) hx hb dX3_yearOn_195 hl (by decide) rfl (fun ls hl => ?_)
                      have lp197 : ∀ (n : Nat) (k5 : Int) (u5 : mf_V), (384 - k5).toNat < n → (0 ≤ k5 ∧ k5 ≤ 384) → (rOK ulo uhi u5) → (∀ k, k ≠ 9 → u5 k = u4 k) → (∀ z, 0 ≤ z → z < k5 → u5 9 z = max 0 (lyl r3 z - 1)) → (∀ z, k5 ≤ z → u5 9 z = u4 9 z) → ∀ (H : Heap) (locs : List Loc), va_P G.1 vwCl (MW G hm adm u5) H → va_D A (MW G hm adm u5) → va_S A s.heap H locs → ∀ (ls : Array Slot), lv_has ls 6 [(0, .ref hm), (2, .int (iI (bv))), (4, .int (iI (k5)))] → W p l e (headSpec wsX3_yearOn ({ frames := 6, cells := 0, slots := 0, locals := 133 })).room s m ([.ref hm] : List Value).toArray below meth c H locs 0 0 (MQ below (va_Qi (fun q9 (u' : mf_V) => ∃ z : Int, q9 = iI z ∧ rOK ulo uhi u' ∧ relU q u' ∧ frU u u' ∧ z = b) (fun (u' : mf_V) t => WrQ G A (MW G hm adm u') t) A) ([.ref hm] : List Value).toArray s 0 0 A) (F0 m 197 ls []) := by
                        intro n
                        induction n with
                        | zero => intro k5 u5 hn; exact absurd hn (Nat.not_lt_zero _)
                        | succ n ih197 =>
                          intro k5 u5 hn hk5 oku5 hfr5 hlo hge H locs hP hD hS ls hl
                          refine lv_iload hx hb dX3_yearOn_197 (lv_at hl 2 rfl) ?_
                          refine mf_sipush hx hb dX3_yearOn_199 rfl ?_
                          refine mf_icmp_ge (tgt := 231) hx hb dX3_yearOn_202 (by decide) (i32_mk (by omega) (by omega)) (i32_mk (by decide) (by decide)) (fun c36 => ?_) (fun c36 => ?_)
                          · skip
                            refine lv_aload_n hx hb dX3_yearOn_231 rfl (lv_at hl 0 rfl) ?_
                            refine va_get (D := G.1) (ci := 3) (v := .ref (adm 10)) (C := RX3) (T := TX3) (N := 11) hx hb hts hinX3 hown hK hP 0 rfl rfl 10 (by decide) (hts (.fieldLink RX3 35 "MeanderFarmModel" "numbers" "[I") (List.mem_of_getElem? (i := 2) rfl)) (fun _ h9 => h9) rfl dX3_yearOn_232 ?_
                            refine mf_iconst hx hb dX3_yearOn_235 ?_
                            refine lv_dup2_11 hx hb dX3_yearOn_236 rfl rfl ?_
                            refine mf_iald (n := 3) (f := u5 10) hx hb hK hP 9 0 rfl rfl (z := 0) (by omega) (by omega) (by decide) dX3_yearOn_237 ?_
                            refine mf_top (u5 10 0) (r3 8 0) (by rw [hfr5 10 (by decide), rel10_0 hrel3]) ?_
                            have b37 : (0 : Int) ≤ r3 8 0 ∧ r3 8 0 ≤ 90000 := ok3 8 0
                            refine mf_iconst hx hb dX3_yearOn_238 ?_
                            refine mf_iadd hx hb dX3_yearOn_239 ?_
                            refine mf_iast (n := 3) (f := u5 10) hx hb hK hP hD hS 9 0 rfl rfl (z := 0) (x := (r3 8 0) + 1) (by omega) (by omega) (by decide) dX3_yearOn_240 (fun H locs hP hD hS => ?_)
                            obtain ⟨u38, eu38⟩ : ∃ z9 : mf_V, z9 = mf_sF u5 10 (mf_up (u5 10) (0) ((r3 8 0) + 1)) := ⟨_, rfl⟩
                            have hP : va_P G.1 vwCl (MW G hm adm u38) H := by rw [eu38]; exact hP
                            have hD : va_D A (MW G hm adm u38) := by rw [eu38]; exact hD
                            have oku38 : rOK ulo uhi u38 := by rw [eu38]; exact rOK_up oku5 10 _ _ (show (0 : Int) ≤ (r3 8 0) + 1 by omega) (show (r3 8 0) + 1 ≤ (100000000 : Int) by omega)
                            have f1_u38 : u38 10 (0) = (r3 8 0) + 1 := by rw [eu38, mf_sF_s, mf_up_s]
                            have f2_u38 : ∀ y, y ≠ (0) → u38 10 y = u5 10 y := fun y hy => by rw [eu38, mf_sF_s, mf_up_n hy]
                            have f3_u38 : ∀ q, q ≠ 10 → u38 q = u5 q := fun q hq => by rw [eu38, mf_sF_n hq]
                            refine lv_iload_n hx hb dX3_yearOn_241 rfl (lv_at hl 1 rfl) ?_
                            refine mf_iconst hx hb dX3_yearOn_242 ?_
                            refine mf_icmp_eq (tgt := 250) hx hb dX3_yearOn_243 (by decide) (i32_mk (by omega) (by omega)) (i32_mk (by decide) (by decide)) (fun c39 => ?_) (fun c39 => ?_)
                            · skip
                              refine mf_iconst hx hb dX3_yearOn_250 ?_
                              exact W.zret hx hb hr (mf_nar01 (by omega)) (fun t ht hW => ⟨⟨_, u38, rfl, ⟨_, rfl, by exact ⟨oku38, yearRel hrel3 hqf (by rw [hq8, h38]) (fun z z0 z1 => by rw [f3_u38 9 (by decide)]; exact hlo z z0 (by omega)) (fun k h9 h10 => by rw [f3_u38 k h10, hfr5 k h9]) f1_u38 (by rw [f2_u38 1 (by omega), hfr5 10 (by decide)]) (by rw [f2_u38 2 (by omega), hfr5 10 (by decide)]), ⟨by rw [f3_u38 0 (by decide), hfr5 0 (by decide)]; exact hfr4.1, by rw [f3_u38 4 (by decide), hfr5 4 (by decide)]; exact hfr4.2.1, by rw [f3_u38 5 (by decide), hfr5 5 (by decide)]; exact hfr4.2.2⟩, by omega⟩⟩, by rw [ht]; exact hP, hD⟩, hS.F ht⟩) hS.2.2 dX3_yearOn_251
                            · skip
                              refine mf_iconst hx hb dX3_yearOn_246 ?_
                              refine lv_goto (tgt := 251) hx hb dX3_yearOn_247 (by decide) ?_
                              exact W.zret hx hb hr (mf_nar01 (by omega)) (fun t ht hW => ⟨⟨_, u38, rfl, ⟨_, rfl, by exact ⟨oku38, yearRel hrel3 hqf (by rw [hq8, h38]) (fun z z0 z1 => by rw [f3_u38 9 (by decide)]; exact hlo z z0 (by omega)) (fun k h9 h10 => by rw [f3_u38 k h10, hfr5 k h9]) f1_u38 (by rw [f2_u38 1 (by omega), hfr5 10 (by decide)]) (by rw [f2_u38 2 (by omega), hfr5 10 (by decide)]), ⟨by rw [f3_u38 0 (by decide), hfr5 0 (by decide)]; exact hfr4.1, by rw [f3_u38 4 (by decide), hfr5 4 (by decide)]; exact hfr4.2.1, by rw [f3_u38 5 (by decide), hfr5 5 (by decide)]; exact hfr4.2.2⟩, by omega⟩⟩, by rw [ht]; exact hP, hD⟩, hS.F ht⟩) hS.2.2 dX3_yearOn_251
                          · skip
                            refine lv_aload_n hx hb dX3_yearOn_205 rfl (lv_at hl 0 rfl) ?_
                            refine va_get (D := G.1) (ci := 3) (v := .ref (adm 9)) (C := RX3) (T := TX3) (N := 11) hx hb hts hinX3 hown hK hP 0 rfl rfl 9 (by decide) (hts (.fieldLink RX3 32 "MeanderFarmModel" "lake" "[I") (List.mem_of_getElem? (i := 7) rfl)) (fun _ h9 => h9) rfl dX3_yearOn_206 ?_
                            refine lv_iload hx hb dX3_yearOn_209 (lv_at hl 2 rfl) ?_
                            refine mf_iconst hx hb dX3_yearOn_211 ?_
                            refine lv_aload_n hx hb dX3_yearOn_212 rfl (lv_at hl 0 rfl) ?_
                            refine va_get (D := G.1) (ci := 3) (v := .ref (adm 9)) (C := RX3) (T := TX3) (N := 11) hx hb hts hinX3 hown hK hP 0 rfl rfl 9 (by decide) (hts (.fieldLink RX3 32 "MeanderFarmModel" "lake" "[I") (List.mem_of_getElem? (i := 7) rfl)) (fun _ h9 => h9) rfl dX3_yearOn_213 ?_
                            refine lv_iload hx hb dX3_yearOn_216 (lv_at hl 2 rfl) ?_
                            refine mf_iald (n := 384) (f := u5 9) hx hb hK hP 8 0 rfl rfl (z := k5) (by omega) (by omega) (by decide) dX3_yearOn_218 ?_
                            have b40 : (0 : Int) ≤ u5 9 k5 ∧ u5 9 k5 ≤ 10 := oku5 9 (k5)
                            refine mf_top (u5 9 k5) (lyl r3 k5) (by rw [hge k5 (by omega), rel9 hrel3 (by omega) (by omega)]) ?_
                            have bl9 : lyl r3 k5 = u5 9 k5 := by rw [hge k5 (by omega), rel9 hrel3 (by omega) (by omega)]
                            skip
                            refine mf_iconst hx hb dX3_yearOn_219 ?_
                            refine mf_isub hx hb dX3_yearOn_220 ?_
                            refine mf_mmax hx hb (hml.trans hl.1.symm) hown (hts (.methodLink RX3 108 Lib.Math.max.name) (List.mem_of_getElem? (i := 8) rfl)) (hts (.static Lib.Math.max.name) (List.mem_of_getElem? (i := 9) rfl)) (hts (.initialized "java/lang/Math") (List.mem_of_getElem? (i := 10) rfl)) (hts (.code Lib.Math.max.name Lib.Math.max.code 2 (some .int)) (List.mem_of_getElem? (i := 11) rfl)) (by decide) (Nat.le_of_ble_eq_true rfl) (Nat.zero_le _) (Nat.zero_le _) (i32_mk (by decide) (by decide)) (i32_mk (by omega) (by omega)) dX3_yearOn_221 ?_
                            refine mf_nm (fun y41 ey41 => ?_)
                            refine mf_iast (n := 384) (f := u5 9) hx hb hK hP hD hS 8 0 rfl rfl (z := k5) (x := y41) (by omega) (by omega) (by decide) dX3_yearOn_224 (fun H locs hP hD hS => ?_)
                            obtain ⟨u42, eu42⟩ : ∃ z9 : mf_V, z9 = mf_sF u5 9 (mf_up (u5 9) (k5) (y41)) := ⟨_, rfl⟩
                            have hP : va_P G.1 vwCl (MW G hm adm u42) H := by rw [eu42]; exact hP
                            have hD : va_D A (MW G hm adm u42) := by rw [eu42]; exact hD
                            have oku42 : rOK ulo uhi u42 := by rw [eu42]; exact rOK_up oku5 9 _ _ (show (0 : Int) ≤ y41 by omega) (show y41 ≤ (10 : Int) by omega)
                            have f1_u42 : u42 9 (k5) = y41 := by rw [eu42, mf_sF_s, mf_up_s]
                            have f2_u42 : ∀ y, y ≠ (k5) → u42 9 y = u5 9 y := fun y hy => by rw [eu42, mf_sF_s, mf_up_n hy]
                            have f3_u42 : ∀ q, q ≠ 9 → u42 q = u5 q := fun q hq => by rw [eu42, mf_sF_n hq]
                            refine lv_iinc (v := iI (k5 + 1)) (lv' := [(4, .int (iI (k5 + 1))), (0, .ref hm), (2, .int (iI (bv)))]) hx hb dX3_yearOn_225 hl (k := 2) rfl (iI_add _ _).symm (by decide) rfl (fun ls hl => ?_)
                            refine lv_goto (tgt := 197) hx hb dX3_yearOn_228 (by decide) ?_
                            exact ih197 (k5 + 1) u42 (by omega) (by first | assumption | omega) (by first | assumption | omega) (by intro k hk; rw [f3_u42 k hk]; exact hfr5 k hk) (by intro z h0 h1; rcases (show z < k5 ∨ z = k5 by omega) with y | y; (rw [f2_u42 z (by omega)]; exact hlo z h0 y); (rw [y, f1_u42]; exact ey41)) (by intro z hz; rw [f2_u42 z (by omega)]; exact hge z (by omega)) _ _ hP hD hS ls (lv_sub hl [1, 2, 0] rfl)
                      exact lp197 (_ + 1) 0 u4 (Nat.lt_succ_self _) (by first | assumption | omega) (by first | assumption | omega) (by intro k _; rfl) (by intro z h0 h1; omega) (by intro z _; rfl) _ _ hP hD hS ls (lv_sub hl [1, 2, 0] rfl)
                    exact lp194 u3 (by first | assumption | omega) (by rcases hfl with z | z; (omega); (rw [z.2]; exact hrel2)) (by exact hfr3) _ _ hP hD hS ls (lv_sub hl [0, 2] rfl)
                  · skip
                    refine lv_aload_n hx hb dX3_yearOn_190 rfl (lv_at hl 0 rfl) ?_
                    have hFc := va_free (wc := MW G hm adm u3) hD hS hA [0, 1, 2, 3, 4, 5, 6, 7, 8, 9] rfl
                    refine va_callv (va_runV (As := []) (rest := []) ⟨hx, hb, hml, hown, hts⟩ (c_X3_flood l G hm adm u3 (r2) (r3) (by assumption) (by exact ok2) (by exact hI2) (by exact hrel2) (by rcases hfl with z | z; (exact z.2); (omega)) (by rw [e29]; exact hbk) _) (cwV 0 hts gX3_yearOn_X3_flood rfl rfl rfl (by decide +kernel) ⟨Nat.le_of_ble_eq_true rfl, Nat.le_of_ble_eq_true rfl⟩) (wrV (wc := MW G hm adm u3) hK hP hD hN [0, 1, 2, 3, 4, 5, 6, 7, 8, 9] (by decide) rfl rfl (ci := 3) rfl rfl) rfl rfl hl.1 rfl (lv_room (Nat.le_of_ble_eq_true rfl)) dX3_yearOn_191 ⟨(Nat.zero_le _), (Nat.zero_le _)⟩) hS (fun q _ h => hFc q h) hFc (fun u44 t H1 locs ht hvm hw hB hz1 hk1 hS => ?_)
                    obtain ⟨u45, rfl⟩ : ∃ z, z = u44 := ⟨_, rfl⟩
                    try dsimp only at hw hB
                    obtain ⟨hP, hD⟩ := wrJ (ws := MW G hm adm u3) (w1 := MW G hm adm u45) ht hFc hB
                    have hP : va_P G.1 vwCl (MW G hm adm u45) H1 := hP
                    have hD : va_D A (MW G hm adm u45) := hD
                    clear hB hk1 hFc ht hz1 hvm
                    generalize H1 = H at hP hS ⊢
                    have w46 := hw; clear hw
                    have oku45 : rOK ulo uhi u45 := w46.1
                    have lp194 : ∀ (u4 : mf_V), (rOK ulo uhi u4) → (relU r3 u4) → (frU u u4) → ∀ (H : Heap) (locs : List Loc), va_P G.1 vwCl (MW G hm adm u4) H → va_D A (MW G hm adm u4) → va_S A s.heap H locs → ∀ (ls : Array Slot), lv_has ls 6 [(0, .ref hm), (2, .int (iI (bv)))] → W p l e (headSpec wsX3_yearOn ({ frames := 6, cells := 0, slots := 0, locals := 133 })).room s m ([.ref hm] : List Value).toArray below meth c H locs 0 0 (MQ below (va_Qi (fun q9 (u' : mf_V) => ∃ z : Int, q9 = iI z ∧ rOK ulo uhi u' ∧ relU q u' ∧ frU u u' ∧ z = b) (fun (u' : mf_V) t => WrQ G A (MW G hm adm u') t) A) ([.ref hm] : List Value).toArray s 0 0 A) (F0 m 194 ls []) := by
                      intro u4 oku4 hrel3 hfr4 H locs hP hD hS ls hl
                      refine mf_iconst hx hb dX3_yearOn_194 ?_
                      refine lv_istore (lv' := [(4, .int (iI (0))), (0, .ref hm), (2, .int (iI (bv)))]) hx hb dX3_yearOn_195 hl (by decide) rfl (fun ls hl => ?_)
                      have lp197 : ∀ (n : Nat) (k5 : Int) (u5 : mf_V), (384 - k5).toNat < n → (0 ≤ k5 ∧ k5 ≤ 384) → (rOK ulo uhi u5) → (∀ k, k ≠ 9 → u5 k = u4 k) → (∀ z, 0 ≤ z → z < k5 → u5 9 z = max 0 (lyl r3 z - 1)) → (∀ z, k5 ≤ z → u5 9 z = u4 9 z) → ∀ (H : Heap) (locs : List Loc), va_P G.1 vwCl (MW G hm adm u5) H → va_D A (MW G hm adm u5) → va_S A s.heap H locs → ∀ (ls : Array Slot), lv_has ls 6 [(0, .ref hm), (2, .int (iI (bv))), (4, .int (iI (k5)))] → W p l e (headSpec wsX3_yearOn ({ frames := 6, cells := 0, slots := 0, locals := 133 })).room s m ([.ref hm] : List Value).toArray below meth c H locs 0 0 (MQ below (va_Qi (fun q9 (u' : mf_V) => ∃ z : Int, q9 = iI z ∧ rOK ulo uhi u' ∧ relU q u' ∧ frU u u' ∧ z = b) (fun (u' : mf_V) t => WrQ G A (MW G hm adm u') t) A) ([.ref hm] : List Value).toArray s 0 0 A) (F0 m 197 ls []) := by
                        intro n
                        induction n with
                        | zero => intro k5 u5 hn; exact absurd hn (Nat.not_lt_zero _)
                        | succ n ih197 =>
                          intro k5 u5 hn hk5 oku5 hfr5 hlo hge H locs hP hD hS ls hl
                          refine lv_iload hx hb dX3_yearOn_197 (lv_at hl 2 rfl) ?_
                          refine mf_sipush hx hb dX3_yearOn_199 rfl ?_
                          refine mf_icmp_ge (tgt := 231) hx hb dX3_yearOn_202 (by decide) (i32_mk (by omega) (by omega)) (i32_mk (by decide) (by decide)) (fun c47 => ?_) (fun c47 => ?_)
                          · skip
                            refine lv_aload_n hx hb dX3_yearOn_231 rfl (lv_at hl 0 rfl) ?_
                            refine va_get (D := G.1) (ci := 3) (v := .ref (adm 10)) (C := RX3) (T := TX3) (N := 11) hx hb hts hinX3 hown hK hP 0 rfl rfl 10 (by decide) (hts (.fieldLink RX3 35 "MeanderFarmModel" "numbers" "[I") (List.mem_of_getElem? (i := 2) rfl)) (fun _ h9 => h9) rfl dX3_yearOn_232 ?_
                            refine mf_iconst hx hb dX3_yearOn_235 ?_
                            refine lv_dup2_11 hx hb dX3_yearOn_236 rfl rfl ?_
                            refine mf_iald (n := 3) (f := u5 10) hx hb hK hP 9 0 rfl rfl (z := 0) (by omega) (by omega) (by decide) dX3_yearOn_237 ?_
                            refine mf_top (u5 10 0) (r3 8 0) (by rw [hfr5 10 (by decide), rel10_0 hrel3]) ?_
                            have b48 : (0 : Int) ≤ r3 8 0 ∧ r3 8 0 ≤ 90000 := ok3 8 0
                            refine mf_iconst hx hb dX3_yearOn_238 ?_
                            refine mf_iadd hx hb dX3_yearOn_239 ?_
                            refine mf_iast (n := 3) (f := u5 10) hx hb hK hP hD hS 9 0 rfl rfl (z := 0) (x := (r3 8 0) + 1) (by omega) (by omega) (by decide) dX3_yearOn_240 (fun H locs hP hD hS => ?_)
                            obtain ⟨u49, eu49⟩ : ∃ z9 : mf_V, z9 = mf_sF u5 10 (mf_up (u5 10) (0) ((r3 8 0) + 1)) := ⟨_, rfl⟩
                            have hP : va_P G.1 vwCl (MW G hm adm u49) H := by rw [eu49]; exact hP
                            have hD : va_D A (MW G hm adm u49) := by rw [eu49]; exact hD
                            have oku49 : rOK ulo uhi u49 := by rw [eu49]; exact rOK_up oku5 10 _ _ (show (0 : Int) ≤ (r3 8 0) + 1 by omega) (show (r3 8 0) + 1 ≤ (100000000 : Int) by omega)
                            have f1_u49 : u49 10 (0) = (r3 8 0) + 1 := by rw [eu49, mf_sF_s, mf_up_s]
                            have f2_u49 : ∀ y, y ≠ (0) → u49 10 y = u5 10 y := fun y hy => by rw [eu49, mf_sF_s, mf_up_n hy]
                            have f3_u49 : ∀ q, q ≠ 10 → u49 q = u5 q := fun q hq => by rw [eu49, mf_sF_n hq]
                            refine lv_iload_n hx hb dX3_yearOn_241 rfl (lv_at hl 1 rfl) ?_
                            refine mf_iconst hx hb dX3_yearOn_242 ?_
                            refine mf_icmp_eq (tgt := 250) hx hb dX3_yearOn_243 (by decide) (i32_mk (by omega) (by omega)) (i32_mk (by decide) (by decide)) (fun c50 => ?_) (fun c50 => ?_)
                            · skip
                              refine mf_iconst hx hb dX3_yearOn_250 ?_
                              exact W.zret hx hb hr (mf_nar01 (by omega)) (fun t ht hW => ⟨⟨_, u49, rfl, ⟨_, rfl, by exact ⟨oku49, yearRel hrel3 hqf (by rw [hq8, h38]) (fun z z0 z1 => by rw [f3_u49 9 (by decide)]; exact hlo z z0 (by omega)) (fun k h9 h10 => by rw [f3_u49 k h10, hfr5 k h9]) f1_u49 (by rw [f2_u49 1 (by omega), hfr5 10 (by decide)]) (by rw [f2_u49 2 (by omega), hfr5 10 (by decide)]), ⟨by rw [f3_u49 0 (by decide), hfr5 0 (by decide)]; exact hfr4.1, by rw [f3_u49 4 (by decide), hfr5 4 (by decide)]; exact hfr4.2.1, by rw [f3_u49 5 (by decide), hfr5 5 (by decide)]; exact hfr4.2.2⟩, by omega⟩⟩, by rw [ht]; exact hP, hD⟩, hS.F ht⟩) hS.2.2 dX3_yearOn_251
                            · skip
                              refine mf_iconst hx hb dX3_yearOn_246 ?_
                              refine lv_goto (tgt := 251) hx hb dX3_yearOn_247 (by decide) ?_
                              exact W.zret hx hb hr (mf_nar01 (by omega)) (fun t ht hW => ⟨⟨_, u49, rfl, ⟨_, rfl, by exact ⟨oku49, yearRel hrel3 hqf (by rw [hq8, h38]) (fun z z0 z1 => by rw [f3_u49 9 (by decide)]; exact hlo z z0 (by omega)) (fun k h9 h10 => by rw [f3_u49 k h10, hfr5 k h9]) f1_u49 (by rw [f2_u49 1 (by omega), hfr5 10 (by decide)]) (by rw [f2_u49 2 (by omega), hfr5 10 (by decide)]), ⟨by rw [f3_u49 0 (by decide), hfr5 0 (by decide)]; exact hfr4.1, by rw [f3_u49 4 (by decide), hfr5 4 (by decide)]; exact hfr4.2.1, by rw [f3_u49 5 (by decide), hfr5 5 (by decide)]; exact hfr4.2.2⟩, by omega⟩⟩, by rw [ht]; exact hP, hD⟩, hS.F ht⟩) hS.2.2 dX3_yearOn_251
                          · skip
                            refine lv_aload_n hx hb dX3_yearOn_205 rfl (lv_at hl 0 rfl) ?_
                            refine va_get (D := G.1) (ci := 3) (v := .ref (adm 9)) (C := RX3) (T := TX3) (N := 11) hx hb hts hinX3 hown hK hP 0 rfl rfl 9 (by decide) (hts (.fieldLink RX3 32 "MeanderFarmModel" "lake" "[I") (List.mem_of_getElem? (i := 7) rfl)) (fun _ h9 => h9) rfl dX3_yearOn_206 ?_
                            refine lv_iload hx hb dX3_yearOn_209 (lv_at hl 2 rfl) ?_
                            refine mf_iconst hx hb dX3_yearOn_211 ?_
                            refine lv_aload_n hx hb dX3_yearOn_212 rfl (lv_at hl 0 rfl) ?_
                            refine va_get (D := G.1) (ci := 3) (v := .ref (adm 9)) (C := RX3) (T := TX3) (N := 11) hx hb hts hinX3 hown hK hP 0 rfl rfl 9 (by decide) (hts (.fieldLink RX3 32 "MeanderFarmModel" "lake" "[I") (List.mem_of_getElem? (i := 7) rfl)) (fun _ h9 => h9) rfl dX3_yearOn_213 ?_
                            refine lv_iload hx hb dX3_yearOn_216 (lv_at hl 2 rfl) ?_
                            refine mf_iald (n := 384) (f := u5 9) hx hb hK hP 8 0 rfl rfl (z := k5) (by omega) (by omega) (by decide) dX3_yearOn_218 ?_
                            have b51 : (0 : Int) ≤ u5 9 k5 ∧ u5 9 k5 ≤ 10 := oku5 9 (k5)
                            refine mf_top (u5 9 k5) (lyl r3 k5) (by rw [hge k5 (by omega), rel9 hrel3 (by omega) (by omega)]) ?_
                            have bl9 : lyl r3 k5 = u5 9 k5 := by rw [hge k5 (by omega), rel9 hrel3 (by omega) (by omega)]
                            skip
                            refine mf_iconst hx hb dX3_yearOn_219 ?_
                            refine mf_isub hx hb dX3_yearOn_220 ?_
                            refine mf_mmax hx hb (hml.trans hl.1.symm) hown (hts (.methodLink RX3 108 Lib.Math.max.name) (List.mem_of_getElem? (i := 8) rfl)) (hts (.static Lib.Math.max.name) (List.mem_of_getElem? (i := 9) rfl)) (hts (.initialized "java/lang/Math") (List.mem_of_getElem? (i := 10) rfl)) (hts (.code Lib.Math.max.name Lib.Math.max.code 2 (some .int)) (List.mem_of_getElem? (i := 11) rfl)) (by decide) (Nat.le_of_ble_eq_true rfl) (Nat.zero_le _) (Nat.zero_le _) (i32_mk (by decide) (by decide)) (i32_mk (by omega) (by omega)) dX3_yearOn_221 ?_
                            refine mf_nm (fun y52 ey52 => ?_)
                            refine mf_iast (n := 384) (f := u5 9) hx hb hK hP hD hS 8 0 rfl rfl (z := k5) (x := y52) (by omega) (by omega) (by decide) dX3_yearOn_224 (fun H locs hP hD hS => ?_)
                            obtain ⟨u53, eu53⟩ : ∃ z9 : mf_V, z9 = mf_sF u5 9 (mf_up (u5 9) (k5) (y52)) := ⟨_, rfl⟩
                            have hP : va_P G.1 vwCl (MW G hm adm u53) H := by rw [eu53]; exact hP
                            have hD : va_D A (MW G hm adm u53) := by rw [eu53]; exact hD
                            have oku53 : rOK ulo uhi u53 := by rw [eu53]; exact rOK_up oku5 9 _ _ (show (0 : Int) ≤ y52 by omega) (show y52 ≤ (10 : Int) by omega)
                            have f1_u53 : u53 9 (k5) = y52 := by rw [eu53, mf_sF_s, mf_up_s]
                            have f2_u53 : ∀ y, y ≠ (k5) → u53 9 y = u5 9 y := fun y hy => by rw [eu53, mf_sF_s, mf_up_n hy]
                            have f3_u53 : ∀ q, q ≠ 9 → u53 q = u5 q := fun q hq => by rw [eu53, mf_sF_n hq]
                            refine lv_iinc (v := iI (k5 + 1)) (lv' := [(4, .int (iI (k5 + 1))), (0, .ref hm), (2, .int (iI (bv)))]) hx hb dX3_yearOn_225 hl (k := 2) rfl (iI_add _ _).symm (by decide) rfl (fun ls hl => ?_)
                            refine lv_goto (tgt := 197) hx hb dX3_yearOn_228 (by decide) ?_
                            exact ih197 (k5 + 1) u53 (by omega) (by first | assumption | omega) (by first | assumption | omega) (by intro k hk; rw [f3_u53 k hk]; exact hfr5 k hk) (by intro z h0 h1; rcases (show z < k5 ∨ z = k5 by omega) with y | y; (rw [f2_u53 z (by omega)]; exact hlo z h0 y); (rw [y, f1_u53]; exact ey52)) (by intro z hz; rw [f2_u53 z (by omega)]; exact hge z (by omega)) _ _ hP hD hS ls (lv_sub hl [1, 2, 0] rfl)
                      exact lp197 (_ + 1) 0 u4 (Nat.lt_succ_self _) (by first | assumption | omega) (by first | assumption | omega) (by intro k _; rfl) (by intro z h0 h1; omega) (by intro z _; rfl) _ _ hP hD hS ls (lv_sub hl [1, 2, 0] rfl)
                    exact lp194 u45 (by first | assumption | omega) (by exact w46.2.1) (by exact frU_t hfr3 w46.2.2) _ _ hP hD hS ls (lv_sub hl [0, 2] rfl)
                exact lp184 u33 (by first | assumption | omega) (by exact w34.2.1) (by exact frU_t hfrk w34.2.2) (by exact Or.inr ⟨by assumption, hz.2.2⟩) (by rw [hz.2.1.2.2.2.2.2.2.2, h1f 9 (by decide)]) _ _ hP hD hS ls (lv_sub hl [0, 1, 2] rfl)
            · skip
              refine lv_aload_n hx hb dX3_yearOn_87 rfl (lv_at hl 0 rfl) ?_
              refine lv_iload hx hb dX3_yearOn_88 (lv_at hl 4 rfl) ?_
              refine vp_callSi (va_Run.run (va_runV (As := [.int (iI (k2))]) (rest := []) ⟨hx, hb, hml, hown, hts⟩ (c_X3_bank l G hm adm u1 (k2) (rk) (i32_mk (by omega) (by omega)) (by assumption) (by exact okk) (by exact hIk) (by exact hrelk) (by first | assumption | omega)) (cwV 1 hts gX3_yearOn_X3_bank rfl rfl rfl (by decide +kernel) ⟨Nat.le_of_ble_eq_true rfl, Nat.le_of_ble_eq_true rfl⟩) (rdV (wc := MW G hm adm u1) hK hP hN [0, 1, 2, 3, 4, 5, 6, 7, 8, 9] rfl (ci := 3) rfl rfl) rfl rfl hl.1 rfl (lv_room (Nat.le_of_ble_eq_true rfl)) dX3_yearOn_90 ⟨(Nat.zero_le _), (Nat.zero_le _)⟩)) (fun q54 hq54 => ?_)
              subst hq54
              have b55 : (-1 : Int) ≤ ((rk) 13 k2) ∧ ((rk) 13 k2) ≤ 383 := (show rOK rlo rhi (rk) by assumption) 13 k2
              refine lv_istore (lv' := [(5, .int (iI ((rk) 13 k2))), (0, .ref hm), (1, .int (iI (r 5 (r 8 0 % 12)))), (2, .int (iI (bv))), (3, .int (iI (mv))), (4, .int (iI (k2)))]) hx hb dX3_yearOn_93 hl (by decide) rfl (fun ls hl => ?_)
              refine lv_iload hx hb dX3_yearOn_95 (lv_at hl 0 rfl) ?_
              refine mf_iconst hx hb dX3_yearOn_97 ?_
              refine mf_icmp_eq (tgt := 163) hx hb dX3_yearOn_98 (by decide) (i32_mk (by omega) (by omega)) (i32_mk (by decide) (by decide)) (fun c56 => ?_) (fun c56 => ?_)
              · skip
                refine lv_iinc (v := iI (k2 + 1)) (lv' := [(4, .int (iI (k2 + 1))), (5, .int (iI ((rk) 13 k2))), (0, .ref hm), (1, .int (iI (r 5 (r 8 0 % 12)))), (2, .int (iI (bv))), (3, .int (iI (mv)))]) hx hb dX3_yearOn_163 hl (k := 5) rfl (iI_add _ _).symm (by decide) rfl (fun ls hl => ?_)
                refine lv_goto (tgt := 78) hx hb dX3_yearOn_166 (by decide) ?_
                exact ih78 bv mv (k2 + 1) (by omega) (by first | assumption | omega) (by first | assumption | omega) (by first | assumption | omega) (by rcases hcb with y | y; (exact Or.inl y); (exact Or.inr ⟨y.1, by omega, y.2.2⟩)) (by rw [ripG_f rk hk2.1 (fun z => by rw [← hmx] at z; obtain ⟨z1, z2, z3, z4⟩ := z; first | omega | contradiction)]; exact hbx) (by rw [ripG_f rk hk2.1 (fun z => by rw [← hmx] at z; obtain ⟨z1, z2, z3, z4⟩ := z; first | omega | contradiction)]; exact hmx) _ _ hP hD hS ls (lv_sub hl [2, 3, 4, 5, 0] rfl)
              · skip
                refine lv_aload_n hx hb dX3_yearOn_101 rfl (lv_at hl 1 rfl) ?_
                refine va_get (D := G.1) (ci := 3) (v := .ref (adm 8)) (C := RX3) (T := TX3) (N := 11) hx hb hts hinX3 hown hK hP 0 rfl rfl 8 (by decide) (hts (.fieldLink RX3 29 "MeanderFarmModel" "wear" "[I") (List.mem_of_getElem? (i := 5) rfl)) (fun _ h9 => h9) rfl dX3_yearOn_102 ?_
                refine lv_iload hx hb dX3_yearOn_105 (lv_at hl 0 rfl) ?_
                refine mf_iald (n := 384) (f := u1 8) hx hb hK hP 7 0 rfl rfl (z := (rk) 13 k2) (by omega) (by omega) (by decide) dX3_yearOn_107 ?_
                refine mf_top (u1 8 ((rk) 13 k2)) (rk 1 ((rk) 13 k2)) (by rw [(rel8 hrelk (z := (rk) 13 k2) (by omega) (by omega))]) ?_
                have b57 : (0 : Int) ≤ rk 1 ((rk) 13 k2) ∧ rk 1 ((rk) 13 k2) ≤ 200000000 := okk 1 ((rk) 13 k2)
                refine mf_bipush hx hb dX3_yearOn_108 rfl ?_
                refine lv_aload_n hx hb dX3_yearOn_110 rfl (lv_at hl 1 rfl) ?_
                refine va_get (D := G.1) (ci := 3) (v := .ref (adm 1)) (C := RX3) (T := TX3) (N := 11) hx hb hts hinX3 hown hK hP 0 rfl rfl 1 (by decide) (hts (.fieldLink RX3 9 "MeanderFarmModel" "hardness" "[I") (List.mem_of_getElem? (i := 6) rfl)) (fun _ h9 => h9) rfl dX3_yearOn_111 ?_
                refine lv_iload hx hb dX3_yearOn_114 (lv_at hl 0 rfl) ?_
                refine mf_iald (n := 384) (f := u1 1) hx hb hK hP 1 0 rfl rfl (z := (rk) 13 k2) (by omega) (by omega) (by decide) dX3_yearOn_116 ?_
                refine mf_top (u1 1 ((rk) 13 k2)) (rk 0 ((rk) 13 k2)) (by rw [(rel1 hrelk (z := (rk) 13 k2) (by omega) (by omega))]) ?_
                have b58 : (0 : Int) ≤ rk 0 ((rk) 13 k2) ∧ rk 0 ((rk) 13 k2) ≤ 9 := okk 0 ((rk) 13 k2)
                refine mf_imul hx hb dX3_yearOn_117 ?_
                refine mf_isub hx hb dX3_yearOn_118 ?_
                refine lv_iload_n hx hb dX3_yearOn_119 rfl (lv_at hl 4 rfl) ?_
                refine mf_icmp_le (tgt := 163) hx hb dX3_yearOn_120 (by decide) (i32_mk (by omega) (by omega)) (i32_mk (by omega) (by omega)) (fun c59 => ?_) (fun c59 => ?_)
                · skip
                  refine lv_iinc (v := iI (k2 + 1)) (lv' := [(4, .int (iI (k2 + 1))), (5, .int (iI ((rk) 13 k2))), (0, .ref hm), (1, .int (iI (r 5 (r 8 0 % 12)))), (2, .int (iI (bv))), (3, .int (iI (mv)))]) hx hb dX3_yearOn_163 hl (k := 5) rfl (iI_add _ _).symm (by decide) rfl (fun ls hl => ?_)
                  refine lv_goto (tgt := 78) hx hb dX3_yearOn_166 (by decide) ?_
                  exact ih78 bv mv (k2 + 1) (by omega) (by first | assumption | omega) (by first | assumption | omega) (by first | assumption | omega) (by rcases hcb with y | y; (exact Or.inl y); (exact Or.inr ⟨y.1, by omega, y.2.2⟩)) (by rw [ripG_f rk hk2.1 (fun z => by rw [← hmx] at z; obtain ⟨z1, z2, z3, z4⟩ := z; first | omega | contradiction)]; exact hbx) (by rw [ripG_f rk hk2.1 (fun z => by rw [← hmx] at z; obtain ⟨z1, z2, z3, z4⟩ := z; first | omega | contradiction)]; exact hmx) _ _ hP hD hS ls (lv_sub hl [2, 3, 4, 5, 0] rfl)
                · skip
                  have bs9 := bank_side hIk (i := k2) (by omega) (by omega) (by assumption)
                  refine lv_aload_n hx hb dX3_yearOn_123 rfl (lv_at hl 1 rfl) ?_
                  refine lv_iload hx hb dX3_yearOn_124 (lv_at hl 5 rfl) ?_
                  refine lv_aload_n hx hb dX3_yearOn_126 rfl (lv_at hl 1 rfl) ?_
                  refine lv_iload hx hb dX3_yearOn_127 (lv_at hl 5 rfl) ?_
                  refine vp_callSi (va_Run.run (va_runV (As := [.int (iI (k2))]) (rest := [.int (iI (k2)), .ref hm]) ⟨hx, hb, hml, hown, hts⟩ (c_X3_side l G hm adm u1 (k2) (rk) (i32_mk (by omega) (by omega)) (by assumption) (by exact okk) (by exact hIk) (by exact hrelk) (by first | assumption | omega)) (cwV 1 hts gX3_yearOn_X3_side rfl rfl rfl (by decide +kernel) ⟨Nat.le_of_ble_eq_true rfl, Nat.le_of_ble_eq_true rfl⟩) (rdV (wc := MW G hm adm u1) hK hP hN [0, 1, 2, 3, 4, 5, 6, 7, 8, 9] rfl (ci := 3) rfl rfl) rfl rfl hl.1 rfl (lv_room (Nat.le_of_ble_eq_true rfl)) dX3_yearOn_129 ⟨(Nat.zero_le _), (Nat.zero_le _)⟩)) (fun q60 hq60 => ?_)
                  subst hq60
                  have b61 : (-1 : Int) ≤ ((rk) 12 k2) ∧ ((rk) 12 k2) ≤ 3 := (show rOK rlo rhi (rk) by assumption) 12 k2
                  refine vp_callSi (va_Run.run (va_runV (As := [.int (iI (k2)), .int (iI ((rk) 12 k2))]) (rest := []) ⟨hx, hb, hml, hown, hts⟩ (c_X3_canBulge l G hm adm u1 (k2) ((rk) 12 k2) (rk) (i32_mk (by omega) (by omega)) (i32_mk (by omega) (by omega)) (by assumption) (by exact okk) (by exact hIk) (by exact hrelk) (by omega)) (cwV 2 hts gX3_yearOn_X3_canBulge rfl rfl rfl (by decide +kernel) ⟨Nat.le_of_ble_eq_true rfl, Nat.le_of_ble_eq_true rfl⟩) (rdV (wc := MW G hm adm u1) hK hP hN [0, 1, 2, 3, 4, 5, 6, 7, 8, 9] rfl (ci := 3) rfl rfl) rfl rfl hl.1 rfl (lv_room (Nat.le_of_ble_eq_true rfl)) dX3_yearOn_132 ⟨(Nat.zero_le _), (Nat.zero_le _)⟩)) (fun q62 hq62 => ?_)
                  subst hq62
                  refine mf_bp_ne (tgt := 141) hx hb dX3_yearOn_135 (by decide) (fun c63 => ?_) (fun c63 => ?_)
                  · skip
                    refine lv_iload hx hb dX3_yearOn_141 (lv_at hl 5 rfl) ?_
                    refine lv_istore_n (lv' := [(2, .int (iI (k2))), (5, .int (iI ((rk) 13 k2))), (0, .ref hm), (1, .int (iI (r 5 (r 8 0 % 12)))), (3, .int (iI (mv))), (4, .int (iI (k2)))]) hx hb dX3_yearOn_143 rfl hl (by decide) rfl (fun ls hl => ?_)
                    refine lv_aload_n hx hb dX3_yearOn_144 rfl (lv_at hl 2 rfl) ?_
                    refine va_get (D := G.1) (ci := 3) (v := .ref (adm 8)) (C := RX3) (T := TX3) (N := 11) hx hb hts hinX3 hown hK hP 0 rfl rfl 8 (by decide) (hts (.fieldLink RX3 29 "MeanderFarmModel" "wear" "[I") (List.mem_of_getElem? (i := 5) rfl)) (fun _ h9 => h9) rfl dX3_yearOn_145 ?_
                    refine lv_iload hx hb dX3_yearOn_148 (lv_at hl 1 rfl) ?_
                    refine mf_iald (n := 384) (f := u1 8) hx hb hK hP 7 0 rfl rfl (z := (rk) 13 k2) (by omega) (by omega) (by decide) dX3_yearOn_150 ?_
                    refine mf_top (u1 8 ((rk) 13 k2)) (rk 1 ((rk) 13 k2)) (by rw [(rel8 hrelk (z := (rk) 13 k2) (by omega) (by omega))]) ?_
                    have b64 : (0 : Int) ≤ rk 1 ((rk) 13 k2) ∧ rk 1 ((rk) 13 k2) ≤ 200000000 := okk 1 ((rk) 13 k2)
                    refine mf_bipush hx hb dX3_yearOn_151 rfl ?_
                    refine lv_aload_n hx hb dX3_yearOn_153 rfl (lv_at hl 2 rfl) ?_
                    refine va_get (D := G.1) (ci := 3) (v := .ref (adm 1)) (C := RX3) (T := TX3) (N := 11) hx hb hts hinX3 hown hK hP 0 rfl rfl 1 (by decide) (hts (.fieldLink RX3 9 "MeanderFarmModel" "hardness" "[I") (List.mem_of_getElem? (i := 6) rfl)) (fun _ h9 => h9) rfl dX3_yearOn_154 ?_
                    refine lv_iload hx hb dX3_yearOn_157 (lv_at hl 1 rfl) ?_
                    refine mf_iald (n := 384) (f := u1 1) hx hb hK hP 1 0 rfl rfl (z := (rk) 13 k2) (by omega) (by omega) (by decide) dX3_yearOn_159 ?_
                    refine mf_top (u1 1 ((rk) 13 k2)) (rk 0 ((rk) 13 k2)) (by rw [(rel1 hrelk (z := (rk) 13 k2) (by omega) (by omega))]) ?_
                    have b65 : (0 : Int) ≤ rk 0 ((rk) 13 k2) ∧ rk 0 ((rk) 13 k2) ≤ 9 := okk 0 ((rk) 13 k2)
                    refine mf_imul hx hb dX3_yearOn_160 ?_
                    refine mf_isub hx hb dX3_yearOn_161 ?_
                    refine lv_istore_n (lv' := [(3, .int (iI ((rk 1 ((rk) 13 k2)) - (10 * (rk 0 ((rk) 13 k2)))))), (2, .int (iI (k2))), (5, .int (iI ((rk) 13 k2))), (0, .ref hm), (1, .int (iI (r 5 (r 8 0 % 12)))), (4, .int (iI (k2)))]) hx hb dX3_yearOn_162 rfl hl (by decide) rfl (fun ls hl => ?_)
                    refine lv_iinc (v := iI (k2 + 1)) (lv' := [(4, .int (iI (k2 + 1))), (3, .int (iI ((rk 1 ((rk) 13 k2)) - (10 * (rk 0 ((rk) 13 k2)))))), (2, .int (iI (k2))), (5, .int (iI ((rk) 13 k2))), (0, .ref hm), (1, .int (iI (r 5 (r 8 0 % 12))))]) hx hb dX3_yearOn_163 hl (k := 5) rfl (iI_add _ _).symm (by decide) rfl (fun ls hl => ?_)
                    refine lv_goto (tgt := 78) hx hb dX3_yearOn_166 (by decide) ?_
                    exact ih78 k2 ((rk 1 ((rk) 13 k2)) - (10 * (rk 0 ((rk) 13 k2)))) (k2 + 1) (by omega) (by first | assumption | omega) (by first | assumption | omega) (by first | assumption | omega) (by exact Or.inr ⟨by omega, by omega, by assumption, bs9⟩) (by rw [ripG_t rk hk2.1 (by rw [← hmx]; exact ⟨⟨by omega, by omega⟩, by omega, by omega, by assumption⟩)]) (by rw [ripG_t rk hk2.1 (by rw [← hmx]; exact ⟨⟨by omega, by omega⟩, by omega, by omega, by assumption⟩)]) _ _ hP hD hS ls (lv_sub hl [4, 5, 2, 1, 0] rfl)
                  · skip
                    refine lv_goto (tgt := 163) hx hb dX3_yearOn_138 (by decide) ?_
                    refine lv_iinc (v := iI (k2 + 1)) (lv' := [(4, .int (iI (k2 + 1))), (5, .int (iI ((rk) 13 k2))), (0, .ref hm), (1, .int (iI (r 5 (r 8 0 % 12)))), (2, .int (iI (bv))), (3, .int (iI (mv)))]) hx hb dX3_yearOn_163 hl (k := 5) rfl (iI_add _ _).symm (by decide) rfl (fun ls hl => ?_)
                    refine lv_goto (tgt := 78) hx hb dX3_yearOn_166 (by decide) ?_
                    exact ih78 bv mv (k2 + 1) (by omega) (by first | assumption | omega) (by first | assumption | omega) (by first | assumption | omega) (by rcases hcb with y | y; (exact Or.inl y); (exact Or.inr ⟨y.1, by omega, y.2.2⟩)) (by rw [ripG_f rk hk2.1 (fun z => by rw [← hmx] at z; obtain ⟨z1, z2, z3, z4⟩ := z; first | omega | contradiction)]; exact hbx) (by rw [ripG_f rk hk2.1 (fun z => by rw [← hmx] at z; obtain ⟨z1, z2, z3, z4⟩ := z; first | omega | contradiction)]; exact hmx) _ _ hP hD hS ls (lv_sub hl [2, 3, 4, 5, 0] rfl)
        exact lp78 (_ + 1) (-1) (-1) 0 (Nat.lt_succ_self _) (by first | assumption | omega) (by first | assumption | omega) (by first | assumption | omega) (by exact Or.inl rfl) (by rfl) (by rfl) _ _ hP hD hS ls (lv_sub hl [3, 4, 2, 1, 0] rfl)
      · skip
        refine lv_aload_n hx hb dX3_yearOn_25 rfl (lv_at hl 0 rfl) ?_
        refine lv_iload_n hx hb dX3_yearOn_26 rfl (lv_at hl 2 rfl) ?_
        refine vp_callSi (va_Run.run (va_runV (As := [.int (iI (kv))]) (rest := []) ⟨hx, hb, hml, hown, hts⟩ (c_X3_bank l G hm adm u1 (kv) (rk) (i32_mk (by omega) (by omega)) (by assumption) (by exact okk) (by exact hIk) (by exact hrelk) (by first | assumption | omega)) (cwV 1 hts gX3_yearOn_X3_bank rfl rfl rfl (by decide +kernel) ⟨Nat.le_of_ble_eq_true rfl, Nat.le_of_ble_eq_true rfl⟩) (rdV (wc := MW G hm adm u1) hK hP hN [0, 1, 2, 3, 4, 5, 6, 7, 8, 9] rfl (ci := 3) rfl rfl) rfl rfl hl.1 rfl (lv_room (Nat.le_of_ble_eq_true rfl)) dX3_yearOn_27 ⟨(Nat.zero_le _), (Nat.zero_le _)⟩)) (fun q66 hq66 => ?_)
        subst hq66
        have b67 : (-1 : Int) ≤ ((rk) 13 kv) ∧ ((rk) 13 kv) ≤ 383 := (show rOK rlo rhi (rk) by assumption) 13 kv
        refine lv_istore_n (lv' := [(3, .int (iI ((rk) 13 kv))), (0, .ref hm), (1, .int (iI (r 5 (r 8 0 % 12)))), (2, .int (iI (kv)))]) hx hb dX3_yearOn_30 rfl hl (by decide) rfl (fun ls hl => ?_)
        refine lv_iload_n hx hb dX3_yearOn_31 rfl (lv_at hl 0 rfl) ?_
        refine mf_iconst hx hb dX3_yearOn_32 ?_
        refine mf_icmp_eq (tgt := 65) hx hb dX3_yearOn_33 (by decide) (i32_mk (by omega) (by omega)) (i32_mk (by decide) (by decide)) (fun c68 => ?_) (fun c68 => ?_)
        · skip
          refine lv_iinc (v := iI (kv + 1)) (lv' := [(2, .int (iI (kv + 1))), (3, .int (iI ((rk) 13 kv))), (0, .ref hm), (1, .int (iI (r 5 (r 8 0 % 12))))]) hx hb dX3_yearOn_65 hl (k := 3) rfl (iI_add _ _).symm (by decide) rfl (fun ls hl => ?_)
          refine lv_goto (tgt := 17) hx hb dX3_yearOn_68 (by decide) ?_
          exact ih17 (kv + 1) u1 (rk) (by omega) (by first | assumption | omega) (by first | assumption | omega) (by exact hfr) (by exact hrk) (by rw [hrk1, wearG_f r _ hk.1 (fun z => by rw [← hrk 13 (by decide)] at z; have z2 := (openP_cg (r := r) (q := rk) (hrk 10 (by decide)) (hrk 2 (by decide))).mpr z; unfold openP at z2; omega)]) (by exact okk) (by exact hIk) (by exact hrelk) (by intro cv; have := hwk cv; omega) _ _ hP hD hS ls (lv_sub hl [2, 3, 0] rfl)
        · skip
          refine lv_aload_n hx hb dX3_yearOn_36 rfl (lv_at hl 1 rfl) ?_
          refine va_get (D := G.1) (ci := 3) (v := .ref (adm 7)) (C := RX3) (T := TX3) (N := 11) hx hb hts hinX3 hown hK hP 0 rfl rfl 7 (by decide) (hts (.fieldLink RX3 26 "MeanderFarmModel" "where" "[I") (List.mem_of_getElem? (i := 3) rfl)) (fun _ h9 => h9) rfl dX3_yearOn_37 ?_
          refine lv_iload_n hx hb dX3_yearOn_40 rfl (lv_at hl 0 rfl) ?_
          refine mf_iald (n := 384) (f := u1 7) hx hb hK hP 6 0 rfl rfl (z := (rk) 13 kv) (by omega) (by omega) (by decide) dX3_yearOn_41 ?_
          refine mf_top (u1 7 ((rk) 13 kv)) (rk 10 ((rk) 13 kv)) (by rw [(rel7 hrelk (z := (rk) 13 kv) (by omega) (by omega))]) ?_
          have b69 : (-1 : Int) ≤ rk 10 ((rk) 13 kv) ∧ rk 10 ((rk) 13 kv) ≤ 149 := okk 10 ((rk) 13 kv)
          refine mf_iconst hx hb dX3_yearOn_42 ?_
          refine mf_icmp_ne (tgt := 65) hx hb dX3_yearOn_43 (by decide) (i32_mk (by omega) (by omega)) (i32_mk (by decide) (by decide)) (fun c70 => ?_) (fun c70 => ?_)
          · skip
            refine lv_iinc (v := iI (kv + 1)) (lv' := [(2, .int (iI (kv + 1))), (3, .int (iI ((rk) 13 kv))), (0, .ref hm), (1, .int (iI (r 5 (r 8 0 % 12))))]) hx hb dX3_yearOn_65 hl (k := 3) rfl (iI_add _ _).symm (by decide) rfl (fun ls hl => ?_)
            refine lv_goto (tgt := 17) hx hb dX3_yearOn_68 (by decide) ?_
            exact ih17 (kv + 1) u1 (rk) (by omega) (by first | assumption | omega) (by first | assumption | omega) (by exact hfr) (by exact hrk) (by rw [hrk1, wearG_f r _ hk.1 (fun z => by rw [← hrk 13 (by decide)] at z; have z2 := (openP_cg (r := r) (q := rk) (hrk 10 (by decide)) (hrk 2 (by decide))).mpr z; unfold openP at z2; omega)]) (by exact okk) (by exact hIk) (by exact hrelk) (by intro cv; have := hwk cv; omega) _ _ hP hD hS ls (lv_sub hl [2, 3, 0] rfl)
          · skip
            refine lv_aload_n hx hb dX3_yearOn_46 rfl (lv_at hl 1 rfl) ?_
            refine va_get (D := G.1) (ci := 3) (v := .ref (adm 2)) (C := RX3) (T := TX3) (N := 11) hx hb hts hinX3 hown hK hP 0 rfl rfl 2 (by decide) (hts (.fieldLink RX3 13 "MeanderFarmModel" "stones" "[Z") (List.mem_of_getElem? (i := 4) rfl)) (fun _ h9 => h9) rfl dX3_yearOn_47 ?_
            refine lv_iload_n hx hb dX3_yearOn_50 rfl (lv_at hl 0 rfl) ?_
            refine mf_zald (n := 384) (f := u1 2) hx hb hK hP 2 1 rfl rfl (z := (rk) 13 kv) (by omega) (by omega) (by decide) dX3_yearOn_51 ?_
            refine mf_top (u1 2 ((rk) 13 kv)) (rk 2 ((rk) 13 kv)) (by rw [(rel2 hrelk (z := (rk) 13 kv) (by omega) (by omega))]) ?_
            have b71 : (0 : Int) ≤ rk 2 ((rk) 13 kv) ∧ rk 2 ((rk) 13 kv) ≤ 1 := okk 2 ((rk) 13 kv)
            refine mf_if_ne (tgt := 65) hx hb dX3_yearOn_52 (by decide) (i32_mk (by omega) (by omega)) (fun c72 => ?_) (fun c72 => ?_)
            · skip
              refine lv_iinc (v := iI (kv + 1)) (lv' := [(2, .int (iI (kv + 1))), (3, .int (iI ((rk) 13 kv))), (0, .ref hm), (1, .int (iI (r 5 (r 8 0 % 12))))]) hx hb dX3_yearOn_65 hl (k := 3) rfl (iI_add _ _).symm (by decide) rfl (fun ls hl => ?_)
              refine lv_goto (tgt := 17) hx hb dX3_yearOn_68 (by decide) ?_
              exact ih17 (kv + 1) u1 (rk) (by omega) (by first | assumption | omega) (by first | assumption | omega) (by exact hfr) (by exact hrk) (by rw [hrk1, wearG_f r _ hk.1 (fun z => by rw [← hrk 13 (by decide)] at z; have z2 := (openP_cg (r := r) (q := rk) (hrk 10 (by decide)) (hrk 2 (by decide))).mpr z; unfold openP at z2; omega)]) (by exact okk) (by exact hIk) (by exact hrelk) (by intro cv; have := hwk cv; omega) _ _ hP hD hS ls (lv_sub hl [2, 3, 0] rfl)
            · skip
              have b8 := hwk (rk 13 kv)
              have b9 := hwb (rk 13 kv)
              refine lv_aload_n hx hb dX3_yearOn_55 rfl (lv_at hl 1 rfl) ?_
              refine va_get (D := G.1) (ci := 3) (v := .ref (adm 8)) (C := RX3) (T := TX3) (N := 11) hx hb hts hinX3 hown hK hP 0 rfl rfl 8 (by decide) (hts (.fieldLink RX3 29 "MeanderFarmModel" "wear" "[I") (List.mem_of_getElem? (i := 5) rfl)) (fun _ h9 => h9) rfl dX3_yearOn_56 ?_
              refine lv_iload_n hx hb dX3_yearOn_59 rfl (lv_at hl 0 rfl) ?_
              refine lv_dup2_11 hx hb dX3_yearOn_60 rfl rfl ?_
              refine mf_iald (n := 384) (f := u1 8) hx hb hK hP 7 0 rfl rfl (z := (rk) 13 kv) (by omega) (by omega) (by decide) dX3_yearOn_61 ?_
              refine mf_top (u1 8 ((rk) 13 kv)) (rk 1 ((rk) 13 kv)) (by rw [(rel8 hrelk (z := (rk) 13 kv) (by omega) (by omega))]) ?_
              have b73 : (0 : Int) ≤ rk 1 ((rk) 13 kv) ∧ rk 1 ((rk) 13 kv) ≤ 200000000 := okk 1 ((rk) 13 kv)
              refine lv_iload_n hx hb dX3_yearOn_62 rfl (lv_at hl 2 rfl) ?_
              refine mf_iadd hx hb dX3_yearOn_63 ?_
              refine mf_iast (n := 384) (f := u1 8) hx hb hK hP hD hS 7 0 rfl rfl (z := (rk) 13 kv) (x := (rk 1 ((rk) 13 kv)) + (r 5 (r 8 0 % 12))) (by omega) (by omega) (by decide) dX3_yearOn_64 (fun H locs hP hD hS => ?_)
              obtain ⟨u74, eu74⟩ : ∃ z9 : mf_V, z9 = mf_sF u1 8 (mf_up (u1 8) ((rk) 13 kv) ((rk 1 ((rk) 13 kv)) + (r 5 (r 8 0 % 12)))) := ⟨_, rfl⟩
              have hP : va_P G.1 vwCl (MW G hm adm u74) H := by rw [eu74]; exact hP
              have hD : va_D A (MW G hm adm u74) := by rw [eu74]; exact hD
              have oku74 : rOK ulo uhi u74 := by rw [eu74]; exact rOK_up oku1 8 _ _ (show (0 : Int) ≤ (rk 1 ((rk) 13 kv)) + (r 5 (r 8 0 % 12)) by omega) (show (rk 1 ((rk) 13 kv)) + (r 5 (r 8 0 % 12)) ≤ (200000000 : Int) by omega)
              have f1_u74 : u74 8 ((rk) 13 kv) = (rk 1 ((rk) 13 kv)) + (r 5 (r 8 0 % 12)) := by rw [eu74, mf_sF_s, mf_up_s]
              have f2_u74 : ∀ y, y ≠ ((rk) 13 kv) → u74 8 y = u1 8 y := fun y hy => by rw [eu74, mf_sF_s, mf_up_n hy]
              have f3_u74 : ∀ q, q ≠ 8 → u74 q = u1 q := fun q hq => by rw [eu74, mf_sF_n hq]
              refine lv_iinc (v := iI (kv + 1)) (lv' := [(2, .int (iI (kv + 1))), (3, .int (iI ((rk) 13 kv))), (0, .ref hm), (1, .int (iI (r 5 (r 8 0 % 12))))]) hx hb dX3_yearOn_65 hl (k := 3) rfl (iI_add _ _).symm (by decide) rfl (fun ls hl => ?_)
              refine lv_goto (tgt := 17) hx hb dX3_yearOn_68 (by decide) ?_
              exact ih17 (kv + 1) u74 ((mf_sF rk 1 (mf_up (rk 1) (rk 13 kv) (rk 1 (rk 13 kv) + r 5 (r 8 0 % 12))))) (by omega) (by first | assumption | omega) (by first | assumption | omega) (by intro k hk; rw [f3_u74 k hk]; exact hfr k hk) (by intro k hk; rw [mf_sF_n hk]; exact hrk k hk) (by rw [mf_sF_s, hrk1, wearG_t r _ hk.1 (by rw [← hrk 13 (by decide)]; exact (openP_cg (r := r) (q := rk) (hrk 10 (by decide)) (hrk 2 (by decide))).mp ⟨by omega, by omega, by omega, by omega⟩), hrk 13 (by decide)]) (by have b8 := hwk (rk 13 kv); have b9 := hwb (rk 13 kv); exact rOK_up okk 1 _ _ (show (0 : Int) ≤ _ by omega) (show _ ≤ (200000000 : Int) by omega)) (by exact RInv_cg (mf_sF_n (by decide)) (mf_sF_n (by decide)) (mf_sF_n (by decide)) (mf_sF_n (by decide)) (mf_sF_n (by decide)) (mf_sF_n (by decide)) hIk) (by exact wearRel hrelk f1_u74 f2_u74 f3_u74) (by intro cv; rw [mf_sF_s]; by_cases z : cv = rk 13 kv; (rw [z, mf_up_s]; have := hwk (rk 13 kv); omega); (rw [mf_up_n z]; have := hwk cv; omega)) _ _ hP hD hS ls (lv_sub hl [2, 3, 0] rfl)
  exact lp17 (_ + 1) 0 u (r) (Nat.lt_succ_self _) (by first | assumption | omega) (by first | assumption | omega) (by intro k _; rfl) (by intro k _; rfl) (by rfl) (by exact ok) (by exact hI) (by exact hrel) (by intro c; omega) _ _ hP hD hS ls (lv_sub hl [2, 1, 0] rfl)
