/-! 17.break: a break through a neck -/
def brkC (r : mf_V) (i j k : Int) : Int := if k ≤ i then r 6 k else r 6 (k + (j - i - 1))
theorem brkC_lo {r : mf_V} {i j k : Int} (h : k ≤ i) : brkC r i j k = r 6 k := by unfold brkC; rw [if_pos h]
theorem brkC_hi {r : mf_V} {i j k : Int} (h : i < k) : brkC r i j k = r 6 (k + (j - i - 1)) := by unfold brkC; rw [if_neg (by omega)]
/-- what a break through a neck does -/
def Brk (r : mf_V) (i j : Int) (r' : mf_V) : Prop := r' 7 0 = r 7 0 - (j - i - 1) ∧ (∀ k, 0 ≤ k → k < r 7 0 - (j - i - 1) → r' 6 k = brkC r i j k) ∧ (∀ c, 0 ≤ c → c < 384 → (i < r 10 c ∧ r 10 c < j → r' 3 c = r 8 0 + 10) ∧ (¬ (i < r 10 c ∧ r 10 c < j) → r' 3 c = r 3 c)) ∧ r' 9 0 = r 9 0 + 1 ∧ r' 0 = r 0 ∧ r' 1 = r 1 ∧ r' 2 = r 2 ∧ r' 4 = r 4 ∧ r' 5 = r 5 ∧ r' 8 = r 8
theorem neckP_w {r : mf_V} {i j : Int} (h : neckP r i j) : 0 ≤ i ∧ j < r 7 0 ∧ i + 3 ≤ j ∧ ¬ dirTo (r 6 i) (r 6 j) = -1 := by
  obtain ⟨⟨a, b⟩, ⟨c, d⟩, e, f⟩ := h
  exact ⟨a, d, by omega, f⟩
theorem brkCrs {r : mf_V} {i j : Int} (hI : RInv r) (hn : neckP r i j) {q : mf_V} (h7 : q 7 0 = r 7 0 - (j - i - 1)) (h6 : ∀ k, 0 ≤ k → k < r 7 0 - (j - i - 1) → q 6 k = brkC r i j k) : crsOK q := by
  obtain ⟨i0, j1, ij, hd⟩ := neckP_w hn
  obtain ⟨⟨hc1, hc2, hc3⟩, -⟩ := hI
  refine ⟨by omega, fun k a b => ?_, fun k m a b a' b' e => ?_⟩
  · rw [h6 k a (by omega), h6 (k + 1) (by omega) (by omega)]
    rcases (show k < i ∨ k = i ∨ i < k by omega) with z | z | z
    · rw [brkC_lo (by omega), brkC_lo (by omega)]; exact hc2 k a (by omega)
    · rw [brkC_lo (by omega), brkC_hi (by omega), show k + 1 + (j - i - 1) = j by omega, z]; exact hd
    · rw [brkC_hi z, brkC_hi (by omega), show k + 1 + (j - i - 1) = (k + (j - i - 1)) + 1 by omega]; exact hc2 _ (by omega) (by omega)
  · rw [h6 k a (by omega), h6 m a' (by omega)] at e
    rcases (show k ≤ i ∨ i < k by omega) with z | z <;> rcases (show m ≤ i ∨ i < m by omega) with y | y
    · rw [brkC_lo z, brkC_lo y] at e; exact hc3 k m a (by omega) a' (by omega) e
    · rw [brkC_lo z, brkC_hi y] at e; have := hc3 k _ a (by omega) (by omega) (by omega) e; omega
    · rw [brkC_hi z, brkC_lo y] at e; have := hc3 _ m (by omega) (by omega) a' (by omega) e; omega
    · rw [brkC_hi z, brkC_hi y] at e; have := hc3 _ _ (by omega) (by omega) (by omega) (by omega) e; omega
theorem brkPre {r : mf_V} {i j : Int} (hI : RInv r) (hn : neckP r i j) {q r1 : mf_V} (h7 : q 7 0 = r 7 0 - (j - i - 1)) (h6 : ∀ k, 0 ≤ k → k < r 7 0 - (j - i - 1) → q 6 k = brkC r i j k) (h10 : q 10 = r1 10) (h11 : q 11 = r 11) (hpl : ∀ c, (∃ k, i < k ∧ k < j ∧ r 6 k = c) → r1 10 c = -1 ∧ r1 3 c = r 8 0 + 10) (hpn : ∀ c, (∀ k, i < k → k < j → ¬ r 6 k = c) → r1 10 c = r 10 c ∧ r1 3 c = r 3 c) :
    (∀ k, 0 ≤ k → k < i + 1 → q 10 (q 6 k) = k) ∧ (∀ c, 0 ≤ c → c < 384 → q 10 c = -1 ∨ ∃ k, 0 ≤ k ∧ k < q 7 0 ∧ q 6 k = c) ∧ (∀ k, 0 ≤ k → k < i + 1 - 1 → q 11 k = dirTo (q 6 k) (q 6 (k + 1))) := by
  obtain ⟨i0, j1, ij, hd⟩ := neckP_w hn
  obtain ⟨⟨hc1, hc2, hc3⟩, hdd, hp, -⟩ := hI
  refine ⟨fun k a b => ?_, fun cv a b => ?_, fun k a b => ?_⟩
  · rw [h6 k a (by omega), brkC_lo (by omega), h10, (hpn _ (fun m x y z => by have := hc3 m k (by omega) (by omega) a (by omega) z; omega)).1]
    exact hp.1 k a (by omega)
  · rw [h10]
    by_cases z : ∃ k, i < k ∧ k < j ∧ r 6 k = cv
    · exact Or.inl (hpl cv z).1
    · rw [(hpn cv (fun k x y w => z ⟨k, x, y, w⟩)).1]
      rcases hp.2 cv a b with y | ⟨y1, y2, y3⟩
      · exact Or.inl y
      · refine Or.inr ?_
        rcases (show r 10 cv ≤ i ∨ (i < r 10 cv ∧ r 10 cv < j) ∨ j ≤ r 10 cv by omega) with x | x | x
        · exact ⟨r 10 cv, y1, by omega, by rw [h6 _ y1 (by omega), brkC_lo x]; exact y3⟩
        · exact absurd ⟨r 10 cv, x.1, x.2, y3⟩ z
        · exact ⟨r 10 cv - (j - i - 1), by omega, by omega, by rw [h6 _ (by omega) (by omega), brkC_hi (by omega), show r 10 cv - (j - i - 1) + (j - i - 1) = r 10 cv by omega]; exact y3⟩
  · rw [h11, h6 k a (by omega), h6 (k + 1) (by omega) (by omega), brkC_lo (by omega), brkC_lo (by omega), hdd k a (by omega), cellAtF_in (by omega) (by omega)]
theorem brkC_eq {r : mf_V} {i j : Int} (ij : i + 3 ≤ j) {k : Int} (h0 : 0 ≤ k) (h1 : k < r 7 0 - (j - i - 1)) : mf_cpy (r 6) (r 6) j (i + 1) (r 7 0 - j) k = brkC r i j k := by
  unfold mf_cpy brkC
  by_cases z : k ≤ i
  · rw [if_neg (by omega), if_pos z]
  · rw [if_pos ⟨by omega, by omega⟩, if_neg z]; congr 1; omega
theorem brkLake {r r1 : mf_V} {i j : Int} (hI : RInv r) (hn : neckP r i j) (hpl : ∀ c, (∃ k, i < k ∧ k < j ∧ r 6 k = c) → r1 10 c = -1 ∧ r1 3 c = r 8 0 + 10) (hpn : ∀ c, (∀ k, i < k → k < j → ¬ r 6 k = c) → r1 10 c = r 10 c ∧ r1 3 c = r 3 c) (c : Int) (a : 0 ≤ c) (b : c < 384) : (i < r 10 c ∧ r 10 c < j → r1 3 c = r 8 0 + 10) ∧ (¬ (i < r 10 c ∧ r 10 c < j) → r1 3 c = r 3 c) := by
  obtain ⟨i0, j1, ij, hd⟩ := neckP_w hn
  obtain ⟨-, -, hp, -⟩ := hI
  refine ⟨fun h => ?_, fun h => ?_⟩
  · rcases hp.2 c a b with y | ⟨y1, y2, y3⟩
    · omega
    · exact (hpl c ⟨r 10 c, h.1, h.2, y3⟩).2
  · exact (hpn c (fun k x y z => h (by have g := hp.1 k (by omega) (by omega); rw [z] at g; rw [g]; exact ⟨x, y⟩))).2
set_option maxHeartbeats 4000000 in
set_option maxRecDepth 100000 in
theorem c_X1_breakThrough (l : Launch) (G : mf_G) (h : Nat) (ad : Nat → Nat) (r : mf_V)  (iv : Int) (jv : Int) (hiv : i32 iv) (hjv : i32 jv) (ok : rOK rlo rhi r) (hI : RInv r) (hnk : neckP r iv jv) (hbk : r 9 0 < 100000000) (sz : Nat) : Met l yX1_breakThrough wsX1_breakThrough ({ frames := 3, cells := 0, slots := 0, locals := 68 }) (va_Pc [.ref h, .int (iI (iv)), .int (iI (jv))] (WrP G (RW G h ad r) sz)) (va_Qv (fun (r' : mf_V) => rOK rlo rhi r' ∧ Brk r iv jv r' ∧ RInv r') (fun (r' : mf_V) t => WrQ G (va_A (RW G h ad r) sz) (RW G h ad r') t) (va_A (RW G h ad r) sz)) 0 0 (va_A (RW G h ad r) sz) := by
  refine Met.ofW (cc := cX1_breakThrough) (maxL := 5) (ret := none) (by decide) rfl ?_
  intro p e s m args below meth c s₁ B hml hv
  obtain ⟨rfl, hsz, hP, hK, hD0, hN⟩ := hv
  have hx := B.exec
  have hb := B.bytes
  have hr := B.returns
  have hts := atoms_spec (ws := wsX1_breakThrough) B.pre
  have hown : s.vm.findClass RX1 = some m.cls := findClass_of_methodNamed B.named
  have hlocks := B.notSynchronized
  have hinX1 : ∀ w ∈ u_ws RX1 TX1 14, w ∈ wsX1_breakThrough := fun w h => List.mem_cons_of_mem _ (List.mem_append_right _ h)
  subst hsz
  have hD := hD0.self (sz := s.heap.size)
  generalize hAe : va_A (RW G h ad r) s.heap.size = A at hD ⊢
  have hA : ∀ q : Nat, s.heap.size ≤ q → A q := fun q h => by rw [← hAe]; exact Or.inr h
  have hS : va_S A s.heap s.heap [] := va_S.rf
  have hl := lv_entry ([.ref h, .int (iI (iv)), .int (iI (jv))]) (n := 5) (Nat.le_of_ble_eq_true rfl)
  rw [lg_entry_eq]
  generalize (lg_sl ([.ref h, .int (iI (iv)), .int (iI (jv))]) ++ List.replicate (5 - (lg_sl ([.ref h, .int (iI (iv)), .int (iI (jv))])).length) Slot.unset).toArray = ls at hl ⊢
  have hl : lv_has ls 5 [(0, .ref h), (1, .int (iI (iv))), (2, .int (iI (jv)))] := hl
  have hiv1 := hiv.1
  have hiv2 := hiv.2
  have hjv1 := hjv.1
  have hjv2 := hjv.2
  have okLr : (0 : Int) ≤ r 7 0 ∧ r 7 0 ≤ 150 := ok 7 0
  obtain ⟨i0, j1, ij, hdn⟩ := neckP_w hnk
  refine lv_aload_n hx hb dX1_breakThrough_0 rfl (lv_at hl 0 rfl) ?_
  refine lv_iload_n hx hb dX1_breakThrough_1 rfl (lv_at hl 1 rfl) ?_
  refine lv_iload_n hx hb dX1_breakThrough_2 rfl (lv_at hl 2 rfl) ?_
  refine vp_callSi (va_Run.run (va_runV (As := [.int (iI (iv)), .int (iI (jv))]) (rest := []) ⟨hx, hb, hml, hown, hts⟩ (c_X1_isNeck l G h ad r (iv) (jv) (i32_mk (by omega) (by omega)) (i32_mk (by omega) (by omega)) (by assumption)) (cwV 2 hts gX1_breakThrough_X1_isNeck rfl rfl rfl (by decide +kernel) ⟨Nat.le_of_ble_eq_true rfl, Nat.le_of_ble_eq_true rfl⟩) (rdV (wc := RW G h ad r) hK hP hN [0, 1, 2, 3, 4, 5, 6, 7, 8, 9, 10, 11] rfl (ci := 1) rfl rfl) rfl rfl hl.1 rfl (lv_room (Nat.le_of_ble_eq_true rfl)) dX1_breakThrough_3 ⟨(Nat.zero_le _), (Nat.zero_le _)⟩)) (fun q1 hq1 => ?_)
  subst hq1
  refine mf_bp_ne (tgt := 10) hx hb dX1_breakThrough_6 (by decide) (fun c2 => ?_) (fun c2 => ?_)
  · skip
    refine lv_iload_n hx hb dX1_breakThrough_10 rfl (lv_at hl 1 rfl) ?_
    refine mf_iconst hx hb dX1_breakThrough_11 ?_
    refine mf_iadd hx hb dX1_breakThrough_12 ?_
    refine lv_istore_n (lv' := [(3, .int (iI (iv + 1))), (0, .ref h), (1, .int (iI (iv))), (2, .int (iI (jv)))]) hx hb dX1_breakThrough_13 rfl hl (by decide) rfl (fun ls hl => ?_)
    have lp14 : ∀ (n : Nat) (kv : Int) (r1 : mf_V), (jv - kv).toNat < n → (iv + 1 ≤ kv ∧ kv ≤ jv) → (rOK rlo rhi r1) → (∀ q, q ≠ 10 → q ≠ 3 → r1 q = r q) → (∀ c, (∃ k, iv < k ∧ k < kv ∧ r 6 k = c) → r1 10 c = -1 ∧ r1 3 c = r 8 0 + 10) → (∀ c, (∀ k, iv < k → k < kv → ¬ r 6 k = c) → r1 10 c = r 10 c ∧ r1 3 c = r 3 c) → ∀ (H : Heap) (locs : List Loc), va_P G.1 vwCl (RW G h ad r1) H → va_D A (RW G h ad r1) → va_S A s.heap H locs → ∀ (ls : Array Slot), lv_has ls 5 [(0, .ref h), (1, .int (iI (iv))), (2, .int (iI (jv))), (3, .int (iI (kv)))] → W p l e (headSpec wsX1_breakThrough ({ frames := 3, cells := 0, slots := 0, locals := 68 })).room s m ([.ref h, .int (iI (iv)), .int (iI (jv))] : List Value).toArray below meth c H locs 0 0 (MQ below (va_Qv (fun (r' : mf_V) => rOK rlo rhi r' ∧ Brk r iv jv r' ∧ RInv r') (fun (r' : mf_V) t => WrQ G A (RW G h ad r') t) A) ([.ref h, .int (iI (iv)), .int (iI (jv))] : List Value).toArray s 0 0 A) (F0 m 14 ls []) := by
      intro n
      induction n with
      | zero => intro kv r1 hn; exact absurd hn (Nat.not_lt_zero _)
      | succ n ih14 =>
        intro kv r1 hn hk okr1 hfr hpl hpn H locs hP hD hS ls hl
        refine lv_iload_n hx hb dX1_breakThrough_14 rfl (lv_at hl 3 rfl) ?_
        refine lv_iload_n hx hb dX1_breakThrough_15 rfl (lv_at hl 2 rfl) ?_
        refine mf_icmp_ge (tgt := 62) hx hb dX1_breakThrough_16 (by decide) (i32_mk (by omega) (by omega)) (i32_mk (by omega) (by omega)) (fun c3 => ?_) (fun c3 => ?_)
        · skip
          refine lv_aload_n hx hb dX1_breakThrough_62 rfl (lv_at hl 0 rfl) ?_
          refine va_get (D := G.1) (ci := 1) (v := .ref (ad 6)) (C := RX1) (T := TX1) (N := 14) hx hb hts hinX1 hown hK hP 0 rfl rfl 6 (by decide) (hts (.fieldLink RX1 31 "MeanderFarm$River" "course" "[I") (List.mem_of_getElem? (i := 4) rfl)) (fun _ h9 => h9) rfl dX1_breakThrough_63 ?_
          refine lv_iload_n hx hb dX1_breakThrough_66 rfl (lv_at hl 2 rfl) ?_
          refine lv_aload_n hx hb dX1_breakThrough_67 rfl (lv_at hl 0 rfl) ?_
          refine va_get (D := G.1) (ci := 1) (v := .ref (ad 6)) (C := RX1) (T := TX1) (N := 14) hx hb hts hinX1 hown hK hP 0 rfl rfl 6 (by decide) (hts (.fieldLink RX1 31 "MeanderFarm$River" "course" "[I") (List.mem_of_getElem? (i := 4) rfl)) (fun _ h9 => h9) rfl dX1_breakThrough_68 ?_
          refine lv_iload_n hx hb dX1_breakThrough_71 rfl (lv_at hl 1 rfl) ?_
          refine mf_iconst hx hb dX1_breakThrough_72 ?_
          refine mf_iadd hx hb dX1_breakThrough_73 ?_
          refine lv_aload_n hx hb dX1_breakThrough_74 rfl (lv_at hl 0 rfl) ?_
          refine va_get (D := G.1) (ci := 1) (v := .int (iI (r1 7 0))) (C := RX1) (T := TX1) (N := 14) hx hb hts hinX1 hown hK hP 0 rfl rfl 7 (by decide) (hts (.fieldLink RX1 46 "MeanderFarm$River" "length" "I") (List.mem_of_getElem? (i := 5) rfl)) (fun _ h9 => h9) rfl dX1_breakThrough_75 ?_
          refine mf_top (r1 7 0) (r 7 0) (by rw [hfr 7 (by decide) (by decide)]) ?_
          have b4 : (0 : Int) ≤ r 7 0 ∧ r 7 0 ≤ 150 := ok 7 (0)
          refine lv_iload_n hx hb dX1_breakThrough_78 rfl (lv_at hl 2 rfl) ?_
          refine mf_isub hx hb dX1_breakThrough_79 ?_
          refine mf_copy (f := r1 6) (g := r1 6) (n0 := 150) (n1 := 150) hx hb (hml.trans hl.1.symm) hown (hts (.methodLink RX1 54 arraycopyName) (List.mem_of_getElem? (i := 6) rfl)) (hts (.native arraycopyName) (List.mem_of_getElem? (i := 7) rfl)) (hts (.static arraycopyName) (List.mem_of_getElem? (i := 8) rfl)) (hts (.initialized "java/lang/System") (List.mem_of_getElem? (i := 9) rfl)) hK hP hD hS 7 7 0 0 rfl rfl rfl rfl rfl (sp := jv) (dp := iv + 1) (n := (r 7 0) - jv) (by omega) (by omega) (by omega) (by omega) (by omega) (by decide) (by decide) (fun _ => rfl) (Nat.le_of_ble_eq_true rfl) (Nat.le_of_ble_eq_true rfl) dX1_breakThrough_80 (fun H locs hP hD hS => ?_)
          obtain ⟨r5, er5⟩ : ∃ q : mf_V, q = mf_sF r1 6 (mf_cpy (r1 6) (r1 6) (jv) (iv + 1) ((r 7 0) - jv)) := ⟨_, rfl⟩
          have hP : va_P G.1 vwCl (RW G h ad r5) H := by rw [er5]; exact hP
          have hD : va_D A (RW G h ad r5) := by rw [er5]; exact hD
          have okr5 : rOK rlo rhi r5 := by rw [er5]; exact rOK_cpy okr1 okr1 6 _ _ _
          have f1_r5 : r5 6 = mf_cpy (r1 6) (r1 6) (jv) (iv + 1) ((r 7 0) - jv) := by rw [er5, mf_sF_s]
          have f3_r5 : ∀ q, q ≠ 6 → r5 q = r1 q := fun q hq => by rw [er5, mf_sF_n hq]
          refine lv_aload_n hx hb dX1_breakThrough_83 rfl (lv_at hl 0 rfl) ?_
          refine lv_dup hx hb dX1_breakThrough_84 rfl ?_
          refine va_get (D := G.1) (ci := 1) (v := .int (iI (r5 7 0))) (C := RX1) (T := TX1) (N := 14) hx hb hts hinX1 hown hK hP 0 rfl rfl 7 (by decide) (hts (.fieldLink RX1 46 "MeanderFarm$River" "length" "I") (List.mem_of_getElem? (i := 5) rfl)) (fun _ h9 => h9) rfl dX1_breakThrough_85 ?_
          refine mf_top (r5 7 0) (r 7 0) (by rw [f3_r5 7 (by decide), hfr 7 (by decide) (by decide)]) ?_
          have b6 : (0 : Int) ≤ r 7 0 ∧ r 7 0 ≤ 150 := ok 7 (0)
          refine lv_iload_n hx hb dX1_breakThrough_88 rfl (lv_at hl 2 rfl) ?_
          refine lv_iload_n hx hb dX1_breakThrough_89 rfl (lv_at hl 1 rfl) ?_
          refine mf_isub hx hb dX1_breakThrough_90 ?_
          refine mf_iconst hx hb dX1_breakThrough_91 ?_
          refine mf_isub hx hb dX1_breakThrough_92 ?_
          refine mf_isub hx hb dX1_breakThrough_93 ?_
          refine va_put (D := G.1) (ci := 1) (v := .int (iI ((r 7 0) - ((jv - iv) - 1)))) (ty := .int) (C := RX1) (T := TX1) (N := 14) hx hb hts hinX1 tyX1 tyX1_ok nmX1 hown hK hP hD hS 0 rfl rfl 7 (by decide) (hts (.fieldLink RX1 46 "MeanderFarm$River" "length" "I") (List.mem_of_getElem? (i := 5) rfl)) (fun _ h9 => h9) rfl (by decide +kernel) rfl rfl (Nat.le_of_ble_eq_true rfl) dX1_breakThrough_94 (fun H locs hP hD hS => ?_)
          obtain ⟨r7, er7⟩ : ∃ q : mf_V, q = mf_sF r5 7 (fun _ => (r 7 0) - ((jv - iv) - 1)) := ⟨_, rfl⟩
          have hP : va_P G.1 vwCl (RW G h ad r7) H := by rw [er7]; exact hP
          have hD : va_D A (RW G h ad r7) := by rw [er7]; exact hD
          have okr7 : rOK rlo rhi r7 := by rw [er7]; exact rOK_set okr5 7 _ (show (0 : Int) ≤ (r 7 0) - ((jv - iv) - 1) by omega) (show (r 7 0) - ((jv - iv) - 1) ≤ (150 : Int) by omega)
          have f1_r7 : ∀ y, r7 7 y = (r 7 0) - ((jv - iv) - 1) := fun y => by rw [er7, mf_sF_s]
          have f3_r7 : ∀ q, q ≠ 7 → r7 q = r5 q := fun q hq => by rw [er7, mf_sF_n hq]
          refine lv_aload_n hx hb dX1_breakThrough_97 rfl (lv_at hl 0 rfl) ?_
          refine lv_dup hx hb dX1_breakThrough_98 rfl ?_
          refine va_get (D := G.1) (ci := 1) (v := .int (iI (r7 9 0))) (C := RX1) (T := TX1) (N := 14) hx hb hts hinX1 hown hK hP 0 rfl rfl 9 (by decide) (hts (.fieldLink RX1 63 "MeanderFarm$River" "breaks" "I") (List.mem_of_getElem? (i := 10) rfl)) (fun _ h9 => h9) rfl dX1_breakThrough_99 ?_
          refine mf_top (r7 9 0) (r 9 0) (by rw [f3_r7 9 (by decide), f3_r5 9 (by decide), hfr 9 (by decide) (by decide)]) ?_
          have b8 : (0 : Int) ≤ r 9 0 ∧ r 9 0 ≤ 100000000 := ok 9 (0)
          refine mf_iconst hx hb dX1_breakThrough_102 ?_
          refine mf_iadd hx hb dX1_breakThrough_103 ?_
          refine va_put (D := G.1) (ci := 1) (v := .int (iI ((r 9 0) + 1))) (ty := .int) (C := RX1) (T := TX1) (N := 14) hx hb hts hinX1 tyX1 tyX1_ok nmX1 hown hK hP hD hS 0 rfl rfl 9 (by decide) (hts (.fieldLink RX1 63 "MeanderFarm$River" "breaks" "I") (List.mem_of_getElem? (i := 10) rfl)) (fun _ h9 => h9) rfl (by decide +kernel) rfl rfl (Nat.le_of_ble_eq_true rfl) dX1_breakThrough_104 (fun H locs hP hD hS => ?_)
          obtain ⟨r9, er9⟩ : ∃ q : mf_V, q = mf_sF r7 9 (fun _ => (r 9 0) + 1) := ⟨_, rfl⟩
          have hP : va_P G.1 vwCl (RW G h ad r9) H := by rw [er9]; exact hP
          have hD : va_D A (RW G h ad r9) := by rw [er9]; exact hD
          have okr9 : rOK rlo rhi r9 := by rw [er9]; exact rOK_set okr7 9 _ (show (0 : Int) ≤ (r 9 0) + 1 by omega) (show (r 9 0) + 1 ≤ (100000000 : Int) by omega)
          have f1_r9 : ∀ y, r9 9 y = (r 9 0) + 1 := fun y => by rw [er9, mf_sF_s]
          have f3_r9 : ∀ q, q ≠ 9 → r9 q = r7 q := fun q hq => by rw [er9, mf_sF_n hq]
          have hkj : kv = jv := by omega
          rw [hkj] at hpl hpn
          have l7 : r9 7 0 = r 7 0 - (jv - iv - 1) := by rw [f3_r9 7 (by decide)]; exact f1_r7 0
          have y6 : ∀ k, 0 ≤ k → k < r 7 0 - (jv - iv - 1) → r9 6 k = brkC r iv jv k := fun k a b => by rw [f3_r9 6 (by decide), f3_r7 6 (by decide), f1_r5, hfr 6 (by decide) (by decide)]; exact brkC_eq (by omega) a b
          have yq : ∀ q, q ≠ 6 → q ≠ 7 → q ≠ 9 → r9 q = r1 q := fun q h1 h2 h3 => by rw [f3_r9 q h3, f3_r7 q h2, f3_r5 q h1]
          have y9 : r9 9 0 = r 9 0 + 1 := f1_r9 0
          have hcr := brkCrs hI hnk l7 y6
          have hpre := brkPre hI hnk l7 y6 (yq 10 (by decide) (by decide) (by decide)) ((yq 11 (by decide) (by decide) (by decide)).trans (hfr 11 (by decide) (by decide))) hpl hpn
          skip
          refine lv_aload_n hx hb dX1_breakThrough_107 rfl (lv_at hl 0 rfl) ?_
          refine lv_iload_n hx hb dX1_breakThrough_108 rfl (lv_at hl 1 rfl) ?_
          refine mf_iconst hx hb dX1_breakThrough_109 ?_
          refine mf_iadd hx hb dX1_breakThrough_110 ?_
          have hFc := va_free (wc := RW G h ad r9) hD hS hA [0, 1, 2, 3, 4, 5, 6, 7, 8, 9, 10, 11] rfl
          refine va_callv (va_runV (As := [.int (iI (iv + 1))]) (rest := []) ⟨hx, hb, hml, hown, hts⟩ (c_X1_followCourse l G h ad r9 (iv + 1) (i32_mk (by omega) (by omega)) (by assumption) (by exact hcr) (by omega) (by exact hpre.1) (by exact hpre.2.1) (by exact hpre.2.2) _) (cwV 1 hts gX1_breakThrough_X1_followCourse rfl rfl rfl (by decide +kernel) ⟨Nat.le_of_ble_eq_true rfl, Nat.le_of_ble_eq_true rfl⟩) (wrV (wc := RW G h ad r9) hK hP hD hN [0, 1, 2, 3, 4, 5, 6, 7, 8, 9, 10, 11] (by decide) rfl rfl (ci := 1) rfl rfl) rfl rfl hl.1 rfl (lv_room (Nat.le_of_ble_eq_true rfl)) dX1_breakThrough_111 ⟨(Nat.zero_le _), (Nat.zero_le _)⟩) hS (fun q _ h => hFc q h) hFc (fun u11 t H1 locs ht hvm hw hB hz1 hk1 hS => ?_)
          obtain ⟨r12, rfl⟩ : ∃ z, z = u11 := ⟨_, rfl⟩
          try dsimp only at hw hB
          obtain ⟨hP, hD⟩ := wrJ (ws := RW G h ad r9) (w1 := RW G h ad r12) ht hFc hB
          have hP : va_P G.1 vwCl (RW G h ad r12) H1 := hP
          have hD : va_D A (RW G h ad r12) := hD
          clear hB hk1 hFc ht hz1 hvm
          generalize H1 = H at hP hS ⊢
          have w13 := hw; clear hw
          have okr12 : rOK rlo rhi r12 := w13.1
          exact W.vret hx hb hr (fun t ht hW => ⟨⟨r12, rfl, by exact ⟨okr12, ⟨by rw [w13.2.1 7 (by decide)]; exact l7, fun k a b => by rw [w13.2.1 6 (by decide)]; exact y6 k a b, fun cv a b => by rw [w13.2.1 3 (by decide), yq 3 (by decide) (by decide) (by decide)]; exact brkLake hI hnk hpl hpn cv a b, by rw [w13.2.1 9 (by decide)]; exact y9, by rw [w13.2.1 0 (by decide), yq 0 (by decide) (by decide) (by decide), hfr 0 (by decide) (by decide)], by rw [w13.2.1 1 (by decide), yq 1 (by decide) (by decide) (by decide), hfr 1 (by decide) (by decide)], by rw [w13.2.1 2 (by decide), yq 2 (by decide) (by decide) (by decide), hfr 2 (by decide) (by decide)], by rw [w13.2.1 4 (by decide), yq 4 (by decide) (by decide) (by decide), hfr 4 (by decide) (by decide)], by rw [w13.2.1 5 (by decide), yq 5 (by decide) (by decide) (by decide), hfr 5 (by decide) (by decide)], by rw [w13.2.1 8 (by decide), yq 8 (by decide) (by decide) (by decide), hfr 8 (by decide) (by decide)]⟩, w13.2.2⟩, by rw [ht]; exact hP, hD⟩, hS.F ht⟩) hS.2.2 dX1_breakThrough_114
        · skip
          refine lv_aload_n hx hb dX1_breakThrough_19 rfl (lv_at hl 0 rfl) ?_
          refine lv_iload_n hx hb dX1_breakThrough_20 rfl (lv_at hl 3 rfl) ?_
          refine vp_callSi (va_Run.run (va_runV (As := [.int (iI (kv))]) (rest := []) ⟨hx, hb, hml, hown, hts⟩ (c_X1_cellAt l G h ad r1 (kv) (i32_mk (by omega) (by omega)) (by assumption)) (cwV 1 hts gX1_breakThrough_X1_cellAt rfl rfl rfl (by decide +kernel) ⟨Nat.le_of_ble_eq_true rfl, Nat.le_of_ble_eq_true rfl⟩) (rdV (wc := RW G h ad r1) hK hP hN [0, 1, 2, 3, 4, 5, 6, 7, 8, 9, 10, 11] rfl (ci := 1) rfl rfl) rfl rfl hl.1 rfl (lv_room (Nat.le_of_ble_eq_true rfl)) dX1_breakThrough_21 ⟨(Nat.zero_le _), (Nat.zero_le _)⟩)) (fun q14 hq14 => ?_)
          subst hq14
          refine mf_nm (fun y15 ey15 => ?_)
          have b16 : -1 ≤ y15 ∧ y15 ≤ 383 := by rw [ey15]; exact cellAtF_b (by assumption) kv
          refine mf_top (y15) (r 6 kv) (by rw [ey15, cellAtF_cg (hfr 6 (by decide) (by decide)) (hfr 7 (by decide) (by decide)), cellAtF_in (by omega) (by omega)]) ?_
          have bl : (0 : Int) ≤ r 6 kv ∧ r 6 kv ≤ 383 := ok 6 kv
          skip
          refine lv_istore (lv' := [(4, .int (iI (r 6 kv))), (0, .ref h), (1, .int (iI (iv))), (2, .int (iI (jv))), (3, .int (iI (kv)))]) hx hb dX1_breakThrough_24 hl (by decide) rfl (fun ls hl => ?_)
          refine lv_iload hx hb dX1_breakThrough_26 (lv_at hl 0 rfl) ?_
          refine vp_callSi (va_Run.run (va_runSN (As := [.int (iI (r 6 kv))]) (rest := []) ⟨hx, hb, hml, hown, hts⟩ (c_X2_isCell l (r 6 kv) (i32_mk (by omega) (by omega))) ⟨(va_cnB 1 hts gX1_breakThrough_X2_isCell_n70 rfl rfl rfl (hN.m 27 rfl) (hts (.initialized RX2) (List.mem_of_getElem? (i := 21) rfl)) (by decide +kernel) ⟨Nat.le_of_ble_eq_true rfl, Nat.le_of_ble_eq_true rfl⟩), (hts (.static yX2_isCell) (List.mem_of_getElem? (i := 30) rfl)), trivial⟩ pureS rfl rfl hl.1 rfl (lv_room (Nat.le_of_ble_eq_true rfl)) dX1_breakThrough_28 ⟨(Nat.zero_le _), (Nat.zero_le _)⟩)) (fun q17 hq17 => ?_)
          subst hq17
          refine mf_bp_eq (tgt := 56) hx hb dX1_breakThrough_31 (by decide) (fun c18 => ?_) (fun c18 => ?_)
          · skip
            exact absurd (And.intro (by omega) (by omega)) c18
          · skip
            refine lv_aload_n hx hb dX1_breakThrough_34 rfl (lv_at hl 1 rfl) ?_
            refine va_get (D := G.1) (ci := 1) (v := .ref (ad 10)) (C := RX1) (T := TX1) (N := 14) hx hb hts hinX1 hown hK hP 0 rfl rfl 10 (by decide) (hts (.fieldLink RX1 34 "MeanderFarm$River" "place" "[I") (List.mem_of_getElem? (i := 1) rfl)) (fun _ h9 => h9) rfl dX1_breakThrough_35 ?_
            refine lv_iload hx hb dX1_breakThrough_38 (lv_at hl 0 rfl) ?_
            refine mf_iconst hx hb dX1_breakThrough_40 ?_
            refine mf_iast (n := 384) (f := r1 10) hx hb hK hP hD hS 8 0 rfl rfl (z := r 6 kv) (x := (-1)) (by omega) (by omega) (by decide) dX1_breakThrough_41 (fun H locs hP hD hS => ?_)
            obtain ⟨r19, er19⟩ : ∃ q : mf_V, q = mf_sF r1 10 (mf_up (r1 10) (r 6 kv) ((-1))) := ⟨_, rfl⟩
            have hP : va_P G.1 vwCl (RW G h ad r19) H := by rw [er19]; exact hP
            have hD : va_D A (RW G h ad r19) := by rw [er19]; exact hD
            have okr19 : rOK rlo rhi r19 := by rw [er19]; exact rOK_up okr1 10 _ _ (show (-1 : Int) ≤ (-1) by omega) (show (-1) ≤ (149 : Int) by omega)
            have f1_r19 : r19 10 (r 6 kv) = (-1) := by rw [er19, mf_sF_s, mf_up_s]
            have f2_r19 : ∀ y, y ≠ (r 6 kv) → r19 10 y = r1 10 y := fun y hy => by rw [er19, mf_sF_s, mf_up_n hy]
            have f3_r19 : ∀ q, q ≠ 10 → r19 q = r1 q := fun q hq => by rw [er19, mf_sF_n hq]
            refine lv_aload_n hx hb dX1_breakThrough_42 rfl (lv_at hl 1 rfl) ?_
            refine va_get (D := G.1) (ci := 1) (v := .ref (ad 3)) (C := RX1) (T := TX1) (N := 14) hx hb hts hinX1 hown hK hP 0 rfl rfl 3 (by decide) (hts (.fieldLink RX1 22 "MeanderFarm$River" "lakeEnd" "[I") (List.mem_of_getElem? (i := 2) rfl)) (fun _ h9 => h9) rfl dX1_breakThrough_43 ?_
            refine lv_iload hx hb dX1_breakThrough_46 (lv_at hl 0 rfl) ?_
            refine lv_aload_n hx hb dX1_breakThrough_48 rfl (lv_at hl 1 rfl) ?_
            refine va_get (D := G.1) (ci := 1) (v := .int (iI (r19 8 0))) (C := RX1) (T := TX1) (N := 14) hx hb hts hinX1 hown hK hP 0 rfl rfl 8 (by decide) (hts (.fieldLink RX1 60 "MeanderFarm$River" "year" "I") (List.mem_of_getElem? (i := 3) rfl)) (fun _ h9 => h9) rfl dX1_breakThrough_49 ?_
            refine mf_top (r19 8 0) (r 8 0) (by rw [f3_r19 8 (by decide), hfr 8 (by decide) (by decide)]) ?_
            have b20 : (0 : Int) ≤ r 8 0 ∧ r 8 0 ≤ 90000 := ok 8 (0)
            refine mf_bipush hx hb dX1_breakThrough_52 rfl ?_
            refine mf_iadd hx hb dX1_breakThrough_54 ?_
            refine mf_iast (n := 384) (f := r19 3) hx hb hK hP hD hS 4 0 rfl rfl (z := r 6 kv) (x := (r 8 0) + 10) (by omega) (by omega) (by decide) dX1_breakThrough_55 (fun H locs hP hD hS => ?_)
            obtain ⟨r21, er21⟩ : ∃ q : mf_V, q = mf_sF r19 3 (mf_up (r19 3) (r 6 kv) ((r 8 0) + 10)) := ⟨_, rfl⟩
            have hP : va_P G.1 vwCl (RW G h ad r21) H := by rw [er21]; exact hP
            have hD : va_D A (RW G h ad r21) := by rw [er21]; exact hD
            have okr21 : rOK rlo rhi r21 := by rw [er21]; exact rOK_up okr19 3 _ _ (show (0 : Int) ≤ (r 8 0) + 10 by omega) (show (r 8 0) + 10 ≤ (100000 : Int) by omega)
            have f1_r21 : r21 3 (r 6 kv) = (r 8 0) + 10 := by rw [er21, mf_sF_s, mf_up_s]
            have f2_r21 : ∀ y, y ≠ (r 6 kv) → r21 3 y = r19 3 y := fun y hy => by rw [er21, mf_sF_s, mf_up_n hy]
            have f3_r21 : ∀ q, q ≠ 3 → r21 q = r19 q := fun q hq => by rw [er21, mf_sF_n hq]
            refine lv_iinc (v := iI (kv + 1)) (lv' := [(3, .int (iI (kv + 1))), (4, .int (iI (r 6 kv))), (0, .ref h), (1, .int (iI (iv))), (2, .int (iI (jv)))]) hx hb dX1_breakThrough_56 hl (k := 4) rfl (iI_add _ _).symm (by decide) rfl (fun ls hl => ?_)
            refine lv_goto (tgt := 14) hx hb dX1_breakThrough_59 (by decide) ?_
            exact ih14 (kv + 1) r21 (by omega) (by first | assumption | omega) (by first | assumption | omega) (by intro q h1 h2; rw [f3_r21 q h2, f3_r19 q h1]; exact hfr q h1 h2) (by intro cv hcv; obtain ⟨k, k0, k1, k2⟩ := hcv; by_cases z : cv = r 6 kv; (rw [z]; exact ⟨by rw [f3_r21 10 (by decide)]; exact f1_r19, f1_r21⟩); (have g := hpl cv ⟨k, k0, by rcases (show k < kv ∨ k = kv by omega) with y | y; (exact y); (rw [y] at k2; exact absurd k2.symm z), k2⟩; rw [f3_r21 10 (by decide), f2_r19 cv z, f2_r21 cv z, f3_r19 3 (by decide)]; exact g)) (by intro cv hcv; have z : ¬ cv = r 6 kv := fun y => hcv kv (by omega) (by omega) y.symm; have g := hpn cv (fun k x y => hcv k x (by omega)); rw [f3_r21 10 (by decide), f2_r19 cv z, f2_r21 cv z, f3_r19 3 (by decide)]; exact g) _ _ hP hD hS ls (lv_sub hl [2, 3, 4, 0] rfl)
    exact lp14 (_ + 1) (iv + 1) r (Nat.lt_succ_self _) (by first | assumption | omega) (by first | assumption | omega) (by intro q _ _; rfl) (by intro cv hcv; obtain ⟨k, k0, k1, -⟩ := hcv; omega) (by intro cv _; exact ⟨rfl, rfl⟩) _ _ hP hD hS ls (lv_sub hl [1, 2, 3, 0] rfl)
  · skip
    exact absurd hnk c2
