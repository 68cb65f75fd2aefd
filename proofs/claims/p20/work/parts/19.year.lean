/-! 19.year: a year's wear, and its bulge -/
theorem xor_nn {x y : Int} (h0 : 0 ≤ x) (h1 : x < 2147483648) (h2 : 0 ≤ y) (h3 : y < 2147483648) : (0 : Int32) ≤ iI x ^^^ iI y := by
  have a : (iI x).toBitVec.msb = false := by
    have := iI_toInt (z := x) (i32_mk (by omega) h1)
    rw [BitVec.msb_eq_false_iff_two_mul_lt]
    have e : (iI x).toBitVec.toInt = x := this
    rw [BitVec.toInt_eq_toNat_cond] at e
    split at e <;> omega
  have b : (iI y).toBitVec.msb = false := by
    have := iI_toInt (z := y) (i32_mk (by omega) h3)
    rw [BitVec.msb_eq_false_iff_two_mul_lt]
    have e : (iI y).toBitVec.toInt = y := this
    rw [BitVec.toInt_eq_toNat_cond] at e
    split at e <;> omega
  rw [Int32.le_iff_toInt_le]
  show (0 : Int) ≤ (iI x ^^^ iI y).toBitVec.toInt
  rw [Int32.toBitVec_xor, BitVec.toInt_eq_msb_cond, BitVec.msb_xor, a, b]
  simp
/-- a method of a class of which other methods are overridden -/
theorem metF_ofW {l : Launch} {y : MethodName} {ws ws' : List Cond} {rm : Room} {Pc : Array Value → State → Prop} {Qc : Array Value → State → Outcome → State → Prop} {mc ms : Nat} {free : Addr → Prop} {cc : ByteArray} {maxL : Nat} {ret : Option FieldType}
    (hy : plainFor y = true) (hw : ws = Cond.code y cc maxL ret :: ws')
    (body : ∀ p e s m args below meth c s₁, BodyLoose p l y (headSpec ws rm) cc maxL ret e s m args below meth c s₁ → c.maxLocals = maxL → Pc args s →
      W p l e (headSpec ws rm).room s m args below meth c s.heap [] 0 0 (MQ below Qc args s mc ms free) (entryFrame m args maxL)) : Met l y ws rm Pc Qc mc ms free := by
  refine MetFree.of_bodySF (code := cc) (maxLocals := maxL) (ret := ret) hy ?_ ?_
  · intro args s m h hn
    obtain ⟨meth, c, h1, h2, h3, h4, h5, h6, -, -⟩ := Cond.code_spec hn (atoms_spec (ws := ws) h _ (by rw [hw]; exact List.mem_cons_self))
    exact ⟨meth, c, h1, h2, h3, h4, h5, h6⟩
  · intro p e s m args below meth c s₁ B hml hP _
    have hh0 : s₁.heap = s.heap := by rw [B.state]; rfl
    obtain ⟨t, a1, o, b1, b2, b3⟩ := body p e s m args below meth c s₁ B hml hP s₁ hh0 (Stand.of_body B)
    exact ⟨t, o, a1, b1, b2, ⟨b3.1, b3.2⟩⟩
/-- the wear behind the first k cells -/
noncomputable def wearG (r : mf_V) (f k : Int) : Int → Int := Nat.rec (motive := fun _ => Int → Int) (r 1) (fun n w => @ite _ (openP r (r 13 n)) (Classical.propDecidable _) (mf_up w (r 13 n) (w (r 13 n) + f)) w) k.toNat
theorem wearG_0 (r : mf_V) (f : Int) : wearG r f 0 = r 1 := rfl
theorem wearG_s (r : mf_V) (f : Int) {k : Int} (h : 0 ≤ k) : wearG r f (k + 1) = @ite _ (openP r (r 13 k)) (Classical.propDecidable _) (mf_up (wearG r f k) (r 13 k) (wearG r f k (r 13 k) + f)) (wearG r f k) := by
  obtain ⟨n, rfl⟩ := Int.eq_ofNat_of_zero_le h
  unfold wearG
  rw [show ((n : Int) + 1).toNat = n + 1 by omega, show ((n : Int)).toNat = n by omega]
theorem wearG_t (r : mf_V) (f : Int) {k : Int} (h : 0 ≤ k) (q : openP r (r 13 k)) : wearG r f (k + 1) = mf_up (wearG r f k) (r 13 k) (wearG r f k (r 13 k) + f) := by rw [wearG_s r f h]; exact if_pos q
theorem wearG_f (r : mf_V) (f : Int) {k : Int} (h : 0 ≤ k) (q : ¬ openP r (r 13 k)) : wearG r f (k + 1) = wearG r f k := by rw [wearG_s r f h]; exact if_neg q
theorem openP_cg {r q : mf_V} (h10 : q 10 = r 10) (h2 : q 2 = r 2) {c : Int} : openP q c ↔ openP r c := by unfold openP; rw [h10, h2]
/-- whether the cell k is the ripest so far, with m the most so far -/
def ripP (r : mf_V) (k m : Int) : Prop := (0 ≤ r 13 k ∧ r 13 k < 384) ∧ 0 ≤ r 1 (r 13 k) - 10 * r 0 (r 13 k) ∧ m < r 1 (r 13 k) - 10 * r 0 (r 13 k) ∧ canB r k (r 12 k)
noncomputable def ripG (r : mf_V) (k : Int) : Int × Int := Nat.rec (motive := fun _ => Int × Int) (-1, -1) (fun n x => @ite _ (ripP r n x.2) (Classical.propDecidable _) ((n : Int), r 1 (r 13 n) - 10 * r 0 (r 13 n)) x) k.toNat
theorem ripG_0 (r : mf_V) : ripG r 0 = (-1, -1) := rfl
theorem ripG_s (r : mf_V) {k : Int} (h : 0 ≤ k) : ripG r (k + 1) = @ite _ (ripP r k (ripG r k).2) (Classical.propDecidable _) (k, r 1 (r 13 k) - 10 * r 0 (r 13 k)) (ripG r k) := by
  obtain ⟨n, rfl⟩ := Int.eq_ofNat_of_zero_le h
  unfold ripG
  rw [show ((n : Int) + 1).toNat = n + 1 by omega, show ((n : Int)).toNat = n by omega]
theorem ripG_t (r : mf_V) {k : Int} (h : 0 ≤ k) (q : ripP r k (ripG r k).2) : ripG r (k + 1) = (k, r 1 (r 13 k) - 10 * r 0 (r 13 k)) := by rw [ripG_s r h]; exact if_pos q
theorem ripG_f (r : mf_V) {k : Int} (h : 0 ≤ k) (q : ¬ ripP r k (ripG r k).2) : ripG r (k + 1) = ripG r k := by rw [ripG_s r h]; exact if_neg q
noncomputable def ripF (r : mf_V) : Int := (ripG r (r 7 0)).1
theorem RInv_cg {r q : mf_V} (h6 : q 6 = r 6) (h7 : q 7 = r 7) (h10 : q 10 = r 10) (h11 : q 11 = r 11) (h12 : q 12 = r 12) (h13 : q 13 = r 13) (h : RInv r) : RInv q := by
  obtain ⟨a, b, c, d⟩ := h
  refine ⟨?_, fun i h0 h1 => ?_, ?_, ?_⟩
  · unfold crsOK; rw [h6, h7]; exact a
  · rw [h7] at h1; rw [h11, h6, cellAtF_cg h6 h7]; exact b i h0 h1
  · unfold plOK; rw [h6, h7, h10]; exact c
  · unfold tOK; rw [h6, h7, h11, h12, h13]; exact d
set_option maxHeartbeats 4000000 in
set_option maxRecDepth 100000 in
theorem c_J9_floorMod_7cf53 (l : Launch) (xv : Int) (yv : Int) (hxv : i32 xv) (hyv : i32 yv) (hx0 : 0 ≤ xv) (hy0 : 0 < yv) : Met l yJ9_floorMod_7cf53 wsJ9_floorMod_7cf53 ({ frames := 0, cells := 0, slots := 0, locals := 0 }) (va_Pc [.int (iI (xv)), .int (iI (yv))] (fun _ => True)) (vp_Si (fun q => q = iI (xv % yv))) 0 0 (fun _ => False) := by
  refine metF_ofW (cc := cJ9_floorMod_7cf53) (maxL := 3) (ret := (some .int)) (by decide +kernel) rfl ?_
  intro p e s m args below meth c s₁ B hml hv
  obtain ⟨rfl, -⟩ := hv
  have hx := B.exec
  have hb := B.bytes
  have hr := B.returns
  have hts := atoms_spec (ws := wsJ9_floorMod_7cf53) B.pre
  have hown : s.vm.findClass RJ9 = some m.cls := findClass_of_methodNamed B.named
  have hlocks := B.notSynchronized
  have hl := lv_entry ([.int (iI (xv)), .int (iI (yv))]) (n := 3) (Nat.le_of_ble_eq_true rfl)
  rw [lg_entry_eq]
  generalize (lg_sl ([.int (iI (xv)), .int (iI (yv))]) ++ List.replicate (3 - (lg_sl ([.int (iI (xv)), .int (iI (yv))])).length) Slot.unset).toArray = ls at hl ⊢
  have hl : lv_has ls 3 [(0, .int (iI (xv))), (1, .int (iI (yv)))] := hl
  have hxv1 := hxv.1
  have hxv2 := hxv.2
  have hyv1 := hyv.1
  have hyv2 := hyv.2
  refine lv_iload_n hx hb dJ9_floorMod_7cf53_0 rfl (lv_at hl 0 rfl) ?_
  refine lv_iload_n hx hb dJ9_floorMod_7cf53_1 rfl (lv_at hl 1 rfl) ?_
  refine mf_irem hx hb dJ9_floorMod_7cf53_2 (i32_mk (by omega) (by omega)) (by omega) (i32_mk (by omega) (by omega)) (by omega) ?_
  refine lv_istore_n (lv' := [(2, .int (iI (xv % yv))), (0, .int (iI (xv))), (1, .int (iI (yv)))]) hx hb dJ9_floorMod_7cf53_3 rfl hl (by decide) rfl (fun ls hl => ?_)
  refine lv_iload_n hx hb dJ9_floorMod_7cf53_4 rfl (lv_at hl 1 rfl) ?_
  refine lv_iload_n hx hb dJ9_floorMod_7cf53_5 rfl (lv_at hl 2 rfl) ?_
  refine lv_ixor hx hb dJ9_floorMod_7cf53_6 ?_
  refine lv_if_ge (tgt := 18) hx hb dJ9_floorMod_7cf53_7 (by decide) (fun c1 => ?_) (fun c1 => ?_)
  · skip
    refine lv_iload_n hx hb dJ9_floorMod_7cf53_18 rfl (lv_at hl 0 rfl) ?_
    exact W.iret hx hb hr (fun t ht hW => ⟨_, rfl, (congrArg iI (by rfl)), ht⟩) t_nil dJ9_floorMod_7cf53_19
  · skip
    exact absurd (xor_nn hx0 hxv2 (by omega) hyv2) c1
set_option maxHeartbeats 4000000 in
set_option maxRecDepth 100000 in
theorem c_X1_wearBanks (l : Launch) (G : mf_G) (h : Nat) (ad : Nat → Nat) (r : mf_V)  (fv : Int) (hfv : i32 fv) (ok : rOK rlo rhi r) (hfl : 0 ≤ fv ∧ fv ≤ 9) (hwb : ∀ c, r 1 c + 1350 ≤ 200000000) (sz : Nat) : Met l yX1_wearBanks wsX1_wearBanks ({ frames := 2, cells := 0, slots := 0, locals := 41 }) (va_Pc [.ref h, .int (iI (fv))] (WrP G (RW G h ad r) sz)) (va_Qv (fun (r' : mf_V) => rOK rlo rhi r' ∧ (∀ q, q ≠ 1 → r' q = r q) ∧ r' 1 = wearG r fv (r 7 0) ∧ ∀ c, r' 1 c ≤ r 1 c + 1350) (fun (r' : mf_V) t => WrQ G (va_A (RW G h ad r) sz) (RW G h ad r') t) (va_A (RW G h ad r) sz)) 0 0 (va_A (RW G h ad r) sz) := by
  refine Met.ofW (cc := cX1_wearBanks) (maxL := 4) (ret := none) (by decide) rfl ?_
  intro p e s m args below meth c s₁ B hml hv
  obtain ⟨rfl, hsz, hP, hK, hD0, hN⟩ := hv
  have hx := B.exec
  have hb := B.bytes
  have hr := B.returns
  have hts := atoms_spec (ws := wsX1_wearBanks) B.pre
  have hown : s.vm.findClass RX1 = some m.cls := findClass_of_methodNamed B.named
  have hlocks := B.notSynchronized
  have hinX1 : ∀ w ∈ u_ws RX1 TX1 14, w ∈ wsX1_wearBanks := fun w h => List.mem_cons_of_mem _ (List.mem_append_right _ h)
  subst hsz
  have hD := hD0.self (sz := s.heap.size)
  generalize hAe : va_A (RW G h ad r) s.heap.size = A at hD ⊢
  have hA : ∀ q : Nat, s.heap.size ≤ q → A q := fun q h => by rw [← hAe]; exact Or.inr h
  have hS : va_S A s.heap s.heap [] := va_S.rf
  have hl := lv_entry ([.ref h, .int (iI (fv))]) (n := 4) (Nat.le_of_ble_eq_true rfl)
  rw [lg_entry_eq]
  generalize (lg_sl ([.ref h, .int (iI (fv))]) ++ List.replicate (4 - (lg_sl ([.ref h, .int (iI (fv))])).length) Slot.unset).toArray = ls at hl ⊢
  have hl : lv_has ls 4 [(0, .ref h), (1, .int (iI (fv)))] := hl
  have hfv1 := hfv.1
  have hfv2 := hfv.2
  have okLr : (0 : Int) ≤ r 7 0 ∧ r 7 0 ≤ 150 := ok 7 0
  refine mf_iconst hx hb dX1_wearBanks_0 ?_
  refine lv_istore_n (lv' := [(2, .int (iI (0))), (0, .ref h), (1, .int (iI (fv)))]) hx hb dX1_wearBanks_1 rfl hl (by decide) rfl (fun ls hl => ?_)
  have lp2 : ∀ (n : Nat) (kv : Int) (r1 : mf_V), (r 7 0 - kv).toNat < n → (0 ≤ kv ∧ kv ≤ r 7 0) → (rOK rlo rhi r1) → (∀ q, q ≠ 1 → r1 q = r q) → (r1 1 = wearG r fv kv) → (∀ c, r1 1 c ≤ r 1 c + 9 * kv) → ∀ (H : Heap) (locs : List Loc), va_P G.1 vwCl (RW G h ad r1) H → va_D A (RW G h ad r1) → va_S A s.heap H locs → ∀ (ls : Array Slot), lv_has ls 4 [(0, .ref h), (1, .int (iI (fv))), (2, .int (iI (kv)))] → W p l e (headSpec wsX1_wearBanks ({ frames := 2, cells := 0, slots := 0, locals := 41 })).room s m ([.ref h, .int (iI (fv))] : List Value).toArray below meth c H locs 0 0 (MQ below (va_Qv (fun (r' : mf_V) => rOK rlo rhi r' ∧ (∀ q, q ≠ 1 → r' q = r q) ∧ r' 1 = wearG r fv (r 7 0) ∧ ∀ c, r' 1 c ≤ r 1 c + 1350) (fun (r' : mf_V) t => WrQ G A (RW G h ad r') t) A) ([.ref h, .int (iI (fv))] : List Value).toArray s 0 0 A) (F0 m 2 ls []) := by
    intro n
    induction n with
    | zero => intro kv r1 hn; exact absurd hn (Nat.not_lt_zero _)
    | succ n ih2 =>
      intro kv r1 hn hk okr1 hfr hw hwk H locs hP hD hS ls hl
      refine lv_iload_n hx hb dX1_wearBanks_2 rfl (lv_at hl 2 rfl) ?_
      refine lv_aload_n hx hb dX1_wearBanks_3 rfl (lv_at hl 0 rfl) ?_
      refine va_get (D := G.1) (ci := 1) (v := .int (iI (r1 7 0))) (C := RX1) (T := TX1) (N := 14) hx hb hts hinX1 hown hK hP 0 rfl rfl 7 (by decide) (hts (.fieldLink RX1 46 "MeanderFarm$River" "length" "I") (List.mem_of_getElem? (i := 1) rfl)) (fun _ h9 => h9) rfl dX1_wearBanks_4 ?_
      refine mf_top (r1 7 0) (r 7 0) (by rw [hfr 7 (by decide)]) ?_
      have b1 : (0 : Int) ≤ r 7 0 ∧ r 7 0 ≤ 150 := ok 7 (0)
      refine mf_icmp_ge (tgt := 41) hx hb dX1_wearBanks_7 (by decide) (i32_mk (by omega) (by omega)) (i32_mk (by omega) (by omega)) (fun c2 => ?_) (fun c2 => ?_)
      · skip
        exact W.vret hx hb hr (fun t ht hW => ⟨⟨r1, rfl, by exact ⟨okr1, hfr, by rw [hw, show kv = r 7 0 by omega], fun cv => by have := hwk cv; omega⟩, by rw [ht]; exact hP, hD⟩, hS.F ht⟩) hS.2.2 dX1_wearBanks_41
      · skip
        refine lv_aload_n hx hb dX1_wearBanks_10 rfl (lv_at hl 0 rfl) ?_
        refine va_get (D := G.1) (ci := 1) (v := .ref (ad 13)) (C := RX1) (T := TX1) (N := 14) hx hb hts hinX1 hown hK hP 0 rfl rfl 13 (by decide) (hts (.fieldLink RX1 43 "MeanderFarm$River" "bank" "[I") (List.mem_of_getElem? (i := 2) rfl)) (fun _ h9 => h9) rfl dX1_wearBanks_11 ?_
        refine lv_iload_n hx hb dX1_wearBanks_14 rfl (lv_at hl 2 rfl) ?_
        refine mf_iald (n := 150) (f := r1 13) hx hb hK hP 11 0 rfl rfl (z := kv) (by omega) (by omega) (by decide) dX1_wearBanks_15 ?_
        refine mf_top (r1 13 kv) (r 13 kv) (by rw [hfr 13 (by decide)]) ?_
        have b3 : (-1 : Int) ≤ r 13 kv ∧ r 13 kv ≤ 383 := ok 13 (kv)
        refine lv_istore_n (lv' := [(3, .int (iI (r 13 kv))), (0, .ref h), (1, .int (iI (fv))), (2, .int (iI (kv)))]) hx hb dX1_wearBanks_16 rfl hl (by decide) rfl (fun ls hl => ?_)
        refine lv_aload_n hx hb dX1_wearBanks_17 rfl (lv_at hl 1 rfl) ?_
        refine lv_iload_n hx hb dX1_wearBanks_18 rfl (lv_at hl 0 rfl) ?_
        refine vp_callSi (va_Run.run (va_runV (As := [.int (iI (r 13 kv))]) (rest := []) ⟨hx, hb, hml, hown, hts⟩ (c_X1_isOpen l G h ad r1 (r 13 kv) (i32_mk (by omega) (by omega)) (by assumption)) (cwV 1 hts gX1_wearBanks_X1_isOpen rfl rfl rfl (by decide +kernel) ⟨Nat.le_of_ble_eq_true rfl, Nat.le_of_ble_eq_true rfl⟩) (rdV (wc := RW G h ad r1) hK hP hN [0, 1, 2, 3, 4, 5, 6, 7, 8, 9, 10, 11] rfl (ci := 1) rfl rfl) rfl rfl hl.1 rfl (lv_room (Nat.le_of_ble_eq_true rfl)) dX1_wearBanks_19 ⟨(Nat.zero_le _), (Nat.zero_le _)⟩)) (fun q4 hq4 => ?_)
        subst hq4
        refine mf_bp_eq (tgt := 35) hx hb dX1_wearBanks_22 (by decide) (fun c5 => ?_) (fun c5 => ?_)
        · skip
          have c5' := c5; unfold openP at c5'
          refine lv_iinc (v := iI (kv + 1)) (lv' := [(2, .int (iI (kv + 1))), (3, .int (iI (r 13 kv))), (0, .ref h), (1, .int (iI (fv)))]) hx hb dX1_wearBanks_35 hl (k := 3) rfl (iI_add _ _).symm (by decide) rfl (fun ls hl => ?_)
          refine lv_goto (tgt := 2) hx hb dX1_wearBanks_38 (by decide) ?_
          exact ih2 (kv + 1) r1 (by omega) (by first | assumption | omega) (by first | assumption | omega) (by exact hfr) (by rw [hw, wearG_f r fv (by omega) (fun z => absurd ((openP_cg (hfr 10 (by decide)) (hfr 2 (by decide))).mpr z) (by assumption))]) (by intro cv; have := hwk cv; omega) _ _ hP hD hS ls (lv_sub hl [2, 3, 0] rfl)
        · skip
          have c5' := c5; unfold openP at c5'
          have ho9 : openP r1 (r 13 kv) := by assumption
          unfold openP at ho9
          have hb9 := hwb (r 13 kv)
          have hk9 := hwk (r 13 kv)
          refine lv_aload_n hx hb dX1_wearBanks_25 rfl (lv_at hl 1 rfl) ?_
          refine va_get (D := G.1) (ci := 1) (v := .ref (ad 1)) (C := RX1) (T := TX1) (N := 14) hx hb hts hinX1 hown hK hP 0 rfl rfl 1 (by decide) (hts (.fieldLink RX1 15 "MeanderFarm$River" "wear" "[I") (List.mem_of_getElem? (i := 3) rfl)) (fun _ h9 => h9) rfl dX1_wearBanks_26 ?_
          refine lv_iload_n hx hb dX1_wearBanks_29 rfl (lv_at hl 0 rfl) ?_
          refine lv_dup2_11 hx hb dX1_wearBanks_30 rfl rfl ?_
          refine mf_iald (n := 384) (f := r1 1) hx hb hK hP 2 0 rfl rfl (z := r 13 kv) (by omega) (by omega) (by decide) dX1_wearBanks_31 ?_
          have b6 : (0 : Int) ≤ r1 1 (r 13 kv) ∧ r1 1 (r 13 kv) ≤ 200000000 := okr1 1 (r 13 kv)
          refine lv_iload_n hx hb dX1_wearBanks_32 rfl (lv_at hl 2 rfl) ?_
          refine mf_iadd hx hb dX1_wearBanks_33 ?_
          refine mf_iast (n := 384) (f := r1 1) hx hb hK hP hD hS 2 0 rfl rfl (z := r 13 kv) (x := (r1 1 (r 13 kv)) + fv) (by omega) (by omega) (by decide) dX1_wearBanks_34 (fun H locs hP hD hS => ?_)
          obtain ⟨r7, er7⟩ : ∃ q : mf_V, q = mf_sF r1 1 (mf_up (r1 1) (r 13 kv) ((r1 1 (r 13 kv)) + fv)) := ⟨_, rfl⟩
          have hP : va_P G.1 vwCl (RW G h ad r7) H := by rw [er7]; exact hP
          have hD : va_D A (RW G h ad r7) := by rw [er7]; exact hD
          have okr7 : rOK rlo rhi r7 := by rw [er7]; exact rOK_up okr1 1 _ _ (show (0 : Int) ≤ (r1 1 (r 13 kv)) + fv by omega) (show (r1 1 (r 13 kv)) + fv ≤ (200000000 : Int) by omega)
          have f1_r7 : r7 1 (r 13 kv) = (r1 1 (r 13 kv)) + fv := by rw [er7, mf_sF_s, mf_up_s]
          have f2_r7 : ∀ y, y ≠ (r 13 kv) → r7 1 y = r1 1 y := fun y hy => by rw [er7, mf_sF_s, mf_up_n hy]
          have f3_r7 : ∀ q, q ≠ 1 → r7 q = r1 q := fun q hq => by rw [er7, mf_sF_n hq]
          refine lv_iinc (v := iI (kv + 1)) (lv' := [(2, .int (iI (kv + 1))), (3, .int (iI (r 13 kv))), (0, .ref h), (1, .int (iI (fv)))]) hx hb dX1_wearBanks_35 hl (k := 3) rfl (iI_add _ _).symm (by decide) rfl (fun ls hl => ?_)
          refine lv_goto (tgt := 2) hx hb dX1_wearBanks_38 (by decide) ?_
          exact ih2 (kv + 1) r7 (by omega) (by first | assumption | omega) (by first | assumption | omega) (by intro q hq; rw [f3_r7 q hq]; exact hfr q hq) (by rw [er7, mf_sF_s, hw, wearG_t r fv (by omega) ((openP_cg (hfr 10 (by decide)) (hfr 2 (by decide))).mp (by assumption))]) (by intro cv; by_cases z : cv = r 13 kv; (rw [z, f1_r7]; have := hwk (r 13 kv); omega); (rw [f2_r7 cv z]; have := hwk cv; omega)) _ _ hP hD hS ls (lv_sub hl [2, 3, 0] rfl)
  exact lp2 (_ + 1) 0 r (Nat.lt_succ_self _) (by first | assumption | omega) (by first | assumption | omega) (by intro q _; rfl) (by rfl) (by intro cv; omega) _ _ hP hD hS ls (lv_sub hl [1, 2, 0] rfl)
set_option maxHeartbeats 4000000 in
set_option maxRecDepth 100000 in
theorem c_X1_bulgeWhereRipest (l : Launch) (G : mf_G) (h : Nat) (ad : Nat → Nat) (r : mf_V)  (ok : rOK rlo rhi r) (hI : RInv r) (sz : Nat) : Met l yX1_bulgeWhereRipest wsX1_bulgeWhereRipest ({ frames := 4, cells := 0, slots := 0, locals := 94 }) (va_Pc [.ref h] (WrP G (RW G h ad r) sz)) (va_Qi (fun q (r' : mf_V) => ∃ z : Int, q = iI z ∧ rOK rlo rhi r' ∧ RInv r' ∧ ((ripF r = -1 ∧ r' = r ∧ z = 0) ∨ (¬ ripF r = -1 ∧ Bul r (ripF r) (r 12 (ripF r)) r' ∧ z = 1)) ∧ (r' 0 = r 0 ∧ r' 2 = r 2 ∧ r' 5 = r 5 ∧ r' 8 = r 8 ∧ r' 9 = r 9) ∧ ∀ c, r' 1 c ≤ r 1 c) (fun (r' : mf_V) t => WrQ G (va_A (RW G h ad r) sz) (RW G h ad r') t) (va_A (RW G h ad r) sz)) 0 0 (va_A (RW G h ad r) sz) := by
  refine Met.ofW (cc := cX1_bulgeWhereRipest) (maxL := 6) (ret := (some .boolean)) (by decide) rfl ?_
  intro p e s m args below meth c s₁ B hml hv
  obtain ⟨rfl, hsz, hP, hK, hD0, hN⟩ := hv
  have hx := B.exec
  have hb := B.bytes
  have hr := B.returns
  have hts := atoms_spec (ws := wsX1_bulgeWhereRipest) B.pre
  have hown : s.vm.findClass RX1 = some m.cls := findClass_of_methodNamed B.named
  have hlocks := B.notSynchronized
  have hinX1 : ∀ w ∈ u_ws RX1 TX1 14, w ∈ wsX1_bulgeWhereRipest := fun w h => List.mem_cons_of_mem _ (List.mem_append_right _ h)
  subst hsz
  have hD := hD0.self (sz := s.heap.size)
  generalize hAe : va_A (RW G h ad r) s.heap.size = A at hD ⊢
  have hA : ∀ q : Nat, s.heap.size ≤ q → A q := fun q h => by rw [← hAe]; exact Or.inr h
  have hS : va_S A s.heap s.heap [] := va_S.rf
  have hl := lv_entry ([.ref h]) (n := 6) (Nat.le_of_ble_eq_true rfl)
  rw [lg_entry_eq]
  generalize (lg_sl ([.ref h]) ++ List.replicate (6 - (lg_sl ([.ref h])).length) Slot.unset).toArray = ls at hl ⊢
  have hl : lv_has ls 6 [(0, .ref h)] := hl
  have okLr : (0 : Int) ≤ r 7 0 ∧ r 7 0 ≤ 150 := ok 7 0
  have hdirE := (dLast hI.1 hI.2.1).2
  have hdirB : ∀ j, strP r j → 0 ≤ r 11 j := fun j hj => by have a := hdirE j (by have := hj.1; omega) (by have := hj.2.1; omega); have b : (-1 : Int) ≤ r 11 j ∧ r 11 j ≤ 3 := ok 11 j; omega
  refine mf_iconst hx hb dX1_bulgeWhereRipest_0 ?_
  refine lv_istore_n (lv' := [(1, .int (iI ((-1)))), (0, .ref h)]) hx hb dX1_bulgeWhereRipest_1 rfl hl (by decide) rfl (fun ls hl => ?_)
  refine mf_iconst hx hb dX1_bulgeWhereRipest_2 ?_
  refine lv_istore_n (lv' := [(2, .int (iI ((-1)))), (1, .int (iI ((-1)))), (0, .ref h)]) hx hb dX1_bulgeWhereRipest_3 rfl hl (by decide) rfl (fun ls hl => ?_)
  refine mf_iconst hx hb dX1_bulgeWhereRipest_4 ?_
  refine lv_istore_n (lv' := [(3, .int (iI (0))), (2, .int (iI ((-1)))), (1, .int (iI ((-1)))), (0, .ref h)]) hx hb dX1_bulgeWhereRipest_5 rfl hl (by decide) rfl (fun ls hl => ?_)
  have lp6 : ∀ (n : Nat) (bv : Int) (mv : Int) (kv : Int), (r 7 0 - kv).toNat < n → (0 ≤ kv ∧ kv ≤ r 7 0) → (-1 ≤ mv ∧ mv ≤ 200000000) → (-1 ≤ bv ∧ bv ≤ 150) → (bv = -1 ∨ (0 ≤ bv ∧ bv < kv ∧ canB r bv (r 12 bv))) → (bv = (ripG r kv).1) → (mv = (ripG r kv).2) → ∀ (H : Heap) (locs : List Loc), va_P G.1 vwCl (RW G h ad r) H → va_D A (RW G h ad r) → va_S A s.heap H locs → ∀ (ls : Array Slot), lv_has ls 6 [(0, .ref h), (1, .int (iI (bv))), (2, .int (iI (mv))), (3, .int (iI (kv)))] → W p l e (headSpec wsX1_bulgeWhereRipest ({ frames := 4, cells := 0, slots := 0, locals := 94 })).room s m ([.ref h] : List Value).toArray below meth c H locs 0 0 (MQ below (va_Qi (fun q (r' : mf_V) => ∃ z : Int, q = iI z ∧ rOK rlo rhi r' ∧ RInv r' ∧ ((ripF r = -1 ∧ r' = r ∧ z = 0) ∨ (¬ ripF r = -1 ∧ Bul r (ripF r) (r 12 (ripF r)) r' ∧ z = 1)) ∧ (r' 0 = r 0 ∧ r' 2 = r 2 ∧ r' 5 = r 5 ∧ r' 8 = r 8 ∧ r' 9 = r 9) ∧ ∀ c, r' 1 c ≤ r 1 c) (fun (r' : mf_V) t => WrQ G A (RW G h ad r') t) A) ([.ref h] : List Value).toArray s 0 0 A) (F0 m 6 ls []) := by
    intro n
    induction n with
    | zero => intro bv mv kv hn; exact absurd hn (Nat.not_lt_zero _)
    | succ n ih6 =>
      intro bv mv kv hn hk hmb hbb hcb hbx hm H locs hP hD hS ls hl
      refine lv_iload_n hx hb dX1_bulgeWhereRipest_6 rfl (lv_at hl 3 rfl) ?_
      refine lv_aload_n hx hb dX1_bulgeWhereRipest_7 rfl (lv_at hl 0 rfl) ?_
      refine va_get (D := G.1) (ci := 1) (v := .int (iI (r 7 0))) (C := RX1) (T := TX1) (N := 14) hx hb hts hinX1 hown hK hP 0 rfl rfl 7 (by decide) (hts (.fieldLink RX1 46 "MeanderFarm$River" "length" "I") (List.mem_of_getElem? (i := 1) rfl)) (fun _ h9 => h9) rfl dX1_bulgeWhereRipest_8 ?_
      have b1 : (0 : Int) ≤ r 7 0 ∧ r 7 0 ≤ 150 := ok 7 (0)
      refine mf_icmp_ge (tgt := 86) hx hb dX1_bulgeWhereRipest_11 (by decide) (i32_mk (by omega) (by omega)) (i32_mk (by omega) (by omega)) (fun c2 => ?_) (fun c2 => ?_)
      · skip
        refine lv_iload_n hx hb dX1_bulgeWhereRipest_86 rfl (lv_at hl 1 rfl) ?_
        refine mf_iconst hx hb dX1_bulgeWhereRipest_87 ?_
        refine mf_icmp_ne (tgt := 93) hx hb dX1_bulgeWhereRipest_88 (by decide) (i32_mk (by omega) (by omega)) (i32_mk (by decide) (by decide)) (fun c3 => ?_) (fun c3 => ?_)
        · skip
          rcases hcb with y9 | y9
          · exact absurd y9 (by assumption)
          refine lv_aload_n hx hb dX1_bulgeWhereRipest_93 rfl (lv_at hl 0 rfl) ?_
          refine lv_iload_n hx hb dX1_bulgeWhereRipest_94 rfl (lv_at hl 1 rfl) ?_
          refine lv_aload_n hx hb dX1_bulgeWhereRipest_95 rfl (lv_at hl 0 rfl) ?_
          refine va_get (D := G.1) (ci := 1) (v := .ref (ad 12)) (C := RX1) (T := TX1) (N := 14) hx hb hts hinX1 hown hK hP 0 rfl rfl 12 (by decide) (hts (.fieldLink RX1 40 "MeanderFarm$River" "thrown" "[I") (List.mem_of_getElem? (i := 5) rfl)) (fun _ h9 => h9) rfl dX1_bulgeWhereRipest_96 ?_
          refine lv_iload_n hx hb dX1_bulgeWhereRipest_99 rfl (lv_at hl 1 rfl) ?_
          refine mf_iald (n := 150) (f := r 12) hx hb hK hP 10 0 rfl rfl (z := bv) (by omega) (by omega) (by decide) dX1_bulgeWhereRipest_100 ?_
          have b4 : (-1 : Int) ≤ r 12 bv ∧ r 12 bv ≤ 3 := ok 12 (bv)
          have hFc := va_free (wc := RW G h ad r) hD hS hA [0, 1, 2, 3, 4, 5, 6, 7, 8, 9, 10, 11] rfl
          refine va_callv (va_runV (As := [.int (iI (bv)), .int (iI (r 12 bv))]) (rest := []) ⟨hx, hb, hml, hown, hts⟩ (c_X1_bulge l G h ad r (bv) (r 12 bv) (i32_mk (by omega) (by omega)) (i32_mk (by omega) (by omega)) (by assumption) (by first | assumption | omega) (by exact y9.2.2) _) (cwV 2 hts gX1_bulgeWhereRipest_X1_bulge rfl rfl rfl (by decide +kernel) ⟨Nat.le_of_ble_eq_true rfl, Nat.le_of_ble_eq_true rfl⟩) (wrV (wc := RW G h ad r) hK hP hD hN [0, 1, 2, 3, 4, 5, 6, 7, 8, 9, 10, 11] (by decide) rfl rfl (ci := 1) rfl rfl) rfl rfl hl.1 rfl (lv_room (Nat.le_of_ble_eq_true rfl)) dX1_bulgeWhereRipest_101 ⟨(Nat.zero_le _), (Nat.zero_le _)⟩) hS (fun q _ h => hFc q h) hFc (fun u6 t H1 locs ht hvm hw hB hz1 hk1 hS => ?_)
          obtain ⟨r7, rfl⟩ : ∃ z, z = u6 := ⟨_, rfl⟩
          try dsimp only at hw hB
          obtain ⟨hP, hD⟩ := wrJ (ws := RW G h ad r) (w1 := RW G h ad r7) ht hFc hB
          have hP : va_P G.1 vwCl (RW G h ad r7) H1 := hP
          have hD : va_D A (RW G h ad r7) := hD
          clear hB hk1 hFc ht hz1 hvm
          generalize H1 = H at hP hS ⊢
          have w8 := hw; clear hw
          have okr7 : rOK rlo rhi r7 := w8.1
          refine mf_iconst hx hb dX1_bulgeWhereRipest_104 ?_
          have e9 : ripF r = bv := by unfold ripF; rw [← show kv = r 7 0 by omega, ← hbx]
          rw [e9]
          exact W.zret hx hb hr (mf_nar01 (by omega)) (fun t ht hW => ⟨⟨_, r7, rfl, ⟨_, rfl, by exact ⟨w8.1, w8.2.2, Or.inr ⟨by assumption, w8.2.1, rfl⟩, ⟨w8.2.1.2.2.2.1, w8.2.1.2.2.2.2.1, w8.2.1.2.2.2.2.2.1, w8.2.1.2.2.2.2.2.2.1, w8.2.1.2.2.2.2.2.2.2⟩, fun cv => by by_cases y : hitB r bv (r 12 bv) cv; (have g := ((w8.2.1.2.2.1 cv).1 y).1; have g2 : (0 : Int) ≤ r 1 cv ∧ r 1 cv ≤ 200000000 := ok 1 cv; omega); (have g := ((w8.2.1.2.2.1 cv).2 y).1; omega)⟩⟩, by rw [ht]; exact hP, hD⟩, hS.F ht⟩) hS.2.2 dX1_bulgeWhereRipest_105
        · skip
          refine mf_iconst hx hb dX1_bulgeWhereRipest_91 ?_
          have e9 : ripF r = -1 := by unfold ripF; rw [← show kv = r 7 0 by omega, ← hbx]; assumption
          exact W.zret hx hb hr (mf_nar01 (by omega)) (fun t ht hW => ⟨⟨_, r, rfl, ⟨_, rfl, by exact ⟨ok, hI, Or.inl ⟨e9, rfl, rfl⟩, ⟨rfl, rfl, rfl, rfl, rfl⟩, fun _ => Int.le_refl _⟩⟩, by rw [ht]; exact hP, hD⟩, hS.F ht⟩) hS.2.2 dX1_bulgeWhereRipest_92
      · skip
        refine lv_aload_n hx hb dX1_bulgeWhereRipest_14 rfl (lv_at hl 0 rfl) ?_
        refine va_get (D := G.1) (ci := 1) (v := .ref (ad 13)) (C := RX1) (T := TX1) (N := 14) hx hb hts hinX1 hown hK hP 0 rfl rfl 13 (by decide) (hts (.fieldLink RX1 43 "MeanderFarm$River" "bank" "[I") (List.mem_of_getElem? (i := 2) rfl)) (fun _ h9 => h9) rfl dX1_bulgeWhereRipest_15 ?_
        refine lv_iload_n hx hb dX1_bulgeWhereRipest_18 rfl (lv_at hl 3 rfl) ?_
        refine mf_iald (n := 150) (f := r 13) hx hb hK hP 11 0 rfl rfl (z := kv) (by omega) (by omega) (by decide) dX1_bulgeWhereRipest_19 ?_
        have b9 : (-1 : Int) ≤ r 13 kv ∧ r 13 kv ≤ 383 := ok 13 (kv)
        refine lv_istore (lv' := [(4, .int (iI (r 13 kv))), (0, .ref h), (1, .int (iI (bv))), (2, .int (iI (mv))), (3, .int (iI (kv)))]) hx hb dX1_bulgeWhereRipest_20 hl (by decide) rfl (fun ls hl => ?_)
        refine lv_iload hx hb dX1_bulgeWhereRipest_22 (lv_at hl 0 rfl) ?_
        refine vp_callSi (va_Run.run (va_runSN (As := [.int (iI (r 13 kv))]) (rest := []) ⟨hx, hb, hml, hown, hts⟩ (c_X2_isCell l (r 13 kv) (i32_mk (by omega) (by omega))) ⟨(va_cnB 1 hts gX1_bulgeWhereRipest_X2_isCell_n70 rfl rfl rfl (hN.m 27 rfl) (hts (.initialized RX2) (List.mem_of_getElem? (i := 7) rfl)) (by decide +kernel) ⟨Nat.le_of_ble_eq_true rfl, Nat.le_of_ble_eq_true rfl⟩), (hts (.static yX2_isCell) (List.mem_of_getElem? (i := 6) rfl)), trivial⟩ pureS rfl rfl hl.1 rfl (lv_room (Nat.le_of_ble_eq_true rfl)) dX1_bulgeWhereRipest_24 ⟨(Nat.zero_le _), (Nat.zero_le _)⟩)) (fun q10 hq10 => ?_)
        subst hq10
        refine mf_bp_eq (tgt := 80) hx hb dX1_bulgeWhereRipest_27 (by decide) (fun c11 => ?_) (fun c11 => ?_)
        · skip
          refine lv_iinc (v := iI (kv + 1)) (lv' := [(3, .int (iI (kv + 1))), (4, .int (iI (r 13 kv))), (0, .ref h), (1, .int (iI (bv))), (2, .int (iI (mv)))]) hx hb dX1_bulgeWhereRipest_80 hl (k := 4) rfl (iI_add _ _).symm (by decide) rfl (fun ls hl => ?_)
          refine lv_goto (tgt := 6) hx hb dX1_bulgeWhereRipest_83 (by decide) ?_
          exact ih6 bv mv (kv + 1) (by omega) (by first | assumption | omega) (by first | assumption | omega) (by first | assumption | omega) (by rcases hcb with y | y; (exact Or.inl y); (exact Or.inr ⟨y.1, by omega, y.2.2⟩)) (by subst_vars; first | rfl | (rw [ripG_t r (by omega) ⟨⟨by omega, by omega⟩, by omega, by omega, by assumption⟩]; done) | (rw [ripG_f r (by omega) (fun z => by obtain ⟨z1, z2, z3, z4⟩ := z; first | omega | contradiction)]; done)) (by subst_vars; first | rfl | (rw [ripG_t r (by omega) ⟨⟨by omega, by omega⟩, by omega, by omega, by assumption⟩]; done) | (rw [ripG_f r (by omega) (fun z => by obtain ⟨z1, z2, z3, z4⟩ := z; first | omega | contradiction)]; done)) _ _ hP hD hS ls (lv_sub hl [2, 3, 4, 0] rfl)
        · skip
          refine lv_aload_n hx hb dX1_bulgeWhereRipest_30 rfl (lv_at hl 1 rfl) ?_
          refine va_get (D := G.1) (ci := 1) (v := .ref (ad 1)) (C := RX1) (T := TX1) (N := 14) hx hb hts hinX1 hown hK hP 0 rfl rfl 1 (by decide) (hts (.fieldLink RX1 15 "MeanderFarm$River" "wear" "[I") (List.mem_of_getElem? (i := 3) rfl)) (fun _ h9 => h9) rfl dX1_bulgeWhereRipest_31 ?_
          refine lv_iload hx hb dX1_bulgeWhereRipest_34 (lv_at hl 0 rfl) ?_
          refine mf_iald (n := 384) (f := r 1) hx hb hK hP 2 0 rfl rfl (z := r 13 kv) (by omega) (by omega) (by decide) dX1_bulgeWhereRipest_36 ?_
          have b12 : (0 : Int) ≤ r 1 (r 13 kv) ∧ r 1 (r 13 kv) ≤ 200000000 := ok 1 (r 13 kv)
          refine mf_bipush hx hb dX1_bulgeWhereRipest_37 rfl ?_
          refine lv_aload_n hx hb dX1_bulgeWhereRipest_39 rfl (lv_at hl 1 rfl) ?_
          refine va_get (D := G.1) (ci := 1) (v := .ref (ad 0)) (C := RX1) (T := TX1) (N := 14) hx hb hts hinX1 hown hK hP 0 rfl rfl 0 (by decide) (hts (.fieldLink RX1 9 "MeanderFarm$River" "hardness" "[I") (List.mem_of_getElem? (i := 4) rfl)) (fun _ h9 => h9) rfl dX1_bulgeWhereRipest_40 ?_
          refine lv_iload hx hb dX1_bulgeWhereRipest_43 (lv_at hl 0 rfl) ?_
          refine mf_iald (n := 384) (f := r 0) hx hb hK hP 1 0 rfl rfl (z := r 13 kv) (by omega) (by omega) (by decide) dX1_bulgeWhereRipest_45 ?_
          have b13 : (0 : Int) ≤ r 0 (r 13 kv) ∧ r 0 (r 13 kv) ≤ 9 := ok 0 (r 13 kv)
          refine mf_imul hx hb dX1_bulgeWhereRipest_46 ?_
          refine mf_isub hx hb dX1_bulgeWhereRipest_47 ?_
          refine lv_istore (lv' := [(5, .int (iI ((r 1 (r 13 kv)) - (10 * (r 0 (r 13 kv)))))), (4, .int (iI (r 13 kv))), (0, .ref h), (1, .int (iI (bv))), (2, .int (iI (mv))), (3, .int (iI (kv)))]) hx hb dX1_bulgeWhereRipest_48 hl (by decide) rfl (fun ls hl => ?_)
          refine lv_iload hx hb dX1_bulgeWhereRipest_50 (lv_at hl 0 rfl) ?_
          refine mf_if_lt (tgt := 80) hx hb dX1_bulgeWhereRipest_52 (by decide) (i32_mk (by omega) (by omega)) (fun c14 => ?_) (fun c14 => ?_)
          · skip
            refine lv_iinc (v := iI (kv + 1)) (lv' := [(3, .int (iI (kv + 1))), (5, .int (iI ((r 1 (r 13 kv)) - (10 * (r 0 (r 13 kv)))))), (4, .int (iI (r 13 kv))), (0, .ref h), (1, .int (iI (bv))), (2, .int (iI (mv)))]) hx hb dX1_bulgeWhereRipest_80 hl (k := 5) rfl (iI_add _ _).symm (by decide) rfl (fun ls hl => ?_)
            refine lv_goto (tgt := 6) hx hb dX1_bulgeWhereRipest_83 (by decide) ?_
            exact ih6 bv mv (kv + 1) (by omega) (by first | assumption | omega) (by first | assumption | omega) (by first | assumption | omega) (by rcases hcb with y | y; (exact Or.inl y); (exact Or.inr ⟨y.1, by omega, y.2.2⟩)) (by subst_vars; first | rfl | (rw [ripG_t r (by omega) ⟨⟨by omega, by omega⟩, by omega, by omega, by assumption⟩]; done) | (rw [ripG_f r (by omega) (fun z => by obtain ⟨z1, z2, z3, z4⟩ := z; first | omega | contradiction)]; done)) (by subst_vars; first | rfl | (rw [ripG_t r (by omega) ⟨⟨by omega, by omega⟩, by omega, by omega, by assumption⟩]; done) | (rw [ripG_f r (by omega) (fun z => by obtain ⟨z1, z2, z3, z4⟩ := z; first | omega | contradiction)]; done)) _ _ hP hD hS ls (lv_sub hl [3, 4, 5, 0] rfl)
          · skip
            refine lv_iload hx hb dX1_bulgeWhereRipest_55 (lv_at hl 0 rfl) ?_
            refine lv_iload_n hx hb dX1_bulgeWhereRipest_57 rfl (lv_at hl 4 rfl) ?_
            refine mf_icmp_le (tgt := 80) hx hb dX1_bulgeWhereRipest_58 (by decide) (i32_mk (by omega) (by omega)) (i32_mk (by omega) (by omega)) (fun c15 => ?_) (fun c15 => ?_)
            · skip
              refine lv_iinc (v := iI (kv + 1)) (lv' := [(3, .int (iI (kv + 1))), (5, .int (iI ((r 1 (r 13 kv)) - (10 * (r 0 (r 13 kv)))))), (4, .int (iI (r 13 kv))), (0, .ref h), (1, .int (iI (bv))), (2, .int (iI (mv)))]) hx hb dX1_bulgeWhereRipest_80 hl (k := 5) rfl (iI_add _ _).symm (by decide) rfl (fun ls hl => ?_)
              refine lv_goto (tgt := 6) hx hb dX1_bulgeWhereRipest_83 (by decide) ?_
              exact ih6 bv mv (kv + 1) (by omega) (by first | assumption | omega) (by first | assumption | omega) (by first | assumption | omega) (by rcases hcb with y | y; (exact Or.inl y); (exact Or.inr ⟨y.1, by omega, y.2.2⟩)) (by subst_vars; first | rfl | (rw [ripG_t r (by omega) ⟨⟨by omega, by omega⟩, by omega, by omega, by assumption⟩]; done) | (rw [ripG_f r (by omega) (fun z => by obtain ⟨z1, z2, z3, z4⟩ := z; first | omega | contradiction)]; done)) (by subst_vars; first | rfl | (rw [ripG_t r (by omega) ⟨⟨by omega, by omega⟩, by omega, by omega, by assumption⟩]; done) | (rw [ripG_f r (by omega) (fun z => by obtain ⟨z1, z2, z3, z4⟩ := z; first | omega | contradiction)]; done)) _ _ hP hD hS ls (lv_sub hl [3, 4, 5, 0] rfl)
            · skip
              refine lv_aload_n hx hb dX1_bulgeWhereRipest_61 rfl (lv_at hl 2 rfl) ?_
              refine lv_iload_n hx hb dX1_bulgeWhereRipest_62 rfl (lv_at hl 5 rfl) ?_
              refine lv_aload_n hx hb dX1_bulgeWhereRipest_63 rfl (lv_at hl 2 rfl) ?_
              refine va_get (D := G.1) (ci := 1) (v := .ref (ad 12)) (C := RX1) (T := TX1) (N := 14) hx hb hts hinX1 hown hK hP 0 rfl rfl 12 (by decide) (hts (.fieldLink RX1 40 "MeanderFarm$River" "thrown" "[I") (List.mem_of_getElem? (i := 5) rfl)) (fun _ h9 => h9) rfl dX1_bulgeWhereRipest_64 ?_
              refine lv_iload_n hx hb dX1_bulgeWhereRipest_67 rfl (lv_at hl 5 rfl) ?_
              refine mf_iald (n := 150) (f := r 12) hx hb hK hP 10 0 rfl rfl (z := kv) (by omega) (by omega) (by decide) dX1_bulgeWhereRipest_68 ?_
              have b16 : (-1 : Int) ≤ r 12 kv ∧ r 12 kv ≤ 3 := ok 12 (kv)
              refine vp_callSi (va_Run.run (va_runV (As := [.int (iI (kv)), .int (iI (r 12 kv))]) (rest := []) ⟨hx, hb, hml, hown, hts⟩ (c_X1_canBulge l G h ad r (kv) (r 12 kv) (i32_mk (by omega) (by omega)) (i32_mk (by omega) (by omega)) (by assumption) (by exact hdirB)) (cwV 2 hts gX1_bulgeWhereRipest_X1_canBulge rfl rfl rfl (by decide +kernel) ⟨Nat.le_of_ble_eq_true rfl, Nat.le_of_ble_eq_true rfl⟩) (rdV (wc := RW G h ad r) hK hP hN [0, 1, 2, 3, 4, 5, 6, 7, 8, 9, 10, 11] rfl (ci := 1) rfl rfl) rfl rfl hl.1 rfl (lv_room (Nat.le_of_ble_eq_true rfl)) dX1_bulgeWhereRipest_69 ⟨(Nat.zero_le _), (Nat.zero_le _)⟩)) (fun q17 hq17 => ?_)
              subst hq17
              refine mf_bp_eq (tgt := 80) hx hb dX1_bulgeWhereRipest_72 (by decide) (fun c18 => ?_) (fun c18 => ?_)
              · skip
                refine lv_iinc (v := iI (kv + 1)) (lv' := [(3, .int (iI (kv + 1))), (5, .int (iI ((r 1 (r 13 kv)) - (10 * (r 0 (r 13 kv)))))), (4, .int (iI (r 13 kv))), (0, .ref h), (1, .int (iI (bv))), (2, .int (iI (mv)))]) hx hb dX1_bulgeWhereRipest_80 hl (k := 5) rfl (iI_add _ _).symm (by decide) rfl (fun ls hl => ?_)
                refine lv_goto (tgt := 6) hx hb dX1_bulgeWhereRipest_83 (by decide) ?_
                exact ih6 bv mv (kv + 1) (by omega) (by first | assumption | omega) (by first | assumption | omega) (by first | assumption | omega) (by rcases hcb with y | y; (exact Or.inl y); (exact Or.inr ⟨y.1, by omega, y.2.2⟩)) (by subst_vars; first | rfl | (rw [ripG_t r (by omega) ⟨⟨by omega, by omega⟩, by omega, by omega, by assumption⟩]; done) | (rw [ripG_f r (by omega) (fun z => by obtain ⟨z1, z2, z3, z4⟩ := z; first | omega | contradiction)]; done)) (by subst_vars; first | rfl | (rw [ripG_t r (by omega) ⟨⟨by omega, by omega⟩, by omega, by omega, by assumption⟩]; done) | (rw [ripG_f r (by omega) (fun z => by obtain ⟨z1, z2, z3, z4⟩ := z; first | omega | contradiction)]; done)) _ _ hP hD hS ls (lv_sub hl [3, 4, 5, 0] rfl)
              · skip
                refine lv_iload hx hb dX1_bulgeWhereRipest_75 (lv_at hl 0 rfl) ?_
                refine lv_istore_n (lv' := [(2, .int (iI ((r 1 (r 13 kv)) - (10 * (r 0 (r 13 kv)))))), (5, .int (iI ((r 1 (r 13 kv)) - (10 * (r 0 (r 13 kv)))))), (4, .int (iI (r 13 kv))), (0, .ref h), (1, .int (iI (bv))), (3, .int (iI (kv)))]) hx hb dX1_bulgeWhereRipest_77 rfl hl (by decide) rfl (fun ls hl => ?_)
                refine lv_iload_n hx hb dX1_bulgeWhereRipest_78 rfl (lv_at hl 5 rfl) ?_
                refine lv_istore_n (lv' := [(1, .int (iI (kv))), (2, .int (iI ((r 1 (r 13 kv)) - (10 * (r 0 (r 13 kv)))))), (5, .int (iI ((r 1 (r 13 kv)) - (10 * (r 0 (r 13 kv)))))), (4, .int (iI (r 13 kv))), (0, .ref h), (3, .int (iI (kv)))]) hx hb dX1_bulgeWhereRipest_79 rfl hl (by decide) rfl (fun ls hl => ?_)
                refine lv_iinc (v := iI (kv + 1)) (lv' := [(3, .int (iI (kv + 1))), (1, .int (iI (kv))), (2, .int (iI ((r 1 (r 13 kv)) - (10 * (r 0 (r 13 kv)))))), (5, .int (iI ((r 1 (r 13 kv)) - (10 * (r 0 (r 13 kv)))))), (4, .int (iI (r 13 kv))), (0, .ref h)]) hx hb dX1_bulgeWhereRipest_80 hl (k := 5) rfl (iI_add _ _).symm (by decide) rfl (fun ls hl => ?_)
                refine lv_goto (tgt := 6) hx hb dX1_bulgeWhereRipest_83 (by decide) ?_
                exact ih6 kv ((r 1 (r 13 kv)) - (10 * (r 0 (r 13 kv)))) (kv + 1) (by omega) (by first | assumption | omega) (by first | assumption | omega) (by first | assumption | omega) (by exact Or.inr ⟨by omega, by omega, by assumption⟩) (by subst_vars; first | rfl | (rw [ripG_t r (by omega) ⟨⟨by omega, by omega⟩, by omega, by omega, by assumption⟩]; done) | (rw [ripG_f r (by omega) (fun z => by obtain ⟨z1, z2, z3, z4⟩ := z; first | omega | contradiction)]; done)) (by subst_vars; first | rfl | (rw [ripG_t r (by omega) ⟨⟨by omega, by omega⟩, by omega, by omega, by assumption⟩]; done) | (rw [ripG_f r (by omega) (fun z => by obtain ⟨z1, z2, z3, z4⟩ := z; first | omega | contradiction)]; done)) _ _ hP hD hS ls (lv_sub hl [5, 1, 2, 0] rfl)
  exact lp6 (_ + 1) (-1) (-1) 0 (Nat.lt_succ_self _) (by first | assumption | omega) (by first | assumption | omega) (by first | assumption | omega) (by first | exact Or.inl rfl | (rcases hcb with y | y; (exact Or.inl y); (exact Or.inr ⟨y.1, by omega, y.2.2⟩)) | exact Or.inr ⟨by omega, by omega, by assumption⟩) (by subst_vars; first | rfl | (rw [ripG_t r (by omega) ⟨⟨by omega, by omega⟩, by omega, by omega, by assumption⟩]; done) | (rw [ripG_f r (by omega) (fun z => by obtain ⟨z1, z2, z3, z4⟩ := z; first | omega | contradiction)]; done)) (by subst_vars; first | rfl | (rw [ripG_t r (by omega) ⟨⟨by omega, by omega⟩, by omega, by omega, by assumption⟩]; done) | (rw [ripG_f r (by omega) (fun z => by obtain ⟨z1, z2, z3, z4⟩ := z; first | omega | contradiction)]; done)) _ _ hP hD hS ls (lv_sub hl [3, 2, 1, 0] rfl)
