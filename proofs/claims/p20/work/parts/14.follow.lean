/-! 14.follow: the course, and what follows from it -/
theorem inC_mk {r : mf_V} {i : Int} (h0 : 0 ≤ i) (h1 : i < r 7 0) : inC r i := ⟨h0, h1⟩
theorem cellAtF_in {r : mf_V} {i : Int} (h0 : 0 ≤ i) (h1 : i < r 7 0) : cellAtF r i = r 6 i := mf_if_t (inC_mk h0 h1)
theorem cellAtF_out {r : mf_V} {i : Int} (h : i < 0 ∨ r 7 0 ≤ i) : cellAtF r i = -1 := mf_if_f (fun z => by have h1 := z.1; have h2 := z.2; omega)
/-- each cell of the course is beside the next one; none is in it twice -/
def crsOK (r : mf_V) : Prop := 2 ≤ r 7 0 ∧ (∀ i, 0 ≤ i → i < r 7 0 - 1 → ¬ dirTo (r 6 i) (r 6 (i + 1)) = -1) ∧ ∀ i j, 0 ≤ i → i < r 7 0 → 0 ≤ j → j < r 7 0 → r 6 i = r 6 j → i = j
def dOK (r : mf_V) : Prop := ∀ i, 0 ≤ i → i < r 7 0 → r 11 i = dirTo (r 6 i) (cellAtF r (i + 1))
def plOK (r : mf_V) : Prop := (∀ i, 0 ≤ i → i < r 7 0 → r 10 (r 6 i) = i) ∧ ∀ c, 0 ≤ c → c < 384 → r 10 c = -1 ∨ (0 ≤ r 10 c ∧ r 10 c < r 7 0 ∧ r 6 (r 10 c) = c)
def tOK (r : mf_V) : Prop := ∀ i, 0 ≤ i → i < r 7 0 → thrS (r 11) (r 7 0) i (r 12 i) ∧ r 13 i = nbr (r 6 i) (r 12 i)
def RInv (r : mf_V) : Prop := crsOK r ∧ dOK r ∧ plOK r ∧ tOK r
theorem dLast {r : mf_V} (hc : crsOK r) {d : Int → Int} (hd : ∀ i, 0 ≤ i → i < r 7 0 → d i = dirTo (r 6 i) (cellAtF r (i + 1))) : d (r 7 0 - 1) = -1 ∧ ∀ i, 0 ≤ i → i < r 7 0 - 1 → ¬ d i = -1 := by
  have h2 := hc.1
  refine ⟨?_, fun i h0 h1 => ?_⟩
  · rw [hd (r 7 0 - 1) (by omega) (by omega), cellAtF_out (by omega), dirTo_m1]
  · rw [hd i h0 (by omega), cellAtF_in (by omega) (by omega)]
    exact hc.2.1 i h0 h1
theorem followEnd {r r1 r2 r3 : mf_V} (hc : crsOK r) (hfr : ∀ q, q ≠ 10 → r1 q = r q) (hpl : ∀ i, 0 ≤ i → i < r 7 0 → r1 10 (r 6 i) = i) (hpn : ∀ c, (∀ i, 0 ≤ i → i < r 7 0 → ¬ r 6 i = c) → r1 10 c = r 10 c) (hp1 : ∀ c, 0 ≤ c → c < 384 → r 10 c = -1 ∨ ∃ k, 0 ≤ k ∧ k < r 7 0 ∧ r 6 k = c) (hfr2 : ∀ q, q ≠ 11 → r2 q = r1 q) (hdl : ∀ i, 0 ≤ i → i < r 7 0 → r2 11 i = dirTo (r 6 i) (cellAtF r (i + 1))) (h3 : ∀ q, q < 12 → r3 q = r2 q) (ht : ∀ i, 0 ≤ i → i < r2 7 0 → thrS (r2 11) (r2 7 0) i (r3 12 i) ∧ r3 13 i = nbr (r2 6 i) (r3 12 i)) : (∀ q, q < 10 → r3 q = r q) ∧ RInv r3 := by
  have fr : ∀ q, q < 10 → r3 q = r q := fun q hq => by rw [h3 q (by omega), hfr2 q (by omega), hfr q (by omega)]
  have e6 : r3 6 = r 6 := fr 6 (by decide)
  have e7 : r3 7 = r 7 := fr 7 (by decide)
  have e10 : r3 10 = r1 10 := by rw [h3 10 (by decide), hfr2 10 (by decide)]
  have e11 : r3 11 = r2 11 := h3 11 (by decide)
  have k6 : r2 6 = r 6 := by rw [hfr2 6 (by decide), hfr 6 (by decide)]
  have k7 : r2 7 = r 7 := by rw [hfr2 7 (by decide), hfr 7 (by decide)]
  refine ⟨fr, ?_, ?_, ⟨?_, ?_⟩, ?_⟩
  · unfold crsOK
    rw [e6, e7]; exact hc
  · intro i h0 h1
    rw [e7] at h1
    rw [e11, cellAtF_cg e6 e7, e6]
    exact hdl i h0 h1
  · intro i h0 h1
    rw [e7] at h1
    rw [e10, e6]
    exact hpl i h0 h1
  · intro cv h0 h1
    rw [e10, e6, e7]
    by_cases q : ∃ k, 0 ≤ k ∧ k < r 7 0 ∧ r 6 k = cv
    · obtain ⟨k, k0, k1, k2⟩ := q
      have g := hpl k k0 k1
      rw [k2] at g
      rw [g]
      exact Or.inr ⟨k0, k1, k2⟩
    · have g := hpn cv (fun i a b z => q ⟨i, a, b, z⟩)
      rw [g]
      rcases hp1 cv h0 h1 with z | z
      · exact Or.inl z
      · exact absurd z q
  · intro i h0 h1
    rw [e7] at h1
    have g := ht i h0 (by rw [k7]; exact h1)
    rw [k6, k7] at g
    rw [e11, e6, e7]
    exact g
set_option maxHeartbeats 4000000 in
set_option maxRecDepth 100000 in
theorem c_X1_followCourse (l : Launch) (G : mf_G) (h : Nat) (ad : Nat → Nat) (r : mf_V)  (fv : Int) (hfv : i32 fv) (ok : rOK rlo rhi r) (hc : crsOK r) (hfv : 0 ≤ fv ∧ fv ≤ r 7 0) (hp0 : ∀ i, 0 ≤ i → i < fv → r 10 (r 6 i) = i) (hp1 : ∀ c, 0 ≤ c → c < 384 → r 10 c = -1 ∨ ∃ k, 0 ≤ k ∧ k < r 7 0 ∧ r 6 k = c) (hd0 : ∀ i, 0 ≤ i → i < fv - 1 → r 11 i = dirTo (r 6 i) (r 6 (i + 1))) (sz : Nat) : Met l yX1_followCourse wsX1_followCourse ({ frames := 2, cells := 0, slots := 0, locals := 45 }) (va_Pc [.ref h, .int (iI (fv))] (WrP G (RW G h ad r) sz)) (va_Qv (fun (r' : mf_V) => rOK rlo rhi r' ∧ (∀ q, q < 10 → r' q = r q) ∧ RInv r') (fun (r' : mf_V) t => WrQ G (va_A (RW G h ad r) sz) (RW G h ad r') t) (va_A (RW G h ad r) sz)) 0 0 (va_A (RW G h ad r) sz) := by
  refine Met.ofW (cc := cX1_followCourse) (maxL := 4) (ret := none) (by decide) rfl ?_
  intro p e s m args below meth c s₁ B hml hv
  obtain ⟨rfl, hsz, hP, hK, hD0, hN⟩ := hv
  have hx := B.exec
  have hb := B.bytes
  have hr := B.returns
  have hts := atoms_spec (ws := wsX1_followCourse) B.pre
  have hown : s.vm.findClass RX1 = some m.cls := findClass_of_methodNamed B.named
  have hlocks := B.notSynchronized
  have hinX1 : ∀ w ∈ u_ws RX1 TX1 14, w ∈ wsX1_followCourse := fun w h => List.mem_cons_of_mem _ (List.mem_append_right _ h)
  subst hsz
  have hD := hD0.self (sz := s.heap.size)
  generalize hAe : va_A (RW G h ad r) s.heap.size = A at hD ⊢
  have hA : ∀ q : Nat, s.heap.size ≤ q → A q := fun q h => by rw [← hAe]; exact Or.inr h
  have hS : va_S A s.heap s.heap [] := va_S.rf
  have hl := lv_entry ([.ref h, .int (iI (fv))]) (n := 4) (Nat.le_of_ble_eq_true rfl)
  rw [lg_entry_eq]
  generalize (lg_sl ([.ref h, .int (iI (fv))]) ++ List.replicate (4 - (lg_sl ([.ref h, .int (iI (fv))])).length) Slot.unset).toArray = ls at hl ⊢
  have hl : lv_has ls 4 [(0, .ref h), (1, .int (iI (fv)))] := hl
  have hfv1 := hfv.1
  have hfv2 := hfv.2
  have okLr : (0 : Int) ≤ r 7 0 ∧ r 7 0 ≤ 150 := ok 7 0
  refine mf_iconst hx hb dX1_followCourse_0 ?_
  refine lv_iload_n hx hb dX1_followCourse_1 rfl (lv_at hl 1 rfl) ?_
  refine mf_mmax hx hb (hml.trans hl.1.symm) hown (hts (.methodLink RX1 73 Lib.Math.max.name) (List.mem_of_getElem? (i := 1) rfl)) (hts (.static Lib.Math.max.name) (List.mem_of_getElem? (i := 2) rfl)) (hts (.initialized "java/lang/Math") (List.mem_of_getElem? (i := 3) rfl)) (hts (.code Lib.Math.max.name Lib.Math.max.code 2 (some .int)) (List.mem_of_getElem? (i := 4) rfl)) (by decide) (Nat.le_of_ble_eq_true rfl) (Nat.zero_le _) (Nat.zero_le _) (i32_mk (by decide) (by decide)) (i32_mk (by omega) (by omega)) dX1_followCourse_2 ?_
  refine mf_nm (fun y1 ey1 => ?_)
  refine lv_istore_n (lv' := [(2, .int (iI (y1))), (0, .ref h), (1, .int (iI (fv)))]) hx hb dX1_followCourse_5 rfl hl (by decide) rfl (fun ls hl => ?_)
  have lp6 : ∀ (n : Nat) (kv : Int) (r1 : mf_V), (r 7 0 - kv).toNat < n → (fv ≤ kv ∧ kv ≤ r 7 0) → (rOK rlo rhi r1) → (∀ q, q ≠ 10 → r1 q = r q) → (∀ i, 0 ≤ i → i < kv → r1 10 (r 6 i) = i) → (∀ c, (∀ i, 0 ≤ i → i < kv → ¬ r 6 i = c) → r1 10 c = r 10 c) → ∀ (H : Heap) (locs : List Loc), va_P G.1 vwCl (RW G h ad r1) H → va_D A (RW G h ad r1) → va_S A s.heap H locs → ∀ (ls : Array Slot), lv_has ls 4 [(0, .ref h), (1, .int (iI (fv))), (2, .int (iI (kv)))] → W p l e (headSpec wsX1_followCourse ({ frames := 2, cells := 0, slots := 0, locals := 45 })).room s m ([.ref h, .int (iI (fv))] : List Value).toArray below meth c H locs 0 0 (MQ below (va_Qv (fun (r' : mf_V) => rOK rlo rhi r' ∧ (∀ q, q < 10 → r' q = r q) ∧ RInv r') (fun (r' : mf_V) t => WrQ G A (RW G h ad r') t) A) ([.ref h, .int (iI (fv))] : List Value).toArray s 0 0 A) (F0 m 6 ls []) := by
    intro n
    induction n with
    | zero => intro kv r1 hn; exact absurd hn (Nat.not_lt_zero _)
    | succ n ih6 =>
      intro kv r1 hn hk okr1 hfr hpl hpn H locs hP hD hS ls hl
      refine lv_iload_n hx hb dX1_followCourse_6 rfl (lv_at hl 2 rfl) ?_
      refine lv_aload_n hx hb dX1_followCourse_7 rfl (lv_at hl 0 rfl) ?_
      refine va_get (D := G.1) (ci := 1) (v := .int (iI (r1 7 0))) (C := RX1) (T := TX1) (N := 14) hx hb hts hinX1 hown hK hP 0 rfl rfl 7 (by decide) (hts (.fieldLink RX1 46 "MeanderFarm$River" "length" "I") (List.mem_of_getElem? (i := 5) rfl)) (fun _ h9 => h9) rfl dX1_followCourse_8 ?_
      refine mf_top (r1 7 0) (r 7 0) (by rw [hfr 7 (by decide)]) ?_
      have b2 : (0 : Int) ≤ r 7 0 ∧ r 7 0 ≤ 150 := ok 7 (0)
      refine mf_icmp_ge (tgt := 41) hx hb dX1_followCourse_11 (by decide) (i32_mk (by omega) (by omega)) (i32_mk (by omega) (by omega)) (fun c3 => ?_) (fun c3 => ?_)
      · skip
        refine mf_iconst hx hb dX1_followCourse_41 ?_
        refine lv_iload_n hx hb dX1_followCourse_42 rfl (lv_at hl 1 rfl) ?_
        refine mf_iconst hx hb dX1_followCourse_43 ?_
        refine mf_isub hx hb dX1_followCourse_44 ?_
        refine mf_mmax hx hb (hml.trans hl.1.symm) hown (hts (.methodLink RX1 73 Lib.Math.max.name) (List.mem_of_getElem? (i := 1) rfl)) (hts (.static Lib.Math.max.name) (List.mem_of_getElem? (i := 2) rfl)) (hts (.initialized "java/lang/Math") (List.mem_of_getElem? (i := 3) rfl)) (hts (.code Lib.Math.max.name Lib.Math.max.code 2 (some .int)) (List.mem_of_getElem? (i := 4) rfl)) (by decide) (Nat.le_of_ble_eq_true rfl) (Nat.zero_le _) (Nat.zero_le _) (i32_mk (by decide) (by decide)) (i32_mk (by omega) (by omega)) dX1_followCourse_45 ?_
        refine mf_nm (fun y4 ey4 => ?_)
        refine lv_istore_n (lv' := [(2, .int (iI (y4))), (0, .ref h), (1, .int (iI (fv)))]) hx hb dX1_followCourse_48 rfl hl (by decide) rfl (fun ls hl => ?_)
        have lp49 : ∀ (n : Nat) (k2 : Int) (r2 : mf_V), (r 7 0 - k2).toNat < n → (0 ≤ k2 ∧ k2 ≤ r 7 0) → (rOK rlo rhi r2) → (∀ q, q ≠ 11 → r2 q = r1 q) → (∀ i, 0 ≤ i → i < k2 → r2 11 i = dirTo (r 6 i) (cellAtF r (i + 1))) → ∀ (H : Heap) (locs : List Loc), va_P G.1 vwCl (RW G h ad r2) H → va_D A (RW G h ad r2) → va_S A s.heap H locs → ∀ (ls : Array Slot), lv_has ls 4 [(0, .ref h), (1, .int (iI (fv))), (2, .int (iI (k2)))] → W p l e (headSpec wsX1_followCourse ({ frames := 2, cells := 0, slots := 0, locals := 45 })).room s m ([.ref h, .int (iI (fv))] : List Value).toArray below meth c H locs 0 0 (MQ below (va_Qv (fun (r' : mf_V) => rOK rlo rhi r' ∧ (∀ q, q < 10 → r' q = r q) ∧ RInv r') (fun (r' : mf_V) t => WrQ G A (RW G h ad r') t) A) ([.ref h, .int (iI (fv))] : List Value).toArray s 0 0 A) (F0 m 49 ls []) := by
          intro n
          induction n with
          | zero => intro k2 r2 hn; exact absurd hn (Nat.not_lt_zero _)
          | succ n ih49 =>
            intro k2 r2 hn hk2 okr2 hfr2 hdl H locs hP hD hS ls hl
            refine lv_iload_n hx hb dX1_followCourse_49 rfl (lv_at hl 2 rfl) ?_
            refine lv_aload_n hx hb dX1_followCourse_50 rfl (lv_at hl 0 rfl) ?_
            refine va_get (D := G.1) (ci := 1) (v := .int (iI (r2 7 0))) (C := RX1) (T := TX1) (N := 14) hx hb hts hinX1 hown hK hP 0 rfl rfl 7 (by decide) (hts (.fieldLink RX1 46 "MeanderFarm$River" "length" "I") (List.mem_of_getElem? (i := 5) rfl)) (fun _ h9 => h9) rfl dX1_followCourse_51 ?_
            refine mf_top (r2 7 0) (r 7 0) (by rw [hfr2 7 (by decide), hfr 7 (by decide)]) ?_
            have b5 : (0 : Int) ≤ r 7 0 ∧ r 7 0 ≤ 150 := ok 7 (0)
            refine mf_icmp_ge (tgt := 85) hx hb dX1_followCourse_54 (by decide) (i32_mk (by omega) (by omega)) (i32_mk (by omega) (by omega)) (fun c6 => ?_) (fun c6 => ?_)
            · skip
              have e7 : r2 7 0 = r 7 0 := by rw [hfr2 7 (by decide), hfr 7 (by decide)]
              have hk9 : k2 = r 7 0 := by omega
              have hkv9 : kv = r 7 0 := by omega
              subst hk9
              have hdL := dLast hc hdl
              have hc1 := hc.1
              have hdL2 := hdL.2 (r 7 0 - 2) (by omega) (by omega)
              refine lv_aload_n hx hb dX1_followCourse_85 rfl (lv_at hl 0 rfl) ?_
              have hFc := va_free (wc := RW G h ad r2) hD hS hA [0, 1, 2, 3, 4, 5, 6, 7, 8, 9, 10, 11] rfl
              refine va_callv (va_runV (As := []) (rest := []) ⟨hx, hb, hml, hown, hts⟩ (c_X1_throwCells l G h ad r2 (by assumption) (by rw [e7]; exact hc1) (by rw [e7, hdL.1]; exact fun z => hdL2 z.symm) _) (cwV 0 hts gX1_followCourse_X1_throwCells rfl rfl rfl (by decide +kernel) ⟨Nat.le_of_ble_eq_true rfl, Nat.le_of_ble_eq_true rfl⟩) (wrV (wc := RW G h ad r2) hK hP hD hN [0, 1, 2, 3, 4, 5, 6, 7, 8, 9, 10, 11] (by decide) rfl rfl (ci := 1) rfl rfl) rfl rfl hl.1 rfl (lv_room (Nat.le_of_ble_eq_true rfl)) dX1_followCourse_86 ⟨(Nat.zero_le _), (Nat.zero_le _)⟩) hS (fun q _ h => hFc q h) hFc (fun u8 t H1 locs ht hvm hw hB hz1 hk1 hS => ?_)
              obtain ⟨r9, rfl⟩ : ∃ z, z = u8 := ⟨_, rfl⟩
              try dsimp only at hw hB
              obtain ⟨hP, hD⟩ := wrJ (ws := RW G h ad r2) (w1 := RW G h ad r9) ht hFc hB
              have hP : va_P G.1 vwCl (RW G h ad r9) H1 := hP
              have hD : va_D A (RW G h ad r9) := hD
              clear hB hk1 hFc ht hz1 hvm
              generalize H1 = H at hP hS ⊢
              have w10 := hw; clear hw
              have okr9 : rOK rlo rhi r9 := w10.1
              exact W.vret hx hb hr (fun t ht hW => ⟨⟨r9, rfl, by exact ⟨okr9, followEnd hc hfr (by rw [hkv9] at hpl; exact hpl) (by rw [hkv9] at hpn; exact hpn) hp1 hfr2 hdl w10.2.1 w10.2.2⟩, by rw [ht]; exact hP, hD⟩, hS.F ht⟩) hS.2.2 dX1_followCourse_89
            · skip
              refine lv_aload_n hx hb dX1_followCourse_57 rfl (lv_at hl 0 rfl) ?_
              refine va_get (D := G.1) (ci := 1) (v := .ref (ad 11)) (C := RX1) (T := TX1) (N := 14) hx hb hts hinX1 hown hK hP 0 rfl rfl 11 (by decide) (hts (.fieldLink RX1 37 "MeanderFarm$River" "direction" "[I") (List.mem_of_getElem? (i := 8) rfl)) (fun _ h9 => h9) rfl dX1_followCourse_58 ?_
              refine lv_iload_n hx hb dX1_followCourse_61 rfl (lv_at hl 2 rfl) ?_
              refine lv_aload_n hx hb dX1_followCourse_62 rfl (lv_at hl 0 rfl) ?_
              refine va_get (D := G.1) (ci := 1) (v := .ref (ad 6)) (C := RX1) (T := TX1) (N := 14) hx hb hts hinX1 hown hK hP 0 rfl rfl 6 (by decide) (hts (.fieldLink RX1 31 "MeanderFarm$River" "course" "[I") (List.mem_of_getElem? (i := 6) rfl)) (fun _ h9 => h9) rfl dX1_followCourse_63 ?_
              refine lv_iload_n hx hb dX1_followCourse_66 rfl (lv_at hl 2 rfl) ?_
              refine mf_iald (n := 150) (f := r2 6) hx hb hK hP 7 0 rfl rfl (z := k2) (by omega) (by omega) (by decide) dX1_followCourse_67 ?_
              refine mf_top (r2 6 k2) (r 6 k2) (by rw [hfr2 6 (by decide), hfr 6 (by decide)]) ?_
              have b11 : (0 : Int) ≤ r 6 k2 ∧ r 6 k2 ≤ 383 := ok 6 (k2)
              refine lv_aload_n hx hb dX1_followCourse_68 rfl (lv_at hl 0 rfl) ?_
              refine lv_iload_n hx hb dX1_followCourse_69 rfl (lv_at hl 2 rfl) ?_
              refine mf_iconst hx hb dX1_followCourse_70 ?_
              refine mf_iadd hx hb dX1_followCourse_71 ?_
              refine vp_callSi (va_Run.run (va_runV (As := [.int (iI (k2 + 1))]) (rest := [.int (iI (r 6 k2)), .int (iI (k2)), .ref (ad 11)]) ⟨hx, hb, hml, hown, hts⟩ (c_X1_cellAt l G h ad r2 (k2 + 1) (i32_mk (by omega) (by omega)) (by assumption)) (cwV 1 hts gX1_followCourse_X1_cellAt rfl rfl rfl (by decide +kernel) ⟨Nat.le_of_ble_eq_true rfl, Nat.le_of_ble_eq_true rfl⟩) (rdV (wc := RW G h ad r2) hK hP hN [0, 1, 2, 3, 4, 5, 6, 7, 8, 9, 10, 11] rfl (ci := 1) rfl rfl) rfl rfl hl.1 rfl (lv_room (Nat.le_of_ble_eq_true rfl)) dX1_followCourse_72 ⟨(Nat.zero_le _), (Nat.zero_le _)⟩)) (fun q12 hq12 => ?_)
              subst hq12
              refine mf_nm (fun y13 ey13 => ?_)
              have b14 : -1 ≤ y13 ∧ y13 ≤ 383 := by rw [ey13]; exact cellAtF_b (by assumption) (k2 + 1)
              refine vp_callSi (va_Run.run (va_runSN (As := [.int (iI (r 6 k2)), .int (iI (y13))]) (rest := [.int (iI (k2)), .ref (ad 11)]) ⟨hx, hb, hml, hown, hts⟩ (c_X2_directionTo l (r 6 k2) (y13) (i32_mk (by omega) (by omega)) (i32_mk (by omega) (by omega))) ⟨(va_cnB 2 hts gX1_followCourse_X2_directionTo_n83 rfl rfl rfl (hN.m 28 rfl) (hts (.initialized RX2) (List.mem_of_getElem? (i := 10) rfl)) (by decide +kernel) ⟨Nat.le_of_ble_eq_true rfl, Nat.le_of_ble_eq_true rfl⟩), (hts (.static yX2_directionTo) (List.mem_of_getElem? (i := 21) rfl)), trivial⟩ pureS rfl rfl hl.1 rfl (lv_room (Nat.le_of_ble_eq_true rfl)) dX1_followCourse_75 ⟨(Nat.zero_le _), (Nat.zero_le _)⟩)) (fun q15 hq15 => ?_)
              subst hq15
              refine mf_nm (fun y16 ey16 => ?_)
              have b17 : -1 ≤ y16 ∧ y16 ≤ 3 := by rw [ey16]; exact dirTo_b (r 6 k2) y13
              refine mf_iast (n := 150) (f := r2 11) hx hb hK hP hD hS 9 0 rfl rfl (z := k2) (x := y16) (by omega) (by omega) (by decide) dX1_followCourse_78 (fun H locs hP hD hS => ?_)
              obtain ⟨r18, er18⟩ : ∃ q : mf_V, q = mf_sF r2 11 (mf_up (r2 11) (k2) (y16)) := ⟨_, rfl⟩
              have hP : va_P G.1 vwCl (RW G h ad r18) H := by rw [er18]; exact hP
              have hD : va_D A (RW G h ad r18) := by rw [er18]; exact hD
              have okr18 : rOK rlo rhi r18 := by rw [er18]; exact rOK_up okr2 11 _ _ (show (-1 : Int) ≤ y16 by omega) (show y16 ≤ (3 : Int) by omega)
              have f1_r18 : r18 11 (k2) = y16 := by rw [er18, mf_sF_s, mf_up_s]
              have f2_r18 : ∀ y, y ≠ (k2) → r18 11 y = r2 11 y := fun y hy => by rw [er18, mf_sF_s, mf_up_n hy]
              have f3_r18 : ∀ q, q ≠ 11 → r18 q = r2 q := fun q hq => by rw [er18, mf_sF_n hq]
              refine lv_iinc (v := iI (k2 + 1)) (lv' := [(2, .int (iI (k2 + 1))), (0, .ref h), (1, .int (iI (fv)))]) hx hb dX1_followCourse_79 hl (k := 2) rfl (iI_add _ _).symm (by decide) rfl (fun ls hl => ?_)
              refine lv_goto (tgt := 49) hx hb dX1_followCourse_82 (by decide) ?_
              exact ih49 (k2 + 1) r18 (by omega) (by first | assumption | omega) (by first | assumption | omega) (by intro q hq; rw [f3_r18 q hq]; exact hfr2 q hq) (by intro i h0 h1; rcases (show i < k2 ∨ i = k2 by omega) with z | z; (rw [f2_r18 _ (by omega)]; exact hdl i h0 z); (rw [z, f1_r18, ey16, ey13, cellAtF_cg ((hfr2 6 (by decide)).trans (hfr 6 (by decide))) ((hfr2 7 (by decide)).trans (hfr 7 (by decide)))])) _ _ hP hD hS ls (lv_sub hl [1, 2, 0] rfl)
        exact lp49 (_ + 1) y4 r1 (Nat.lt_succ_self _) (by first | assumption | omega) (by first | assumption | omega) (by intro q _; rfl) (by intro i h0 h1; rw [hfr 11 (by decide), cellAtF_in (by omega) (by omega)]; exact hd0 i h0 (by omega)) _ _ hP hD hS ls (lv_sub hl [1, 2, 0] rfl)
      · skip
        refine lv_aload_n hx hb dX1_followCourse_14 rfl (lv_at hl 0 rfl) ?_
        refine va_get (D := G.1) (ci := 1) (v := .ref (ad 6)) (C := RX1) (T := TX1) (N := 14) hx hb hts hinX1 hown hK hP 0 rfl rfl 6 (by decide) (hts (.fieldLink RX1 31 "MeanderFarm$River" "course" "[I") (List.mem_of_getElem? (i := 6) rfl)) (fun _ h9 => h9) rfl dX1_followCourse_15 ?_
        refine lv_iload_n hx hb dX1_followCourse_18 rfl (lv_at hl 2 rfl) ?_
        refine mf_iald (n := 150) (f := r1 6) hx hb hK hP 7 0 rfl rfl (z := kv) (by omega) (by omega) (by decide) dX1_followCourse_19 ?_
        refine mf_top (r1 6 kv) (r 6 kv) (by rw [hfr 6 (by decide)]) ?_
        have b19 : (0 : Int) ≤ r 6 kv ∧ r 6 kv ≤ 383 := ok 6 (kv)
        refine lv_istore_n (lv' := [(3, .int (iI (r 6 kv))), (0, .ref h), (1, .int (iI (fv))), (2, .int (iI (kv)))]) hx hb dX1_followCourse_20 rfl hl (by decide) rfl (fun ls hl => ?_)
        refine lv_iload_n hx hb dX1_followCourse_21 rfl (lv_at hl 0 rfl) ?_
        refine vp_callSi (va_Run.run (va_runSN (As := [.int (iI (r 6 kv))]) (rest := []) ⟨hx, hb, hml, hown, hts⟩ (c_X2_isCell l (r 6 kv) (i32_mk (by omega) (by omega))) ⟨(va_cnB 1 hts gX1_followCourse_X2_isCell_n70 rfl rfl rfl (hN.m 27 rfl) (hts (.initialized RX2) (List.mem_of_getElem? (i := 10) rfl)) (by decide +kernel) ⟨Nat.le_of_ble_eq_true rfl, Nat.le_of_ble_eq_true rfl⟩), (hts (.static yX2_isCell) (List.mem_of_getElem? (i := 9) rfl)), trivial⟩ pureS rfl rfl hl.1 rfl (lv_room (Nat.le_of_ble_eq_true rfl)) dX1_followCourse_22 ⟨(Nat.zero_le _), (Nat.zero_le _)⟩)) (fun q20 hq20 => ?_)
        subst hq20
        refine mf_bp_eq (tgt := 35) hx hb dX1_followCourse_25 (by decide) (fun c21 => ?_) (fun c21 => ?_)
        · skip
          exact absurd (And.intro (by omega) (by omega)) c21
        · skip
          refine lv_aload_n hx hb dX1_followCourse_28 rfl (lv_at hl 1 rfl) ?_
          refine va_get (D := G.1) (ci := 1) (v := .ref (ad 10)) (C := RX1) (T := TX1) (N := 14) hx hb hts hinX1 hown hK hP 0 rfl rfl 10 (by decide) (hts (.fieldLink RX1 34 "MeanderFarm$River" "place" "[I") (List.mem_of_getElem? (i := 7) rfl)) (fun _ h9 => h9) rfl dX1_followCourse_29 ?_
          refine lv_iload_n hx hb dX1_followCourse_32 rfl (lv_at hl 0 rfl) ?_
          refine lv_iload_n hx hb dX1_followCourse_33 rfl (lv_at hl 3 rfl) ?_
          refine mf_iast (n := 384) (f := r1 10) hx hb hK hP hD hS 8 0 rfl rfl (z := r 6 kv) (x := kv) (by omega) (by omega) (by decide) dX1_followCourse_34 (fun H locs hP hD hS => ?_)
          obtain ⟨r22, er22⟩ : ∃ q : mf_V, q = mf_sF r1 10 (mf_up (r1 10) (r 6 kv) (kv)) := ⟨_, rfl⟩
          have hP : va_P G.1 vwCl (RW G h ad r22) H := by rw [er22]; exact hP
          have hD : va_D A (RW G h ad r22) := by rw [er22]; exact hD
          have okr22 : rOK rlo rhi r22 := by rw [er22]; exact rOK_up okr1 10 _ _ (show (-1 : Int) ≤ kv by omega) (show kv ≤ (149 : Int) by omega)
          have f1_r22 : r22 10 (r 6 kv) = kv := by rw [er22, mf_sF_s, mf_up_s]
          have f2_r22 : ∀ y, y ≠ (r 6 kv) → r22 10 y = r1 10 y := fun y hy => by rw [er22, mf_sF_s, mf_up_n hy]
          have f3_r22 : ∀ q, q ≠ 10 → r22 q = r1 q := fun q hq => by rw [er22, mf_sF_n hq]
          refine lv_iinc (v := iI (kv + 1)) (lv' := [(2, .int (iI (kv + 1))), (3, .int (iI (r 6 kv))), (0, .ref h), (1, .int (iI (fv)))]) hx hb dX1_followCourse_35 hl (k := 3) rfl (iI_add _ _).symm (by decide) rfl (fun ls hl => ?_)
          refine lv_goto (tgt := 6) hx hb dX1_followCourse_38 (by decide) ?_
          exact ih6 (kv + 1) r22 (by omega) (by first | assumption | omega) (by first | assumption | omega) (by intro q hq; rw [f3_r22 q hq]; exact hfr q hq) (by intro i h0 h1; rcases (show i < kv ∨ i = kv by omega) with z | z; (rw [f2_r22 _ (fun y => absurd (hc.2.2 i kv (by omega) (by omega) (by omega) (by omega) y) (by omega))]; exact hpl i h0 z); (rw [z]; exact f1_r22)) (by intro cv hcv; rw [f2_r22 _ (fun y => hcv kv (by omega) (by omega) y.symm)]; exact hpn cv (fun i h0 h1 => hcv i h0 (by omega))) _ _ hP hD hS ls (lv_sub hl [2, 3, 0] rfl)
  exact lp6 (_ + 1) y1 r (Nat.lt_succ_self _) (by first | assumption | omega) (by first | assumption | omega) (by intro q _; rfl) (by intro i h0 h1; exact hp0 i h0 (by omega)) (by intro cv _; rfl) _ _ hP hD hS ls (lv_sub hl [1, 2, 0] rfl)
