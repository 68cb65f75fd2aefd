/-! 38.mface: the reference's face: what it answers, and what it tells as thrown -/
theorem relU_cg {r u w : mf_V} (f : ∀ k, k ≠ 0 → w k = u k) (h : relU r u) : relU r w := by
  obtain ⟨e1, e2, e3, e6, e7, e8, e9, m0, m1, m2⟩ := h
  refine ⟨?_, ?_, ?_, ?_, ?_, ?_, ?_, ?_, ?_, ?_⟩
  · rw [f 1 (by decide)]; exact e1
  · rw [f 2 (by decide)]; exact e2
  · rw [f 3 (by decide)]; exact e3
  · rw [f 6 (by decide)]; exact e6
  · rw [f 7 (by decide)]; exact e7
  · rw [f 8 (by decide)]; exact e8
  · rw [f 9 (by decide)]; exact e9
  · rw [f 10 (by decide)]; exact m0
  · rw [f 10 (by decide)]; exact m1
  · rw [f 10 (by decide)]; exact m2
def frF (u q : mf_V) : Prop := q 4 = u 4 ∧ q 5 = u 5
theorem relF_cg {f u w : mf_V} (h : frF u w) (hf : relF f u) : relF f w := by
  unfold relF; rw [h.1, h.2]; exact hf
def cellP (x y : Int) : Prop := (0 ≤ x ∧ x < 24) ∧ 0 ≤ y ∧ y < 16
noncomputable def kHard (x y h : Int) : Int := mf_if (¬ cellP x y) 1 (mf_if (¬ (1 ≤ h ∧ h ≤ 9)) 2 0)
noncomputable def kCell (x y : Int) : Int := mf_if (¬ cellP x y) 1 0
noncomputable def kFlow (y f : Int) : Int := mf_if (¬ (0 ≤ y ∧ y ≤ 11)) 1 (mf_if (¬ (1 ≤ f ∧ f ≤ 9)) 2 0)
noncomputable def kCourse (r : mf_V) (i w : Int) : Int := mf_if (¬ (inC r i ∧ 0 ≤ w ∧ w ≤ 4)) 1 0
noncomputable def vCourse (r : mf_V) (i w : Int) : Int := if w = 0 then r 6 i else if w = 1 then r 11 i else if w = 2 then bP (strP r i) else if w = 3 then r 12 i else r 13 i
noncomputable def kSlip (r : mf_V) (i t : Int) : Int := mf_if (¬ inC r i) 1 (mf_if (¬ (0 ≤ t ∧ t ≤ 3)) 2 (mf_if (¬ canB r i t) 3 0))
noncomputable def kDig (r : mf_V) (i j : Int) : Int := mf_if (¬ (inC r i ∧ inC r j)) 1 (mf_if (¬ neckP r i j) 2 0)
noncomputable def kRng (a b w : Int) : Int := mf_if (¬ (a ≤ w ∧ w ≤ b)) 1 0
noncomputable def kFarm (f : mf_V) (k w : Int) : Int := mf_if (¬ (isF f k ∧ 0 ≤ w ∧ w ≤ 4)) 1 0
/-- a river with another row of a field: what the reference then holds -/
theorem relU_f0 {r u w : mf_V} (h : relU r u) {c v : Int} (f1 : w 1 c = v) (f2 : ∀ y, y ≠ c → w 1 y = u 1 y) (fr : ∀ k, k ≠ 0 → k ≠ 1 → w k = u k) : relU (mf_sF r 0 (mf_up (r 0) c v)) w := by
  obtain ⟨e1, e2, e3, e6, e7, e8, e9, m0, m1, m2⟩ := h
  refine ⟨fun z z0 z1 => ?_, by rw [fr 2 (by decide) (by decide), mf_sF_n (by decide)]; exact e2, by rw [fr 3 (by decide) (by decide), mf_sF_n (by decide)]; exact e3, by rw [fr 6 (by decide) (by decide), mf_sF_n (by decide), mf_sF_n (by decide)]; exact e6, by rw [fr 7 (by decide) (by decide), mf_sF_n (by decide)]; exact e7, by rw [fr 8 (by decide) (by decide), mf_sF_n (by decide)]; exact e8, fun z z0 z1 => by rw [fr 9 (by decide) (by decide), e9 z z0 z1, lyl_in z0 z1, lyl_in z0 z1, mf_sF_n (by decide), mf_sF_n (by decide)], by rw [fr 10 (by decide) (by decide), mf_sF_n (by decide)]; exact m0, by rw [fr 10 (by decide) (by decide), mf_sF_n (by decide)]; exact m1, by rw [fr 10 (by decide) (by decide), mf_sF_n (by decide)]; exact m2⟩
  rw [mf_sF_s]
  by_cases y : z = c
  · rw [y, f1, mf_up_s]
  · rw [f2 z y, mf_up_n y]; exact e1 z z0 z1
theorem relU_f2 {r u w : mf_V} (h : relU r u) {c v : Int} (f1 : w 2 c = v) (f2 : ∀ y, y ≠ c → w 2 y = u 2 y) (fr : ∀ k, k ≠ 0 → k ≠ 2 → w k = u k) : relU (mf_sF r 2 (mf_up (r 2) c v)) w := by
  obtain ⟨e1, e2, e3, e6, e7, e8, e9, m0, m1, m2⟩ := h
  refine ⟨by rw [fr 1 (by decide) (by decide), mf_sF_n (by decide)]; exact e1, fun z z0 z1 => ?_, by rw [fr 3 (by decide) (by decide), mf_sF_n (by decide)]; exact e3, by rw [fr 6 (by decide) (by decide), mf_sF_n (by decide), mf_sF_n (by decide)]; exact e6, by rw [fr 7 (by decide) (by decide), mf_sF_n (by decide)]; exact e7, by rw [fr 8 (by decide) (by decide), mf_sF_n (by decide)]; exact e8, fun z z0 z1 => by rw [fr 9 (by decide) (by decide), e9 z z0 z1, lyl_in z0 z1, lyl_in z0 z1, mf_sF_n (by decide), mf_sF_n (by decide)], by rw [fr 10 (by decide) (by decide), mf_sF_n (by decide)]; exact m0, by rw [fr 10 (by decide) (by decide), mf_sF_n (by decide)]; exact m1, by rw [fr 10 (by decide) (by decide), mf_sF_n (by decide)]; exact m2⟩
  rw [mf_sF_s]
  by_cases y : z = c
  · rw [y, f1, mf_up_s]
  · rw [f2 z y, mf_up_n y]; exact e2 z z0 z1
theorem relU_f5 {r u w : mf_V} (h : relU r u) {c v : Int} (f1 : w 3 c = v) (f2 : ∀ y, y ≠ c → w 3 y = u 3 y) (fr : ∀ k, k ≠ 0 → k ≠ 3 → w k = u k) : relU (mf_sF r 5 (mf_up (r 5) c v)) w := by
  obtain ⟨e1, e2, e3, e6, e7, e8, e9, m0, m1, m2⟩ := h
  refine ⟨by rw [fr 1 (by decide) (by decide), mf_sF_n (by decide)]; exact e1, by rw [fr 2 (by decide) (by decide), mf_sF_n (by decide)]; exact e2, fun z z0 z1 => ?_, by rw [fr 6 (by decide) (by decide), mf_sF_n (by decide), mf_sF_n (by decide)]; exact e6, by rw [fr 7 (by decide) (by decide), mf_sF_n (by decide)]; exact e7, by rw [fr 8 (by decide) (by decide), mf_sF_n (by decide)]; exact e8, fun z z0 z1 => by rw [fr 9 (by decide) (by decide), e9 z z0 z1, lyl_in z0 z1, lyl_in z0 z1, mf_sF_n (by decide), mf_sF_n (by decide)], by rw [fr 10 (by decide) (by decide), mf_sF_n (by decide)]; exact m0, by rw [fr 10 (by decide) (by decide), mf_sF_n (by decide)]; exact m1, by rw [fr 10 (by decide) (by decide), mf_sF_n (by decide)]; exact m2⟩
  rw [mf_sF_s]
  by_cases y : z = c
  · rw [y, f1, mf_up_s]
  · rw [f2 z y, mf_up_n y]; exact e3 z z0 z1
set_option maxHeartbeats 4000000 in
set_option maxRecDepth 100000 in
theorem c_X3_yearsOn (l : Launch) (G : mf_G) (hm : Nat) (adm : Nat → Nat) (u : mf_V)  (yv : Int) (r : mf_V) (q : mf_V) (b : Int) (Yv : Int) (hyv : i32 yv) (oku : rOK ulo uhi u) (ok : rOK rlo rhi r) (hI : RInv r) (hrel : relU r u) (hY : YearsR yv r q b) (hyv0 : 0 ≤ yv ∧ yv ≤ 100) (hB : bdP r Yv) (hYv : 0 ≤ Yv ∧ Yv + yv ≤ 60000) (sz : Nat) : Met l yX3_yearsOn wsX3_yearsOn ({ frames := 7, cells := 0, slots := 0, locals := 158 }) (va_Pc [.ref hm, .int (iI (yv))] (WrP G (MW G hm adm u) sz)) (va_Qi (fun q9 (u' : mf_V) => ∃ z : Int, q9 = iI z ∧ rOK ulo uhi u' ∧ relU q u' ∧ frU u u' ∧ z = b) (fun (u' : mf_V) t => WrQ G (va_A (MW G hm adm u) sz) (MW G hm adm u') t) (va_A (MW G hm adm u) sz)) 0 0 (va_A (MW G hm adm u) sz) := by
  refine Met.ofW (cc := cX3_yearsOn) (maxL := 4) (ret := (some .int)) (by decide) rfl ?_
  intro p e s m args below meth c s₁ B hml hv
  obtain ⟨rfl, hsz, hP, hK, hD0, hN⟩ := hv
  have hx := B.exec
  have hb := B.bytes
  have hr := B.returns
  have hts := atoms_spec (ws := wsX3_yearsOn) B.pre
  have hown : s.vm.findClass RX3 = some m.cls := findClass_of_methodNamed B.named
  have hlocks := B.notSynchronized
  subst hsz
  have hD := hD0.self (sz := s.heap.size)
  generalize hAe : va_A (MW G hm adm u) s.heap.size = A at hD ⊢
  have hA : ∀ q : Nat, s.heap.size ≤ q → A q := fun q h => by rw [← hAe]; exact Or.inr h
  have hS : va_S A s.heap s.heap [] := va_S.rf
  have hl := lv_entry ([.ref hm, .int (iI (yv))]) (n := 4) (Nat.le_of_ble_eq_true rfl)
  rw [lg_entry_eq]
  generalize (lg_sl ([.ref hm, .int (iI (yv))]) ++ List.replicate (4 - (lg_sl ([.ref hm, .int (iI (yv))])).length) Slot.unset).toArray = ls at hl ⊢
  have hl : lv_has ls 4 [(0, .ref hm), (1, .int (iI (yv)))] := hl
  have hyv1 := hyv.1
  have hyv2 := hyv.2
  have okLr : (0 : Int) ≤ r 7 0 ∧ r 7 0 ≤ 150 := ok 7 0
  refine mf_iconst hx hb dX3_yearsOn_0 ?_
  refine lv_istore_n (lv' := [(2, .int (iI (0))), (0, .ref hm), (1, .int (iI (yv)))]) hx hb dX3_yearsOn_1 rfl hl (by decide) rfl (fun ls hl => ?_)
  refine mf_iconst hx hb dX3_yearsOn_2 ?_
  refine lv_istore_n (lv' := [(3, .int (iI (0))), (2, .int (iI (0))), (0, .ref hm), (1, .int (iI (yv)))]) hx hb dX3_yearsOn_3 rfl hl (by decide) rfl (fun ls hl => ?_)
  have lp4 : ∀ (n : Nat) (bv : Int) (kv : Int) (u1 : mf_V) (r1 : mf_V), (yv - kv).toNat < n → (0 ≤ kv ∧ kv ≤ yv) → (0 ≤ bv ∧ bv ≤ kv) → (rOK ulo uhi u1) → (frU u u1) → (relU r1 u1) → (bdP r1 (Yv + kv)) → (kv < yv → rOK rlo rhi r1 ∧ RInv r1) → (∃ b2, YearsN (yv - kv).toNat r1 q b2 ∧ b = bv + b2) → ∀ (H : Heap) (locs : List Loc), va_P G.1 vwCl (MW G hm adm u1) H → va_D A (MW G hm adm u1) → va_S A s.heap H locs → ∀ (ls : Array Slot), lv_has ls 4 [(0, .ref hm), (1, .int (iI (yv))), (2, .int (iI (bv))), (3, .int (iI (kv)))] → W p l e (headSpec wsX3_yearsOn ({ frames := 7, cells := 0, slots := 0, locals := 158 })).room s m ([.ref hm, .int (iI (yv))] : List Value).toArray below meth c H locs 0 0 (MQ below (va_Qi (fun q9 (u' : mf_V) => ∃ z : Int, q9 = iI z ∧ rOK ulo uhi u' ∧ relU q u' ∧ frU u u' ∧ z = b) (fun (u' : mf_V) t => WrQ G A (MW G hm adm u') t) A) ([.ref hm, .int (iI (yv))] : List Value).toArray s 0 0 A) (F0 m 4 ls []) := by
    intro n
    induction n with
    | zero => intro bv kv u1 r1 hn; exact absurd hn (Nat.not_lt_zero _)
    | succ n ih4 =>
      intro bv kv u1 r1 hn hk hbv oku1 hfr hrel1 hB1 hok1 hrest H locs hP hD hS ls hl
      refine lv_iload_n hx hb dX3_yearsOn_4 rfl (lv_at hl 3 rfl) ?_
      refine lv_iload_n hx hb dX3_yearsOn_5 rfl (lv_at hl 1 rfl) ?_
      refine mf_icmp_ge (tgt := 30) hx hb dX3_yearsOn_6 (by decide) (i32_mk (by omega) (by omega)) (i32_mk (by omega) (by omega)) (fun c1 => ?_) (fun c1 => ?_)
      · skip
        refine lv_iload_n hx hb dX3_yearsOn_30 rfl (lv_at hl 2 rfl) ?_
        obtain ⟨b2, hn2, hb2⟩ := hrest
        rw [show (yv - kv).toNat = 0 by omega] at hn2
        obtain ⟨hq1, hb4⟩ := hn2
        exact W.iret hx hb hr (fun t ht hW => ⟨⟨_, u1, rfl, ⟨_, rfl, by exact ⟨oku1, by rw [hq1]; exact hrel1, hfr, by omega⟩⟩, by rw [ht]; exact hP, hD⟩, hS.F ht⟩) hS.2.2 dX3_yearsOn_31
      · skip
        obtain ⟨b2, hn2, hb2⟩ := hrest
        obtain ⟨okr1, hI1⟩ := hok1 (by omega)
        rw [show (yv - kv).toNat = (yv - (kv + 1)).toNat + 1 by omega] at hn2
        obtain ⟨r2, c1, c2, hy1, hok2, hn3, hb3⟩ := YearsN_h _ okr1 hI1 hn2
        have hbd := YearR_bd okr1 hy1 hB1
        have hc9 := hbd.2
        refine lv_iload_n hx hb dX3_yearsOn_9 rfl (lv_at hl 2 rfl) ?_
        refine lv_aload_n hx hb dX3_yearsOn_10 rfl (lv_at hl 0 rfl) ?_
        have hFc := va_free (wc := MW G hm adm u1) hD hS hA [0, 1, 2, 3, 4, 5, 6, 7, 8, 9] rfl
        refine va_calli (va_runV (As := []) (rest := [.int (iI (bv))]) ⟨hx, hb, hml, hown, hts⟩ (c_X3_yearOn l G hm adm u1 (r1) (r2) (c1) (by assumption) (by exact okr1) (by exact hI1) (by exact hrel1) (by exact hy1) (by intro c; have := hB1.2.2 c; omega) (by have := hB1.2.1; omega) _) (cwV 0 hts gX3_yearsOn_X3_yearOn rfl rfl rfl (by decide +kernel) ⟨Nat.le_of_ble_eq_true rfl, Nat.le_of_ble_eq_true rfl⟩) (wrV (wc := MW G hm adm u1) hK hP hD hN [0, 1, 2, 3, 4, 5, 6, 7, 8, 9] (by decide) rfl rfl (ci := 3) rfl rfl) rfl rfl hl.1 rfl (lv_room (Nat.le_of_ble_eq_true rfl)) dX3_yearsOn_11 ⟨(Nat.zero_le _), (Nat.zero_le _)⟩) hS (fun q _ h => hFc q h) hFc (fun q2 u3 t H1 locs ht hvm hw hB hz1 hk1 hS => ?_)
        obtain ⟨u4, rfl⟩ : ∃ z, z = u3 := ⟨_, rfl⟩
        try dsimp only at hw hB
        obtain ⟨hP, hD⟩ := wrJ (ws := MW G hm adm u1) (w1 := MW G hm adm u4) ht hFc hB
        have hP : va_P G.1 vwCl (MW G hm adm u4) H1 := hP
        have hD : va_D A (MW G hm adm u4) := hD
        clear hB hk1 hFc ht hz1 hvm
        generalize H1 = H at hP hS ⊢
        obtain ⟨z6, rfl, w5⟩ := hw
        have oku4 : rOK ulo uhi u4 := w5.1
        have hz9 := w5.2.2.2
        refine mf_if_eq (tgt := 21) hx hb dX3_yearsOn_14 (by decide) (i32_mk (by omega) (by omega)) (fun c7 => ?_) (fun c7 => ?_)
        · skip
          refine mf_iconst hx hb dX3_yearsOn_21 ?_
          refine mf_iadd hx hb dX3_yearsOn_22 ?_
          refine lv_istore_n (lv' := [(2, .int (iI (bv + 0))), (0, .ref hm), (1, .int (iI (yv))), (3, .int (iI (kv)))]) hx hb dX3_yearsOn_23 rfl hl (by decide) rfl (fun ls hl => ?_)
          refine lv_iinc (v := iI (kv + 1)) (lv' := [(3, .int (iI (kv + 1))), (2, .int (iI (bv + 0))), (0, .ref hm), (1, .int (iI (yv)))]) hx hb dX3_yearsOn_24 hl (k := 3) rfl (iI_add _ _).symm (by decide) rfl (fun ls hl => ?_)
          refine lv_goto (tgt := 4) hx hb dX3_yearsOn_27 (by decide) ?_
          exact ih4 (bv + 0) (kv + 1) u4 (r2) (by omega) (by first | assumption | omega) (by first | assumption | omega) (by first | assumption | omega) (by exact frU_t hfr w5.2.2.1) (by exact w5.2.1) (by rw [← Int.add_assoc]; exact hbd.1) (by intro hz; exact hok2 (by omega)) (by exact ⟨c2, hn3, by omega⟩) _ _ hP hD hS ls (lv_sub hl [2, 3, 1, 0] rfl)
        · skip
          refine mf_iconst hx hb dX3_yearsOn_17 ?_
          refine lv_goto (tgt := 22) hx hb dX3_yearsOn_18 (by decide) ?_
          refine mf_iadd hx hb dX3_yearsOn_22 ?_
          refine lv_istore_n (lv' := [(2, .int (iI (bv + 1))), (0, .ref hm), (1, .int (iI (yv))), (3, .int (iI (kv)))]) hx hb dX3_yearsOn_23 rfl hl (by decide) rfl (fun ls hl => ?_)
          refine lv_iinc (v := iI (kv + 1)) (lv' := [(3, .int (iI (kv + 1))), (2, .int (iI (bv + 1))), (0, .ref hm), (1, .int (iI (yv)))]) hx hb dX3_yearsOn_24 hl (k := 3) rfl (iI_add _ _).symm (by decide) rfl (fun ls hl => ?_)
          refine lv_goto (tgt := 4) hx hb dX3_yearsOn_27 (by decide) ?_
          exact ih4 (bv + 1) (kv + 1) u4 (r2) (by omega) (by first | assumption | omega) (by first | assumption | omega) (by first | assumption | omega) (by exact frU_t hfr w5.2.2.1) (by exact w5.2.1) (by rw [← Int.add_assoc]; exact hbd.1) (by intro hz; exact hok2 (by omega)) (by exact ⟨c2, hn3, by omega⟩) _ _ hP hD hS ls (lv_sub hl [2, 3, 1, 0] rfl)
  exact lp4 (_ + 1) 0 0 u (r) (Nat.lt_succ_self _) (by first | assumption | omega) (by first | assumption | omega) (by first | assumption | omega) (by exact frU_r u) (by exact hrel) (by rw [Int.add_zero]; exact hB) (by intro _; exact ⟨ok, hI⟩) (by exact ⟨b, by rw [Int.sub_zero]; exact hY, by omega⟩) _ _ hP hD hS ls (lv_sub hl [2, 3, 1, 0] rfl)
set_option maxHeartbeats 4000000 in
set_option maxRecDepth 100000 in
theorem c_X3_fail (l : Launch) (G : mf_G) (hm : Nat) (adm : Nat → Nat) (u : mf_V)  (kv : Int) (hkv : i32 kv) (oku : rOK ulo uhi u) (hk9 : 0 ≤ kv ∧ kv ≤ 9) (sz : Nat) : Met l yX3_fail wsX3_fail ({ frames := 0, cells := 0, slots := 0, locals := 0 }) (va_Pc [.ref hm, .int (iI (kv))] (WrP G (MW G hm adm u) sz)) (va_Qi (fun q9 (u' : mf_V) => ∃ z : Int, q9 = iI z ∧ rOK ulo uhi u' ∧ (∀ k, k ≠ 0 → u' k = u k) ∧ u' 0 0 = kv ∧ z = 0) (fun (u' : mf_V) t => WrQ G (va_A (MW G hm adm u) sz) (MW G hm adm u') t) (va_A (MW G hm adm u) sz)) 0 0 (va_A (MW G hm adm u) sz) := by
  refine Met.ofW (cc := cX3_fail) (maxL := 2) (ret := (some .int)) (by decide) rfl ?_
  intro p e s m args below meth c s₁ B hml hv
  obtain ⟨rfl, hsz, hP, hK, hD0, hN⟩ := hv
  have hx := B.exec
  have hb := B.bytes
  have hr := B.returns
  have hts := atoms_spec (ws := wsX3_fail) B.pre
  have hown : s.vm.findClass RX3 = some m.cls := findClass_of_methodNamed B.named
  have hlocks := B.notSynchronized
  have hinX3 : ∀ w ∈ u_ws RX3 TX3 11, w ∈ wsX3_fail := fun w h => List.mem_cons_of_mem _ (List.mem_append_right _ h)
  subst hsz
  have hD := hD0.self (sz := s.heap.size)
  generalize hAe : va_A (MW G hm adm u) s.heap.size = A at hD ⊢
  have hA : ∀ q : Nat, s.heap.size ≤ q → A q := fun q h => by rw [← hAe]; exact Or.inr h
  have hS : va_S A s.heap s.heap [] := va_S.rf
  have hl := lv_entry ([.ref hm, .int (iI (kv))]) (n := 2) (Nat.le_of_ble_eq_true rfl)
  rw [lg_entry_eq]
  generalize (lg_sl ([.ref hm, .int (iI (kv))]) ++ List.replicate (2 - (lg_sl ([.ref hm, .int (iI (kv))])).length) Slot.unset).toArray = ls at hl ⊢
  have hl : lv_has ls 2 [(0, .ref hm), (1, .int (iI (kv)))] := hl
  have hkv1 := hkv.1
  have hkv2 := hkv.2
  refine lv_aload_n hx hb dX3_fail_0 rfl (lv_at hl 0 rfl) ?_
  refine lv_iload_n hx hb dX3_fail_1 rfl (lv_at hl 1 rfl) ?_
  refine va_put (D := G.1) (ci := 3) (v := .int (iI (kv))) (ty := .int) (C := RX3) (T := TX3) (N := 11) hx hb hts hinX3 tyX3 tyX3_ok nmX3 hown hK hP hD hS 0 rfl rfl 0 (by decide) (hts (.fieldLink RX3 41 "MeanderFarmModel" "thrown" "I") (List.mem_of_getElem? (i := 1) rfl)) (fun _ h9 => h9) rfl (by decide +kernel) rfl rfl (Nat.le_of_ble_eq_true rfl) dX3_fail_2 (fun H locs hP hD hS => ?_)
  obtain ⟨u1, eu1⟩ : ∃ z9 : mf_V, z9 = mf_sF u 0 (fun _ => kv) := ⟨_, rfl⟩
  have hP : va_P G.1 vwCl (MW G hm adm u1) H := by rw [eu1]; exact hP
  have hD : va_D A (MW G hm adm u1) := by rw [eu1]; exact hD
  have oku1 : rOK ulo uhi u1 := by rw [eu1]; exact rOK_set oku 0 _ (show (-1 : Int) ≤ kv by omega) (show kv ≤ (9 : Int) by omega)
  have f1_u1 : ∀ y, u1 0 y = kv := fun y => by rw [eu1, mf_sF_s]
  have f3_u1 : ∀ q, q ≠ 0 → u1 q = u q := fun q hq => by rw [eu1, mf_sF_n hq]
  refine mf_iconst hx hb dX3_fail_5 ?_
  exact W.iret hx hb hr (fun t ht hW => ⟨⟨_, u1, rfl, ⟨_, rfl, by exact ⟨oku1, f3_u1, f1_u1 0, rfl⟩⟩, by rw [ht]; exact hP, hD⟩, hS.F ht⟩) hS.2.2 dX3_fail_6
set_option maxHeartbeats 4000000 in
set_option maxRecDepth 100000 in
theorem c_X3_setHardness (l : Launch) (G : mf_G) (hm : Nat) (adm : Nat → Nat) (u : mf_V)  (xv : Int) (yv : Int) (hv : Int) (r : mf_V) (hxv : i32 xv) (hyv : i32 yv) (hhv : i32 hv) (oku : rOK ulo uhi u) (ok : rOK rlo rhi r) (hI : RInv r) (hrel : relU r u) (sz : Nat) : Met l yX3_setHardness wsX3_setHardness ({ frames := 2, cells := 0, slots := 0, locals := 43 }) (va_Pc [.ref hm, .int (iI (xv)), .int (iI (yv)), .int (iI (hv))] (WrP G (MW G hm adm u) sz)) (va_Qi (fun q9 (u' : mf_V) => ∃ z : Int, q9 = iI z ∧ rOK ulo uhi u' ∧ frF u u' ∧ u' 0 0 = kHard xv yv hv ∧ (kHard xv yv hv = 0 → relU (mf_sF r 0 (mf_up (r 0) (xv + 24 * yv) hv)) u' ∧ z = r 0 (xv + 24 * yv)) ∧ (¬ kHard xv yv hv = 0 → relU r u')) (fun (u' : mf_V) t => WrQ G (va_A (MW G hm adm u) sz) (MW G hm adm u') t) (va_A (MW G hm adm u) sz)) 0 0 (va_A (MW G hm adm u) sz) := by
  refine Met.ofW (cc := cX3_setHardness) (maxL := 5) (ret := (some .int)) (by decide) rfl ?_
  intro p e s m args below meth c s₁ B hml hv
  obtain ⟨rfl, hsz, hP, hK, hD0, hN⟩ := hv
  have hx := B.exec
  have hb := B.bytes
  have hr := B.returns
  have hts := atoms_spec (ws := wsX3_setHardness) B.pre
  have hown : s.vm.findClass RX3 = some m.cls := findClass_of_methodNamed B.named
  have hlocks := B.notSynchronized
  have hinX3 : ∀ w ∈ u_ws RX3 TX3 11, w ∈ wsX3_setHardness := fun w h => List.mem_cons_of_mem _ (List.mem_append_right _ h)
  subst hsz
  have hD := hD0.self (sz := s.heap.size)
  generalize hAe : va_A (MW G hm adm u) s.heap.size = A at hD ⊢
  have hA : ∀ q : Nat, s.heap.size ≤ q → A q := fun q h => by rw [← hAe]; exact Or.inr h
  have hS : va_S A s.heap s.heap [] := va_S.rf
  have hl := lv_entry ([.ref hm, .int (iI (xv)), .int (iI (yv)), .int (iI (hv))]) (n := 5) (Nat.le_of_ble_eq_true rfl)
  rw [lg_entry_eq]
  generalize (lg_sl ([.ref hm, .int (iI (xv)), .int (iI (yv)), .int (iI (hv))]) ++ List.replicate (5 - (lg_sl ([.ref hm, .int (iI (xv)), .int (iI (yv)), .int (iI (hv))])).length) Slot.unset).toArray = ls at hl ⊢
  have hl : lv_has ls 5 [(0, .ref hm), (1, .int (iI (xv))), (2, .int (iI (yv))), (3, .int (iI (hv)))] := hl
  have hxv1 := hxv.1
  have hxv2 := hxv.2
  have hyv1 := hyv.1
  have hyv2 := hyv.2
  have hhv1 := hhv.1
  have hhv2 := hhv.2
  have okLr : (0 : Int) ≤ r 7 0 ∧ r 7 0 ≤ 150 := ok 7 0
  refine lv_aload_n hx hb dX3_setHardness_0 rfl (lv_at hl 0 rfl) ?_
  refine mf_iconst hx hb dX3_setHardness_1 ?_
  refine va_put (D := G.1) (ci := 3) (v := .int (iI (0))) (ty := .int) (C := RX3) (T := TX3) (N := 11) hx hb hts hinX3 tyX3 tyX3_ok nmX3 hown hK hP hD hS 0 rfl rfl 0 (by decide) (hts (.fieldLink RX3 41 "MeanderFarmModel" "thrown" "I") (List.mem_of_getElem? (i := 1) rfl)) (fun _ h9 => h9) rfl (by decide +kernel) rfl rfl (Nat.le_of_ble_eq_true rfl) dX3_setHardness_2 (fun H locs hP hD hS => ?_)
  obtain ⟨u1, eu1⟩ : ∃ z9 : mf_V, z9 = mf_sF u 0 (fun _ => 0) := ⟨_, rfl⟩
  have hP : va_P G.1 vwCl (MW G hm adm u1) H := by rw [eu1]; exact hP
  have hD : va_D A (MW G hm adm u1) := by rw [eu1]; exact hD
  have oku1 : rOK ulo uhi u1 := by rw [eu1]; exact rOK_set oku 0 _ (show (-1 : Int) ≤ 0 by omega) (show 0 ≤ (9 : Int) by omega)
  have f1_u1 : ∀ y, u1 0 y = 0 := fun y => by rw [eu1, mf_sF_s]
  have f3_u1 : ∀ q, q ≠ 0 → u1 q = u q := fun q hq => by rw [eu1, mf_sF_n hq]
  have hrel1 : relU r u1 := relU_cg f3_u1 hrel
  have hz0 : u1 0 0 = 0 := f1_u1 0
  have hfF : frF u u1 := ⟨f3_u1 4 (by decide), f3_u1 5 (by decide)⟩
  refine lv_iload_n hx hb dX3_setHardness_5 rfl (lv_at hl 1 rfl) ?_
  refine lv_iload_n hx hb dX3_setHardness_6 rfl (lv_at hl 2 rfl) ?_
  refine vp_callSi (va_Run.run (va_runS (As := [.int (iI (xv)), .int (iI (yv))]) (rest := []) ⟨hx, hb, hml, hown, hts⟩ (c_X3_isCell l (xv) (yv) (i32_mk (by omega) (by omega)) (i32_mk (by omega) (by omega))) (va_cwS 2 hts gX3_setHardness_X3_isCell rfl rfl rfl (by decide +kernel) ⟨Nat.le_of_ble_eq_true rfl, Nat.le_of_ble_eq_true rfl⟩) pureS rfl rfl hl.1 rfl (lv_room (Nat.le_of_ble_eq_true rfl)) dX3_setHardness_7 ⟨(Nat.zero_le _), (Nat.zero_le _)⟩)) (fun q2 hq2 => ?_)
  subst hq2
  refine mf_bp_ne (tgt := 19) hx hb dX3_setHardness_10 (by decide) (fun c3 => ?_) (fun c3 => ?_)
  · skip
    refine lv_iload_n hx hb dX3_setHardness_19 rfl (lv_at hl 3 rfl) ?_
    refine mf_iconst hx hb dX3_setHardness_20 ?_
    refine mf_bipush hx hb dX3_setHardness_21 rfl ?_
    refine vp_callSi (va_Run.run (va_runS (As := [.int (iI (hv)), .int (iI (1)), .int (iI (9))]) (rest := []) ⟨hx, hb, hml, hown, hts⟩ (c_X3_isIn l (hv) (1) (9) (i32_mk (by omega) (by omega)) (i32_mk (by decide) (by decide)) (i32_mk (by decide) (by decide))) (va_cwS 3 hts gX3_setHardness_X3_isIn rfl rfl rfl (by decide +kernel) ⟨Nat.le_of_ble_eq_true rfl, Nat.le_of_ble_eq_true rfl⟩) pureS rfl rfl hl.1 rfl (lv_room (Nat.le_of_ble_eq_true rfl)) dX3_setHardness_23 ⟨(Nat.zero_le _), (Nat.zero_le _)⟩)) (fun q4 hq4 => ?_)
    subst hq4
    refine mf_bp_ne (tgt := 35) hx hb dX3_setHardness_26 (by decide) (fun c5 => ?_) (fun c5 => ?_)
    · skip
      refine lv_aload_n hx hb dX3_setHardness_35 rfl (lv_at hl 0 rfl) ?_
      refine va_get (D := G.1) (ci := 3) (v := .ref (adm 1)) (C := RX3) (T := TX3) (N := 11) hx hb hts hinX3 hown hK hP 0 rfl rfl 1 (by decide) (hts (.fieldLink RX3 9 "MeanderFarmModel" "hardness" "[I") (List.mem_of_getElem? (i := 2) rfl)) (fun _ h9 => h9) rfl dX3_setHardness_36 ?_
      refine lv_iload_n hx hb dX3_setHardness_39 rfl (lv_at hl 1 rfl) ?_
      refine mf_bipush hx hb dX3_setHardness_40 rfl ?_
      refine lv_iload_n hx hb dX3_setHardness_42 rfl (lv_at hl 2 rfl) ?_
      refine mf_imul hx hb dX3_setHardness_43 ?_
      refine mf_iadd hx hb dX3_setHardness_44 ?_
      refine mf_iald (n := 384) (f := u1 1) hx hb hK hP 1 0 rfl rfl (z := xv + (24 * yv)) (by omega) (by omega) (by decide) dX3_setHardness_45 ?_
      refine mf_top (u1 1 (xv + (24 * yv))) (r 0 (xv + (24 * yv))) (by rw [f3_u1 1 (by decide), (rel1 hrel (z := xv + (24 * yv)) (by omega) (by omega))]) ?_
      have b6 : (0 : Int) ≤ r 0 (xv + (24 * yv)) ∧ r 0 (xv + (24 * yv)) ≤ 9 := ok 0 (xv + (24 * yv))
      refine lv_istore (lv' := [(4, .int (iI (r 0 (xv + (24 * yv))))), (0, .ref hm), (1, .int (iI (xv))), (2, .int (iI (yv))), (3, .int (iI (hv)))]) hx hb dX3_setHardness_46 hl (by decide) rfl (fun ls hl => ?_)
      refine lv_aload_n hx hb dX3_setHardness_48 rfl (lv_at hl 1 rfl) ?_
      refine va_get (D := G.1) (ci := 3) (v := .ref (adm 1)) (C := RX3) (T := TX3) (N := 11) hx hb hts hinX3 hown hK hP 0 rfl rfl 1 (by decide) (hts (.fieldLink RX3 9 "MeanderFarmModel" "hardness" "[I") (List.mem_of_getElem? (i := 2) rfl)) (fun _ h9 => h9) rfl dX3_setHardness_49 ?_
      refine lv_iload_n hx hb dX3_setHardness_52 rfl (lv_at hl 2 rfl) ?_
      refine mf_bipush hx hb dX3_setHardness_53 rfl ?_
      refine lv_iload_n hx hb dX3_setHardness_55 rfl (lv_at hl 3 rfl) ?_
      refine mf_imul hx hb dX3_setHardness_56 ?_
      refine mf_iadd hx hb dX3_setHardness_57 ?_
      refine lv_iload_n hx hb dX3_setHardness_58 rfl (lv_at hl 4 rfl) ?_
      refine mf_iast (n := 384) (f := u1 1) hx hb hK hP hD hS 1 0 rfl rfl (z := xv + (24 * yv)) (x := hv) (by omega) (by omega) (by decide) dX3_setHardness_59 (fun H locs hP hD hS => ?_)
      obtain ⟨u7, eu7⟩ : ∃ z9 : mf_V, z9 = mf_sF u1 1 (mf_up (u1 1) (xv + (24 * yv)) (hv)) := ⟨_, rfl⟩
      have hP : va_P G.1 vwCl (MW G hm adm u7) H := by rw [eu7]; exact hP
      have hD : va_D A (MW G hm adm u7) := by rw [eu7]; exact hD
      have oku7 : rOK ulo uhi u7 := by rw [eu7]; exact rOK_up oku1 1 _ _ (show (0 : Int) ≤ hv by omega) (show hv ≤ (9 : Int) by omega)
      have f1_u7 : u7 1 (xv + (24 * yv)) = hv := by rw [eu7, mf_sF_s, mf_up_s]
      have f2_u7 : ∀ y, y ≠ (xv + (24 * yv)) → u7 1 y = u1 1 y := fun y hy => by rw [eu7, mf_sF_s, mf_up_n hy]
      have f3_u7 : ∀ q, q ≠ 1 → u7 q = u1 q := fun q hq => by rw [eu7, mf_sF_n hq]
      refine lv_iload hx hb dX3_setHardness_60 (lv_at hl 0 rfl) ?_
      have hk9 : kHard xv yv hv = 0 := (mf_if_f (fun z => z (by assumption))).trans (mf_if_f (fun z => z (by assumption)))
      have hg : frF u u7 := ⟨by rw [f3_u7 4 (by decide)]; exact hfF.1, by rw [f3_u7 5 (by decide)]; exact hfF.2⟩
      exact W.iret hx hb hr (fun t ht hW => ⟨⟨_, u7, rfl, ⟨_, rfl, by exact ⟨oku7, hg, by rw [hk9, f3_u7 0 (by decide)]; exact hz0, fun _ => ⟨relU_f0 hrel f1_u7 (fun y hy => by rw [f2_u7 y hy, f3_u1 1 (by decide)]) (fun k h0 h1 => by rw [f3_u7 k h1, f3_u1 k h0]), by rfl⟩, fun z9 => absurd hk9 z9⟩⟩, by rw [ht]; exact hP, hD⟩, hS.F ht⟩) hS.2.2 dX3_setHardness_62
    · skip
      refine lv_aload_n hx hb dX3_setHardness_29 rfl (lv_at hl 0 rfl) ?_
      refine mf_iconst hx hb dX3_setHardness_30 ?_
      have hFc := va_free (wc := MW G hm adm u1) hD hS hA [0, 1, 2, 3, 4, 5, 6, 7, 8, 9] rfl
      refine va_calli (va_runV (As := [.int (iI (2))]) (rest := []) ⟨hx, hb, hml, hown, hts⟩ (c_X3_fail l G hm adm u1 (2) (i32_mk (by decide) (by decide)) (by assumption) (by first | assumption | omega) _) (cwV 1 hts gX3_setHardness_X3_fail rfl rfl rfl (by decide +kernel) ⟨Nat.le_of_ble_eq_true rfl, Nat.le_of_ble_eq_true rfl⟩) (wrV (wc := MW G hm adm u1) hK hP hD hN [0, 1, 2, 3, 4, 5, 6, 7, 8, 9] (by decide) rfl rfl (ci := 3) rfl rfl) rfl rfl hl.1 rfl (lv_room (Nat.le_of_ble_eq_true rfl)) dX3_setHardness_31 ⟨(Nat.zero_le _), (Nat.zero_le _)⟩) hS (fun q _ h => hFc q h) hFc (fun q8 u9 t H1 locs ht hvm hw hB hz1 hk1 hS => ?_)
      obtain ⟨u10, rfl⟩ : ∃ z, z = u9 := ⟨_, rfl⟩
      try dsimp only at hw hB
      obtain ⟨hP, hD⟩ := wrJ (ws := MW G hm adm u1) (w1 := MW G hm adm u10) ht hFc hB
      have hP : va_P G.1 vwCl (MW G hm adm u10) H1 := hP
      have hD : va_D A (MW G hm adm u10) := hD
      clear hB hk1 hFc ht hz1 hvm
      generalize H1 = H at hP hS ⊢
      obtain ⟨z12, rfl, w11⟩ := hw
      have oku10 : rOK ulo uhi u10 := w11.1
      have hk9 : kHard xv yv hv = 2 := (mf_if_f (fun z => z (by assumption))).trans (mf_if_t (by assumption))
      exact W.iret hx hb hr (fun t ht hW => ⟨⟨_, u10, rfl, ⟨_, rfl, by exact ⟨w11.1, ⟨(w11.2.1 4 (by decide)).trans hfF.1, (w11.2.1 5 (by decide)).trans hfF.2⟩, by rw [hk9]; exact w11.2.2.1, fun z9 => by rw [hk9] at z9; omega, fun _ => relU_cg w11.2.1 hrel1⟩⟩, by rw [ht]; exact hP, hD⟩, hS.F ht⟩) hS.2.2 dX3_setHardness_34
  · skip
    refine lv_aload_n hx hb dX3_setHardness_13 rfl (lv_at hl 0 rfl) ?_
    refine mf_iconst hx hb dX3_setHardness_14 ?_
    have hFc := va_free (wc := MW G hm adm u1) hD hS hA [0, 1, 2, 3, 4, 5, 6, 7, 8, 9] rfl
    refine va_calli (va_runV (As := [.int (iI (1))]) (rest := []) ⟨hx, hb, hml, hown, hts⟩ (c_X3_fail l G hm adm u1 (1) (i32_mk (by decide) (by decide)) (by assumption) (by first | assumption | omega) _) (cwV 1 hts gX3_setHardness_X3_fail rfl rfl rfl (by decide +kernel) ⟨Nat.le_of_ble_eq_true rfl, Nat.le_of_ble_eq_true rfl⟩) (wrV (wc := MW G hm adm u1) hK hP hD hN [0, 1, 2, 3, 4, 5, 6, 7, 8, 9] (by decide) rfl rfl (ci := 3) rfl rfl) rfl rfl hl.1 rfl (lv_room (Nat.le_of_ble_eq_true rfl)) dX3_setHardness_15 ⟨(Nat.zero_le _), (Nat.zero_le _)⟩) hS (fun q _ h => hFc q h) hFc (fun q13 u14 t H1 locs ht hvm hw hB hz1 hk1 hS => ?_)
    obtain ⟨u15, rfl⟩ : ∃ z, z = u14 := ⟨_, rfl⟩
    try dsimp only at hw hB
    obtain ⟨hP, hD⟩ := wrJ (ws := MW G hm adm u1) (w1 := MW G hm adm u15) ht hFc hB
    have hP : va_P G.1 vwCl (MW G hm adm u15) H1 := hP
    have hD : va_D A (MW G hm adm u15) := hD
    clear hB hk1 hFc ht hz1 hvm
    generalize H1 = H at hP hS ⊢
    obtain ⟨z17, rfl, w16⟩ := hw
    have oku15 : rOK ulo uhi u15 := w16.1
    have hk9 : kHard xv yv hv = 1 := mf_if_t (by assumption)
    exact W.iret hx hb hr (fun t ht hW => ⟨⟨_, u15, rfl, ⟨_, rfl, by exact ⟨w16.1, ⟨(w16.2.1 4 (by decide)).trans hfF.1, (w16.2.1 5 (by decide)).trans hfF.2⟩, by rw [hk9]; exact w16.2.2.1, fun z9 => by rw [hk9] at z9; omega, fun _ => relU_cg w16.2.1 hrel1⟩⟩, by rw [ht]; exact hP, hD⟩, hS.F ht⟩) hS.2.2 dX3_setHardness_18
set_option maxHeartbeats 4000000 in
set_option maxRecDepth 100000 in
theorem c_X3_setFlow (l : Launch) (G : mf_G) (hm : Nat) (adm : Nat → Nat) (u : mf_V)  (yv : Int) (fv : Int) (r : mf_V) (hyv : i32 yv) (hfv : i32 fv) (oku : rOK ulo uhi u) (ok : rOK rlo rhi r) (hI : RInv r) (hrel : relU r u) (sz : Nat) : Met l yX3_setFlow wsX3_setFlow ({ frames := 1, cells := 0, slots := 0, locals := 22 }) (va_Pc [.ref hm, .int (iI (yv)), .int (iI (fv))] (WrP G (MW G hm adm u) sz)) (va_Qi (fun q9 (u' : mf_V) => ∃ z : Int, q9 = iI z ∧ rOK ulo uhi u' ∧ frF u u' ∧ u' 0 0 = kFlow yv fv ∧ (kFlow yv fv = 0 → relU (mf_sF r 5 (mf_up (r 5) yv fv)) u' ∧ z = r 5 yv) ∧ (¬ kFlow yv fv = 0 → relU r u')) (fun (u' : mf_V) t => WrQ G (va_A (MW G hm adm u) sz) (MW G hm adm u') t) (va_A (MW G hm adm u) sz)) 0 0 (va_A (MW G hm adm u) sz) := by
  refine Met.ofW (cc := cX3_setFlow) (maxL := 4) (ret := (some .int)) (by decide) rfl ?_
  intro p e s m args below meth c s₁ B hml hv
  obtain ⟨rfl, hsz, hP, hK, hD0, hN⟩ := hv
  have hx := B.exec
  have hb := B.bytes
  have hr := B.returns
  have hts := atoms_spec (ws := wsX3_setFlow) B.pre
  have hown : s.vm.findClass RX3 = some m.cls := findClass_of_methodNamed B.named
  have hlocks := B.notSynchronized
  have hinX3 : ∀ w ∈ u_ws RX3 TX3 11, w ∈ wsX3_setFlow := fun w h => List.mem_cons_of_mem _ (List.mem_append_right _ h)
  subst hsz
  have hD := hD0.self (sz := s.heap.size)
  generalize hAe : va_A (MW G hm adm u) s.heap.size = A at hD ⊢
  have hA : ∀ q : Nat, s.heap.size ≤ q → A q := fun q h => by rw [← hAe]; exact Or.inr h
  have hS : va_S A s.heap s.heap [] := va_S.rf
  have hl := lv_entry ([.ref hm, .int (iI (yv)), .int (iI (fv))]) (n := 4) (Nat.le_of_ble_eq_true rfl)
  rw [lg_entry_eq]
  generalize (lg_sl ([.ref hm, .int (iI (yv)), .int (iI (fv))]) ++ List.replicate (4 - (lg_sl ([.ref hm, .int (iI (yv)), .int (iI (fv))])).length) Slot.unset).toArray = ls at hl ⊢
  have hl : lv_has ls 4 [(0, .ref hm), (1, .int (iI (yv))), (2, .int (iI (fv)))] := hl
  have hyv1 := hyv.1
  have hyv2 := hyv.2
  have hfv1 := hfv.1
  have hfv2 := hfv.2
  have okLr : (0 : Int) ≤ r 7 0 ∧ r 7 0 ≤ 150 := ok 7 0
  refine lv_aload_n hx hb dX3_setFlow_0 rfl (lv_at hl 0 rfl) ?_
  refine mf_iconst hx hb dX3_setFlow_1 ?_
  refine va_put (D := G.1) (ci := 3) (v := .int (iI (0))) (ty := .int) (C := RX3) (T := TX3) (N := 11) hx hb hts hinX3 tyX3 tyX3_ok nmX3 hown hK hP hD hS 0 rfl rfl 0 (by decide) (hts (.fieldLink RX3 41 "MeanderFarmModel" "thrown" "I") (List.mem_of_getElem? (i := 1) rfl)) (fun _ h9 => h9) rfl (by decide +kernel) rfl rfl (Nat.le_of_ble_eq_true rfl) dX3_setFlow_2 (fun H locs hP hD hS => ?_)
  obtain ⟨u1, eu1⟩ : ∃ z9 : mf_V, z9 = mf_sF u 0 (fun _ => 0) := ⟨_, rfl⟩
  have hP : va_P G.1 vwCl (MW G hm adm u1) H := by rw [eu1]; exact hP
  have hD : va_D A (MW G hm adm u1) := by rw [eu1]; exact hD
  have oku1 : rOK ulo uhi u1 := by rw [eu1]; exact rOK_set oku 0 _ (show (-1 : Int) ≤ 0 by omega) (show 0 ≤ (9 : Int) by omega)
  have f1_u1 : ∀ y, u1 0 y = 0 := fun y => by rw [eu1, mf_sF_s]
  have f3_u1 : ∀ q, q ≠ 0 → u1 q = u q := fun q hq => by rw [eu1, mf_sF_n hq]
  have hrel1 : relU r u1 := relU_cg f3_u1 hrel
  have hz0 : u1 0 0 = 0 := f1_u1 0
  have hfF : frF u u1 := ⟨f3_u1 4 (by decide), f3_u1 5 (by decide)⟩
  refine lv_iload_n hx hb dX3_setFlow_5 rfl (lv_at hl 1 rfl) ?_
  refine mf_iconst hx hb dX3_setFlow_6 ?_
  refine mf_bipush hx hb dX3_setFlow_7 rfl ?_
  refine vp_callSi (va_Run.run (va_runS (As := [.int (iI (yv)), .int (iI (0)), .int (iI (11))]) (rest := []) ⟨hx, hb, hml, hown, hts⟩ (c_X3_isIn l (yv) (0) (11) (i32_mk (by omega) (by omega)) (i32_mk (by decide) (by decide)) (i32_mk (by decide) (by decide))) (va_cwS 3 hts gX3_setFlow_X3_isIn rfl rfl rfl (by decide +kernel) ⟨Nat.le_of_ble_eq_true rfl, Nat.le_of_ble_eq_true rfl⟩) pureS rfl rfl hl.1 rfl (lv_room (Nat.le_of_ble_eq_true rfl)) dX3_setFlow_9 ⟨(Nat.zero_le _), (Nat.zero_le _)⟩)) (fun q2 hq2 => ?_)
  subst hq2
  refine mf_bp_ne (tgt := 21) hx hb dX3_setFlow_12 (by decide) (fun c3 => ?_) (fun c3 => ?_)
  · skip
    refine lv_iload_n hx hb dX3_setFlow_21 rfl (lv_at hl 2 rfl) ?_
    refine mf_iconst hx hb dX3_setFlow_22 ?_
    refine mf_bipush hx hb dX3_setFlow_23 rfl ?_
    refine vp_callSi (va_Run.run (va_runS (As := [.int (iI (fv)), .int (iI (1)), .int (iI (9))]) (rest := []) ⟨hx, hb, hml, hown, hts⟩ (c_X3_isIn l (fv) (1) (9) (i32_mk (by omega) (by omega)) (i32_mk (by decide) (by decide)) (i32_mk (by decide) (by decide))) (va_cwS 3 hts gX3_setFlow_X3_isIn rfl rfl rfl (by decide +kernel) ⟨Nat.le_of_ble_eq_true rfl, Nat.le_of_ble_eq_true rfl⟩) pureS rfl rfl hl.1 rfl (lv_room (Nat.le_of_ble_eq_true rfl)) dX3_setFlow_25 ⟨(Nat.zero_le _), (Nat.zero_le _)⟩)) (fun q4 hq4 => ?_)
    subst hq4
    refine mf_bp_ne (tgt := 37) hx hb dX3_setFlow_28 (by decide) (fun c5 => ?_) (fun c5 => ?_)
    · skip
      refine lv_aload_n hx hb dX3_setFlow_37 rfl (lv_at hl 0 rfl) ?_
      refine va_get (D := G.1) (ci := 3) (v := .ref (adm 3)) (C := RX3) (T := TX3) (N := 11) hx hb hts hinX3 hown hK hP 0 rfl rfl 3 (by decide) (hts (.fieldLink RX3 17 "MeanderFarmModel" "flow" "[I") (List.mem_of_getElem? (i := 2) rfl)) (fun _ h9 => h9) rfl dX3_setFlow_38 ?_
      refine lv_iload_n hx hb dX3_setFlow_41 rfl (lv_at hl 1 rfl) ?_
      refine mf_iald (n := 12) (f := u1 3) hx hb hK hP 3 0 rfl rfl (z := yv) (by omega) (by omega) (by decide) dX3_setFlow_42 ?_
      refine mf_top (u1 3 yv) (r 5 yv) (by rw [f3_u1 3 (by decide), (rel3 hrel (z := yv) (by omega) (by omega))]) ?_
      have b6 : (0 : Int) ≤ r 5 yv ∧ r 5 yv ≤ 9 := ok 5 (yv)
      refine lv_istore_n (lv' := [(3, .int (iI (r 5 yv))), (0, .ref hm), (1, .int (iI (yv))), (2, .int (iI (fv)))]) hx hb dX3_setFlow_43 rfl hl (by decide) rfl (fun ls hl => ?_)
      refine lv_aload_n hx hb dX3_setFlow_44 rfl (lv_at hl 1 rfl) ?_
      refine va_get (D := G.1) (ci := 3) (v := .ref (adm 3)) (C := RX3) (T := TX3) (N := 11) hx hb hts hinX3 hown hK hP 0 rfl rfl 3 (by decide) (hts (.fieldLink RX3 17 "MeanderFarmModel" "flow" "[I") (List.mem_of_getElem? (i := 2) rfl)) (fun _ h9 => h9) rfl dX3_setFlow_45 ?_
      refine lv_iload_n hx hb dX3_setFlow_48 rfl (lv_at hl 2 rfl) ?_
      refine lv_iload_n hx hb dX3_setFlow_49 rfl (lv_at hl 3 rfl) ?_
      refine mf_iast (n := 12) (f := u1 3) hx hb hK hP hD hS 3 0 rfl rfl (z := yv) (x := fv) (by omega) (by omega) (by decide) dX3_setFlow_50 (fun H locs hP hD hS => ?_)
      obtain ⟨u7, eu7⟩ : ∃ z9 : mf_V, z9 = mf_sF u1 3 (mf_up (u1 3) (yv) (fv)) := ⟨_, rfl⟩
      have hP : va_P G.1 vwCl (MW G hm adm u7) H := by rw [eu7]; exact hP
      have hD : va_D A (MW G hm adm u7) := by rw [eu7]; exact hD
      have oku7 : rOK ulo uhi u7 := by rw [eu7]; exact rOK_up oku1 3 _ _ (show (0 : Int) ≤ fv by omega) (show fv ≤ (9 : Int) by omega)
      have f1_u7 : u7 3 (yv) = fv := by rw [eu7, mf_sF_s, mf_up_s]
      have f2_u7 : ∀ y, y ≠ (yv) → u7 3 y = u1 3 y := fun y hy => by rw [eu7, mf_sF_s, mf_up_n hy]
      have f3_u7 : ∀ q, q ≠ 3 → u7 q = u1 q := fun q hq => by rw [eu7, mf_sF_n hq]
      refine lv_iload_n hx hb dX3_setFlow_51 rfl (lv_at hl 0 rfl) ?_
      have hk9 : kFlow yv fv = 0 := (mf_if_f (fun z => z (by assumption))).trans (mf_if_f (fun z => z (by assumption)))
      have hg : frF u u7 := ⟨by rw [f3_u7 4 (by decide)]; exact hfF.1, by rw [f3_u7 5 (by decide)]; exact hfF.2⟩
      exact W.iret hx hb hr (fun t ht hW => ⟨⟨_, u7, rfl, ⟨_, rfl, by exact ⟨oku7, hg, by rw [hk9, f3_u7 0 (by decide)]; exact hz0, fun _ => ⟨relU_f5 hrel f1_u7 (fun y hy => by rw [f2_u7 y hy, f3_u1 3 (by decide)]) (fun k h0 h1 => by rw [f3_u7 k h1, f3_u1 k h0]), by rfl⟩, fun z9 => absurd hk9 z9⟩⟩, by rw [ht]; exact hP, hD⟩, hS.F ht⟩) hS.2.2 dX3_setFlow_52
    · skip
      refine lv_aload_n hx hb dX3_setFlow_31 rfl (lv_at hl 0 rfl) ?_
      refine mf_iconst hx hb dX3_setFlow_32 ?_
      have hFc := va_free (wc := MW G hm adm u1) hD hS hA [0, 1, 2, 3, 4, 5, 6, 7, 8, 9] rfl
      refine va_calli (va_runV (As := [.int (iI (2))]) (rest := []) ⟨hx, hb, hml, hown, hts⟩ (c_X3_fail l G hm adm u1 (2) (i32_mk (by decide) (by decide)) (by assumption) (by first | assumption | omega) _) (cwV 1 hts gX3_setFlow_X3_fail rfl rfl rfl (by decide +kernel) ⟨Nat.le_of_ble_eq_true rfl, Nat.le_of_ble_eq_true rfl⟩) (wrV (wc := MW G hm adm u1) hK hP hD hN [0, 1, 2, 3, 4, 5, 6, 7, 8, 9] (by decide) rfl rfl (ci := 3) rfl rfl) rfl rfl hl.1 rfl (lv_room (Nat.le_of_ble_eq_true rfl)) dX3_setFlow_33 ⟨(Nat.zero_le _), (Nat.zero_le _)⟩) hS (fun q _ h => hFc q h) hFc (fun q8 u9 t H1 locs ht hvm hw hB hz1 hk1 hS => ?_)
      obtain ⟨u10, rfl⟩ : ∃ z, z = u9 := ⟨_, rfl⟩
      try dsimp only at hw hB
      obtain ⟨hP, hD⟩ := wrJ (ws := MW G hm adm u1) (w1 := MW G hm adm u10) ht hFc hB
      have hP : va_P G.1 vwCl (MW G hm adm u10) H1 := hP
      have hD : va_D A (MW G hm adm u10) := hD
      clear hB hk1 hFc ht hz1 hvm
      generalize H1 = H at hP hS ⊢
      obtain ⟨z12, rfl, w11⟩ := hw
      have oku10 : rOK ulo uhi u10 := w11.1
      have hk9 : kFlow yv fv = 2 := (mf_if_f (fun z => z (by assumption))).trans (mf_if_t (by assumption))
      exact W.iret hx hb hr (fun t ht hW => ⟨⟨_, u10, rfl, ⟨_, rfl, by exact ⟨w11.1, ⟨(w11.2.1 4 (by decide)).trans hfF.1, (w11.2.1 5 (by decide)).trans hfF.2⟩, by rw [hk9]; exact w11.2.2.1, fun z9 => by rw [hk9] at z9; omega, fun _ => relU_cg w11.2.1 hrel1⟩⟩, by rw [ht]; exact hP, hD⟩, hS.F ht⟩) hS.2.2 dX3_setFlow_36
  · skip
    refine lv_aload_n hx hb dX3_setFlow_15 rfl (lv_at hl 0 rfl) ?_
    refine mf_iconst hx hb dX3_setFlow_16 ?_
    have hFc := va_free (wc := MW G hm adm u1) hD hS hA [0, 1, 2, 3, 4, 5, 6, 7, 8, 9] rfl
    refine va_calli (va_runV (As := [.int (iI (1))]) (rest := []) ⟨hx, hb, hml, hown, hts⟩ (c_X3_fail l G hm adm u1 (1) (i32_mk (by decide) (by decide)) (by assumption) (by first | assumption | omega) _) (cwV 1 hts gX3_setFlow_X3_fail rfl rfl rfl (by decide +kernel) ⟨Nat.le_of_ble_eq_true rfl, Nat.le_of_ble_eq_true rfl⟩) (wrV (wc := MW G hm adm u1) hK hP hD hN [0, 1, 2, 3, 4, 5, 6, 7, 8, 9] (by decide) rfl rfl (ci := 3) rfl rfl) rfl rfl hl.1 rfl (lv_room (Nat.le_of_ble_eq_true rfl)) dX3_setFlow_17 ⟨(Nat.zero_le _), (Nat.zero_le _)⟩) hS (fun q _ h => hFc q h) hFc (fun q13 u14 t H1 locs ht hvm hw hB hz1 hk1 hS => ?_)
    obtain ⟨u15, rfl⟩ : ∃ z, z = u14 := ⟨_, rfl⟩
    try dsimp only at hw hB
    obtain ⟨hP, hD⟩ := wrJ (ws := MW G hm adm u1) (w1 := MW G hm adm u15) ht hFc hB
    have hP : va_P G.1 vwCl (MW G hm adm u15) H1 := hP
    have hD : va_D A (MW G hm adm u15) := hD
    clear hB hk1 hFc ht hz1 hvm
    generalize H1 = H at hP hS ⊢
    obtain ⟨z17, rfl, w16⟩ := hw
    have oku15 : rOK ulo uhi u15 := w16.1
    have hk9 : kFlow yv fv = 1 := mf_if_t (by assumption)
    exact W.iret hx hb hr (fun t ht hW => ⟨⟨_, u15, rfl, ⟨_, rfl, by exact ⟨w16.1, ⟨(w16.2.1 4 (by decide)).trans hfF.1, (w16.2.1 5 (by decide)).trans hfF.2⟩, by rw [hk9]; exact w16.2.2.1, fun z9 => by rw [hk9] at z9; omega, fun _ => relU_cg w16.2.1 hrel1⟩⟩, by rw [ht]; exact hP, hD⟩, hS.F ht⟩) hS.2.2 dX3_setFlow_20
set_option maxHeartbeats 4000000 in
set_option maxRecDepth 100000 in
theorem c_X3_count (l : Launch) (G : mf_G) (hm : Nat) (adm : Nat → Nat) (u : mf_V)  (wv : Int) (r : mf_V) (hwv : i32 wv) (oku : rOK ulo uhi u) (ok : rOK rlo rhi r) (hI : RInv r) (hrel : relU r u) (sz : Nat) : Met l yX3_count wsX3_count ({ frames := 3, cells := 0, slots := 0, locals := 66 }) (va_Pc [.ref hm, .int (iI (wv))] (WrP G (MW G hm adm u) sz)) (va_Qi (fun q9 (u' : mf_V) => ∃ z : Int, q9 = iI z ∧ rOK ulo uhi u' ∧ frF u u' ∧ u' 0 0 = kRng 0 7 wv ∧ (kRng 0 7 wv = 0 → relU r u' ∧ z = totF r (u 4 0) wv) ∧ (¬ kRng 0 7 wv = 0 → relU r u')) (fun (u' : mf_V) t => WrQ G (va_A (MW G hm adm u) sz) (MW G hm adm u') t) (va_A (MW G hm adm u) sz)) 0 0 (va_A (MW G hm adm u) sz) := by
  refine Met.ofW (cc := cX3_count) (maxL := 2) (ret := (some .int)) (by decide) rfl ?_
  intro p e s m args below meth c s₁ B hml hv
  obtain ⟨rfl, hsz, hP, hK, hD0, hN⟩ := hv
  have hx := B.exec
  have hb := B.bytes
  have hr := B.returns
  have hts := atoms_spec (ws := wsX3_count) B.pre
  have hown : s.vm.findClass RX3 = some m.cls := findClass_of_methodNamed B.named
  have hlocks := B.notSynchronized
  have hinX3 : ∀ w ∈ u_ws RX3 TX3 11, w ∈ wsX3_count := fun w h => List.mem_cons_of_mem _ (List.mem_append_right _ h)
  subst hsz
  have hD := hD0.self (sz := s.heap.size)
  generalize hAe : va_A (MW G hm adm u) s.heap.size = A at hD ⊢
  have hA : ∀ q : Nat, s.heap.size ≤ q → A q := fun q h => by rw [← hAe]; exact Or.inr h
  have hS : va_S A s.heap s.heap [] := va_S.rf
  have hl := lv_entry ([.ref hm, .int (iI (wv))]) (n := 2) (Nat.le_of_ble_eq_true rfl)
  rw [lg_entry_eq]
  generalize (lg_sl ([.ref hm, .int (iI (wv))]) ++ List.replicate (2 - (lg_sl ([.ref hm, .int (iI (wv))])).length) Slot.unset).toArray = ls at hl ⊢
  have hl : lv_has ls 2 [(0, .ref hm), (1, .int (iI (wv)))] := hl
  have hwv1 := hwv.1
  have hwv2 := hwv.2
  have okLr : (0 : Int) ≤ r 7 0 ∧ r 7 0 ≤ 150 := ok 7 0
  refine lv_aload_n hx hb dX3_count_0 rfl (lv_at hl 0 rfl) ?_
  refine mf_iconst hx hb dX3_count_1 ?_
  refine va_put (D := G.1) (ci := 3) (v := .int (iI (0))) (ty := .int) (C := RX3) (T := TX3) (N := 11) hx hb hts hinX3 tyX3 tyX3_ok nmX3 hown hK hP hD hS 0 rfl rfl 0 (by decide) (hts (.fieldLink RX3 41 "MeanderFarmModel" "thrown" "I") (List.mem_of_getElem? (i := 1) rfl)) (fun _ h9 => h9) rfl (by decide +kernel) rfl rfl (Nat.le_of_ble_eq_true rfl) dX3_count_2 (fun H locs hP hD hS => ?_)
  obtain ⟨u1, eu1⟩ : ∃ z9 : mf_V, z9 = mf_sF u 0 (fun _ => 0) := ⟨_, rfl⟩
  have hP : va_P G.1 vwCl (MW G hm adm u1) H := by rw [eu1]; exact hP
  have hD : va_D A (MW G hm adm u1) := by rw [eu1]; exact hD
  have oku1 : rOK ulo uhi u1 := by rw [eu1]; exact rOK_set oku 0 _ (show (-1 : Int) ≤ 0 by omega) (show 0 ≤ (9 : Int) by omega)
  have f1_u1 : ∀ y, u1 0 y = 0 := fun y => by rw [eu1, mf_sF_s]
  have f3_u1 : ∀ q, q ≠ 0 → u1 q = u q := fun q hq => by rw [eu1, mf_sF_n hq]
  have hrel1 : relU r u1 := relU_cg f3_u1 hrel
  have hz0 : u1 0 0 = 0 := f1_u1 0
  have hfF : frF u u1 := ⟨f3_u1 4 (by decide), f3_u1 5 (by decide)⟩
  refine lv_iload_n hx hb dX3_count_5 rfl (lv_at hl 1 rfl) ?_
  refine mf_iconst hx hb dX3_count_6 ?_
  refine mf_bipush hx hb dX3_count_7 rfl ?_
  refine vp_callSi (va_Run.run (va_runS (As := [.int (iI (wv)), .int (iI (0)), .int (iI (7))]) (rest := []) ⟨hx, hb, hml, hown, hts⟩ (c_X3_isIn l (wv) (0) (7) (i32_mk (by omega) (by omega)) (i32_mk (by decide) (by decide)) (i32_mk (by decide) (by decide))) (va_cwS 3 hts gX3_count_X3_isIn rfl rfl rfl (by decide +kernel) ⟨Nat.le_of_ble_eq_true rfl, Nat.le_of_ble_eq_true rfl⟩) pureS rfl rfl hl.1 rfl (lv_room (Nat.le_of_ble_eq_true rfl)) dX3_count_9 ⟨(Nat.zero_le _), (Nat.zero_le _)⟩)) (fun q2 hq2 => ?_)
  subst hq2
  refine mf_bp_eq (tgt := 23) hx hb dX3_count_12 (by decide) (fun c3 => ?_) (fun c3 => ?_)
  · skip
    refine lv_aload_n hx hb dX3_count_23 rfl (lv_at hl 0 rfl) ?_
    refine mf_iconst hx hb dX3_count_24 ?_
    have hFc := va_free (wc := MW G hm adm u1) hD hS hA [0, 1, 2, 3, 4, 5, 6, 7, 8, 9] rfl
    refine va_calli (va_runV (As := [.int (iI (1))]) (rest := []) ⟨hx, hb, hml, hown, hts⟩ (c_X3_fail l G hm adm u1 (1) (i32_mk (by decide) (by decide)) (by assumption) (by first | assumption | omega) _) (cwV 1 hts gX3_count_X3_fail rfl rfl rfl (by decide +kernel) ⟨Nat.le_of_ble_eq_true rfl, Nat.le_of_ble_eq_true rfl⟩) (wrV (wc := MW G hm adm u1) hK hP hD hN [0, 1, 2, 3, 4, 5, 6, 7, 8, 9] (by decide) rfl rfl (ci := 3) rfl rfl) rfl rfl hl.1 rfl (lv_room (Nat.le_of_ble_eq_true rfl)) dX3_count_25 ⟨(Nat.zero_le _), (Nat.zero_le _)⟩) hS (fun q _ h => hFc q h) hFc (fun q4 u5 t H1 locs ht hvm hw hB hz1 hk1 hS => ?_)
    obtain ⟨u6, rfl⟩ : ∃ z, z = u5 := ⟨_, rfl⟩
    try dsimp only at hw hB
    obtain ⟨hP, hD⟩ := wrJ (ws := MW G hm adm u1) (w1 := MW G hm adm u6) ht hFc hB
    have hP : va_P G.1 vwCl (MW G hm adm u6) H1 := hP
    have hD : va_D A (MW G hm adm u6) := hD
    clear hB hk1 hFc ht hz1 hvm
    generalize H1 = H at hP hS ⊢
    obtain ⟨z8, rfl, w7⟩ := hw
    have oku6 : rOK ulo uhi u6 := w7.1
    have hk9 : kRng 0 7 wv = 1 := mf_if_t (by assumption)
    exact W.iret hx hb hr (fun t ht hW => ⟨⟨_, u6, rfl, ⟨_, rfl, by exact ⟨w7.1, ⟨(w7.2.1 4 (by decide)).trans hfF.1, (w7.2.1 5 (by decide)).trans hfF.2⟩, by rw [hk9]; exact w7.2.2.1, fun z9 => by rw [hk9] at z9; omega, fun _ => relU_cg w7.2.1 hrel1⟩⟩, by rw [ht]; exact hP, hD⟩, hS.F ht⟩) hS.2.2 dX3_count_28
  · skip
    refine lv_aload_n hx hb dX3_count_15 rfl (lv_at hl 0 rfl) ?_
    refine lv_iload_n hx hb dX3_count_16 rfl (lv_at hl 1 rfl) ?_
    refine vp_callSi (va_Run.run (va_runV (As := [.int (iI (wv))]) (rest := []) ⟨hx, hb, hml, hown, hts⟩ (c_X3_counted l G hm adm u1 (wv) (r) (i32_mk (by omega) (by omega)) (by assumption) (by assumption) (by first | assumption | omega) (by first | assumption | omega) (by first | assumption | omega)) (cwV 1 hts gX3_count_X3_counted rfl rfl rfl (by decide +kernel) ⟨Nat.le_of_ble_eq_true rfl, Nat.le_of_ble_eq_true rfl⟩) (rdV (wc := MW G hm adm u1) hK hP hN [0, 1, 2, 3, 4, 5, 6, 7, 8, 9] rfl (ci := 3) rfl rfl) rfl rfl hl.1 rfl (lv_room (Nat.le_of_ble_eq_true rfl)) dX3_count_17 ⟨(Nat.zero_le _), (Nat.zero_le _)⟩)) (fun q9 hq9 => ?_)
    subst hq9
    refine lv_goto (tgt := 28) hx hb dX3_count_20 (by decide) ?_
    have hk9 : kRng 0 7 wv = 0 := mf_if_f (fun z => z (by assumption))
    exact W.iret hx hb hr (fun t ht hW => ⟨⟨_, u1, rfl, ⟨_, rfl, by exact ⟨oku1, hfF, by rw [hk9]; exact hz0, fun _ => ⟨hrel1, by rw [f3_u1 4 (by decide)]⟩, fun z9 => absurd hk9 z9⟩⟩, by rw [ht]; exact hP, hD⟩, hS.F ht⟩) hS.2.2 dX3_count_28
set_option maxHeartbeats 4000000 in
set_option maxRecDepth 100000 in
theorem c_X3_pass (l : Launch) (G : mf_G) (hm : Nat) (adm : Nat → Nat) (u : mf_V)  (yv : Int) (r : mf_V) (q : mf_V) (b : Int) (Yv : Int) (hyv : i32 yv) (oku : rOK ulo uhi u) (ok : rOK rlo rhi r) (hI : RInv r) (hrel : relU r u) (hB : bdP r Yv) (hYv : 0 ≤ Yv ∧ Yv + 100 ≤ 60000) (hY : kRng 1 100 yv = 0 → YearsR yv r q b) (sz : Nat) : Met l yX3_pass wsX3_pass ({ frames := 8, cells := 0, slots := 0, locals := 181 }) (va_Pc [.ref hm, .int (iI (yv))] (WrP G (MW G hm adm u) sz)) (va_Qi (fun q9 (u' : mf_V) => ∃ z : Int, q9 = iI z ∧ rOK ulo uhi u' ∧ frF u u' ∧ u' 0 0 = kRng 1 100 yv ∧ (kRng 1 100 yv = 0 → relU q u' ∧ z = b) ∧ (¬ kRng 1 100 yv = 0 → relU r u')) (fun (u' : mf_V) t => WrQ G (va_A (MW G hm adm u) sz) (MW G hm adm u') t) (va_A (MW G hm adm u) sz)) 0 0 (va_A (MW G hm adm u) sz) := by
  refine Met.ofW (cc := cX3_pass) (maxL := 2) (ret := (some .int)) (by decide) rfl ?_
  intro p e s m args below meth c s₁ B hml hv
  obtain ⟨rfl, hsz, hP, hK, hD0, hN⟩ := hv
  have hx := B.exec
  have hb := B.bytes
  have hr := B.returns
  have hts := atoms_spec (ws := wsX3_pass) B.pre
  have hown : s.vm.findClass RX3 = some m.cls := findClass_of_methodNamed B.named
  have hlocks := B.notSynchronized
  have hinX3 : ∀ w ∈ u_ws RX3 TX3 11, w ∈ wsX3_pass := fun w h => List.mem_cons_of_mem _ (List.mem_append_right _ h)
  subst hsz
  have hD := hD0.self (sz := s.heap.size)
  generalize hAe : va_A (MW G hm adm u) s.heap.size = A at hD ⊢
  have hA : ∀ q : Nat, s.heap.size ≤ q → A q := fun q h => by rw [← hAe]; exact Or.inr h
  have hS : va_S A s.heap s.heap [] := va_S.rf
  have hl := lv_entry ([.ref hm, .int (iI (yv))]) (n := 2) (Nat.le_of_ble_eq_true rfl)
  rw [lg_entry_eq]
  generalize (lg_sl ([.ref hm, .int (iI (yv))]) ++ List.replicate (2 - (lg_sl ([.ref hm, .int (iI (yv))])).length) Slot.unset).toArray = ls at hl ⊢
  have hl : lv_has ls 2 [(0, .ref hm), (1, .int (iI (yv)))] := hl
  have hyv1 := hyv.1
  have hyv2 := hyv.2
  have okLr : (0 : Int) ≤ r 7 0 ∧ r 7 0 ≤ 150 := ok 7 0
  refine lv_aload_n hx hb dX3_pass_0 rfl (lv_at hl 0 rfl) ?_
  refine mf_iconst hx hb dX3_pass_1 ?_
  refine va_put (D := G.1) (ci := 3) (v := .int (iI (0))) (ty := .int) (C := RX3) (T := TX3) (N := 11) hx hb hts hinX3 tyX3 tyX3_ok nmX3 hown hK hP hD hS 0 rfl rfl 0 (by decide) (hts (.fieldLink RX3 41 "MeanderFarmModel" "thrown" "I") (List.mem_of_getElem? (i := 1) rfl)) (fun _ h9 => h9) rfl (by decide +kernel) rfl rfl (Nat.le_of_ble_eq_true rfl) dX3_pass_2 (fun H locs hP hD hS => ?_)
  obtain ⟨u1, eu1⟩ : ∃ z9 : mf_V, z9 = mf_sF u 0 (fun _ => 0) := ⟨_, rfl⟩
  have hP : va_P G.1 vwCl (MW G hm adm u1) H := by rw [eu1]; exact hP
  have hD : va_D A (MW G hm adm u1) := by rw [eu1]; exact hD
  have oku1 : rOK ulo uhi u1 := by rw [eu1]; exact rOK_set oku 0 _ (show (-1 : Int) ≤ 0 by omega) (show 0 ≤ (9 : Int) by omega)
  have f1_u1 : ∀ y, u1 0 y = 0 := fun y => by rw [eu1, mf_sF_s]
  have f3_u1 : ∀ q, q ≠ 0 → u1 q = u q := fun q hq => by rw [eu1, mf_sF_n hq]
  have hrel1 : relU r u1 := relU_cg f3_u1 hrel
  have hz0 : u1 0 0 = 0 := f1_u1 0
  have hfF : frF u u1 := ⟨f3_u1 4 (by decide), f3_u1 5 (by decide)⟩
  refine lv_iload_n hx hb dX3_pass_5 rfl (lv_at hl 1 rfl) ?_
  refine mf_iconst hx hb dX3_pass_6 ?_
  refine mf_bipush hx hb dX3_pass_7 rfl ?_
  refine vp_callSi (va_Run.run (va_runS (As := [.int (iI (yv)), .int (iI (1)), .int (iI (100))]) (rest := []) ⟨hx, hb, hml, hown, hts⟩ (c_X3_isIn l (yv) (1) (100) (i32_mk (by omega) (by omega)) (i32_mk (by decide) (by decide)) (i32_mk (by decide) (by decide))) (va_cwS 3 hts gX3_pass_X3_isIn rfl rfl rfl (by decide +kernel) ⟨Nat.le_of_ble_eq_true rfl, Nat.le_of_ble_eq_true rfl⟩) pureS rfl rfl hl.1 rfl (lv_room (Nat.le_of_ble_eq_true rfl)) dX3_pass_9 ⟨(Nat.zero_le _), (Nat.zero_le _)⟩)) (fun q2 hq2 => ?_)
  subst hq2
  refine mf_bp_eq (tgt := 23) hx hb dX3_pass_12 (by decide) (fun c3 => ?_) (fun c3 => ?_)
  · skip
    refine lv_aload_n hx hb dX3_pass_23 rfl (lv_at hl 0 rfl) ?_
    refine mf_iconst hx hb dX3_pass_24 ?_
    have hFc := va_free (wc := MW G hm adm u1) hD hS hA [0, 1, 2, 3, 4, 5, 6, 7, 8, 9] rfl
    refine va_calli (va_runV (As := [.int (iI (1))]) (rest := []) ⟨hx, hb, hml, hown, hts⟩ (c_X3_fail l G hm adm u1 (1) (i32_mk (by decide) (by decide)) (by assumption) (by first | assumption | omega) _) (cwV 1 hts gX3_pass_X3_fail rfl rfl rfl (by decide +kernel) ⟨Nat.le_of_ble_eq_true rfl, Nat.le_of_ble_eq_true rfl⟩) (wrV (wc := MW G hm adm u1) hK hP hD hN [0, 1, 2, 3, 4, 5, 6, 7, 8, 9] (by decide) rfl rfl (ci := 3) rfl rfl) rfl rfl hl.1 rfl (lv_room (Nat.le_of_ble_eq_true rfl)) dX3_pass_25 ⟨(Nat.zero_le _), (Nat.zero_le _)⟩) hS (fun q _ h => hFc q h) hFc (fun q4 u5 t H1 locs ht hvm hw hB hz1 hk1 hS => ?_)
    obtain ⟨u6, rfl⟩ : ∃ z, z = u5 := ⟨_, rfl⟩
    try dsimp only at hw hB
    obtain ⟨hP, hD⟩ := wrJ (ws := MW G hm adm u1) (w1 := MW G hm adm u6) ht hFc hB
    have hP : va_P G.1 vwCl (MW G hm adm u6) H1 := hP
    have hD : va_D A (MW G hm adm u6) := hD
    clear hB hk1 hFc ht hz1 hvm
    generalize H1 = H at hP hS ⊢
    obtain ⟨z8, rfl, w7⟩ := hw
    have oku6 : rOK ulo uhi u6 := w7.1
    have hk9 : kRng 1 100 yv = 1 := mf_if_t (by assumption)
    exact W.iret hx hb hr (fun t ht hW => ⟨⟨_, u6, rfl, ⟨_, rfl, by exact ⟨w7.1, ⟨(w7.2.1 4 (by decide)).trans hfF.1, (w7.2.1 5 (by decide)).trans hfF.2⟩, by rw [hk9]; exact w7.2.2.1, fun z9 => by rw [hk9] at z9; omega, fun _ => relU_cg w7.2.1 hrel1⟩⟩, by rw [ht]; exact hP, hD⟩, hS.F ht⟩) hS.2.2 dX3_pass_28
  · skip
    have hk9 : kRng 1 100 yv = 0 := mf_if_f (fun z => z (by assumption))
    refine lv_aload_n hx hb dX3_pass_15 rfl (lv_at hl 0 rfl) ?_
    refine lv_iload_n hx hb dX3_pass_16 rfl (lv_at hl 1 rfl) ?_
    have hFc := va_free (wc := MW G hm adm u1) hD hS hA [0, 1, 2, 3, 4, 5, 6, 7, 8, 9] rfl
    refine va_calli (va_runV (As := [.int (iI (yv))]) (rest := []) ⟨hx, hb, hml, hown, hts⟩ (c_X3_yearsOn l G hm adm u1 (yv) (r) (q) (b) (Yv) (i32_mk (by omega) (by omega)) (by assumption) (by assumption) (by first | assumption | omega) (by first | assumption | omega) (by exact hY hk9) (by omega) (by first | assumption | omega) (by omega) _) (cwV 1 hts gX3_pass_X3_yearsOn rfl rfl rfl (by decide +kernel) ⟨Nat.le_of_ble_eq_true rfl, Nat.le_of_ble_eq_true rfl⟩) (wrV (wc := MW G hm adm u1) hK hP hD hN [0, 1, 2, 3, 4, 5, 6, 7, 8, 9] (by decide) rfl rfl (ci := 3) rfl rfl) rfl rfl hl.1 rfl (lv_room (Nat.le_of_ble_eq_true rfl)) dX3_pass_17 ⟨(Nat.zero_le _), (Nat.zero_le _)⟩) hS (fun q _ h => hFc q h) hFc (fun q9 u10 t H1 locs ht hvm hw hB hz1 hk1 hS => ?_)
    obtain ⟨u11, rfl⟩ : ∃ z, z = u10 := ⟨_, rfl⟩
    try dsimp only at hw hB
    obtain ⟨hP, hD⟩ := wrJ (ws := MW G hm adm u1) (w1 := MW G hm adm u11) ht hFc hB
    have hP : va_P G.1 vwCl (MW G hm adm u11) H1 := hP
    have hD : va_D A (MW G hm adm u11) := hD
    clear hB hk1 hFc ht hz1 hvm
    generalize H1 = H at hP hS ⊢
    obtain ⟨z13, rfl, w12⟩ := hw
    have oku11 : rOK ulo uhi u11 := w12.1
    refine lv_goto (tgt := 28) hx hb dX3_pass_20 (by decide) ?_
    exact W.iret hx hb hr (fun t ht hW => ⟨⟨_, u11, rfl, ⟨_, rfl, by exact ⟨w12.1, ⟨w12.2.2.1.2.1.trans hfF.1, w12.2.2.1.2.2.trans hfF.2⟩, by rw [hk9, w12.2.2.1.1]; exact hz0, fun _ => ⟨w12.2.1, w12.2.2.2⟩, fun z9 => absurd hk9 z9⟩⟩, by rw [ht]; exact hP, hD⟩, hS.F ht⟩) hS.2.2 dX3_pass_28
set_option maxHeartbeats 4000000 in
set_option maxRecDepth 100000 in
theorem c_X3_course (l : Launch) (G : mf_G) (hm : Nat) (adm : Nat → Nat) (u : mf_V)  (iv : Int) (wv : Int) (r : mf_V) (hiv : i32 iv) (hwv : i32 wv) (oku : rOK ulo uhi u) (ok : rOK rlo rhi r) (hI : RInv r) (hrel : relU r u) (sz : Nat) : Met l yX3_course wsX3_course ({ frames := 4, cells := 0, slots := 0, locals := 87 }) (va_Pc [.ref hm, .int (iI (iv)), .int (iI (wv))] (WrP G (MW G hm adm u) sz)) (va_Qi (fun q9 (u' : mf_V) => ∃ z : Int, q9 = iI z ∧ rOK ulo uhi u' ∧ frF u u' ∧ u' 0 0 = kCourse r iv wv ∧ (kCourse r iv wv = 0 → relU r u' ∧ z = vCourse r iv wv) ∧ (¬ kCourse r iv wv = 0 → relU r u')) (fun (u' : mf_V) t => WrQ G (va_A (MW G hm adm u) sz) (MW G hm adm u') t) (va_A (MW G hm adm u) sz)) 0 0 (va_A (MW G hm adm u) sz) := by
  refine Met.ofW (cc := cX3_course) (maxL := 3) (ret := (some .int)) (by decide) rfl ?_
  intro p e s m args below meth c s₁ B hml hv
  obtain ⟨rfl, hsz, hP, hK, hD0, hN⟩ := hv
  have hx := B.exec
  have hb := B.bytes
  have hr := B.returns
  have hts := atoms_spec (ws := wsX3_course) B.pre
  have hown : s.vm.findClass RX3 = some m.cls := findClass_of_methodNamed B.named
  have hlocks := B.notSynchronized
  have hinX3 : ∀ w ∈ u_ws RX3 TX3 11, w ∈ wsX3_course := fun w h => List.mem_cons_of_mem _ (List.mem_append_right _ h)
  subst hsz
  have hD := hD0.self (sz := s.heap.size)
  generalize hAe : va_A (MW G hm adm u) s.heap.size = A at hD ⊢
  have hA : ∀ q : Nat, s.heap.size ≤ q → A q := fun q h => by rw [← hAe]; exact Or.inr h
  have hS : va_S A s.heap s.heap [] := va_S.rf
  have hl := lv_entry ([.ref hm, .int (iI (iv)), .int (iI (wv))]) (n := 3) (Nat.le_of_ble_eq_true rfl)
  rw [lg_entry_eq]
  generalize (lg_sl ([.ref hm, .int (iI (iv)), .int (iI (wv))]) ++ List.replicate (3 - (lg_sl ([.ref hm, .int (iI (iv)), .int (iI (wv))])).length) Slot.unset).toArray = ls at hl ⊢
  have hl : lv_has ls 3 [(0, .ref hm), (1, .int (iI (iv))), (2, .int (iI (wv)))] := hl
  have hiv1 := hiv.1
  have hiv2 := hiv.2
  have hwv1 := hwv.1
  have hwv2 := hwv.2
  have okLr : (0 : Int) ≤ r 7 0 ∧ r 7 0 ≤ 150 := ok 7 0
  refine lv_aload_n hx hb dX3_course_0 rfl (lv_at hl 0 rfl) ?_
  refine mf_iconst hx hb dX3_course_1 ?_
  refine va_put (D := G.1) (ci := 3) (v := .int (iI (0))) (ty := .int) (C := RX3) (T := TX3) (N := 11) hx hb hts hinX3 tyX3 tyX3_ok nmX3 hown hK hP hD hS 0 rfl rfl 0 (by decide) (hts (.fieldLink RX3 41 "MeanderFarmModel" "thrown" "I") (List.mem_of_getElem? (i := 1) rfl)) (fun _ h9 => h9) rfl (by decide +kernel) rfl rfl (Nat.le_of_ble_eq_true rfl) dX3_course_2 (fun H locs hP hD hS => ?_)
  obtain ⟨u1, eu1⟩ : ∃ z9 : mf_V, z9 = mf_sF u 0 (fun _ => 0) := ⟨_, rfl⟩
  have hP : va_P G.1 vwCl (MW G hm adm u1) H := by rw [eu1]; exact hP
  have hD : va_D A (MW G hm adm u1) := by rw [eu1]; exact hD
  have oku1 : rOK ulo uhi u1 := by rw [eu1]; exact rOK_set oku 0 _ (show (-1 : Int) ≤ 0 by omega) (show 0 ≤ (9 : Int) by omega)
  have f1_u1 : ∀ y, u1 0 y = 0 := fun y => by rw [eu1, mf_sF_s]
  have f3_u1 : ∀ q, q ≠ 0 → u1 q = u q := fun q hq => by rw [eu1, mf_sF_n hq]
  have hrel1 : relU r u1 := relU_cg f3_u1 hrel
  have hz0 : u1 0 0 = 0 := f1_u1 0
  have hfF : frF u u1 := ⟨f3_u1 4 (by decide), f3_u1 5 (by decide)⟩
  refine lv_aload_n hx hb dX3_course_5 rfl (lv_at hl 0 rfl) ?_
  refine lv_iload_n hx hb dX3_course_6 rfl (lv_at hl 1 rfl) ?_
  refine vp_callSi (va_Run.run (va_runV (As := [.int (iI (iv))]) (rest := []) ⟨hx, hb, hml, hown, hts⟩ (c_X3_isCourse l G hm adm u1 (iv) (r) (i32_mk (by omega) (by omega)) (by assumption) (by assumption) (by first | assumption | omega) (by first | assumption | omega)) (cwV 1 hts gX3_course_X3_isCourse rfl rfl rfl (by decide +kernel) ⟨Nat.le_of_ble_eq_true rfl, Nat.le_of_ble_eq_true rfl⟩) (rdV (wc := MW G hm adm u1) hK hP hN [0, 1, 2, 3, 4, 5, 6, 7, 8, 9] rfl (ci := 3) rfl rfl) rfl rfl hl.1 rfl (lv_room (Nat.le_of_ble_eq_true rfl)) dX3_course_7 ⟨(Nat.zero_le _), (Nat.zero_le _)⟩)) (fun q2 hq2 => ?_)
  subst hq2
  refine mf_bp_eq (tgt := 22) hx hb dX3_course_10 (by decide) (fun c3 => ?_) (fun c3 => ?_)
  · skip
    have c3' := c3; unfold inC at c3'
    refine lv_aload_n hx hb dX3_course_22 rfl (lv_at hl 0 rfl) ?_
    refine mf_iconst hx hb dX3_course_23 ?_
    have hFc := va_free (wc := MW G hm adm u1) hD hS hA [0, 1, 2, 3, 4, 5, 6, 7, 8, 9] rfl
    refine va_calli (va_runV (As := [.int (iI (1))]) (rest := []) ⟨hx, hb, hml, hown, hts⟩ (c_X3_fail l G hm adm u1 (1) (i32_mk (by decide) (by decide)) (by assumption) (by first | assumption | omega) _) (cwV 1 hts gX3_course_X3_fail rfl rfl rfl (by decide +kernel) ⟨Nat.le_of_ble_eq_true rfl, Nat.le_of_ble_eq_true rfl⟩) (wrV (wc := MW G hm adm u1) hK hP hD hN [0, 1, 2, 3, 4, 5, 6, 7, 8, 9] (by decide) rfl rfl (ci := 3) rfl rfl) rfl rfl hl.1 rfl (lv_room (Nat.le_of_ble_eq_true rfl)) dX3_course_24 ⟨(Nat.zero_le _), (Nat.zero_le _)⟩) hS (fun q _ h => hFc q h) hFc (fun q4 u5 t H1 locs ht hvm hw hB hz1 hk1 hS => ?_)
    obtain ⟨u6, rfl⟩ : ∃ z, z = u5 := ⟨_, rfl⟩
    try dsimp only at hw hB
    obtain ⟨hP, hD⟩ := wrJ (ws := MW G hm adm u1) (w1 := MW G hm adm u6) ht hFc hB
    have hP : va_P G.1 vwCl (MW G hm adm u6) H1 := hP
    have hD : va_D A (MW G hm adm u6) := hD
    clear hB hk1 hFc ht hz1 hvm
    generalize H1 = H at hP hS ⊢
    obtain ⟨z8, rfl, w7⟩ := hw
    have oku6 : rOK ulo uhi u6 := w7.1
    have hk9 : kCourse r iv wv = 1 := mf_if_t (fun z => by first | (exact absurd z.1 (by assumption)) | (exact absurd z.2 (by assumption)))
    exact W.iret hx hb hr (fun t ht hW => ⟨⟨_, u6, rfl, ⟨_, rfl, by exact ⟨w7.1, ⟨(w7.2.1 4 (by decide)).trans hfF.1, (w7.2.1 5 (by decide)).trans hfF.2⟩, by rw [hk9]; exact w7.2.2.1, fun z9 => by rw [hk9] at z9; omega, fun _ => relU_cg w7.2.1 hrel1⟩⟩, by rw [ht]; exact hP, hD⟩, hS.F ht⟩) hS.2.2 dX3_course_27
  · skip
    have c3' := c3; unfold inC at c3'
    refine lv_iload_n hx hb dX3_course_13 rfl (lv_at hl 2 rfl) ?_
    refine mf_iconst hx hb dX3_course_14 ?_
    refine mf_iconst hx hb dX3_course_15 ?_
    refine vp_callSi (va_Run.run (va_runS (As := [.int (iI (wv)), .int (iI (0)), .int (iI (4))]) (rest := []) ⟨hx, hb, hml, hown, hts⟩ (c_X3_isIn l (wv) (0) (4) (i32_mk (by omega) (by omega)) (i32_mk (by decide) (by decide)) (i32_mk (by decide) (by decide))) (va_cwS 3 hts gX3_course_X3_isIn rfl rfl rfl (by decide +kernel) ⟨Nat.le_of_ble_eq_true rfl, Nat.le_of_ble_eq_true rfl⟩) pureS rfl rfl hl.1 rfl (lv_room (Nat.le_of_ble_eq_true rfl)) dX3_course_16 ⟨(Nat.zero_le _), (Nat.zero_le _)⟩)) (fun q9 hq9 => ?_)
    subst hq9
    refine mf_bp_ne (tgt := 28) hx hb dX3_course_19 (by decide) (fun c10 => ?_) (fun c10 => ?_)
    · skip
      have hin9 : inC r iv := by assumption
      have hin8 := hin9
      unfold inC at hin8
      refine lv_iload_n hx hb dX3_course_28 rfl (lv_at hl 2 rfl) ?_
      have w11 : i32 (wv) := (i32_mk (by omega) (by omega))
      rcases (show  (wv) = 0 ∨  (wv) = 1 ∨  (wv) = 2 ∨  (wv) = 3 ∨  ((wv) < 0 ∨ 3 < (wv)) by omega) with c12 | c12 | c12 | c12 | c12
      · skip
        refine lv_tableIn (off := 31) (tgt := 60) hx hb dX3_course_29 (by rw [iI_toInt w11]; omega) (by rw [iI_toInt w11]; omega) (by rw [iI_toInt w11, c12]; rfl) (by decide) ?_
        refine lv_aload_n hx hb dX3_course_60 rfl (lv_at hl 0 rfl) ?_
        refine va_get (D := G.1) (ci := 3) (v := .ref (adm 6)) (C := RX3) (T := TX3) (N := 11) hx hb hts hinX3 hown hK hP 0 rfl rfl 6 (by decide) (hts (.fieldLink RX3 23 "MeanderFarmModel" "course" "[I") (List.mem_of_getElem? (i := 2) rfl)) (fun _ h9 => h9) rfl dX3_course_61 ?_
        refine lv_iload_n hx hb dX3_course_64 rfl (lv_at hl 1 rfl) ?_
        refine mf_iald (n := 152) (f := u1 6) hx hb hK hP 5 0 rfl rfl (z := iv) (by omega) (by omega) (by decide) dX3_course_65 ?_
        refine mf_top (u1 6 iv) (r 6 iv) (by rw [f3_u1 6 (by decide), (rel6 hrel (z := iv) (by omega) (by omega))]) ?_
        have b13 : (0 : Int) ≤ r 6 iv ∧ r 6 iv ≤ 383 := ok 6 (iv)
        have hk9 : kCourse r iv wv = 0 := mf_if_f (fun z => z ⟨by assumption, by omega⟩)
        exact W.iret hx hb hr (fun t ht hW => ⟨⟨_, u1, rfl, ⟨_, rfl, by exact ⟨oku1, hfF, by rw [hk9]; exact hz0, fun _ => ⟨hrel1, by unfold vCourse; rw [if_pos (by omega)]⟩, fun z9 => absurd hk9 z9⟩⟩, by rw [ht]; exact hP, hD⟩, hS.F ht⟩) hS.2.2 dX3_course_66
      · skip
        refine lv_tableIn (off := 38) (tgt := 67) hx hb dX3_course_29 (by rw [iI_toInt w11]; omega) (by rw [iI_toInt w11]; omega) (by rw [iI_toInt w11, c12]; rfl) (by decide) ?_
        refine lv_iload_n hx hb dX3_course_67 rfl (lv_at hl 1 rfl) ?_
        refine lv_aload_n hx hb dX3_course_68 rfl (lv_at hl 0 rfl) ?_
        refine vp_callSi (va_Run.run (va_runV (As := []) (rest := [.int (iI (iv))]) ⟨hx, hb, hml, hown, hts⟩ (c_X3_length l G hm adm u1 (by assumption)) (cwV 0 hts gX3_course_X3_length rfl rfl rfl (by decide +kernel) ⟨Nat.le_of_ble_eq_true rfl, Nat.le_of_ble_eq_true rfl⟩) (rdV (wc := MW G hm adm u1) hK hP hN [0, 1, 2, 3, 4, 5, 6, 7, 8, 9] rfl (ci := 3) rfl rfl) rfl rfl hl.1 rfl (lv_room (Nat.le_of_ble_eq_true rfl)) dX3_course_69 ⟨(Nat.zero_le _), (Nat.zero_le _)⟩)) (fun q14 hq14 => ?_)
        subst hq14
        refine mf_top (u1 10 2) (r 7 0) (by rw [f3_u1 10 (by decide), rel10_2 hrel]) ?_
        have b15 : (0 : Int) ≤ r 7 0 ∧ r 7 0 ≤ 150 := ok 7 0
        refine mf_iconst hx hb dX3_course_72 ?_
        refine mf_isub hx hb dX3_course_73 ?_
        refine mf_icmp_ne (tgt := 81) hx hb dX3_course_74 (by decide) (i32_mk (by omega) (by omega)) (i32_mk (by omega) (by omega)) (fun c16 => ?_) (fun c16 => ?_)
        · skip
          refine lv_aload_n hx hb dX3_course_81 rfl (lv_at hl 0 rfl) ?_
          refine lv_iload_n hx hb dX3_course_82 rfl (lv_at hl 1 rfl) ?_
          refine vp_callSi (va_Run.run (va_runV (As := [.int (iI (iv))]) (rest := []) ⟨hx, hb, hml, hown, hts⟩ (c_X3_direction l G hm adm u1 (iv) (r) (i32_mk (by omega) (by omega)) (by assumption) (by assumption) (by first | assumption | omega) (by first | assumption | omega) (by omega)) (cwV 1 hts gX3_course_X3_direction rfl rfl rfl (by decide +kernel) ⟨Nat.le_of_ble_eq_true rfl, Nat.le_of_ble_eq_true rfl⟩) (rdV (wc := MW G hm adm u1) hK hP hN [0, 1, 2, 3, 4, 5, 6, 7, 8, 9] rfl (ci := 3) rfl rfl) rfl rfl hl.1 rfl (lv_room (Nat.le_of_ble_eq_true rfl)) dX3_course_83 ⟨(Nat.zero_le _), (Nat.zero_le _)⟩)) (fun q17 hq17 => ?_)
          subst hq17
          have b18 : (-1 : Int) ≤ ((r) 11 iv) ∧ ((r) 11 iv) ≤ 3 := (show rOK rlo rhi (r) by assumption) 11 iv
          have hk9 : kCourse r iv wv = 0 := mf_if_f (fun z => z ⟨by assumption, by omega⟩)
          exact W.iret hx hb hr (fun t ht hW => ⟨⟨_, u1, rfl, ⟨_, rfl, by exact ⟨oku1, hfF, by rw [hk9]; exact hz0, fun _ => ⟨hrel1, by unfold vCourse; rw [if_neg (by omega), if_pos (by omega)]⟩, fun z9 => absurd hk9 z9⟩⟩, by rw [ht]; exact hP, hD⟩, hS.F ht⟩) hS.2.2 dX3_course_86
        · skip
          refine mf_iconst hx hb dX3_course_77 ?_
          refine lv_goto (tgt := 86) hx hb dX3_course_78 (by decide) ?_
          have hk9 : kCourse r iv wv = 0 := mf_if_f (fun z => z ⟨by assumption, by omega⟩)
          exact W.iret hx hb hr (fun t ht hW => ⟨⟨_, u1, rfl, ⟨_, rfl, by exact ⟨oku1, hfF, by rw [hk9]; exact hz0, fun _ => ⟨hrel1, by unfold vCourse; rw [if_neg (by omega), if_pos (by omega), show iv = r 7 0 - 1 by omega]; exact (dLast hI.1 hI.2.1).1.symm⟩, fun z9 => absurd hk9 z9⟩⟩, by rw [ht]; exact hP, hD⟩, hS.F ht⟩) hS.2.2 dX3_course_86
      · skip
        refine lv_tableIn (off := 58) (tgt := 87) hx hb dX3_course_29 (by rw [iI_toInt w11]; omega) (by rw [iI_toInt w11]; omega) (by rw [iI_toInt w11, c12]; rfl) (by decide) ?_
        refine lv_aload_n hx hb dX3_course_87 rfl (lv_at hl 0 rfl) ?_
        refine lv_iload_n hx hb dX3_course_88 rfl (lv_at hl 1 rfl) ?_
        refine vp_callSi (va_Run.run (va_runV (As := [.int (iI (iv))]) (rest := []) ⟨hx, hb, hml, hown, hts⟩ (c_X3_isStraight l G hm adm u1 (iv) (r) (i32_mk (by omega) (by omega)) (by assumption) (by assumption) (by first | assumption | omega) (by first | assumption | omega)) (cwV 1 hts gX3_course_X3_isStraight rfl rfl rfl (by decide +kernel) ⟨Nat.le_of_ble_eq_true rfl, Nat.le_of_ble_eq_true rfl⟩) (rdV (wc := MW G hm adm u1) hK hP hN [0, 1, 2, 3, 4, 5, 6, 7, 8, 9] rfl (ci := 3) rfl rfl) rfl rfl hl.1 rfl (lv_room (Nat.le_of_ble_eq_true rfl)) dX3_course_89 ⟨(Nat.zero_le _), (Nat.zero_le _)⟩)) (fun q19 hq19 => ?_)
        subst hq19
        refine mf_bp_eq (tgt := 99) hx hb dX3_course_92 (by decide) (fun c20 => ?_) (fun c20 => ?_)
        · skip
          have c20' := c20; unfold strP at c20'
          refine mf_iconst hx hb dX3_course_99 ?_
          have hk9 : kCourse r iv wv = 0 := mf_if_f (fun z => z ⟨by assumption, by omega⟩)
          exact W.iret hx hb hr (fun t ht hW => ⟨⟨_, u1, rfl, ⟨_, rfl, by exact ⟨oku1, hfF, by rw [hk9]; exact hz0, fun _ => ⟨hrel1, by unfold vCourse; rw [if_neg (by omega), if_neg (by omega), if_pos (by omega)]; exact (bP_f (by assumption)).symm⟩, fun z9 => absurd hk9 z9⟩⟩, by rw [ht]; exact hP, hD⟩, hS.F ht⟩) hS.2.2 dX3_course_100
        · skip
          have c20' := c20; unfold strP at c20'
          refine mf_iconst hx hb dX3_course_95 ?_
          refine lv_goto (tgt := 100) hx hb dX3_course_96 (by decide) ?_
          have hk9 : kCourse r iv wv = 0 := mf_if_f (fun z => z ⟨by assumption, by omega⟩)
          exact W.iret hx hb hr (fun t ht hW => ⟨⟨_, u1, rfl, ⟨_, rfl, by exact ⟨oku1, hfF, by rw [hk9]; exact hz0, fun _ => ⟨hrel1, by unfold vCourse; rw [if_neg (by omega), if_neg (by omega), if_pos (by omega)]; exact (bP_t (by assumption)).symm⟩, fun z9 => absurd hk9 z9⟩⟩, by rw [ht]; exact hP, hD⟩, hS.F ht⟩) hS.2.2 dX3_course_100
      · skip
        refine lv_tableIn (off := 72) (tgt := 101) hx hb dX3_course_29 (by rw [iI_toInt w11]; omega) (by rw [iI_toInt w11]; omega) (by rw [iI_toInt w11, c12]; rfl) (by decide) ?_
        refine lv_aload_n hx hb dX3_course_101 rfl (lv_at hl 0 rfl) ?_
        refine lv_iload_n hx hb dX3_course_102 rfl (lv_at hl 1 rfl) ?_
        refine vp_callSi (va_Run.run (va_runV (As := [.int (iI (iv))]) (rest := []) ⟨hx, hb, hml, hown, hts⟩ (c_X3_side l G hm adm u1 (iv) (r) (i32_mk (by omega) (by omega)) (by assumption) (by assumption) (by first | assumption | omega) (by first | assumption | omega) (by omega)) (cwV 1 hts gX3_course_X3_side rfl rfl rfl (by decide +kernel) ⟨Nat.le_of_ble_eq_true rfl, Nat.le_of_ble_eq_true rfl⟩) (rdV (wc := MW G hm adm u1) hK hP hN [0, 1, 2, 3, 4, 5, 6, 7, 8, 9] rfl (ci := 3) rfl rfl) rfl rfl hl.1 rfl (lv_room (Nat.le_of_ble_eq_true rfl)) dX3_course_103 ⟨(Nat.zero_le _), (Nat.zero_le _)⟩)) (fun q21 hq21 => ?_)
        subst hq21
        have b22 : (-1 : Int) ≤ ((r) 12 iv) ∧ ((r) 12 iv) ≤ 3 := (show rOK rlo rhi (r) by assumption) 12 iv
        have hk9 : kCourse r iv wv = 0 := mf_if_f (fun z => z ⟨by assumption, by omega⟩)
        exact W.iret hx hb hr (fun t ht hW => ⟨⟨_, u1, rfl, ⟨_, rfl, by exact ⟨oku1, hfF, by rw [hk9]; exact hz0, fun _ => ⟨hrel1, by unfold vCourse; rw [if_neg (by omega), if_neg (by omega), if_neg (by omega), if_pos (by omega)]⟩, fun z9 => absurd hk9 z9⟩⟩, by rw [ht]; exact hP, hD⟩, hS.F ht⟩) hS.2.2 dX3_course_106
      · skip
        refine lv_tableOut (tgt := 107) hx hb dX3_course_29 (by rw [iI_toInt w11]; omega) (by decide) ?_
        refine lv_aload_n hx hb dX3_course_107 rfl (lv_at hl 0 rfl) ?_
        refine lv_iload_n hx hb dX3_course_108 rfl (lv_at hl 1 rfl) ?_
        refine vp_callSi (va_Run.run (va_runV (As := [.int (iI (iv))]) (rest := []) ⟨hx, hb, hml, hown, hts⟩ (c_X3_bank l G hm adm u1 (iv) (r) (i32_mk (by omega) (by omega)) (by assumption) (by assumption) (by first | assumption | omega) (by first | assumption | omega) (by omega)) (cwV 1 hts gX3_course_X3_bank rfl rfl rfl (by decide +kernel) ⟨Nat.le_of_ble_eq_true rfl, Nat.le_of_ble_eq_true rfl⟩) (rdV (wc := MW G hm adm u1) hK hP hN [0, 1, 2, 3, 4, 5, 6, 7, 8, 9] rfl (ci := 3) rfl rfl) rfl rfl hl.1 rfl (lv_room (Nat.le_of_ble_eq_true rfl)) dX3_course_109 ⟨(Nat.zero_le _), (Nat.zero_le _)⟩)) (fun q23 hq23 => ?_)
        subst hq23
        have b24 : (-1 : Int) ≤ ((r) 13 iv) ∧ ((r) 13 iv) ≤ 383 := (show rOK rlo rhi (r) by assumption) 13 iv
        have hk9 : kCourse r iv wv = 0 := mf_if_f (fun z => z ⟨by assumption, by omega⟩)
        exact W.iret hx hb hr (fun t ht hW => ⟨⟨_, u1, rfl, ⟨_, rfl, by exact ⟨oku1, hfF, by rw [hk9]; exact hz0, fun _ => ⟨hrel1, by unfold vCourse; rw [if_neg (by omega), if_neg (by omega), if_neg (by omega), if_neg (by omega)]⟩, fun z9 => absurd hk9 z9⟩⟩, by rw [ht]; exact hP, hD⟩, hS.F ht⟩) hS.2.2 dX3_course_112
    · skip
      refine lv_aload_n hx hb dX3_course_22 rfl (lv_at hl 0 rfl) ?_
      refine mf_iconst hx hb dX3_course_23 ?_
      have hFc := va_free (wc := MW G hm adm u1) hD hS hA [0, 1, 2, 3, 4, 5, 6, 7, 8, 9] rfl
      refine va_calli (va_runV (As := [.int (iI (1))]) (rest := []) ⟨hx, hb, hml, hown, hts⟩ (c_X3_fail l G hm adm u1 (1) (i32_mk (by decide) (by decide)) (by assumption) (by first | assumption | omega) _) (cwV 1 hts gX3_course_X3_fail rfl rfl rfl (by decide +kernel) ⟨Nat.le_of_ble_eq_true rfl, Nat.le_of_ble_eq_true rfl⟩) (wrV (wc := MW G hm adm u1) hK hP hD hN [0, 1, 2, 3, 4, 5, 6, 7, 8, 9] (by decide) rfl rfl (ci := 3) rfl rfl) rfl rfl hl.1 rfl (lv_room (Nat.le_of_ble_eq_true rfl)) dX3_course_24 ⟨(Nat.zero_le _), (Nat.zero_le _)⟩) hS (fun q _ h => hFc q h) hFc (fun q25 u26 t H1 locs ht hvm hw hB hz1 hk1 hS => ?_)
      obtain ⟨u27, rfl⟩ : ∃ z, z = u26 := ⟨_, rfl⟩
      try dsimp only at hw hB
      obtain ⟨hP, hD⟩ := wrJ (ws := MW G hm adm u1) (w1 := MW G hm adm u27) ht hFc hB
      have hP : va_P G.1 vwCl (MW G hm adm u27) H1 := hP
      have hD : va_D A (MW G hm adm u27) := hD
      clear hB hk1 hFc ht hz1 hvm
      generalize H1 = H at hP hS ⊢
      obtain ⟨z29, rfl, w28⟩ := hw
      have oku27 : rOK ulo uhi u27 := w28.1
      have hk9 : kCourse r iv wv = 1 := mf_if_t (fun z => by first | (exact absurd z.1 (by assumption)) | (exact absurd z.2 (by assumption)))
      exact W.iret hx hb hr (fun t ht hW => ⟨⟨_, u27, rfl, ⟨_, rfl, by exact ⟨w28.1, ⟨(w28.2.1 4 (by decide)).trans hfF.1, (w28.2.1 5 (by decide)).trans hfF.2⟩, by rw [hk9]; exact w28.2.2.1, fun z9 => by rw [hk9] at z9; omega, fun _ => relU_cg w28.2.1 hrel1⟩⟩, by rw [ht]; exact hP, hD⟩, hS.F ht⟩) hS.2.2 dX3_course_27
set_option maxHeartbeats 4000000 in
set_option maxRecDepth 100000 in
theorem c_X3_slip (l : Launch) (G : mf_G) (hm : Nat) (adm : Nat → Nat) (u : mf_V)  (iv : Int) (sv : Int) (r : mf_V) (q : mf_V) (hiv : i32 iv) (hsv : i32 sv) (oku : rOK ulo uhi u) (ok : rOK rlo rhi r) (hI : RInv r) (hrel : relU r u) (okq : rOK rlo rhi q) (hq : RInv q) (hBul : kSlip r iv sv = 0 → Bul r iv sv q) (sz : Nat) : Met l yX3_slip wsX3_slip ({ frames := 4, cells := 0, slots := 0, locals := 92 }) (va_Pc [.ref hm, .int (iI (iv)), .int (iI (sv))] (WrP G (MW G hm adm u) sz)) (va_Qi (fun q9 (u' : mf_V) => ∃ z : Int, q9 = iI z ∧ rOK ulo uhi u' ∧ frF u u' ∧ u' 0 0 = kSlip r iv sv ∧ (kSlip r iv sv = 0 → relU q u' ∧ z = q 7 0) ∧ (¬ kSlip r iv sv = 0 → relU r u')) (fun (u' : mf_V) t => WrQ G (va_A (MW G hm adm u) sz) (MW G hm adm u') t) (va_A (MW G hm adm u) sz)) 0 0 (va_A (MW G hm adm u) sz) := by
  refine Met.ofW (cc := cX3_slip) (maxL := 3) (ret := (some .int)) (by decide) rfl ?_
  intro p e s m args below meth c s₁ B hml hv
  obtain ⟨rfl, hsz, hP, hK, hD0, hN⟩ := hv
  have hx := B.exec
  have hb := B.bytes
  have hr := B.returns
  have hts := atoms_spec (ws := wsX3_slip) B.pre
  have hown : s.vm.findClass RX3 = some m.cls := findClass_of_methodNamed B.named
  have hlocks := B.notSynchronized
  have hinX3 : ∀ w ∈ u_ws RX3 TX3 11, w ∈ wsX3_slip := fun w h => List.mem_cons_of_mem _ (List.mem_append_right _ h)
  subst hsz
  have hD := hD0.self (sz := s.heap.size)
  generalize hAe : va_A (MW G hm adm u) s.heap.size = A at hD ⊢
  have hA : ∀ q : Nat, s.heap.size ≤ q → A q := fun q h => by rw [← hAe]; exact Or.inr h
  have hS : va_S A s.heap s.heap [] := va_S.rf
  have hl := lv_entry ([.ref hm, .int (iI (iv)), .int (iI (sv))]) (n := 3) (Nat.le_of_ble_eq_true rfl)
  rw [lg_entry_eq]
  generalize (lg_sl ([.ref hm, .int (iI (iv)), .int (iI (sv))]) ++ List.replicate (3 - (lg_sl ([.ref hm, .int (iI (iv)), .int (iI (sv))])).length) Slot.unset).toArray = ls at hl ⊢
  have hl : lv_has ls 3 [(0, .ref hm), (1, .int (iI (iv))), (2, .int (iI (sv)))] := hl
  have hiv1 := hiv.1
  have hiv2 := hiv.2
  have hsv1 := hsv.1
  have hsv2 := hsv.2
  have okLr : (0 : Int) ≤ r 7 0 ∧ r 7 0 ≤ 150 := ok 7 0
  refine lv_aload_n hx hb dX3_slip_0 rfl (lv_at hl 0 rfl) ?_
  refine mf_iconst hx hb dX3_slip_1 ?_
  refine va_put (D := G.1) (ci := 3) (v := .int (iI (0))) (ty := .int) (C := RX3) (T := TX3) (N := 11) hx hb hts hinX3 tyX3 tyX3_ok nmX3 hown hK hP hD hS 0 rfl rfl 0 (by decide) (hts (.fieldLink RX3 41 "MeanderFarmModel" "thrown" "I") (List.mem_of_getElem? (i := 1) rfl)) (fun _ h9 => h9) rfl (by decide +kernel) rfl rfl (Nat.le_of_ble_eq_true rfl) dX3_slip_2 (fun H locs hP hD hS => ?_)
  obtain ⟨u1, eu1⟩ : ∃ z9 : mf_V, z9 = mf_sF u 0 (fun _ => 0) := ⟨_, rfl⟩
  have hP : va_P G.1 vwCl (MW G hm adm u1) H := by rw [eu1]; exact hP
  have hD : va_D A (MW G hm adm u1) := by rw [eu1]; exact hD
  have oku1 : rOK ulo uhi u1 := by rw [eu1]; exact rOK_set oku 0 _ (show (-1 : Int) ≤ 0 by omega) (show 0 ≤ (9 : Int) by omega)
  have f1_u1 : ∀ y, u1 0 y = 0 := fun y => by rw [eu1, mf_sF_s]
  have f3_u1 : ∀ q, q ≠ 0 → u1 q = u q := fun q hq => by rw [eu1, mf_sF_n hq]
  have hrel1 : relU r u1 := relU_cg f3_u1 hrel
  have hz0 : u1 0 0 = 0 := f1_u1 0
  have hfF : frF u u1 := ⟨f3_u1 4 (by decide), f3_u1 5 (by decide)⟩
  refine lv_aload_n hx hb dX3_slip_5 rfl (lv_at hl 0 rfl) ?_
  refine lv_iload_n hx hb dX3_slip_6 rfl (lv_at hl 1 rfl) ?_
  refine vp_callSi (va_Run.run (va_runV (As := [.int (iI (iv))]) (rest := []) ⟨hx, hb, hml, hown, hts⟩ (c_X3_isCourse l G hm adm u1 (iv) (r) (i32_mk (by omega) (by omega)) (by assumption) (by assumption) (by first | assumption | omega) (by first | assumption | omega)) (cwV 1 hts gX3_slip_X3_isCourse rfl rfl rfl (by decide +kernel) ⟨Nat.le_of_ble_eq_true rfl, Nat.le_of_ble_eq_true rfl⟩) (rdV (wc := MW G hm adm u1) hK hP hN [0, 1, 2, 3, 4, 5, 6, 7, 8, 9] rfl (ci := 3) rfl rfl) rfl rfl hl.1 rfl (lv_room (Nat.le_of_ble_eq_true rfl)) dX3_slip_7 ⟨(Nat.zero_le _), (Nat.zero_le _)⟩)) (fun q2 hq2 => ?_)
  subst hq2
  refine mf_bp_ne (tgt := 19) hx hb dX3_slip_10 (by decide) (fun c3 => ?_) (fun c3 => ?_)
  · skip
    have c3' := c3; unfold inC at c3'
    refine lv_iload_n hx hb dX3_slip_19 rfl (lv_at hl 2 rfl) ?_
    refine mf_iconst hx hb dX3_slip_20 ?_
    refine mf_iconst hx hb dX3_slip_21 ?_
    refine vp_callSi (va_Run.run (va_runS (As := [.int (iI (sv)), .int (iI (0)), .int (iI (3))]) (rest := []) ⟨hx, hb, hml, hown, hts⟩ (c_X3_isIn l (sv) (0) (3) (i32_mk (by omega) (by omega)) (i32_mk (by decide) (by decide)) (i32_mk (by decide) (by decide))) (va_cwS 3 hts gX3_slip_X3_isIn rfl rfl rfl (by decide +kernel) ⟨Nat.le_of_ble_eq_true rfl, Nat.le_of_ble_eq_true rfl⟩) pureS rfl rfl hl.1 rfl (lv_room (Nat.le_of_ble_eq_true rfl)) dX3_slip_22 ⟨(Nat.zero_le _), (Nat.zero_le _)⟩)) (fun q4 hq4 => ?_)
    subst hq4
    refine mf_bp_ne (tgt := 34) hx hb dX3_slip_25 (by decide) (fun c5 => ?_) (fun c5 => ?_)
    · skip
      refine lv_aload_n hx hb dX3_slip_34 rfl (lv_at hl 0 rfl) ?_
      refine lv_iload_n hx hb dX3_slip_35 rfl (lv_at hl 1 rfl) ?_
      refine lv_iload_n hx hb dX3_slip_36 rfl (lv_at hl 2 rfl) ?_
      refine vp_callSi (va_Run.run (va_runV (As := [.int (iI (iv)), .int (iI (sv))]) (rest := []) ⟨hx, hb, hml, hown, hts⟩ (c_X3_canBulge l G hm adm u1 (iv) (sv) (r) (i32_mk (by omega) (by omega)) (i32_mk (by omega) (by omega)) (by assumption) (by assumption) (by first | assumption | omega) (by first | assumption | omega) (by omega)) (cwV 2 hts gX3_slip_X3_canBulge rfl rfl rfl (by decide +kernel) ⟨Nat.le_of_ble_eq_true rfl, Nat.le_of_ble_eq_true rfl⟩) (rdV (wc := MW G hm adm u1) hK hP hN [0, 1, 2, 3, 4, 5, 6, 7, 8, 9] rfl (ci := 3) rfl rfl) rfl rfl hl.1 rfl (lv_room (Nat.le_of_ble_eq_true rfl)) dX3_slip_37 ⟨(Nat.zero_le _), (Nat.zero_le _)⟩)) (fun q6 hq6 => ?_)
      subst hq6
      refine mf_bp_ne (tgt := 49) hx hb dX3_slip_40 (by decide) (fun c7 => ?_) (fun c7 => ?_)
      · skip
        have hk8 : kSlip r iv sv = 0 := (mf_if_f (fun z => z (by assumption))).trans ((mf_if_f (fun z => z (by assumption))).trans (mf_if_f (fun z => z (by assumption))))
        refine lv_aload_n hx hb dX3_slip_49 rfl (lv_at hl 0 rfl) ?_
        refine lv_iload_n hx hb dX3_slip_50 rfl (lv_at hl 1 rfl) ?_
        refine lv_iload_n hx hb dX3_slip_51 rfl (lv_at hl 2 rfl) ?_
        have hFc := va_free (wc := MW G hm adm u1) hD hS hA [0, 1, 2, 3, 4, 5, 6, 7, 8, 9] rfl
        refine va_callv (va_runV (As := [.int (iI (iv)), .int (iI (sv))]) (rest := []) ⟨hx, hb, hml, hown, hts⟩ (c_X3_bulge l G hm adm u1 (iv) (sv) (r) (q) (i32_mk (by omega) (by omega)) (i32_mk (by omega) (by omega)) (by assumption) (by assumption) (by first | assumption | omega) (by exact hrel1) (by exact okq) (by exact hq) (by assumption) (by exact hBul hk8) _) (cwV 2 hts gX3_slip_X3_bulge rfl rfl rfl (by decide +kernel) ⟨Nat.le_of_ble_eq_true rfl, Nat.le_of_ble_eq_true rfl⟩) (wrV (wc := MW G hm adm u1) hK hP hD hN [0, 1, 2, 3, 4, 5, 6, 7, 8, 9] (by decide) rfl rfl (ci := 3) rfl rfl) rfl rfl hl.1 rfl (lv_room (Nat.le_of_ble_eq_true rfl)) dX3_slip_52 ⟨(Nat.zero_le _), (Nat.zero_le _)⟩) hS (fun q _ h => hFc q h) hFc (fun u9 t H1 locs ht hvm hw hB hz1 hk1 hS => ?_)
        obtain ⟨u10, rfl⟩ : ∃ z, z = u9 := ⟨_, rfl⟩
        try dsimp only at hw hB
        obtain ⟨hP, hD⟩ := wrJ (ws := MW G hm adm u1) (w1 := MW G hm adm u10) ht hFc hB
        have hP : va_P G.1 vwCl (MW G hm adm u10) H1 := hP
        have hD : va_D A (MW G hm adm u10) := hD
        clear hB hk1 hFc ht hz1 hvm
        generalize H1 = H at hP hS ⊢
        have w11 := hw; clear hw
        have oku10 : rOK ulo uhi u10 := w11.1
        skip
        refine lv_aload_n hx hb dX3_slip_55 rfl (lv_at hl 0 rfl) ?_
        refine vp_callSi (va_Run.run (va_runV (As := []) (rest := []) ⟨hx, hb, hml, hown, hts⟩ (c_X3_length l G hm adm u10 (by assumption)) (cwV 0 hts gX3_slip_X3_length rfl rfl rfl (by decide +kernel) ⟨Nat.le_of_ble_eq_true rfl, Nat.le_of_ble_eq_true rfl⟩) (rdV (wc := MW G hm adm u10) hK hP hN [0, 1, 2, 3, 4, 5, 6, 7, 8, 9] rfl (ci := 3) rfl rfl) rfl rfl hl.1 rfl (lv_room (Nat.le_of_ble_eq_true rfl)) dX3_slip_56 ⟨(Nat.zero_le _), (Nat.zero_le _)⟩)) (fun q12 hq12 => ?_)
        subst hq12
        refine mf_top (u10 10 2) (q 7 0) (by rw [rel10_2 w11.2.1]) ?_
        have b13 : (0 : Int) ≤ q 7 0 ∧ q 7 0 ≤ 150 := okq 7 0
        exact W.iret hx hb hr (fun t ht hW => ⟨⟨_, u10, rfl, ⟨_, rfl, by exact ⟨w11.1, ⟨w11.2.2.2.1.trans hfF.1, w11.2.2.2.2.trans hfF.2⟩, by rw [hk8, w11.2.2.1]; exact hz0, fun _ => ⟨w11.2.1, rfl⟩, fun z9 => absurd hk8 z9⟩⟩, by rw [ht]; exact hP, hD⟩, hS.F ht⟩) hS.2.2 dX3_slip_59
      · skip
        refine lv_aload_n hx hb dX3_slip_43 rfl (lv_at hl 0 rfl) ?_
        refine mf_iconst hx hb dX3_slip_44 ?_
        have hFc := va_free (wc := MW G hm adm u1) hD hS hA [0, 1, 2, 3, 4, 5, 6, 7, 8, 9] rfl
        refine va_calli (va_runV (As := [.int (iI (3))]) (rest := []) ⟨hx, hb, hml, hown, hts⟩ (c_X3_fail l G hm adm u1 (3) (i32_mk (by decide) (by decide)) (by assumption) (by first | assumption | omega) _) (cwV 1 hts gX3_slip_X3_fail rfl rfl rfl (by decide +kernel) ⟨Nat.le_of_ble_eq_true rfl, Nat.le_of_ble_eq_true rfl⟩) (wrV (wc := MW G hm adm u1) hK hP hD hN [0, 1, 2, 3, 4, 5, 6, 7, 8, 9] (by decide) rfl rfl (ci := 3) rfl rfl) rfl rfl hl.1 rfl (lv_room (Nat.le_of_ble_eq_true rfl)) dX3_slip_45 ⟨(Nat.zero_le _), (Nat.zero_le _)⟩) hS (fun q _ h => hFc q h) hFc (fun q14 u15 t H1 locs ht hvm hw hB hz1 hk1 hS => ?_)
        obtain ⟨u16, rfl⟩ : ∃ z, z = u15 := ⟨_, rfl⟩
        try dsimp only at hw hB
        obtain ⟨hP, hD⟩ := wrJ (ws := MW G hm adm u1) (w1 := MW G hm adm u16) ht hFc hB
        have hP : va_P G.1 vwCl (MW G hm adm u16) H1 := hP
        have hD : va_D A (MW G hm adm u16) := hD
        clear hB hk1 hFc ht hz1 hvm
        generalize H1 = H at hP hS ⊢
        obtain ⟨z18, rfl, w17⟩ := hw
        have oku16 : rOK ulo uhi u16 := w17.1
        have hk9 : kSlip r iv sv = 3 := (mf_if_f (fun z => z (by assumption))).trans ((mf_if_f (fun z => z (by assumption))).trans (mf_if_t (by assumption)))
        exact W.iret hx hb hr (fun t ht hW => ⟨⟨_, u16, rfl, ⟨_, rfl, by exact ⟨w17.1, ⟨(w17.2.1 4 (by decide)).trans hfF.1, (w17.2.1 5 (by decide)).trans hfF.2⟩, by rw [hk9]; exact w17.2.2.1, fun z9 => by rw [hk9] at z9; omega, fun _ => relU_cg w17.2.1 hrel1⟩⟩, by rw [ht]; exact hP, hD⟩, hS.F ht⟩) hS.2.2 dX3_slip_48
    · skip
      refine lv_aload_n hx hb dX3_slip_28 rfl (lv_at hl 0 rfl) ?_
      refine mf_iconst hx hb dX3_slip_29 ?_
      have hFc := va_free (wc := MW G hm adm u1) hD hS hA [0, 1, 2, 3, 4, 5, 6, 7, 8, 9] rfl
      refine va_calli (va_runV (As := [.int (iI (2))]) (rest := []) ⟨hx, hb, hml, hown, hts⟩ (c_X3_fail l G hm adm u1 (2) (i32_mk (by decide) (by decide)) (by assumption) (by first | assumption | omega) _) (cwV 1 hts gX3_slip_X3_fail rfl rfl rfl (by decide +kernel) ⟨Nat.le_of_ble_eq_true rfl, Nat.le_of_ble_eq_true rfl⟩) (wrV (wc := MW G hm adm u1) hK hP hD hN [0, 1, 2, 3, 4, 5, 6, 7, 8, 9] (by decide) rfl rfl (ci := 3) rfl rfl) rfl rfl hl.1 rfl (lv_room (Nat.le_of_ble_eq_true rfl)) dX3_slip_30 ⟨(Nat.zero_le _), (Nat.zero_le _)⟩) hS (fun q _ h => hFc q h) hFc (fun q19 u20 t H1 locs ht hvm hw hB hz1 hk1 hS => ?_)
      obtain ⟨u21, rfl⟩ : ∃ z, z = u20 := ⟨_, rfl⟩
      try dsimp only at hw hB
      obtain ⟨hP, hD⟩ := wrJ (ws := MW G hm adm u1) (w1 := MW G hm adm u21) ht hFc hB
      have hP : va_P G.1 vwCl (MW G hm adm u21) H1 := hP
      have hD : va_D A (MW G hm adm u21) := hD
      clear hB hk1 hFc ht hz1 hvm
      generalize H1 = H at hP hS ⊢
      obtain ⟨z23, rfl, w22⟩ := hw
      have oku21 : rOK ulo uhi u21 := w22.1
      have hk9 : kSlip r iv sv = 2 := (mf_if_f (fun z => z (by assumption))).trans (mf_if_t (by assumption))
      exact W.iret hx hb hr (fun t ht hW => ⟨⟨_, u21, rfl, ⟨_, rfl, by exact ⟨w22.1, ⟨(w22.2.1 4 (by decide)).trans hfF.1, (w22.2.1 5 (by decide)).trans hfF.2⟩, by rw [hk9]; exact w22.2.2.1, fun z9 => by rw [hk9] at z9; omega, fun _ => relU_cg w22.2.1 hrel1⟩⟩, by rw [ht]; exact hP, hD⟩, hS.F ht⟩) hS.2.2 dX3_slip_33
  · skip
    have c3' := c3; unfold inC at c3'
    refine lv_aload_n hx hb dX3_slip_13 rfl (lv_at hl 0 rfl) ?_
    refine mf_iconst hx hb dX3_slip_14 ?_
    have hFc := va_free (wc := MW G hm adm u1) hD hS hA [0, 1, 2, 3, 4, 5, 6, 7, 8, 9] rfl
    refine va_calli (va_runV (As := [.int (iI (1))]) (rest := []) ⟨hx, hb, hml, hown, hts⟩ (c_X3_fail l G hm adm u1 (1) (i32_mk (by decide) (by decide)) (by assumption) (by first | assumption | omega) _) (cwV 1 hts gX3_slip_X3_fail rfl rfl rfl (by decide +kernel) ⟨Nat.le_of_ble_eq_true rfl, Nat.le_of_ble_eq_true rfl⟩) (wrV (wc := MW G hm adm u1) hK hP hD hN [0, 1, 2, 3, 4, 5, 6, 7, 8, 9] (by decide) rfl rfl (ci := 3) rfl rfl) rfl rfl hl.1 rfl (lv_room (Nat.le_of_ble_eq_true rfl)) dX3_slip_15 ⟨(Nat.zero_le _), (Nat.zero_le _)⟩) hS (fun q _ h => hFc q h) hFc (fun q24 u25 t H1 locs ht hvm hw hB hz1 hk1 hS => ?_)
    obtain ⟨u26, rfl⟩ : ∃ z, z = u25 := ⟨_, rfl⟩
    try dsimp only at hw hB
    obtain ⟨hP, hD⟩ := wrJ (ws := MW G hm adm u1) (w1 := MW G hm adm u26) ht hFc hB
    have hP : va_P G.1 vwCl (MW G hm adm u26) H1 := hP
    have hD : va_D A (MW G hm adm u26) := hD
    clear hB hk1 hFc ht hz1 hvm
    generalize H1 = H at hP hS ⊢
    obtain ⟨z28, rfl, w27⟩ := hw
    have oku26 : rOK ulo uhi u26 := w27.1
    have hk9 : kSlip r iv sv = 1 := mf_if_t (by assumption)
    exact W.iret hx hb hr (fun t ht hW => ⟨⟨_, u26, rfl, ⟨_, rfl, by exact ⟨w27.1, ⟨(w27.2.1 4 (by decide)).trans hfF.1, (w27.2.1 5 (by decide)).trans hfF.2⟩, by rw [hk9]; exact w27.2.2.1, fun z9 => by rw [hk9] at z9; omega, fun _ => relU_cg w27.2.1 hrel1⟩⟩, by rw [ht]; exact hP, hD⟩, hS.F ht⟩) hS.2.2 dX3_slip_18
set_option maxHeartbeats 4000000 in
set_option maxRecDepth 100000 in
theorem c_X3_dig (l : Launch) (G : mf_G) (hm : Nat) (adm : Nat → Nat) (u : mf_V)  (iv : Int) (jv : Int) (r : mf_V) (q : mf_V) (hiv : i32 iv) (hjv : i32 jv) (oku : rOK ulo uhi u) (ok : rOK rlo rhi r) (hI : RInv r) (hrel : relU r u) (okq : rOK rlo rhi q) (hq : RInv q) (hBrk : kDig r iv jv = 0 → Brk r iv jv q) (hbk : r 9 0 < 100000000) (sz : Nat) : Met l yX3_dig wsX3_dig ({ frames := 3, cells := 0, slots := 0, locals := 64 }) (va_Pc [.ref hm, .int (iI (iv)), .int (iI (jv))] (WrP G (MW G hm adm u) sz)) (va_Qi (fun q9 (u' : mf_V) => ∃ z : Int, q9 = iI z ∧ rOK ulo uhi u' ∧ frF u u' ∧ u' 0 0 = kDig r iv jv ∧ (kDig r iv jv = 0 → relU q u' ∧ z = q 7 0) ∧ (¬ kDig r iv jv = 0 → relU r u')) (fun (u' : mf_V) t => WrQ G (va_A (MW G hm adm u) sz) (MW G hm adm u') t) (va_A (MW G hm adm u) sz)) 0 0 (va_A (MW G hm adm u) sz) := by
  refine Met.ofW (cc := cX3_dig) (maxL := 3) (ret := (some .int)) (by decide) rfl ?_
  intro p e s m args below meth c s₁ B hml hv
  obtain ⟨rfl, hsz, hP, hK, hD0, hN⟩ := hv
  have hx := B.exec
  have hb := B.bytes
  have hr := B.returns
  have hts := atoms_spec (ws := wsX3_dig) B.pre
  have hown : s.vm.findClass RX3 = some m.cls := findClass_of_methodNamed B.named
  have hlocks := B.notSynchronized
  have hinX3 : ∀ w ∈ u_ws RX3 TX3 11, w ∈ wsX3_dig := fun w h => List.mem_cons_of_mem _ (List.mem_append_right _ h)
  subst hsz
  have hD := hD0.self (sz := s.heap.size)
  generalize hAe : va_A (MW G hm adm u) s.heap.size = A at hD ⊢
  have hA : ∀ q : Nat, s.heap.size ≤ q → A q := fun q h => by rw [← hAe]; exact Or.inr h
  have hS : va_S A s.heap s.heap [] := va_S.rf
  have hl := lv_entry ([.ref hm, .int (iI (iv)), .int (iI (jv))]) (n := 3) (Nat.le_of_ble_eq_true rfl)
  rw [lg_entry_eq]
  generalize (lg_sl ([.ref hm, .int (iI (iv)), .int (iI (jv))]) ++ List.replicate (3 - (lg_sl ([.ref hm, .int (iI (iv)), .int (iI (jv))])).length) Slot.unset).toArray = ls at hl ⊢
  have hl : lv_has ls 3 [(0, .ref hm), (1, .int (iI (iv))), (2, .int (iI (jv)))] := hl
  have hiv1 := hiv.1
  have hiv2 := hiv.2
  have hjv1 := hjv.1
  have hjv2 := hjv.2
  have okLr : (0 : Int) ≤ r 7 0 ∧ r 7 0 ≤ 150 := ok 7 0
  refine lv_aload_n hx hb dX3_dig_0 rfl (lv_at hl 0 rfl) ?_
  refine mf_iconst hx hb dX3_dig_1 ?_
  refine va_put (D := G.1) (ci := 3) (v := .int (iI (0))) (ty := .int) (C := RX3) (T := TX3) (N := 11) hx hb hts hinX3 tyX3 tyX3_ok nmX3 hown hK hP hD hS 0 rfl rfl 0 (by decide) (hts (.fieldLink RX3 41 "MeanderFarmModel" "thrown" "I") (List.mem_of_getElem? (i := 1) rfl)) (fun _ h9 => h9) rfl (by decide +kernel) rfl rfl (Nat.le_of_ble_eq_true rfl) dX3_dig_2 (fun H locs hP hD hS => ?_)
  obtain ⟨u1, eu1⟩ : ∃ z9 : mf_V, z9 = mf_sF u 0 (fun _ => 0) := ⟨_, rfl⟩
  have hP : va_P G.1 vwCl (MW G hm adm u1) H := by rw [eu1]; exact hP
  have hD : va_D A (MW G hm adm u1) := by rw [eu1]; exact hD
  have oku1 : rOK ulo uhi u1 := by rw [eu1]; exact rOK_set oku 0 _ (show (-1 : Int) ≤ 0 by omega) (show 0 ≤ (9 : Int) by omega)
  have f1_u1 : ∀ y, u1 0 y = 0 := fun y => by rw [eu1, mf_sF_s]
  have f3_u1 : ∀ q, q ≠ 0 → u1 q = u q := fun q hq => by rw [eu1, mf_sF_n hq]
  have hrel1 : relU r u1 := relU_cg f3_u1 hrel
  have hz0 : u1 0 0 = 0 := f1_u1 0
  have hfF : frF u u1 := ⟨f3_u1 4 (by decide), f3_u1 5 (by decide)⟩
  refine lv_aload_n hx hb dX3_dig_5 rfl (lv_at hl 0 rfl) ?_
  refine lv_iload_n hx hb dX3_dig_6 rfl (lv_at hl 1 rfl) ?_
  refine vp_callSi (va_Run.run (va_runV (As := [.int (iI (iv))]) (rest := []) ⟨hx, hb, hml, hown, hts⟩ (c_X3_isCourse l G hm adm u1 (iv) (r) (i32_mk (by omega) (by omega)) (by assumption) (by assumption) (by first | assumption | omega) (by first | assumption | omega)) (cwV 1 hts gX3_dig_X3_isCourse rfl rfl rfl (by decide +kernel) ⟨Nat.le_of_ble_eq_true rfl, Nat.le_of_ble_eq_true rfl⟩) (rdV (wc := MW G hm adm u1) hK hP hN [0, 1, 2, 3, 4, 5, 6, 7, 8, 9] rfl (ci := 3) rfl rfl) rfl rfl hl.1 rfl (lv_room (Nat.le_of_ble_eq_true rfl)) dX3_dig_7 ⟨(Nat.zero_le _), (Nat.zero_le _)⟩)) (fun q2 hq2 => ?_)
  subst hq2
  refine mf_bp_eq (tgt := 21) hx hb dX3_dig_10 (by decide) (fun c3 => ?_) (fun c3 => ?_)
  · skip
    have c3' := c3; unfold inC at c3'
    refine lv_aload_n hx hb dX3_dig_21 rfl (lv_at hl 0 rfl) ?_
    refine mf_iconst hx hb dX3_dig_22 ?_
    have hFc := va_free (wc := MW G hm adm u1) hD hS hA [0, 1, 2, 3, 4, 5, 6, 7, 8, 9] rfl
    refine va_calli (va_runV (As := [.int (iI (1))]) (rest := []) ⟨hx, hb, hml, hown, hts⟩ (c_X3_fail l G hm adm u1 (1) (i32_mk (by decide) (by decide)) (by assumption) (by first | assumption | omega) _) (cwV 1 hts gX3_dig_X3_fail rfl rfl rfl (by decide +kernel) ⟨Nat.le_of_ble_eq_true rfl, Nat.le_of_ble_eq_true rfl⟩) (wrV (wc := MW G hm adm u1) hK hP hD hN [0, 1, 2, 3, 4, 5, 6, 7, 8, 9] (by decide) rfl rfl (ci := 3) rfl rfl) rfl rfl hl.1 rfl (lv_room (Nat.le_of_ble_eq_true rfl)) dX3_dig_23 ⟨(Nat.zero_le _), (Nat.zero_le _)⟩) hS (fun q _ h => hFc q h) hFc (fun q4 u5 t H1 locs ht hvm hw hB hz1 hk1 hS => ?_)
    obtain ⟨u6, rfl⟩ : ∃ z, z = u5 := ⟨_, rfl⟩
    try dsimp only at hw hB
    obtain ⟨hP, hD⟩ := wrJ (ws := MW G hm adm u1) (w1 := MW G hm adm u6) ht hFc hB
    have hP : va_P G.1 vwCl (MW G hm adm u6) H1 := hP
    have hD : va_D A (MW G hm adm u6) := hD
    clear hB hk1 hFc ht hz1 hvm
    generalize H1 = H at hP hS ⊢
    obtain ⟨z8, rfl, w7⟩ := hw
    have oku6 : rOK ulo uhi u6 := w7.1
    have hk9 : kDig r iv jv = 1 := mf_if_t (fun z => by first | (exact absurd z.1 (by assumption)) | (exact absurd z.2 (by assumption)))
    exact W.iret hx hb hr (fun t ht hW => ⟨⟨_, u6, rfl, ⟨_, rfl, by exact ⟨w7.1, ⟨(w7.2.1 4 (by decide)).trans hfF.1, (w7.2.1 5 (by decide)).trans hfF.2⟩, by rw [hk9]; exact w7.2.2.1, fun z9 => by rw [hk9] at z9; omega, fun _ => relU_cg w7.2.1 hrel1⟩⟩, by rw [ht]; exact hP, hD⟩, hS.F ht⟩) hS.2.2 dX3_dig_26
  · skip
    have c3' := c3; unfold inC at c3'
    refine lv_aload_n hx hb dX3_dig_13 rfl (lv_at hl 0 rfl) ?_
    refine lv_iload_n hx hb dX3_dig_14 rfl (lv_at hl 2 rfl) ?_
    refine vp_callSi (va_Run.run (va_runV (As := [.int (iI (jv))]) (rest := []) ⟨hx, hb, hml, hown, hts⟩ (c_X3_isCourse l G hm adm u1 (jv) (r) (i32_mk (by omega) (by omega)) (by assumption) (by assumption) (by first | assumption | omega) (by first | assumption | omega)) (cwV 1 hts gX3_dig_X3_isCourse rfl rfl rfl (by decide +kernel) ⟨Nat.le_of_ble_eq_true rfl, Nat.le_of_ble_eq_true rfl⟩) (rdV (wc := MW G hm adm u1) hK hP hN [0, 1, 2, 3, 4, 5, 6, 7, 8, 9] rfl (ci := 3) rfl rfl) rfl rfl hl.1 rfl (lv_room (Nat.le_of_ble_eq_true rfl)) dX3_dig_15 ⟨(Nat.zero_le _), (Nat.zero_le _)⟩)) (fun q9 hq9 => ?_)
    subst hq9
    refine mf_bp_ne (tgt := 27) hx hb dX3_dig_18 (by decide) (fun c10 => ?_) (fun c10 => ?_)
    · skip
      have c10' := c10; unfold inC at c10'
      have hin9 : inC r iv := by assumption
      have hin8 := hin9
      unfold inC at hin8
      have hjn9 : inC r jv := by assumption
      have hjn8 := hjn9
      unfold inC at hjn8
      refine lv_aload_n hx hb dX3_dig_27 rfl (lv_at hl 0 rfl) ?_
      refine lv_iload_n hx hb dX3_dig_28 rfl (lv_at hl 1 rfl) ?_
      refine lv_iload_n hx hb dX3_dig_29 rfl (lv_at hl 2 rfl) ?_
      refine vp_callSi (va_Run.run (va_runV (As := [.int (iI (iv)), .int (iI (jv))]) (rest := []) ⟨hx, hb, hml, hown, hts⟩ (c_X3_isNeck l G hm adm u1 (iv) (jv) (r) (i32_mk (by omega) (by omega)) (i32_mk (by omega) (by omega)) (by assumption) (by assumption) (by first | assumption | omega) (by first | assumption | omega) (by omega) (by omega)) (cwV 2 hts gX3_dig_X3_isNeck rfl rfl rfl (by decide +kernel) ⟨Nat.le_of_ble_eq_true rfl, Nat.le_of_ble_eq_true rfl⟩) (rdV (wc := MW G hm adm u1) hK hP hN [0, 1, 2, 3, 4, 5, 6, 7, 8, 9] rfl (ci := 3) rfl rfl) rfl rfl hl.1 rfl (lv_room (Nat.le_of_ble_eq_true rfl)) dX3_dig_30 ⟨(Nat.zero_le _), (Nat.zero_le _)⟩)) (fun q11 hq11 => ?_)
      subst hq11
      refine mf_bp_ne (tgt := 42) hx hb dX3_dig_33 (by decide) (fun c12 => ?_) (fun c12 => ?_)
      · skip
        have hk8 : kDig r iv jv = 0 := (mf_if_f (fun z => z ⟨hin9, hjn9⟩)).trans (mf_if_f (fun z => z (by assumption)))
        refine lv_aload_n hx hb dX3_dig_42 rfl (lv_at hl 0 rfl) ?_
        refine lv_iload_n hx hb dX3_dig_43 rfl (lv_at hl 1 rfl) ?_
        refine lv_iload_n hx hb dX3_dig_44 rfl (lv_at hl 2 rfl) ?_
        have hFc := va_free (wc := MW G hm adm u1) hD hS hA [0, 1, 2, 3, 4, 5, 6, 7, 8, 9] rfl
        refine va_callv (va_runV (As := [.int (iI (iv)), .int (iI (jv))]) (rest := []) ⟨hx, hb, hml, hown, hts⟩ (c_X3_breakThrough l G hm adm u1 (iv) (jv) (r) (q) (i32_mk (by omega) (by omega)) (i32_mk (by omega) (by omega)) (by assumption) (by assumption) (by first | assumption | omega) (by exact hrel1) (by exact okq) (by exact hq) (by assumption) (by exact hBrk hk8) (by first | assumption | omega) _) (cwV 2 hts gX3_dig_X3_breakThrough rfl rfl rfl (by decide +kernel) ⟨Nat.le_of_ble_eq_true rfl, Nat.le_of_ble_eq_true rfl⟩) (wrV (wc := MW G hm adm u1) hK hP hD hN [0, 1, 2, 3, 4, 5, 6, 7, 8, 9] (by decide) rfl rfl (ci := 3) rfl rfl) rfl rfl hl.1 rfl (lv_room (Nat.le_of_ble_eq_true rfl)) dX3_dig_45 ⟨(Nat.zero_le _), (Nat.zero_le _)⟩) hS (fun q _ h => hFc q h) hFc (fun u14 t H1 locs ht hvm hw hB hz1 hk1 hS => ?_)
        obtain ⟨u15, rfl⟩ : ∃ z, z = u14 := ⟨_, rfl⟩
        try dsimp only at hw hB
        obtain ⟨hP, hD⟩ := wrJ (ws := MW G hm adm u1) (w1 := MW G hm adm u15) ht hFc hB
        have hP : va_P G.1 vwCl (MW G hm adm u15) H1 := hP
        have hD : va_D A (MW G hm adm u15) := hD
        clear hB hk1 hFc ht hz1 hvm
        generalize H1 = H at hP hS ⊢
        have w16 := hw; clear hw
        have oku15 : rOK ulo uhi u15 := w16.1
        skip
        refine lv_aload_n hx hb dX3_dig_48 rfl (lv_at hl 0 rfl) ?_
        refine vp_callSi (va_Run.run (va_runV (As := []) (rest := []) ⟨hx, hb, hml, hown, hts⟩ (c_X3_length l G hm adm u15 (by assumption)) (cwV 0 hts gX3_dig_X3_length rfl rfl rfl (by decide +kernel) ⟨Nat.le_of_ble_eq_true rfl, Nat.le_of_ble_eq_true rfl⟩) (rdV (wc := MW G hm adm u15) hK hP hN [0, 1, 2, 3, 4, 5, 6, 7, 8, 9] rfl (ci := 3) rfl rfl) rfl rfl hl.1 rfl (lv_room (Nat.le_of_ble_eq_true rfl)) dX3_dig_49 ⟨(Nat.zero_le _), (Nat.zero_le _)⟩)) (fun q17 hq17 => ?_)
        subst hq17
        refine mf_top (u15 10 2) (q 7 0) (by rw [rel10_2 w16.2.1]) ?_
        have b18 : (0 : Int) ≤ q 7 0 ∧ q 7 0 ≤ 150 := okq 7 0
        exact W.iret hx hb hr (fun t ht hW => ⟨⟨_, u15, rfl, ⟨_, rfl, by exact ⟨w16.1, ⟨w16.2.2.2.1.trans hfF.1, w16.2.2.2.2.trans hfF.2⟩, by rw [hk8, w16.2.2.1]; exact hz0, fun _ => ⟨w16.2.1, rfl⟩, fun z9 => absurd hk8 z9⟩⟩, by rw [ht]; exact hP, hD⟩, hS.F ht⟩) hS.2.2 dX3_dig_52
      · skip
        refine lv_aload_n hx hb dX3_dig_36 rfl (lv_at hl 0 rfl) ?_
        refine mf_iconst hx hb dX3_dig_37 ?_
        have hFc := va_free (wc := MW G hm adm u1) hD hS hA [0, 1, 2, 3, 4, 5, 6, 7, 8, 9] rfl
        refine va_calli (va_runV (As := [.int (iI (2))]) (rest := []) ⟨hx, hb, hml, hown, hts⟩ (c_X3_fail l G hm adm u1 (2) (i32_mk (by decide) (by decide)) (by assumption) (by first | assumption | omega) _) (cwV 1 hts gX3_dig_X3_fail rfl rfl rfl (by decide +kernel) ⟨Nat.le_of_ble_eq_true rfl, Nat.le_of_ble_eq_true rfl⟩) (wrV (wc := MW G hm adm u1) hK hP hD hN [0, 1, 2, 3, 4, 5, 6, 7, 8, 9] (by decide) rfl rfl (ci := 3) rfl rfl) rfl rfl hl.1 rfl (lv_room (Nat.le_of_ble_eq_true rfl)) dX3_dig_38 ⟨(Nat.zero_le _), (Nat.zero_le _)⟩) hS (fun q _ h => hFc q h) hFc (fun q19 u20 t H1 locs ht hvm hw hB hz1 hk1 hS => ?_)
        obtain ⟨u21, rfl⟩ : ∃ z, z = u20 := ⟨_, rfl⟩
        try dsimp only at hw hB
        obtain ⟨hP, hD⟩ := wrJ (ws := MW G hm adm u1) (w1 := MW G hm adm u21) ht hFc hB
        have hP : va_P G.1 vwCl (MW G hm adm u21) H1 := hP
        have hD : va_D A (MW G hm adm u21) := hD
        clear hB hk1 hFc ht hz1 hvm
        generalize H1 = H at hP hS ⊢
        obtain ⟨z23, rfl, w22⟩ := hw
        have oku21 : rOK ulo uhi u21 := w22.1
        have hk9 : kDig r iv jv = 2 := (mf_if_f (fun z => z ⟨hin9, hjn9⟩)).trans (mf_if_t (by assumption))
        exact W.iret hx hb hr (fun t ht hW => ⟨⟨_, u21, rfl, ⟨_, rfl, by exact ⟨w22.1, ⟨(w22.2.1 4 (by decide)).trans hfF.1, (w22.2.1 5 (by decide)).trans hfF.2⟩, by rw [hk9]; exact w22.2.2.1, fun z9 => by rw [hk9] at z9; omega, fun _ => relU_cg w22.2.1 hrel1⟩⟩, by rw [ht]; exact hP, hD⟩, hS.F ht⟩) hS.2.2 dX3_dig_41
    · skip
      have c10' := c10; unfold inC at c10'
      refine lv_aload_n hx hb dX3_dig_21 rfl (lv_at hl 0 rfl) ?_
      refine mf_iconst hx hb dX3_dig_22 ?_
      have hFc := va_free (wc := MW G hm adm u1) hD hS hA [0, 1, 2, 3, 4, 5, 6, 7, 8, 9] rfl
      refine va_calli (va_runV (As := [.int (iI (1))]) (rest := []) ⟨hx, hb, hml, hown, hts⟩ (c_X3_fail l G hm adm u1 (1) (i32_mk (by decide) (by decide)) (by assumption) (by first | assumption | omega) _) (cwV 1 hts gX3_dig_X3_fail rfl rfl rfl (by decide +kernel) ⟨Nat.le_of_ble_eq_true rfl, Nat.le_of_ble_eq_true rfl⟩) (wrV (wc := MW G hm adm u1) hK hP hD hN [0, 1, 2, 3, 4, 5, 6, 7, 8, 9] (by decide) rfl rfl (ci := 3) rfl rfl) rfl rfl hl.1 rfl (lv_room (Nat.le_of_ble_eq_true rfl)) dX3_dig_23 ⟨(Nat.zero_le _), (Nat.zero_le _)⟩) hS (fun q _ h => hFc q h) hFc (fun q24 u25 t H1 locs ht hvm hw hB hz1 hk1 hS => ?_)
      obtain ⟨u26, rfl⟩ : ∃ z, z = u25 := ⟨_, rfl⟩
      try dsimp only at hw hB
      obtain ⟨hP, hD⟩ := wrJ (ws := MW G hm adm u1) (w1 := MW G hm adm u26) ht hFc hB
      have hP : va_P G.1 vwCl (MW G hm adm u26) H1 := hP
      have hD : va_D A (MW G hm adm u26) := hD
      clear hB hk1 hFc ht hz1 hvm
      generalize H1 = H at hP hS ⊢
      obtain ⟨z28, rfl, w27⟩ := hw
      have oku26 : rOK ulo uhi u26 := w27.1
      have hk9 : kDig r iv jv = 1 := mf_if_t (fun z => by first | (exact absurd z.1 (by assumption)) | (exact absurd z.2 (by assumption)))
      exact W.iret hx hb hr (fun t ht hW => ⟨⟨_, u26, rfl, ⟨_, rfl, by exact ⟨w27.1, ⟨(w27.2.1 4 (by decide)).trans hfF.1, (w27.2.1 5 (by decide)).trans hfF.2⟩, by rw [hk9]; exact w27.2.2.1, fun z9 => by rw [hk9] at z9; omega, fun _ => relU_cg w27.2.1 hrel1⟩⟩, by rw [ht]; exact hP, hD⟩, hS.F ht⟩) hS.2.2 dX3_dig_26
