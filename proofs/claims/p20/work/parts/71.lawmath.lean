/-! 71.lawmath: what the law asks of a course, of farms, of years foreseen -/
theorem dirsame {d : Int → Int} {j : Int} : ∀ n : Nat, (∀ q, j < q → q ≤ j + n → d q = d (q - 1)) → d (j + n) = d j := by
  intro n
  induction n with
  | zero => intro _; rw [show j + ((0 : Nat) : Int) = j by omega]
  | succ n ih =>
    intro h
    have a := ih (fun q q0 q1 => h q q0 (by omega))
    have b := h (j + (n + 1 : Nat)) (by omega) (by omega)
    rw [b, show j + ((n + 1 : Nat) : Int) - 1 = j + n by omega]
    exact a
theorem perp {r : mf_V} (ok : rOK rlo rhi r) (hI : RInv r) {j : Int} (h0 : 0 < j) (h1 : j < r 7 0 - 1) (h : ¬ r 11 j = r 11 (j - 1)) : (r 11 (j - 1) + r 11 j) % 2 = 1 := by
  obtain ⟨a1, a2, a3, a4⟩ := dirW hI (i := j - 1) (by omega) (by omega)
  obtain ⟨b1, b2, b3, b4⟩ := dirW hI (i := j) (by omega) h1
  rw [show j - 1 + 1 = j by omega] at a3
  have c : (0 : Int) ≤ r 6 (j - 1) ∧ r 6 (j - 1) ≤ 383 := ok 6 _
  have e : (0 : Int) ≤ r 6 j ∧ r 6 j ≤ 383 := ok 6 _
  have n0 := nbr0 c.1 (by omega)
  have n1 := nbr1 c.1 (by omega)
  have n2 := nbr2 c.1 (by omega)
  have n3 := nbr3 c.1 (by omega)
  have m0 := nbr0 e.1 (by omega)
  have m1 := nbr1 e.1 (by omega)
  have m2 := nbr2 e.1 (by omega)
  have m3 := nbr3 e.1 (by omega)
  have inj : ¬ r 6 (j - 1) = r 6 (j + 1) := fun y => by
    have := hI.1.2.2 (j - 1) (j + 1) (by omega) (by omega) (by omega) (by omega) y
    omega
  rcases d4 a1 a2 with x | x | x | x <;> rcases d4 b1 b2 with y | y | y | y <;> rw [x] at a3 h ⊢ <;> rw [y] at b3 h ⊢ <;> omega
theorem thr_across {r : mf_V} (ok : rOK rlo rhi r) (hI : RInv r) {i : Int} (h0 : 0 ≤ i) (h1 : i < r 7 0) (h : ¬ r 12 i = -1) : strP r i ∧ (r 12 i + r 11 i) % 2 = 1 := by
  rcases (hI.2.2.2 i h0 h1).1 with ⟨-, b⟩ | ⟨a, j, j0, j1, j2, j3, j4, j5⟩ | ⟨-, -, b⟩
  · exact absurd b h
  · refine ⟨a, ?_⟩
    have e : r 11 i = r 11 j := by
      obtain ⟨n, hn⟩ := Int.eq_ofNat_of_zero_le (show 0 ≤ i - j by omega)
      have g := dirsame (d := r 11) (j := j) n (fun q q0 q1 => j4 q q0 (by omega))
      rw [show j + (n : Int) = i by omega] at g
      exact g
    rw [j5, e]
    exact perp ok hI j0 (by omega) j3
  · exact absurd b h
theorem course_adj {r : mf_V} (ok : rOK rlo rhi r) (hI : RInv r) {i : Int} (h0 : 0 < i) (h1 : i < r 7 0) : mf_absI (r 6 i % 24 - r 6 (i - 1) % 24) + mf_absI (r 6 i / 24 - r 6 (i - 1) / 24) = 1 := by
  have c : (0 : Int) ≤ r 6 (i - 1) ∧ r 6 (i - 1) ≤ 383 := ok 6 _
  have e : (0 : Int) ≤ r 6 i ∧ r 6 i ≤ 383 := ok 6 _
  have g := hI.1.2.1 (i - 1) (by omega) (by omega)
  rw [show i - 1 + 1 = i by omega] at g
  have a := (adj_iff c.1 (by omega) e.1 (by omega)).mp g
  have s1 := mf_absI_s (r 6 i % 24 - r 6 (i - 1) % 24)
  have s2 := mf_absI_s (r 6 i / 24 - r 6 (i - 1) / 24)
  omega
theorem bends_s {r : mf_V} {i : Int} (h0 : 0 < i) (h1 : i < r 7 0 - 1) : bP (1 ≤ i ∧ ¬ strP r i) = bP (¬ r 11 i = r 11 (i - 1)) :=
  bP_cg ⟨fun z y => z.2 ⟨h0, h1, y.symm⟩, fun z => ⟨by omega, fun y => z y.2.2.symm⟩⟩
/-- the bends among the first n cells -/
noncomputable def bendN (r : mf_V) (n : Int) : Int := msum (fun i => bP ((0 < i ∧ i < r 7 0 - 1) ∧ ¬ r 11 i = r 11 (i - 1))) n
theorem bendN_F {r : mf_V} (hL : 2 ≤ r 7 0) : bendN r (r 7 0) = bendsF r := by
  unfold bendN bendsF
  rw [show r 7 0 = (r 7 0 - 1) + 1 by omega, msum_s _ (by omega), bP_f (by omega), Int.add_zero, show r 7 0 - 1 + 1 - 1 = r 7 0 - 1 by omega]
  refine msum_cg (by omega) (fun z z0 z1 => bP_cg ⟨fun y => ⟨by omega, fun x => y.2 x.2.2.symm⟩, fun y => ⟨⟨by omega, by omega⟩, fun x => y.2 ⟨by omega, by omega, x.symm⟩⟩⟩)
theorem lakesF_lyl (r : mf_V) : msum (fun c => bP (0 < lyl r c)) 384 = lakesF r := by
  unfold lakesF
  exact msum_cg (by decide) (fun z z0 z1 => bP_cg (lyl_pos z0 z1))
theorem cnt_split {r : mf_V} (h : PInv r) (c : Int) : bP (cntP r 0 c) = bP (cntP r 1 c) + bP (cntP r 2 c) + bP (cntP r 3 c) := by
  by_cases z : 0 ≤ c ∧ c < 384
  · have e := lyl_in (r := r) z.1 z.2
    have w := h.2.2.2.1 c z.1 z.2
    have p := h.1.2.2.1.2 c z.1 z.2
    have l0 : 0 ≤ lyl r c := by rw [e]; omega
    have c0 : cntP r 0 c := ⟨z, Or.inl rfl⟩
    rw [bP_t c0]
    by_cases a : r 10 c = -1
    · have n2 : ¬ cntP r 2 c := fun y => by have := y.2; omega
      by_cases b : lyl r c ≤ 0
      · rw [bP_t (P := cntP r 1 c) ⟨z, by omega⟩, bP_f n2, bP_f (fun y : cntP r 3 c => by have := y.2; omega)]; rfl
      · rw [bP_f (fun y : cntP r 1 c => by have := y.2; omega), bP_f n2, bP_t (P := cntP r 3 c) ⟨z, by omega⟩]; rfl
    · have l1 : lyl r c = 0 := by rw [e]; omega
      rw [bP_f (fun y : cntP r 1 c => by have := y.2; omega), bP_t (P := cntP r 2 c) ⟨z, by omega⟩, bP_f (fun y : cntP r 3 c => by have := y.2; omega)]; rfl
  · rw [bP_f (fun y : cntP r 0 c => z y.1), bP_f (fun y : cntP r 1 c => z y.1), bP_f (fun y : cntP r 2 c => z y.1), bP_f (fun y : cntP r 3 c => z y.1)]; rfl
theorem cof_split {f r : mf_V} (okf : rOK flo fhi f) (h : PInv r) (k : Int) : cof f r k 0 = cof f r k 1 + cof f r k 2 + cof f r k 3 := by
  have b2 : (0 : Int) ≤ f 2 k ∧ f 2 k ≤ 24 := okf 2 k
  have b3 : (0 : Int) ≤ f 3 k ∧ f 3 k ≤ 16 := okf 3 k
  unfold cof
  rw [← msum_plus _ _ b3.1, ← msum_plus _ _ b3.1]
  refine msum_cg b3.1 (fun j j0 j1 => ?_)
  rw [← msum_plus _ _ b2.1, ← msum_plus _ _ b2.1]
  exact msum_cg b2.1 (fun i i0 i1 => cnt_split h _)
theorem cof_stones {f r : mf_V} (okf : rOK flo fhi f) (k : Int) : cof f r k 4 ≤ cof f r k 0 := by
  have b2 : (0 : Int) ≤ f 2 k ∧ f 2 k ≤ 24 := okf 2 k
  have b3 : (0 : Int) ≤ f 3 k ∧ f 3 k ≤ 16 := okf 3 k
  unfold cof
  refine msum_le b3.1 (fun j j0 j1 => msum_le b2.1 (fun i i0 i1 => ?_))
  by_cases y : cntP r 4 (cellNo (f 0 k + i) (f 1 k + j))
  · rw [bP_t y, bP_t (P := cntP r 0 (cellNo (f 0 k + i) (f 1 k + j))) ⟨y.1, Or.inl rfl⟩]; exact Int.le_refl _
  · rw [bP_f y]; exact (bP_01 _).1
theorem col0 {r : mf_V} (h : PInv r) : r 6 0 % 24 = 0 := h.2.1
theorem col23 {r : mf_V} (h : PInv r) : r 6 (r 7 0 - 1) % 24 = 23 := h.2.2.1
/-- one year foreseen is the year that comes -/
theorem fore1 {r q q' : mf_V} {b b' : Int} (ok : rOK rlo rhi r) (hI : RInv r) (hY : YearR r q b) (hF : YearsR 1 (rC r) q' b') : q' 7 0 = q 7 0 ∧ q' 9 0 = q 9 0 ∧ b' = b := by
  obtain ⟨r1, b1, b2, ⟨e1, e2⟩, -, -, hy, e3⟩ := hF
  rw [e1] at hy
  have g := eqYear (rC_I hI) hI (eqR_C r) (rC_ok ok) hy hY
  exact ⟨g.1.1, g.1.2.2.1, by omega⟩
theorem loses1 {f r q : mf_V} {ch : Int → mf_V} {n b : Int} (ok : rOK rlo rhi r) (hI : RInv r) (hY : YearR r q b) (hL : LoseP f (rC r) 0 ch n) : vLose f (rC r) 0 ch n = 1 ↔ cof f q 0 1 < cof f r 0 1 := by
  obtain ⟨c0, cn, cI, cY, cl, ce⟩ := hL
  obtain ⟨b1, hy⟩ := cY 0 (by decide) (by rcases ce with z | z <;> omega)
  rw [c0, show (0 : Int) + 1 = 1 from rfl] at hy
  have g := eqYear (rC_I hI) hI (eqR_C r) (rC_ok ok) hy hY
  have e : cof f (ch 1) 0 1 = cof f q 0 1 := eqCof (YearR_I hy) (YearR_I hY) g.1 f 0 1
  have e0 : cof f (rC r) 0 1 = cof f r 0 1 := rfl
  unfold vLose
  constructor
  · intro h
    by_cases z : cof f (ch n) 0 1 < cof f (rC r) 0 1
    · rw [mf_if_t z] at h
      rw [h, e, e0] at z; exact z
    · rw [mf_if_f z] at h; omega
  · intro h
    rw [← e, ← e0] at h
    by_cases z : 1 < n
    · exact absurd h (cl 1 (by decide) z)
    · have n1 : n = 1 := by rcases ce with y | y <;> omega
      rw [n1, mf_if_t h]
theorem vLose_b {f r : mf_V} {k n : Int} {ch : Int → mf_V} (h : LoseP f r k ch n) : -1 ≤ vLose f r k ch n ∧ vLose f r k ch n ≤ 60 := by
  have g := h.2.1
  unfold vLose
  by_cases z : cof f (ch n) k 1 < cof f r k 1
  · rw [mf_if_t z]; omega
  · rw [mf_if_f z]; omega
theorem banks_b {r : mf_V} (hL : 0 ≤ r 7 0) (c : Int) {n : Int} (hn : 0 ≤ n) : 0 ≤ msum (fun i => bP (r 13 i = c)) n ∧ msum (fun i => bP (r 13 i = c)) n ≤ n := by
  obtain ⟨k, rfl⟩ := Int.eq_ofNat_of_zero_le hn
  induction k with
  | zero => exact ⟨Int.le_refl _, Int.le_refl _⟩
  | succ k ih =>
    rw [show ((k + 1 : Nat) : Int) = (k : Int) + 1 from rfl, msum_s _ (by omega)]
    have a := ih (by omega)
    have b := bP_01 (r 13 (k : Int) = c)
    omega
theorem neckP_0 (r : mf_V) (q : mf_V) : vNeck r q 0 = neckF r := by unfold vNeck; rw [if_pos rfl]
theorem freshF_b (r q : mf_V) : 0 ≤ freshF r q ∧ freshF r q ≤ 384 := cnt_b _ 384
theorem bendsF_b {r : mf_V} (ok : rOK rlo rhi r) (hL : 2 ≤ r 7 0) : 0 ≤ bendsF r ∧ bendsF r ≤ 150 := by
  have g : (0 : Int) ≤ r 7 0 ∧ r 7 0 ≤ 150 := ok 7 0
  obtain ⟨n, hn⟩ := Int.eq_ofNat_of_zero_le (show 0 ≤ r 7 0 - 1 by omega)
  unfold bendsF
  rw [hn]
  have a := cnt_b (fun c => 1 ≤ c ∧ ¬ strP r c) n
  omega
theorem moreF_b {r : mf_V} (ok : rOK rlo rhi r) {f : Int} (h0 : 0 ≤ f) (h9 : f ≤ 9) (c : Int) : 0 ≤ moreF r f c ∧ moreF r f c ≤ 1350 := by
  have g : (0 : Int) ≤ r 7 0 ∧ r 7 0 ≤ 150 := ok 7 0
  have b := banks_b (r := r) g.1 c g.1
  unfold moreF
  by_cases z : 0 ≤ r 10 c ∨ ¬ r 2 c = 0
  · rw [mf_if_t z]; omega
  · rw [mf_if_f z]
    have m1 := Int.mul_nonneg b.1 h0
    have m2 := Int.mul_le_mul b.2 h9 h0 g.1
    omega
theorem mf_dcmpA : ∀ n : Fin 151, FP.dcmp (FP.ddiv (FP.i2d (iI ((n.1 : Nat) : Int))) 4627448617123184640) (FP.ddiv (FP.i2d (iI ((n.1 : Nat) : Int))) 4627448617123184640) = some Ordering.eq := by decide +kernel
theorem mf_dcmp {z : Int} (h0 : 0 ≤ z) (h1 : z ≤ 150) : Op.cmpValue (FP.dcmp (FP.ddiv (FP.i2d (iI z)) 4627448617123184640) (FP.ddiv (FP.i2d (iI z)) 4627448617123184640)) .l = iI 0 := by
  obtain ⟨n, rfl⟩ := Int.eq_ofNat_of_zero_le h0
  rw [mf_dcmpA ⟨n, by omega⟩]
  rfl
/-- what stands all the way through the law -/
def LEp (p : Program) (l : Launch) (s : State) (m : MethodId) (meth : Method) (c : Code) (b L : Nat) (xs : Nat → Int32) (G : mf_G) (A : Nat → Prop) : Prop :=
  p.tables.exec = Jvm.exec ∧ c.code = cL_law ∧ meth.sig.returnType = ret ∧ c.maxLocals = 27 ∧ s.vm.findClass RL = some m.cls ∧ (∀ w ∈ wsL_law, w.before #[Value.ref b] s = true) ∧ va_X b L xs s s.heap ∧ b < s.heap.size ∧ l.stackTraces = false ∧ va_K G.1 vwCl (mf_ty G) s ∧ NW s ∧ SX s ∧ CX s ∧ ZX A s s.heap ∧ (∀ q : Nat, s.heap.size ≤ q → A q) ∧ ¬ A b
