/-! 33.counts: sums two ways -/
theorem msum_cg {f g : Int → Int} {N : Int} (hN : 0 ≤ N) (h : ∀ z, 0 ≤ z → z < N → f z = g z) : msum f N = msum g N := by
  obtain ⟨n, rfl⟩ := Int.eq_ofNat_of_zero_le hN
  induction n with
  | zero => rfl
  | succ n ih =>
    rw [show ((n + 1 : Nat) : Int) = (n : Int) + 1 from rfl, msum_s f (by omega), msum_s g (by omega), ih (by omega) (fun z a b => h z a (by omega)), h n (by omega) (by omega)]
theorem msum_zero {f : Int → Int} {N : Int} (hN : 0 ≤ N) (h : ∀ z, 0 ≤ z → z < N → f z = 0) : msum f N = 0 := by
  obtain ⟨n, rfl⟩ := Int.eq_ofNat_of_zero_le hN
  induction n with
  | zero => rfl
  | succ n ih =>
    rw [show ((n + 1 : Nat) : Int) = (n : Int) + 1 from rfl, msum_s f (by omega), ih (by omega) (fun z a b => h z a (by omega)), h n (by omega) (by omega)]; rfl
theorem msum_cat (f : Int → Int) {a b : Int} (ha : 0 ≤ a) (hb : 0 ≤ b) : msum f (a + b) = msum f a + msum (fun x => f (a + x)) b := by
  obtain ⟨n, rfl⟩ := Int.eq_ofNat_of_zero_le hb
  induction n with
  | zero => rw [show ((0 : Nat) : Int) = 0 from rfl, msum_0, Int.add_zero, Int.add_zero]
  | succ n ih =>
    rw [show ((n + 1 : Nat) : Int) = (n : Int) + 1 from rfl, show a + ((n : Int) + 1) = (a + n) + 1 by omega, msum_s f (by omega), ih (by omega), msum_s _ (by omega)]; omega
theorem msum_plus (f g : Int → Int) {N : Int} (hN : 0 ≤ N) : msum (fun z => f z + g z) N = msum f N + msum g N := by
  obtain ⟨n, rfl⟩ := Int.eq_ofNat_of_zero_le hN
  induction n with
  | zero => rfl
  | succ n ih =>
    rw [show ((n + 1 : Nat) : Int) = (n : Int) + 1 from rfl, msum_s _ (by omega), msum_s f (by omega), msum_s g (by omega), ih (by omega)]; omega
theorem msum_win (g : Int → Int) {a n N : Int} (ha : 0 ≤ a) (hn : 0 ≤ n) (h : a + n ≤ N) : msum (fun x => mf_if (a ≤ x ∧ x < a + n) (g x) 0) N = msum (fun i => g (a + i)) n := by
  rw [show N = a + (n + (N - a - n)) by omega, msum_cat _ ha (by omega), msum_cat _ hn (by omega), msum_zero ha (fun z h0 h1 => mf_if_f (by omega)), msum_zero (N := N - a - n) (by omega) (fun z h0 h1 => mf_if_f (by omega)), Int.zero_add, Int.add_zero]
  exact msum_cg hn (fun z h0 h1 => mf_if_t (by omega))
theorem msum_rows (g : Int → Int) {n : Int} (hn : 0 ≤ n) : msum g (24 * n) = msum (fun y => msum (fun x => g (x + 24 * y)) 24) n := by
  obtain ⟨n, rfl⟩ := Int.eq_ofNat_of_zero_le hn
  induction n with
  | zero => rfl
  | succ n ih =>
    rw [show ((n + 1 : Nat) : Int) = (n : Int) + 1 from rfl, show 24 * ((n : Int) + 1) = 24 * n + 24 by omega, msum_cat _ (by omega) (by omega), ih (by omega), msum_s _ (by omega)]
    congr 1
    exact msum_cg (by omega) (fun z _ _ => by rw [Int.add_comm])
def FInv (f : mf_V) : Prop := ∀ k, 0 ≤ k → k < f 4 0 → f 0 k + f 2 k ≤ 24 ∧ f 1 k + f 3 k ≤ 16
theorem farm_sum {f r : mf_V} (okf : rOK flo fhi f) (hF : FInv f) {k w : Int} (h0 : 0 ≤ k) (h1 : k < f 4 0) : msum (fun c => bP (inF f (c % 24) (c / 24) k ∧ cntP r w c)) 384 = cof f r k w := by
  have b0 : (0 : Int) ≤ f 0 k ∧ f 0 k ≤ 23 := okf 0 k
  have b1 : (0 : Int) ≤ f 1 k ∧ f 1 k ≤ 15 := okf 1 k
  have b2 : (0 : Int) ≤ f 2 k ∧ f 2 k ≤ 24 := okf 2 k
  have b3 : (0 : Int) ≤ f 3 k ∧ f 3 k ≤ 16 := okf 3 k
  obtain ⟨e1, e2⟩ := hF k h0 h1
  rw [show (384 : Int) = 24 * 16 by decide, msum_rows _ (by decide)]
  have s1 : msum (fun y => msum (fun x => bP (inF f ((x + 24 * y) % 24) ((x + 24 * y) / 24) k ∧ cntP r w (x + 24 * y))) 24) 16 = msum (fun y => mf_if (f 1 k ≤ y ∧ y < f 1 k + f 3 k) (msum (fun i => bP (cntP r w (f 0 k + i + 24 * y))) (f 2 k)) 0) 16 := by
    refine msum_cg (by decide) (fun y y0 y1 => ?_)
    by_cases q : f 1 k ≤ y ∧ y < f 1 k + f 3 k
    · rw [mf_if_t q, ← msum_win (fun x => bP (cntP r w (x + 24 * y))) (a := f 0 k) (n := f 2 k) (N := 24) b0.1 b2.1 (by omega)]
      refine msum_cg (by decide) (fun x x0 x1 => ?_)
      have m1 : (x + 24 * y) % 24 = x := by omega
      have m2 : (x + 24 * y) / 24 = y := by omega
      rw [m1, m2]
      by_cases p : f 0 k ≤ x ∧ x < f 0 k + f 2 k
      · rw [mf_if_t p]
        exact bP_cg ⟨fun z => z.2, fun z => ⟨⟨p.1, p.2, q.1, q.2⟩, z⟩⟩
      · rw [mf_if_f p]
        exact bP_f (fun z => p ⟨z.1.1, z.1.2.1⟩)
    · rw [mf_if_f q]
      refine msum_zero (by decide) (fun x x0 x1 => bP_f (fun z => q ?_))
      have m2 : (x + 24 * y) / 24 = y := by omega
      have z2 := z.1
      rw [m2] at z2
      exact ⟨z2.2.2.1, z2.2.2.2⟩
  rw [s1, msum_win (fun y => msum (fun i => bP (cntP r w (f 0 k + i + 24 * y))) (f 2 k)) b1.1 b3.1 e2]
  unfold cof
  refine msum_cg b3.1 (fun j j0 j1 => msum_cg b2.1 (fun i i0 i1 => ?_))
  rw [show cellNo (f 0 k + i) (f 1 k + j) = f 0 k + i + 24 * (f 1 k + j) by unfold cellNo; rw [if_neg (by omega)]]
theorem dirTo_iff {x y d : Int} (hd : 0 ≤ d) (hy : ¬ y = -1) : dirTo x y = d ↔ nbr x d = y := by
  constructor
  · intro h
    have g := dirTo_nbr (x := x) (y := y) (by omega)
    rw [h] at g; exact g.2.2.1
  · intro h; exact dirTo_of h hy
theorem msum_pt {p a n : Int} (hn : 0 ≤ n) : msum (fun t => bP (p = a + t)) n = bP (a ≤ p ∧ p < a + n) := by
  obtain ⟨n, rfl⟩ := Int.eq_ofNat_of_zero_le hn
  induction n with
  | zero => rw [show ((0 : Nat) : Int) = 0 from rfl, msum_0, bP_f (by omega)]
  | succ n ih =>
    rw [show ((n + 1 : Nat) : Int) = (n : Int) + 1 from rfl, msum_s _ (by omega), ih (by omega)]
    by_cases q : p = a + n
    · rw [bP_f (by omega), bP_t q, bP_t (by omega)]; rfl
    · rw [bP_f q, Int.add_zero]; exact bP_cg (by omega)
theorem msum_4 (g : Int → Int) : msum g 4 = g 0 + g 1 + g 2 + g 3 := by
  rw [show (4 : Int) = 0 + 1 + 1 + 1 + 1 from rfl, msum_s g (by decide), msum_s g (by decide), msum_s g (by decide), msum_s g (by decide), msum_0, Int.zero_add]; rfl
theorem neck_row {r : mf_V} (ok : rOK rlo rhi r) (hI : RInv r) {i : Int} (h0 : 0 ≤ i) (h1 : i < r 7 0) {n : Int} (hn : n = r 7 0 - (i + 3)) (hn0 : 0 ≤ n) : msum (fun t => bP (neckP r i (i + 3 + t))) n = msum (fun d => bP (3 ≤ placeOfF r (nbr (r 6 i) d) - i)) 4 := by
  have key : ∀ d, 0 ≤ d → msum (fun t => bP (placeOfF r (nbr (r 6 i) d) = i + 3 + t)) n = bP (3 ≤ placeOfF r (nbr (r 6 i) d) - i) := by
    intro d d0
    rw [msum_pt hn0]
    refine bP_cg ⟨fun z => by omega, fun z => ⟨by omega, ?_⟩⟩
    by_cases q : 0 ≤ nbr (r 6 i) d ∧ nbr (r 6 i) d < 384
    · have e : placeOfF r (nbr (r 6 i) d) = r 10 (nbr (r 6 i) d) := mf_if_t q
      rcases hI.2.2.1.2 _ q.1 q.2 with y | ⟨y1, y2, -⟩ <;> omega
    · have e : placeOfF r (nbr (r 6 i) d) = -1 := mf_if_f q
      omega
  rw [msum_4, ← key 0 (by decide), ← key 1 (by decide), ← key 2 (by decide), ← key 3 (by decide), ← msum_plus _ _ hn0, ← msum_plus _ _ hn0, ← msum_plus _ _ hn0]
  refine msum_cg hn0 (fun t t0 t1 => ?_)
  have cj : (0 : Int) ≤ r 6 (i + 3 + t) ∧ r 6 (i + 3 + t) ≤ 383 := ok 6 _
  have one : ∀ d, 0 ≤ d → (placeOfF r (nbr (r 6 i) d) = i + 3 + t ↔ dirTo (r 6 i) (r 6 (i + 3 + t)) = d) := by
    intro d d0
    rw [dirTo_iff d0 (by omega)]
    constructor
    · intro h
      by_cases q : 0 ≤ nbr (r 6 i) d ∧ nbr (r 6 i) d < 384
      · have e : placeOfF r (nbr (r 6 i) d) = r 10 (nbr (r 6 i) d) := mf_if_t q
        rcases hI.2.2.1.2 _ q.1 q.2 with y | ⟨y1, y2, y3⟩
        · omega
        · rw [← e, h] at y3; exact y3.symm
      · have e : placeOfF r (nbr (r 6 i) d) = -1 := mf_if_f q
        omega
    · intro h
      have e : placeOfF r (nbr (r 6 i) d) = r 10 (nbr (r 6 i) d) := mf_if_t (by omega)
      rw [e, h]
      exact hI.2.2.1.1 _ (by omega) (by omega)
  rw [bP_cg (one 0 (by decide)), bP_cg (one 1 (by decide)), bP_cg (one 2 (by decide)), bP_cg (one 3 (by decide))]
  have db := dirTo_b (r 6 i) (r 6 (i + 3 + t))
  have dn : neckP r i (i + 3 + t) ↔ ¬ dirTo (r 6 i) (r 6 (i + 3 + t)) = -1 := ⟨fun z => z.2.2.2, fun z => ⟨inC_mk h0 h1, inC_mk (by omega) (by omega), by omega, z⟩⟩
  rw [bP_cg dn]
  generalize dirTo (r 6 i) (r 6 (i + 3 + t)) = D at db ⊢
  rcases (show D = -1 ∨ D = 0 ∨ D = 1 ∨ D = 2 ∨ D = 3 by omega) with z | z | z | z | z <;> subst z
  · rw [bP_f (by decide), bP_f (by decide), bP_f (by decide), bP_f (by decide), bP_f (by decide)]; rfl
  · rw [bP_t (by decide), bP_t rfl, bP_f (by decide), bP_f (by decide), bP_f (by decide)]; rfl
  · rw [bP_t (by decide), bP_f (by decide), bP_t rfl, bP_f (by decide), bP_f (by decide)]; rfl
  · rw [bP_t (by decide), bP_f (by decide), bP_f (by decide), bP_t rfl, bP_f (by decide)]; rfl
  · rw [bP_t (by decide), bP_f (by decide), bP_f (by decide), bP_f (by decide), bP_t rfl]; rfl
theorem lyl_pos {r : mf_V} {c : Int} (h0 : 0 ≤ c) (h1 : c < 384) : 0 < lyl r c ↔ r 8 0 < r 3 c := by
  rw [show lyl r c = max 0 (r 3 c - r 8 0) from mf_if_t ⟨h0, h1⟩]; omega
/-- what count() tells; n: how many farms there are -/
noncomputable def totF (r : mf_V) (n w : Int) : Int := if w = 0 then r 8 0 else if w = 1 then r 7 0 else if w = 2 then lakesF r else if w = 3 then r 9 0 else if w = 4 then n else if w = 5 then stonesF r else if w = 6 then bendsF r else wearF r
theorem neckOut {r : mf_V} (ok : rOK rlo rhi r) (hI : RInv r) {i d : Int} (h : r 7 0 < i + 3) (h0 : 0 ≤ i) : placeOfF r (nbr (r 6 i) d) < i + 3 := by
  by_cases q : 0 ≤ nbr (r 6 i) d ∧ nbr (r 6 i) d < 384
  · have e : placeOfF r (nbr (r 6 i) d) = r 10 (nbr (r 6 i) d) := mf_if_t q
    rcases hI.2.2.1.2 _ q.1 q.2 with y | ⟨y1, y2, -⟩ <;> omega
  · have e : placeOfF r (nbr (r 6 i) d) = -1 := mf_if_f q
    omega
