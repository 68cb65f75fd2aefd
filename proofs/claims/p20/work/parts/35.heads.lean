/-! 35.heads: the mathematics, ahead of the calls of the class (out of whole) -/
/-- the direction of a cell of the course, by what adding it means -/
theorem dirW {r : mf_V} (hI : RInv r) {i : Int} (h0 : 0 ≤ i) (h1 : i < r 7 0 - 1) : 0 ≤ r 11 i ∧ r 11 i < 4 ∧ nbr (r 6 i) (r 11 i) = r 6 (i + 1) ∧ ¬ r 6 (i + 1) = -1 := by
  have e : r 11 i = dirTo (r 6 i) (r 6 (i + 1)) := by rw [hI.2.1 i h0 (by omega), cellAtF_in (by omega) (by omega)]
  rw [e]
  exact dirTo_nbr (hI.1.2.1 i h0 h1)
theorem dirD {r : mf_V} (ok : rOK rlo rhi r) (hI : RInv r) {i : Int} (h0 : 0 ≤ i) (h1 : i < r 7 0 - 1) : (r 11 i = 0 ∧ r 6 (i + 1) = r 6 i - 24) ∨ (r 11 i = 1 ∧ r 6 (i + 1) = r 6 i + 1) ∨ (r 11 i = 2 ∧ r 6 (i + 1) = r 6 i + 24) ∨ (r 11 i = 3 ∧ r 6 (i + 1) = r 6 i - 1) := by
  obtain ⟨a, b, e, f⟩ := dirW hI h0 h1
  have c : (0 : Int) ≤ r 6 i ∧ r 6 i ≤ 383 := ok 6 i
  have n0 := nbr0 c.1 (by omega)
  have n1 := nbr1 c.1 (by omega)
  have n2 := nbr2 c.1 (by omega)
  have n3 := nbr3 c.1 (by omega)
  rcases d4 a b with z | z | z | z <;> rw [z] at e <;> omega
theorem nbr_dm1 (x : Int) : nbr x (-1) = -1 := by
  unfold nbr
  rw [if_neg (show ¬ (-1 : Int) = 0 by decide), if_neg (show ¬ (-1 : Int) = 1 by decide), if_neg (show ¬ (-1 : Int) = 2 by decide), if_neg (show ¬ (-1 : Int) = 3 by decide)]
  repeat' split
  all_goals rfl
theorem adj_iff {x y : Int} (x0 : 0 ≤ x) (x1 : x < 384) (y0 : 0 ≤ y) (y1 : y < 384) : ¬ dirTo x y = -1 ↔ (x % 24 = y % 24 ∧ (x / 24 - y / 24 = 1 ∨ x / 24 - y / 24 = -1)) ∨ (x / 24 = y / 24 ∧ (x % 24 - y % 24 = 1 ∨ x % 24 - y % 24 = -1)) := by
  have n0 := nbr0 x0 x1
  have n1 := nbr1 x0 x1
  have n2 := nbr2 x0 x1
  have n3 := nbr3 x0 x1
  constructor
  · intro h
    obtain ⟨a, b, e, f⟩ := dirTo_nbr h
    rcases d4 a b with z | z | z | z <;> rw [z] at e <;> omega
  · intro h
    rcases h with ⟨h1, h2 | h2⟩ | ⟨h1, h2 | h2⟩
    · exact adj_of (d := 0) (by omega) (by omega)
    · exact adj_of (d := 2) (by omega) (by omega)
    · exact adj_of (d := 3) (by omega) (by omega)
    · exact adj_of (d := 1) (by omega) (by omega)
theorem farF_ge (r : mf_V) (i : Int) : farF r i = -1 ∨ i + 3 ≤ farF r i := by
  rcases farG_mem r i 4 with z | ⟨d, -, z2⟩
  · exact Or.inl z
  · have : 3 ≤ farF r i - i := z2
    exact Or.inr (by omega)
theorem widG_m1 (r : mf_V) : ∀ n : Nat, (widG r n).1 = -1 → (widG r n).2 = 0 := by
  intro n
  induction n with
  | zero => intro _; rfl
  | succ n ih =>
    rw [show ((n + 1 : Nat) : Int) = (n : Int) + 1 from rfl]
    by_cases q : (widG r n).2 < farF r n - n
    · rw [widG_t r (by omega) q]; intro h; exact absurd h (by show ¬ ((n : Int) = -1); omega)
    · rw [widG_f r (by omega) q]; exact ih
theorem widG_memI (r : mf_V) {k : Int} (h : 0 ≤ k) : ((widG r k).1 = -1 ∧ (widG r k).2 = 0) ∨ (0 ≤ (widG r k).1 ∧ (widG r k).1 < k ∧ farF r (widG r k).1 - (widG r k).1 = (widG r k).2 ∧ 0 < (widG r k).2) := by
  obtain ⟨n, rfl⟩ := Int.eq_ofNat_of_zero_le h
  rcases widG_mem r n with z | z
  · exact Or.inl ⟨z, widG_m1 r n z⟩
  · exact Or.inr z
theorem msum_cg {f g : Int → Int} {N : Int} (hN : 0 ≤ N) (h : ∀ z, 0 ≤ z → z < N → f z = g z) : msum f N = msum g N := by
  obtain ⟨n, rfl⟩ := Int.eq_ofNat_of_zero_le hN
  induction n with
  | zero => rfl
  | succ n ih =>
    rw [show ((n + 1 : Nat) : Int) = (n : Int) + 1 from rfl, msum_s f (by omega), msum_s g (by omega), ih (by omega) (fun z a b => h z a (by omega)), h n (by omega) (by omega)]
theorem msum_zero {f : Int → Int} {N : Int} (hN : 0 ≤ N) (h : ∀ z, 0 ≤ z → z < N → f z = 0) : msum f N = 0 := by
  obtain ⟨n, rfl⟩ := Int.eq_ofNat_of_zero_le hN
  induction n with
  | zero => rfl
  | succ n ih =>
    rw [show ((n + 1 : Nat) : Int) = (n : Int) + 1 from rfl, msum_s f (by omega), ih (by omega) (fun z a b => h z a (by omega)), h n (by omega) (by omega)]; rfl
theorem msum_cat (f : Int → Int) {a b : Int} (ha : 0 ≤ a) (hb : 0 ≤ b) : msum f (a + b) = msum f a + msum (fun x => f (a + x)) b := by
  obtain ⟨n, rfl⟩ := Int.eq_ofNat_of_zero_le hb
  induction n with
  | zero => rw [show ((0 : Nat) : Int) = 0 from rfl, msum_0, Int.add_zero, Int.add_zero]
  | succ n ih =>
    rw [show ((n + 1 : Nat) : Int) = (n : Int) + 1 from rfl, show a + ((n : Int) + 1) = (a + n) + 1 by omega, msum_s f (by omega), ih (by omega), msum_s _ (by omega)]; omega
theorem msum_plus (f g : Int → Int) {N : Int} (hN : 0 ≤ N) : msum (fun z => f z + g z) N = msum f N + msum g N := by
  obtain ⟨n, rfl⟩ := Int.eq_ofNat_of_zero_le hN
  induction n with
  | zero => rfl
  | succ n ih =>
    rw [show ((n + 1 : Nat) : Int) = (n : Int) + 1 from rfl, msum_s _ (by omega), msum_s f (by omega), msum_s g (by omega), ih (by omega)]; omega
theorem msum_win (g : Int → Int) {a n N : Int} (ha : 0 ≤ a) (hn : 0 ≤ n) (h : a + n ≤ N) : msum (fun x => mf_if (a ≤ x ∧ x < a + n) (g x) 0) N = msum (fun i => g (a + i)) n := by
  rw [show N = a + (n + (N - a - n)) by omega, msum_cat _ ha (by omega), msum_cat _ hn (by omega), msum_zero ha (fun z h0 h1 => mf_if_f (by omega)), msum_zero (N := N - a - n) (by omega) (fun z h0 h1 => mf_if_f (by omega)), Int.zero_add, Int.add_zero]
  exact msum_cg hn (fun z h0 h1 => mf_if_t (by omega))
theorem msum_rows (g : Int → Int) {n : Int} (hn : 0 ≤ n) : msum g (24 * n) = msum (fun y => msum (fun x => g (x + 24 * y)) 24) n := by
  obtain ⟨n, rfl⟩ := Int.eq_ofNat_of_zero_le hn
  induction n with
  | zero => rfl
  | succ n ih =>
    rw [show ((n + 1 : Nat) : Int) = (n : Int) + 1 from rfl, show 24 * ((n : Int) + 1) = 24 * n + 24 by omega, msum_cat _ (by omega) (by omega), ih (by omega), msum_s _ (by omega)]
    congr 1
    exact msum_cg (by omega) (fun z _ _ => by rw [Int.add_comm])
def FInv (f : mf_V) : Prop := ∀ k, 0 ≤ k → k < f 4 0 → f 0 k + f 2 k ≤ 24 ∧ f 1 k + f 3 k ≤ 16
theorem farm_sum {f r : mf_V} (okf : rOK flo fhi f) (hF : FInv f) {k w : Int} (h0 : 0 ≤ k) (h1 : k < f 4 0) : msum (fun c => bP (inF f (c % 24) (c / 24) k ∧ cntP r w c)) 384 = cof f r k w := by
  have b0 : (0 : Int) ≤ f 0 k ∧ f 0 k ≤ 23 := okf 0 k
  have b1 : (0 : Int) ≤ f 1 k ∧ f 1 k ≤ 15 := okf 1 k
  have b2 : (0 : Int) ≤ f 2 k ∧ f 2 k ≤ 24 := okf 2 k
  have b3 : (0 : Int) ≤ f 3 k ∧ f 3 k ≤ 16 := okf 3 k
  obtain ⟨e1, e2⟩ := hF k h0 h1
  rw [show (384 : Int) = 24 * 16 by decide, msum_rows _ (by decide)]
  have s1 : msum (fun y => msum (fun x => bP (inF f ((x + 24 * y) % 24) ((x + 24 * y) / 24) k ∧ cntP r w (x + 24 * y))) 24) 16 = msum (fun y => mf_if (f 1 k ≤ y ∧ y < f 1 k + f 3 k) (msum (fun i => bP (cntP r w (f 0 k + i + 24 * y))) (f 2 k)) 0) 16 := by
    refine msum_cg (by decide) (fun y y0 y1 => ?_)
    by_cases q : f 1 k ≤ y ∧ y < f 1 k + f 3 k
    · rw [mf_if_t q, ← msum_win (fun x => bP (cntP r w (x + 24 * y))) (a := f 0 k) (n := f 2 k) (N := 24) b0.1 b2.1 (by omega)]
      refine msum_cg (by decide) (fun x x0 x1 => ?_)
      have m1 : (x + 24 * y) % 24 = x := by omega
      have m2 : (x + 24 * y) / 24 = y := by omega
      rw [m1, m2]
      by_cases p : f 0 k ≤ x ∧ x < f 0 k + f 2 k
      · rw [mf_if_t p]
        exact bP_cg ⟨fun z => z.2, fun z => ⟨⟨p.1, p.2, q.1, q.2⟩, z⟩⟩
      · rw [mf_if_f p]
        exact bP_f (fun z => p ⟨z.1.1, z.1.2.1⟩)
    · rw [mf_if_f q]
      refine msum_zero (by decide) (fun x x0 x1 => bP_f (fun z => q ?_))
      have m2 : (x + 24 * y) / 24 = y := by omega
      have z2 := z.1
      rw [m2] at z2
      exact ⟨z2.2.2.1, z2.2.2.2⟩
  rw [s1, msum_win (fun y => msum (fun i => bP (cntP r w (f 0 k + i + 24 * y))) (f 2 k)) b1.1 b3.1 e2]
  unfold cof
  refine msum_cg b3.1 (fun j j0 j1 => msum_cg b2.1 (fun i i0 i1 => ?_))
  rw [show cellNo (f 0 k + i) (f 1 k + j) = f 0 k + i + 24 * (f 1 k + j) by unfold cellNo; rw [if_neg (by omega)]]
theorem dirTo_iff {x y d : Int} (hd : 0 ≤ d) (hy : ¬ y = -1) : dirTo x y = d ↔ nbr x d = y := by
  constructor
  · intro h
    have g := dirTo_nbr (x := x) (y := y) (by omega)
    rw [h] at g; exact g.2.2.1
  · intro h; exact dirTo_of h hy
theorem msum_pt {p a n : Int} (hn : 0 ≤ n) : msum (fun t => bP (p = a + t)) n = bP (a ≤ p ∧ p < a + n) := by
  obtain ⟨n, rfl⟩ := Int.eq_ofNat_of_zero_le hn
  induction n with
  | zero => rw [show ((0 : Nat) : Int) = 0 from rfl, msum_0, bP_f (by omega)]
  | succ n ih =>
    rw [show ((n + 1 : Nat) : Int) = (n : Int) + 1 from rfl, msum_s _ (by omega), ih (by omega)]
    by_cases q : p = a + n
    · rw [bP_f (by omega), bP_t q, bP_t (by omega)]; rfl
    · rw [bP_f q, Int.add_zero]; exact bP_cg (by omega)
theorem msum_4 (g : Int → Int) : msum g 4 = g 0 + g 1 + g 2 + g 3 := by
  rw [show (4 : Int) = 0 + 1 + 1 + 1 + 1 from rfl, msum_s g (by decide), msum_s g (by decide), msum_s g (by decide), msum_s g (by decide), msum_0, Int.zero_add]; rfl
theorem neck_row {r : mf_V} (ok : rOK rlo rhi r) (hI : RInv r) {i : Int} (h0 : 0 ≤ i) (h1 : i < r 7 0) {n : Int} (hn : n = r 7 0 - (i + 3)) (hn0 : 0 ≤ n) : msum (fun t => bP (neckP r i (i + 3 + t))) n = msum (fun d => bP (3 ≤ placeOfF r (nbr (r 6 i) d) - i)) 4 := by
  have key : ∀ d, 0 ≤ d → msum (fun t => bP (placeOfF r (nbr (r 6 i) d) = i + 3 + t)) n = bP (3 ≤ placeOfF r (nbr (r 6 i) d) - i) := by
    intro d d0
    rw [msum_pt hn0]
    refine bP_cg ⟨fun z => by omega, fun z => ⟨by omega, ?_⟩⟩
    by_cases q : 0 ≤ nbr (r 6 i) d ∧ nbr (r 6 i) d < 384
    · have e : placeOfF r (nbr (r 6 i) d) = r 10 (nbr (r 6 i) d) := mf_if_t q
      rcases hI.2.2.1.2 _ q.1 q.2 with y | ⟨y1, y2, -⟩ <;> omega
    · have e : placeOfF r (nbr (r 6 i) d) = -1 := mf_if_f q
      omega
  rw [msum_4, ← key 0 (by decide), ← key 1 (by decide), ← key 2 (by decide), ← key 3 (by decide), ← msum_plus _ _ hn0, ← msum_plus _ _ hn0, ← msum_plus _ _ hn0]
  refine msum_cg hn0 (fun t t0 t1 => ?_)
  have cj : (0 : Int) ≤ r 6 (i + 3 + t) ∧ r 6 (i + 3 + t) ≤ 383 := ok 6 _
  have one : ∀ d, 0 ≤ d → (placeOfF r (nbr (r 6 i) d) = i + 3 + t ↔ dirTo (r 6 i) (r 6 (i + 3 + t)) = d) := by
    intro d d0
    rw [dirTo_iff d0 (by omega)]
    constructor
    · intro h
      by_cases q : 0 ≤ nbr (r 6 i) d ∧ nbr (r 6 i) d < 384
      · have e : placeOfF r (nbr (r 6 i) d) = r 10 (nbr (r 6 i) d) := mf_if_t q
        rcases hI.2.2.1.2 _ q.1 q.2 with y | ⟨y1, y2, y3⟩
        · omega
        · rw [← e, h] at y3; exact y3.symm
      · have e : placeOfF r (nbr (r 6 i) d) = -1 := mf_if_f q
        omega
    · intro h
      have e : placeOfF r (nbr (r 6 i) d) = r 10 (nbr (r 6 i) d) := mf_if_t (by omega)
      rw [e, h]
      exact hI.2.2.1.1 _ (by omega) (by omega)
  rw [bP_cg (one 0 (by decide)), bP_cg (one 1 (by decide)), bP_cg (one 2 (by decide)), bP_cg (one 3 (by decide))]
  have db := dirTo_b (r 6 i) (r 6 (i + 3 + t))
  have dn : neckP r i (i + 3 + t) ↔ ¬ dirTo (r 6 i) (r 6 (i + 3 + t)) = -1 := ⟨fun z => z.2.2.2, fun z => ⟨inC_mk h0 h1, inC_mk (by omega) (by omega), by omega, z⟩⟩
  rw [bP_cg dn]
  generalize dirTo (r 6 i) (r 6 (i + 3 + t)) = D at db ⊢
  rcases (show D = -1 ∨ D = 0 ∨ D = 1 ∨ D = 2 ∨ D = 3 by omega) with z | z | z | z | z <;> subst z
  · rw [bP_f (by decide), bP_f (by decide), bP_f (by decide), bP_f (by decide), bP_f (by decide)]; rfl
  · rw [bP_t (by decide), bP_t rfl, bP_f (by decide), bP_f (by decide), bP_f (by decide)]; rfl
  · rw [bP_t (by decide), bP_f (by decide), bP_t rfl, bP_f (by decide), bP_f (by decide)]; rfl
  · rw [bP_t (by decide), bP_f (by decide), bP_f (by decide), bP_t rfl, bP_f (by decide)]; rfl
  · rw [bP_t (by decide), bP_f (by decide), bP_f (by decide), bP_f (by decide), bP_t rfl]; rfl
theorem lyl_pos {r : mf_V} {c : Int} (h0 : 0 ≤ c) (h1 : c < 384) : 0 < lyl r c ↔ r 8 0 < r 3 c := by
  rw [show lyl r c = max 0 (r 3 c - r 8 0) from mf_if_t ⟨h0, h1⟩]; omega
/-- what count() tells; n: how many farms there are -/
noncomputable def totF (r : mf_V) (n w : Int) : Int := if w = 0 then r 8 0 else if w = 1 then r 7 0 else if w = 2 then lakesF r else if w = 3 then r 9 0 else if w = 4 then n else if w = 5 then stonesF r else if w = 6 then bendsF r else wearF r
theorem neckOut {r : mf_V} (ok : rOK rlo rhi r) (hI : RInv r) {i d : Int} (h : r 7 0 < i + 3) (h0 : 0 ≤ i) : placeOfF r (nbr (r 6 i) d) < i + 3 := by
  by_cases q : 0 ≤ nbr (r 6 i) d ∧ nbr (r 6 i) d < 384
  · have e : placeOfF r (nbr (r 6 i) d) = r 10 (nbr (r 6 i) d) := mf_if_t q
    rcases hI.2.2.1.2 _ q.1 q.2 with y | ⟨y1, y2, -⟩ <;> omega
  · have e : placeOfF r (nbr (r 6 i) d) = -1 := mf_if_f q
    omega
theorem placeEnd {q u : mf_V} (hq : RInv q) (hpl : ∀ i, 0 ≤ i → i < q 7 0 → u 7 (q 6 i) = i) (hpn : ∀ c, 0 ≤ c → c < 384 → (∀ i, 0 ≤ i → i < q 7 0 → ¬ q 6 i = c) → u 7 c = -1) : rgA 384 (u 7) (q 10) := fun c c0 c1 => by
  rcases hq.2.2.1.2 c c0 c1 with y | ⟨y1, y2, y3⟩
  · rw [y]; exact hpn c c0 c1 (fun i i0 i1 z => by have g := hq.2.2.1.1 i i0 i1; rw [z, y] at g; omega)
  · have g := hpl _ y1 y2
    rw [y3] at g; exact g
theorem lyl_in {r : mf_V} {c : Int} (h0 : 0 ≤ c) (h1 : c < 384) : lyl r c = max 0 (r 3 c - r 8 0) := mf_if_t ⟨h0, h1⟩
theorem wearG_le (r : mf_V) {f : Int} (hf : f ≤ 9) (c : Int) : ∀ n : Nat, wearG r f n c ≤ r 1 c + 9 * n := by
  intro n
  induction n with
  | zero => rw [show ((0 : Nat) : Int) = 0 from rfl, wearG_0]; omega
  | succ n ih =>
    rw [show ((n + 1 : Nat) : Int) = (n : Int) + 1 from rfl]
    by_cases q : openP r (r 13 n)
    · rw [wearG_t r f (by omega) q]
      by_cases z : c = r 13 n
      · rw [← z, mf_up_s]; omega
      · rw [mf_up_n z]; omega
    · rw [wearG_f r f (by omega) q]; omega
theorem FloodN_br : ∀ (n : Nat) {r q : mf_V}, RInv r → FloodN n r q → q 9 0 + q 7 0 ≤ r 9 0 + r 7 0
  | 0, r, q, _, h => by obtain ⟨-, rfl⟩ := h; exact Int.le_refl _
  | n + 1, r, q, hI, h => by
    obtain ⟨hw, r1, h1, -, hI1, h2⟩ := h
    have g := FloodN_br n hI1 h2
    have e := neckP_w (widF_neck hI hw).2
    have a := h1.1
    have b := h1.2.2.2.1
    omega
theorem YearR_bd {r q : mf_V} {b Y : Int} (ok : rOK rlo rhi r) (hY : YearR r q b) (hB : bdP r Y) : bdP q (Y + 1) ∧ (b = 0 ∨ b = 1) := by
  obtain ⟨r1, r2, r3, h1f, h1w, ok1, hI1, hrip, ok2, hI2, hfl, ok3, hI3, hqf, hq8⟩ := hY
  obtain ⟨b8, b9, b1⟩ := hB
  have f9 : (0 : Int) ≤ r 5 (r 8 0 % 12) ∧ r 5 (r 8 0 % 12) ≤ 9 := ok 5 _
  have l9 : (0 : Int) ≤ r 7 0 ∧ r 7 0 ≤ 150 := ok 7 0
  have l2 : (0 : Int) ≤ r2 7 0 ∧ r2 7 0 ≤ 150 := ok2 7 0
  have l3 : (0 : Int) ≤ r3 7 0 ∧ r3 7 0 ≤ 150 := ok3 7 0
  have w1 : ∀ c, r1 1 c ≤ r 1 c + 1350 := fun c => by
    obtain ⟨n, hn⟩ := Int.eq_ofNat_of_zero_le l9.1
    have g := wearG_le r f9.2 c n
    rw [h1w, hn]
    omega
  have w2 : (∀ c, r2 1 c ≤ r1 1 c) ∧ r2 9 = r1 9 ∧ r2 8 = r1 8 ∧ (b = 0 ∨ b = 1) := by
    rcases hrip with ⟨-, z, zb⟩ | ⟨-, z, zb⟩
    · rw [z]; exact ⟨fun c => Int.le_refl _, rfl, rfl, Or.inl zb⟩
    · refine ⟨fun c => ?_, z.2.2.2.2.2.2.2, z.2.2.2.2.2.2.1, Or.inr zb⟩
      by_cases y : hitB r1 (ripF r1) (r1 12 (ripF r1)) c
      · have g := ((z.2.2.1 c).1 y).1
        have g2 : (0 : Int) ≤ r1 1 c ∧ r1 1 c ≤ 200000000 := ok1 1 c
        omega
      · have g := ((z.2.2.1 c).2 y).1
        omega
  have w3 : r3 1 = r2 1 ∧ r3 9 0 ≤ r2 9 0 + 150 := by
    rcases hfl with ⟨-, n, z⟩ | ⟨-, z⟩
    · have g := FloodN_br n hI2 z
      exact ⟨(FloodN_fr6 n z).2.1, by omega⟩
    · rw [z]; exact ⟨rfl, by omega⟩
  have e9 : r2 9 0 = r 9 0 := by rw [w2.2.1, h1f 9 (by decide)]
  refine ⟨⟨by omega, by rw [hqf 9 (by decide)]; omega, fun c => ?_⟩, w2.2.2.2⟩
  rw [hqf 1 (by decide), w3.1]
  have g1 := w2.1 c
  have g2 := w1 c
  have g3 := b1 c
  omega
theorem YearsN_h : ∀ (n : Nat) {r q : mf_V} {b : Int}, rOK rlo rhi r → RInv r → YearsN (n + 1) r q b → ∃ (r1 : mf_V) (b1 b2 : Int), YearR r r1 b1 ∧ (0 < n → rOK rlo rhi r1 ∧ RInv r1) ∧ YearsN n r1 q b2 ∧ b = b1 + b2
  | 0, r, q, b, ok, hI, h => by
    obtain ⟨r1, b1, b2, ⟨rfl, rfl⟩, -, -, h3, h4⟩ := h
    exact ⟨q, b2, 0, h3, fun z => absurd z (Nat.lt_irrefl 0), ⟨rfl, rfl⟩, by omega⟩
  | n + 1, r, q, b, ok, hI, h => by
    obtain ⟨r1, b1, b2, h1, ok1, hI1, h3, h4⟩ := h
    obtain ⟨r2, c1, c2, g1, g2, g3, g4⟩ := YearsN_h n ok hI h1
    cases n with
    | zero =>
      obtain ⟨rfl, rfl⟩ := g3
      exact ⟨r1, c1, b2, g1, fun _ => ⟨ok1, hI1⟩, ⟨r1, 0, b2, ⟨rfl, rfl⟩, ok1, hI1, h3, by omega⟩, by omega⟩
    | succ m => exact ⟨r2, c1, c2 + b2, g1, fun _ => g2 (by omega), ⟨r1, c2, b2, g3, ok1, hI1, h3, rfl⟩, by omega⟩
theorem bank_side {r : mf_V} (hI : RInv r) {i : Int} (h0 : 0 ≤ i) (h1 : i < r 7 0) (h : ¬ r 13 i = -1) : ¬ r 12 i = -1 := fun z => h (by rw [(hI.2.2.2 i h0 h1).2, z]; exact nbr_dm1 _)
def frF (u q : mf_V) : Prop := q 4 = u 4 ∧ q 5 = u 5
def cellP (x y : Int) : Prop := (0 ≤ x ∧ x < 24) ∧ 0 ≤ y ∧ y < 16
noncomputable def kHard (x y h : Int) : Int := mf_if (¬ cellP x y) 1 (mf_if (¬ (1 ≤ h ∧ h ≤ 9)) 2 0)
noncomputable def kCell (x y : Int) : Int := mf_if (¬ cellP x y) 1 0
noncomputable def kFlow (y f : Int) : Int := mf_if (¬ (0 ≤ y ∧ y ≤ 11)) 1 (mf_if (¬ (1 ≤ f ∧ f ≤ 9)) 2 0)
noncomputable def kCourse (r : mf_V) (i w : Int) : Int := mf_if (¬ (inC r i ∧ 0 ≤ w ∧ w ≤ 4)) 1 0
noncomputable def vCourse (r : mf_V) (i w : Int) : Int := if w = 0 then r 6 i else if w = 1 then r 11 i else if w = 2 then bP (strP r i) else if w = 3 then r 12 i else r 13 i
noncomputable def kSlip (r : mf_V) (i t : Int) : Int := mf_if (¬ inC r i) 1 (mf_if (¬ (0 ≤ t ∧ t ≤ 3)) 2 (mf_if (¬ canB r i t) 3 0))
noncomputable def kDig (r : mf_V) (i j : Int) : Int := mf_if (¬ (inC r i ∧ inC r j)) 1 (mf_if (¬ neckP r i j) 2 0)
noncomputable def kRng (a b w : Int) : Int := mf_if (¬ (a ≤ w ∧ w ≤ b)) 1 0
noncomputable def kFarm (f : mf_V) (k w : Int) : Int := mf_if (¬ (isF f k ∧ 0 ≤ w ∧ w ≤ 4)) 1 0
def wrI (z : Int) : Int := (iI z).toInt
theorem mf_i2lw {p : Program} {l : Launch} {e : Env} {R : Room} {s : State} {m : MethodId} {args : Array Value} {below : List Frame} {meth : Method} {c : Code} {H : Heap} {locs : List Loc} {cells slots : Nat} {Q : State → Prop} {cc : ByteArray} {pc : Nat} {ls : Array Slot} {rest : List Value} (hx : p.tables.exec = Jvm.exec) (hb : c.code = cc) {x : Int} (hd : decode cc pc = .ok (.i2l, 1)) (k : W p l e R s m args below meth c H locs cells slots Q (F0 m (pc + 1) ls (.long (lI (wrI x)) :: rest))) : W p l e R s m args below meth c H locs cells slots Q (F0 m pc ls (.int (iI x) :: rest)) :=
  lv_i2l hx hb hd (by
    have g := iI_toL (z := (iI x).toInt) (i32_of _)
    rw [iI_of] at g
    exact g) k
theorem mf_nanA : ∀ n : Fin 151, vf_n64 (FP.ddiv (FP.i2d (iI ((n.1 : Nat) : Int))) 4627448617123184640) := by
  unfold vf_n64
  decide +kernel
theorem mf_nan {z : Int} (h0 : 0 ≤ z) (h1 : z ≤ 150) : vf_n64 (FP.ddiv (FP.i2d (iI z)) 4627448617123184640) := by
  obtain ⟨n, rfl⟩ := Int.eq_ofNat_of_zero_le h0
  exact mf_nanA ⟨n, by omega⟩
/-- the whole digest -/
noncomputable def digT (r f : mf_V) : Int := ifold (fun k x => ifold (fun w y => y * 31 + cof f r k w) x 5) (digF r (ifold (fun k x => x * 31 + wrI (totF r (f 4 0) k)) 599 8)) (f 4 0)
def AW (G : mf_G) (h n : Nat) (v : mf_V) : va_W := [(h, .inl (G.2.1, n, .inl (ia (v 0))))]
def CW (h ci : Nat) (vs : List Value) : va_W := [(h, .inr (ci, vs))]
section MFN
variable {p : Program} {l : Launch} {e : Env} {R : Room} {s : State} {m : MethodId} {args : Array Value} {below : List Frame} {meth : Method} {c : Code} {H : Heap} {locs : List Loc} {cells slots : Nat} {Q : State → Prop}
variable {cc : ByteArray} {pc : Nat} {ls : Array Slot} {rest : List Value} {G : mf_G} {cl : List vw_C} {ws : va_W} {A : Nat → Prop} {H0 : Heap}
theorem mf_newi (hx : p.tables.exec = Jvm.exec) (hb : c.code = cc) (harr : (Cond.arrayClass .int).before args s = true) (hK : va_K G.1 cl (mf_ty G) s) (hP : va_P G.1 cl ws H) (hD : va_D A ws) (hS : va_S A H0 H locs) (hA : ∀ q, H0.size ≤ q → A q)
    {n : Int} {N : Nat} (hn : n = N) (hN : N ≤ 100000) (hcells : cells + 1 ≤ R.cells) (hslots : slots + N ≤ R.slots) (hdg : decode cc pc = .ok (.newarray .int, 2))
    (kk : ∀ (q : Nat) (H1 : Heap), va_P G.1 cl (ws ++ [(q, .inl (G.2.1, N, .inl (ia (fun _ => 0))))]) H1 → va_D A (ws ++ [(q, .inl (G.2.1, N, .inl (ia (fun _ => 0))))]) → va_S A H0 H1 locs →
      W p l e R s m args below meth c H1 locs (cells + 1) (slots + N) Q (F0 m (pc + 2) ls (.ref q :: rest))) : W p l e R s m args below meth c H locs cells slots Q (F0 m pc ls (.int (iI n) :: rest)) := by
  subst hn
  refine va_newa (atype := .int) (ty := .int) (N' := N) (a0 := (N, .inl (ia (fun _ => 0)))) hx hb harr rfl hK hP hD hS hA (fun cA => rfl) ?_ ?_ (by show N * 4 ≤ 536870912; omega) hcells hslots hdg (fun q cA H1 hK1 hP1 hD1 hS1 => ?_)
  · exact fun z => absurd z (by rw [show (0 : Int32) = iI 0 from rfl, iI_lt (i32_mk (by omega) (by omega)) i32_0]; omega)
  · rw [iI_cl (by omega) (by omega)]; exact Int.toNat_natCast N
  · have a := (hK1.2 2 (cA, .int) rfl).2
    have b := (hK.2 0 (G.2.1, .int) rfl).2
    have e : cA = G.2.1 := Option.some.inj (a.symm.trans b)
    subst e
    exact kk q H1 hP1 hD1 hS1
theorem mf_newz (hx : p.tables.exec = Jvm.exec) (hb : c.code = cc) (harr : (Cond.arrayClass .boolean).before args s = true) (hK : va_K G.1 cl (mf_ty G) s) (hP : va_P G.1 cl ws H) (hD : va_D A ws) (hS : va_S A H0 H locs) (hA : ∀ q, H0.size ≤ q → A q)
    {n : Int} {N : Nat} (hn : n = N) (hN : N ≤ 100000) (hcells : cells + 1 ≤ R.cells) (hslots : slots + N ≤ R.slots) (hdg : decode cc pc = .ok (.newarray .boolean, 2))
    (kk : ∀ (q : Nat) (H1 : Heap), va_P G.1 cl (ws ++ [(q, .inl (G.2.2, N, .inl (ia (fun _ => 0))))]) H1 → va_D A (ws ++ [(q, .inl (G.2.2, N, .inl (ia (fun _ => 0))))]) → va_S A H0 H1 locs →
      W p l e R s m args below meth c H1 locs (cells + 1) (slots + N) Q (F0 m (pc + 2) ls (.ref q :: rest))) : W p l e R s m args below meth c H locs cells slots Q (F0 m pc ls (.int (iI n) :: rest)) := by
  subst hn
  refine va_newa (atype := .boolean) (ty := .boolean) (N' := N) (a0 := (N, .inl (ia (fun _ => 0)))) hx hb harr rfl hK hP hD hS hA (fun cA => rfl) ?_ ?_ (by show N * 1 ≤ 536870912; omega) hcells hslots hdg (fun q cA H1 hK1 hP1 hD1 hS1 => ?_)
  · exact fun z => absurd z (by rw [show (0 : Int32) = iI 0 from rfl, iI_lt (i32_mk (by omega) (by omega)) i32_0]; omega)
  · rw [iI_cl (by omega) (by omega)]; exact Int.toNat_natCast N
  · have a := (hK1.2 2 (cA, .boolean) rfl).2
    have b := (hK.2 1 (G.2.2, .boolean) rfl).2
    have e : cA = G.2.2 := Option.some.inj (a.symm.trans b)
    subst e
    exact kk q H1 hP1 hD1 hS1
theorem mf_topw {x : Int32} (k : W p l e R s m args below meth c H locs cells slots Q (F0 m pc ls (.int (iI x.toInt) :: rest))) : W p l e R s m args below meth c H locs cells slots Q (F0 m pc ls (.int x :: rest)) := by rw [iI_of] at k; exact k
end MFN
theorem mf_or0 (x : Int32) : x ||| (iI 0) = x := by rw [show iI 0 = (0 : Int32) from rfl]; exact Int32.or_zero
/-- what cell() tells -/
noncomputable def vCell (r f : mf_V) (x y w : Int) : Int := if w = 0 then r 0 (x + 24 * y) else if w = 1 then r 1 (x + 24 * y) else if w = 2 then r 2 (x + 24 * y) else if w = 3 then r 10 (x + 24 * y) else if w = 4 then lyl r (x + 24 * y) else (faG f x y (f 4 0)).toInt
noncomputable def kCell2 (x y w : Int) : Int := mf_if (¬ (cellP x y ∧ 0 ≤ w ∧ w ≤ 5)) 1 0
noncomputable def kAdd (f : mf_V) (x y w d : Int) : Int := mf_if (¬ (cellP x y ∧ (1 ≤ w ∧ w ≤ 24 - x) ∧ 1 ≤ d ∧ d ≤ 16 - y)) 1 (mf_if (f 4 0 = 6) 2 0)
/-- the farms with one more -/
def addF (f : mf_V) (x y w d : Int) : mf_V := mf_sF (mf_sF (mf_sF (mf_sF (mf_sF f 0 (mf_up (f 0) (f 4 0) x)) 1 (mf_up (f 1) (f 4 0) y)) 2 (mf_up (f 2) (f 4 0) w)) 3 (mf_up (f 3) (f 4 0) d)) 4 (fun _ => f 4 0 + 1)
theorem mf_AO_moved {u U : State} (hvm : u.vm.Alike U.vm) (h : va_Nw (.arrayOver (.array .int)) u) : va_Nw (.arrayOver (.array .int)) U := by
  obtain ⟨comp, c, k, h1, h2, h3, h4, h5⟩ := arrayOverA_spec h
  obtain ⟨k', hk', he⟩ := hvm.2.2 _ _ h3
  have hi : (U.vm.classes.findIdx? fun (x : Class) => match x.kind with | .array component _ => component == comp | _ => false) = some c := by
    rw [hvm.findIdx?_eq _ (fun _ => rfl)]
    exact h2
  have hkind : k'.kind = .array comp (.array .int) := by rw [he]; exact h4
  have f1 : U.vm.findClass (FieldType.array .int).toString = some comp := by rw [hvm.findClass]; exact h1
  have f2 : U.vm.findClass ("[" ++ (FieldType.array .int).toString) = some c := by rw [hvm.findClass]; exact h5
  unfold va_Nw Cond.before Cond.holds
  simp only [Cond.value]
  rw [f1, Option.bind_some]
  refine (congrArg (fun o : Option Nat => (o.bind (fun c => (U.vm.classes[c]?).map fun (k : Class) => match k.kind with | .array _ ty => decide (ty = FieldType.array .int) && decide (U.vm.findClass ("[" ++ (FieldType.array .int).toString) = some c) | _ => false) == some true)) hi).trans ?_
  simp [hk', hkind, f2]
theorem mf_AO_use {A : Array Value} {U : State} (h : va_Nw (.arrayOver (.array .int)) U) : (Cond.arrayOver (.array .int)).before A U = true := by
  unfold va_Nw at h
  unfold Cond.before Cond.holds at h ⊢
  simp only [Cond.value] at h ⊢
  exact h
def kfn (ad : Nat → Nat) : Nat → Option Nat := va_up (va_up (va_up (va_up (fun _ => none) 0 (some (ad 0))) 1 (some (ad 1))) 2 (some (ad 2))) 3 (some (ad 3))
theorem kfn_i (ad : Nat → Nat) : kfn ad 0 = some (ad 0) ∧ kfn ad 1 = some (ad 1) ∧ kfn ad 2 = some (ad 2) ∧ kfn ad 3 = some (ad 3) := ⟨rfl, rfl, rfl, rfl⟩
section MFKE
variable {p : Program} {l : Launch} {e : Env} {R : Room} {s : State} {m : MethodId} {args : Array Value} {below : List Frame} {meth : Method} {c : Code} {H : Heap} {locs : List Loc} {cells slots : Nat} {Q : State → Prop}
variable {cc : ByteArray} {pc : Nat} {ls : Array Slot} {rest : List Value} {G : mf_G} {K : ClassId} {cl : List vw_C} {ws : va_W} {A : Nat → Prop} {H0 : Heap} {a : Nat}
theorem mf_castI (hx : p.tables.exec = Jvm.exec) (hb : c.code = cc) {own : String} {index : Nat} (hown : s.vm.findClass own = some m.cls) (hlink : (Cond.classLink own index "[I").before args s = true) (hK : va_K G.1 cl (mf_ty G) s) (hP : va_P G.1 cl ws H) (q0 : Nat) {x : vp_A} (ha : ws[q0]? = some (a, .inl (G.2.1, x))) (hdg : decode cc pc = .ok (.checkcast index, 3))
    (k : W p l e R s m args below meth c H locs cells slots Q (F0 m (pc + 3) ls (.ref a :: rest))) : W p l e R s m args below meth c H locs cells slots Q (F0 m pc ls (.ref a :: rest)) :=
  va_castA hx hb hown hlink hP q0 ha (va_nm_int (hK.2 0 (G.2.1, .int) rfl).2) hdg k
end MFKE
theorem YearR_fr {r q : mf_V} {b : Int} (h : YearR r q b) : q 0 = r 0 ∧ q 2 = r 2 ∧ q 5 = r 5 := by
  obtain ⟨r1, r2, r3, h1f, -, -, -, hrip, -, -, hfl, -, -, hqf, -⟩ := h
  have a : r2 0 = r 0 ∧ r2 2 = r 2 ∧ r2 5 = r 5 := by
    rcases hrip with ⟨-, z, -⟩ | ⟨-, z, -⟩
    · rw [z]; exact ⟨h1f 0 (by decide), h1f 2 (by decide), h1f 5 (by decide)⟩
    · exact ⟨by rw [z.2.2.2.1]; exact h1f 0 (by decide), by rw [z.2.2.2.2.1]; exact h1f 2 (by decide), by rw [z.2.2.2.2.2.1]; exact h1f 5 (by decide)⟩
  have b : r3 0 = r2 0 ∧ r3 2 = r2 2 ∧ r3 5 = r2 5 := by
    rcases hfl with ⟨-, n, z⟩ | ⟨-, z⟩
    · have g := FloodN_fr6 n z; exact ⟨g.1, g.2.2.1, g.2.2.2.2.1⟩
    · rw [z]; exact ⟨rfl, rfl, rfl⟩
  exact ⟨by rw [hqf 0 (by decide), b.1, a.1], by rw [hqf 2 (by decide), b.2.1, a.2.1], by rw [hqf 5 (by decide), b.2.2, a.2.2]⟩
theorem YearsN_fr : ∀ (n : Nat) {r q : mf_V} {b : Int}, YearsN n r q b → q 0 = r 0 ∧ q 2 = r 2 ∧ q 5 = r 5
  | 0, r, q, b, h => by obtain ⟨rfl, -⟩ := h; exact ⟨rfl, rfl, rfl⟩
  | n + 1, r, q, b, h => by
    obtain ⟨r1, b1, b2, h1, -, -, h3, -⟩ := h
    have a := YearsN_fr n h1
    have c := YearR_fr h3
    exact ⟨c.1.trans a.1, c.2.1.trans a.2.1, c.2.2.trans a.2.2⟩
theorem Flood_fr {r q : mf_V} (h : Flood r q) : q 0 = r 0 ∧ q 2 = r 2 ∧ q 5 = r 5 := by
  obtain ⟨n, z⟩ := h
  have g := FloodN_fr6 n z
  exact ⟨g.1, g.2.2.1, g.2.2.2.2.1⟩
theorem farF_m1 (r : mf_V) : farF r (-1) = -1 := by
  rcases farG_mem r (-1) 4 with z | ⟨d, z1, z2⟩
  · exact z
  · have e : farF r (-1) = placeOfF r (nbr (cellAtF r (-1)) d) := z1
    have e2 : 3 ≤ farF r (-1) - (-1) := z2
    rw [cellAtF_out (by omega), nbr_m1, show placeOfF r (-1) = -1 from mf_if_f (by omega)] at e
    omega
noncomputable def vNeck (r q : mf_V) (w : Int) : Int := if w = 0 then neckF r else if w = 1 then widF r else if w = 2 then farF r (widF r) else r 7 0 - q 7 0
noncomputable def kFore (y w : Int) : Int := mf_if (¬ (1 ≤ y ∧ y ≤ 100)) 1 (mf_if (¬ (0 ≤ w ∧ w ≤ 2)) 2 0)
def vFore (r q : mf_V) (b w : Int) : Int := if w = 0 then q 7 0 else if w = 1 then q 9 0 - r 9 0 else b
noncomputable def kLose (f : mf_V) (k : Int) : Int := mf_if (¬ isF f k) 1 0
def LoseP (f r : mf_V) (k : Int) (ch : Int → mf_V) (n : Int) : Prop := ch 0 = r ∧ (0 ≤ n ∧ n ≤ 60) ∧ (∀ i, 0 ≤ i → i ≤ n → rOK rlo rhi (ch i) ∧ RInv (ch i)) ∧ (∀ i, 0 ≤ i → i < n → ∃ b, YearR (ch i) (ch (i + 1)) b) ∧ (∀ i, 0 < i → i < n → ¬ cof f (ch i) k 1 < cof f r k 1) ∧ ((0 < n ∧ cof f (ch n) k 1 < cof f r k 1) ∨ (n = 60 ∧ ¬ cof f (ch 60) k 1 < cof f r k 1))
noncomputable def vLose (f r : mf_V) (k : Int) (ch : Int → mf_V) (n : Int) : Int := mf_if (cof f (ch n) k 1 < cof f r k 1) n (-1)
noncomputable def kAdv (f : mf_V) (k y : Int) : Int := mf_if (¬ isF f k) 1 (mf_if (¬ (1 ≤ y ∧ y ≤ 30)) 2 0)
/-- stones laid on a cell -/
def stR (r : mf_V) (c : Int) : mf_V := mf_sF r 2 (mf_up (r 2) c 1)
def advP (f r : mf_V) (k : Int) (Qf : Int → mf_V) (c m : Int) : Prop := ¬ r 1 c = 0 ∧ r 2 c = 0 ∧ m < cof f (Qf c) k 1
noncomputable def advG (f r : mf_V) (k : Int) (q0 : mf_V) (Qf : Int → mf_V) (n : Int) : Int × Int := Nat.rec (motive := fun _ => Int × Int) (cof f q0 k 1, -1) (fun i x => @ite _ (advP f r k Qf i x.1) (Classical.propDecidable _) (cof f (Qf i) k 1, (i : Int)) x) n.toNat
theorem advG_0 (f r : mf_V) (k : Int) (q0 : mf_V) (Qf : Int → mf_V) : advG f r k q0 Qf 0 = (cof f q0 k 1, -1) := rfl
theorem advG_s (f r : mf_V) (k : Int) (q0 : mf_V) (Qf : Int → mf_V) {n : Int} (h : 0 ≤ n) : advG f r k q0 Qf (n + 1) = @ite _ (advP f r k Qf n (advG f r k q0 Qf n).1) (Classical.propDecidable _) (cof f (Qf n) k 1, n) (advG f r k q0 Qf n) := by
  obtain ⟨i, rfl⟩ := Int.eq_ofNat_of_zero_le h
  unfold advG
  rw [show ((i : Int) + 1).toNat = i + 1 by omega, show ((i : Int)).toNat = i by omega]
theorem advG_t (f r : mf_V) (k : Int) (q0 : mf_V) (Qf : Int → mf_V) {n : Int} (h : 0 ≤ n) (q : advP f r k Qf n (advG f r k q0 Qf n).1) : advG f r k q0 Qf (n + 1) = (cof f (Qf n) k 1, n) := by rw [advG_s f r k q0 Qf h]; exact if_pos q
theorem advG_f (f r : mf_V) (k : Int) (q0 : mf_V) (Qf : Int → mf_V) {n : Int} (h : 0 ≤ n) (q : ¬ advP f r k Qf n (advG f r k q0 Qf n).1) : advG f r k q0 Qf (n + 1) = advG f r k q0 Qf n := by rw [advG_s f r k q0 Qf h]; exact if_neg q
theorem stR_ok {r : mf_V} (ok : rOK rlo rhi r) (c : Int) : rOK rlo rhi (stR r c) := rOK_up ok 2 _ _ (show (0 : Int) ≤ 1 by decide) (show (1 : Int) ≤ 1 by decide)
theorem stR_I {r : mf_V} (hI : RInv r) (c : Int) : RInv (stR r c) := RInv_cg (mf_sF_n (by decide)) (mf_sF_n (by decide)) (mf_sF_n (by decide)) (mf_sF_n (by decide)) (mf_sF_n (by decide)) (mf_sF_n (by decide)) hI
theorem stR_b {r : mf_V} {Y : Int} (h : bdP r Y) (c : Int) : bdP (stR r c) Y := h
