/-! 67.pinv: what holds of a river all through the law; what a year brings -/
def PInv (r : mf_V) : Prop := RInv r ∧ r 6 0 % 24 = 0 ∧ r 6 (r 7 0 - 1) % 24 = 23 ∧ (∀ c, 0 ≤ c → c < 384 → 0 ≤ r 10 c → r 3 c ≤ r 8 0) ∧ ∀ c, 0 ≤ c → c < 384 → r 3 c ≤ r 8 0 + 10
theorem PInv_cg {r q : mf_V} (h3 : q 3 = r 3) (h6 : q 6 = r 6) (h7 : q 7 = r 7) (h8 : q 8 = r 8) (h10 : q 10 = r 10) (h11 : q 11 = r 11) (h12 : q 12 = r 12) (h13 : q 13 = r 13) (h : PInv r) : PInv q := by
  obtain ⟨hI, a, b, c, d⟩ := h
  exact ⟨RInv_cg h6 h7 h10 h11 h12 h13 hI, by rw [h6]; exact a, by rw [h6, h7]; exact b, by rw [h3, h8, h10]; exact c, by rw [h3, h8]; exact d⟩
theorem PInv_0 {r : mf_V} (hI : RInv r) (h : initR r) : PInv r := by
  obtain ⟨i0, i1, i2, i3, i5, i6, i7, i8, i9⟩ := h
  have a := i6 0 (by decide) (by decide)
  have b := i6 23 (by decide) (by decide)
  refine ⟨hI, by rw [a]; decide, ?_, fun c _ _ _ => by rw [i3, i8]; exact Int.le_refl 0, fun c _ _ => by rw [i3, i8]; decide⟩
  rw [i7, show (24 : Int) - 1 = 23 from rfl, b]; decide
theorem PInv_bul {r q : mf_V} {i t : Int} (ok : rOK rlo rhi r) (h : PInv r) (hc : canB r i t) (hB : Bul r i t q) (hq : RInv q) : PInv q := by
  obtain ⟨hI, hl, hr, hw, hy⟩ := h
  have w := canB_w (ok 7 0).2 hc
  obtain ⟨⟨i0, i1, -⟩, -, -, hop⟩ := w
  obtain ⟨b7, b6, bc, b0, b2, b5, b8, b9⟩ := hB
  have g8 : (0 : Int) ≤ r 8 0 ∧ r 8 0 ≤ 90000 := ok 8 0
  refine ⟨hq, by rw [b6 0 (by decide) (by omega), bulC_lo i0]; exact hl, ?_, fun c c0 c1 cp => ?_, fun c c0 c1 => ?_⟩
  · rw [b7, b6 _ (by omega) (by omega), bulC_hi (by omega), show r 7 0 + 2 - 1 - 2 = r 7 0 - 1 by omega]; exact hr
  · by_cases z : hitB r i t c
    · rw [((bc c).1 z).2.1, b8]; omega
    · rw [((bc c).2 z).2.1, b8]
      refine hw c c0 c1 ?_
      rcases hq.2.2.1.2 c c0 c1 with y | ⟨y1, y2, y3⟩
      · omega
      · rw [b7] at y2
        rw [b6 _ y1 y2] at y3
        by_cases a1 : q 10 c < i
        · rw [bulC_lo a1] at y3
          have g := hI.2.2.1.1 (q 10 c) y1 (by omega)
          rw [y3] at g; omega
        by_cases a2 : i + 2 < q 10 c
        · rw [bulC_hi a2] at y3
          have g := hI.2.2.1.1 (q 10 c - 2) (by omega) (by omega)
          rw [y3] at g; omega
        · rw [bulC_new (by omega)] at y3
          exfalso
          refine z ?_
          rcases (show q 10 c = i ∨ q 10 c = i + 1 ∨ q 10 c = i + 2 by omega) with e | e | e
          · rw [e] at y3; exact Or.inl y3.symm
          · rw [e, show i + 1 - 1 = i by omega] at y3; exact Or.inr (Or.inl y3.symm)
          · rw [e, show i + 2 - 1 = i + 1 by omega] at y3; exact Or.inr (Or.inr y3.symm)
  · by_cases z : hitB r i t c
    · rw [((bc c).1 z).2.1, b8]; omega
    · rw [((bc c).2 z).2.1, b8]; exact hy c c0 c1
theorem Brk_sub {r q : mf_V} {i j : Int} (hI : RInv r) (hn : neckP r i j) (hB : Brk r i j q) (hq : RInv q) {c : Int} (c0 : 0 ≤ c) (c1 : c < 384) (h : 0 ≤ q 10 c) : 0 ≤ r 10 c ∧ ¬ (i < r 10 c ∧ r 10 c < j) := by
  obtain ⟨i0, j1, ij, -⟩ := neckP_w hn
  obtain ⟨b7, b6, -⟩ := hB
  rcases hq.2.2.1.2 c c0 c1 with y | ⟨y1, y2, y3⟩
  · omega
  · rw [b7] at y2
    rw [b6 _ y1 y2] at y3
    by_cases a : q 10 c ≤ i
    · rw [brkC_lo a] at y3
      have g := hI.2.2.1.1 (q 10 c) y1 (by omega)
      rw [y3] at g; omega
    · rw [brkC_hi (by omega)] at y3
      have g := hI.2.2.1.1 (q 10 c + (j - i - 1)) (by omega) (by omega)
      rw [y3] at g; omega
theorem PInv_brk {r q : mf_V} {i j : Int} (h : PInv r) (hn : neckP r i j) (hB : Brk r i j q) (hq : RInv q) : PInv q := by
  obtain ⟨hI, hl, hr, hw, hy⟩ := h
  obtain ⟨i0, j1, ij, -⟩ := neckP_w hn
  have hB' := hB
  obtain ⟨b7, b6, bc, b9, b0, b1, b2, b4, b5, b8⟩ := hB
  refine ⟨hq, by rw [b6 0 (by decide) (by omega), brkC_lo i0]; exact hl, ?_, fun c c0 c1 cp => ?_, fun c c0 c1 => ?_⟩
  · rw [b7, b6 _ (by omega) (by omega), brkC_hi (by omega), show r 7 0 - (j - i - 1) - 1 + (j - i - 1) = r 7 0 - 1 by omega]; exact hr
  · have g := Brk_sub hI hn hB' hq c0 c1 cp
    rw [(bc c c0 c1).2 g.2, b8]; exact hw c c0 c1 g.1
  · by_cases z : i < r 10 c ∧ r 10 c < j
    · rw [(bc c c0 c1).1 z, b8]; exact Int.le_refl _
    · rw [(bc c c0 c1).2 z, b8]; exact hy c c0 c1
theorem PInv_flood : ∀ (n : Nat) {r q : mf_V}, PInv r → FloodN n r q → PInv q ∧ q 9 0 = r 9 0 + n ∧ ∀ c, 0 ≤ c → c < 384 → 0 ≤ q 10 c → 0 ≤ r 10 c
  | 0, r, q, h, hf => by obtain ⟨-, rfl⟩ := hf; exact ⟨h, by omega, fun _ _ _ y => y⟩
  | n + 1, r, q, h, hf => by
    obtain ⟨hw, r1, hb, -, hI1, hf⟩ := hf
    have e := widF_neck h.1 hw
    have g := PInv_flood n (PInv_brk h e.2 hb hI1) hf
    have b9 := hb.2.2.2.1
    exact ⟨g.1, by rw [g.2.1, b9]; omega, fun c c0 c1 y => (Brk_sub h.1 e.2 hb hI1 c0 c1 (g.2.2 c c0 c1 y)).1⟩
theorem FloodN_end : ∀ (n : Nat) {r q : mf_V}, FloodN n r q → widF q = -1
  | 0, r, q, hf => by obtain ⟨a, rfl⟩ := hf; exact a
  | n + 1, r, q, hf => by
    obtain ⟨-, r1, -, -, -, hf⟩ := hf
    exact FloodN_end n hf
theorem FloodN_0 {n : Nat} {r q : mf_V} (h : PInv r) (hf : FloodN n r q) (e : q 9 0 = r 9 0) : q = r := by
  have g := (PInv_flood n h hf).2.1
  cases n with
  | zero => exact hf.2
  | succ k => omega
theorem farG_ge (r : mf_V) (i : Int) : ∀ n : Nat, ∀ d : Int, 0 ≤ d → d < n → 3 ≤ placeOfF r (nbr (cellAtF r i) d) - i → placeOfF r (nbr (cellAtF r i) d) ≤ farG r i n := by
  intro n
  induction n with
  | zero => intro d h0 h1; omega
  | succ n ih =>
    intro d h0 h1 h2
    rw [show ((n + 1 : Nat) : Int) = (n : Int) + 1 from rfl, farG_s r i (by omega)]
    rcases (show d < n ∨ d = n by omega) with z | z
    · have g := ih d h0 z h2
      by_cases q : 3 ≤ placeOfF r (nbr (cellAtF r i) n) - i ∧ farG r i n < placeOfF r (nbr (cellAtF r i) n)
      · rw [mf_if_t q]; omega
      · rw [mf_if_f q]; exact g
    · rw [z] at h2 ⊢
      by_cases q : 3 ≤ placeOfF r (nbr (cellAtF r i) n) - i ∧ farG r i n < placeOfF r (nbr (cellAtF r i) n)
      · rw [mf_if_t q]; exact Int.le_refl _
      · rw [mf_if_f q]; omega
theorem widG_ge (r : mf_V) : ∀ n : Nat, ∀ i : Int, 0 ≤ i → i < n → farF r i - i ≤ (widG r n).2 := by
  intro n
  induction n with
  | zero => intro i h0 h1; omega
  | succ n ih =>
    intro i h0 h1
    rw [show ((n + 1 : Nat) : Int) = (n : Int) + 1 from rfl]
    by_cases q : (widG r n).2 < farF r n - n
    · rw [widG_t r (by omega) q]
      show farF r i - i ≤ farF r n - n
      rcases (show i < n ∨ i = n by omega) with z | z
      · have := ih i h0 z; omega
      · rw [z]; exact Int.le_refl _
    · rw [widG_f r (by omega) q]
      rcases (show i < n ∨ i = n by omega) with z | z
      · exact ih i h0 z
      · rw [z]; omega
theorem neckF_0 {r : mf_V} (hL : 0 ≤ r 7 0) (h : widF r = -1) : neckF r = 0 := by
  obtain ⟨n, hn⟩ := Int.eq_ofNat_of_zero_le hL
  unfold widF at h
  rw [hn] at h
  have z2 := widG_m1 r n h
  unfold neckF
  refine msum_zero hL (fun i i0 i1 => msum_zero (by decide) (fun d d0 d1 => bP_f (fun y => ?_)))
  have a := widG_ge r n i i0 (by omega)
  have b := farG_ge r i 4 d d0 d1 (by rw [cellAtF_in i0 i1]; exact y)
  rw [cellAtF_in i0 i1] at b
  have c : farG r i ((4 : Nat) : Int) = farF r i := rfl
  rw [c] at b
  omega
theorem msum_le {f g : Int → Int} {N : Int} (hN : 0 ≤ N) (h : ∀ z, 0 ≤ z → z < N → f z ≤ g z) : msum f N ≤ msum g N := by
  obtain ⟨n, rfl⟩ := Int.eq_ofNat_of_zero_le hN
  induction n with
  | zero => exact Int.le_refl _
  | succ n ih =>
    rw [show ((n + 1 : Nat) : Int) = (n : Int) + 1 from rfl, msum_s f (by omega), msum_s g (by omega)]
    have a := ih (by omega) (fun z a b => h z a (by omega))
    have b := h n (by omega) (by omega)
    omega
theorem msum_3 {a b c : Int} (ha : 0 ≤ a ∧ a < 384) (hb : 0 ≤ b ∧ b < 384) (hc : 0 ≤ c ∧ c < 384) : msum (fun z => bP (a = 0 + z) + bP (b = 0 + z) + bP (c = 0 + z)) 384 = 3 := by
  rw [msum_plus (fun z => bP (a = 0 + z) + bP (b = 0 + z)) _ (by decide), msum_plus _ _ (by decide), msum_pt (by decide), msum_pt (by decide), msum_pt (by decide), bP_t (by omega), bP_t (by omega), bP_t (by omega)]; rfl
/-- the cells that are new in the course -/
noncomputable def freshF (r q : mf_V) : Int := msum (fun c => bP (0 ≤ q 10 c ∧ ¬ 0 ≤ r 10 c)) 384
/-- the wear laid on a cell -/
noncomputable def moreF (r : mf_V) (f c : Int) : Int := mf_if (0 ≤ r 10 c ∨ ¬ r 2 c = 0) 0 (msum (fun i => bP (r 13 i = c)) (r 7 0) * f)
/-- a year, in what the law asks of it -/
def YearL (r q : mf_V) (b f : Int) : Prop := (b = 0 ∨ b = 1) ∧ r 9 0 ≤ q 9 0 ∧ (r 9 0 < q 9 0 → 7 ≤ f) ∧ (7 ≤ f → neckF q = 0) ∧ (∀ c, 0 ≤ c → c < 384 → q 1 c = 0 ∨ q 1 c = r 1 c + moreF r f c) ∧ (∀ c, 0 ≤ c → c < 384 → 0 ≤ q 10 c → ¬ 0 ≤ r 10 c → q 1 c = 0) ∧ freshF r q ≤ 3 * b ∧ (b = 1 → q 9 0 = r 9 0 → freshF r q = 3 ∧ q 7 0 = r 7 0 + 2) ∧ (b = 0 → q 9 0 = r 9 0 → q 7 0 = r 7 0) ∧ q 8 0 = r 8 0 + 1 ∧ ∀ c, 0 ≤ c → c < 384 → q 3 c ≤ q 8 0 + 9
theorem Bul_new {r q : mf_V} {i t : Int} (ok : rOK rlo rhi r) (hI : RInv r) (hc : canB r i t) (hB : Bul r i t q) (hq : RInv q) {c : Int} (c0 : 0 ≤ c) (c1 : c < 384) : ((0 ≤ q 10 c ∧ ¬ 0 ≤ r 10 c) → hitB r i t c) ∧ (hitB r i t c → 0 ≤ q 10 c ∧ ¬ 0 ≤ r 10 c) := by
  obtain ⟨⟨i0, i1, -⟩, -, -, hop⟩ := canB_w (ok 7 0).2 hc
  obtain ⟨b7, b6, -⟩ := hB
  constructor
  · intro ⟨h1, h2⟩
    rcases hq.2.2.1.2 c c0 c1 with y | ⟨y1, y2, y3⟩
    · omega
    · rw [b7] at y2
      rw [b6 _ y1 y2] at y3
      by_cases a1 : q 10 c < i
      · rw [bulC_lo a1] at y3
        have g := hI.2.2.1.1 (q 10 c) y1 (by omega)
        rw [y3] at g; omega
      by_cases a2 : i + 2 < q 10 c
      · rw [bulC_hi a2] at y3
        have g := hI.2.2.1.1 (q 10 c - 2) (by omega) (by omega)
        rw [y3] at g; omega
      · rw [bulC_new (by omega)] at y3
        rcases (show q 10 c = i ∨ q 10 c = i + 1 ∨ q 10 c = i + 2 by omega) with e | e | e
        · rw [e] at y3; exact Or.inl y3.symm
        · rw [e, show i + 1 - 1 = i by omega] at y3; exact Or.inr (Or.inl y3.symm)
        · rw [e, show i + 2 - 1 = i + 1 by omega] at y3; exact Or.inr (Or.inr y3.symm)
  · have key : ∀ k, i - 1 ≤ k → k ≤ i + 1 → c = nbr (r 6 k) t → 0 ≤ q 10 c ∧ ¬ 0 ≤ r 10 c := fun k k0 k1 e => by
      have o := hop k k0 k1
      rw [← e] at o
      have s := b6 (k + 1) (by omega) (by omega)
      rw [bulC_new (by omega), show k + 1 - 1 = k by omega, ← e] at s
      have g := hq.2.2.1.1 (k + 1) (by omega) (by rw [b7]; omega)
      rw [s] at g
      omega
    intro h
    rcases h with h | h | h
    · exact key (i - 1) (by omega) (by omega) h
    · exact key i (by omega) (by omega) h
    · exact key (i + 1) (by omega) (by omega) h
theorem hit_sum {r : mf_V} {i t c : Int} : bP (hitB r i t c) ≤ bP (nbr (r 6 (i - 1)) t = 0 + c) + bP (nbr (r 6 i) t = 0 + c) + bP (nbr (r 6 (i + 1)) t = 0 + c) := by
  have a := bP_01 (nbr (r 6 (i - 1)) t = 0 + c)
  have b := bP_01 (nbr (r 6 i) t = 0 + c)
  have d := bP_01 (nbr (r 6 (i + 1)) t = 0 + c)
  by_cases h : hitB r i t c
  · rw [bP_t h]
    rcases h with h | h | h
    · rw [bP_t (P := nbr (r 6 (i - 1)) t = 0 + c) (by omega)]; omega
    · rw [bP_t (P := nbr (r 6 i) t = 0 + c) (by omega)]; omega
    · rw [bP_t (P := nbr (r 6 (i + 1)) t = 0 + c) (by omega)]; omega
  · rw [bP_f h]; omega
theorem hit_sum3 {a b d c : Int} (h1 : ¬ a = b) (h2 : ¬ a = d) (h3 : ¬ b = d) : bP (c = a ∨ c = b ∨ c = d) = bP (a = 0 + c) + bP (b = 0 + c) + bP (d = 0 + c) := by
  by_cases y1 : a = 0 + c
  · rw [bP_t (P := c = a ∨ c = b ∨ c = d) (by omega), bP_t y1, bP_f (P := b = 0 + c) (by omega), bP_f (P := d = 0 + c) (by omega)]; rfl
  by_cases y2 : b = 0 + c
  · rw [bP_t (P := c = a ∨ c = b ∨ c = d) (by omega), bP_f y1, bP_t y2, bP_f (P := d = 0 + c) (by omega)]; rfl
  by_cases y3 : d = 0 + c
  · rw [bP_t (P := c = a ∨ c = b ∨ c = d) (by omega), bP_f y1, bP_f y2, bP_t y3]; rfl
  · rw [bP_f (P := c = a ∨ c = b ∨ c = d) (by omega), bP_f y1, bP_f y2, bP_f y3]; rfl
theorem year_L {r q : mf_V} {b : Int} (ok : rOK rlo rhi r) (h : PInv r) (hY : YearR r q b) : PInv q ∧ YearL r q b (r 5 (r 8 0 % 12)) := by
  have hYI := YearR_I hY
  obtain ⟨r1, r2, r3, h1f, h1w, ok1, hI1, hrip, ok2, hI2, hfl, ok3, hI3, hqf, hq8⟩ := hY
  have hL : 0 ≤ r 7 0 := by have := h.1.1.1; omega
  have p1 : PInv r1 := PInv_cg (h1f 3 (by decide)) (h1f 6 (by decide)) (h1f 7 (by decide)) (h1f 8 (by decide)) (h1f 10 (by decide)) (h1f 11 (by decide)) (h1f 12 (by decide)) (h1f 13 (by decide)) h
  have e10 := h1f 10 (by decide)
  -- the wear
  have wear : ∀ c, 0 ≤ c → c < 384 → r1 1 c = r 1 c + moreF r (r 5 (r 8 0 % 12)) c := fun c c0 c1 => by
    rw [h1w, wearG_mI r _ c hL]
    congr 1
    unfold moreF
    by_cases z : 0 ≤ r 10 c ∨ ¬ r 2 c = 0
    · rw [mf_if_t z, msum_zero hL (fun i i0 i1 => bP_f (fun y => by obtain ⟨⟨y1, y2, y3, y4⟩, y5⟩ := y; rw [y5] at y3 y4; omega)), Int.mul_zero]
    · rw [mf_if_f z, Int.mul_comm]
      congr 1
      refine msum_cg hL (fun i i0 i1 => bP_cg ⟨fun y => y.2, fun y => ⟨?_, y⟩⟩)
      rw [y]
      rcases h.1.2.2.1.2 c c0 c1 with x | x
      · exact ⟨c0, c1, x, by omega⟩
      · omega
  -- the bulge
  have bul : PInv r2 ∧ (b = 0 ∨ b = 1) ∧ r2 9 0 = r 9 0 ∧ r2 8 = r 8 ∧ (b = 0 → r2 = r1) ∧ (b = 1 → canB r1 (ripF r1) (r1 12 (ripF r1)) ∧ Bul r1 (ripF r1) (r1 12 (ripF r1)) r2) := by
    rcases hrip with ⟨x1, x2, x3⟩ | ⟨x1, x2, x3⟩
    · rw [x2]; exact ⟨p1, Or.inl x3, by rw [h1f 9 (by decide)], h1f 8 (by decide), fun _ => rfl, fun y => by omega⟩
    · have c := ripF_cnd hI1 x1
      exact ⟨PInv_bul ok1 p1 c.2.2.2 x2 hI2, Or.inr x3, by rw [x2.2.2.2.2.2.2.2, h1f 9 (by decide)], by rw [x2.2.2.2.2.2.2.1, h1f 8 (by decide)], fun y => by omega, fun _ => ⟨c.2.2.2, x2⟩⟩
  obtain ⟨p2, hb01, e29, e28, hb0, hb1⟩ := bul
  -- the flood
  have fl : PInv r3 ∧ r2 9 0 ≤ r3 9 0 ∧ (r2 9 0 < r3 9 0 → 7 ≤ r 5 (r 8 0 % 12)) ∧ (7 ≤ r 5 (r 8 0 % 12) → widF r3 = -1) ∧ (r3 9 0 = r2 9 0 → r3 = r2) ∧ (∀ c, 0 ≤ c → c < 384 → 0 ≤ r3 10 c → 0 ≤ r2 10 c) ∧ r3 1 = r2 1 ∧ r3 8 = r2 8 := by
    rcases hfl with ⟨x1, n, x2⟩ | ⟨x1, x2⟩
    · have g := PInv_flood n p2 x2
      have f6 := FloodN_fr6 n x2
      exact ⟨g.1, by rw [g.2.1]; omega, fun _ => x1, fun _ => FloodN_end n x2, fun y => FloodN_0 p2 x2 y, g.2.2, f6.2.1, f6.2.2.2.2.2⟩
    · rw [x2]; exact ⟨p2, Int.le_refl _, fun y => by omega, fun y => by omega, fun _ => rfl, fun _ _ _ y => y, rfl, rfl⟩
  obtain ⟨p3, m9, mf, mw, m0, msub, m1, m8⟩ := fl
  have q10 := hqf 10 (by decide)
  have q1 := hqf 1 (by decide)
  have q3 := hqf 3 (by decide)
  have q9 := hqf 9 (by decide)
  have q7 := hqf 7 (by decide)
  have e38 : r3 8 0 = r 8 0 := by rw [m8, e28]
  have y9 : ∀ c, 0 ≤ c → c < 384 → q 3 c ≤ q 8 0 + 9 := fun c c0 c1 => by
    rw [q3, hq8]
    have g := p3.2.2.2.2 c c0 c1
    rw [e38] at g; omega
  have new1 : ∀ c, 0 ≤ c → c < 384 → 0 ≤ q 10 c → ¬ 0 ≤ r 10 c → b = 1 ∧ hitB r1 (ripF r1) (r1 12 (ripF r1)) c := fun c c0 c1 a d => by
    rw [q10] at a
    have g := msub c c0 c1 a
    rcases hb01 with z | z
    · rw [hb0 z, e10] at g; exact absurd g d
    · refine ⟨z, (Bul_new ok1 hI1 (hb1 z).1 (hb1 z).2 hI2 c0 c1).1 ⟨g, ?_⟩⟩
      rw [e10]; exact d
  refine ⟨⟨hYI, by rw [hqf 6 (by decide)]; exact p3.2.1, by rw [hqf 6 (by decide), q7]; exact p3.2.2.1, fun c c0 c1 cp => ?_, fun c c0 c1 => by have := y9 c c0 c1; omega⟩, hb01, by rw [q9]; omega, fun y => mf (by rw [q9] at y; omega), fun y => ?_, fun c c0 c1 => ?_, fun c c0 c1 a d => ?_, ?_, fun y1 y2 => ?_, fun y1 y2 => ?_, hq8, y9⟩
  · rw [q3, hq8]
    rw [q10] at cp
    have g := p3.2.2.2.1 c c0 c1 cp
    rw [e38] at g; omega
  · have e : neckF q = neckF r3 := by unfold neckF placeOfF; rw [hqf 10 (by decide), hqf 6 (by decide), hqf 7 (by decide)]
    rw [e]
    exact neckF_0 (by have := hI3.1.1; omega) (mw y)
  · rw [q1, m1]
    rcases hb01 with z | z
    · rw [hb0 z]; exact Or.inr (wear c c0 c1)
    · by_cases x : hitB r1 (ripF r1) (r1 12 (ripF r1)) c
      · exact Or.inl ((hb1 z).2.2.2.1 c |>.1 x).1
      · rw [((hb1 z).2.2.2.1 c |>.2 x).1]; exact Or.inr (wear c c0 c1)
  · obtain ⟨z, x⟩ := new1 c c0 c1 a d
    rw [q1, m1]
    exact ((hb1 z).2.2.2.1 c |>.1 x).1
  · unfold freshF
    rcases hb01 with z | z
    · rw [z, msum_zero (by decide) (fun c c0 c1 => bP_f (fun y => by have := (new1 c c0 c1 y.1 y.2).1; omega))]; decide
    · have w := canB_w (ok1 7 0).2 (hb1 z).1
      have o1 := w.2.2.2 (ripF r1 - 1) (by omega) (by omega)
      have o2 := w.2.2.2 (ripF r1) (by omega) (by omega)
      have o3 := w.2.2.2 (ripF r1 + 1) (by omega) (by omega)
      have g := msum_3 ⟨o1.1, o1.2.1⟩ ⟨o2.1, o2.2.1⟩ ⟨o3.1, o3.2.1⟩
      rw [z, show (3 : Int) * 1 = 3 from rfl, ← g]
      refine msum_le (by decide) (fun c c0 c1 => ?_)
      by_cases y : 0 ≤ q 10 c ∧ ¬ 0 ≤ r 10 c
      · have x := (new1 c c0 c1 y.1 y.2).2
        have s := hit_sum (r := r1) (i := ripF r1) (t := r1 12 (ripF r1)) (c := c)
        rw [bP_t x] at s
        rw [bP_t y]; exact s
      · rw [bP_f y]
        have a1 := bP_01 (nbr (r1 6 (ripF r1 - 1)) (r1 12 (ripF r1)) = 0 + c)
        have a2 := bP_01 (nbr (r1 6 (ripF r1)) (r1 12 (ripF r1)) = 0 + c)
        have a3 := bP_01 (nbr (r1 6 (ripF r1 + 1)) (r1 12 (ripF r1)) = 0 + c)
        omega
  · rw [q9] at y2
    have e3 := m0 (by omega)
    obtain ⟨hc, hB⟩ := hb1 y1
    have w := canB_w (ok1 7 0).2 hc
    have o1 := w.2.2.2 (ripF r1 - 1) (by omega) (by omega)
    have o2 := w.2.2.2 (ripF r1) (by omega) (by omega)
    have o3 := w.2.2.2 (ripF r1 + 1) (by omega) (by omega)
    refine ⟨?_, by rw [q7, e3, hB.1, h1f 7 (by decide)]⟩
    have g := msum_3 ⟨o1.1, o1.2.1⟩ ⟨o2.1, o2.2.1⟩ ⟨o3.1, o3.2.1⟩
    rw [← g]
    unfold freshF
    have i0 := w.1.1
    have i1 := w.1.2.1
    have s : ∀ k, ripF r1 - 1 ≤ k → k ≤ ripF r1 + 1 → r2 6 (k + 1) = nbr (r1 6 k) (r1 12 (ripF r1)) := fun k k0 k1 => by
      rw [hB.2.1 (k + 1) (by omega) (by omega), bulC_new (by omega), show k + 1 - 1 = k by omega]
    have inj := hI2.1.2.2
    have b7 := hB.1
    have d12 : ¬ nbr (r1 6 (ripF r1 - 1)) (r1 12 (ripF r1)) = nbr (r1 6 (ripF r1)) (r1 12 (ripF r1)) := fun y => by
      rw [← s _ (by omega) (by omega), ← s _ (by omega) (by omega)] at y
      have := inj _ _ (by omega) (by omega) (by omega) (by omega) y
      omega
    have d13 : ¬ nbr (r1 6 (ripF r1 - 1)) (r1 12 (ripF r1)) = nbr (r1 6 (ripF r1 + 1)) (r1 12 (ripF r1)) := fun y => by
      rw [← s _ (by omega) (by omega), ← s _ (by omega) (by omega)] at y
      have := inj _ _ (by omega) (by omega) (by omega) (by omega) y
      omega
    have d23 : ¬ nbr (r1 6 (ripF r1)) (r1 12 (ripF r1)) = nbr (r1 6 (ripF r1 + 1)) (r1 12 (ripF r1)) := fun y => by
      rw [← s _ (by omega) (by omega), ← s _ (by omega) (by omega)] at y
      have := inj _ _ (by omega) (by omega) (by omega) (by omega) y
      omega
    refine msum_cg (by decide) (fun c c0 c1 => ?_)
    have N := Bul_new ok1 hI1 hc hB hI2 c0 c1
    show bP (0 ≤ q 10 c ∧ ¬ 0 ≤ r 10 c) = bP (nbr (r1 6 (ripF r1 - 1)) (r1 12 (ripF r1)) = 0 + c) + bP (nbr (r1 6 (ripF r1)) (r1 12 (ripF r1)) = 0 + c) + bP (nbr (r1 6 (ripF r1 + 1)) (r1 12 (ripF r1)) = 0 + c)
    rw [q10, e3, ← e10, bP_cg (⟨N.1, N.2⟩ : (0 ≤ r2 10 c ∧ ¬ 0 ≤ r1 10 c) ↔ hitB r1 (ripF r1) (r1 12 (ripF r1)) c)]
    exact hit_sum3 d12 d13 d23
  · rw [q9] at y2
    have e3 := m0 (by omega)
    rw [q7, e3, hb0 y1, h1f 7 (by decide)]
