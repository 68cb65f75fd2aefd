/-! 66.eqr: rivers that look alike; a year of both ends alike -/
def eqR (r q : mf_V) : Prop := r 7 0 = q 7 0 ∧ r 8 0 = q 8 0 ∧ r 9 0 = q 9 0 ∧ rgA 384 (r 0) (q 0) ∧ rgA 384 (r 1) (q 1) ∧ rgA 384 (r 2) (q 2) ∧ rgA 384 (r 3) (q 3) ∧ rgA 12 (r 5) (q 5) ∧ rgA (r 7 0) (r 6) (q 6)
theorem eqR_r (r : mf_V) : eqR r r := ⟨rfl, rfl, rfl, fun _ _ _ => rfl, fun _ _ _ => rfl, fun _ _ _ => rfl, fun _ _ _ => rfl, fun _ _ _ => rfl, fun _ _ _ => rfl⟩
theorem eqR_s {r q : mf_V} (h : eqR r q) : eqR q r := by
  obtain ⟨h7, h8, h9, h0, h1, h2, h3, h5, h6⟩ := h
  exact ⟨h7.symm, h8.symm, h9.symm, fun z a b => (h0 z a b).symm, fun z a b => (h1 z a b).symm, fun z a b => (h2 z a b).symm, fun z a b => (h3 z a b).symm, fun z a b => (h5 z a b).symm, fun z a b => (h6 z a (by omega)).symm⟩
theorem eqR10 {r q : mf_V} (hr : RInv r) (hq : RInv q) (h : eqR r q) {c : Int} (c0 : 0 ≤ c) (c1 : c < 384) : r 10 c = q 10 c := by
  obtain ⟨h7, -, -, -, -, -, -, -, h6⟩ := h
  obtain ⟨-, -, ⟨p1, p2⟩, -⟩ := hr
  obtain ⟨-, -, ⟨s1, s2⟩, -⟩ := hq
  rcases p2 c c0 c1 with a | ⟨a1, a2, a3⟩
  · rcases s2 c c0 c1 with b | ⟨b1, b2, b3⟩
    · rw [a, b]
    · have e := h6 (q 10 c) b1 (by omega)
      rw [b3] at e
      have g := p1 (q 10 c) b1 (by omega)
      rw [e] at g; exact g
  · have e := h6 (r 10 c) a1 a2
    rw [a3] at e
    have g := s1 (r 10 c) a1 (by omega)
    rw [← e] at g; exact g.symm
theorem eqCA {r q : mf_V} (h : eqR r q) (i : Int) : cellAtF r i = cellAtF q i := by
  unfold cellAtF
  by_cases z : inC r i
  · rw [mf_if_t z, mf_if_t (show inC q i from ⟨z.1, by have := z.2; rw [← h.1]; exact this⟩)]; exact h.2.2.2.2.2.2.2.2 i z.1 z.2
  · rw [mf_if_f z, mf_if_f (show ¬ inC q i from fun y => z ⟨y.1, by rw [h.1]; exact y.2⟩)]
theorem eqR11 {r q : mf_V} (hr : RInv r) (hq : RInv q) (h : eqR r q) {i : Int} (h0 : 0 ≤ i) (h1 : i < r 7 0) : r 11 i = q 11 i := by
  rw [hr.2.1 i h0 h1, hq.2.1 i h0 (by rw [← h.1]; exact h1), eqCA h, h.2.2.2.2.2.2.2.2 i h0 h1]
theorem thrS_cg {d e : Int → Int} {n i t : Int} (h : ∀ k, 0 ≤ k → k < n → d k = e k) (h0 : 0 ≤ i) (h1 : i < n) (ht : thrS d n i t) : thrS e n i t := by
  have hs : (0 < i ∧ i < n - 1 ∧ d (i - 1) = d i) ↔ (0 < i ∧ i < n - 1 ∧ e (i - 1) = e i) := by
    constructor
    · intro ⟨a, b, c⟩; exact ⟨a, b, by rw [← h (i - 1) (by omega) (by omega), ← h i h0 h1]; exact c⟩
    · intro ⟨a, b, c⟩; exact ⟨a, b, by rw [h (i - 1) (by omega) (by omega), h i h0 h1]; exact c⟩
  rcases ht with ⟨a, b⟩ | ⟨a, j, j0, j1, j2, j3, j4, j5⟩ | ⟨a, b, c⟩
  · exact Or.inl ⟨fun z => a (hs.mpr z), b⟩
  · exact Or.inr (Or.inl ⟨hs.mp a, j, j0, j1, j2, by rw [← h j (by omega) (by omega), ← h (j - 1) (by omega) (by omega)]; exact j3, fun q q0 q1 => by rw [← h q (by omega) (by omega), ← h (q - 1) (by omega) (by omega)]; exact j4 q q0 q1, by rw [← h (j - 1) (by omega) (by omega)]; exact j5⟩)
  · exact Or.inr (Or.inr ⟨hs.mp a, fun q q0 q1 q2 => by rw [← h q (by omega) (by omega), ← h (q - 1) (by omega) (by omega)]; exact b q q0 q1 q2, c⟩)
theorem eqR12 {r q : mf_V} (hr : RInv r) (hq : RInv q) (h : eqR r q) {i : Int} (h0 : 0 ≤ i) (h1 : i < r 7 0) : r 12 i = q 12 i := by
  have a := (hr.2.2.2 i h0 h1).1
  have b := (hq.2.2.2 i h0 (by rw [← h.1]; exact h1)).1
  rw [← h.1] at b
  exact thrS_uniq (thrS_cg (fun k k0 k1 => eqR11 hr hq h k0 k1) h0 h1 a) b
theorem eqR13 {r q : mf_V} (hr : RInv r) (hq : RInv q) (h : eqR r q) {i : Int} (h0 : 0 ≤ i) (h1 : i < r 7 0) : r 13 i = q 13 i := by
  rw [(hr.2.2.2 i h0 h1).2, (hq.2.2.2 i h0 (by rw [← h.1]; exact h1)).2, eqR12 hr hq h h0 h1, h.2.2.2.2.2.2.2.2 i h0 h1]
theorem eqOp1 {r q : mf_V} (hr : RInv r) (hq : RInv q) (h : eqR r q) {c : Int} (z : openP r c) : openP q c := by
  obtain ⟨a, b, c1, c2⟩ := z
  exact ⟨a, b, by rw [← eqR10 hr hq h a b]; exact c1, by rw [← h.2.2.2.2.2.1 c a b]; exact c2⟩
theorem eqOp {r q : mf_V} (hr : RInv r) (hq : RInv q) (h : eqR r q) (c : Int) : openP r c ↔ openP q c := ⟨eqOp1 hr hq h, eqOp1 hq hr (eqR_s h)⟩
theorem eqSt1 {r q : mf_V} (hr : RInv r) (hq : RInv q) (h : eqR r q) {i : Int} (z : strP r i) : strP q i := by
  obtain ⟨a, b, c⟩ := z
  exact ⟨a, by rw [← h.1]; exact b, by rw [← eqR11 hr hq h (by omega) (by omega), ← eqR11 hr hq h (by omega) (by omega)]; exact c⟩
theorem eqCan1 {r q : mf_V} (hr : RInv r) (hq : RInv q) (h : eqR r q) {i t : Int} (z : canB r i t) : canB q i t := by
  obtain ⟨z1, z2, z3, z4, z5, z6, z7, z8⟩ := z
  have s1 := z1.1
  have s2 := z1.2.1
  exact ⟨eqSt1 hr hq h z1, by rw [← h.1]; exact z2, z3, z4, by rw [← eqR11 hr hq h (by omega) (by omega)]; exact z5, by rw [← eqCA h]; exact eqOp1 hr hq h z6, by rw [← eqCA h]; exact eqOp1 hr hq h z7, by rw [← eqCA h]; exact eqOp1 hr hq h z8⟩
/-- the wear that a year lays on a cell -/
theorem wearG_m (r : mf_V) (f c : Int) : ∀ n : Nat, wearG r f n c = r 1 c + f * msum (fun i => bP (openP r (r 13 i) ∧ r 13 i = c)) n := by
  intro n
  induction n with
  | zero => rw [show ((0 : Nat) : Int) = 0 from rfl, wearG_0, msum_0, Int.mul_zero, Int.add_zero]
  | succ n ih =>
    rw [show ((n + 1 : Nat) : Int) = (n : Int) + 1 from rfl, msum_s _ (by omega), Int.mul_add]
    by_cases q : openP r (r 13 n)
    · rw [wearG_t r f (by omega) q]
      by_cases z : c = r 13 n
      · rw [bP_t ⟨q, z.symm⟩, z, mf_up_s, ← z, ih]; omega
      · rw [mf_up_n z, bP_f (fun y => z y.2.symm), ih]; omega
    · rw [wearG_f r f (by omega) q, bP_f (fun y => q y.1), ih]; omega
theorem wearG_mI (r : mf_V) (f c : Int) {n : Int} (h : 0 ≤ n) : wearG r f n c = r 1 c + f * msum (fun i => bP (openP r (r 13 i) ∧ r 13 i = c)) n := by
  obtain ⟨k, rfl⟩ := Int.eq_ofNat_of_zero_le h
  exact wearG_m r f c k
theorem ripC_eq {r q : mf_V} {lo hi b m : Int} (hc : ∀ j, lo ≤ j → j < hi → (cndR r j ↔ cndR q j)) (ho : ∀ j, lo ≤ j → j < hi → cndR r j → ovR r j = ovR q j) (h : ripC r lo hi b m) : ripC q lo hi b m := by
  rcases h with ⟨h1, h2⟩ | ⟨h1, h2, h3, h4, h5, h6⟩
  · exact Or.inl ⟨h1, fun j a b c => h2 j a b ((hc j a b).mpr c)⟩
  · refine Or.inr ⟨h1, h2, (hc b h1 h2).mp h3, by rw [h4, ho b h1 h2 h3], fun j a b' c => ?_, fun j a b' c => ?_⟩
    · have c' := (hc j a (by omega)).mpr c
      rw [← ho j a (by omega) c', ← ho b h1 h2 h3]; exact h5 j a b' c'
    · have c' := (hc j (by omega) b').mpr c
      rw [← ho j (by omega) b' c', ← ho b h1 h2 h3]; exact h6 j a b' c'
theorem eqOv {r q : mf_V} (hr : RInv r) (hq : RInv q) (h : eqR r q) {j : Int} (h0 : 0 ≤ j) (h1 : j < r 7 0) (hb : 0 ≤ r 13 j ∧ r 13 j < 384) : ovR r j = ovR q j := by
  unfold ovR
  rw [← eqR13 hr hq h h0 h1, h.2.2.2.2.1 _ hb.1 hb.2, h.2.2.2.1 _ hb.1 hb.2]
theorem eqCnd1 {r q : mf_V} (hr : RInv r) (hq : RInv q) (h : eqR r q) {j : Int} (h0 : 0 ≤ j) (h1 : j < r 7 0) (z : cndR r j) : cndR q j := by
  obtain ⟨a, b, c⟩ := z
  refine ⟨by rw [← eqR13 hr hq h h0 h1]; exact a, by rw [← eqOv hr hq h h0 h1 a]; exact b, ?_⟩
  rw [← eqR12 hr hq h h0 h1]
  exact eqCan1 hr hq h c
theorem ripF_C {r : mf_V} (hL : 0 ≤ r 7 0) : ∃ m, ripC r 0 (r 7 0) (ripF r) m := by
  obtain ⟨n, hn⟩ := Int.eq_ofNat_of_zero_le hL
  unfold ripF
  rw [hn]
  exact ⟨_, (ripC_G r n).1⟩
theorem eqRip {r q : mf_V} (hr : RInv r) (hq : RInv q) (h : eqR r q) : ripF r = ripF q := by
  have hL : 0 ≤ r 7 0 := by have := hr.1.1; omega
  obtain ⟨m, hm⟩ := ripF_C hL
  have g := ripC_eq (q := q) (fun j a b => ⟨eqCnd1 hr hq h a b, eqCnd1 hq hr (eqR_s h) a (by rw [← h.1]; exact b)⟩) (fun j a b c => eqOv hr hq h a b c.1) hm
  rw [h.1] at g
  exact (ripC_F (by rw [← h.1]; exact hL) g).symm
theorem ripF_cnd {r : mf_V} (hI : RInv r) (h : ¬ ripF r = -1) : (0 ≤ ripF r ∧ ripF r < r 7 0) ∧ cndR r (ripF r) := by
  obtain ⟨m, hm⟩ := ripF_C (r := r) (by have := hI.1.1; omega)
  rcases hm with ⟨a, -⟩ | ⟨a, b, c, -⟩
  · exact absurd a h
  · exact ⟨⟨a, b⟩, c⟩
theorem bulC_cg {r q : mf_V} {i t j : Int} (h : eqR r q) (i0 : 0 < i) (i1 : i < r 7 0 - 1) (j0 : 0 ≤ j) (j1 : j < r 7 0 + 2) : bulC r i t j = bulC q i t j := by
  have h6 := h.2.2.2.2.2.2.2.2
  by_cases a : j < i
  · rw [bulC_lo a, bulC_lo a]; exact h6 j j0 (by omega)
  by_cases b : i + 2 < j
  · rw [bulC_hi b, bulC_hi b]; exact h6 _ (by omega) (by omega)
  rw [bulC_new (by omega), bulC_new (by omega), h6 (j - 1) (by omega) (by omega)]
theorem hitB_cg {r q : mf_V} {i t : Int} (h : eqR r q) (i0 : 0 < i) (i1 : i < r 7 0 - 1) (c : Int) : hitB r i t c ↔ hitB q i t c := by
  have h6 := h.2.2.2.2.2.2.2.2
  unfold hitB
  rw [h6 (i - 1) (by omega) (by omega), h6 i (by omega) (by omega), h6 (i + 1) (by omega) (by omega)]
theorem eqBul {r q r' q' : mf_V} {i t : Int} (h : eqR r q) (i0 : 0 < i) (i1 : i < r 7 0 - 1) (hB : Bul r i t r') (hB' : Bul q i t q') : eqR r' q' := by
  obtain ⟨b7, b6, bc, b0, b2, b5, b8, b9⟩ := hB
  obtain ⟨c7, c6, cc, c0, c2, c5, c8, c9⟩ := hB'
  have e := h
  obtain ⟨h7, h8, h9, h0, h1, h2, h3, h5, h6⟩ := h
  have cells : ∀ c, 0 ≤ c → c < 384 → r' 1 c = q' 1 c ∧ r' 3 c = q' 3 c := fun c a b => by
    by_cases z : hitB r i t c
    · have z' := (hitB_cg e i0 i1 c).mp z
      rw [((bc c).1 z).1, ((cc c).1 z').1, ((bc c).1 z).2.1, ((cc c).1 z').2.1]; exact ⟨rfl, rfl⟩
    · have z' := fun y => z ((hitB_cg e i0 i1 c).mpr y)
      rw [((bc c).2 z).1, ((cc c).2 z').1, ((bc c).2 z).2.1, ((cc c).2 z').2.1]; exact ⟨h1 c a b, h3 c a b⟩
  refine ⟨by rw [b7, c7, h7], by rw [b8, c8, h8], by rw [b9, c9, h9], fun z a b => by rw [b0, c0]; exact h0 z a b, fun z a b => (cells z a b).1, fun z a b => by rw [b2, c2]; exact h2 z a b, fun z a b => (cells z a b).2, fun z a b => by rw [b5, c5]; exact h5 z a b, fun z a b => ?_⟩
  rw [b7] at b
  rw [b6 z a b, c6 z a (by rw [← h7]; exact b)]
  exact bulC_cg e i0 i1 a b
theorem eqBrk {r q r' q' : mf_V} {i j : Int} (hr : RInv r) (hq : RInv q) (h : eqR r q) (i0 : 0 ≤ i) (ij : i + 3 ≤ j) (j1 : j < r 7 0) (hB : Brk r i j r') (hB' : Brk q i j q') : eqR r' q' := by
  obtain ⟨b7, b6, bc, b9, b0, b1, b2, b4, b5, b8⟩ := hB
  obtain ⟨c7, c6, cc, c9, c0, c1, c2, c4, c5, c8⟩ := hB'
  have e := h
  obtain ⟨h7, h8, h9, h0, h1, h2, h3, h5, h6⟩ := h
  refine ⟨by rw [b7, c7, h7], by rw [b8, c8, h8], by rw [b9, c9, h9], fun z a b => by rw [b0, c0]; exact h0 z a b, fun z a b => by rw [b1, c1]; exact h1 z a b, fun z a b => by rw [b2, c2]; exact h2 z a b, fun z a b => ?_, fun z a b => by rw [b5, c5]; exact h5 z a b, fun z a b => ?_⟩
  · have g := eqR10 hr hq e a b
    by_cases y : i < r 10 z ∧ r 10 z < j
    · rw [(bc z a b).1 y, (cc z a b).1 (by rw [← g]; exact y), h8]
    · rw [(bc z a b).2 y, (cc z a b).2 (by rw [← g]; exact y)]; exact h3 z a b
  · rw [b7] at b
    rw [b6 z a b, c6 z a (by rw [← h7]; exact b)]
    by_cases y : z ≤ i
    · rw [brkC_lo y, brkC_lo y]; exact h6 z a (by omega)
    · rw [brkC_hi (by omega), brkC_hi (by omega)]; exact h6 _ (by omega) (by omega)
theorem eqPl {r q : mf_V} (hr : RInv r) (hq : RInv q) (h : eqR r q) (c : Int) : placeOfF r c = placeOfF q c := by
  unfold placeOfF
  by_cases z : 0 ≤ c ∧ c < 384
  · rw [mf_if_t z, mf_if_t z]; exact eqR10 hr hq h z.1 z.2
  · rw [mf_if_f z, mf_if_f z]
theorem eqFarG {r q : mf_V} (hr : RInv r) (hq : RInv q) (h : eqR r q) (i : Int) : ∀ n : Nat, farG r i n = farG q i n := by
  intro n
  induction n with
  | zero => rfl
  | succ n ih => rw [show ((n + 1 : Nat) : Int) = (n : Int) + 1 from rfl, farG_s r i (by omega), farG_s q i (by omega), ih, eqCA h, eqPl hr hq h]
theorem eqFar {r q : mf_V} (hr : RInv r) (hq : RInv q) (h : eqR r q) (i : Int) : farF r i = farF q i := eqFarG hr hq h i 4
theorem eqWidG {r q : mf_V} (hr : RInv r) (hq : RInv q) (h : eqR r q) : ∀ n : Nat, widG r n = widG q n := by
  intro n
  induction n with
  | zero => rfl
  | succ n ih => rw [show ((n + 1 : Nat) : Int) = (n : Int) + 1 from rfl, widG_s r (by omega), widG_s q (by omega), ih, eqFar hr hq h]
theorem eqWid {r q : mf_V} (hr : RInv r) (hq : RInv q) (h : eqR r q) : widF r = widF q := by
  have hL : 0 ≤ r 7 0 := by have := hr.1.1; omega
  unfold widF
  rw [← h.1]
  obtain ⟨n, hn⟩ := Int.eq_ofNat_of_zero_le hL
  rw [hn, eqWidG hr hq h n]
theorem eqFlood : ∀ (n k : Nat) {r q r' q' : mf_V}, RInv r → RInv q → eqR r q → FloodN n r r' → FloodN k q q' → eqR r' q'
  | 0, 0, r, q, r', q', hr, hq, h, hf, hg => by
    obtain ⟨-, rfl⟩ := hf
    obtain ⟨-, rfl⟩ := hg
    exact h
  | 0, k + 1, r, q, r', q', hr, hq, h, hf, hg => absurd (by rw [← eqWid hr hq h]; exact hf.1) hg.1
  | n + 1, 0, r, q, r', q', hr, hq, h, hf, hg => absurd (by rw [eqWid hr hq h]; exact hg.1) hf.1
  | n + 1, k + 1, r, q, r', q', hr, hq, h, hf, hg => by
    obtain ⟨hw, r1, hb, -, hI1, hf⟩ := hf
    obtain ⟨-, q1, hb', -, hJ1, hg⟩ := hg
    have e := widF_neck hr hw
    have w := neckP_w e.2
    rw [← eqWid hr hq h, ← eqFar hr hq h] at hb'
    exact eqFlood n k hI1 hJ1 (eqBrk hr hq h w.1 w.2.2.1 w.2.1 hb hb') hf hg
theorem eqYear {r q r' q' : mf_V} {b b' : Int} (hr : RInv r) (hq : RInv q) (h : eqR r q) (ok : rOK rlo rhi r) (hY : YearR r r' b) (hY' : YearR q q' b') : eqR r' q' ∧ b = b' := by
  obtain ⟨r1, r2, r3, h1f, h1w, ok1, hI1, hrip, ok2, hI2, hfl, ok3, hI3, hqf, hq8⟩ := hY
  obtain ⟨q1, q2, q3, g1f, g1w, ok1', hJ1, grip, ok2', hJ2, gfl, ok3', hJ3, gqf, gq8⟩ := hY'
  have e := h
  obtain ⟨h7, h8, h9, h0, h1, h2, h3, h5, h6⟩ := h
  have b8 : (0 : Int) ≤ r 8 0 ∧ r 8 0 ≤ 90000 := ok 8 0
  have hL : 0 ≤ r 7 0 := by have := hr.1.1; omega
  have hf : r 5 (r 8 0 % 12) = q 5 (q 8 0 % 12) := by rw [h5 _ (by omega) (by omega), h8]
  have e1 : eqR r1 q1 := by
    refine ⟨by rw [h1f 7 (by decide), g1f 7 (by decide)]; exact h7, by rw [h1f 8 (by decide), g1f 8 (by decide)]; exact h8, by rw [h1f 9 (by decide), g1f 9 (by decide)]; exact h9, by rw [h1f 0 (by decide), g1f 0 (by decide)]; exact h0, fun c a b => ?_, by rw [h1f 2 (by decide), g1f 2 (by decide)]; exact h2, by rw [h1f 3 (by decide), g1f 3 (by decide)]; exact h3, by rw [h1f 5 (by decide), g1f 5 (by decide)]; exact h5, by rw [h1f 7 (by decide), h1f 6 (by decide), g1f 6 (by decide)]; exact h6⟩
    rw [h1w, g1w, wearG_mI r _ c hL, wearG_mI q _ c (by rw [← h7]; exact hL), ← hf, ← h7, h1 c a b]
    rw [msum_cg hL (g := fun i => bP (openP q (q 13 i) ∧ q 13 i = c)) (fun z z0 z1 => by
      show bP (openP r (r 13 z) ∧ r 13 z = c) = bP (openP q (q 13 z) ∧ q 13 z = c)
      rw [eqR13 hr hq e z0 z1]
      exact bP_cg ⟨fun y => ⟨(eqOp hr hq e _).mp y.1, y.2⟩, fun y => ⟨(eqOp hr hq e _).mpr y.1, y.2⟩⟩)]
  have er := eqRip hI1 hJ1 e1
  have e2 : eqR r2 q2 ∧ b = b' := by
    rcases hrip with ⟨x1, x2, x3⟩ | ⟨x1, x2, x3⟩ <;> rcases grip with ⟨y1, y2, y3⟩ | ⟨y1, y2, y3⟩
    · rw [x2, y2, x3, y3]; exact ⟨e1, rfl⟩
    · exact absurd (by rw [← er]; exact x1) y1
    · exact absurd (by rw [er]; exact y1) x1
    · have c := ripF_cnd hI1 x1
      have w := canB_w (ok1 7 0).2 c.2.2.2
      rw [← er, ← eqR12 hI1 hJ1 e1 c.1.1 c.1.2] at y2
      rw [x3, y3]
      exact ⟨eqBul e1 w.1.1 w.1.2.1 x2 y2, rfl⟩
  have e3 : eqR r3 q3 := by
    rcases hfl with ⟨x1, n, x2⟩ | ⟨x1, x2⟩ <;> rcases gfl with ⟨y1, k, y2⟩ | ⟨y1, y2⟩
    · exact eqFlood n k hI2 hJ2 e2.1 x2 y2
    · omega
    · omega
    · rw [x2, y2]; exact e2.1
  obtain ⟨k7, k8, k9, k0, k1, k2, k3, k5, k6⟩ := e3
  exact ⟨⟨by rw [hqf 7 (by decide), gqf 7 (by decide)]; exact k7, by rw [hq8, gq8, h8], by rw [hqf 9 (by decide), gqf 9 (by decide)]; exact k9, by rw [hqf 0 (by decide), gqf 0 (by decide)]; exact k0, by rw [hqf 1 (by decide), gqf 1 (by decide)]; exact k1, by rw [hqf 2 (by decide), gqf 2 (by decide)]; exact k2, by rw [hqf 3 (by decide), gqf 3 (by decide)]; exact k3, by rw [hqf 5 (by decide), gqf 5 (by decide)]; exact k5, by rw [hqf 7 (by decide), hqf 6 (by decide), gqf 6 (by decide)]; exact k6⟩, e2.2⟩
theorem eqR_C (r : mf_V) : eqR (rC r) r := ⟨rfl, rfl, rfl, fun _ _ _ => rfl, fun _ _ _ => rfl, fun _ _ _ => rfl, fun _ _ _ => rfl, fun _ _ _ => rfl, fun _ _ _ => rfl⟩
theorem YearR_I {r q : mf_V} {b : Int} (h : YearR r q b) : RInv q := by
  obtain ⟨r1, r2, r3, -, -, -, -, -, -, -, -, -, hI3, hqf, -⟩ := h
  exact RInv_cg (hqf 6 (by decide)) (hqf 7 (by decide)) (hqf 10 (by decide)) (hqf 11 (by decide)) (hqf 12 (by decide)) (hqf 13 (by decide)) hI3
theorem eqCnt {r q : mf_V} (hr : RInv r) (hq : RInv q) (h : eqR r q) (w c : Int) : cntP r w c ↔ cntP q w c := by
  unfold cntP
  by_cases z : 0 ≤ c ∧ c < 384
  · have e : lyl r c = lyl q c := by rw [lyl_in z.1 z.2, lyl_in z.1 z.2, h.2.2.2.2.2.2.1 c z.1 z.2, h.2.1]
    rw [e, eqR10 hr hq h z.1 z.2, h.2.2.2.2.2.1 c z.1 z.2]
  · exact ⟨fun y => absurd y.1 z, fun y => absurd y.1 z⟩
theorem eqCof {r q : mf_V} (hr : RInv r) (hq : RInv q) (h : eqR r q) (f : mf_V) (k w : Int) : cof f r k w = cof f q k w := by
  unfold cof
  have e : (fun j => msum (fun i => bP (cntP r w (cellNo (f 0 k + i) (f 1 k + j)))) (f 2 k)) = fun j => msum (fun i => bP (cntP q w (cellNo (f 0 k + i) (f 1 k + j)))) (f 2 k) := funext fun j => congrArg (fun g => msum g (f 2 k)) (funext fun i => bP_cg (eqCnt hr hq h w _))
  rw [e]
