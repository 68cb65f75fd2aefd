/-! 15.bulge: cells beside each other; a bulge -/
theorem nbr0 {x : Int} (h0 : 0 ≤ x) (h1 : x < 384) : (24 ≤ x ∧ nbr x 0 = x - 24) ∨ (x < 24 ∧ nbr x 0 = -1) := by
  unfold nbr; rw [if_neg (by omega), if_neg (by omega), if_pos rfl]; split <;> omega
theorem nbr1 {x : Int} (h0 : 0 ≤ x) (h1 : x < 384) : (x % 24 < 23 ∧ nbr x 1 = x + 1) ∨ (x % 24 = 23 ∧ nbr x 1 = -1) := by
  unfold nbr; rw [if_neg (by omega), if_neg (by omega), if_neg (by decide), if_pos rfl]; split <;> omega
theorem nbr2 {x : Int} (h0 : 0 ≤ x) (h1 : x < 384) : (x < 360 ∧ nbr x 2 = x + 24) ∨ (360 ≤ x ∧ nbr x 2 = -1) := by
  unfold nbr; rw [if_neg (by omega), if_neg (by omega), if_neg (by decide), if_neg (by decide), if_pos rfl]; split <;> omega
theorem nbr3 {x : Int} (h0 : 0 ≤ x) (h1 : x < 384) : (0 < x % 24 ∧ nbr x 3 = x - 1) ∨ (x % 24 = 0 ∧ nbr x 3 = -1) := by
  unfold nbr; rw [if_neg (by omega), if_neg (by omega), if_neg (by decide), if_neg (by decide), if_neg (by decide), if_pos rfl]; split <;> omega
theorem nbr_m1 (d : Int) : nbr (-1) d = -1 := by unfold nbr; rw [if_pos (by decide)]
theorem nbr_in {x d : Int} (h : ¬ nbr x d = -1) : 0 ≤ x ∧ x < 384 ∧ 0 ≤ d ∧ d < 4 := by
  refine Classical.byContradiction fun q => h ?_
  unfold nbr
  repeat' split
  all_goals omega
theorem d4 {d : Int} (h0 : 0 ≤ d) (h1 : d < 4) : d = 0 ∨ d = 1 ∨ d = 2 ∨ d = 3 := by omega
theorem dirTo_nbr {x y : Int} (h : ¬ dirTo x y = -1) : 0 ≤ dirTo x y ∧ dirTo x y < 4 ∧ nbr x (dirTo x y) = y ∧ ¬ y = -1 := by
  by_cases q0 : nbr x 0 ≠ -1 ∧ nbr x 0 = y
  · have e : dirTo x y = 0 := by unfold dirTo; rw [if_pos q0]
    rw [e]; exact ⟨by decide, by decide, q0.2, by rw [← q0.2]; exact q0.1⟩
  by_cases q1 : nbr x 1 ≠ -1 ∧ nbr x 1 = y
  · have e : dirTo x y = 1 := by unfold dirTo; rw [if_neg q0, if_pos q1]
    rw [e]; exact ⟨by decide, by decide, q1.2, by rw [← q1.2]; exact q1.1⟩
  by_cases q2 : nbr x 2 ≠ -1 ∧ nbr x 2 = y
  · have e : dirTo x y = 2 := by unfold dirTo; rw [if_neg q0, if_neg q1, if_pos q2]
    rw [e]; exact ⟨by decide, by decide, q2.2, by rw [← q2.2]; exact q2.1⟩
  by_cases q3 : nbr x 3 ≠ -1 ∧ nbr x 3 = y
  · have e : dirTo x y = 3 := by unfold dirTo; rw [if_neg q0, if_neg q1, if_neg q2, if_pos q3]
    rw [e]; exact ⟨by decide, by decide, q3.2, by rw [← q3.2]; exact q3.1⟩
  exact absurd (by unfold dirTo; rw [if_neg q0, if_neg q1, if_neg q2, if_neg q3]) h
theorem dirTo_of {x y d : Int} (h : nbr x d = y) (hy : ¬ y = -1) : dirTo x y = d := by
  have hx : ¬ nbr x d = -1 := by rw [h]; exact hy
  obtain ⟨h0, h1, h2, h3⟩ := nbr_in hx
  have n0 := nbr0 h0 h1
  have n1 := nbr1 h0 h1
  have n2 := nbr2 h0 h1
  have n3 := nbr3 h0 h1
  rcases d4 h2 h3 with rfl | rfl | rfl | rfl
  all_goals
    unfold dirTo
    repeat' split
    all_goals omega
theorem nbr_comm {x d t : Int} (h1 : ¬ nbr x d = -1) (h2 : ¬ nbr x t = -1) (h3 : ¬ nbr (nbr x d) t = -1) : nbr (nbr x t) d = nbr (nbr x d) t := by
  obtain ⟨x0, x1, d0, d1⟩ := nbr_in h1
  obtain ⟨-, -, t0, t1⟩ := nbr_in h2
  obtain ⟨y0, y1, -, -⟩ := nbr_in h3
  have z0 : 0 ≤ nbr x t := by have := nbr_b x t; omega
  have z1 : nbr x t < 384 := by have := nbr_b x t; omega
  have a0 := nbr0 x0 x1
  have a1 := nbr1 x0 x1
  have a2 := nbr2 x0 x1
  have a3 := nbr3 x0 x1
  have b0 := nbr0 y0 y1
  have b1 := nbr1 y0 y1
  have b2 := nbr2 y0 y1
  have b3 := nbr3 y0 y1
  have c0 := nbr0 z0 z1
  have c1 := nbr1 z0 z1
  have c2 := nbr2 z0 z1
  have c3 := nbr3 z0 z1
  rcases d4 d0 d1 with rfl | rfl | rfl | rfl <;> rcases d4 t0 t1 with rfl | rfl | rfl | rfl <;> omega
theorem nbr_opp {x t : Int} (h : ¬ nbr x t = -1) : ∃ d, nbr (nbr x t) d = x := by
  obtain ⟨x0, x1, t0, t1⟩ := nbr_in h
  have z0 : 0 ≤ nbr x t := by have := nbr_b x t; omega
  have z1 : nbr x t < 384 := by have := nbr_b x t; omega
  have a0 := nbr0 x0 x1
  have a1 := nbr1 x0 x1
  have a2 := nbr2 x0 x1
  have a3 := nbr3 x0 x1
  have c0 := nbr0 z0 z1
  have c1 := nbr1 z0 z1
  have c2 := nbr2 z0 z1
  have c3 := nbr3 z0 z1
  rcases d4 t0 t1 with rfl | rfl | rfl | rfl
  · exact ⟨2, by omega⟩
  · exact ⟨3, by omega⟩
  · exact ⟨0, by omega⟩
  · exact ⟨1, by omega⟩
theorem nbr_inj {x y t : Int} (h : ¬ nbr x t = -1) (e : nbr x t = nbr y t) : x = y := by
  have h' : ¬ nbr y t = -1 := by rw [← e]; exact h
  obtain ⟨x0, x1, t0, t1⟩ := nbr_in h
  obtain ⟨y0, y1, -, -⟩ := nbr_in h'
  have a0 := nbr0 x0 x1
  have a1 := nbr1 x0 x1
  have a2 := nbr2 x0 x1
  have a3 := nbr3 x0 x1
  have b0 := nbr0 y0 y1
  have b1 := nbr1 y0 y1
  have b2 := nbr2 y0 y1
  have b3 := nbr3 y0 y1
  rcases d4 t0 t1 with rfl | rfl | rfl | rfl <;> omega
/-- two cells are beside each other -/
theorem adj_of {x y d : Int} (h : nbr x d = y) (hy : ¬ y = -1) : ¬ dirTo x y = -1 := by
  rw [dirTo_of h hy]
  obtain ⟨-, -, h0, -⟩ := nbr_in (show ¬ nbr x d = -1 by rw [h]; exact hy)
  omega
theorem adj_sym {x y : Int} (h : ¬ dirTo x y = -1) : ¬ dirTo y x = -1 := by
  obtain ⟨h0, h1, h2, h3⟩ := dirTo_nbr h
  obtain ⟨d, hd⟩ := nbr_opp (show ¬ nbr x (dirTo x y) = -1 by rw [h2]; exact h3)
  rw [h2] at hd
  refine adj_of hd ?_
  obtain ⟨g0, -, -, -⟩ := nbr_in (show ¬ nbr x (dirTo x y) = -1 by rw [h2]; exact h3)
  omega
/-- the course behind a bulge at the cell i to the side t -/
def bulC (r : mf_V) (i t j : Int) : Int := if j < i then r 6 j else if j = i then nbr (r 6 (i - 1)) t else if j = i + 1 then nbr (r 6 i) t else if j = i + 2 then nbr (r 6 (i + 1)) t else r 6 (j - 2)
theorem bulC_lo {r : mf_V} {i t j : Int} (h : j < i) : bulC r i t j = r 6 j := by unfold bulC; rw [if_pos h]
theorem bulC_hi {r : mf_V} {i t j : Int} (h : i + 2 < j) : bulC r i t j = r 6 (j - 2) := by unfold bulC; rw [if_neg (by omega), if_neg (by omega), if_neg (by omega), if_neg (by omega)]
theorem bulC_new {r : mf_V} {i t j : Int} (h : i ≤ j ∧ j ≤ i + 2) : bulC r i t j = nbr (r 6 (j - 1)) t := by
  rcases (show j = i ∨ j = i + 1 ∨ j = i + 2 by omega) with z | z | z
  · subst z; unfold bulC; rw [if_neg (by omega), if_pos rfl]
  · subst z; unfold bulC; rw [if_neg (by omega), if_neg (by omega), if_pos rfl]; congr 2; omega
  · subst z; unfold bulC; rw [if_neg (by omega), if_neg (by omega), if_neg (by omega), if_pos rfl]; congr 2; omega
def hitB (r : mf_V) (i t c : Int) : Prop := c = nbr (r 6 (i - 1)) t ∨ c = nbr (r 6 i) t ∨ c = nbr (r 6 (i + 1)) t
/-- what a bulge does -/
def Bul (r : mf_V) (i t : Int) (r' : mf_V) : Prop := r' 7 0 = r 7 0 + 2 ∧ (∀ j, 0 ≤ j → j < r 7 0 + 2 → r' 6 j = bulC r i t j) ∧ (∀ c, (hitB r i t c → r' 1 c = 0 ∧ r' 3 c = 0 ∧ r' 4 c = 1) ∧ (¬ hitB r i t c → r' 1 c = r 1 c ∧ r' 3 c = r 3 c ∧ r' 4 c = r 4 c)) ∧ r' 0 = r 0 ∧ r' 2 = r 2 ∧ r' 5 = r 5 ∧ r' 8 = r 8 ∧ r' 9 = r 9
/-- what canB says, in plain words -/
theorem canB_w {r : mf_V} {i t : Int} (hL : r 7 0 ≤ 150) (h : canB r i t) : (0 < i ∧ i < r 7 0 - 1 ∧ r 11 (i - 1) = r 11 i) ∧ r 7 0 + 2 ≤ 150 ∧ (0 ≤ t ∧ t < 4) ∧ ∀ k, i - 1 ≤ k → k ≤ i + 1 → 0 ≤ nbr (r 6 k) t ∧ nbr (r 6 k) t < 384 ∧ r 10 (nbr (r 6 k) t) = -1 ∧ r 2 (nbr (r 6 k) t) = 0 := by
  unfold canB strP openP at h
  obtain ⟨h1, h2, h3, h4, -, h5, h6, h7⟩ := h
  rw [cellAtF_in (by omega) (by omega)] at h5 h6 h7
  refine ⟨h1, h2, ⟨h3, h4⟩, fun k a b => ?_⟩
  rcases (show k = i - 1 ∨ k = i ∨ k = i + 1 by omega) with z | z | z <;> subst z
  · exact h5
  · exact h6
  · exact h7
/-- a cell that is open is in no place of the course -/
theorem open_out {r : mf_V} (hp : plOK r) {c : Int} (h : r 10 c = -1) {k : Int} (h0 : 0 ≤ k) (h1 : k < r 7 0) : ¬ r 6 k = c := fun q => by
  have g := hp.1 k h0 h1
  rw [q, h] at g
  omega
theorem bulCrs {r : mf_V} {i t : Int} (ok : rOK rlo rhi r) (hI : RInv r) (hcan : canB r i t) {q : mf_V} (h7 : q 7 0 = r 7 0 + 2) (h6 : ∀ j, 0 ≤ j → j < r 7 0 + 2 → q 6 j = bulC r i t j) : crsOK q := by
  have hL : (0 : Int) ≤ r 7 0 ∧ r 7 0 ≤ 150 := ok 7 0
  obtain ⟨⟨i0, i1, i2⟩, hl, ⟨t0, t1⟩, hop⟩ := canB_w hL.2 hcan
  obtain ⟨⟨hc1, hc2, hc3⟩, hd, hp, -⟩ := hI
  have dd : ∀ k, 0 ≤ k → k < r 7 0 - 1 → nbr (r 6 k) (dirTo (r 6 k) (r 6 (k + 1))) = r 6 (k + 1) := fun k a b => (dirTo_nbr (hc2 k a b)).2.2.1
  have e1 : r 11 (i - 1) = dirTo (r 6 (i - 1)) (r 6 i) := by rw [hd (i - 1) (by omega) (by omega), cellAtF_in (by omega) (by omega)]; congr 2; omega
  have e2 : r 11 i = dirTo (r 6 i) (r 6 (i + 1)) := by rw [hd i (by omega) (by omega), cellAtF_in (by omega) (by omega)]
  have cb : ∀ k : Int, (0 : Int) ≤ r 6 k ∧ r 6 k ≤ 383 := fun k => ok 6 k
  have side : ∀ k, i - 1 ≤ k → k ≤ i → ¬ dirTo (nbr (r 6 k) t) (nbr (r 6 (k + 1)) t) = -1 := by
    intro k a b
    have g := dd k (by omega) (by omega)
    have o1 := hop k (by omega) (by omega)
    have o2 := hop (k + 1) (by omega) (by omega)
    have c1 := cb (k + 1)
    refine adj_of (d := dirTo (r 6 k) (r 6 (k + 1))) ?_ (by omega)
    rw [nbr_comm (by rw [g]; omega) (by omega) (by rw [g]; omega), g]
  refine ⟨by omega, fun j a b => ?_, fun j k a b a' b' e => ?_⟩
  · rw [h6 j a (by omega), h6 (j + 1) (by omega) (by omega)]
    rcases (show j + 1 < i ∨ j + 1 = i ∨ (i ≤ j ∧ j ≤ i + 1) ∨ j = i + 2 ∨ i + 2 < j by omega) with z | z | z | z | z
    · rw [bulC_lo (by omega), bulC_lo z]; exact hc2 j a (by omega)
    · rw [bulC_lo (by omega), bulC_new (by omega)]
      have o1 := hop j (by omega) (by omega)
      rw [show j + 1 - 1 = j by omega]
      exact adj_of rfl (by omega)
    · rw [bulC_new (by omega), bulC_new (by omega)]
      have g := side (j - 1) (by omega) (by omega)
      rw [show j - 1 + 1 = j by omega] at g
      rw [show j + 1 - 1 = j by omega]
      exact g
    · rw [bulC_new (by omega), bulC_hi (by omega), show j + 1 - 2 = j - 1 by omega]
      have o1 := hop (j - 1) (by omega) (by omega)
      exact adj_sym (adj_of rfl (by omega))
    · rw [bulC_hi z, bulC_hi (by omega), show j + 1 - 2 = (j - 2) + 1 by omega]
      exact hc2 (j - 2) (by omega) (by omega)
  · rw [h6 j a (by omega), h6 k a' (by omega)] at e
    rcases (show j < i ∨ (i ≤ j ∧ j ≤ i + 2) ∨ i + 2 < j by omega) with z | z | z <;> rcases (show k < i ∨ (i ≤ k ∧ k ≤ i + 2) ∨ i + 2 < k by omega) with y | y | y
    · rw [bulC_lo z, bulC_lo y] at e; exact hc3 j k a (by omega) a' (by omega) e
    · rw [bulC_lo z, bulC_new y] at e; exact absurd e (open_out hp (hop (k - 1) (by omega) (by omega)).2.2.1 a (by omega))
    · rw [bulC_lo z, bulC_hi y] at e; have := hc3 j (k - 2) a (by omega) (by omega) (by omega) e; omega
    · rw [bulC_new z, bulC_lo y] at e; exact absurd e.symm (open_out hp (hop (j - 1) (by omega) (by omega)).2.2.1 a' (by omega))
    · rw [bulC_new z, bulC_new y] at e
      have o1 := hop (j - 1) (by omega) (by omega)
      have g := nbr_inj (show ¬ nbr (r 6 (j - 1)) t = -1 by omega) e
      have := hc3 (j - 1) (k - 1) (by omega) (by omega) (by omega) (by omega) g
      omega
    · rw [bulC_new z, bulC_hi y] at e; exact absurd e.symm (open_out hp (hop (j - 1) (by omega) (by omega)).2.2.1 (by omega) (by omega))
    · rw [bulC_hi z, bulC_lo y] at e; have := hc3 (j - 2) k (by omega) (by omega) a' (by omega) e; omega
    · rw [bulC_hi z, bulC_new y] at e; exact absurd e (open_out hp (hop (k - 1) (by omega) (by omega)).2.2.1 (by omega) (by omega))
    · rw [bulC_hi z, bulC_hi y] at e; have := hc3 (j - 2) (k - 2) (by omega) (by omega) (by omega) (by omega) e; omega
/-- what followCourse needs behind a bulge -/
theorem bulPre {r : mf_V} {i t : Int} (ok : rOK rlo rhi r) (hI : RInv r) (hcan : canB r i t) {q : mf_V} (h7 : q 7 0 = r 7 0 + 2) (h6 : ∀ j, 0 ≤ j → j < r 7 0 + 2 → q 6 j = bulC r i t j) (h10 : q 10 = mf_up (r 10) (r 6 i) (-1)) (h11 : q 11 = r 11) :
    (∀ k, 0 ≤ k → k < i → q 10 (q 6 k) = k) ∧ (∀ c, 0 ≤ c → c < 384 → q 10 c = -1 ∨ ∃ k, 0 ≤ k ∧ k < q 7 0 ∧ q 6 k = c) ∧ (∀ k, 0 ≤ k → k < i - 1 → q 11 k = dirTo (q 6 k) (q 6 (k + 1))) := by
  have hL : (0 : Int) ≤ r 7 0 ∧ r 7 0 ≤ 150 := ok 7 0
  obtain ⟨⟨i0, i1, i2⟩, hl, ⟨t0, t1⟩, hop⟩ := canB_w hL.2 hcan
  obtain ⟨⟨hc1, hc2, hc3⟩, hd, hp, -⟩ := hI
  refine ⟨fun k a b => ?_, fun cv a b => ?_, fun k a b => ?_⟩
  · rw [h6 k a (by omega), bulC_lo b, h10, mf_up_n (fun z => by have := hc3 k i a (by omega) (by omega) (by omega) z; omega)]
    exact hp.1 k a (by omega)
  · rw [h10]
    by_cases z : cv = r 6 i
    · rw [z, mf_up_s]; exact Or.inl rfl
    · rw [mf_up_n z]
      rcases hp.2 cv a b with y | ⟨y1, y2, y3⟩
      · exact Or.inl y
      · refine Or.inr ?_
        rcases (show r 10 cv < i ∨ r 10 cv = i ∨ i < r 10 cv by omega) with x | x | x
        · exact ⟨r 10 cv, y1, by omega, by rw [h6 _ y1 (by omega), bulC_lo x]; exact y3⟩
        · rw [x] at y3; exact absurd y3.symm z
        · exact ⟨r 10 cv + 2, by omega, by omega, by rw [h6 _ (by omega) (by omega), bulC_hi (by omega), show r 10 cv + 2 - 2 = r 10 cv by omega]; exact y3⟩
  · rw [h11, h6 k a (by omega), h6 (k + 1) (by omega) (by omega), bulC_lo (by omega), bulC_lo (by omega), hd k a (by omega), cellAtF_in (by omega) (by omega)]
/-- the course as the rows of the method leave it -/
theorem bulC_eq {r : mf_V} {i t : Int} (i0 : 0 < i) {j : Int} (h0 : 0 ≤ j) (h1 : j < r 7 0 + 2) : mf_up (mf_up (mf_up (mf_cpy (r 6) (r 6) (i + 1) (i + 3) (r 7 0 - i - 1)) i (nbr (r 6 (i - 1)) t)) (i + 1) (nbr (r 6 i) t)) (i + 2) (nbr (r 6 (i + 1)) t) j = bulC r i t j := by
  unfold mf_up mf_cpy bulC
  by_cases z2 : j = i + 2
  · rw [if_pos z2, if_neg (by omega), if_neg (by omega), if_neg (by omega), if_pos z2]
  by_cases z1 : j = i + 1
  · rw [if_neg z2, if_pos z1, if_neg (by omega), if_neg (by omega), if_pos z1]
  by_cases z0 : j = i
  · rw [if_neg z2, if_neg z1, if_pos z0, if_neg (by omega), if_pos z0]
  rw [if_neg z2, if_neg z1, if_neg z0]
  by_cases zl : j < i
  · rw [if_neg (by omega), if_pos zl]
  · rw [if_pos ⟨by omega, by omega⟩, if_neg zl, if_neg z0, if_neg z1, if_neg z2]; congr 1; omega
theorem up3_hit {f : Int → Int} {a b d v c : Int} (h : c = a ∨ c = b ∨ c = d) : mf_up (mf_up (mf_up f a v) b v) d v c = v := by
  unfold mf_up
  rcases h with h | h | h
  · subst h; by_cases z : c = d
    · rw [if_pos z]
    · rw [if_neg z]; by_cases y : c = b
      · rw [if_pos y]
      · rw [if_neg y, if_pos rfl]
  · subst h; by_cases z : c = d
    · rw [if_pos z]
    · rw [if_neg z, if_pos rfl]
  · rw [if_pos h]
theorem up3_out {f : Int → Int} {a b d v c : Int} (h : ¬ (c = a ∨ c = b ∨ c = d)) : mf_up (mf_up (mf_up f a v) b v) d v c = f c := by
  unfold mf_up
  rw [if_neg (fun z => h (Or.inr (Or.inr z))), if_neg (fun z => h (Or.inr (Or.inl z))), if_neg (fun z => h (Or.inl z))]
