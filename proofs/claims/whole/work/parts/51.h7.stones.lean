/-! 53.advise: stones on a cell that no bulge takes change no land -/
/-- stones on a cell, and its wear -/
def stW (r : mf_V) (c w : Int) : mf_V := mf_sF (mf_sF r 2 (mf_up (r 2) c 1)) 1 (mf_up (r 1) c w)
theorem stW_1 (r : mf_V) (c w : Int) : stW r c w 1 = mf_up (r 1) c w := mf_sF_s
theorem stW_2 (r : mf_V) (c w : Int) : stW r c w 2 = mf_up (r 2) c 1 := by unfold stW; rw [mf_sF_n (by decide), mf_sF_s]
theorem stW_n {r : mf_V} {c w : Int} {k : Nat} (h1 : k ≠ 1) (h2 : k ≠ 2) : stW r c w k = r k := by unfold stW; rw [mf_sF_n h1, mf_sF_n h2]
theorem mf_up_id (f : Int → Int) (c : Int) : mf_up f c (f c) = f := by
  funext y
  by_cases q : y = c
  · rw [q, mf_up_s]
  · rw [mf_up_n q]
theorem mf_up_up (f : Int → Int) (c v w : Int) : mf_up (mf_up f c v) c w = mf_up f c w := by
  funext y
  by_cases q : y = c
  · rw [q, mf_up_s, mf_up_s]
  · rw [mf_up_n q, mf_up_n q, mf_up_n q]
theorem mf_up_cm (f : Int → Int) {a c : Int} (v w : Int) (h : a ≠ c) : mf_up (mf_up f a v) c w = mf_up (mf_up f c w) a v := by
  funext y
  by_cases q : y = c
  · rw [q, mf_up_s, mf_up_n (fun z => h z.symm), mf_up_s]
  · rw [mf_up_n q]
    by_cases q2 : y = a
    · rw [q2, mf_up_s, mf_up_s]
    · rw [mf_up_n q2, mf_up_n q2, mf_up_n q]
theorem stW_r (r : mf_V) (c : Int) : stW r c (r 1 c) = stR r c := by
  funext k
  by_cases q : k = 1
  · rw [q, stW_1, mf_up_id]; exact (mf_sF_n (by decide)).symm
  · unfold stW; rw [mf_sF_n q]; rfl
theorem stW_ok {r : mf_V} (ok : rOK rlo rhi r) (c : Int) {w : Int} (h0 : 0 ≤ w) (h1 : w ≤ 200000000) : rOK rlo rhi (stW r c w) := by
  have a := rOK_up ok 2 c 1 (show (0 : Int) ≤ 1 by decide) (show (1 : Int) ≤ 1 by decide)
  have b := rOK_up a 1 c w (show (0 : Int) ≤ w from h0) (show w ≤ (200000000 : Int) from h1)
  rw [show mf_sF r 2 (mf_up (r 2) c 1) 1 = r 1 from mf_sF_n (by decide)] at b
  exact b
theorem stW_I {r : mf_V} (hI : RInv r) (c w : Int) : RInv (stW r c w) := RInv_cg (stW_n (by decide) (by decide)) (stW_n (by decide) (by decide)) (stW_n (by decide) (by decide)) (stW_n (by decide) (by decide)) (stW_n (by decide) (by decide)) (stW_n (by decide) (by decide)) hI
theorem open_st (r : mf_V) (c w x : Int) : openP (stW r c w) x ↔ openP r x ∧ x ≠ c := by
  unfold openP
  rw [stW_n (by decide) (by decide), stW_2]
  by_cases q : x = c
  · rw [q, mf_up_s]
    exact ⟨fun h => by omega, fun h => absurd rfl h.2⟩
  · rw [mf_up_n q]
    exact ⟨fun h => ⟨h, q⟩, fun h => h.1⟩
theorem wear_st (r : mf_V) (c w f : Int) : ∀ n : Nat, wearG (stW r c w) f n = mf_up (wearG r f n) c w := by
  intro n
  induction n with
  | zero => exact stW_1 r c w
  | succ n ih =>
    have e13 : stW r c w 13 = r 13 := stW_n (by decide) (by decide)
    rw [show ((n + 1 : Nat) : Int) = (n : Int) + 1 by omega]
    by_cases q : openP r (r 13 n)
    · by_cases q2 : r 13 n = c
      · rw [wearG_f _ f (by omega) (by rw [e13, open_st]; exact fun z => z.2 q2), wearG_t r f (by omega) q, ih, q2, mf_up_up]
      · rw [wearG_t _ f (by omega) (by rw [e13, open_st]; exact ⟨q, q2⟩), wearG_t r f (by omega) q, ih, e13, mf_up_n q2, mf_up_cm _ _ _ q2]
    · rw [wearG_f _ f (by omega) (by rw [e13, open_st]; exact fun z => q z.1), wearG_f r f (by omega) q, ih]
/-- whether a bulge would take the cell c -/
def hitA (r : mf_V) (i t c : Int) : Prop := nbr (cellAtF r (i - 1)) t = c ∨ nbr (cellAtF r i) t = c ∨ nbr (cellAtF r (i + 1)) t = c
theorem canB_st (r : mf_V) (c w i t : Int) : canB (stW r c w) i t ↔ canB r i t ∧ ¬ hitA r i t c := by
  have e7 : stW r c w 7 = r 7 := stW_n (by decide) (by decide)
  have e11 : stW r c w 11 = r 11 := stW_n (by decide) (by decide)
  have ec : ∀ j, cellAtF (stW r c w) j = cellAtF r j := cellAtF_cg (stW_n (by decide) (by decide)) e7
  unfold canB strP hitA
  rw [e7, e11, ec, ec, ec, open_st, open_st, open_st]
  constructor
  · rintro ⟨a, b, c1, d, e, ⟨f1, f2⟩, ⟨g1, g2⟩, h1, h2⟩
    exact ⟨⟨a, b, c1, d, e, f1, g1, h1⟩, fun z => by rcases z with z | z | z; exact f2 z; exact g2 z; exact h2 z⟩
  · rintro ⟨⟨a, b, c1, d, e, f1, g1, h1⟩, z⟩
    exact ⟨a, b, c1, d, e, ⟨f1, fun y => z (Or.inl y)⟩, ⟨g1, fun y => z (Or.inr (Or.inl y))⟩, h1, fun y => z (Or.inr (Or.inr y))⟩
theorem bank_hit {r : mf_V} (hI : RInv r) {i c : Int} (h : canB r i (r 12 i)) (hn : ¬ hitA r i (r 12 i) c) : r 13 i ≠ c := fun z => by
  unfold canB strP at h
  have g := (hI.2.2.2 i (by omega) (by omega)).2
  exact hn (Or.inr (Or.inl (by rw [cellAtF_in (by omega) (by omega), ← g]; exact z)))
theorem rip_st {r : mf_V} (hI : RInv r) (c w : Int) : ∀ n : Nat, (ripG (stW r c w) n).2 ≤ (ripG r n).2 ∧ (((ripG r n).1 = -1 ∧ (ripG r n).2 = -1 ∧ (ripG (stW r c w) n).1 = -1 ∧ (ripG (stW r c w) n).2 = -1) ∨ (0 ≤ (ripG r n).1 ∧ 0 ≤ (ripG r n).2 ∧ (¬ hitA r (ripG r n).1 (r 12 (ripG r n).1) c → ripG (stW r c w) n = ripG r n))) := by
  intro n
  induction n with
  | zero => exact ⟨Int.le_refl _, Or.inl ⟨rfl, rfl, rfl, rfl⟩⟩
  | succ n ih =>
    have e13 : stW r c w 13 = r 13 := stW_n (by decide) (by decide)
    have e12 : stW r c w 12 = r 12 := stW_n (by decide) (by decide)
    have e0 : stW r c w 0 = r 0 := stW_n (by decide) (by decide)
    rw [show ((n + 1 : Nat) : Int) = (n : Int) + 1 by omega]
    generalize hs : ripG (stW r c w) n = gs at ih
    generalize hr : ripG r n = gr at ih
    obtain ⟨ih1, ih2⟩ := ih
    by_cases q : ripP r n gr.2
    · have er := ripG_t r (k := (n : Int)) (by omega) (by rw [hr]; exact q)
      obtain ⟨q1, q2, q3, q4⟩ := q
      by_cases h : hitA r n (r 12 n) c
      · have es := ripG_f (stW r c w) (k := (n : Int)) (by omega) (by
          rw [hs]
          intro z
          have z4 := z.2.2.2
          rw [e12, canB_st] at z4
          exact z4.2 h)
        rw [er, es, hs]
        exact ⟨by show gs.2 ≤ r 1 (r 13 n) - 10 * r 0 (r 13 n); omega, Or.inr ⟨by show (0 : Int) ≤ n; omega, q2, fun z => absurd h z⟩⟩
      · have hb := bank_hit hI q4 h
        have es := ripG_t (stW r c w) (k := (n : Int)) (by omega) (by
          rw [hs]
          unfold ripP
          rw [e13, e12, e0, stW_1, mf_up_n hb, canB_st]
          exact ⟨q1, q2, by omega, q4, h⟩)
        rw [er, es, e13, e0, stW_1, mf_up_n hb]
        exact ⟨Int.le_refl _, Or.inr ⟨by show (0 : Int) ≤ n; omega, q2, fun _ => rfl⟩⟩
    · have er := ripG_f r (k := (n : Int)) (by omega) (by rw [hr]; exact q)
      by_cases h : ripP (stW r c w) n gs.2
      · have es := ripG_t (stW r c w) (k := (n : Int)) (by omega) (by rw [hs]; exact h)
        unfold ripP at h
        rw [e13, e12, e0, stW_1, canB_st] at h
        obtain ⟨q1, q2, q3, q4, q5⟩ := h
        have hb := bank_hit hI q4 q5
        rw [mf_up_n hb] at q2 q3
        have q6 : r 1 (r 13 n) - 10 * r 0 (r 13 n) ≤ gr.2 := by
          by_cases y : gr.2 < r 1 (r 13 n) - 10 * r 0 (r 13 n)
          · exact absurd ⟨q1, q2, y, q4⟩ q
          · omega
        rw [er, es, e13, e0, stW_1, mf_up_n hb, hr]
        refine ⟨q6, ?_⟩
        rcases ih2 with ⟨i1, i2, i3, i4⟩ | ⟨i1, i2, i3⟩
        · exfalso; omega
        · refine Or.inr ⟨i1, i2, fun z => ?_⟩
          have g := i3 z
          rw [g] at q3
          exfalso; omega
      · have es := ripG_f (stW r c w) (k := (n : Int)) (by omega) (by rw [hs]; exact h)
        rw [er, es, hs, hr]
        exact ⟨ih1, ih2⟩
theorem ripF_st1 {r : mf_V} (hI : RInv r) (c w : Int) (h7 : 0 ≤ r 7 0) (h : ripF r = -1) : ripF (stW r c w) = -1 := by
  have e7 : stW r c w 7 = r 7 := stW_n (by decide) (by decide)
  unfold ripF at h ⊢
  rw [e7]
  obtain ⟨n, hn⟩ := Int.eq_ofNat_of_zero_le h7
  rw [hn] at h ⊢
  rcases (rip_st hI c w n).2 with g | g
  · exact g.2.2.1
  · omega
theorem ripF_st2 {r : mf_V} (hI : RInv r) (c w : Int) (h7 : 0 ≤ r 7 0) (h : ¬ ripF r = -1) (hn : ¬ hitA r (ripF r) (r 12 (ripF r)) c) : ripF (stW r c w) = ripF r := by
  have e7 : stW r c w 7 = r 7 := stW_n (by decide) (by decide)
  unfold ripF at h hn ⊢
  rw [e7]
  obtain ⟨n, hn2⟩ := Int.eq_ofNat_of_zero_le h7
  rw [hn2] at h hn ⊢
  rcases (rip_st hI c w n).2 with g | g
  · exact absurd g.1 h
  · rw [g.2.2 hn]
theorem hit_ab {r : mf_V} {i t c : Int} (h0 : 0 < i) (h1 : i < r 7 0 - 1) : hitB r i t c ↔ hitA r i t c := by
  unfold hitB hitA
  rw [cellAtF_in (by omega) (by omega), cellAtF_in (by omega) (by omega), cellAtF_in (by omega) (by omega)]
  constructor
  · intro h; rcases h with h | h | h
    · exact Or.inl h.symm
    · exact Or.inr (Or.inl h.symm)
    · exact Or.inr (Or.inr h.symm)
  · intro h; rcases h with h | h | h
    · exact Or.inl h.symm
    · exact Or.inr (Or.inl h.symm)
    · exact Or.inr (Or.inr h.symm)
theorem Bul_st {r q : mf_V} {i t c : Int} (w : Int) (hB : Bul r i t q) (hn : ¬ hitB r i t c) : Bul (stW r c w) i t (stW q c w) := by
  obtain ⟨b7, b6, bc, b0, b2, b5, b8, b9⟩ := hB
  have e : ∀ (s : mf_V) (k : Nat), k ≠ 1 → k ≠ 2 → stW s c w k = s k := fun s k h1 h2 => stW_n h1 h2
  have eh : ∀ y, hitB (stW r c w) i t y ↔ hitB r i t y := fun y => by unfold hitB; rw [e r 6 (by decide) (by decide)]
  refine ⟨by rw [e q 7 (by decide) (by decide), e r 7 (by decide) (by decide)]; exact b7, fun j h0 h1 => ?_, fun y => ⟨fun h => ?_, fun h => ?_⟩, ?_, ?_, ?_, ?_, ?_⟩
  · rw [e r 7 (by decide) (by decide)] at h1
    rw [e q 6 (by decide) (by decide), b6 j h0 h1]
    unfold bulC
    rw [e r 6 (by decide) (by decide)]
  · have g := (bc y).1 ((eh y).mp h)
    have hy : y ≠ c := fun z => hn (by rw [← z]; exact (eh y).mp h)
    rw [stW_1, mf_up_n hy, e q 3 (by decide) (by decide), e q 4 (by decide) (by decide)]
    exact g
  · have g := (bc y).2 (fun z => h ((eh y).mpr z))
    rw [stW_1, stW_1, e q 3 (by decide) (by decide), e q 4 (by decide) (by decide), e r 3 (by decide) (by decide), e r 4 (by decide) (by decide)]
    refine ⟨?_, g.2⟩
    by_cases z : y = c
    · rw [z, mf_up_s, mf_up_s]
    · rw [mf_up_n z, mf_up_n z]; exact g.1
  · rw [e q 0 (by decide) (by decide), e r 0 (by decide) (by decide)]; exact b0
  · rw [stW_2, stW_2, b2]
  · rw [e q 5 (by decide) (by decide), e r 5 (by decide) (by decide)]; exact b5
  · rw [e q 8 (by decide) (by decide), e r 8 (by decide) (by decide)]; exact b8
  · rw [e q 9 (by decide) (by decide), e r 9 (by decide) (by decide)]; exact b9
theorem Brk_st {r q : mf_V} {i j : Int} (c w : Int) (hB : Brk r i j q) : Brk (stW r c w) i j (stW q c w) := by
  obtain ⟨b7, b6, bc, b9, b0, b1, b2, b4, b5, b8⟩ := hB
  have e : ∀ (s : mf_V) (k : Nat), k ≠ 1 → k ≠ 2 → stW s c w k = s k := fun s k h1 h2 => stW_n h1 h2
  refine ⟨by rw [e q 7 (by decide) (by decide), e r 7 (by decide) (by decide)]; exact b7, fun k h0 h1 => ?_, fun y y0 y1 => ?_, ?_, ?_, ?_, ?_, ?_, ?_, ?_⟩
  · rw [e r 7 (by decide) (by decide)] at h1
    rw [e q 6 (by decide) (by decide), b6 k h0 h1]
    unfold brkC
    rw [e r 6 (by decide) (by decide)]
  · rw [e r 10 (by decide) (by decide), e q 3 (by decide) (by decide), e r 3 (by decide) (by decide), e r 8 (by decide) (by decide)]
    exact bc y y0 y1
  · rw [e q 9 (by decide) (by decide), e r 9 (by decide) (by decide)]; exact b9
  · rw [e q 0 (by decide) (by decide), e r 0 (by decide) (by decide)]; exact b0
  · rw [stW_1, stW_1, b1]
  · rw [stW_2, stW_2, b2]
  · rw [e q 4 (by decide) (by decide), e r 4 (by decide) (by decide)]; exact b4
  · rw [e q 5 (by decide) (by decide), e r 5 (by decide) (by decide)]; exact b5
  · rw [e q 8 (by decide) (by decide), e r 8 (by decide) (by decide)]; exact b8
theorem farF_st (r : mf_V) (c w i : Int) : farF (stW r c w) i = farF r i := by
  have ec : cellAtF (stW r c w) i = cellAtF r i := cellAtF_cg (stW_n (by decide) (by decide)) (stW_n (by decide) (by decide)) i
  have ep : ∀ y, placeOfF (stW r c w) y = placeOfF r y := fun y => by unfold placeOfF; rw [stW_n (by decide) (by decide)]
  unfold farF farG
  rw [ec]
  simp only [ep]
theorem widF_st (r : mf_V) (c w : Int) : widF (stW r c w) = widF r := by
  have ef : farF (stW r c w) = farF r := funext (farF_st r c w)
  unfold widF widG
  rw [stW_n (by decide) (by decide), ef]
theorem FloodN_st (c : Int) {w : Int} (h0 : 0 ≤ w) (h1 : w ≤ 200000000) : ∀ (n : Nat) {r q : mf_V}, FloodN n r q → FloodN n (stW r c w) (stW q c w)
  | 0, r, q, h => by
    obtain ⟨a, b⟩ := h
    exact ⟨by rw [widF_st]; exact a, by rw [b]⟩
  | n + 1, r, q, h => by
    obtain ⟨a, r1, hb, ok1, hI1, hr⟩ := h
    refine ⟨by rw [widF_st]; exact a, stW r1 c w, ?_, stW_ok ok1 c h0 h1, stW_I hI1 c w, FloodN_st c h0 h1 n hr⟩
    rw [widF_st, farF_st]
    exact Brk_st c w hb
theorem ripG_can (r : mf_V) : ∀ n : Nat, (ripG r n).1 = -1 ∨ canB r (ripG r n).1 (r 12 (ripG r n).1) := by
  intro n
  induction n with
  | zero => exact Or.inl rfl
  | succ n ih =>
    rw [show ((n + 1 : Nat) : Int) = (n : Int) + 1 by omega]
    by_cases q : ripP r n (ripG r n).2
    · rw [ripG_t r (by omega) q]; exact Or.inr q.2.2.2
    · rw [ripG_f r (by omega) q]; exact ih
theorem ripF_can {r : mf_V} (ok : rOK rlo rhi r) (h : ¬ ripF r = -1) : canB r (ripF r) (r 12 (ripF r)) := by
  have h7 : (0 : Int) ≤ r 7 0 ∧ r 7 0 ≤ 150 := ok 7 0
  obtain ⟨n, hn⟩ := Int.eq_ofNat_of_zero_le h7.1
  unfold ripF at h ⊢
  rw [hn] at h ⊢
  rcases ripG_can r n with z | z
  · exact absurd z h
  · exact z
theorem YearR_4 {r q : mf_V} {b : Int} (h : YearR r q b) {c : Int} (hq : q 4 c = 0) : r 4 c = 0 := by
  obtain ⟨r1, r2, r3, h1f, -, -, -, hrip, -, -, hfl, -, -, hqf, -⟩ := h
  have e3 : r3 4 c = 0 := by rw [← hqf 4 (by decide)]; exact hq
  have e2 : r2 4 c = 0 := by
    rcases hfl with ⟨-, n, z⟩ | ⟨-, z⟩
    · rw [← (FloodN_fr6 n z).2.2.2.1]; exact e3
    · rw [← z]; exact e3
  rw [← h1f 4 (by decide)]
  rcases hrip with ⟨-, z, -⟩ | ⟨-, z, -⟩
  · rw [← z]; exact e2
  · by_cases y : hitB r1 (ripF r1) (r1 12 (ripF r1)) c
    · have g := ((z.2.2.1 c).1 y).2.2; omega
    · rw [← ((z.2.2.1 c).2 y).2.2]; exact e2
theorem YearR_st {r q : mf_V} {b : Int} (h : YearR r q b) {c w : Int} (h0 : 0 ≤ w) (h1 : w ≤ 200000000) (hq : q 4 c = 0) : YearR (stW r c w) (stW q c w) b := by
  obtain ⟨r1, r2, r3, h1f, h1w, ok1, hI1, hrip, ok2, hI2, hfl, ok3, hI3, hqf, hq8⟩ := h
  have e : ∀ (s : mf_V) (k : Nat), k ≠ 1 → k ≠ 2 → stW s c w k = s k := fun s k h1 h2 => stW_n h1 h2
  have e3 : r3 4 c = 0 := by rw [← hqf 4 (by decide)]; exact hq
  have e2 : r2 4 c = 0 := by
    rcases hfl with ⟨-, n, z⟩ | ⟨-, z⟩
    · rw [← (FloodN_fr6 n z).2.2.2.1]; exact e3
    · rw [← z]; exact e3
  have h7 : (0 : Int) ≤ r 7 0 := by
    have g : (0 : Int) ≤ r1 7 0 ∧ r1 7 0 ≤ 150 := ok1 7 0
    rw [← h1f 7 (by decide)]; exact g.1
  have h71 : (0 : Int) ≤ r1 7 0 := by rw [h1f 7 (by decide)]; exact h7
  refine ⟨stW r1 c w, stW r2 c w, stW r3 c w, fun k hk => ?_, ?_, stW_ok ok1 c h0 h1, stW_I hI1 c w, ?_, stW_ok ok2 c h0 h1, stW_I hI2 c w, ?_, stW_ok ok3 c h0 h1, stW_I hI3 c w, fun k hk => ?_, ?_⟩
  · by_cases z : k = 2
    · rw [z, stW_2, stW_2, h1f 2 (by decide)]
    · rw [e r1 k hk z, e r k hk z]; exact h1f k hk
  · rw [e r 5 (by decide) (by decide), e r 8 (by decide) (by decide), e r 7 (by decide) (by decide), stW_1, h1w]
    obtain ⟨n, hn⟩ := Int.eq_ofNat_of_zero_le h7
    rw [hn]
    exact (wear_st r c w _ n).symm
  · rcases hrip with ⟨z1, z2, z3⟩ | ⟨z1, z2, z3⟩
    · exact Or.inl ⟨ripF_st1 hI1 c w h71 z1, by rw [z2], z3⟩
    · have hnb : ¬ hitB r1 (ripF r1) (r1 12 (ripF r1)) c := fun y => by
        have g := ((z2.2.2.1 c).1 y).2.2
        omega
      have hcn := ripF_can ok1 z1
      unfold canB strP at hcn
      have hna : ¬ hitA r1 (ripF r1) (r1 12 (ripF r1)) c := fun y => hnb ((hit_ab (by omega) (by omega)).mpr y)
      have er := ripF_st2 hI1 c w h71 z1 hna
      exact Or.inr ⟨by rw [er]; exact z1, by rw [er, e r1 12 (by decide) (by decide)]; exact Bul_st w z2 hnb, z3⟩
  · rw [e r 5 (by decide) (by decide), e r 8 (by decide) (by decide)]
    rcases hfl with ⟨z1, n, z2⟩ | ⟨z1, z2⟩
    · exact Or.inl ⟨z1, n, FloodN_st c h0 h1 n z2⟩
    · exact Or.inr ⟨z1, by rw [z2]⟩
  · by_cases z : k = 2
    · rw [z, stW_2, stW_2, hqf 2 (by decide)]
    · by_cases y : k = 1
      · rw [y, stW_1, stW_1, hqf 1 (by decide)]
      · rw [e q k y z, e r3 k y z]; exact hqf k hk
  · rw [e q 8 (by decide) (by decide), e r 8 (by decide) (by decide)]; exact hq8
theorem YearsN_4 : ∀ (n : Nat) {r q : mf_V} {b c : Int}, YearsN n r q b → q 4 c = 0 → r 4 c = 0
  | 0, r, q, b, c, h, hq => by obtain ⟨rfl, -⟩ := h; exact hq
  | n + 1, r, q, b, c, h, hq => by
    obtain ⟨r1, b1, b2, hh, -, -, hy, -⟩ := h
    exact YearsN_4 n hh (YearR_4 hy hq)
theorem YearsN_st {c w : Int} (h0 : 0 ≤ w) (h1 : w ≤ 200000000) : ∀ (n : Nat) {r q : mf_V} {b : Int}, YearsN n r q b → q 4 c = 0 → YearsN n (stW r c w) (stW q c w) b
  | 0, r, q, b, h, hq => by obtain ⟨rfl, hb⟩ := h; exact ⟨rfl, hb⟩
  | n + 1, r, q, b, h, hq => by
    obtain ⟨r1, b1, b2, hh, ok1, hI1, hy, hb⟩ := h
    exact ⟨stW r1 c w, b1, b2, YearsN_st h0 h1 n hh (YearR_4 hy hq), stW_ok ok1 c h0 h1, stW_I hI1 c w, YearR_st hy h0 h1 hq, hb⟩
theorem cntP_st (r : mf_V) (c w y : Int) : cntP (stW r c w) 1 y ↔ cntP r 1 y := by
  have el : lyl (stW r c w) y = lyl r y := by unfold lyl; rw [stW_n (by decide) (by decide), stW_n (by decide) (by decide)]
  unfold cntP
  rw [stW_n (by decide) (by decide), el]
  constructor
  · rintro ⟨a, b⟩; exact ⟨a, by omega⟩
  · rintro ⟨a, b⟩; exact ⟨a, by omega⟩
theorem cof_st (f r : mf_V) (c w k : Int) : cof f (stW r c w) k 1 = cof f r k 1 := by
  unfold cof
  congr 1
  funext j
  congr 1
  funext i
  exact bP_cg (cntP_st r c w _)
/-- stones on a cell that no bulge takes -/
theorem stones_free {r q : mf_V} {b y c : Int} (ok : rOK rlo rhi r) (h : YearsR y r q b) (okq : rOK rlo rhi q) (hIq : RInv q) (hq : q 4 c = 0) (f : mf_V) (k : Int) : ∃ t : mf_V, YearsR y (stR r c) t b ∧ rOK rlo rhi t ∧ RInv t ∧ cof f t k 1 = cof f q k 1 := by
  have hw : (0 : Int) ≤ r 1 c ∧ r 1 c ≤ 200000000 := ok 1 c
  refine ⟨stW q c (r 1 c), ?_, stW_ok okq c hw.1 hw.2, stW_I hIq c _, cof_st f q c _ k⟩
  rw [← stW_r]
  exact YearsN_st hw.1 hw.2 _ h hq
theorem advG_x {f r q0 q : mf_V} {k : Int} {Qf : Int → mf_V} (n : Int) : ∀ i : Nat, (i : Int) ≤ n → advG f r k q0 (chX Qf n q) i = advG f r k q0 Qf i := by
  intro i
  induction i with
  | zero => intro _; rfl
  | succ i ih =>
    intro h
    rw [show ((i + 1 : Nat) : Int) = (i : Int) + 1 by omega]
    rw [advG_s f r k q0 _ (by omega), advG_s f r k q0 _ (by omega), ih (by omega)]
    unfold advP
    rw [chX_n (by omega)]
theorem adv_keep {f r q0 q : mf_V} {k n m b : Int} {Qf : Int → mf_V} (h0 : 0 ≤ n) (h : advG f r k q0 Qf n = (m, b)) (hn : ¬ (¬ r 1 n = 0 ∧ r 2 n = 0 ∧ m < cof f q k 1)) : advG f r k q0 (chX Qf n q) (n + 1) = (m, b) := by
  obtain ⟨i, hi⟩ := Int.eq_ofNat_of_zero_le h0
  have e := advG_x (f := f) (r := r) (q0 := q0) (q := q) (k := k) (Qf := Qf) n i (by omega)
  rw [← hi, h] at e
  rw [advG_f f r k q0 _ h0 (by rw [e]; unfold advP; rw [chX_s]; exact hn), e]
theorem adv_take {f r q0 q : mf_V} {k n m b v : Int} {Qf : Int → mf_V} (h0 : 0 ≤ n) (h : advG f r k q0 Qf n = (m, b)) (h1 : ¬ r 1 n = 0) (h2 : r 2 n = 0) (hv : v = cof f q k 1) (hn : m < v) : advG f r k q0 (chX Qf n q) (n + 1) = (v, n) := by
  obtain ⟨i, hi⟩ := Int.eq_ofNat_of_zero_le h0
  have e := advG_x (f := f) (r := r) (q0 := q0) (q := q) (k := k) (Qf := Qf) n i (by omega)
  rw [← hi, h] at e
  rw [advG_t f r k q0 _ h0 (by rw [e]; unfold advP; rw [chX_s, ← hv]; exact ⟨h1, h2, hn⟩), chX_s, ← hv]
/-- the looks so far -/
def AdvQ (r : mf_V) (y : Int) (Qf : Int → mf_V) (bf : Int → Int) (n : Int) : Prop := ∀ c, 0 ≤ c → c < n → ¬ r 1 c = 0 → r 2 c = 0 → YearsR y (stR r c) (Qf c) (bf c) ∧ rOK rlo rhi (Qf c) ∧ RInv (Qf c)
theorem AdvQ_s {r q : mf_V} {y n b : Int} {Qf : Int → mf_V} {bf : Int → Int} (h : AdvQ r y Qf bf n) (h2 : ¬ r 1 n = 0 → r 2 n = 0 → YearsR y (stR r n) q b ∧ rOK rlo rhi q ∧ RInv q) : AdvQ r y (chX Qf n q) (mf_up bf n b) (n + 1) := fun c h0 h1 z1 z2 => by
  rcases (show c = n ∨ c < n by omega) with z | z
  · subst z; rw [chX_s, mf_up_s]; exact h2 z1 z2
  · rw [chX_n (by omega), mf_up_n (by omega)]; exact h c h0 z z1 z2
