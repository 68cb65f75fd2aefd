/-! 52.cls2: the calls that look ahead -/
theorem vFore_rC (r q : mf_V) (b w : Int) : vFore (rC r) q b w = vFore r q b w := rfl
/-- a row of rivers with one more -/
def chX (ch : Int → mf_V) (j : Int) (q : mf_V) : Int → mf_V := fun i => if i = j then q else ch i
theorem chX_s {ch : Int → mf_V} {j : Int} {q : mf_V} : chX ch j q j = q := if_pos rfl
theorem chX_n {ch : Int → mf_V} {j i : Int} {q : mf_V} (h : i ≠ j) : chX ch j q i = ch i := if_neg h
/-- the years looked at so far -/
def LoseC (f r0 : mf_V) (k : Int) (ch : Int → mf_V) (j : Int) (q : mf_V) : Prop := ch 0 = r0 ∧ ch j = q ∧ (∀ i, 0 ≤ i → i ≤ j → rOK rlo rhi (ch i) ∧ RInv (ch i)) ∧ (∀ i, 0 ≤ i → i < j → ∃ b, YearR (ch i) (ch (i + 1)) b) ∧ ∀ i, 0 < i → i ≤ j → ¬ cof f (ch i) k 1 < cof f r0 k 1
theorem lose_0 {f r0 : mf_V} {k : Int} (ok : rOK rlo rhi r0) (hI : RInv r0) : LoseC f r0 k (fun _ => r0) 0 r0 := ⟨rfl, rfl, fun i _ _ => ⟨ok, hI⟩, fun i h0 h1 => by omega, fun i h0 h1 => by omega⟩
theorem lose_x {f r0 : mf_V} {k j b : Int} {ch : Int → mf_V} {p q : mf_V} (hj : 1 ≤ j) (h : LoseC f r0 k ch (j - 1) p) (hy : YearR p q b) (okq : rOK rlo rhi q) (hIq : RInv q) : chX ch j q 0 = r0 ∧ chX ch j q j = q ∧ (∀ i, 0 ≤ i → i ≤ j → rOK rlo rhi (chX ch j q i) ∧ RInv (chX ch j q i)) ∧ (∀ i, 0 ≤ i → i < j → ∃ b, YearR (chX ch j q i) (chX ch j q (i + 1)) b) ∧ ∀ i, 0 < i → i < j → ¬ cof f (chX ch j q i) k 1 < cof f r0 k 1 := by
  obtain ⟨c0, cj, cI, cY, cl⟩ := h
  refine ⟨by rw [chX_n (by omega)]; exact c0, chX_s, fun i h0 h1 => ?_, fun i h0 h1 => ?_, fun i h0 h1 => ?_⟩
  · rcases (show i = j ∨ i ≤ j - 1 by omega) with z | z
    · rw [z, chX_s]; exact ⟨okq, hIq⟩
    · rw [chX_n (by omega)]; exact cI i h0 z
  · rcases (show i = j - 1 ∨ i < j - 1 by omega) with z | z
    · rw [chX_n (by omega), show i + 1 = j by omega, chX_s, z, cj]; exact ⟨b, hy⟩
    · rw [chX_n (by omega), chX_n (by omega)]; exact cY i h0 z
  · rw [chX_n (by omega)]; exact cl i h0 (by omega)
theorem lose_s {f r0 : mf_V} {k j b : Int} {ch : Int → mf_V} {p q : mf_V} (hj : 1 ≤ j) (h : LoseC f r0 k ch (j - 1) p) (hy : YearR p q b) (okq : rOK rlo rhi q) (hIq : RInv q) (hn : ¬ cof f q k 1 < cof f r0 k 1) : LoseC f r0 k (chX ch j q) j q := by
  obtain ⟨c0, cj, cI, cY, cl⟩ := lose_x hj h hy okq hIq
  refine ⟨c0, cj, cI, cY, fun i h0 h1 => ?_⟩
  rcases (show i = j ∨ i < j by omega) with z | z
  · rw [z, cj]; exact hn
  · exact cl i h0 z
theorem lose_e {f r0 : mf_V} {k j b : Int} {ch : Int → mf_V} {p q : mf_V} (hj : 1 ≤ j) (hj2 : j ≤ 60) (h : LoseC f r0 k ch (j - 1) p) (hy : YearR p q b) (okq : rOK rlo rhi q) (hIq : RInv q) (hn : cof f q k 1 < cof f r0 k 1) : LoseP f r0 k (chX ch j q) j ∧ j = vLose f r0 k (chX ch j q) j := by
  obtain ⟨c0, cj, cI, cY, cl⟩ := lose_x hj h hy okq hIq
  refine ⟨⟨c0, ⟨by omega, hj2⟩, cI, cY, cl, Or.inl ⟨by omega, by rw [cj]; exact hn⟩⟩, ?_⟩
  unfold vLose
  rw [cj]
  exact (mf_if_t hn).symm
theorem lose_n {f r0 : mf_V} {k : Int} {ch : Int → mf_V} {p : mf_V} (h : LoseC f r0 k ch 60 p) : LoseP f r0 k ch 60 ∧ -1 = vLose f r0 k ch 60 := by
  obtain ⟨c0, cj, cI, cY, cl⟩ := h
  have hn := cl 60 (by decide) (by decide)
  refine ⟨⟨c0, ⟨by omega, by omega⟩, cI, cY, fun i h0 h1 => cl i h0 (by omega), Or.inr ⟨rfl, hn⟩⟩, ?_⟩
  unfold vLose
  exact (mf_if_f hn).symm
theorem Years1 {r q : mf_V} {b : Int} (h : YearsR 1 r q b) : ∃ b2, YearR r q b2 := by
  obtain ⟨r1, b1, b2, ⟨e1, e2⟩, -, -, hy, -⟩ := h
  rw [e1] at hy
  exact ⟨b2, hy⟩
