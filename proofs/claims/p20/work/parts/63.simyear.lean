/-! 63.simyear: a year of the Sim -/
def ovR (r : mf_V) (j : Int) : Int := r 1 (r 13 j) - 10 * r 0 (r 13 j)
def cndR (r : mf_V) (j : Int) : Prop := (0 ≤ r 13 j ∧ r 13 j < 384) ∧ 0 ≤ ovR r j ∧ canB r j (r 12 j)
/-- the ripest of the places from lo on, ahead of hi: the first of them -/
def ripC (r : mf_V) (lo hi b m : Int) : Prop := (b = -1 ∧ ∀ j, lo ≤ j → j < hi → ¬ cndR r j) ∨ (lo ≤ b ∧ b < hi ∧ cndR r b ∧ m = ovR r b ∧ (∀ j, lo ≤ j → j < b → cndR r j → ovR r j < ovR r b) ∧ ∀ j, b < j → j < hi → cndR r j → ovR r j ≤ ovR r b)
theorem ripC_G (r : mf_V) : ∀ n : Nat, ripC r 0 n (ripG r n).1 (ripG r n).2 ∧ ((ripG r n).1 = -1 → (ripG r n).2 = -1) := by
  intro n
  induction n with
  | zero => exact ⟨Or.inl ⟨rfl, fun j h0 h1 => by omega⟩, fun _ => rfl⟩
  | succ n ih =>
    rw [show ((n + 1 : Nat) : Int) = (n : Int) + 1 from rfl]
    obtain ⟨ih, ih2⟩ := ih
    by_cases q : ripP r n (ripG r n).2
    · rw [ripG_t r (by omega) q]
      obtain ⟨q1, q2, q3, q4⟩ := q
      have q3' : (ripG r n).2 < ovR r n := q3
      refine ⟨Or.inr ⟨by omega, by show (n : Int) < n + 1; omega, ⟨q1, q2, q4⟩, rfl, fun j h0 h1 hc => ?_, fun j h0 h1 => ?_⟩, fun h => ?_⟩
      · have h1 : j < (n : Int) := h1
        show ovR r j < ovR r n
        rcases ih with ⟨-, i2⟩ | ⟨i1, i2, i3, i4, i5, i6⟩
        · exact absurd hc (i2 j h0 h1)
        · rcases (show j < (ripG r n).1 ∨ j = (ripG r n).1 ∨ (ripG r n).1 < j by omega) with z | z | z
          · have := i5 j h0 z hc; omega
          · rw [z]; omega
          · have := i6 j z h1 hc; omega
      · have h0 : (n : Int) < j := h0
        omega
      · exact absurd h (by show ¬ ((n : Int) = -1); omega)
    · rw [ripG_f r (by omega) q]
      refine ⟨?_, ih2⟩
      rcases ih with ⟨i1, i2⟩ | ⟨i1, i2, i3, i4, i5, i6⟩
      · refine Or.inl ⟨i1, fun j h0 h1 hc => ?_⟩
        rcases (show j < n ∨ j = n by omega) with z | z
        · exact i2 j h0 z hc
        · rw [z] at hc
          obtain ⟨c1, c2, c3⟩ := hc
          have m1 := ih2 i1
          exact q ⟨c1, c2, by rw [m1]; show -1 < ovR r n; omega, c3⟩
      · refine Or.inr ⟨i1, by omega, i3, i4, i5, fun j h0 h1 hc => ?_⟩
        rcases (show j < n ∨ j = n by omega) with z | z
        · exact i6 j h0 z hc
        · rw [z] at hc ⊢
          obtain ⟨c1, c2, c3⟩ := hc
          by_cases y : (ripG r n).2 < ovR r n
          · exact absurd ⟨c1, c2, y, c3⟩ q
          · omega
theorem ripC_u {r : mf_V} {lo hi b m b' m' : Int} (h : ripC r lo hi b m) (h' : ripC r lo hi b' m') : b = b' := by
  rcases h with ⟨h1, h2⟩ | ⟨h1, h2, h3, h4, h5, h6⟩ <;> rcases h' with ⟨g1, g2⟩ | ⟨g1, g2, g3, g4, g5, g6⟩
  · omega
  · exact absurd g3 (h2 b' g1 g2)
  · exact absurd h3 (g2 b h1 h2)
  · rcases (show b < b' ∨ b = b' ∨ b' < b by omega) with z | z | z
    · have a := g5 b h1 z h3
      have c := h6 b' z g2 g3
      omega
    · exact z
    · have a := h5 b' g1 z g3
      have c := g6 b z h2 h3
      omega
theorem ripC_dn {r : mf_V} {lo hi b m : Int} (hl : 0 ≤ lo) (hh : lo < hi) (h : ripC r (lo + 1) hi b m) : (¬ cndR r lo ∨ (0 ≤ b ∧ ovR r lo < m) → ripC r lo hi b m) ∧ (cndR r lo → (b < 0 ∨ m ≤ ovR r lo) → ripC r lo hi lo (ovR r lo)) := by
  refine ⟨fun hn => ?_, fun hc hb => ?_⟩
  · rcases h with ⟨h1, h2⟩ | ⟨h1, h2, h3, h4, h5, h6⟩
    · rcases hn with hn | hn
      · refine Or.inl ⟨h1, fun j j0 j1 => ?_⟩
        rcases (show j = lo ∨ lo + 1 ≤ j by omega) with z | z
        · rw [z]; exact hn
        · exact h2 j z j1
      · omega
    · refine Or.inr ⟨by omega, h2, h3, h4, fun j j0 j1 jc => ?_, h6⟩
      rcases (show j = lo ∨ lo + 1 ≤ j by omega) with z | z
      · rw [z] at jc ⊢
        rcases hn with hn | hn
        · exact absurd jc hn
        · omega
      · exact h5 j z j1 jc
  · refine Or.inr ⟨Int.le_refl _, hh, hc, rfl, fun j j0 j1 => by omega, fun j j0 j1 jc => ?_⟩
    rcases h with ⟨h1, h2⟩ | ⟨h1, h2, h3, h4, h5, h6⟩
    · exact absurd jc (h2 j (by omega) j1)
    · have hm : m ≤ ovR r lo := by omega
      rcases (show j < b ∨ j = b ∨ b < j by omega) with z | z | z
      · have := h5 j (by omega) z jc; omega
      · rw [z]; omega
      · have := h6 j z j1 jc; omega
theorem ripC_F {r : mf_V} {b m : Int} (hL : 0 ≤ r 7 0) (h : ripC r 0 (r 7 0) b m) : ripF r = b := by
  obtain ⟨n, hn⟩ := Int.eq_ofNat_of_zero_le hL
  unfold ripF
  rw [hn] at h ⊢
  exact ripC_u (ripC_G r n).1 h
theorem wearRelS {r u w : mf_V} {n : Nat} {c v : Int} (hrel : relS r n u) (f1 : w 5 c = v) (f2 : ∀ y, y ≠ c → w 5 y = u 5 y) (f3 : ∀ k, k ≠ 5 → w k = u k) : relS (mf_sF r 1 (mf_up (r 1) c v)) n w := by
  obtain ⟨e9, e0, e1, e2, e3, e4, e5, e7, e8⟩ := hrel
  refine ⟨by rw [mf_sF_n (by decide)]; exact e9, by rw [f3 0 (by decide), mf_sF_n (by decide)]; exact e0, by rw [f3 1 (by decide), mf_sF_n (by decide)]; exact e1, fun z z0 z1 => by rw [mf_sF_n (by decide)] at z1; rw [f3 2 (by decide), mf_sF_n (by decide)]; exact e2 z z0 z1, fun z z0 z1 => by rw [f3 3 (by decide), mf_sF_n (by decide)]; exact e3 z z0 z1, fun z z0 z1 => by rw [f3 4 (by decide), mf_sF_n (by decide)]; exact e4 z z0 z1, fun z z0 z1 => ?_, fun z z0 z1 => by rw [f3 7 (by decide), mf_sF_n (by decide)]; exact e7 z z0 z1, fun z z0 z1 => by rw [f3 8 (by decide)]; show u 8 z = mf_sF r 1 _ 10 z + 1; rw [mf_sF_n (by decide)]; exact e8 z z0 z1⟩
  rw [mf_sF_s]
  by_cases y : z = c
  · rw [y, f1, mf_up_s]
  · rw [f2 z y, mf_up_n y]; exact e5 z z0 z1
theorem yearRelS {r u q w : mf_V} {n : Nat} (hrel : relS r n u) (hqf : ∀ k, k ≠ 8 → q k = r k) (hq8 : q 8 0 = r 8 0 + 1) (fr : ∀ k, k ≠ 0 → k ≠ 6 → w k = u k) (h0 : w 0 0 = r 8 0 + 1) : relS q n w := by
  obtain ⟨e9, e0, e1, e2, e3, e4, e5, e7, e8⟩ := hrel
  exact ⟨by rw [hqf 7 (by decide)]; exact e9, by rw [h0, hq8], by rw [fr 1 (by decide) (by decide), hqf 9 (by decide)]; exact e1, fun z z0 z1 => by rw [hqf 7 (by decide)] at z1; rw [fr 2 (by decide) (by decide), hqf 6 (by decide)]; exact e2 z z0 z1, fun z z0 z1 => by rw [fr 3 (by decide) (by decide), hqf 0 (by decide)]; exact e3 z z0 z1, fun z z0 z1 => by rw [fr 4 (by decide) (by decide), hqf 2 (by decide)]; exact e4 z z0 z1, fun z z0 z1 => by rw [fr 5 (by decide) (by decide), hqf 1 (by decide)]; exact e5 z z0 z1, fun z z0 z1 => by rw [fr 7 (by decide) (by decide), hqf 5 (by decide)]; exact e7 z z0 z1, fun z z0 z1 => by rw [fr 8 (by decide) (by decide), hqf 10 (by decide)]; exact e8 z z0 z1⟩
set_option maxHeartbeats 4000000 in
set_option maxRecDepth 100000 in
theorem c_X3_flood (l : Launch) (G : mf_G) (hm : Nat) (adm : Nat → Nat) (ca nn : Nat) (u : mf_V)  (r : mf_V) (q : mf_V) (oku : rOK slo shi u) (ok : rOK rlo rhi r) (hI : RInv r) (hrel : relS r nn u) (hfl : Flood r q) (hbk : r 9 0 + 150 ≤ 100000000) (sz : Nat) : Met l yX3_flood wsX3_flood ({ frames := 2, cells := 151, slots := 11553, locals := 47 }) (va_Pc [.ref hm] (WrP G (SW G hm adm ca nn u) sz)) (va_Qv (fun (uZ : mf_V × Nat × Nat) => rOK slo shi uZ.1 ∧ relS q uZ.2.2 uZ.1) (fun (uZ : mf_V × Nat × Nat) t => WrQ G (va_A (SW G hm adm ca nn u) sz) (SW G hm adm (uZ.2.1) (uZ.2.2) (uZ.1)) t) (va_A (SW G hm adm ca nn u) sz)) 151 11553 (va_A (SW G hm adm ca nn u) sz) := by
  refine Met.ofW (cc := cX3_flood) (maxL := 2) (ret := none) (by decide) rfl ?_
  intro p e s m args below meth c s₁ B hml hv
  obtain ⟨rfl, hsz, hP, hK, hD0, hN⟩ := hv
  have hx := B.exec
  have hb := B.bytes
  have hr := B.returns
  have hts := atoms_spec (ws := wsX3_flood) B.pre
  have hown : s.vm.findClass RX3 = some m.cls := findClass_of_methodNamed B.named
  have hlocks := B.notSynchronized
  subst hsz
  have hD := hD0.self (sz := s.heap.size)
  generalize hAe : va_A (SW G hm adm ca nn u) s.heap.size = A at hD ⊢
  have hA : ∀ q : Nat, s.heap.size ≤ q → A q := fun q h => by rw [← hAe]; exact Or.inr h
  have hcR : (headSpec wsX3_flood ({ frames := 2, cells := 151, slots := 11553, locals := 47 })).room.cells = 151 := rfl
  have hsR : (headSpec wsX3_flood ({ frames := 2, cells := 151, slots := 11553, locals := 47 })).room.slots = 11553 := rfl
  have hS : va_S A s.heap s.heap [] := va_S.rf
  have hl := lv_entry ([.ref hm]) (n := 2) (Nat.le_of_ble_eq_true rfl)
  rw [lg_entry_eq]
  generalize (lg_sl ([.ref hm]) ++ List.replicate (2 - (lg_sl ([.ref hm])).length) Slot.unset).toArray = ls at hl ⊢
  have hl : lv_has ls 2 [(0, .ref hm)] := hl
  have okLr : (0 : Int) ≤ r 7 0 ∧ r 7 0 ≤ 150 := ok 7 0
  have hN9 : (nn : Int) = r 7 0 := rel9 hrel
  refine lv_aload_n hx hb dX3_flood_0 rfl (lv_at hl 0 rfl) ?_
  have hFc := va_free (wc := SW G hm adm ca nn u) hD hS hA [0, 1, 2, 3, 4, 5, 6, 7] rfl
  refine va_callr (va_runV (As := []) (rest := []) ⟨hx, hb, hml, hown, hts⟩ (c_X3_neck l G hm adm ca nn u (r) (by assumption) (by assumption) (by first | assumption | omega) (by first | assumption | omega) _) (cwV 0 hts gX3_flood_X3_neck rfl rfl rfl (by decide +kernel) ⟨Nat.le_of_ble_eq_true rfl, Nat.le_of_ble_eq_true rfl⟩) (wrV (wc := SW G hm adm ca nn u) hK hP hD hN [0, 1, 2, 3, 4, 5, 6, 7] (by decide) rfl rfl (ci := 3) rfl rfl) rfl rfl hl.1 rfl (lv_room (Nat.le_of_ble_eq_true rfl)) dX3_flood_1 ⟨(Nat.le_of_ble_eq_true rfl), (Nat.le_of_ble_eq_true rfl)⟩) hS (fun q _ h => hFc q h) hFc (fun u2 q1 t H1 locs ht hvm hw hB hz1 hk1 hS => ?_)
  obtain ⟨hP, hD⟩ := wrJ (ws := SW G hm adm ca nn u) (w1 := SW G hm adm ca nn u ++ AW G q1 3 u2) ht hFc hB
  have hP : va_P G.1 vwCl (SW G hm adm ca nn u ++ AW G q1 3 u2) H1 := hP
  have hD : va_D A (SW G hm adm ca nn u ++ AW G q1 3 u2) := hD
  clear hB hk1 hFc ht hz1 hvm
  generalize H1 = H at hP hS ⊢
  have w3 := hw; clear hw
  have hw0 := w3
  refine lv_astore_n (lv' := [(1, .ref q1), (0, .ref hm)]) hx hb dX3_flood_4 rfl hl (by decide) rfl (fun ls hl => ?_)
  have lp5 : ∀ (n : Nat) (ua : mf_V) (ca1 : Nat) (n1 : Nat) (qa : Nat) (va : mf_V) (r1 : mf_V) (cc : Nat) (sc : Nat), (r1 7 0).toNat < n → (rOK slo shi ua) → (rOK rlo rhi r1) → (RInv r1) → (relS r1 n1 ua) → (va 0 0 = widF r1) → (widF r1 = -1 ∨ va 0 1 = farF r1 (widF r1)) → (Flood r1 q) → (r1 9 0 + r1 7 0 ≤ r 9 0 + r 7 0) → ((cc : Int) + r1 7 0 ≤ 151) → ((sc : Int) + 77 * r1 7 0 ≤ 11553) → ∀ (H : Heap) (locs : List Loc), va_P G.1 vwCl (SW G hm adm ca1 n1 ua ++ AW G qa 3 va) H → va_D A (SW G hm adm ca1 n1 ua ++ AW G qa 3 va) → va_S A s.heap H locs → ∀ (ls : Array Slot), lv_has ls 2 [(0, .ref hm), (1, .ref qa)] → W p l e (headSpec wsX3_flood ({ frames := 2, cells := 151, slots := 11553, locals := 47 })).room s m ([.ref hm] : List Value).toArray below meth c H locs cc sc (MQ below (va_Qv (fun (uZ : mf_V × Nat × Nat) => rOK slo shi uZ.1 ∧ relS q uZ.2.2 uZ.1) (fun (uZ : mf_V × Nat × Nat) t => WrQ G A (SW G hm adm (uZ.2.1) (uZ.2.2) (uZ.1)) t) A) ([.ref hm] : List Value).toArray s 151 11553 A) (F0 m 5 ls []) := by
    intro n
    induction n with
    | zero => intro ua ca1 n1 qa va r1 cc sc hn; exact absurd hn (Nat.not_lt_zero _)
    | succ n ih5 =>
      intro ua ca1 n1 qa va r1 cc sc hn oka okr1 hI1 hrel1 hw hw2 hfl1 hb1 hcc hsc H locs hP hD hS ls hl
      have hwb := widF_b okr1
      have okL9 : (0 : Int) ≤ r1 7 0 ∧ r1 7 0 ≤ 150 := okr1 7 0
      refine lv_aload_n hx hb dX3_flood_5 rfl (lv_at hl 1 rfl) ?_
      refine mf_iconst hx hb dX3_flood_6 ?_
      refine mf_iald (n := 3) (f := va 0) hx hb hK hP 8 0 rfl rfl (z := 0) (by omega) (by omega) (by first | decide | omega) dX3_flood_7 ?_
      refine mf_if_lt (tgt := 29) hx hb dX3_flood_8 (by decide) (i32_mk (by omega) (by omega)) (fun c4 => ?_) (fun c4 => ?_)
      · skip
        refine W.widen (k := 151) (n := 11553) (by omega) (by omega) ?_
        have hP := hP.sub (ws' := SW G hm adm ca1 n1 ua) [0, 1, 2, 3, 4, 5, 6, 7] rfl
        have hD := hD.sub (ws' := SW G hm adm ca1 n1 ua) [0, 1, 2, 3, 4, 5, 6, 7] (by decide) rfl
        exact W.vret hx hb hr (fun t ht hW => ⟨⟨(ua, ca1, n1), rfl, by (try dsimp only); exact ⟨oka, by obtain ⟨n9, hn9⟩ := hfl1; rcases n9 with _ | n9; (rw [hn9.2]; exact hrel1); (exact absurd (by omega) hn9.1)⟩, by rw [ht]; exact hP, hD⟩, hS.F ht⟩) hS.2.2 dX3_flood_29
      · skip
        obtain ⟨n9, hn9⟩ := hfl1
        rcases n9 with _ | n9
        · exact absurd (show va 0 0 = -1 by rw [hw]; exact hn9.1) (by omega)
        obtain ⟨hn1, r2, hbrk, okr2, hI2, hfl2⟩ := hn9
        have hwn := widF_neck hI1 hn1
        have e1 : va 0 1 = farF r1 (widF r1) := by rcases hw2 with z | z; (exact absurd z hn1); (exact z)
        have h71 := hI1.1.1
        have okL1 : (0 : Int) ≤ r1 7 0 ∧ r1 7 0 ≤ 150 := okr1 7 0
        have hbr2 : Brk r1 (va 0 0) (va 0 1) r2 := by rw [e1, hw]; exact hbrk
        have hnk2 : neckP r1 (va 0 0) (va 0 1) := by rw [e1, hw]; exact hwn.2
        have hnw := neckP_w hnk2
        have hg1 := hbr2.1
        have hg2 := hbr2.2.2.2.1
        have okL2 : (0 : Int) ≤ r2 7 0 ∧ r2 7 0 ≤ 150 := okr2 7 0
        have hfb := farF_b okr1 (widF r1)
        refine lv_aload_n hx hb dX3_flood_11 rfl (lv_at hl 0 rfl) ?_
        refine lv_aload_n hx hb dX3_flood_12 rfl (lv_at hl 1 rfl) ?_
        refine mf_iconst hx hb dX3_flood_13 ?_
        refine mf_iald (n := 3) (f := va 0) hx hb hK hP 8 0 rfl rfl (z := 0) (by omega) (by omega) (by first | decide | omega) dX3_flood_14 ?_
        refine lv_aload_n hx hb dX3_flood_15 rfl (lv_at hl 1 rfl) ?_
        refine mf_iconst hx hb dX3_flood_16 ?_
        refine mf_iald (n := 3) (f := va 0) hx hb hK hP 8 0 rfl rfl (z := 1) (by omega) (by omega) (by first | decide | omega) dX3_flood_17 ?_
        have hFc := va_free (wc := SW G hm adm ca1 n1 ua) hD hS hA [0, 1, 2, 3, 4, 5, 6, 7] rfl
        refine va_callv (va_runV (As := [.int (iI (va 0 0)), .int (iI (va 0 1))]) (rest := []) ⟨hx, hb, hml, hown, hts⟩ (c_X3_through l G hm adm ca1 n1 ua (va 0 0) (va 0 1) (r1) (i32_mk (by omega) (by omega)) (i32_mk (by omega) (by omega)) (by assumption) (by exact okr1) (by exact hI1) (by exact hrel1) (by exact hnk2) (by omega) _) (cwV 2 hts gX3_flood_X3_through rfl rfl rfl (by decide +kernel) ⟨Nat.le_of_ble_eq_true rfl, Nat.le_of_ble_eq_true rfl⟩) (wrV (wc := SW G hm adm ca1 n1 ua) hK hP hD hN [0, 1, 2, 3, 4, 5, 6, 7] (by decide) rfl rfl (ci := 3) rfl rfl) rfl rfl hl.1 rfl (lv_room (Nat.le_of_ble_eq_true rfl)) dX3_flood_18 ⟨(by rw [hcR]; omega), (by rw [hsR]; omega)⟩) hS (fun q _ h => hFc q h) hFc (fun u6 t H1 locs ht hvm hw hB hz1 hk1 hS => ?_)
        obtain ⟨ua7, cx8, nx9⟩ := u6
        try dsimp only at hw hB
        obtain ⟨hP, hD⟩ := wrJ2 (ws := SW G hm adm ca1 n1 ua ++ AW G qa 3 va) (wc := SW G hm adm ca1 n1 ua) (wr := AW G qa 3 va) (w1 := SW G hm adm cx8 nx9 ua7) hP hD [0, 1, 2, 3, 4, 5, 6, 7] [8] rfl rfl (by decide) (by decide) hk1 ht hFc hB
        have hP : va_P G.1 vwCl (SW G hm adm cx8 nx9 ua7 ++ AW G qa 3 va) H1 := hP.sub [1, 2, 3, 4, 5, 6, 7, 8, 0] rfl
        have hD : va_D A (SW G hm adm cx8 nx9 ua7 ++ AW G qa 3 va) := hD.sub [1, 2, 3, 4, 5, 6, 7, 8, 0] (by decide) rfl
        have hP : va_P G.1 vwCl (SW G hm adm cx8 nx9 ua7 ++ AW G qa 3 va) H1 := hP
        have hD : va_D A (SW G hm adm cx8 nx9 ua7 ++ AW G qa 3 va) := hD
        clear hB hk1 hFc ht hz1 hvm
        generalize H1 = H at hP hS ⊢
        have w10 := hw; clear hw
        have okua7 : rOK slo shi ua7 := w10.1
        have hrel2 := w10.2.2 r2 hI2 hbr2
        refine lv_aload_n hx hb dX3_flood_21 rfl (lv_at hl 0 rfl) ?_
        have hFc := va_free (wc := SW G hm adm cx8 nx9 ua7) hD hS hA [0, 1, 2, 3, 4, 5, 6, 7] rfl
        refine va_callr (va_runV (As := []) (rest := []) ⟨hx, hb, hml, hown, hts⟩ (c_X3_neck l G hm adm cx8 nx9 ua7 (r2) (by assumption) (by exact okr2) (by exact hI2) (by exact hrel2) _) (cwV 0 hts gX3_flood_X3_neck rfl rfl rfl (by decide +kernel) ⟨Nat.le_of_ble_eq_true rfl, Nat.le_of_ble_eq_true rfl⟩) (wrV (wc := SW G hm adm cx8 nx9 ua7) hK hP hD hN [0, 1, 2, 3, 4, 5, 6, 7] (by decide) rfl rfl (ci := 3) rfl rfl) rfl rfl hl.1 rfl (lv_room (Nat.le_of_ble_eq_true rfl)) dX3_flood_22 ⟨(by rw [hcR]; omega), (by rw [hsR]; omega)⟩) hS (fun q _ h => hFc q h) hFc (fun u12 q11 t H1 locs ht hvm hw hB hz1 hk1 hS => ?_)
        obtain ⟨hP, hD⟩ := wrJ2 (ws := SW G hm adm cx8 nx9 ua7 ++ AW G qa 3 va) (wc := SW G hm adm cx8 nx9 ua7) (wr := AW G qa 3 va) (w1 := SW G hm adm cx8 nx9 ua7 ++ AW G q11 3 u12) hP hD [0, 1, 2, 3, 4, 5, 6, 7] [8] rfl rfl (by decide) (by decide) hk1 ht hFc hB
        have hP : va_P G.1 vwCl (SW G hm adm cx8 nx9 ua7 ++ AW G qa 3 va ++ AW G q11 3 u12) H1 := hP.sub [1, 2, 3, 4, 5, 6, 7, 8, 0, 9] rfl
        have hD : va_D A (SW G hm adm cx8 nx9 ua7 ++ AW G qa 3 va ++ AW G q11 3 u12) := hD.sub [1, 2, 3, 4, 5, 6, 7, 8, 0, 9] (by decide +kernel) rfl
        have hP : va_P G.1 vwCl (SW G hm adm cx8 nx9 ua7 ++ AW G qa 3 va ++ AW G q11 3 u12) H1 := hP
        have hD : va_D A (SW G hm adm cx8 nx9 ua7 ++ AW G qa 3 va ++ AW G q11 3 u12) := hD
        clear hB hk1 hFc ht hz1 hvm
        generalize H1 = H at hP hS ⊢
        have w13 := hw; clear hw
        have hw3 := w13
        refine lv_astore_n (lv' := [(1, .ref q11), (0, .ref hm)]) hx hb dX3_flood_25 rfl hl (by decide) rfl (fun ls hl => ?_)
        have hP : va_P G.1 vwCl (SW G hm adm cx8 nx9 ua7 ++ AW G q11 3 u12) H := hP.sub [0, 1, 2, 3, 4, 5, 6, 7, 9] rfl
        have hD : va_D A (SW G hm adm cx8 nx9 ua7 ++ AW G q11 3 u12) := hD.sub [0, 1, 2, 3, 4, 5, 6, 7, 9] (by decide) rfl
        skip
        refine lv_goto (tgt := 5) hx hb dX3_flood_26 (by decide) ?_
        exact ih5 ua7 cx8 nx9 q11 u12 (r2) (cc + 2) (sc + 153) (by omega) (by first | assumption | omega) (by exact okr2) (by exact hI2) (by exact hrel2) (by exact hw3.1) (by exact hw3.2) (by exact ⟨n9, hfl2⟩) (by first | assumption | omega) (by first | assumption | omega) (by first | assumption | omega) _ _ hP hD hS ls (lv_sub hl [1, 0] rfl)
  exact lp5 (_ + 1) u ca nn q1 u2 (r) (1) (3) (Nat.lt_succ_self _) (by exact oku) (by exact ok) (by exact hI) (by exact hrel) (by exact hw0.1) (by exact hw0.2) (by exact hfl) (by first | assumption | omega) (by first | assumption | omega) (by first | assumption | omega) _ _ hP hD hS ls (lv_sub hl [1, 0] rfl)
