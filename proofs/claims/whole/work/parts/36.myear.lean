/-! 36.myear: a year of the reference -/
theorem frU_r (u : mf_V) : frU u u := ⟨rfl, rfl, rfl⟩
theorem frU_t {u q s : mf_V} (h : frU u q) (h2 : frU q s) : frU u s := ⟨h2.1.trans h.1, h2.2.1.trans h.2.1, h2.2.2.trans h.2.2⟩
theorem wearG_le (r : mf_V) {f : Int} (hf : f ≤ 9) (c : Int) : ∀ n : Nat, wearG r f n c ≤ r 1 c + 9 * n := by
  intro n
  induction n with
  | zero => rw [show ((0 : Nat) : Int) = 0 from rfl, wearG_0]; omega
  | succ n ih =>
    rw [show ((n + 1 : Nat) : Int) = (n : Int) + 1 from rfl]
    by_cases q : openP r (r 13 n)
    · rw [wearG_t r f (by omega) q]
      by_cases z : c = r 13 n
      · rw [← z, mf_up_s]; omega
      · rw [mf_up_n z]; omega
    · rw [wearG_f r f (by omega) q]; omega
theorem FloodN_br : ∀ (n : Nat) {r q : mf_V}, RInv r → FloodN n r q → q 9 0 + q 7 0 ≤ r 9 0 + r 7 0
  | 0, r, q, _, h => by obtain ⟨-, rfl⟩ := h; exact Int.le_refl _
  | n + 1, r, q, hI, h => by
    obtain ⟨hw, r1, h1, -, hI1, h2⟩ := h
    have g := FloodN_br n hI1 h2
    have e := neckP_w (widF_neck hI hw).2
    have a := h1.1
    have b := h1.2.2.2.1
    omega
theorem YearR_bd {r q : mf_V} {b Y : Int} (ok : rOK rlo rhi r) (hY : YearR r q b) (hB : bdP r Y) : bdP q (Y + 1) ∧ (b = 0 ∨ b = 1) := by
  obtain ⟨r1, r2, r3, h1f, h1w, ok1, hI1, hrip, ok2, hI2, hfl, ok3, hI3, hqf, hq8⟩ := hY
  obtain ⟨b8, b9, b1⟩ := hB
  have f9 : (0 : Int) ≤ r 5 (r 8 0 % 12) ∧ r 5 (r 8 0 % 12) ≤ 9 := ok 5 _
  have l9 : (0 : Int) ≤ r 7 0 ∧ r 7 0 ≤ 150 := ok 7 0
  have l2 : (0 : Int) ≤ r2 7 0 ∧ r2 7 0 ≤ 150 := ok2 7 0
  have l3 : (0 : Int) ≤ r3 7 0 ∧ r3 7 0 ≤ 150 := ok3 7 0
  have w1 : ∀ c, r1 1 c ≤ r 1 c + 1350 := fun c => by
    obtain ⟨n, hn⟩ := Int.eq_ofNat_of_zero_le l9.1
    have g := wearG_le r f9.2 c n
    rw [h1w, hn]
    omega
  have w2 : (∀ c, r2 1 c ≤ r1 1 c) ∧ r2 9 = r1 9 ∧ r2 8 = r1 8 ∧ (b = 0 ∨ b = 1) := by
    rcases hrip with ⟨-, z, zb⟩ | ⟨-, z, zb⟩
    · rw [z]; exact ⟨fun c => Int.le_refl _, rfl, rfl, Or.inl zb⟩
    · refine ⟨fun c => ?_, z.2.2.2.2.2.2.2, z.2.2.2.2.2.2.1, Or.inr zb⟩
      by_cases y : hitB r1 (ripF r1) (r1 12 (ripF r1)) c
      · have g := ((z.2.2.1 c).1 y).1
        have g2 : (0 : Int) ≤ r1 1 c ∧ r1 1 c ≤ 200000000 := ok1 1 c
        omega
      · have g := ((z.2.2.1 c).2 y).1
        omega
  have w3 : r3 1 = r2 1 ∧ r3 9 0 ≤ r2 9 0 + 150 := by
    rcases hfl with ⟨-, n, z⟩ | ⟨-, z⟩
    · have g := FloodN_br n hI2 z
      exact ⟨(FloodN_fr6 n z).2.1, by omega⟩
    · rw [z]; exact ⟨rfl, by omega⟩
  have e9 : r2 9 0 = r 9 0 := by rw [w2.2.1, h1f 9 (by decide)]
  refine ⟨⟨by omega, by rw [hqf 9 (by decide)]; omega, fun c => ?_⟩, w2.2.2.2⟩
  rw [hqf 1 (by decide), w3.1]
  have g1 := w2.1 c
  have g2 := w1 c
  have g3 := b1 c
  omega
theorem YearsN_h : ∀ (n : Nat) {r q : mf_V} {b : Int}, rOK rlo rhi r → RInv r → YearsN (n + 1) r q b → ∃ (r1 : mf_V) (b1 b2 : Int), YearR r r1 b1 ∧ (0 < n → rOK rlo rhi r1 ∧ RInv r1) ∧ YearsN n r1 q b2 ∧ b = b1 + b2
  | 0, r, q, b, ok, hI, h => by
    obtain ⟨r1, b1, b2, ⟨rfl, rfl⟩, -, -, h3, h4⟩ := h
    exact ⟨q, b2, 0, h3, fun z => absurd z (Nat.lt_irrefl 0), ⟨rfl, rfl⟩, by omega⟩
  | n + 1, r, q, b, ok, hI, h => by
    obtain ⟨r1, b1, b2, h1, ok1, hI1, h3, h4⟩ := h
    obtain ⟨r2, c1, c2, g1, g2, g3, g4⟩ := YearsN_h n ok hI h1
    cases n with
    | zero =>
      obtain ⟨rfl, rfl⟩ := g3
      exact ⟨r1, c1, b2, g1, fun _ => ⟨ok1, hI1⟩, ⟨r1, 0, b2, ⟨rfl, rfl⟩, ok1, hI1, h3, by omega⟩, by omega⟩
    | succ m => exact ⟨r2, c1, c2 + b2, g1, fun _ => g2 (by omega), ⟨r1, c2, b2, g3, ok1, hI1, h3, rfl⟩, by omega⟩
/-- wear laid on a bank -/
theorem wearRel {r u w : mf_V} {c v : Int} (hrel : relU r u) (f1 : w 8 c = v) (f2 : ∀ y, y ≠ c → w 8 y = u 8 y) (f3 : ∀ k, k ≠ 8 → w k = u k) : relU (mf_sF r 1 (mf_up (r 1) c v)) w := by
  obtain ⟨e1, e2, e3, e6, e7, e8, e9, m0, m1, m2⟩ := hrel
  refine ⟨fun z z0 z1 => by rw [f3 1 (by decide), mf_sF_n (by decide)]; exact e1 z z0 z1, fun z z0 z1 => by rw [f3 2 (by decide), mf_sF_n (by decide)]; exact e2 z z0 z1, fun z z0 z1 => by rw [f3 3 (by decide), mf_sF_n (by decide)]; exact e3 z z0 z1, fun z z0 z1 => by rw [mf_sF_n (by decide)] at z1; rw [f3 6 (by decide), mf_sF_n (by decide)]; exact e6 z z0 z1, fun z z0 z1 => by rw [f3 7 (by decide), mf_sF_n (by decide)]; exact e7 z z0 z1, fun z z0 z1 => ?_, fun z z0 z1 => ?_, by rw [f3 10 (by decide), mf_sF_n (by decide)]; exact m0, by rw [f3 10 (by decide), mf_sF_n (by decide)]; exact m1, by rw [f3 10 (by decide), mf_sF_n (by decide)]; exact m2⟩
  · rw [mf_sF_s]
    by_cases y : z = c
    · rw [y, f1, mf_up_s]
    · rw [f2 z y, mf_up_n y]; exact e8 z z0 z1
  · rw [f3 9 (by decide), e9 z z0 z1, lyl_in z0 z1, lyl_in z0 z1, mf_sF_n (by decide), mf_sF_n (by decide)]
/-- the end of a year -/
theorem yearRel {r u q w : mf_V} (hrel : relU r u) (hqf : ∀ k, k ≠ 8 → q k = r k) (hq8 : q 8 0 = r 8 0 + 1) (h9 : ∀ z, 0 ≤ z → z < 384 → w 9 z = max 0 (lyl r z - 1)) (fr : ∀ k, k ≠ 9 → k ≠ 10 → w k = u k) (n0 : w 10 0 = r 8 0 + 1) (n1 : w 10 1 = u 10 1) (n2 : w 10 2 = u 10 2) : relU q w := by
  obtain ⟨e1, e2, e3, e6, e7, e8, e9, m0, m1, m2⟩ := hrel
  refine ⟨fun z z0 z1 => by rw [fr 1 (by decide) (by decide), hqf 0 (by decide)]; exact e1 z z0 z1, fun z z0 z1 => by rw [fr 2 (by decide) (by decide), hqf 2 (by decide)]; exact e2 z z0 z1, fun z z0 z1 => by rw [fr 3 (by decide) (by decide), hqf 5 (by decide)]; exact e3 z z0 z1, fun z z0 z1 => by rw [hqf 7 (by decide)] at z1; rw [fr 6 (by decide) (by decide), hqf 6 (by decide)]; exact e6 z z0 z1, fun z z0 z1 => by rw [fr 7 (by decide) (by decide), hqf 10 (by decide)]; exact e7 z z0 z1, fun z z0 z1 => by rw [fr 8 (by decide) (by decide), hqf 1 (by decide)]; exact e8 z z0 z1, fun z z0 z1 => ?_, by rw [n0, hq8], by rw [n1, hqf 9 (by decide)]; exact m1, by rw [n2, hqf 7 (by decide)]; exact m2⟩
  rw [h9 z z0 z1, lyl_in z0 z1, lyl_in z0 z1, hqf 3 (by decide), hq8]
  omega
theorem bank_side {r : mf_V} (hI : RInv r) {i : Int} (h0 : 0 ≤ i) (h1 : i < r 7 0) (h : ¬ r 13 i = -1) : ¬ r 12 i = -1 := fun z => h (by rw [(hI.2.2.2 i h0 h1).2, z]; exact nbr_dm1 _)
set_option maxHeartbeats 4000000 in
set_option maxRecDepth 100000 in
theorem c_X3_flood (l : Launch) (G : mf_G) (hm : Nat) (adm : Nat → Nat) (u : mf_V)  (r : mf_V) (q : mf_V) (oku : rOK ulo uhi u) (ok : rOK rlo rhi r) (hI : RInv r) (hrel : relU r u) (hfl : Flood r q) (hbk : r 9 0 + 150 ≤ 100000000) (sz : Nat) : Met l yX3_flood wsX3_flood ({ frames := 5, cells := 0, slots := 0, locals := 112 }) (va_Pc [.ref hm] (WrP G (MW G hm adm u) sz)) (va_Qv (fun (u' : mf_V) => rOK ulo uhi u' ∧ relU q u' ∧ frU u u') (fun (u' : mf_V) t => WrQ G (va_A (MW G hm adm u) sz) (MW G hm adm u') t) (va_A (MW G hm adm u) sz)) 0 0 (va_A (MW G hm adm u) sz) := by
  refine Met.ofW (cc := cX3_flood) (maxL := 2) (ret := none) (by decide) rfl ?_
  intro p e s m args below meth c s₁ B hml hv
  obtain ⟨rfl, hsz, hP, hK, hD0, hN⟩ := hv
  have hx := B.exec
  have hb := B.bytes
  have hr := B.returns
  have hts := atoms_spec (ws := wsX3_flood) B.pre
  have hown : s.vm.findClass RX3 = some m.cls := findClass_of_methodNamed B.named
  have hlocks := B.notSynchronized
  subst hsz
  have hD := hD0.self (sz := s.heap.size)
  generalize hAe : va_A (MW G hm adm u) s.heap.size = A at hD ⊢
  have hA : ∀ q : Nat, s.heap.size ≤ q → A q := fun q h => by rw [← hAe]; exact Or.inr h
  have hS : va_S A s.heap s.heap [] := va_S.rf
  have hl := lv_entry ([.ref hm]) (n := 2) (Nat.le_of_ble_eq_true rfl)
  rw [lg_entry_eq]
  generalize (lg_sl ([.ref hm]) ++ List.replicate (2 - (lg_sl ([.ref hm])).length) Slot.unset).toArray = ls at hl ⊢
  have hl : lv_has ls 2 [(0, .ref hm)] := hl
  have okLr : (0 : Int) ≤ r 7 0 ∧ r 7 0 ≤ 150 := ok 7 0
  refine lv_aload_n hx hb dX3_flood_0 rfl (lv_at hl 0 rfl) ?_
  refine vp_callSi (va_Run.run (va_runV (As := []) (rest := []) ⟨hx, hb, hml, hown, hts⟩ (c_X3_first l G hm adm u (r) (by assumption) (by assumption) (by first | assumption | omega) (by first | assumption | omega)) (cwV 0 hts gX3_flood_X3_first rfl rfl rfl (by decide +kernel) ⟨Nat.le_of_ble_eq_true rfl, Nat.le_of_ble_eq_true rfl⟩) (rdV (wc := MW G hm adm u) hK hP hN [0, 1, 2, 3, 4, 5, 6, 7, 8, 9] rfl (ci := 3) rfl rfl) rfl rfl hl.1 rfl (lv_room (Nat.le_of_ble_eq_true rfl)) dX3_flood_1 ⟨(Nat.zero_le _), (Nat.zero_le _)⟩)) (fun q1 hq1 => ?_)
  subst hq1
  refine mf_nm (fun y2 ey2 => ?_)
  have b3 : -1 ≤ y2 ∧ y2 ≤ 149 := by rw [ey2]; exact widF_b (by assumption)
  refine lv_istore_n (lv' := [(1, .int (iI (y2))), (0, .ref hm)]) hx hb dX3_flood_4 rfl hl (by decide) rfl (fun ls hl => ?_)
  have lp5 : ∀ (n : Nat) (iv : Int) (u1 : mf_V) (r1 : mf_V), (r1 7 0).toNat < n → (rOK ulo uhi u1) → (rOK rlo rhi r1) → (RInv r1) → (relU r1 u1) → (frU u u1) → (-1 ≤ iv ∧ iv ≤ 149) → (iv = widF r1) → (Flood r1 q) → (r1 9 0 + r1 7 0 ≤ r 9 0 + r 7 0) → ∀ (H : Heap) (locs : List Loc), va_P G.1 vwCl (MW G hm adm u1) H → va_D A (MW G hm adm u1) → va_S A s.heap H locs → ∀ (ls : Array Slot), lv_has ls 2 [(0, .ref hm), (1, .int (iI (iv)))] → W p l e (headSpec wsX3_flood ({ frames := 5, cells := 0, slots := 0, locals := 112 })).room s m ([.ref hm] : List Value).toArray below meth c H locs 0 0 (MQ below (va_Qv (fun (u' : mf_V) => rOK ulo uhi u' ∧ relU q u' ∧ frU u u') (fun (u' : mf_V) t => WrQ G A (MW G hm adm u') t) A) ([.ref hm] : List Value).toArray s 0 0 A) (F0 m 5 ls []) := by
    intro n
    induction n with
    | zero => intro iv u1 r1 hn; exact absurd hn (Nat.not_lt_zero _)
    | succ n ih5 =>
      intro iv u1 r1 hn oku1 okr1 hI1 hrel1 hfr hib hw hfl1 hb1 H locs hP hD hS ls hl
      refine lv_iload_n hx hb dX3_flood_5 rfl (lv_at hl 1 rfl) ?_
      refine mf_iconst hx hb dX3_flood_6 ?_
      refine mf_icmp_eq (tgt := 28) hx hb dX3_flood_7 (by decide) (i32_mk (by omega) (by omega)) (i32_mk (by decide) (by decide)) (fun c4 => ?_) (fun c4 => ?_)
      · skip
        exact W.vret hx hb hr (fun t ht hW => ⟨⟨u1, rfl, by exact ⟨oku1, by obtain ⟨n9, hn9⟩ := hfl1; rcases n9 with _ | n9; (rw [hn9.2]; exact hrel1); (exact absurd (by rw [← hw]; assumption) hn9.1), hfr⟩, by rw [ht]; exact hP, hD⟩, hS.F ht⟩) hS.2.2 dX3_flood_28
      · skip
        obtain ⟨n9, hn9⟩ := hfl1
        rcases n9 with _ | n9
        · exact absurd (show iv = -1 by rw [hw]; exact hn9.1) (by assumption)
        obtain ⟨hn1, r2, hbrk, okr2, hI2, hfl2⟩ := hn9
        have hwn := widF_neck hI1 hn1
        rw [← hw] at hwn hbrk
        have h71 := hI1.1.1
        have okL1 : (0 : Int) ≤ r1 7 0 ∧ r1 7 0 ≤ 150 := okr1 7 0
        refine lv_aload_n hx hb dX3_flood_10 rfl (lv_at hl 0 rfl) ?_
        refine lv_iload_n hx hb dX3_flood_11 rfl (lv_at hl 1 rfl) ?_
        refine lv_aload_n hx hb dX3_flood_12 rfl (lv_at hl 0 rfl) ?_
        refine lv_iload_n hx hb dX3_flood_13 rfl (lv_at hl 1 rfl) ?_
        refine vp_callSi (va_Run.run (va_runV (As := [.int (iI (iv))]) (rest := [.int (iI (iv)), .ref hm]) ⟨hx, hb, hml, hown, hts⟩ (c_X3_far l G hm adm u1 (iv) (r1) (i32_mk (by omega) (by omega)) (by assumption) (by assumption) (by first | assumption | omega) (by first | assumption | omega) (by first | assumption | omega)) (cwV 1 hts gX3_flood_X3_far rfl rfl rfl (by decide +kernel) ⟨Nat.le_of_ble_eq_true rfl, Nat.le_of_ble_eq_true rfl⟩) (rdV (wc := MW G hm adm u1) hK hP hN [0, 1, 2, 3, 4, 5, 6, 7, 8, 9] rfl (ci := 3) rfl rfl) rfl rfl hl.1 rfl (lv_room (Nat.le_of_ble_eq_true rfl)) dX3_flood_14 ⟨(Nat.zero_le _), (Nat.zero_le _)⟩)) (fun q5 hq5 => ?_)
        subst hq5
        refine mf_nm (fun y6 ey6 => ?_)
        have b7 : -1 ≤ y6 ∧ y6 ≤ 149 := by rw [ey6]; exact farF_b (by assumption) iv
        have hbr2 : Brk r1 iv y6 r2 := by rw [ey6]; exact hbrk
        have hnk2 : neckP r1 iv y6 := by rw [ey6]; exact hwn.2
        have hnw := neckP_w hnk2
        have hFc := va_free (wc := MW G hm adm u1) hD hS hA [0, 1, 2, 3, 4, 5, 6, 7, 8, 9] rfl
        refine va_callv (va_runV (As := [.int (iI (iv)), .int (iI (y6))]) (rest := []) ⟨hx, hb, hml, hown, hts⟩ (c_X3_breakThrough l G hm adm u1 (iv) (y6) (r1) (r2) (i32_mk (by omega) (by omega)) (i32_mk (by omega) (by omega)) (by assumption) (by exact okr1) (by exact hI1) (by exact hrel1) (by exact okr2) (by exact hI2) (by exact hnk2) (by exact hbr2) (by omega) _) (cwV 2 hts gX3_flood_X3_breakThrough rfl rfl rfl (by decide +kernel) ⟨Nat.le_of_ble_eq_true rfl, Nat.le_of_ble_eq_true rfl⟩) (wrV (wc := MW G hm adm u1) hK hP hD hN [0, 1, 2, 3, 4, 5, 6, 7, 8, 9] (by decide) rfl rfl (ci := 3) rfl rfl) rfl rfl hl.1 rfl (lv_room (Nat.le_of_ble_eq_true rfl)) dX3_flood_17 ⟨(Nat.zero_le _), (Nat.zero_le _)⟩) hS (fun q _ h => hFc q h) hFc (fun u9 t H1 locs ht hvm hw hB hz1 hk1 hS => ?_)
        obtain ⟨u10, rfl⟩ : ∃ z, z = u9 := ⟨_, rfl⟩
        try dsimp only at hw hB
        obtain ⟨hP, hD⟩ := wrJ (ws := MW G hm adm u1) (w1 := MW G hm adm u10) ht hFc hB
        have hP : va_P G.1 vwCl (MW G hm adm u10) H1 := hP
        have hD : va_D A (MW G hm adm u10) := hD
        clear hB hk1 hFc ht hz1 hvm
        generalize H1 = H at hP hS ⊢
        have w11 := hw; clear hw
        have oku10 : rOK ulo uhi u10 := w11.1
        have hrel2 := w11.2.1
        have hfr2 := frU_t hfr w11.2.2
        have hg1 := hbr2.1
        have hg2 := hbr2.2.2.2.1
        refine lv_aload_n hx hb dX3_flood_20 rfl (lv_at hl 0 rfl) ?_
        refine vp_callSi (va_Run.run (va_runV (As := []) (rest := []) ⟨hx, hb, hml, hown, hts⟩ (c_X3_first l G hm adm u10 (r2) (by assumption) (by exact okr2) (by exact hI2) (by exact hrel2)) (cwV 0 hts gX3_flood_X3_first rfl rfl rfl (by decide +kernel) ⟨Nat.le_of_ble_eq_true rfl, Nat.le_of_ble_eq_true rfl⟩) (rdV (wc := MW G hm adm u10) hK hP hN [0, 1, 2, 3, 4, 5, 6, 7, 8, 9] rfl (ci := 3) rfl rfl) rfl rfl hl.1 rfl (lv_room (Nat.le_of_ble_eq_true rfl)) dX3_flood_21 ⟨(Nat.zero_le _), (Nat.zero_le _)⟩)) (fun q12 hq12 => ?_)
        subst hq12
        refine mf_nm (fun y13 ey13 => ?_)
        have b14 : -1 ≤ y13 ∧ y13 ≤ 149 := by rw [ey13]; exact widF_b (by assumption)
        refine lv_istore_n (lv' := [(1, .int (iI (y13))), (0, .ref hm)]) hx hb dX3_flood_24 rfl hl (by decide) rfl (fun ls hl => ?_)
        refine lv_goto (tgt := 5) hx hb dX3_flood_25 (by decide) ?_
        exact ih5 y13 u10 (r2) (by omega) (by first | assumption | omega) (by exact okr2) (by exact hI2) (by exact hrel2) (by exact hfr2) (by first | assumption | omega) (by first | assumption | omega) (by exact ⟨n9, hfl2⟩) (by first | assumption | omega) _ _ hP hD hS ls (lv_sub hl [1, 0] rfl)
  exact lp5 (_ + 1) y2 u (r) (Nat.lt_succ_self _) (by first | assumption | omega) (by exact ok) (by exact hI) (by exact hrel) (by exact frU_r u) (by first | assumption | omega) (by first | assumption | omega) (by exact hfl) (by first | assumption | omega) _ _ hP hD hS ls (lv_sub hl [1, 0] rfl)
