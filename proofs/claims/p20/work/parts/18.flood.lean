/-! 18.flood: a flood -/
theorem farG_mem (r : mf_V) (i : Int) : ∀ n : Nat, farG r i n = -1 ∨ ∃ d, farG r i n = placeOfF r (nbr (cellAtF r i) d) ∧ 3 ≤ farG r i n - i := by
  intro n
  induction n with
  | zero => exact Or.inl rfl
  | succ n ih =>
    rw [show ((n + 1 : Nat) : Int) = (n : Int) + 1 from rfl, farG_s r i (by omega)]
    by_cases q : 3 ≤ placeOfF r (nbr (cellAtF r i) n) - i ∧ farG r i n < placeOfF r (nbr (cellAtF r i) n)
    · rw [mf_if_t q]; exact Or.inr ⟨n, rfl, q.1⟩
    · rw [mf_if_f q]; exact ih
theorem farF_neck {r : mf_V} (hI : RInv r) {i : Int} (h0 : 0 ≤ i) (h1 : i < r 7 0) (h : ¬ farF r i = -1) : neckP r i (farF r i) := by
  rcases farG_mem r i 4 with z | ⟨d, z1, z2⟩
  · exact absurd z h
  · have e : farF r i = placeOfF r (nbr (cellAtF r i) d) := z1
    have e2 : 3 ≤ farF r i - i := z2
    rw [cellAtF_in h0 h1] at e
    by_cases q : 0 ≤ nbr (r 6 i) d ∧ nbr (r 6 i) d < 384
    · have e3 : farF r i = r 10 (nbr (r 6 i) d) := by rw [e]; exact mf_if_t q
      rcases hI.2.2.1.2 _ q.1 q.2 with y | ⟨y1, y2, y3⟩
      · omega
      · rw [← e3] at y1 y2 y3
        refine ⟨inC_mk h0 h1, inC_mk y1 y2, e2, ?_⟩
        rw [y3]
        exact adj_of rfl (by omega)
    · have e3 : farF r i = -1 := by rw [e]; exact mf_if_f q
      omega
theorem widG_mem (r : mf_V) : ∀ n : Nat, (widG r n).1 = -1 ∨ (0 ≤ (widG r n).1 ∧ (widG r n).1 < n ∧ farF r (widG r n).1 - (widG r n).1 = (widG r n).2 ∧ 0 < (widG r n).2) := by
  intro n
  induction n with
  | zero => exact Or.inl rfl
  | succ n ih =>
    rw [show ((n + 1 : Nat) : Int) = (n : Int) + 1 from rfl]
    have b : 0 ≤ (widG r n).2 := by
      clear ih
      induction n with
      | zero => rw [show ((0 : Nat) : Int) = 0 from rfl, widG_0]; decide
      | succ n ih =>
        rw [show ((n + 1 : Nat) : Int) = (n : Int) + 1 from rfl]
        by_cases q : (widG r n).2 < farF r n - n
        · rw [widG_t r (by omega) q]; dsimp only; omega
        · rw [widG_f r (by omega) q]; exact ih
    by_cases q : (widG r n).2 < farF r n - n
    · rw [widG_t r (by omega) q]; dsimp only; exact Or.inr ⟨by omega, by omega, rfl, by omega⟩
    · rw [widG_f r (by omega) q]
      rcases ih with z | ⟨z1, z2, z3, z4⟩
      · exact Or.inl z
      · exact Or.inr ⟨z1, by omega, z3, z4⟩
theorem widF_neck {r : mf_V} (hI : RInv r) (h : ¬ widF r = -1) : (0 ≤ widF r ∧ widF r < r 7 0) ∧ neckP r (widF r) (farF r (widF r)) := by
  have h2 := hI.1.1
  obtain ⟨n, hn⟩ := Int.eq_ofNat_of_zero_le (show 0 ≤ r 7 0 by omega)
  have g := widG_mem r n
  unfold widF at h ⊢
  rw [hn] at h ⊢
  rcases g with z | ⟨z1, z2, z3, z4⟩
  · exact absurd z h
  · exact ⟨⟨z1, z2⟩, farF_neck hI z1 (by omega) (by omega)⟩
/-- a flood of n breaks -/
def FloodN : Nat → mf_V → mf_V → Prop
  | 0, r, q => widF r = -1 ∧ q = r
  | n + 1, r, q => ¬ widF r = -1 ∧ ∃ r1, Brk r (widF r) (farF r (widF r)) r1 ∧ rOK rlo rhi r1 ∧ RInv r1 ∧ FloodN n r1 q
def Flood (r q : mf_V) : Prop := ∃ n, FloodN n r q
def fr6 (r q : mf_V) : Prop := q 0 = r 0 ∧ q 1 = r 1 ∧ q 2 = r 2 ∧ q 4 = r 4 ∧ q 5 = r 5 ∧ q 8 = r 8
theorem Brk_fr6 {r q : mf_V} {i j : Int} (h : Brk r i j q) : fr6 r q := ⟨h.2.2.2.2.1, h.2.2.2.2.2.1, h.2.2.2.2.2.2.1, h.2.2.2.2.2.2.2.1, h.2.2.2.2.2.2.2.2.1, h.2.2.2.2.2.2.2.2.2⟩
theorem fr6_t {r q s : mf_V} (h : fr6 r q) (h2 : fr6 q s) : fr6 r s := ⟨h2.1.trans h.1, h2.2.1.trans h.2.1, h2.2.2.1.trans h.2.2.1, h2.2.2.2.1.trans h.2.2.2.1, h2.2.2.2.2.1.trans h.2.2.2.2.1, h2.2.2.2.2.2.trans h.2.2.2.2.2⟩
theorem fr6_r (r : mf_V) : fr6 r r := ⟨rfl, rfl, rfl, rfl, rfl, rfl⟩
theorem FloodN_fr6 : ∀ (n : Nat) {r q : mf_V}, FloodN n r q → fr6 r q
  | 0, r, q, h => by obtain ⟨-, rfl⟩ := h; exact fr6_r _
  | n + 1, r, q, h => by obtain ⟨-, r1, h1, -, -, h2⟩ := h; exact fr6_t (Brk_fr6 h1) (FloodN_fr6 n h2)
set_option maxHeartbeats 4000000 in
set_option maxRecDepth 100000 in
theorem c_X1_flood (l : Launch) (G : mf_G) (h : Nat) (ad : Nat → Nat) (r : mf_V)  (ok : rOK rlo rhi r) (hI : RInv r) (hbk : r 9 0 + 150 ≤ 100000000) (sz : Nat) : Met l yX1_flood wsX1_flood ({ frames := 4, cells := 0, slots := 0, locals := 92 }) (va_Pc [.ref h] (WrP G (RW G h ad r) sz)) (va_Qv (fun (r' : mf_V) => rOK rlo rhi r' ∧ Flood r r' ∧ RInv r' ∧ fr6 r r' ∧ r' 9 0 ≤ r 9 0 + 150) (fun (r' : mf_V) t => WrQ G (va_A (RW G h ad r) sz) (RW G h ad r') t) (va_A (RW G h ad r) sz)) 0 0 (va_A (RW G h ad r) sz) := by
  refine Met.ofW (cc := cX1_flood) (maxL := 3) (ret := none) (by decide) rfl ?_
  intro p e s m args below meth c s₁ B hml hv
  obtain ⟨rfl, hsz, hP, hK, hD0, hN⟩ := hv
  have hx := B.exec
  have hb := B.bytes
  have hr := B.returns
  have hts := atoms_spec (ws := wsX1_flood) B.pre
  have hown : s.vm.findClass RX1 = some m.cls := findClass_of_methodNamed B.named
  have hlocks := B.notSynchronized
  subst hsz
  have hD := hD0.self (sz := s.heap.size)
  generalize hAe : va_A (RW G h ad r) s.heap.size = A at hD ⊢
  have hA : ∀ q : Nat, s.heap.size ≤ q → A q := fun q h => by rw [← hAe]; exact Or.inr h
  have hS : va_S A s.heap s.heap [] := va_S.rf
  have hl := lv_entry ([.ref h]) (n := 3) (Nat.le_of_ble_eq_true rfl)
  rw [lg_entry_eq]
  generalize (lg_sl ([.ref h]) ++ List.replicate (3 - (lg_sl ([.ref h])).length) Slot.unset).toArray = ls at hl ⊢
  have hl : lv_has ls 3 [(0, .ref h)] := hl
  have okLr : (0 : Int) ≤ r 7 0 ∧ r 7 0 ≤ 150 := ok 7 0
  refine mf_iconst hx hb dX1_flood_0 ?_
  refine lv_istore_n (lv' := [(1, .int (iI (0))), (0, .ref h)]) hx hb dX1_flood_1 rfl hl (by decide) rfl (fun ls hl => ?_)
  have lp2 : ∀ (n : Nat) (kv : Int) (r1 : mf_V), (150 - kv).toNat < n → (0 ≤ kv) → (rOK rlo rhi r1) → (RInv r1) → (r1 7 0 + 2 * kv ≤ r 7 0) → (r1 9 0 + r1 7 0 ≤ r 9 0 + r 7 0) → (fr6 r r1) → (∀ n q, FloodN n r1 q → ∃ m, FloodN m r q) → ∀ (H : Heap) (locs : List Loc), va_P G.1 vwCl (RW G h ad r1) H → va_D A (RW G h ad r1) → va_S A s.heap H locs → ∀ (ls : Array Slot), lv_has ls 3 [(0, .ref h), (1, .int (iI (kv)))] → W p l e (headSpec wsX1_flood ({ frames := 4, cells := 0, slots := 0, locals := 92 })).room s m ([.ref h] : List Value).toArray below meth c H locs 0 0 (MQ below (va_Qv (fun (r' : mf_V) => rOK rlo rhi r' ∧ Flood r r' ∧ RInv r' ∧ fr6 r r' ∧ r' 9 0 ≤ r 9 0 + 150) (fun (r' : mf_V) t => WrQ G A (RW G h ad r') t) A) ([.ref h] : List Value).toArray s 0 0 A) (F0 m 2 ls []) := by
    intro n
    induction n with
    | zero => intro kv r1 hn; exact absurd hn (Nat.not_lt_zero _)
    | succ n ih2 =>
      intro kv r1 hn hk okr1 hI1 hlen hbr hfr hs H locs hP hD hS ls hl
      have hl1 := hI1.1.1
      have hl2 : (0 : Int) ≤ r1 7 0 ∧ r1 7 0 ≤ 150 := okr1 7 0
      refine lv_iload_n hx hb dX1_flood_2 rfl (lv_at hl 1 rfl) ?_
      refine mf_sipush hx hb dX1_flood_3 rfl ?_
      refine mf_icmp_ge (tgt := 36) hx hb dX1_flood_6 (by decide) (i32_mk (by omega) (by omega)) (i32_mk (by decide) (by decide)) (fun c1 => ?_) (fun c1 => ?_)
      · skip
        exact absurd c1 (by omega)
      · skip
        refine lv_aload_n hx hb dX1_flood_9 rfl (lv_at hl 0 rfl) ?_
        refine vp_callSi (va_Run.run (va_runV (As := []) (rest := []) ⟨hx, hb, hml, hown, hts⟩ (c_X1_widestNeck l G h ad r1 (by assumption)) (cwV 0 hts gX1_flood_X1_widestNeck rfl rfl rfl (by decide +kernel) ⟨Nat.le_of_ble_eq_true rfl, Nat.le_of_ble_eq_true rfl⟩) (rdV (wc := RW G h ad r1) hK hP hN [0, 1, 2, 3, 4, 5, 6, 7, 8, 9, 10, 11] rfl (ci := 1) rfl rfl) rfl rfl hl.1 rfl (lv_room (Nat.le_of_ble_eq_true rfl)) dX1_flood_10 ⟨(Nat.zero_le _), (Nat.zero_le _)⟩)) (fun q2 hq2 => ?_)
        subst hq2
        refine mf_nm (fun y3 ey3 => ?_)
        have b4 : -1 ≤ y3 ∧ y3 ≤ 149 := by rw [ey3]; exact widF_b (by assumption)
        refine lv_istore_n (lv' := [(2, .int (iI (y3))), (0, .ref h), (1, .int (iI (kv)))]) hx hb dX1_flood_13 rfl hl (by decide) rfl (fun ls hl => ?_)
        refine lv_iload_n hx hb dX1_flood_14 rfl (lv_at hl 0 rfl) ?_
        refine mf_iconst hx hb dX1_flood_15 ?_
        refine mf_icmp_ne (tgt := 20) hx hb dX1_flood_16 (by decide) (i32_mk (by omega) (by omega)) (i32_mk (by decide) (by decide)) (fun c5 => ?_) (fun c5 => ?_)
        · skip
          refine lv_aload_n hx hb dX1_flood_20 rfl (lv_at hl 1 rfl) ?_
          refine lv_iload_n hx hb dX1_flood_21 rfl (lv_at hl 0 rfl) ?_
          refine lv_aload_n hx hb dX1_flood_22 rfl (lv_at hl 1 rfl) ?_
          refine lv_iload_n hx hb dX1_flood_23 rfl (lv_at hl 0 rfl) ?_
          refine vp_callSi (va_Run.run (va_runV (As := [.int (iI (y3))]) (rest := [.int (iI (y3)), .ref h]) ⟨hx, hb, hml, hown, hts⟩ (c_X1_farthestAcross l G h ad r1 (y3) (i32_mk (by omega) (by omega)) (by assumption) (by first | assumption | omega)) (cwV 1 hts gX1_flood_X1_farthestAcross rfl rfl rfl (by decide +kernel) ⟨Nat.le_of_ble_eq_true rfl, Nat.le_of_ble_eq_true rfl⟩) (rdV (wc := RW G h ad r1) hK hP hN [0, 1, 2, 3, 4, 5, 6, 7, 8, 9, 10, 11] rfl (ci := 1) rfl rfl) rfl rfl hl.1 rfl (lv_room (Nat.le_of_ble_eq_true rfl)) dX1_flood_24 ⟨(Nat.zero_le _), (Nat.zero_le _)⟩)) (fun q6 hq6 => ?_)
          subst hq6
          refine mf_nm (fun y7 ey7 => ?_)
          have b8 : -1 ≤ y7 ∧ y7 ≤ 149 := by rw [ey7]; exact farF_b (by assumption) y3
          have hw := widF_neck hI1 (by rw [← ey3]; assumption)
          rw [← ey3, ← ey7] at hw
          have l7 := neckP_w hw.2
          have l6 : (0 : Int) ≤ r1 9 0 ∧ r1 9 0 ≤ 100000000 := okr1 9 0
          have hFc := va_free (wc := RW G h ad r1) hD hS hA [0, 1, 2, 3, 4, 5, 6, 7, 8, 9, 10, 11] rfl
          refine va_callv (va_runV (As := [.int (iI (y3)), .int (iI (y7))]) (rest := []) ⟨hx, hb, hml, hown, hts⟩ (c_X1_breakThrough l G h ad r1 (y3) (y7) (i32_mk (by omega) (by omega)) (i32_mk (by omega) (by omega)) (by assumption) (by first | assumption | omega) (by exact hw.2) (by first | assumption | omega) _) (cwV 2 hts gX1_flood_X1_breakThrough rfl rfl rfl (by decide +kernel) ⟨Nat.le_of_ble_eq_true rfl, Nat.le_of_ble_eq_true rfl⟩) (wrV (wc := RW G h ad r1) hK hP hD hN [0, 1, 2, 3, 4, 5, 6, 7, 8, 9, 10, 11] (by decide) rfl rfl (ci := 1) rfl rfl) rfl rfl hl.1 rfl (lv_room (Nat.le_of_ble_eq_true rfl)) dX1_flood_27 ⟨(Nat.zero_le _), (Nat.zero_le _)⟩) hS (fun q _ h => hFc q h) hFc (fun u10 t H1 locs ht hvm hw hB hz1 hk1 hS => ?_)
          obtain ⟨r11, rfl⟩ : ∃ z, z = u10 := ⟨_, rfl⟩
          try dsimp only at hw hB
          obtain ⟨hP, hD⟩ := wrJ (ws := RW G h ad r1) (w1 := RW G h ad r11) ht hFc hB
          have hP : va_P G.1 vwCl (RW G h ad r11) H1 := hP
          have hD : va_D A (RW G h ad r11) := hD
          clear hB hk1 hFc ht hz1 hvm
          generalize H1 = H at hP hS ⊢
          have w12 := hw; clear hw
          have okr11 : rOK rlo rhi r11 := w12.1
          have l9 := w12.2.1.1
          have l8 := w12.2.1.2.2.2.1
          refine lv_iinc (v := iI (kv + 1)) (lv' := [(1, .int (iI (kv + 1))), (2, .int (iI (y3))), (0, .ref h)]) hx hb dX1_flood_30 hl (k := 2) rfl (iI_add _ _).symm (by decide) rfl (fun ls hl => ?_)
          refine lv_goto (tgt := 2) hx hb dX1_flood_33 (by decide) ?_
          exact ih2 (kv + 1) r11 (by omega) (by first | assumption | omega) (by first | assumption | omega) (by exact w12.2.2) (by first | assumption | omega) (by first | assumption | omega) (by exact fr6_t hfr (Brk_fr6 w12.2.1)) (by intro n q hq; exact hs (n + 1) q ⟨by rw [← ey3]; assumption, r11, by rw [← ey3, ← ey7]; exact w12.2.1, w12.1, w12.2.2, hq⟩) _ _ hP hD hS ls (lv_sub hl [2, 0] rfl)
        · skip
          exact W.vret hx hb hr (fun t ht hW => ⟨⟨r1, rfl, by exact ⟨okr1, hs 0 r1 ⟨by rw [← ey3]; assumption, rfl⟩, hI1, hfr, by omega⟩, by rw [ht]; exact hP, hD⟩, hS.F ht⟩) hS.2.2 dX1_flood_19
  exact lp2 (_ + 1) 0 r (Nat.lt_succ_self _) (by first | assumption | omega) (by first | assumption | omega) (by first | assumption | omega) (by first | assumption | omega) (by first | assumption | omega) (by exact fr6_r _) (by intro n q hq; exact ⟨n, hq⟩) _ _ hP hD hS ls (lv_sub hl [1, 0] rfl)
