/-! 20.pass: years -/
def YearR (r q : mf_V) (b : Int) : Prop := ∃ r1 r2 r3 : mf_V, (∀ k, k ≠ 1 → r1 k = r k) ∧ r1 1 = wearG r (r 5 (r 8 0 % 12)) (r 7 0) ∧ rOK rlo rhi r1 ∧ RInv r1 ∧ ((ripF r1 = -1 ∧ r2 = r1 ∧ b = 0) ∨ (¬ ripF r1 = -1 ∧ Bul r1 (ripF r1) (r1 12 (ripF r1)) r2 ∧ b = 1)) ∧ rOK rlo rhi r2 ∧ RInv r2 ∧ ((7 ≤ r 5 (r 8 0 % 12) ∧ Flood r2 r3) ∨ (r 5 (r 8 0 % 12) < 7 ∧ r3 = r2)) ∧ rOK rlo rhi r3 ∧ RInv r3 ∧ (∀ k, k ≠ 8 → q k = r3 k) ∧ q 8 0 = r 8 0 + 1
def YearsN : Nat → mf_V → mf_V → Int → Prop
  | 0, r, q, b => q = r ∧ b = 0
  | n + 1, r, q, b => ∃ (r1 : mf_V) (b1 b2 : Int), YearsN n r r1 b1 ∧ rOK rlo rhi r1 ∧ RInv r1 ∧ YearR r1 q b2 ∧ b = b1 + b2
def YearsR (k : Int) (r q : mf_V) (b : Int) : Prop := YearsN k.toNat r q b
theorem YearsR_0 (r : mf_V) : YearsR 0 r r 0 := ⟨rfl, rfl⟩
theorem YearsR_s {k : Int} (h : 0 ≤ k) {r r1 q : mf_V} {b1 b2 b : Int} (h1 : YearsR k r r1 b1) (ok : rOK rlo rhi r1) (hI : RInv r1) (h2 : YearR r1 q b2) (hb : b = b1 + b2) : YearsR (k + 1) r q b := by
  unfold YearsR at h1 ⊢
  rw [show (k + 1).toNat = k.toNat + 1 by omega]
  exact ⟨r1, b1, b2, h1, ok, hI, h2, hb⟩
/-- bounds of what grows, by the years (and digs) gone by -/
def bdP (r : mf_V) (Y : Int) : Prop := r 8 0 ≤ Y ∧ r 9 0 ≤ 151 * Y ∧ ∀ c, r 1 c ≤ 1350 * Y
set_option maxHeartbeats 4000000 in
set_option maxRecDepth 100000 in
theorem c_X1_letPass (l : Launch) (G : mf_G) (h : Nat) (ad : Nat → Nat) (r : mf_V)  (yv : Int) (Yv : Int) (hyv : i32 yv) (ok : rOK rlo rhi r) (hI : RInv r) (hB : bdP r Yv) (hYv : 0 ≤ Yv ∧ Yv + yv ≤ 60000) (hyv0 : 0 ≤ yv ∧ yv ≤ 100) (sz : Nat) : Met l yX1_letPass wsX1_letPass ({ frames := 5, cells := 0, slots := 0, locals := 119 }) (va_Pc [.ref h, .int (iI (yv))] (WrP G (RW G h ad r) sz)) (va_Qi (fun q (r' : mf_V) => ∃ z : Int, q = iI z ∧ rOK rlo rhi r' ∧ YearsR yv r r' z ∧ RInv r' ∧ bdP r' (Yv + yv) ∧ 0 ≤ z ∧ z ≤ yv) (fun (r' : mf_V) t => WrQ G (va_A (RW G h ad r) sz) (RW G h ad r') t) (va_A (RW G h ad r) sz)) 0 0 (va_A (RW G h ad r) sz) := by
  refine Met.ofW (cc := cX1_letPass) (maxL := 5) (ret := (some .int)) (by decide) rfl ?_
  intro p e s m args below meth c s₁ B hml hv
  obtain ⟨rfl, hsz, hP, hK, hD0, hN⟩ := hv
  have hx := B.exec
  have hb := B.bytes
  have hr := B.returns
  have hts := atoms_spec (ws := wsX1_letPass) B.pre
  have hown : s.vm.findClass RX1 = some m.cls := findClass_of_methodNamed B.named
  have hlocks := B.notSynchronized
  have hinX1 : ∀ w ∈ u_ws RX1 TX1 14, w ∈ wsX1_letPass := fun w h => List.mem_cons_of_mem _ (List.mem_append_right _ h)
  subst hsz
  have hD := hD0.self (sz := s.heap.size)
  generalize hAe : va_A (RW G h ad r) s.heap.size = A at hD ⊢
  have hA : ∀ q : Nat, s.heap.size ≤ q → A q := fun q h => by rw [← hAe]; exact Or.inr h
  have hS : va_S A s.heap s.heap [] := va_S.rf
  have hl := lv_entry ([.ref h, .int (iI (yv))]) (n := 5) (Nat.le_of_ble_eq_true rfl)
  rw [lg_entry_eq]
  generalize (lg_sl ([.ref h, .int (iI (yv))]) ++ List.replicate (5 - (lg_sl ([.ref h, .int (iI (yv))])).length) Slot.unset).toArray = ls at hl ⊢
  have hl : lv_has ls 5 [(0, .ref h), (1, .int (iI (yv)))] := hl
  have hyv1 := hyv.1
  have hyv2 := hyv.2
  have okLr : (0 : Int) ≤ r 7 0 ∧ r 7 0 ≤ 150 := ok 7 0
  refine mf_iconst hx hb dX1_letPass_0 ?_
  refine lv_istore_n (lv' := [(2, .int (iI (0))), (0, .ref h), (1, .int (iI (yv)))]) hx hb dX1_letPass_1 rfl hl (by decide) rfl (fun ls hl => ?_)
  refine mf_iconst hx hb dX1_letPass_2 ?_
  refine lv_istore_n (lv' := [(3, .int (iI (0))), (2, .int (iI (0))), (0, .ref h), (1, .int (iI (yv)))]) hx hb dX1_letPass_3 rfl hl (by decide) rfl (fun ls hl => ?_)
  have lp4 : ∀ (n : Nat) (bv : Int) (kv : Int) (r1 : mf_V), (yv - kv).toNat < n → (0 ≤ kv ∧ kv ≤ yv) → (0 ≤ bv ∧ bv ≤ kv) → (rOK rlo rhi r1) → (RInv r1) → (bdP r1 (Yv + kv)) → (YearsR kv r r1 bv) → ∀ (H : Heap) (locs : List Loc), va_P G.1 vwCl (RW G h ad r1) H → va_D A (RW G h ad r1) → va_S A s.heap H locs → ∀ (ls : Array Slot), lv_has ls 5 [(0, .ref h), (1, .int (iI (yv))), (2, .int (iI (bv))), (3, .int (iI (kv)))] → W p l e (headSpec wsX1_letPass ({ frames := 5, cells := 0, slots := 0, locals := 119 })).room s m ([.ref h, .int (iI (yv))] : List Value).toArray below meth c H locs 0 0 (MQ below (va_Qi (fun q (r' : mf_V) => ∃ z : Int, q = iI z ∧ rOK rlo rhi r' ∧ YearsR yv r r' z ∧ RInv r' ∧ bdP r' (Yv + yv) ∧ 0 ≤ z ∧ z ≤ yv) (fun (r' : mf_V) t => WrQ G A (RW G h ad r') t) A) ([.ref h, .int (iI (yv))] : List Value).toArray s 0 0 A) (F0 m 4 ls []) := by
    intro n
    induction n with
    | zero => intro bv kv r1 hn; exact absurd hn (Nat.not_lt_zero _)
    | succ n ih4 =>
      intro bv kv r1 hn hk hbv okr1 hI1 hB1 hs H locs hP hD hS ls hl
      have hB11 := hB1.1
      have hB12 := hB1.2.1
      refine lv_iload_n hx hb dX1_letPass_4 rfl (lv_at hl 3 rfl) ?_
      refine lv_iload_n hx hb dX1_letPass_5 rfl (lv_at hl 1 rfl) ?_
      refine mf_icmp_ge (tgt := 68) hx hb dX1_letPass_6 (by decide) (i32_mk (by omega) (by omega)) (i32_mk (by omega) (by omega)) (fun c1 => ?_) (fun c1 => ?_)
      · skip
        refine lv_iload_n hx hb dX1_letPass_68 rfl (lv_at hl 2 rfl) ?_
        exact W.iret hx hb hr (fun t ht hW => ⟨⟨_, r1, rfl, ⟨_, rfl, by exact ⟨okr1, by (rw [show kv = yv by omega] at hs; exact hs), hI1, by (rw [show kv = yv by omega] at hB1; exact hB1), by omega, by omega⟩⟩, by rw [ht]; exact hP, hD⟩, hS.F ht⟩) hS.2.2 dX1_letPass_69
      · skip
        refine lv_aload_n hx hb dX1_letPass_9 rfl (lv_at hl 0 rfl) ?_
        refine va_get (D := G.1) (ci := 1) (v := .ref (ad 5)) (C := RX1) (T := TX1) (N := 14) hx hb hts hinX1 hown hK hP 0 rfl rfl 5 (by decide) (hts (.fieldLink RX1 28 "MeanderFarm$River" "flow" "[I") (List.mem_of_getElem? (i := 1) rfl)) (fun _ h9 => h9) rfl dX1_letPass_10 ?_
        refine lv_aload_n hx hb dX1_letPass_13 rfl (lv_at hl 0 rfl) ?_
        refine va_get (D := G.1) (ci := 1) (v := .int (iI (r1 8 0))) (C := RX1) (T := TX1) (N := 14) hx hb hts hinX1 hown hK hP 0 rfl rfl 8 (by decide) (hts (.fieldLink RX1 60 "MeanderFarm$River" "year" "I") (List.mem_of_getElem? (i := 2) rfl)) (fun _ h9 => h9) rfl dX1_letPass_14 ?_
        have b2 : (0 : Int) ≤ r1 8 0 ∧ r1 8 0 ≤ 90000 := okr1 8 (0)
        refine mf_bipush hx hb dX1_letPass_17 rfl ?_
        refine vp_callSi (va_Run.run (va_runS (As := [.int (iI (r1 8 0)), .int (iI (12))]) (rest := [.ref (ad 5)]) ⟨hx, hb, hml, hown, hts⟩ (c_J9_floorMod_7cf53 l (r1 8 0) (12) (i32_mk (by omega) (by omega)) (i32_mk (by decide) (by decide)) (by first | assumption | omega) (by first | assumption | omega)) (va_cwS 2 hts gX1_letPass_J9_floorMod_7cf53 rfl rfl rfl (by decide +kernel) ⟨Nat.le_of_ble_eq_true rfl, Nat.le_of_ble_eq_true rfl⟩) pureS rfl rfl hl.1 rfl (lv_room (Nat.le_of_ble_eq_true rfl)) dX1_letPass_19 ⟨(Nat.zero_le _), (Nat.zero_le _)⟩)) (fun q3 hq3 => ?_)
        subst hq3
        refine mf_iald (n := 12) (f := r1 5) hx hb hK hP 6 0 rfl rfl (z := (r1 8 0) % 12) (by omega) (by omega) (by decide) dX1_letPass_22 ?_
        have b4 : (0 : Int) ≤ r1 5 ((r1 8 0) % 12) ∧ r1 5 ((r1 8 0) % 12) ≤ 9 := okr1 5 ((r1 8 0) % 12)
        refine lv_istore (lv' := [(4, .int (iI (r1 5 ((r1 8 0) % 12)))), (0, .ref h), (1, .int (iI (yv))), (2, .int (iI (bv))), (3, .int (iI (kv)))]) hx hb dX1_letPass_23 hl (by decide) rfl (fun ls hl => ?_)
        refine lv_aload_n hx hb dX1_letPass_25 rfl (lv_at hl 1 rfl) ?_
        refine lv_iload hx hb dX1_letPass_26 (lv_at hl 0 rfl) ?_
        have hFc := va_free (wc := RW G h ad r1) hD hS hA [0, 1, 2, 3, 4, 5, 6, 7, 8, 9, 10, 11] rfl
        refine va_callv (va_runV (As := [.int (iI (r1 5 ((r1 8 0) % 12)))]) (rest := []) ⟨hx, hb, hml, hown, hts⟩ (c_X1_wearBanks l G h ad r1 (r1 5 ((r1 8 0) % 12)) (i32_mk (by omega) (by omega)) (by assumption) (by first | assumption | omega) (by intro cv; have := hB1.2.2 cv; omega) _) (cwV 1 hts gX1_letPass_X1_wearBanks rfl rfl rfl (by decide +kernel) ⟨Nat.le_of_ble_eq_true rfl, Nat.le_of_ble_eq_true rfl⟩) (wrV (wc := RW G h ad r1) hK hP hD hN [0, 1, 2, 3, 4, 5, 6, 7, 8, 9, 10, 11] (by decide) rfl rfl (ci := 1) rfl rfl) rfl rfl hl.1 rfl (lv_room (Nat.le_of_ble_eq_true rfl)) dX1_letPass_28 ⟨(Nat.zero_le _), (Nat.zero_le _)⟩) hS (fun q _ h => hFc q h) hFc (fun u6 t H1 locs ht hvm hw hB hz1 hk1 hS => ?_)
        obtain ⟨r7, rfl⟩ : ∃ z, z = u6 := ⟨_, rfl⟩
        try dsimp only at hw hB
        obtain ⟨hP, hD⟩ := wrJ (ws := RW G h ad r1) (w1 := RW G h ad r7) ht hFc hB
        have hP : va_P G.1 vwCl (RW G h ad r7) H1 := hP
        have hD : va_D A (RW G h ad r7) := hD
        clear hB hk1 hFc ht hz1 hvm
        generalize H1 = H at hP hS ⊢
        have w8 := hw; clear hw
        have okr7 : rOK rlo rhi r7 := w8.1
        have hI2 : RInv r7 := RInv_cg (w8.2.1 6 (by decide)) (w8.2.1 7 (by decide)) (w8.2.1 10 (by decide)) (w8.2.1 11 (by decide)) (w8.2.1 12 (by decide)) (w8.2.1 13 (by decide)) hI1
        skip
        refine lv_aload_n hx hb dX1_letPass_31 rfl (lv_at hl 1 rfl) ?_
        have hFc := va_free (wc := RW G h ad r7) hD hS hA [0, 1, 2, 3, 4, 5, 6, 7, 8, 9, 10, 11] rfl
        refine va_calli (va_runV (As := []) (rest := []) ⟨hx, hb, hml, hown, hts⟩ (c_X1_bulgeWhereRipest l G h ad r7 (by assumption) (by first | assumption | omega) _) (cwV 0 hts gX1_letPass_X1_bulgeWhereRipest rfl rfl rfl (by decide +kernel) ⟨Nat.le_of_ble_eq_true rfl, Nat.le_of_ble_eq_true rfl⟩) (wrV (wc := RW G h ad r7) hK hP hD hN [0, 1, 2, 3, 4, 5, 6, 7, 8, 9, 10, 11] (by decide) rfl rfl (ci := 1) rfl rfl) rfl rfl hl.1 rfl (lv_room (Nat.le_of_ble_eq_true rfl)) dX1_letPass_32 ⟨(Nat.zero_le _), (Nat.zero_le _)⟩) hS (fun q _ h => hFc q h) hFc (fun q9 u10 t H1 locs ht hvm hw hB hz1 hk1 hS => ?_)
        obtain ⟨r11, rfl⟩ : ∃ z, z = u10 := ⟨_, rfl⟩
        try dsimp only at hw hB
        obtain ⟨hP, hD⟩ := wrJ (ws := RW G h ad r7) (w1 := RW G h ad r11) ht hFc hB
        have hP : va_P G.1 vwCl (RW G h ad r11) H1 := hP
        have hD : va_D A (RW G h ad r11) := hD
        clear hB hk1 hFc ht hz1 hvm
        generalize H1 = H at hP hS ⊢
        obtain ⟨z13, rfl, w12⟩ := hw
        have okr11 : rOK rlo rhi r11 := w12.1
        have hz9 : z13 = 0 ∨ z13 = 1 := by rcases w12.2.2.1 with ⟨-, -, g⟩ | ⟨-, -, g⟩; (exact Or.inl g); (exact Or.inr g)
        have hI3 := w12.2.1
        have e93 : r11 9 = r1 9 := w12.2.2.2.1.2.2.2.2.trans (w8.2.1 9 (by decide))
        have e90 : r11 9 0 = r1 9 0 := congrFun e93 0
        skip
        refine mf_if_eq (tgt := 41) hx hb dX1_letPass_35 (by decide) (i32_mk (by omega) (by omega)) (fun c14 => ?_) (fun c14 => ?_)
        · skip
          refine lv_iload hx hb dX1_letPass_41 (lv_at hl 0 rfl) ?_
          refine mf_bipush hx hb dX1_letPass_43 rfl ?_
          refine mf_icmp_lt (tgt := 52) hx hb dX1_letPass_45 (by decide) (i32_mk (by omega) (by omega)) (i32_mk (by decide) (by decide)) (fun c15 => ?_) (fun c15 => ?_)
          · skip
            refine lv_aload_n hx hb dX1_letPass_52 rfl (lv_at hl 1 rfl) ?_
            refine lv_dup hx hb dX1_letPass_53 rfl ?_
            refine va_get (D := G.1) (ci := 1) (v := .int (iI (r11 8 0))) (C := RX1) (T := TX1) (N := 14) hx hb hts hinX1 hown hK hP 0 rfl rfl 8 (by decide) (hts (.fieldLink RX1 60 "MeanderFarm$River" "year" "I") (List.mem_of_getElem? (i := 2) rfl)) (fun _ h9 => h9) rfl dX1_letPass_54 ?_
            refine mf_top (r11 8 0) (r1 8 0) (by rw [w12.2.2.2.1.2.2.2.1, w8.2.1 8 (by decide)]) ?_
            have b16 : (0 : Int) ≤ r1 8 0 ∧ r1 8 0 ≤ 90000 := okr1 8 (0)
            refine mf_iconst hx hb dX1_letPass_57 ?_
            refine mf_iadd hx hb dX1_letPass_58 ?_
            refine va_put (D := G.1) (ci := 1) (v := .int (iI ((r1 8 0) + 1))) (ty := .int) (C := RX1) (T := TX1) (N := 14) hx hb hts hinX1 tyX1 tyX1_ok nmX1 hown hK hP hD hS 0 rfl rfl 8 (by decide) (hts (.fieldLink RX1 60 "MeanderFarm$River" "year" "I") (List.mem_of_getElem? (i := 2) rfl)) (fun _ h9 => h9) rfl (by decide +kernel) rfl rfl (Nat.le_of_ble_eq_true rfl) dX1_letPass_59 (fun H locs hP hD hS => ?_)
            obtain ⟨r17, er17⟩ : ∃ q : mf_V, q = mf_sF r11 8 (fun _ => (r1 8 0) + 1) := ⟨_, rfl⟩
            have hP : va_P G.1 vwCl (RW G h ad r17) H := by rw [er17]; exact hP
            have hD : va_D A (RW G h ad r17) := by rw [er17]; exact hD
            have okr17 : rOK rlo rhi r17 := by rw [er17]; exact rOK_set okr11 8 _ (show (0 : Int) ≤ (r1 8 0) + 1 by omega) (show (r1 8 0) + 1 ≤ (90000 : Int) by omega)
            have f1_r17 : ∀ y, r17 8 y = (r1 8 0) + 1 := fun y => by rw [er17, mf_sF_s]
            have f3_r17 : ∀ q, q ≠ 8 → r17 q = r11 q := fun q hq => by rw [er17, mf_sF_n hq]
            refine lv_iinc (v := iI (kv + 1)) (lv' := [(3, .int (iI (kv + 1))), (4, .int (iI (r1 5 ((r1 8 0) % 12)))), (0, .ref h), (1, .int (iI (yv))), (2, .int (iI (bv)))]) hx hb dX1_letPass_62 hl (k := 4) rfl (iI_add _ _).symm (by decide) rfl (fun ls hl => ?_)
            refine lv_goto (tgt := 4) hx hb dX1_letPass_65 (by decide) ?_
            exact ih4 bv (kv + 1) r17 (by omega) (by first | assumption | omega) (by first | assumption | omega) (by first | assumption | omega) (by exact RInv_cg (f3_r17 6 (by decide)) (f3_r17 7 (by decide)) (f3_r17 10 (by decide)) (f3_r17 11 (by decide)) (f3_r17 12 (by decide)) (f3_r17 13 (by decide)) (hI3)) (by exact ⟨by rw [f1_r17]; omega, by (rw [f3_r17 9 (by decide)]; omega), fun cv => by (rw [f3_r17 1 (by decide)]; have g2 := w12.2.2.2.2 cv; have g3 := w8.2.2.2 cv; have g4 := hB1.2.2 cv; omega)⟩) (by exact YearsR_s hk.1 hs okr1 hI1 ⟨r7, r11, r11, w8.2.1, w8.2.2.1, okr7, hI2, w12.2.2.1, okr11, hI3, Or.inr ⟨by omega, rfl⟩, okr11, hI3, f3_r17, f1_r17 0⟩ (by omega)) _ _ hP hD hS ls (lv_sub hl [2, 3, 4, 0] rfl)
          · skip
            refine lv_aload_n hx hb dX1_letPass_48 rfl (lv_at hl 1 rfl) ?_
            have hFc := va_free (wc := RW G h ad r11) hD hS hA [0, 1, 2, 3, 4, 5, 6, 7, 8, 9, 10, 11] rfl
            refine va_callv (va_runV (As := []) (rest := []) ⟨hx, hb, hml, hown, hts⟩ (c_X1_flood l G h ad r11 (by assumption) (by exact hI3) (by rw [e90]; have := hB1.2.1; omega) _) (cwV 0 hts gX1_letPass_X1_flood rfl rfl rfl (by decide +kernel) ⟨Nat.le_of_ble_eq_true rfl, Nat.le_of_ble_eq_true rfl⟩) (wrV (wc := RW G h ad r11) hK hP hD hN [0, 1, 2, 3, 4, 5, 6, 7, 8, 9, 10, 11] (by decide) rfl rfl (ci := 1) rfl rfl) rfl rfl hl.1 rfl (lv_room (Nat.le_of_ble_eq_true rfl)) dX1_letPass_49 ⟨(Nat.zero_le _), (Nat.zero_le _)⟩) hS (fun q _ h => hFc q h) hFc (fun u19 t H1 locs ht hvm hw hB hz1 hk1 hS => ?_)
            obtain ⟨r20, rfl⟩ : ∃ z, z = u19 := ⟨_, rfl⟩
            try dsimp only at hw hB
            obtain ⟨hP, hD⟩ := wrJ (ws := RW G h ad r11) (w1 := RW G h ad r20) ht hFc hB
            have hP : va_P G.1 vwCl (RW G h ad r20) H1 := hP
            have hD : va_D A (RW G h ad r20) := hD
            clear hB hk1 hFc ht hz1 hvm
            generalize H1 = H at hP hS ⊢
            have w21 := hw; clear hw
            have okr20 : rOK rlo rhi r20 := w21.1
            skip
            refine lv_aload_n hx hb dX1_letPass_52 rfl (lv_at hl 1 rfl) ?_
            refine lv_dup hx hb dX1_letPass_53 rfl ?_
            refine va_get (D := G.1) (ci := 1) (v := .int (iI (r20 8 0))) (C := RX1) (T := TX1) (N := 14) hx hb hts hinX1 hown hK hP 0 rfl rfl 8 (by decide) (hts (.fieldLink RX1 60 "MeanderFarm$River" "year" "I") (List.mem_of_getElem? (i := 2) rfl)) (fun _ h9 => h9) rfl dX1_letPass_54 ?_
            refine mf_top (r20 8 0) (r1 8 0) (by rw [w21.2.2.2.1.2.2.2.2.2, w12.2.2.2.1.2.2.2.1, w8.2.1 8 (by decide)]) ?_
            have b22 : (0 : Int) ≤ r1 8 0 ∧ r1 8 0 ≤ 90000 := okr1 8 (0)
            refine mf_iconst hx hb dX1_letPass_57 ?_
            refine mf_iadd hx hb dX1_letPass_58 ?_
            refine va_put (D := G.1) (ci := 1) (v := .int (iI ((r1 8 0) + 1))) (ty := .int) (C := RX1) (T := TX1) (N := 14) hx hb hts hinX1 tyX1 tyX1_ok nmX1 hown hK hP hD hS 0 rfl rfl 8 (by decide) (hts (.fieldLink RX1 60 "MeanderFarm$River" "year" "I") (List.mem_of_getElem? (i := 2) rfl)) (fun _ h9 => h9) rfl (by decide +kernel) rfl rfl (Nat.le_of_ble_eq_true rfl) dX1_letPass_59 (fun H locs hP hD hS => ?_)
            obtain ⟨r23, er23⟩ : ∃ q : mf_V, q = mf_sF r20 8 (fun _ => (r1 8 0) + 1) := ⟨_, rfl⟩
            have hP : va_P G.1 vwCl (RW G h ad r23) H := by rw [er23]; exact hP
            have hD : va_D A (RW G h ad r23) := by rw [er23]; exact hD
            have okr23 : rOK rlo rhi r23 := by rw [er23]; exact rOK_set okr20 8 _ (show (0 : Int) ≤ (r1 8 0) + 1 by omega) (show (r1 8 0) + 1 ≤ (90000 : Int) by omega)
            have f1_r23 : ∀ y, r23 8 y = (r1 8 0) + 1 := fun y => by rw [er23, mf_sF_s]
            have f3_r23 : ∀ q, q ≠ 8 → r23 q = r20 q := fun q hq => by rw [er23, mf_sF_n hq]
            refine lv_iinc (v := iI (kv + 1)) (lv' := [(3, .int (iI (kv + 1))), (4, .int (iI (r1 5 ((r1 8 0) % 12)))), (0, .ref h), (1, .int (iI (yv))), (2, .int (iI (bv)))]) hx hb dX1_letPass_62 hl (k := 4) rfl (iI_add _ _).symm (by decide) rfl (fun ls hl => ?_)
            refine lv_goto (tgt := 4) hx hb dX1_letPass_65 (by decide) ?_
            exact ih4 bv (kv + 1) r23 (by omega) (by first | assumption | omega) (by first | assumption | omega) (by first | assumption | omega) (by exact RInv_cg (f3_r23 6 (by decide)) (f3_r23 7 (by decide)) (f3_r23 10 (by decide)) (f3_r23 11 (by decide)) (f3_r23 12 (by decide)) (f3_r23 13 (by decide)) (w21.2.2.1)) (by exact ⟨by rw [f1_r23]; omega, by (rw [f3_r23 9 (by decide)]; have g1 := w21.2.2.2.2; omega), fun cv => by (rw [f3_r23 1 (by decide), w21.2.2.2.1.2.1]; have g2 := w12.2.2.2.2 cv; have g3 := w8.2.2.2 cv; have g4 := hB1.2.2 cv; omega)⟩) (by exact YearsR_s hk.1 hs okr1 hI1 ⟨r7, r11, r20, w8.2.1, w8.2.2.1, okr7, hI2, w12.2.2.1, okr11, hI3, Or.inl ⟨by omega, w21.2.1⟩, okr20, w21.2.2.1, f3_r23, f1_r23 0⟩ (by omega)) _ _ hP hD hS ls (lv_sub hl [2, 3, 4, 0] rfl)
        · skip
          refine lv_iinc (v := iI (bv + 1)) (lv' := [(2, .int (iI (bv + 1))), (4, .int (iI (r1 5 ((r1 8 0) % 12)))), (0, .ref h), (1, .int (iI (yv))), (3, .int (iI (kv)))]) hx hb dX1_letPass_38 hl (k := 3) rfl (iI_add _ _).symm (by decide) rfl (fun ls hl => ?_)
          refine lv_iload hx hb dX1_letPass_41 (lv_at hl 1 rfl) ?_
          refine mf_bipush hx hb dX1_letPass_43 rfl ?_
          refine mf_icmp_lt (tgt := 52) hx hb dX1_letPass_45 (by decide) (i32_mk (by omega) (by omega)) (i32_mk (by decide) (by decide)) (fun c24 => ?_) (fun c24 => ?_)
          · skip
            refine lv_aload_n hx hb dX1_letPass_52 rfl (lv_at hl 2 rfl) ?_
            refine lv_dup hx hb dX1_letPass_53 rfl ?_
            refine va_get (D := G.1) (ci := 1) (v := .int (iI (r11 8 0))) (C := RX1) (T := TX1) (N := 14) hx hb hts hinX1 hown hK hP 0 rfl rfl 8 (by decide) (hts (.fieldLink RX1 60 "MeanderFarm$River" "year" "I") (List.mem_of_getElem? (i := 2) rfl)) (fun _ h9 => h9) rfl dX1_letPass_54 ?_
            refine mf_top (r11 8 0) (r1 8 0) (by rw [w12.2.2.2.1.2.2.2.1, w8.2.1 8 (by decide)]) ?_
            have b25 : (0 : Int) ≤ r1 8 0 ∧ r1 8 0 ≤ 90000 := okr1 8 (0)
            refine mf_iconst hx hb dX1_letPass_57 ?_
            refine mf_iadd hx hb dX1_letPass_58 ?_
            refine va_put (D := G.1) (ci := 1) (v := .int (iI ((r1 8 0) + 1))) (ty := .int) (C := RX1) (T := TX1) (N := 14) hx hb hts hinX1 tyX1 tyX1_ok nmX1 hown hK hP hD hS 0 rfl rfl 8 (by decide) (hts (.fieldLink RX1 60 "MeanderFarm$River" "year" "I") (List.mem_of_getElem? (i := 2) rfl)) (fun _ h9 => h9) rfl (by decide +kernel) rfl rfl (Nat.le_of_ble_eq_true rfl) dX1_letPass_59 (fun H locs hP hD hS => ?_)
            obtain ⟨r26, er26⟩ : ∃ q : mf_V, q = mf_sF r11 8 (fun _ => (r1 8 0) + 1) := ⟨_, rfl⟩
            have hP : va_P G.1 vwCl (RW G h ad r26) H := by rw [er26]; exact hP
            have hD : va_D A (RW G h ad r26) := by rw [er26]; exact hD
            have okr26 : rOK rlo rhi r26 := by rw [er26]; exact rOK_set okr11 8 _ (show (0 : Int) ≤ (r1 8 0) + 1 by omega) (show (r1 8 0) + 1 ≤ (90000 : Int) by omega)
            have f1_r26 : ∀ y, r26 8 y = (r1 8 0) + 1 := fun y => by rw [er26, mf_sF_s]
            have f3_r26 : ∀ q, q ≠ 8 → r26 q = r11 q := fun q hq => by rw [er26, mf_sF_n hq]
            refine lv_iinc (v := iI (kv + 1)) (lv' := [(3, .int (iI (kv + 1))), (2, .int (iI (bv + 1))), (4, .int (iI (r1 5 ((r1 8 0) % 12)))), (0, .ref h), (1, .int (iI (yv)))]) hx hb dX1_letPass_62 hl (k := 4) rfl (iI_add _ _).symm (by decide) rfl (fun ls hl => ?_)
            refine lv_goto (tgt := 4) hx hb dX1_letPass_65 (by decide) ?_
            exact ih4 (bv + 1) (kv + 1) r26 (by omega) (by first | assumption | omega) (by first | assumption | omega) (by first | assumption | omega) (by exact RInv_cg (f3_r26 6 (by decide)) (f3_r26 7 (by decide)) (f3_r26 10 (by decide)) (f3_r26 11 (by decide)) (f3_r26 12 (by decide)) (f3_r26 13 (by decide)) (hI3)) (by exact ⟨by rw [f1_r26]; omega, by (rw [f3_r26 9 (by decide)]; omega), fun cv => by (rw [f3_r26 1 (by decide)]; have g2 := w12.2.2.2.2 cv; have g3 := w8.2.2.2 cv; have g4 := hB1.2.2 cv; omega)⟩) (by exact YearsR_s hk.1 hs okr1 hI1 ⟨r7, r11, r11, w8.2.1, w8.2.2.1, okr7, hI2, w12.2.2.1, okr11, hI3, Or.inr ⟨by omega, rfl⟩, okr11, hI3, f3_r26, f1_r26 0⟩ (by omega)) _ _ hP hD hS ls (lv_sub hl [3, 4, 1, 0] rfl)
          · skip
            refine lv_aload_n hx hb dX1_letPass_48 rfl (lv_at hl 2 rfl) ?_
            have hFc := va_free (wc := RW G h ad r11) hD hS hA [0, 1, 2, 3, 4, 5, 6, 7, 8, 9, 10, 11] rfl
            refine va_callv (va_runV (As := []) (rest := []) ⟨hx, hb, hml, hown, hts⟩ (c_X1_flood l G h ad r11 (by assumption) (by exact hI3) (by rw [e90]; have := hB1.2.1; omega) _) (cwV 0 hts gX1_letPass_X1_flood rfl rfl rfl (by decide +kernel) ⟨Nat.le_of_ble_eq_true rfl, Nat.le_of_ble_eq_true rfl⟩) (wrV (wc := RW G h ad r11) hK hP hD hN [0, 1, 2, 3, 4, 5, 6, 7, 8, 9, 10, 11] (by decide) rfl rfl (ci := 1) rfl rfl) rfl rfl hl.1 rfl (lv_room (Nat.le_of_ble_eq_true rfl)) dX1_letPass_49 ⟨(Nat.zero_le _), (Nat.zero_le _)⟩) hS (fun q _ h => hFc q h) hFc (fun u28 t H1 locs ht hvm hw hB hz1 hk1 hS => ?_)
            obtain ⟨r29, rfl⟩ : ∃ z, z = u28 := ⟨_, rfl⟩
            try dsimp only at hw hB
            obtain ⟨hP, hD⟩ := wrJ (ws := RW G h ad r11) (w1 := RW G h ad r29) ht hFc hB
            have hP : va_P G.1 vwCl (RW G h ad r29) H1 := hP
            have hD : va_D A (RW G h ad r29) := hD
            clear hB hk1 hFc ht hz1 hvm
            generalize H1 = H at hP hS ⊢
            have w30 := hw; clear hw
            have okr29 : rOK rlo rhi r29 := w30.1
            skip
            refine lv_aload_n hx hb dX1_letPass_52 rfl (lv_at hl 2 rfl) ?_
            refine lv_dup hx hb dX1_letPass_53 rfl ?_
            refine va_get (D := G.1) (ci := 1) (v := .int (iI (r29 8 0))) (C := RX1) (T := TX1) (N := 14) hx hb hts hinX1 hown hK hP 0 rfl rfl 8 (by decide) (hts (.fieldLink RX1 60 "MeanderFarm$River" "year" "I") (List.mem_of_getElem? (i := 2) rfl)) (fun _ h9 => h9) rfl dX1_letPass_54 ?_
            refine mf_top (r29 8 0) (r1 8 0) (by rw [w30.2.2.2.1.2.2.2.2.2, w12.2.2.2.1.2.2.2.1, w8.2.1 8 (by decide)]) ?_
            have b31 : (0 : Int) ≤ r1 8 0 ∧ r1 8 0 ≤ 90000 := okr1 8 (0)
            refine mf_iconst hx hb dX1_letPass_57 ?_
            refine mf_iadd hx hb dX1_letPass_58 ?_
            refine va_put (D := G.1) (ci := 1) (v := .int (iI ((r1 8 0) + 1))) (ty := .int) (C := RX1) (T := TX1) (N := 14) hx hb hts hinX1 tyX1 tyX1_ok nmX1 hown hK hP hD hS 0 rfl rfl 8 (by decide) (hts (.fieldLink RX1 60 "MeanderFarm$River" "year" "I") (List.mem_of_getElem? (i := 2) rfl)) (fun _ h9 => h9) rfl (by decide +kernel) rfl rfl (Nat.le_of_ble_eq_true rfl) dX1_letPass_59 (fun H locs hP hD hS => ?_)
            obtain ⟨r32, er32⟩ : ∃ q : mf_V, q = mf_sF r29 8 (fun _ => (r1 8 0) + 1) := ⟨_, rfl⟩
            have hP : va_P G.1 vwCl (RW G h ad r32) H := by rw [er32]; exact hP
            have hD : va_D A (RW G h ad r32) := by rw [er32]; exact hD
            have okr32 : rOK rlo rhi r32 := by rw [er32]; exact rOK_set okr29 8 _ (show (0 : Int) ≤ (r1 8 0) + 1 by omega) (show (r1 8 0) + 1 ≤ (90000 : Int) by omega)
            have f1_r32 : ∀ y, r32 8 y = (r1 8 0) + 1 := fun y => by rw [er32, mf_sF_s]
            have f3_r32 : ∀ q, q ≠ 8 → r32 q = r29 q := fun q hq => by rw [er32, mf_sF_n hq]
            refine lv_iinc (v := iI (kv + 1)) (lv' := [(3, .int (iI (kv + 1))), (2, .int (iI (bv + 1))), (4, .int (iI (r1 5 ((r1 8 0) % 12)))), (0, .ref h), (1, .int (iI (yv)))]) hx hb dX1_letPass_62 hl (k := 4) rfl (iI_add _ _).symm (by decide) rfl (fun ls hl => ?_)
            refine lv_goto (tgt := 4) hx hb dX1_letPass_65 (by decide) ?_
            exact ih4 (bv + 1) (kv + 1) r32 (by omega) (by first | assumption | omega) (by first | assumption | omega) (by first | assumption | omega) (by exact RInv_cg (f3_r32 6 (by decide)) (f3_r32 7 (by decide)) (f3_r32 10 (by decide)) (f3_r32 11 (by decide)) (f3_r32 12 (by decide)) (f3_r32 13 (by decide)) (w30.2.2.1)) (by exact ⟨by rw [f1_r32]; omega, by (rw [f3_r32 9 (by decide)]; have g1 := w30.2.2.2.2; omega), fun cv => by (rw [f3_r32 1 (by decide), w30.2.2.2.1.2.1]; have g2 := w12.2.2.2.2 cv; have g3 := w8.2.2.2 cv; have g4 := hB1.2.2 cv; omega)⟩) (by exact YearsR_s hk.1 hs okr1 hI1 ⟨r7, r11, r29, w8.2.1, w8.2.2.1, okr7, hI2, w12.2.2.1, okr11, hI3, Or.inl ⟨by omega, w30.2.1⟩, okr29, w30.2.2.1, f3_r32, f1_r32 0⟩ (by omega)) _ _ hP hD hS ls (lv_sub hl [3, 4, 1, 0] rfl)
  exact lp4 (_ + 1) 0 0 r (Nat.lt_succ_self _) (by first | assumption | omega) (by first | assumption | omega) (by first | assumption | omega) (by first | assumption | omega) (by rw [Int.add_zero]; exact hB) (by exact YearsR_0 r) _ _ hP hD hS ls (lv_sub hl [2, 3, 1, 0] rfl)
