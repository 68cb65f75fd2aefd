/-! 53.advise -/
theorem sb_fa58e9b7f3 {G : mf_G} {h1 p1 a1 f1 ae1 : Nat} {x1 : mf_V} {h2 : Nat} {ad2 : Nat → Nat} {x2 : mf_V} {h3 : Nat} {ad3 : Nat → Nat} {x3 : mf_V} {h4 : Nat} {ad4 : Nat → Nat} {x4 : mf_V} : ([0, 1, 2, 3, 4, 5, 6, 7, 8, 9, 10, 11, 12, 13, 14, 15, 16, 17, 18, 19, 20, 21, 22, 23, 24, 25, 26, 27, 28, 29, 30] : List Nat).map (fun i => (OW G h1 p1 a1 f1 ae1 x1 ++ RW G h2 ad2 x2 ++ RW G h3 ad3 x3 ++ FW G h4 ad4 x4)[i]?) = (OW G h1 p1 a1 f1 ae1 x1 ++ RW G h2 ad2 x2 ++ RW G h3 ad3 x3 ++ FW G h4 ad4 x4).map some := rfl
set_option maxHeartbeats 4000000 in
set_option maxRecDepth 100000 in
theorem c_X2_advise (l : Launch) (hl9 : l.stackTraces = false) (G : mf_G) (ho pn pa pf : Nat) (ae : Nat) (x : mf_V) (adn : Nat → Nat) (r : mf_V) (ada : Nat → Nat) (ra : mf_V) (adf : Nat → Nat) (f : mf_V)  (kv : Int) (yv : Int) (Yv : Int) (hkv : i32 kv) (hyv : i32 yv) (okx : rOK xlo xhi x) (ok : rOK rlo rhi r) (okra : rOK rlo rhi ra) (okf : rOK flo fhi f) (hI : RInv r) (hB : bdP r Yv) (hYv : 0 ≤ Yv ∧ Yv + 100 ≤ 60000) (sz : Nat) : vx_Met l yX2_advise wsX2_advise ({ frames := 7, cells := 1, slots := 6, locals := 166 }) (va_Pc [.ref ho, .int (iI (kv)), .int (iI (yv))] (WrPx G (OW G ho pn pa pf ae x ++ RW G pn adn r ++ RW G pa ada ra ++ FW G pf adf f) sz)) (va_Qi (fun q9 (u : mf_V × mf_V × mf_V × mf_V) => ∃ z : Int, q9 = iI z ∧ kAdv f kv yv = 0 ∧ (rOK xlo xhi u.1 ∧ rOK rlo rhi u.2.1 ∧ rOK rlo rhi u.2.2.1 ∧ rOK flo fhi u.2.2.2) ∧ (∃ q0 b0 Qf bf, (YearsR yv (rC r) q0 b0 ∧ rOK rlo rhi q0 ∧ RInv q0) ∧ AdvQ (rC r) yv Qf bf 384 ∧ z = (advG f (rC r) kv q0 Qf 384).2) ∧ u.2.1 = r ∧ u.2.2.2 = f) (fun (u : mf_V × mf_V × mf_V × mf_V) t => WrQ G (va_A (OW G ho pn pa pf ae x ++ RW G pn adn r ++ RW G pa ada ra ++ FW G pf adf f) sz) (OW G ho pn pa pf ae (u.1) ++ RW G pn adn (u.2.1) ++ RW G pa ada (u.2.2.1) ++ FW G pf adf (u.2.2.2)) t) (va_A (OW G ho pn pa pf ae x ++ RW G pn adn r ++ RW G pa ada ra ++ FW G pf adf f) sz)) (vx_X (fun _ : Unit => True) (fun E _ t => ((E = xIO ∧ kAdv f kv yv = 1) ∨ (E = xIA ∧ kAdv f kv yv = 2)) ∧ WrQ G (va_A (OW G ho pn pa pf ae x ++ RW G pn adn r ++ RW G pa ada ra ++ FW G pf adf f) sz) (OW G ho pn pa pf ae x ++ RW G pn adn r ++ RW G pa ada ra ++ FW G pf adf f) t) (va_A (OW G ho pn pa pf ae x ++ RW G pn adn r ++ RW G pa ada ra ++ FW G pf adf f) sz)) 1 6 (va_A (OW G ho pn pa pf ae x ++ RW G pn adn r ++ RW G pa ada ra ++ FW G pf adf f) sz) := by
  refine vx_ofW (cc := cX2_advise) (maxL := 7) (ret := (some .int)) (by decide) rfl ?_
  intro p e s m args below meth c s₁ B hml hexc hv
  obtain ⟨rfl, hsz, hP, hK, hD0, hN, hSX, hCX, hZ⟩ := hv
  have hx := B.exec
  have hb := B.bytes
  have hr := B.returns
  have hts := atoms_spec (ws := wsX2_advise) B.pre
  have hown : s.vm.findClass RX2 = some m.cls := findClass_of_methodNamed B.named
  have hlocks := B.notSynchronized
  have hat42 := vx_hat (fun w h => hts w (List.mem_cons_of_mem _ (List.mem_append_left _ (List.mem_append_right _ h)))) xb42 (vx_c (va_Nw.use rfl hCX.1) (vx_c (va_Nw.use rfl hCX.2.2.2.1) (vx_c (va_Nw.use rfl hCX.2.2.2.2.1) (vx_c (va_Nw.use rfl hCX.2.2.2.2.2) vx_n))))
  have hat52 := vx_hat (fun w h => hts w (List.mem_cons_of_mem _ (List.mem_append_right _ h))) xb52 (vx_c (va_Nw.use rfl hCX.2.1) (vx_c (va_Nw.use rfl hCX.2.2.2.1) (vx_c (va_Nw.use rfl hCX.2.2.2.2.1) (vx_c (va_Nw.use rfl hCX.2.2.2.2.2) vx_n))))
  have hinX1 : ∀ w ∈ u_ws RX1 TX1 14, w ∈ wsX2_advise := fun w h => List.mem_cons_of_mem _ (List.mem_append_left _ (List.mem_append_left _ (List.mem_append_left _ (List.mem_append_right _ h))))
  have hinX2 : ∀ w ∈ u_ws RX2 TX2 4, w ∈ wsX2_advise := fun w h => List.mem_cons_of_mem _ (List.mem_append_left _ (List.mem_append_left _ (List.mem_append_left _ (List.mem_append_left _ (List.mem_append_right _ h)))))
  subst hsz
  have hD := hD0.self (sz := s.heap.size)
  generalize hAe : va_A (OW G ho pn pa pf ae x ++ RW G pn adn r ++ RW G pa ada ra ++ FW G pf adf f) s.heap.size = A at hD hZ ⊢
  have hA : ∀ q : Nat, s.heap.size ≤ q → A q := fun q h => by rw [← hAe]; exact Or.inr h
  have hS : va_S A s.heap s.heap [] := va_S.rf
  have hl := lv_entry ([.ref ho, .int (iI (kv)), .int (iI (yv))]) (n := 7) (Nat.le_of_ble_eq_true rfl)
  rw [lg_entry_eq]
  generalize (lg_sl ([.ref ho, .int (iI (kv)), .int (iI (yv))]) ++ List.replicate (7 - (lg_sl ([.ref ho, .int (iI (kv)), .int (iI (yv))])).length) Slot.unset).toArray = ls at hl ⊢
  have hl : lv_has ls 7 [(0, .ref ho), (1, .int (iI (kv))), (2, .int (iI (yv)))] := hl
  have hkv1 := hkv.1
  have hkv2 := hkv.2
  have hyv1 := hyv.1
  have hyv2 := hyv.2
  have okLr : (0 : Int) ≤ r 7 0 ∧ r 7 0 ≤ 150 := ok 7 0
  have okLra : (0 : Int) ≤ ra 7 0 ∧ ra 7 0 ≤ 150 := okra 7 0
  refine lv_aload_n hx hb dX2_advise_0 rfl (lv_at hl 0 rfl) ?_
  refine va_get (D := G.1) (ci := 2) (v := .ref pf) (C := RX2) (T := TX2) (N := 4) hx hb hts hinX2 hown hK hP 0 rfl rfl 2 (by decide) (hts (.fieldLink RX2 26 "MeanderFarm" "farms" "LMeanderFarm$Farms;") (List.mem_of_getElem? (i := 5) rfl)) (fun _ h9 => h9) rfl dX2_advise_1 ?_
  refine lv_iload_n hx hb dX2_advise_4 rfl (lv_at hl 1 rfl) ?_
  refine vp_callSi (va_Run.run (va_runVN (As := [.int (iI (kv))]) (rest := []) ⟨hx, hb, hml, hown, hts⟩ (c_X0_isFarm l G pf adf f (kv) (i32_mk (by omega) (by omega)) (by assumption)) ⟨(va_cnB 1 hts gX2_advise_X0_isFarm_n168 rfl rfl rfl (hN.m 11 rfl) (hts (.initialized RX0) (List.mem_of_getElem? (i := 14) rfl)) (by decide +kernel) ⟨Nat.le_of_ble_eq_true rfl, Nat.le_of_ble_eq_true rfl⟩), (hts (.instanceMethod yX0_isFarm) (List.mem_of_getElem? (i := 13) rfl)), (hts (.selects RX0 yX0_isFarm yX0_isFarm) (List.mem_of_getElem? (i := 15) rfl))⟩ (rdV (wc := FW G pf adf f) hK hP hN [26, 27, 28, 29, 30] sb_a21b19b911 (ci := 0) rfl rfl) rfl rfl hl.1 rfl (lv_room (Nat.le_of_ble_eq_true rfl)) dX2_advise_5 ⟨(Nat.zero_le _), (Nat.zero_le _)⟩)) (fun q1 hq1 => ?_)
  subst hq1
  refine mf_bp_ne (tgt := 21) hx hb dX2_advise_8 (by decide) (fun c2 => ?_) (fun c2 => ?_)
  · skip
    have c2' := c2; unfold isF at c2'
    have hF9 : isF f kv := by assumption
    refine lv_iload_n hx hb dX2_advise_21 rfl (lv_at hl 2 rfl) ?_
    refine mf_iconst hx hb dX2_advise_22 ?_
    refine mf_icmp_lt (tgt := 32) hx hb dX2_advise_23 (by decide) (i32_mk (by omega) (by omega)) (i32_mk (by decide) (by decide)) (fun c3 => ?_) (fun c3 => ?_)
    · skip
      have hk9 : kAdv f kv yv = 2 := (mf_if_f (fun z => z hF9)).trans (mf_if_t (by omega))
      exact mf_throw (ik := 48) (is := 192) (ic := 52) (cls := "java/lang/IllegalArgumentException") hx hb hl9 hown (by decide +kernel) (hts (.classLink RX2 48 "java/lang/IllegalArgumentException") (List.mem_of_getElem? (i := 3) rfl)) (hts (.initialized "java/lang/IllegalArgumentException") (List.mem_of_getElem? (i := 4) rfl)) hSX (List.mem_of_getElem? (i := 17) rfl) hat52 xg52 hZ hP hD hS (hl.1.trans hml.symm) dX2_advise_32 dX2_advise_35 dX2_advise_36 dX2_advise_38 dX2_advise_41 hexc (Nat.le_of_ble_eq_true rfl) (Nat.le_of_ble_eq_true rfl) (Nat.le_of_ble_eq_true rfl) (Nat.le_of_ble_eq_true rfl) hlocks (by exact Or.inr (⟨rfl, hk9⟩)) (Nat.le_of_ble_eq_true rfl) (Nat.le_of_ble_eq_true rfl)
    · skip
      refine lv_iload_n hx hb dX2_advise_26 rfl (lv_at hl 2 rfl) ?_
      refine mf_bipush hx hb dX2_advise_27 rfl ?_
      refine mf_icmp_le (tgt := 42) hx hb dX2_advise_29 (by decide) (i32_mk (by omega) (by omega)) (i32_mk (by decide) (by decide)) (fun c4 => ?_) (fun c4 => ?_)
      · skip
        refine mf_iconst hx hb dX2_advise_42 ?_
        refine lv_istore_n (lv' := [(3, .int (iI ((-1)))), (0, .ref ho), (1, .int (iI (kv))), (2, .int (iI (yv)))]) hx hb dX2_advise_43 rfl hl (by decide) rfl (fun ls hl => ?_)
        refine lv_aload_n hx hb dX2_advise_44 rfl (lv_at hl 1 rfl) ?_
        refine lv_iload_n hx hb dX2_advise_45 rfl (lv_at hl 2 rfl) ?_
        refine lv_iload_n hx hb dX2_advise_46 rfl (lv_at hl 3 rfl) ?_
        refine mf_iconst hx hb dX2_advise_47 ?_
        have hFc := va_free (wc := OW G ho pn pa pf ae x ++ RW G pn adn r ++ RW G pa ada ra ++ FW G pf adf f) hD hS hA [0, 1, 2, 3, 4, 5, 6, 7, 8, 9, 10, 11, 12, 13, 14, 15, 16, 17, 18, 19, 20, 21, 22, 23, 24, 25, 26, 27, 28, 29, 30] sb_fa58e9b7f3
        refine va_calli (va_runV (As := [.int (iI (kv)), .int (iI (yv)), .int (iI ((-1)))]) (rest := []) ⟨hx, hb, hml, hown, hts⟩ (c_X2_landAhead l G ho pn pa pf ae x adn r ada ra adf f (kv) (yv) ((-1)) (Yv) (i32_mk (by omega) (by omega)) (i32_mk (by omega) (by omega)) (i32_mk (by decide) (by decide)) (by assumption) (by assumption) (by assumption) (by assumption) (by exact hI) (by exact hF9) (by first | assumption | omega) (by first | assumption | omega) (by exact hB) (by first | assumption | omega) _) (cwV 3 hts gX2_advise_X2_landAhead rfl rfl rfl (by decide +kernel) ⟨Nat.le_of_ble_eq_true rfl, Nat.le_of_ble_eq_true rfl⟩) (wrV (wc := OW G ho pn pa pf ae x ++ RW G pn adn r ++ RW G pa ada ra ++ FW G pf adf f) hK hP hD hN [0, 1, 2, 3, 4, 5, 6, 7, 8, 9, 10, 11, 12, 13, 14, 15, 16, 17, 18, 19, 20, 21, 22, 23, 24, 25, 26, 27, 28, 29, 30] (by decide +kernel) sb_def95aa3f3 sb_fa58e9b7f3 (ci := 2) rfl rfl) rfl rfl hl.1 rfl (lv_room (Nat.le_of_ble_eq_true rfl)) dX2_advise_48 ⟨(Nat.zero_le _), (Nat.zero_le _)⟩) hS (fun q _ h => hFc q h) hFc (fun q5 u6 t H1 locs ht hvm hw hB hz1 hk1 hS => ?_)
        obtain ⟨ra7, rfl⟩ : ∃ z, z = u6 := ⟨_, rfl⟩
        try dsimp only at hw hB
        obtain ⟨hP, hD⟩ := wrJ (ws := OW G ho pn pa pf ae x ++ RW G pn adn r ++ RW G pa ada ra ++ FW G pf adf f) (w1 := OW G ho pn pa pf ae x ++ RW G pn adn r ++ RW G pa ada ra7 ++ FW G pf adf f) ht hFc hB
        have hP : va_P G.1 vwCl (OW G ho pn pa pf ae x ++ RW G pn adn r ++ RW G pa ada ra7 ++ FW G pf adf f) H1 := hP
        have hD : va_D A (OW G ho pn pa pf ae x ++ RW G pn adn r ++ RW G pa ada ra7 ++ FW G pf adf f) := hD
        clear hB hk1 hFc ht hz1 hvm
        generalize H1 = H at hP hS ⊢
        obtain ⟨z9, rfl, w8⟩ := hw
        have okra7 : rOK rlo rhi ra7 := w8.1
        obtain ⟨b0, hq0⟩ := w8.2.2.1 rfl
        have hm9 : z9 = cof f ra7 kv 1 := w8.2.2.2.2
        have hm8 := cof_b (r := ra7) okf kv 1
        rw [← hm9] at hm8
        skip
        refine lv_istore (lv' := [(4, .int (iI (z9))), (3, .int (iI ((-1)))), (0, .ref ho), (1, .int (iI (kv))), (2, .int (iI (yv)))]) hx hb dX2_advise_51 hl (by decide) rfl (fun ls hl => ?_)
        refine lv_aload_n hx hb dX2_advise_53 rfl (lv_at hl 2 rfl) ?_
        refine va_get (D := G.1) (ci := 2) (v := .ref pa) (C := RX2) (T := TX2) (N := 4) hx hb hts hinX2 hown hK hP 0 rfl rfl 1 (by decide) (hts (.fieldLink RX2 20 "MeanderFarm" "ahead" "LMeanderFarm$River;") (List.mem_of_getElem? (i := 6) rfl)) (fun _ h9 => h9) rfl dX2_advise_54 ?_
        refine va_getN (D := G.1) (ci := 1) (v := .ref (ada 4)) (C := RX1) (T := TX1) (N := 14) hx hb hts hinX1 hown hK hP 14 rfl rfl 4 (by decide) (va_Nw.use rfl (hN.f 5 rfl)) (fun _ h9 => h9) rfl dX2_advise_57 ?_
        refine mf_iconst hx hb dX2_advise_60 ?_
        refine lv_aload_n hx hb dX2_advise_61 rfl (lv_at hl 2 rfl) ?_
        refine va_get (D := G.1) (ci := 2) (v := .ref ae) (C := RX2) (T := TX2) (N := 4) hx hb hts hinX2 hown hK hP 0 rfl rfl 3 (by decide) (hts (.fieldLink RX2 9 "MeanderFarm" "endangered" "[Z") (List.mem_of_getElem? (i := 7) rfl)) (fun _ h9 => h9) rfl dX2_advise_62 ?_
        refine mf_iconst hx hb dX2_advise_65 ?_
        refine mf_sipush hx hb dX2_advise_66 rfl ?_
        refine mf_copy (f := ra7 4) (g := x 0) (n0 := 384) (n1 := 384) hx hb (hml.trans hl.1.symm) hown (hts (.methodLink RX2 201 arraycopyName) (List.mem_of_getElem? (i := 8) rfl)) (hts (.native arraycopyName) (List.mem_of_getElem? (i := 9) rfl)) (hts (.static arraycopyName) (List.mem_of_getElem? (i := 10) rfl)) (hts (.initialized "java/lang/System") (List.mem_of_getElem? (i := 11) rfl)) hK hP hD hS 19 1 1 1 rfl rfl rfl rfl rfl (sp := 0) (dp := 0) (n := 384) (by omega) (by omega) (by omega) (by omega) (by omega) (by decide) (by decide) (fun i => mf_fit01 (show (0 : Int) ≤ ra7 4 i ∧ ra7 4 i ≤ 1 from okra7 4 i)) (Nat.le_of_ble_eq_true rfl) (Nat.le_of_ble_eq_true rfl) dX2_advise_69 (fun H locs hP hD hS => ?_)
        obtain ⟨x10, ex10⟩ : ∃ z9 : mf_V, z9 = mf_sF x 0 (mf_cpy (ra7 4) (x 0) (0) (0) (384)) := ⟨_, rfl⟩
        have hP : va_P G.1 vwCl (OW G ho pn pa pf ae x10 ++ RW G pn adn r ++ RW G pa ada ra7 ++ FW G pf adf f) H := by rw [ex10]; exact hP
        have hD : va_D A (OW G ho pn pa pf ae x10 ++ RW G pn adn r ++ RW G pa ada ra7 ++ FW G pf adf f) := by rw [ex10]; exact hD
        have okx10 : rOK xlo xhi x10 := by rw [ex10]; exact rOK_cpx okra7 okx 4 0 _ _ _ rfl rfl
        have f1_x10 : x10 0 = mf_cpy (ra7 4) (x 0) (0) (0) (384) := by rw [ex10, mf_sF_s]
        have f3_x10 : ∀ q, q ≠ 0 → x10 q = x q := fun q hq => by rw [ex10, mf_sF_n hq]
        have hx9 : ∀ c, 0 ≤ c → c < 384 → x10 0 c = ra7 4 c := fun c c0 c1 => by rw [f1_x10]; exact (if_pos (by omega)).trans (congrArg (ra7 4) (by omega))
        refine mf_iconst hx hb dX2_advise_72 ?_
        refine lv_istore (lv' := [(5, .int (iI (0))), (4, .int (iI (z9))), (3, .int (iI ((-1)))), (0, .ref ho), (1, .int (iI (kv))), (2, .int (iI (yv)))]) hx hb dX2_advise_73 hl (by decide) rfl (fun ls hl => ?_)
        have lp75 : ∀ (n : Nat) (bv : Int) (mv : Int) (cv : Int) (rb : mf_V) (Qf : Int → mf_V) (bf : Int → Int), (384 - cv).toNat < n → (0 ≤ cv ∧ cv ≤ 384) → (-1 ≤ bv ∧ bv ≤ 383) → (0 ≤ mv ∧ mv ≤ 384) → (rOK rlo rhi rb) → (advG f (rC r) kv ra7 Qf cv = (mv, bv)) → (cof f ra7 kv 1 ≤ mv) → (AdvQ (rC r) yv Qf bf cv) → ∀ (H : Heap) (locs : List Loc), va_P G.1 vwCl (OW G ho pn pa pf ae x10 ++ RW G pn adn r ++ RW G pa ada rb ++ FW G pf adf f) H → va_D A (OW G ho pn pa pf ae x10 ++ RW G pn adn r ++ RW G pa ada rb ++ FW G pf adf f) → va_S A s.heap H locs → ∀ (ls : Array Slot), lv_has ls 7 [(0, .ref ho), (1, .int (iI (kv))), (2, .int (iI (yv))), (3, .int (iI (bv))), (4, .int (iI (mv))), (5, .int (iI (cv)))] → W p l e (headSpec wsX2_advise ({ frames := 7, cells := 1, slots := 6, locals := 166 })).room s m ([.ref ho, .int (iI (kv)), .int (iI (yv))] : List Value).toArray below meth c H locs 0 0 (vx_MQ below (va_Qi (fun q9 (u : mf_V × mf_V × mf_V × mf_V) => ∃ z : Int, q9 = iI z ∧ kAdv f kv yv = 0 ∧ (rOK xlo xhi u.1 ∧ rOK rlo rhi u.2.1 ∧ rOK rlo rhi u.2.2.1 ∧ rOK flo fhi u.2.2.2) ∧ (∃ q0 b0 Qf bf, (YearsR yv (rC r) q0 b0 ∧ rOK rlo rhi q0 ∧ RInv q0) ∧ AdvQ (rC r) yv Qf bf 384 ∧ z = (advG f (rC r) kv q0 Qf 384).2) ∧ u.2.1 = r ∧ u.2.2.2 = f) (fun (u : mf_V × mf_V × mf_V × mf_V) t => WrQ G A (OW G ho pn pa pf ae (u.1) ++ RW G pn adn (u.2.1) ++ RW G pa ada (u.2.2.1) ++ FW G pf adf (u.2.2.2)) t) A) (vx_X (fun _ : Unit => True) (fun E _ t => ((E = xIO ∧ kAdv f kv yv = 1) ∨ (E = xIA ∧ kAdv f kv yv = 2)) ∧ WrQ G A (OW G ho pn pa pf ae x ++ RW G pn adn r ++ RW G pa ada ra ++ FW G pf adf f) t) A) ([.ref ho, .int (iI (kv)), .int (iI (yv))] : List Value).toArray s 1 6 A) (F0 m 75 ls []) := by
          intro n
          induction n with
          | zero => intro bv mv cv rb Qf bf hn; exact absurd hn (Nat.not_lt_zero _)
          | succ n ih75 =>
            intro bv mv cv rb Qf bf hn hc hbv hmv okrb hG hm0 hQ H locs hP hD hS ls hl
            refine lv_iload hx hb dX2_advise_75 (lv_at hl 5 rfl) ?_
            refine mf_sipush hx hb dX2_advise_77 rfl ?_
            refine mf_icmp_ge (tgt := 149) hx hb dX2_advise_80 (by decide) (i32_mk (by omega) (by omega)) (i32_mk (by decide) (by decide)) (fun c11 => ?_) (fun c11 => ?_)
            · skip
              refine lv_iload_n hx hb dX2_advise_149 rfl (lv_at hl 3 rfl) ?_
              have hk9 : kAdv f kv yv = 0 := (mf_if_f (fun z => z hF9)).trans (mf_if_f (fun z => z (by omega)))
              refine W.widen (k := 1) (n := 6) (Nat.le_of_ble_eq_true rfl) (Nat.le_of_ble_eq_true rfl) ?_
              refine vx_ret ?_
              exact W.iret hx hb hr (fun t ht hW => ⟨⟨_, (x10, r, rb, f), rfl, ⟨_, rfl, by (try dsimp only); exact ⟨hk9, ⟨okx10, ok, okrb, okf⟩, ⟨⟨ra7, b0, Qf, bf, ⟨hq0, okra7, w8.2.1⟩, by rw [show (384 : Int) = cv by omega]; exact hQ, by rw [show (384 : Int) = cv by omega, hG]⟩, rfl, rfl⟩⟩⟩, by rw [ht]; exact hP, hD⟩, hS.F ht⟩) hS.2.2 dX2_advise_150
            · skip
              refine lv_aload_n hx hb dX2_advise_83 rfl (lv_at hl 0 rfl) ?_
              refine va_get (D := G.1) (ci := 2) (v := .ref ae) (C := RX2) (T := TX2) (N := 4) hx hb hts hinX2 hown hK hP 0 rfl rfl 3 (by decide) (hts (.fieldLink RX2 9 "MeanderFarm" "endangered" "[Z") (List.mem_of_getElem? (i := 7) rfl)) (fun _ h9 => h9) rfl dX2_advise_84 ?_
              refine lv_iload hx hb dX2_advise_87 (lv_at hl 5 rfl) ?_
              refine mf_zald (n := 384) (f := x10 0) hx hb hK hP 1 1 rfl rfl (z := cv) (by omega) (by omega) (by decide) dX2_advise_89 ?_
              have b12 : (0 : Int) ≤ x10 0 cv ∧ x10 0 cv ≤ 1 := okx10 0 (cv)
              refine mf_if_eq (tgt := 143) hx hb dX2_advise_90 (by decide) (i32_mk (by omega) (by omega)) (fun c13 => ?_) (fun c13 => ?_)
              · skip
                refine lv_iinc (v := iI (cv + 1)) (lv' := [(5, .int (iI (cv + 1))), (0, .ref ho), (1, .int (iI (kv))), (2, .int (iI (yv))), (3, .int (iI (bv))), (4, .int (iI (mv)))]) hx hb dX2_advise_143 hl (k := 5) rfl (iI_add _ _).symm (by decide) rfl (fun ls hl => ?_)
                refine lv_goto (tgt := 75) hx hb dX2_advise_146 (by decide) ?_
                obtain ⟨t9, ht9, okt9, hIt9, hct9⟩ := stones_free (rC_ok ok) hq0 okra7 w8.2.1 (by rw [← hx9 cv (by omega) (by omega)]; assumption) f kv
                exact ih75 bv mv (cv + 1) rb (chX Qf cv t9) (mf_up bf cv b0) (by omega) (by first | assumption | omega) (by first | assumption | omega) (by first | assumption | omega) (by first | assumption | omega) (by exact adv_keep (by omega) hG (fun y => by have y3 := y.2.2; omega)) (by first | assumption | omega) (by exact AdvQ_s hQ (fun _ _ => ⟨ht9, okt9, hIt9⟩)) _ _ hP hD hS ls (lv_sub hl [1, 2, 3, 4, 5, 0] rfl)
              · skip
                refine lv_aload_n hx hb dX2_advise_93 rfl (lv_at hl 0 rfl) ?_
                refine va_get (D := G.1) (ci := 2) (v := .ref pn) (C := RX2) (T := TX2) (N := 4) hx hb hts hinX2 hown hK hP 0 rfl rfl 0 (by decide) (hts (.fieldLink RX2 16 "MeanderFarm" "now" "LMeanderFarm$River;") (List.mem_of_getElem? (i := 12) rfl)) (fun _ h9 => h9) rfl dX2_advise_94 ?_
                refine va_getN (D := G.1) (ci := 1) (v := .ref (adn 1)) (C := RX1) (T := TX1) (N := 14) hx hb hts hinX1 hown hK hP 2 rfl rfl 1 (by decide) (va_Nw.use rfl (hN.f 10 rfl)) (fun _ h9 => h9) rfl dX2_advise_97 ?_
                refine lv_iload hx hb dX2_advise_100 (lv_at hl 5 rfl) ?_
                refine mf_iald (n := 384) (f := r 1) hx hb hK hP 4 0 rfl rfl (z := cv) (by omega) (by omega) (by decide) dX2_advise_102 ?_
                have b14 : (0 : Int) ≤ r 1 cv ∧ r 1 cv ≤ 200000000 := ok 1 (cv)
                refine mf_if_le (tgt := 143) hx hb dX2_advise_103 (by decide) (i32_mk (by omega) (by omega)) (fun c15 => ?_) (fun c15 => ?_)
                · skip
                  refine lv_iinc (v := iI (cv + 1)) (lv' := [(5, .int (iI (cv + 1))), (0, .ref ho), (1, .int (iI (kv))), (2, .int (iI (yv))), (3, .int (iI (bv))), (4, .int (iI (mv)))]) hx hb dX2_advise_143 hl (k := 5) rfl (iI_add _ _).symm (by decide) rfl (fun ls hl => ?_)
                  refine lv_goto (tgt := 75) hx hb dX2_advise_146 (by decide) ?_
                  skip
                  exact ih75 bv mv (cv + 1) rb (chX Qf cv r) (mf_up bf cv 0) (by omega) (by first | assumption | omega) (by first | assumption | omega) (by first | assumption | omega) (by first | assumption | omega) (by exact adv_keep (by omega) hG (fun y => y.1 (show r 1 cv = 0 by omega))) (by first | assumption | omega) (by exact AdvQ_s hQ (fun y _ => absurd (show r 1 cv = 0 by omega) y)) _ _ hP hD hS ls (lv_sub hl [1, 2, 3, 4, 5, 0] rfl)
                · skip
                  refine lv_aload_n hx hb dX2_advise_106 rfl (lv_at hl 0 rfl) ?_
                  refine va_get (D := G.1) (ci := 2) (v := .ref pn) (C := RX2) (T := TX2) (N := 4) hx hb hts hinX2 hown hK hP 0 rfl rfl 0 (by decide) (hts (.fieldLink RX2 16 "MeanderFarm" "now" "LMeanderFarm$River;") (List.mem_of_getElem? (i := 12) rfl)) (fun _ h9 => h9) rfl dX2_advise_107 ?_
                  refine va_getN (D := G.1) (ci := 1) (v := .ref (adn 2)) (C := RX1) (T := TX1) (N := 14) hx hb hts hinX1 hown hK hP 2 rfl rfl 2 (by decide) (va_Nw.use rfl (hN.f 8 rfl)) (fun _ h9 => h9) rfl dX2_advise_110 ?_
                  refine lv_iload hx hb dX2_advise_113 (lv_at hl 5 rfl) ?_
                  refine mf_zald (n := 384) (f := r 2) hx hb hK hP 5 1 rfl rfl (z := cv) (by omega) (by omega) (by decide) dX2_advise_115 ?_
                  have b16 : (0 : Int) ≤ r 2 cv ∧ r 2 cv ≤ 1 := ok 2 (cv)
                  refine mf_if_ne (tgt := 143) hx hb dX2_advise_116 (by decide) (i32_mk (by omega) (by omega)) (fun c17 => ?_) (fun c17 => ?_)
                  · skip
                    refine lv_iinc (v := iI (cv + 1)) (lv' := [(5, .int (iI (cv + 1))), (0, .ref ho), (1, .int (iI (kv))), (2, .int (iI (yv))), (3, .int (iI (bv))), (4, .int (iI (mv)))]) hx hb dX2_advise_143 hl (k := 5) rfl (iI_add _ _).symm (by decide) rfl (fun ls hl => ?_)
                    refine lv_goto (tgt := 75) hx hb dX2_advise_146 (by decide) ?_
                    skip
                    exact ih75 bv mv (cv + 1) rb (chX Qf cv r) (mf_up bf cv 0) (by omega) (by first | assumption | omega) (by first | assumption | omega) (by first | assumption | omega) (by first | assumption | omega) (by exact adv_keep (by omega) hG (fun y => absurd (show r 2 cv = 0 from y.2.1) (by omega))) (by first | assumption | omega) (by exact AdvQ_s hQ (fun _ y => absurd (show r 2 cv = 0 from y) (by omega))) _ _ hP hD hS ls (lv_sub hl [1, 2, 3, 4, 5, 0] rfl)
                  · skip
                    refine lv_aload_n hx hb dX2_advise_119 rfl (lv_at hl 0 rfl) ?_
                    refine lv_iload_n hx hb dX2_advise_120 rfl (lv_at hl 1 rfl) ?_
                    refine lv_iload_n hx hb dX2_advise_121 rfl (lv_at hl 2 rfl) ?_
                    refine lv_iload hx hb dX2_advise_122 (lv_at hl 5 rfl) ?_
                    have hFc := va_free (wc := OW G ho pn pa pf ae x10 ++ RW G pn adn r ++ RW G pa ada rb ++ FW G pf adf f) hD hS hA [0, 1, 2, 3, 4, 5, 6, 7, 8, 9, 10, 11, 12, 13, 14, 15, 16, 17, 18, 19, 20, 21, 22, 23, 24, 25, 26, 27, 28, 29, 30] sb_fa58e9b7f3
                    refine va_calli (va_runV (As := [.int (iI (kv)), .int (iI (yv)), .int (iI (cv))]) (rest := []) ⟨hx, hb, hml, hown, hts⟩ (c_X2_landAhead l G ho pn pa pf ae x10 adn r ada rb adf f (kv) (yv) (cv) (Yv) (i32_mk (by omega) (by omega)) (i32_mk (by omega) (by omega)) (i32_mk (by omega) (by omega)) (by assumption) (by assumption) (by assumption) (by assumption) (by exact hI) (by exact hF9) (by first | assumption | omega) (by first | assumption | omega) (by exact hB) (by first | assumption | omega) _) (cwV 3 hts gX2_advise_X2_landAhead rfl rfl rfl (by decide +kernel) ⟨Nat.le_of_ble_eq_true rfl, Nat.le_of_ble_eq_true rfl⟩) (wrV (wc := OW G ho pn pa pf ae x10 ++ RW G pn adn r ++ RW G pa ada rb ++ FW G pf adf f) hK hP hD hN [0, 1, 2, 3, 4, 5, 6, 7, 8, 9, 10, 11, 12, 13, 14, 15, 16, 17, 18, 19, 20, 21, 22, 23, 24, 25, 26, 27, 28, 29, 30] (by decide +kernel) sb_def95aa3f3 sb_fa58e9b7f3 (ci := 2) rfl rfl) rfl rfl hl.1 rfl (lv_room (Nat.le_of_ble_eq_true rfl)) dX2_advise_124 ⟨(Nat.zero_le _), (Nat.zero_le _)⟩) hS (fun q _ h => hFc q h) hFc (fun q18 u19 t H1 locs ht hvm hw hB hz1 hk1 hS => ?_)
                    obtain ⟨rb20, rfl⟩ : ∃ z, z = u19 := ⟨_, rfl⟩
                    try dsimp only at hw hB
                    obtain ⟨hP, hD⟩ := wrJ (ws := OW G ho pn pa pf ae x10 ++ RW G pn adn r ++ RW G pa ada rb ++ FW G pf adf f) (w1 := OW G ho pn pa pf ae x10 ++ RW G pn adn r ++ RW G pa ada rb20 ++ FW G pf adf f) ht hFc hB
                    have hP : va_P G.1 vwCl (OW G ho pn pa pf ae x10 ++ RW G pn adn r ++ RW G pa ada rb20 ++ FW G pf adf f) H1 := hP
                    have hD : va_D A (OW G ho pn pa pf ae x10 ++ RW G pn adn r ++ RW G pa ada rb20 ++ FW G pf adf f) := hD
                    clear hB hk1 hFc ht hz1 hvm
                    generalize H1 = H at hP hS ⊢
                    obtain ⟨z22, rfl, w21⟩ := hw
                    have okrb20 : rOK rlo rhi rb20 := w21.1
                    obtain ⟨b9, hq9⟩ := w21.2.2.2.1 (by omega)
                    have hl9 : z22 = cof f rb20 kv 1 := w21.2.2.2.2
                    have hl8 := cof_b (r := rb20) okf kv 1
                    rw [← hl9] at hl8
                    skip
                    refine lv_istore (lv' := [(6, .int (iI (z22))), (0, .ref ho), (1, .int (iI (kv))), (2, .int (iI (yv))), (3, .int (iI (bv))), (4, .int (iI (mv))), (5, .int (iI (cv)))]) hx hb dX2_advise_127 hl (by decide) rfl (fun ls hl => ?_)
                    refine lv_iload hx hb dX2_advise_129 (lv_at hl 0 rfl) ?_
                    refine lv_iload hx hb dX2_advise_131 (lv_at hl 5 rfl) ?_
                    refine mf_icmp_le (tgt := 143) hx hb dX2_advise_133 (by decide) (i32_mk (by omega) (by omega)) (i32_mk (by omega) (by omega)) (fun c23 => ?_) (fun c23 => ?_)
                    · skip
                      refine lv_iinc (v := iI (cv + 1)) (lv' := [(5, .int (iI (cv + 1))), (6, .int (iI (z22))), (0, .ref ho), (1, .int (iI (kv))), (2, .int (iI (yv))), (3, .int (iI (bv))), (4, .int (iI (mv)))]) hx hb dX2_advise_143 hl (k := 6) rfl (iI_add _ _).symm (by decide) rfl (fun ls hl => ?_)
                      refine lv_goto (tgt := 75) hx hb dX2_advise_146 (by decide) ?_
                      skip
                      exact ih75 bv mv (cv + 1) rb20 (chX Qf cv rb20) (mf_up bf cv b9) (by omega) (by first | assumption | omega) (by first | assumption | omega) (by first | assumption | omega) (by first | assumption | omega) (by exact adv_keep (by omega) hG (fun y => by have y3 := y.2.2; omega)) (by first | assumption | omega) (by exact AdvQ_s hQ (fun _ _ => ⟨hq9, okrb20, w21.2.1⟩)) _ _ hP hD hS ls (lv_sub hl [2, 3, 4, 5, 6, 0] rfl)
                    · skip
                      refine lv_iload hx hb dX2_advise_136 (lv_at hl 0 rfl) ?_
                      refine lv_istore (lv' := [(4, .int (iI (z22))), (6, .int (iI (z22))), (0, .ref ho), (1, .int (iI (kv))), (2, .int (iI (yv))), (3, .int (iI (bv))), (5, .int (iI (cv)))]) hx hb dX2_advise_138 hl (by decide) rfl (fun ls hl => ?_)
                      refine lv_iload hx hb dX2_advise_140 (lv_at hl 6 rfl) ?_
                      refine lv_istore_n (lv' := [(3, .int (iI (cv))), (4, .int (iI (z22))), (6, .int (iI (z22))), (0, .ref ho), (1, .int (iI (kv))), (2, .int (iI (yv))), (5, .int (iI (cv)))]) hx hb dX2_advise_142 rfl hl (by decide) rfl (fun ls hl => ?_)
                      refine lv_iinc (v := iI (cv + 1)) (lv' := [(5, .int (iI (cv + 1))), (3, .int (iI (cv))), (4, .int (iI (z22))), (6, .int (iI (z22))), (0, .ref ho), (1, .int (iI (kv))), (2, .int (iI (yv)))]) hx hb dX2_advise_143 hl (k := 6) rfl (iI_add _ _).symm (by decide) rfl (fun ls hl => ?_)
                      refine lv_goto (tgt := 75) hx hb dX2_advise_146 (by decide) ?_
                      skip
                      exact ih75 cv z22 (cv + 1) rb20 (chX Qf cv rb20) (mf_up bf cv b9) (by omega) (by first | assumption | omega) (by first | assumption | omega) (by first | assumption | omega) (by first | assumption | omega) (by exact adv_take (by omega) hG (show ¬ r 1 cv = 0 by omega) (show r 2 cv = 0 by omega) hl9 (by omega)) (by first | assumption | omega) (by exact AdvQ_s hQ (fun _ _ => ⟨hq9, okrb20, w21.2.1⟩)) _ _ hP hD hS ls (lv_sub hl [4, 5, 6, 1, 2, 0] rfl)
        exact lp75 (_ + 1) (-1) z9 0 ra7 (fun _ => r) (fun _ => 0) (Nat.lt_succ_self _) (by first | assumption | omega) (by first | assumption | omega) (by first | assumption | omega) (by first | assumption | omega) (by rw [hm9]; rfl) (by omega) (by intro c c0 c1; omega) _ _ hP hD hS ls (lv_sub hl [3, 4, 5, 2, 1, 0] rfl)
      · skip
        have hk9 : kAdv f kv yv = 2 := (mf_if_f (fun z => z hF9)).trans (mf_if_t (by omega))
        exact mf_throw (ik := 48) (is := 192) (ic := 52) (cls := "java/lang/IllegalArgumentException") hx hb hl9 hown (by decide +kernel) (hts (.classLink RX2 48 "java/lang/IllegalArgumentException") (List.mem_of_getElem? (i := 3) rfl)) (hts (.initialized "java/lang/IllegalArgumentException") (List.mem_of_getElem? (i := 4) rfl)) hSX (List.mem_of_getElem? (i := 17) rfl) hat52 xg52 hZ hP hD hS (hl.1.trans hml.symm) dX2_advise_32 dX2_advise_35 dX2_advise_36 dX2_advise_38 dX2_advise_41 hexc (Nat.le_of_ble_eq_true rfl) (Nat.le_of_ble_eq_true rfl) (Nat.le_of_ble_eq_true rfl) (Nat.le_of_ble_eq_true rfl) hlocks (by exact Or.inr (⟨rfl, hk9⟩)) (Nat.le_of_ble_eq_true rfl) (Nat.le_of_ble_eq_true rfl)
  · skip
    have c2' := c2; unfold isF at c2'
    have hk9 : kAdv f kv yv = 1 := mf_if_t (by assumption)
    exact mf_throw (ik := 38) (is := 171) (ic := 42) (cls := "java/lang/IndexOutOfBoundsException") hx hb hl9 hown (by decide +kernel) (hts (.classLink RX2 38 "java/lang/IndexOutOfBoundsException") (List.mem_of_getElem? (i := 1) rfl)) (hts (.initialized "java/lang/IndexOutOfBoundsException") (List.mem_of_getElem? (i := 2) rfl)) hSX (List.mem_of_getElem? (i := 13) rfl) hat42 xg42 hZ hP hD hS (hl.1.trans hml.symm) dX2_advise_11 dX2_advise_14 dX2_advise_15 dX2_advise_17 dX2_advise_20 hexc (Nat.le_of_ble_eq_true rfl) (Nat.le_of_ble_eq_true rfl) (Nat.le_of_ble_eq_true rfl) (Nat.le_of_ble_eq_true rfl) hlocks (by exact Or.inl ⟨rfl, hk9⟩) (Nat.le_of_ble_eq_true rfl) (Nat.le_of_ble_eq_true rfl)
