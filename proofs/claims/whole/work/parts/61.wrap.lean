/-! 61.wrap -/
theorem sb_f976e10569 {G : mf_G} {gL : ClassId} {h1 p1 a1 f1 ae1 : Nat} {x1 : mf_V} {h2 : Nat} {x2 : Nat → Int64} {h3 : Nat} {ad3 : Nat → Nat} {x3 : mf_V} {h4 : Nat} {ad4 : Nat → Nat} {x4 : mf_V} {h5 : Nat} {ad5 : Nat → Nat} {x5 : mf_V} : ([0, 1, 3, 4, 5, 6, 7, 8, 9, 10, 11, 12, 13, 14, 15, 16, 17, 18, 19, 20, 21, 22, 23, 24, 25, 26, 27, 28, 29, 30, 31] : List Nat).filterMap (fun i => (OW G h1 p1 a1 f1 ae1 x1 ++ LW gL h2 x2 ++ RW G h3 ad3 x3 ++ RW G h4 ad4 x4 ++ FW G h5 ad5 x5)[i]?) = OW G h1 p1 a1 f1 ae1 x1 ++ RW G h3 ad3 x3 ++ RW G h4 ad4 x4 ++ FW G h5 ad5 x5 := rfl
theorem sb_25e4c4fd82 {G : mf_G} {gL : ClassId} {h1 p1 a1 f1 ae1 : Nat} {x1 : mf_V} {h2 : Nat} {x2 : Nat → Int64} {h3 : Nat} {ad3 : Nat → Nat} {x3 : mf_V} {h4 : Nat} {ad4 : Nat → Nat} {x4 : mf_V} {h5 : Nat} {ad5 : Nat → Nat} {x5 : mf_V} : ([0, 1, 3, 4, 5, 6, 7, 8, 9, 10, 11, 12, 13, 14, 15, 16, 17, 18, 19, 20, 21, 22, 23, 24, 25, 26, 27, 28, 29, 30, 31] : List Nat).map (fun i => (OW G h1 p1 a1 f1 ae1 x1 ++ LW gL h2 x2 ++ RW G h3 ad3 x3 ++ RW G h4 ad4 x4 ++ FW G h5 ad5 x5)[i]?) = (OW G h1 p1 a1 f1 ae1 x1 ++ RW G h3 ad3 x3 ++ RW G h4 ad4 x4 ++ FW G h5 ad5 x5).map some := rfl
theorem sb_e40585b7f7 {G : mf_G} {gL : ClassId} {h1 p1 a1 f1 ae1 : Nat} {x1 : mf_V} {h2 : Nat} {x2 : Nat → Int64} {h3 : Nat} {ad3 : Nat → Nat} {x3 : mf_V} {h4 : Nat} {ad4 : Nat → Nat} {x4 : mf_V} {h5 : Nat} {ad5 : Nat → Nat} {x5 : mf_V} : ([2] : List Nat).map (fun i => (OW G h1 p1 a1 f1 ae1 x1 ++ LW gL h2 x2 ++ RW G h3 ad3 x3 ++ RW G h4 ad4 x4 ++ FW G h5 ad5 x5)[i]?) = (LW gL h2 x2).map some := rfl
theorem sb_13d50e5728 {G : mf_G} {gL : ClassId} {h1 : Nat} {x1 : Nat → Int64} {h2 p2 a2 f2 ae2 : Nat} {x2 : mf_V} {h3 : Nat} {ad3 : Nat → Nat} {x3 : mf_V} {h4 : Nat} {ad4 : Nat → Nat} {x4 : mf_V} {h5 : Nat} {ad5 : Nat → Nat} {x5 : mf_V} : ([1, 2, 0, 3, 4, 5, 6, 7, 8, 9, 10, 11, 12, 13, 14, 15, 16, 17, 18, 19, 20, 21, 22, 23, 24, 25, 26, 27, 28, 29, 30, 31] : List Nat).filterMap (fun i => ((LW gL h1 x1) ++ (OW G h2 p2 a2 f2 ae2 x2 ++ RW G h3 ad3 x3 ++ RW G h4 ad4 x4 ++ FW G h5 ad5 x5))[i]?) = OW G h2 p2 a2 f2 ae2 x2 ++ LW gL h1 x1 ++ RW G h3 ad3 x3 ++ RW G h4 ad4 x4 ++ FW G h5 ad5 x5 := rfl
theorem sb_eddd18e5dc {G : mf_G} {gL : ClassId} {h1 : Nat} {x1 : Nat → Int64} {h2 p2 a2 f2 ae2 : Nat} {x2 : mf_V} {h3 : Nat} {ad3 : Nat → Nat} {x3 : mf_V} {h4 : Nat} {ad4 : Nat → Nat} {x4 : mf_V} {h5 : Nat} {ad5 : Nat → Nat} {x5 : mf_V} : ([1, 2, 0, 3, 4, 5, 6, 7, 8, 9, 10, 11, 12, 13, 14, 15, 16, 17, 18, 19, 20, 21, 22, 23, 24, 25, 26, 27, 28, 29, 30, 31] : List Nat).map (fun i => ((LW gL h1 x1) ++ (OW G h2 p2 a2 f2 ae2 x2 ++ RW G h3 ad3 x3 ++ RW G h4 ad4 x4 ++ FW G h5 ad5 x5))[i]?) = (OW G h2 p2 a2 f2 ae2 x2 ++ LW gL h1 x1 ++ RW G h3 ad3 x3 ++ RW G h4 ad4 x4 ++ FW G h5 ad5 x5).map some := rfl
set_option maxHeartbeats 4000000 in
set_option maxRecDepth 100000 in
theorem c_L_setHardness (l : Launch) (hl9 : l.stackTraces = false) (G : mf_G) (gL : ClassId) (ho pn pa pf : Nat) (ae : Nat) (x : mf_V) (jw : Nat) (o : Nat → Int64) (adn : Nat → Nat) (r : mf_V) (ada : Nat → Nat) (ra : mf_V) (adf : Nat → Nat) (f : mf_V)  (xv : Int) (yv : Int) (hv : Int) (hxv : i32 xv) (hyv : i32 yv) (hhv : i32 hv) (okx : rOK xlo xhi x) (ok : rOK rlo rhi r) (okra : rOK rlo rhi ra) (okf : rOK flo fhi f) (sz : Nat) : vx_Met l yL_setHardness wsL_setHardness ({ frames := 7, cells := 1, slots := 6, locals := 115 }) (va_Pc [.ref ho, .int (iI (xv)), .int (iI (yv)), .int (iI (hv)), .ref jw] (WrPy G gL (OW G ho pn pa pf ae x ++ LW gL jw o ++ RW G pn adn r ++ RW G pa ada ra ++ FW G pf adf f) sz)) (va_Qi (fun q9 (u : mf_V × (Nat → Int64) × mf_V × mf_V × mf_V) => ∃ z : Int, q9 = iI z ∧ z = kHard xv yv hv ∧ (rOK xlo xhi u.1 ∧ rOK rlo rhi u.2.2.1 ∧ rOK rlo rhi u.2.2.2.1 ∧ rOK flo fhi u.2.2.2.2) ∧ (kHard xv yv hv = 0 → ∃ v : Int, u.2.1 0 = lI (wrI v) ∧ u.2.2.1 = mf_sF r 0 (mf_up (r 0) (xv + 24 * yv) hv) ∧ u.2.2.2.2 = f ∧ v = r 0 (xv + 24 * yv)) ∧ (¬ kHard xv yv hv = 0 → u.1 = x ∧ u.2.2.1 = r ∧ u.2.2.2.1 = ra ∧ u.2.2.2.2 = f)) (fun (u : mf_V × (Nat → Int64) × mf_V × mf_V × mf_V) t => WrQ G (va_A (OW G ho pn pa pf ae x ++ LW gL jw o ++ RW G pn adn r ++ RW G pa ada ra ++ FW G pf adf f) sz) (OW G ho pn pa pf ae (u.1) ++ LW gL jw (u.2.1) ++ RW G pn adn (u.2.2.1) ++ RW G pa ada (u.2.2.2.1) ++ FW G pf adf (u.2.2.2.2)) t) (va_A (OW G ho pn pa pf ae x ++ LW gL jw o ++ RW G pn adn r ++ RW G pa ada ra ++ FW G pf adf f) sz)) (vx_X (fun _ : Unit => False) (fun _ _ _ => False) (va_A (OW G ho pn pa pf ae x ++ LW gL jw o ++ RW G pn adn r ++ RW G pa ada ra ++ FW G pf adf f) sz)) 1 6 (va_A (OW G ho pn pa pf ae x ++ LW gL jw o ++ RW G pn adn r ++ RW G pa ada ra ++ FW G pf adf f) sz) := by
  refine vx_ofWH (cc := cL_setHardness) (maxL := 6) (ret := (some .int)) (hh := [(0, 12, 15, 13), (0, 12, 19, 15)]) (by decide +kernel) rfl ?_
  intro p e s m args below meth c s₁ B hml hv
  obtain ⟨rfl, hsz, hP, hK, hD0, hN, hSX, hCX, hZ, hNX⟩ := hv
  have hx := B.exec
  have hb := B.bytes
  have hr := B.returns
  have hts := atoms_spec (ws := wsL_setHardness) B.pre
  have hown : s.vm.findClass RL = some m.cls := findClass_of_methodNamed B.named
  have hlocks := B.notSynchronized
  have hK2 := hK
  have hK := hK2.sub (tys' := mf_ty G) [0, 1] rfl
  have htab := vx_table (x := yL_setHardness) B (hts (.codeWith yL_setHardness cL_setHardness 6 (some .int) [(0, 12, 15, 13), (0, 12, 19, 15)]) List.mem_cons_self)
  subst hsz
  have hD := hD0.self (sz := s.heap.size)
  generalize hAe : va_A (OW G ho pn pa pf ae x ++ LW gL jw o ++ RW G pn adn r ++ RW G pa ada ra ++ FW G pf adf f) s.heap.size = A at hD hZ ⊢
  have hA : ∀ q : Nat, s.heap.size ≤ q → A q := fun q h => by rw [← hAe]; exact Or.inr h
  have hS : va_S A s.heap s.heap [] := va_S.rf
  have hl := lv_entry ([.ref ho, .int (iI (xv)), .int (iI (yv)), .int (iI (hv)), .ref jw]) (n := 6) (Nat.le_of_ble_eq_true rfl)
  rw [lg_entry_eq]
  generalize (lg_sl ([.ref ho, .int (iI (xv)), .int (iI (yv)), .int (iI (hv)), .ref jw]) ++ List.replicate (6 - (lg_sl ([.ref ho, .int (iI (xv)), .int (iI (yv)), .int (iI (hv)), .ref jw])).length) Slot.unset).toArray = ls at hl ⊢
  have hl : lv_has ls 6 [(0, .ref ho), (1, .int (iI (xv))), (2, .int (iI (yv))), (3, .int (iI (hv))), (4, .ref jw)] := hl
  have hxv1 := hxv.1
  have hxv2 := hxv.2
  have hyv1 := hyv.1
  have hyv2 := hyv.2
  have hhv1 := hhv.1
  have hhv2 := hhv.2
  have okLr : (0 : Int) ≤ r 7 0 ∧ r 7 0 ≤ 150 := ok 7 0
  have okLra : (0 : Int) ≤ ra 7 0 ∧ ra 7 0 ≤ 150 := okra 7 0
  refine lv_aload hx hb dL_setHardness_0 (lv_at hl 4 rfl) ?_
  refine mf_iconst hx hb dL_setHardness_2 ?_
  refine lv_aload_n hx hb dL_setHardness_3 rfl (lv_at hl 0 rfl) ?_
  refine lv_iload_n hx hb dL_setHardness_4 rfl (lv_at hl 1 rfl) ?_
  refine lv_iload_n hx hb dL_setHardness_5 rfl (lv_at hl 2 rfl) ?_
  refine lv_iload_n hx hb dL_setHardness_6 rfl (lv_at hl 3 rfl) ?_
  have hFc := va_free (wc := OW G ho pn pa pf ae x ++ RW G pn adn r ++ RW G pa ada ra ++ FW G pf adf f) hD hS hA [0, 1, 3, 4, 5, 6, 7, 8, 9, 10, 11, 12, 13, 14, 15, 16, 17, 18, 19, 20, 21, 22, 23, 24, 25, 26, 27, 28, 29, 30, 31] sb_25e4c4fd82
  refine vx_calli (vx_runV (As := [.int (iI (xv)), .int (iI (yv)), .int (iI (hv))]) (rest := [.int (iI (0)), .ref jw]) ⟨hx, hb, hml, hown, hts⟩ (c_X2_setHardness l hl9 G ho pn pa pf ae x adn r ada ra adf f (xv) (yv) (hv) (i32_mk (by omega) (by omega)) (i32_mk (by omega) (by omega)) (i32_mk (by omega) (by omega)) (by assumption) (by assumption) (by assumption) (by assumption) _) (cwV 3 hts gL_setHardness_X2_setHardness rfl rfl rfl (by decide +kernel) ⟨Nat.le_of_ble_eq_true rfl, Nat.le_of_ble_eq_true rfl⟩) (wrVx (wc := OW G ho pn pa pf ae x ++ RW G pn adn r ++ RW G pa ada ra ++ FW G pf adf f) hSX hCX hZ hS hFc hK hP hD hN [0, 1, 3, 4, 5, 6, 7, 8, 9, 10, 11, 12, 13, 14, 15, 16, 17, 18, 19, 20, 21, 22, 23, 24, 25, 26, 27, 28, 29, 30, 31] (by decide +kernel) sb_f976e10569 sb_25e4c4fd82 (ci := 2) rfl rfl) rfl rfl hl.1 rfl (lv_room (Nat.le_of_ble_eq_true rfl)) dL_setHardness_7 ⟨Nat.le_of_ble_eq_true rfl, Nat.le_of_ble_eq_true rfl⟩) hS (fun q _ h => hFc q h) hFc (fun q _ h => hFc q h) (fun E ce q9 _ t H1 locs ht hvm _ hB hz1 hk1 hS hce hcv hcl => ?_) (fun q1 u2 t H1 locs ht hvm hw hB hz1 hk1 hS => ?_)
  · skip
    obtain ⟨hxp, hB⟩ := hB
    obtain ⟨hP, hD⟩ := wrJ2 (ws := OW G ho pn pa pf ae x ++ LW gL jw o ++ RW G pn adn r ++ RW G pa ada ra ++ FW G pf adf f) (wc := OW G ho pn pa pf ae x ++ RW G pn adn r ++ RW G pa ada ra ++ FW G pf adf f) (wr := LW gL jw o) (w1 := OW G ho pn pa pf ae x ++ RW G pn adn r ++ RW G pa ada ra ++ FW G pf adf f) hP hD [0, 1, 3, 4, 5, 6, 7, 8, 9, 10, 11, 12, 13, 14, 15, 16, 17, 18, 19, 20, 21, 22, 23, 24, 25, 26, 27, 28, 29, 30, 31] [2] sb_25e4c4fd82 sb_e40585b7f7 (by decide +kernel) (by decide +kernel) hk1 ht hFc hB
    have hP : va_P G.1 vwCl (OW G ho pn pa pf ae x ++ LW gL jw o ++ RW G pn adn r ++ RW G pa ada ra ++ FW G pf adf f) H1 := hP.sub [1, 2, 0, 3, 4, 5, 6, 7, 8, 9, 10, 11, 12, 13, 14, 15, 16, 17, 18, 19, 20, 21, 22, 23, 24, 25, 26, 27, 28, 29, 30, 31] sb_13d50e5728
    have hD : va_D A (OW G ho pn pa pf ae x ++ LW gL jw o ++ RW G pn adn r ++ RW G pa ada ra ++ FW G pf adf f) := hD.sub [1, 2, 0, 3, 4, 5, 6, 7, 8, 9, 10, 11, 12, 13, 14, 15, 16, 17, 18, 19, 20, 21, 22, 23, 24, 25, 26, 27, 28, 29, 30, 31] (by decide +kernel) sb_eddd18e5dc
    clear hB hk1 hFc ht hz1 hvm
    generalize H1 = H at hP hS hce ⊢
    rcases hxp with ⟨rfl, hk9⟩ | ⟨rfl, hk9⟩
    · skip
      refine vx_catch (name := xIO) hown [] ⟨0, 12, 15, 13⟩ [⟨0, 12, 19, 15⟩] htab (fun z hz => by cases hz) (by decide) (by decide) (hts (.classLink RL 13 "java/lang/IndexOutOfBoundsException") (List.mem_of_getElem? (i := 1) rfl)) (va_Nw.use rfl hCX.1) hce hcv hcl ?_
      refine lv_astore (lv' := [(5, .ref q9), (0, .ref ho), (1, .int (iI (xv))), (2, .int (iI (yv))), (3, .int (iI (hv))), (4, .ref jw)]) hx hb dL_setHardness_15 hl (by decide) rfl (fun ls hl => ?_)
      refine mf_iconst hx hb dL_setHardness_17 ?_
      refine vx_ret ?_
      exact W.iret hx hb hr (fun t ht hW => ⟨⟨_, (x, o, r, ra, f), rfl, ⟨_, rfl, by (try dsimp only); exact ⟨hk9.symm, ⟨okx, ok, okra, okf⟩, fun z9 => absurd (hk9.symm.trans z9) (by decide), fun _ => ⟨rfl, rfl, rfl, rfl⟩⟩⟩, by rw [ht]; exact hP, hD⟩, hS.F ht⟩) hS.2.2 dL_setHardness_18
    · skip
      refine vx_catch (name := xIA) hown [⟨0, 12, 15, 13⟩] ⟨0, 12, 19, 15⟩ [] htab (fun z hz => by (rcases List.mem_cons.mp hz with rfl | hz; exact Or.inr ⟨by decide, _, (hts (.classLink RL 13 "java/lang/IndexOutOfBoundsException") (List.mem_of_getElem? (i := 1) rfl)), hNX.1⟩); cases hz) (by decide) (by decide) (hts (.classLink RL 15 "java/lang/IllegalArgumentException") (List.mem_of_getElem? (i := 2) rfl)) (va_Nw.use rfl hCX.2.1) hce hcv hcl ?_
      refine lv_astore (lv' := [(5, .ref q9), (0, .ref ho), (1, .int (iI (xv))), (2, .int (iI (yv))), (3, .int (iI (hv))), (4, .ref jw)]) hx hb dL_setHardness_19 hl (by decide) rfl (fun ls hl => ?_)
      refine mf_iconst hx hb dL_setHardness_21 ?_
      refine vx_ret ?_
      exact W.iret hx hb hr (fun t ht hW => ⟨⟨_, (x, o, r, ra, f), rfl, ⟨_, rfl, by (try dsimp only); exact ⟨hk9.symm, ⟨okx, ok, okra, okf⟩, fun z9 => absurd (hk9.symm.trans z9) (by decide), fun _ => ⟨rfl, rfl, rfl, rfl⟩⟩⟩, by rw [ht]; exact hP, hD⟩, hS.F ht⟩) hS.2.2 dL_setHardness_22
  · skip
    obtain ⟨x3, r4, ra5, f6⟩ := u2
    try dsimp only at hw hB
    obtain ⟨hP, hD⟩ := wrJ2 (ws := OW G ho pn pa pf ae x ++ LW gL jw o ++ RW G pn adn r ++ RW G pa ada ra ++ FW G pf adf f) (wc := OW G ho pn pa pf ae x ++ RW G pn adn r ++ RW G pa ada ra ++ FW G pf adf f) (wr := LW gL jw o) (w1 := OW G ho pn pa pf ae x3 ++ RW G pn adn r4 ++ RW G pa ada ra5 ++ FW G pf adf f6) hP hD [0, 1, 3, 4, 5, 6, 7, 8, 9, 10, 11, 12, 13, 14, 15, 16, 17, 18, 19, 20, 21, 22, 23, 24, 25, 26, 27, 28, 29, 30, 31] [2] sb_25e4c4fd82 sb_e40585b7f7 (by decide +kernel) (by decide +kernel) hk1 ht hFc hB
    have hP : va_P G.1 vwCl (OW G ho pn pa pf ae x3 ++ LW gL jw o ++ RW G pn adn r4 ++ RW G pa ada ra5 ++ FW G pf adf f6) H1 := hP.sub [1, 2, 0, 3, 4, 5, 6, 7, 8, 9, 10, 11, 12, 13, 14, 15, 16, 17, 18, 19, 20, 21, 22, 23, 24, 25, 26, 27, 28, 29, 30, 31] sb_13d50e5728
    have hD : va_D A (OW G ho pn pa pf ae x3 ++ LW gL jw o ++ RW G pn adn r4 ++ RW G pa ada ra5 ++ FW G pf adf f6) := hD.sub [1, 2, 0, 3, 4, 5, 6, 7, 8, 9, 10, 11, 12, 13, 14, 15, 16, 17, 18, 19, 20, 21, 22, 23, 24, 25, 26, 27, 28, 29, 30, 31] (by decide +kernel) sb_eddd18e5dc
    clear hB hk1 hFc ht hz1 hvm
    generalize H1 = H at hP hS ⊢
    obtain ⟨z7, rfl, w8⟩ := hw
    refine mf_i2lw hx hb dL_setHardness_10 ?_
    refine va_last hx hb hK2 hP hD hS 2 2 rfl rfl (i := iI 0) (x := lI (wrI (z7))) (iI_in (z := 0) (by decide) (by decide) (by decide)) dL_setHardness_11 (fun H locs hP hD hS => ?_)
    obtain ⟨ov9, eov9⟩ : ∃ z9 : Nat → Int64, z9 = vp_updL o (iI 0).toNatClampNeg (lI (wrI (z7))) := ⟨_, rfl⟩
    have hP : va_P G.1 vwCl (OW G ho pn pa pf ae x3 ++ LW gL jw ov9 ++ RW G pn adn r4 ++ RW G pa ada ra5 ++ FW G pf adf f6) H := by rw [eov9]; exact hP
    have hD : va_D A (OW G ho pn pa pf ae x3 ++ LW gL jw ov9 ++ RW G pn adn r4 ++ RW G pa ada ra5 ++ FW G pf adf f6) := by rw [eov9]; exact hD
    have f0_ov9 : ov9 0 = lI (wrI (z7)) := by rw [eov9]; exact if_pos (by decide)
    refine lv_goto (tgt := 23) hx hb dL_setHardness_12 (by decide) ?_
    refine mf_iconst hx hb dL_setHardness_23 ?_
    refine vx_ret ?_
    exact W.iret hx hb hr (fun t ht hW => ⟨⟨_, (x3, ov9, r4, ra5, f6), rfl, ⟨_, rfl, by (try dsimp only); exact ⟨w8.1.symm, w8.2.1, fun _ => ⟨_, f0_ov9, w8.2.2⟩, fun z9 => absurd w8.1 z9⟩⟩, by rw [ht]; exact hP, hD⟩, hS.F ht⟩) hS.2.2 dL_setHardness_24
set_option maxHeartbeats 4000000 in
set_option maxRecDepth 100000 in
theorem c_L_setStones (l : Launch) (hl9 : l.stackTraces = false) (G : mf_G) (gL : ClassId) (ho pn pa pf : Nat) (ae : Nat) (x : mf_V) (jw : Nat) (o : Nat → Int64) (adn : Nat → Nat) (r : mf_V) (ada : Nat → Nat) (ra : mf_V) (adf : Nat → Nat) (f : mf_V)  (xv : Int) (yv : Int) (bv : Int) (hxv : i32 xv) (hyv : i32 yv) (hbv : i32 bv) (okx : rOK xlo xhi x) (ok : rOK rlo rhi r) (okra : rOK rlo rhi ra) (okf : rOK flo fhi f) (hb01 : 0 ≤ bv ∧ bv ≤ 1) (sz : Nat) : vx_Met l yL_setStones wsL_setStones ({ frames := 7, cells := 1, slots := 6, locals := 114 }) (va_Pc [.ref ho, .int (iI (xv)), .int (iI (yv)), .int (iI (bv)), .ref jw] (WrPy G gL (OW G ho pn pa pf ae x ++ LW gL jw o ++ RW G pn adn r ++ RW G pa ada ra ++ FW G pf adf f) sz)) (va_Qi (fun q9 (u : mf_V × (Nat → Int64) × mf_V × mf_V × mf_V) => ∃ z : Int, q9 = iI z ∧ z = kCell xv yv ∧ (rOK xlo xhi u.1 ∧ rOK rlo rhi u.2.2.1 ∧ rOK rlo rhi u.2.2.2.1 ∧ rOK flo fhi u.2.2.2.2) ∧ (kCell xv yv = 0 → ∃ v : Int, u.2.1 0 = lI (wrI v) ∧ u.2.2.1 = mf_sF r 2 (mf_up (r 2) (xv + 24 * yv) bv) ∧ u.2.2.2.2 = f ∧ v = stonesF (mf_sF r 2 (mf_up (r 2) (xv + 24 * yv) bv))) ∧ (¬ kCell xv yv = 0 → u.1 = x ∧ u.2.2.1 = r ∧ u.2.2.2.1 = ra ∧ u.2.2.2.2 = f)) (fun (u : mf_V × (Nat → Int64) × mf_V × mf_V × mf_V) t => WrQ G (va_A (OW G ho pn pa pf ae x ++ LW gL jw o ++ RW G pn adn r ++ RW G pa ada ra ++ FW G pf adf f) sz) (OW G ho pn pa pf ae (u.1) ++ LW gL jw (u.2.1) ++ RW G pn adn (u.2.2.1) ++ RW G pa ada (u.2.2.2.1) ++ FW G pf adf (u.2.2.2.2)) t) (va_A (OW G ho pn pa pf ae x ++ LW gL jw o ++ RW G pn adn r ++ RW G pa ada ra ++ FW G pf adf f) sz)) (vx_X (fun _ : Unit => False) (fun _ _ _ => False) (va_A (OW G ho pn pa pf ae x ++ LW gL jw o ++ RW G pn adn r ++ RW G pa ada ra ++ FW G pf adf f) sz)) 1 6 (va_A (OW G ho pn pa pf ae x ++ LW gL jw o ++ RW G pn adn r ++ RW G pa ada ra ++ FW G pf adf f) sz) := by
  refine vx_ofWH (cc := cL_setStones) (maxL := 6) (ret := (some .int)) (hh := [(0, 12, 15, 13)]) (by decide +kernel) rfl ?_
  intro p e s m args below meth c s₁ B hml hv
  obtain ⟨rfl, hsz, hP, hK, hD0, hN, hSX, hCX, hZ, hNX⟩ := hv
  have hx := B.exec
  have hb := B.bytes
  have hr := B.returns
  have hts := atoms_spec (ws := wsL_setStones) B.pre
  have hown : s.vm.findClass RL = some m.cls := findClass_of_methodNamed B.named
  have hlocks := B.notSynchronized
  have hK2 := hK
  have hK := hK2.sub (tys' := mf_ty G) [0, 1] rfl
  have htab := vx_table (x := yL_setStones) B (hts (.codeWith yL_setStones cL_setStones 6 (some .int) [(0, 12, 15, 13)]) List.mem_cons_self)
  subst hsz
  have hD := hD0.self (sz := s.heap.size)
  generalize hAe : va_A (OW G ho pn pa pf ae x ++ LW gL jw o ++ RW G pn adn r ++ RW G pa ada ra ++ FW G pf adf f) s.heap.size = A at hD hZ ⊢
  have hA : ∀ q : Nat, s.heap.size ≤ q → A q := fun q h => by rw [← hAe]; exact Or.inr h
  have hS : va_S A s.heap s.heap [] := va_S.rf
  have hl := lv_entry ([.ref ho, .int (iI (xv)), .int (iI (yv)), .int (iI (bv)), .ref jw]) (n := 6) (Nat.le_of_ble_eq_true rfl)
  rw [lg_entry_eq]
  generalize (lg_sl ([.ref ho, .int (iI (xv)), .int (iI (yv)), .int (iI (bv)), .ref jw]) ++ List.replicate (6 - (lg_sl ([.ref ho, .int (iI (xv)), .int (iI (yv)), .int (iI (bv)), .ref jw])).length) Slot.unset).toArray = ls at hl ⊢
  have hl : lv_has ls 6 [(0, .ref ho), (1, .int (iI (xv))), (2, .int (iI (yv))), (3, .int (iI (bv))), (4, .ref jw)] := hl
  have hxv1 := hxv.1
  have hxv2 := hxv.2
  have hyv1 := hyv.1
  have hyv2 := hyv.2
  have hbv1 := hbv.1
  have hbv2 := hbv.2
  have okLr : (0 : Int) ≤ r 7 0 ∧ r 7 0 ≤ 150 := ok 7 0
  have okLra : (0 : Int) ≤ ra 7 0 ∧ ra 7 0 ≤ 150 := okra 7 0
  refine lv_aload hx hb dL_setStones_0 (lv_at hl 4 rfl) ?_
  refine mf_iconst hx hb dL_setStones_2 ?_
  refine lv_aload_n hx hb dL_setStones_3 rfl (lv_at hl 0 rfl) ?_
  refine lv_iload_n hx hb dL_setStones_4 rfl (lv_at hl 1 rfl) ?_
  refine lv_iload_n hx hb dL_setStones_5 rfl (lv_at hl 2 rfl) ?_
  refine lv_iload_n hx hb dL_setStones_6 rfl (lv_at hl 3 rfl) ?_
  have hFc := va_free (wc := OW G ho pn pa pf ae x ++ RW G pn adn r ++ RW G pa ada ra ++ FW G pf adf f) hD hS hA [0, 1, 3, 4, 5, 6, 7, 8, 9, 10, 11, 12, 13, 14, 15, 16, 17, 18, 19, 20, 21, 22, 23, 24, 25, 26, 27, 28, 29, 30, 31] sb_25e4c4fd82
  refine vx_calli (vx_runV (As := [.int (iI (xv)), .int (iI (yv)), .int (iI (bv))]) (rest := [.int (iI (0)), .ref jw]) ⟨hx, hb, hml, hown, hts⟩ (c_X2_setStones l hl9 G ho pn pa pf ae x adn r ada ra adf f (xv) (yv) (bv) (i32_mk (by omega) (by omega)) (i32_mk (by omega) (by omega)) (i32_mk (by omega) (by omega)) (by assumption) (by assumption) (by assumption) (by assumption) (by first | assumption | omega) _) (cwV 3 hts gL_setStones_X2_setStones rfl rfl rfl (by decide +kernel) ⟨Nat.le_of_ble_eq_true rfl, Nat.le_of_ble_eq_true rfl⟩) (wrVx (wc := OW G ho pn pa pf ae x ++ RW G pn adn r ++ RW G pa ada ra ++ FW G pf adf f) hSX hCX hZ hS hFc hK hP hD hN [0, 1, 3, 4, 5, 6, 7, 8, 9, 10, 11, 12, 13, 14, 15, 16, 17, 18, 19, 20, 21, 22, 23, 24, 25, 26, 27, 28, 29, 30, 31] (by decide +kernel) sb_f976e10569 sb_25e4c4fd82 (ci := 2) rfl rfl) rfl rfl hl.1 rfl (lv_room (Nat.le_of_ble_eq_true rfl)) dL_setStones_7 ⟨Nat.le_of_ble_eq_true rfl, Nat.le_of_ble_eq_true rfl⟩) hS (fun q _ h => hFc q h) hFc (fun q _ h => hFc q h) (fun E ce q9 _ t H1 locs ht hvm _ hB hz1 hk1 hS hce hcv hcl => ?_) (fun q1 u2 t H1 locs ht hvm hw hB hz1 hk1 hS => ?_)
  · skip
    obtain ⟨hxp, hB⟩ := hB
    obtain ⟨hP, hD⟩ := wrJ2 (ws := OW G ho pn pa pf ae x ++ LW gL jw o ++ RW G pn adn r ++ RW G pa ada ra ++ FW G pf adf f) (wc := OW G ho pn pa pf ae x ++ RW G pn adn r ++ RW G pa ada ra ++ FW G pf adf f) (wr := LW gL jw o) (w1 := OW G ho pn pa pf ae x ++ RW G pn adn r ++ RW G pa ada ra ++ FW G pf adf f) hP hD [0, 1, 3, 4, 5, 6, 7, 8, 9, 10, 11, 12, 13, 14, 15, 16, 17, 18, 19, 20, 21, 22, 23, 24, 25, 26, 27, 28, 29, 30, 31] [2] sb_25e4c4fd82 sb_e40585b7f7 (by decide +kernel) (by decide +kernel) hk1 ht hFc hB
    have hP : va_P G.1 vwCl (OW G ho pn pa pf ae x ++ LW gL jw o ++ RW G pn adn r ++ RW G pa ada ra ++ FW G pf adf f) H1 := hP.sub [1, 2, 0, 3, 4, 5, 6, 7, 8, 9, 10, 11, 12, 13, 14, 15, 16, 17, 18, 19, 20, 21, 22, 23, 24, 25, 26, 27, 28, 29, 30, 31] sb_13d50e5728
    have hD : va_D A (OW G ho pn pa pf ae x ++ LW gL jw o ++ RW G pn adn r ++ RW G pa ada ra ++ FW G pf adf f) := hD.sub [1, 2, 0, 3, 4, 5, 6, 7, 8, 9, 10, 11, 12, 13, 14, 15, 16, 17, 18, 19, 20, 21, 22, 23, 24, 25, 26, 27, 28, 29, 30, 31] (by decide +kernel) sb_eddd18e5dc
    clear hB hk1 hFc ht hz1 hvm
    generalize H1 = H at hP hS hce ⊢
    rcases hxp with ⟨rfl, hk9⟩
    · skip
      refine vx_catch (name := xIO) hown [] ⟨0, 12, 15, 13⟩ [] htab (fun z hz => by cases hz) (by decide) (by decide) (hts (.classLink RL 13 "java/lang/IndexOutOfBoundsException") (List.mem_of_getElem? (i := 1) rfl)) (va_Nw.use rfl hCX.1) hce hcv hcl ?_
      refine lv_astore (lv' := [(5, .ref q9), (0, .ref ho), (1, .int (iI (xv))), (2, .int (iI (yv))), (3, .int (iI (bv))), (4, .ref jw)]) hx hb dL_setStones_15 hl (by decide) rfl (fun ls hl => ?_)
      refine mf_iconst hx hb dL_setStones_17 ?_
      refine vx_ret ?_
      exact W.iret hx hb hr (fun t ht hW => ⟨⟨_, (x, o, r, ra, f), rfl, ⟨_, rfl, by (try dsimp only); exact ⟨hk9.symm, ⟨okx, ok, okra, okf⟩, fun z9 => absurd (hk9.symm.trans z9) (by decide), fun _ => ⟨rfl, rfl, rfl, rfl⟩⟩⟩, by rw [ht]; exact hP, hD⟩, hS.F ht⟩) hS.2.2 dL_setStones_18
  · skip
    obtain ⟨x3, r4, ra5, f6⟩ := u2
    try dsimp only at hw hB
    obtain ⟨hP, hD⟩ := wrJ2 (ws := OW G ho pn pa pf ae x ++ LW gL jw o ++ RW G pn adn r ++ RW G pa ada ra ++ FW G pf adf f) (wc := OW G ho pn pa pf ae x ++ RW G pn adn r ++ RW G pa ada ra ++ FW G pf adf f) (wr := LW gL jw o) (w1 := OW G ho pn pa pf ae x3 ++ RW G pn adn r4 ++ RW G pa ada ra5 ++ FW G pf adf f6) hP hD [0, 1, 3, 4, 5, 6, 7, 8, 9, 10, 11, 12, 13, 14, 15, 16, 17, 18, 19, 20, 21, 22, 23, 24, 25, 26, 27, 28, 29, 30, 31] [2] sb_25e4c4fd82 sb_e40585b7f7 (by decide +kernel) (by decide +kernel) hk1 ht hFc hB
    have hP : va_P G.1 vwCl (OW G ho pn pa pf ae x3 ++ LW gL jw o ++ RW G pn adn r4 ++ RW G pa ada ra5 ++ FW G pf adf f6) H1 := hP.sub [1, 2, 0, 3, 4, 5, 6, 7, 8, 9, 10, 11, 12, 13, 14, 15, 16, 17, 18, 19, 20, 21, 22, 23, 24, 25, 26, 27, 28, 29, 30, 31] sb_13d50e5728
    have hD : va_D A (OW G ho pn pa pf ae x3 ++ LW gL jw o ++ RW G pn adn r4 ++ RW G pa ada ra5 ++ FW G pf adf f6) := hD.sub [1, 2, 0, 3, 4, 5, 6, 7, 8, 9, 10, 11, 12, 13, 14, 15, 16, 17, 18, 19, 20, 21, 22, 23, 24, 25, 26, 27, 28, 29, 30, 31] (by decide +kernel) sb_eddd18e5dc
    clear hB hk1 hFc ht hz1 hvm
    generalize H1 = H at hP hS ⊢
    obtain ⟨z7, rfl, w8⟩ := hw
    refine mf_i2lw hx hb dL_setStones_10 ?_
    refine va_last hx hb hK2 hP hD hS 2 2 rfl rfl (i := iI 0) (x := lI (wrI (z7))) (iI_in (z := 0) (by decide) (by decide) (by decide)) dL_setStones_11 (fun H locs hP hD hS => ?_)
    obtain ⟨ov9, eov9⟩ : ∃ z9 : Nat → Int64, z9 = vp_updL o (iI 0).toNatClampNeg (lI (wrI (z7))) := ⟨_, rfl⟩
    have hP : va_P G.1 vwCl (OW G ho pn pa pf ae x3 ++ LW gL jw ov9 ++ RW G pn adn r4 ++ RW G pa ada ra5 ++ FW G pf adf f6) H := by rw [eov9]; exact hP
    have hD : va_D A (OW G ho pn pa pf ae x3 ++ LW gL jw ov9 ++ RW G pn adn r4 ++ RW G pa ada ra5 ++ FW G pf adf f6) := by rw [eov9]; exact hD
    have f0_ov9 : ov9 0 = lI (wrI (z7)) := by rw [eov9]; exact if_pos (by decide)
    refine lv_goto (tgt := 19) hx hb dL_setStones_12 (by decide) ?_
    refine mf_iconst hx hb dL_setStones_19 ?_
    refine vx_ret ?_
    exact W.iret hx hb hr (fun t ht hW => ⟨⟨_, (x3, ov9, r4, ra5, f6), rfl, ⟨_, rfl, by (try dsimp only); exact ⟨w8.1.symm, w8.2.1, fun _ => ⟨_, f0_ov9, w8.2.2⟩, fun z9 => absurd w8.1 z9⟩⟩, by rw [ht]; exact hP, hD⟩, hS.F ht⟩) hS.2.2 dL_setStones_20
set_option maxHeartbeats 4000000 in
set_option maxRecDepth 100000 in
theorem c_L_setFlow (l : Launch) (hl9 : l.stackTraces = false) (G : mf_G) (gL : ClassId) (ho pn pa pf : Nat) (ae : Nat) (x : mf_V) (jw : Nat) (o : Nat → Int64) (adn : Nat → Nat) (r : mf_V) (ada : Nat → Nat) (ra : mf_V) (adf : Nat → Nat) (f : mf_V)  (yv : Int) (fv : Int) (hyv : i32 yv) (hfv : i32 fv) (okx : rOK xlo xhi x) (ok : rOK rlo rhi r) (okra : rOK rlo rhi ra) (okf : rOK flo fhi f) (sz : Nat) : vx_Met l yL_setFlow wsL_setFlow ({ frames := 7, cells := 1, slots := 6, locals := 113 }) (va_Pc [.ref ho, .int (iI (yv)), .int (iI (fv)), .ref jw] (WrPy G gL (OW G ho pn pa pf ae x ++ LW gL jw o ++ RW G pn adn r ++ RW G pa ada ra ++ FW G pf adf f) sz)) (va_Qi (fun q9 (u : mf_V × (Nat → Int64) × mf_V × mf_V × mf_V) => ∃ z : Int, q9 = iI z ∧ z = kFlow yv fv ∧ (rOK xlo xhi u.1 ∧ rOK rlo rhi u.2.2.1 ∧ rOK rlo rhi u.2.2.2.1 ∧ rOK flo fhi u.2.2.2.2) ∧ (kFlow yv fv = 0 → ∃ v : Int, u.2.1 0 = lI (wrI v) ∧ u.2.2.1 = mf_sF r 5 (mf_up (r 5) yv fv) ∧ u.2.2.2.2 = f ∧ v = r 5 yv) ∧ (¬ kFlow yv fv = 0 → u.1 = x ∧ u.2.2.1 = r ∧ u.2.2.2.1 = ra ∧ u.2.2.2.2 = f)) (fun (u : mf_V × (Nat → Int64) × mf_V × mf_V × mf_V) t => WrQ G (va_A (OW G ho pn pa pf ae x ++ LW gL jw o ++ RW G pn adn r ++ RW G pa ada ra ++ FW G pf adf f) sz) (OW G ho pn pa pf ae (u.1) ++ LW gL jw (u.2.1) ++ RW G pn adn (u.2.2.1) ++ RW G pa ada (u.2.2.2.1) ++ FW G pf adf (u.2.2.2.2)) t) (va_A (OW G ho pn pa pf ae x ++ LW gL jw o ++ RW G pn adn r ++ RW G pa ada ra ++ FW G pf adf f) sz)) (vx_X (fun _ : Unit => False) (fun _ _ _ => False) (va_A (OW G ho pn pa pf ae x ++ LW gL jw o ++ RW G pn adn r ++ RW G pa ada ra ++ FW G pf adf f) sz)) 1 6 (va_A (OW G ho pn pa pf ae x ++ LW gL jw o ++ RW G pn adn r ++ RW G pa ada ra ++ FW G pf adf f) sz) := by
  refine vx_ofWH (cc := cL_setFlow) (maxL := 5) (ret := (some .int)) (hh := [(0, 10, 13, 13), (0, 10, 17, 15)]) (by decide +kernel) rfl ?_
  intro p e s m args below meth c s₁ B hml hv
  obtain ⟨rfl, hsz, hP, hK, hD0, hN, hSX, hCX, hZ, hNX⟩ := hv
  have hx := B.exec
  have hb := B.bytes
  have hr := B.returns
  have hts := atoms_spec (ws := wsL_setFlow) B.pre
  have hown : s.vm.findClass RL = some m.cls := findClass_of_methodNamed B.named
  have hlocks := B.notSynchronized
  have hK2 := hK
  have hK := hK2.sub (tys' := mf_ty G) [0, 1] rfl
  have htab := vx_table (x := yL_setFlow) B (hts (.codeWith yL_setFlow cL_setFlow 5 (some .int) [(0, 10, 13, 13), (0, 10, 17, 15)]) List.mem_cons_self)
  subst hsz
  have hD := hD0.self (sz := s.heap.size)
  generalize hAe : va_A (OW G ho pn pa pf ae x ++ LW gL jw o ++ RW G pn adn r ++ RW G pa ada ra ++ FW G pf adf f) s.heap.size = A at hD hZ ⊢
  have hA : ∀ q : Nat, s.heap.size ≤ q → A q := fun q h => by rw [← hAe]; exact Or.inr h
  have hS : va_S A s.heap s.heap [] := va_S.rf
  have hl := lv_entry ([.ref ho, .int (iI (yv)), .int (iI (fv)), .ref jw]) (n := 5) (Nat.le_of_ble_eq_true rfl)
  rw [lg_entry_eq]
  generalize (lg_sl ([.ref ho, .int (iI (yv)), .int (iI (fv)), .ref jw]) ++ List.replicate (5 - (lg_sl ([.ref ho, .int (iI (yv)), .int (iI (fv)), .ref jw])).length) Slot.unset).toArray = ls at hl ⊢
  have hl : lv_has ls 5 [(0, .ref ho), (1, .int (iI (yv))), (2, .int (iI (fv))), (3, .ref jw)] := hl
  have hyv1 := hyv.1
  have hyv2 := hyv.2
  have hfv1 := hfv.1
  have hfv2 := hfv.2
  have okLr : (0 : Int) ≤ r 7 0 ∧ r 7 0 ≤ 150 := ok 7 0
  have okLra : (0 : Int) ≤ ra 7 0 ∧ ra 7 0 ≤ 150 := okra 7 0
  refine lv_aload_n hx hb dL_setFlow_0 rfl (lv_at hl 3 rfl) ?_
  refine mf_iconst hx hb dL_setFlow_1 ?_
  refine lv_aload_n hx hb dL_setFlow_2 rfl (lv_at hl 0 rfl) ?_
  refine lv_iload_n hx hb dL_setFlow_3 rfl (lv_at hl 1 rfl) ?_
  refine lv_iload_n hx hb dL_setFlow_4 rfl (lv_at hl 2 rfl) ?_
  have hFc := va_free (wc := OW G ho pn pa pf ae x ++ RW G pn adn r ++ RW G pa ada ra ++ FW G pf adf f) hD hS hA [0, 1, 3, 4, 5, 6, 7, 8, 9, 10, 11, 12, 13, 14, 15, 16, 17, 18, 19, 20, 21, 22, 23, 24, 25, 26, 27, 28, 29, 30, 31] sb_25e4c4fd82
  refine vx_calli (vx_runV (As := [.int (iI (yv)), .int (iI (fv))]) (rest := [.int (iI (0)), .ref jw]) ⟨hx, hb, hml, hown, hts⟩ (c_X2_setFlow l hl9 G ho pn pa pf ae x adn r ada ra adf f (yv) (fv) (i32_mk (by omega) (by omega)) (i32_mk (by omega) (by omega)) (by assumption) (by assumption) (by assumption) (by assumption) _) (cwV 2 hts gL_setFlow_X2_setFlow rfl rfl rfl (by decide +kernel) ⟨Nat.le_of_ble_eq_true rfl, Nat.le_of_ble_eq_true rfl⟩) (wrVx (wc := OW G ho pn pa pf ae x ++ RW G pn adn r ++ RW G pa ada ra ++ FW G pf adf f) hSX hCX hZ hS hFc hK hP hD hN [0, 1, 3, 4, 5, 6, 7, 8, 9, 10, 11, 12, 13, 14, 15, 16, 17, 18, 19, 20, 21, 22, 23, 24, 25, 26, 27, 28, 29, 30, 31] (by decide +kernel) sb_f976e10569 sb_25e4c4fd82 (ci := 2) rfl rfl) rfl rfl hl.1 rfl (lv_room (Nat.le_of_ble_eq_true rfl)) dL_setFlow_5 ⟨Nat.le_of_ble_eq_true rfl, Nat.le_of_ble_eq_true rfl⟩) hS (fun q _ h => hFc q h) hFc (fun q _ h => hFc q h) (fun E ce q9 _ t H1 locs ht hvm _ hB hz1 hk1 hS hce hcv hcl => ?_) (fun q1 u2 t H1 locs ht hvm hw hB hz1 hk1 hS => ?_)
  · skip
    obtain ⟨hxp, hB⟩ := hB
    obtain ⟨hP, hD⟩ := wrJ2 (ws := OW G ho pn pa pf ae x ++ LW gL jw o ++ RW G pn adn r ++ RW G pa ada ra ++ FW G pf adf f) (wc := OW G ho pn pa pf ae x ++ RW G pn adn r ++ RW G pa ada ra ++ FW G pf adf f) (wr := LW gL jw o) (w1 := OW G ho pn pa pf ae x ++ RW G pn adn r ++ RW G pa ada ra ++ FW G pf adf f) hP hD [0, 1, 3, 4, 5, 6, 7, 8, 9, 10, 11, 12, 13, 14, 15, 16, 17, 18, 19, 20, 21, 22, 23, 24, 25, 26, 27, 28, 29, 30, 31] [2] sb_25e4c4fd82 sb_e40585b7f7 (by decide +kernel) (by decide +kernel) hk1 ht hFc hB
    have hP : va_P G.1 vwCl (OW G ho pn pa pf ae x ++ LW gL jw o ++ RW G pn adn r ++ RW G pa ada ra ++ FW G pf adf f) H1 := hP.sub [1, 2, 0, 3, 4, 5, 6, 7, 8, 9, 10, 11, 12, 13, 14, 15, 16, 17, 18, 19, 20, 21, 22, 23, 24, 25, 26, 27, 28, 29, 30, 31] sb_13d50e5728
    have hD : va_D A (OW G ho pn pa pf ae x ++ LW gL jw o ++ RW G pn adn r ++ RW G pa ada ra ++ FW G pf adf f) := hD.sub [1, 2, 0, 3, 4, 5, 6, 7, 8, 9, 10, 11, 12, 13, 14, 15, 16, 17, 18, 19, 20, 21, 22, 23, 24, 25, 26, 27, 28, 29, 30, 31] (by decide +kernel) sb_eddd18e5dc
    clear hB hk1 hFc ht hz1 hvm
    generalize H1 = H at hP hS hce ⊢
    rcases hxp with ⟨rfl, hk9⟩ | ⟨rfl, hk9⟩
    · skip
      refine vx_catch (name := xIO) hown [] ⟨0, 10, 13, 13⟩ [⟨0, 10, 17, 15⟩] htab (fun z hz => by cases hz) (by decide) (by decide) (hts (.classLink RL 13 "java/lang/IndexOutOfBoundsException") (List.mem_of_getElem? (i := 1) rfl)) (va_Nw.use rfl hCX.1) hce hcv hcl ?_
      refine lv_astore (lv' := [(4, .ref q9), (0, .ref ho), (1, .int (iI (yv))), (2, .int (iI (fv))), (3, .ref jw)]) hx hb dL_setFlow_13 hl (by decide) rfl (fun ls hl => ?_)
      refine mf_iconst hx hb dL_setFlow_15 ?_
      refine vx_ret ?_
      exact W.iret hx hb hr (fun t ht hW => ⟨⟨_, (x, o, r, ra, f), rfl, ⟨_, rfl, by (try dsimp only); exact ⟨hk9.symm, ⟨okx, ok, okra, okf⟩, fun z9 => absurd (hk9.symm.trans z9) (by decide), fun _ => ⟨rfl, rfl, rfl, rfl⟩⟩⟩, by rw [ht]; exact hP, hD⟩, hS.F ht⟩) hS.2.2 dL_setFlow_16
    · skip
      refine vx_catch (name := xIA) hown [⟨0, 10, 13, 13⟩] ⟨0, 10, 17, 15⟩ [] htab (fun z hz => by (rcases List.mem_cons.mp hz with rfl | hz; exact Or.inr ⟨by decide, _, (hts (.classLink RL 13 "java/lang/IndexOutOfBoundsException") (List.mem_of_getElem? (i := 1) rfl)), hNX.1⟩); cases hz) (by decide) (by decide) (hts (.classLink RL 15 "java/lang/IllegalArgumentException") (List.mem_of_getElem? (i := 2) rfl)) (va_Nw.use rfl hCX.2.1) hce hcv hcl ?_
      refine lv_astore (lv' := [(4, .ref q9), (0, .ref ho), (1, .int (iI (yv))), (2, .int (iI (fv))), (3, .ref jw)]) hx hb dL_setFlow_17 hl (by decide) rfl (fun ls hl => ?_)
      refine mf_iconst hx hb dL_setFlow_19 ?_
      refine vx_ret ?_
      exact W.iret hx hb hr (fun t ht hW => ⟨⟨_, (x, o, r, ra, f), rfl, ⟨_, rfl, by (try dsimp only); exact ⟨hk9.symm, ⟨okx, ok, okra, okf⟩, fun z9 => absurd (hk9.symm.trans z9) (by decide), fun _ => ⟨rfl, rfl, rfl, rfl⟩⟩⟩, by rw [ht]; exact hP, hD⟩, hS.F ht⟩) hS.2.2 dL_setFlow_20
  · skip
    obtain ⟨x3, r4, ra5, f6⟩ := u2
    try dsimp only at hw hB
    obtain ⟨hP, hD⟩ := wrJ2 (ws := OW G ho pn pa pf ae x ++ LW gL jw o ++ RW G pn adn r ++ RW G pa ada ra ++ FW G pf adf f) (wc := OW G ho pn pa pf ae x ++ RW G pn adn r ++ RW G pa ada ra ++ FW G pf adf f) (wr := LW gL jw o) (w1 := OW G ho pn pa pf ae x3 ++ RW G pn adn r4 ++ RW G pa ada ra5 ++ FW G pf adf f6) hP hD [0, 1, 3, 4, 5, 6, 7, 8, 9, 10, 11, 12, 13, 14, 15, 16, 17, 18, 19, 20, 21, 22, 23, 24, 25, 26, 27, 28, 29, 30, 31] [2] sb_25e4c4fd82 sb_e40585b7f7 (by decide +kernel) (by decide +kernel) hk1 ht hFc hB
    have hP : va_P G.1 vwCl (OW G ho pn pa pf ae x3 ++ LW gL jw o ++ RW G pn adn r4 ++ RW G pa ada ra5 ++ FW G pf adf f6) H1 := hP.sub [1, 2, 0, 3, 4, 5, 6, 7, 8, 9, 10, 11, 12, 13, 14, 15, 16, 17, 18, 19, 20, 21, 22, 23, 24, 25, 26, 27, 28, 29, 30, 31] sb_13d50e5728
    have hD : va_D A (OW G ho pn pa pf ae x3 ++ LW gL jw o ++ RW G pn adn r4 ++ RW G pa ada ra5 ++ FW G pf adf f6) := hD.sub [1, 2, 0, 3, 4, 5, 6, 7, 8, 9, 10, 11, 12, 13, 14, 15, 16, 17, 18, 19, 20, 21, 22, 23, 24, 25, 26, 27, 28, 29, 30, 31] (by decide +kernel) sb_eddd18e5dc
    clear hB hk1 hFc ht hz1 hvm
    generalize H1 = H at hP hS ⊢
    obtain ⟨z7, rfl, w8⟩ := hw
    refine mf_i2lw hx hb dL_setFlow_8 ?_
    refine va_last hx hb hK2 hP hD hS 2 2 rfl rfl (i := iI 0) (x := lI (wrI (z7))) (iI_in (z := 0) (by decide) (by decide) (by decide)) dL_setFlow_9 (fun H locs hP hD hS => ?_)
    obtain ⟨ov9, eov9⟩ : ∃ z9 : Nat → Int64, z9 = vp_updL o (iI 0).toNatClampNeg (lI (wrI (z7))) := ⟨_, rfl⟩
    have hP : va_P G.1 vwCl (OW G ho pn pa pf ae x3 ++ LW gL jw ov9 ++ RW G pn adn r4 ++ RW G pa ada ra5 ++ FW G pf adf f6) H := by rw [eov9]; exact hP
    have hD : va_D A (OW G ho pn pa pf ae x3 ++ LW gL jw ov9 ++ RW G pn adn r4 ++ RW G pa ada ra5 ++ FW G pf adf f6) := by rw [eov9]; exact hD
    have f0_ov9 : ov9 0 = lI (wrI (z7)) := by rw [eov9]; exact if_pos (by decide)
    refine lv_goto (tgt := 21) hx hb dL_setFlow_10 (by decide) ?_
    refine mf_iconst hx hb dL_setFlow_21 ?_
    refine vx_ret ?_
    exact W.iret hx hb hr (fun t ht hW => ⟨⟨_, (x3, ov9, r4, ra5, f6), rfl, ⟨_, rfl, by (try dsimp only); exact ⟨w8.1.symm, w8.2.1, fun _ => ⟨_, f0_ov9, w8.2.2⟩, fun z9 => absurd w8.1 z9⟩⟩, by rw [ht]; exact hP, hD⟩, hS.F ht⟩) hS.2.2 dL_setFlow_22
set_option maxHeartbeats 4000000 in
set_option maxRecDepth 100000 in
theorem c_L_cell (l : Launch) (hl9 : l.stackTraces = false) (G : mf_G) (gL : ClassId) (ho pn pa pf : Nat) (ae : Nat) (x : mf_V) (jw : Nat) (o : Nat → Int64) (adn : Nat → Nat) (r : mf_V) (ada : Nat → Nat) (ra : mf_V) (adf : Nat → Nat) (f : mf_V)  (xv : Int) (yv : Int) (wv : Int) (hxv : i32 xv) (hyv : i32 yv) (hwv : i32 wv) (okx : rOK xlo xhi x) (ok : rOK rlo rhi r) (okra : rOK rlo rhi ra) (okf : rOK flo fhi f) (sz : Nat) : vx_Met l yL_cell wsL_cell ({ frames := 7, cells := 1, slots := 6, locals := 114 }) (va_Pc [.ref ho, .int (iI (xv)), .int (iI (yv)), .int (iI (wv)), .ref jw] (WrPy G gL (OW G ho pn pa pf ae x ++ LW gL jw o ++ RW G pn adn r ++ RW G pa ada ra ++ FW G pf adf f) sz)) (va_Qi (fun q9 (u : mf_V × (Nat → Int64) × mf_V × mf_V × mf_V) => ∃ z : Int, q9 = iI z ∧ z = kCell2 xv yv wv ∧ (rOK xlo xhi u.1 ∧ rOK rlo rhi u.2.2.1 ∧ rOK rlo rhi u.2.2.2.1 ∧ rOK flo fhi u.2.2.2.2) ∧ (kCell2 xv yv wv = 0 → ∃ v : Int, u.2.1 0 = lI (wrI v) ∧ u.2.2.1 = r ∧ u.2.2.2.2 = f ∧ v = vCell r f xv yv wv) ∧ (¬ kCell2 xv yv wv = 0 → u.1 = x ∧ u.2.2.1 = r ∧ u.2.2.2.1 = ra ∧ u.2.2.2.2 = f)) (fun (u : mf_V × (Nat → Int64) × mf_V × mf_V × mf_V) t => WrQ G (va_A (OW G ho pn pa pf ae x ++ LW gL jw o ++ RW G pn adn r ++ RW G pa ada ra ++ FW G pf adf f) sz) (OW G ho pn pa pf ae (u.1) ++ LW gL jw (u.2.1) ++ RW G pn adn (u.2.2.1) ++ RW G pa ada (u.2.2.2.1) ++ FW G pf adf (u.2.2.2.2)) t) (va_A (OW G ho pn pa pf ae x ++ LW gL jw o ++ RW G pn adn r ++ RW G pa ada ra ++ FW G pf adf f) sz)) (vx_X (fun _ : Unit => False) (fun _ _ _ => False) (va_A (OW G ho pn pa pf ae x ++ LW gL jw o ++ RW G pn adn r ++ RW G pa ada ra ++ FW G pf adf f) sz)) 1 6 (va_A (OW G ho pn pa pf ae x ++ LW gL jw o ++ RW G pn adn r ++ RW G pa ada ra ++ FW G pf adf f) sz) := by
  refine vx_ofWH (cc := cL_cell) (maxL := 6) (ret := (some .int)) (hh := [(0, 12, 15, 13)]) (by decide +kernel) rfl ?_
  intro p e s m args below meth c s₁ B hml hv
  obtain ⟨rfl, hsz, hP, hK, hD0, hN, hSX, hCX, hZ, hNX⟩ := hv
  have hx := B.exec
  have hb := B.bytes
  have hr := B.returns
  have hts := atoms_spec (ws := wsL_cell) B.pre
  have hown : s.vm.findClass RL = some m.cls := findClass_of_methodNamed B.named
  have hlocks := B.notSynchronized
  have hK2 := hK
  have hK := hK2.sub (tys' := mf_ty G) [0, 1] rfl
  have htab := vx_table (x := yL_cell) B (hts (.codeWith yL_cell cL_cell 6 (some .int) [(0, 12, 15, 13)]) List.mem_cons_self)
  subst hsz
  have hD := hD0.self (sz := s.heap.size)
  generalize hAe : va_A (OW G ho pn pa pf ae x ++ LW gL jw o ++ RW G pn adn r ++ RW G pa ada ra ++ FW G pf adf f) s.heap.size = A at hD hZ ⊢
  have hA : ∀ q : Nat, s.heap.size ≤ q → A q := fun q h => by rw [← hAe]; exact Or.inr h
  have hS : va_S A s.heap s.heap [] := va_S.rf
  have hl := lv_entry ([.ref ho, .int (iI (xv)), .int (iI (yv)), .int (iI (wv)), .ref jw]) (n := 6) (Nat.le_of_ble_eq_true rfl)
  rw [lg_entry_eq]
  generalize (lg_sl ([.ref ho, .int (iI (xv)), .int (iI (yv)), .int (iI (wv)), .ref jw]) ++ List.replicate (6 - (lg_sl ([.ref ho, .int (iI (xv)), .int (iI (yv)), .int (iI (wv)), .ref jw])).length) Slot.unset).toArray = ls at hl ⊢
  have hl : lv_has ls 6 [(0, .ref ho), (1, .int (iI (xv))), (2, .int (iI (yv))), (3, .int (iI (wv))), (4, .ref jw)] := hl
  have hxv1 := hxv.1
  have hxv2 := hxv.2
  have hyv1 := hyv.1
  have hyv2 := hyv.2
  have hwv1 := hwv.1
  have hwv2 := hwv.2
  have okLr : (0 : Int) ≤ r 7 0 ∧ r 7 0 ≤ 150 := ok 7 0
  have okLra : (0 : Int) ≤ ra 7 0 ∧ ra 7 0 ≤ 150 := okra 7 0
  refine lv_aload hx hb dL_cell_0 (lv_at hl 4 rfl) ?_
  refine mf_iconst hx hb dL_cell_2 ?_
  refine lv_aload_n hx hb dL_cell_3 rfl (lv_at hl 0 rfl) ?_
  refine lv_iload_n hx hb dL_cell_4 rfl (lv_at hl 1 rfl) ?_
  refine lv_iload_n hx hb dL_cell_5 rfl (lv_at hl 2 rfl) ?_
  refine lv_iload_n hx hb dL_cell_6 rfl (lv_at hl 3 rfl) ?_
  have hFc := va_free (wc := OW G ho pn pa pf ae x ++ RW G pn adn r ++ RW G pa ada ra ++ FW G pf adf f) hD hS hA [0, 1, 3, 4, 5, 6, 7, 8, 9, 10, 11, 12, 13, 14, 15, 16, 17, 18, 19, 20, 21, 22, 23, 24, 25, 26, 27, 28, 29, 30, 31] sb_25e4c4fd82
  refine vx_calli (vx_runV (As := [.int (iI (xv)), .int (iI (yv)), .int (iI (wv))]) (rest := [.int (iI (0)), .ref jw]) ⟨hx, hb, hml, hown, hts⟩ (c_X2_cell l hl9 G ho pn pa pf ae x adn r ada ra adf f (xv) (yv) (wv) (i32_mk (by omega) (by omega)) (i32_mk (by omega) (by omega)) (i32_mk (by omega) (by omega)) (by assumption) (by assumption) (by assumption) (by assumption) _) (cwV 3 hts gL_cell_X2_cell rfl rfl rfl (by decide +kernel) ⟨Nat.le_of_ble_eq_true rfl, Nat.le_of_ble_eq_true rfl⟩) (wrVx (wc := OW G ho pn pa pf ae x ++ RW G pn adn r ++ RW G pa ada ra ++ FW G pf adf f) hSX hCX hZ hS hFc hK hP hD hN [0, 1, 3, 4, 5, 6, 7, 8, 9, 10, 11, 12, 13, 14, 15, 16, 17, 18, 19, 20, 21, 22, 23, 24, 25, 26, 27, 28, 29, 30, 31] (by decide +kernel) sb_f976e10569 sb_25e4c4fd82 (ci := 2) rfl rfl) rfl rfl hl.1 rfl (lv_room (Nat.le_of_ble_eq_true rfl)) dL_cell_7 ⟨Nat.le_of_ble_eq_true rfl, Nat.le_of_ble_eq_true rfl⟩) hS (fun q _ h => hFc q h) hFc (fun q _ h => hFc q h) (fun E ce q9 _ t H1 locs ht hvm _ hB hz1 hk1 hS hce hcv hcl => ?_) (fun q1 u2 t H1 locs ht hvm hw hB hz1 hk1 hS => ?_)
  · skip
    obtain ⟨hxp, hB⟩ := hB
    obtain ⟨hP, hD⟩ := wrJ2 (ws := OW G ho pn pa pf ae x ++ LW gL jw o ++ RW G pn adn r ++ RW G pa ada ra ++ FW G pf adf f) (wc := OW G ho pn pa pf ae x ++ RW G pn adn r ++ RW G pa ada ra ++ FW G pf adf f) (wr := LW gL jw o) (w1 := OW G ho pn pa pf ae x ++ RW G pn adn r ++ RW G pa ada ra ++ FW G pf adf f) hP hD [0, 1, 3, 4, 5, 6, 7, 8, 9, 10, 11, 12, 13, 14, 15, 16, 17, 18, 19, 20, 21, 22, 23, 24, 25, 26, 27, 28, 29, 30, 31] [2] sb_25e4c4fd82 sb_e40585b7f7 (by decide +kernel) (by decide +kernel) hk1 ht hFc hB
    have hP : va_P G.1 vwCl (OW G ho pn pa pf ae x ++ LW gL jw o ++ RW G pn adn r ++ RW G pa ada ra ++ FW G pf adf f) H1 := hP.sub [1, 2, 0, 3, 4, 5, 6, 7, 8, 9, 10, 11, 12, 13, 14, 15, 16, 17, 18, 19, 20, 21, 22, 23, 24, 25, 26, 27, 28, 29, 30, 31] sb_13d50e5728
    have hD : va_D A (OW G ho pn pa pf ae x ++ LW gL jw o ++ RW G pn adn r ++ RW G pa ada ra ++ FW G pf adf f) := hD.sub [1, 2, 0, 3, 4, 5, 6, 7, 8, 9, 10, 11, 12, 13, 14, 15, 16, 17, 18, 19, 20, 21, 22, 23, 24, 25, 26, 27, 28, 29, 30, 31] (by decide +kernel) sb_eddd18e5dc
    clear hB hk1 hFc ht hz1 hvm
    generalize H1 = H at hP hS hce ⊢
    rcases hxp with ⟨rfl, hk9⟩
    · skip
      refine vx_catch (name := xIO) hown [] ⟨0, 12, 15, 13⟩ [] htab (fun z hz => by cases hz) (by decide) (by decide) (hts (.classLink RL 13 "java/lang/IndexOutOfBoundsException") (List.mem_of_getElem? (i := 1) rfl)) (va_Nw.use rfl hCX.1) hce hcv hcl ?_
      refine lv_astore (lv' := [(5, .ref q9), (0, .ref ho), (1, .int (iI (xv))), (2, .int (iI (yv))), (3, .int (iI (wv))), (4, .ref jw)]) hx hb dL_cell_15 hl (by decide) rfl (fun ls hl => ?_)
      refine mf_iconst hx hb dL_cell_17 ?_
      refine vx_ret ?_
      exact W.iret hx hb hr (fun t ht hW => ⟨⟨_, (x, o, r, ra, f), rfl, ⟨_, rfl, by (try dsimp only); exact ⟨hk9.symm, ⟨okx, ok, okra, okf⟩, fun z9 => absurd (hk9.symm.trans z9) (by decide), fun _ => ⟨rfl, rfl, rfl, rfl⟩⟩⟩, by rw [ht]; exact hP, hD⟩, hS.F ht⟩) hS.2.2 dL_cell_18
  · skip
    obtain ⟨x3, r4, ra5, f6⟩ := u2
    try dsimp only at hw hB
    obtain ⟨hP, hD⟩ := wrJ2 (ws := OW G ho pn pa pf ae x ++ LW gL jw o ++ RW G pn adn r ++ RW G pa ada ra ++ FW G pf adf f) (wc := OW G ho pn pa pf ae x ++ RW G pn adn r ++ RW G pa ada ra ++ FW G pf adf f) (wr := LW gL jw o) (w1 := OW G ho pn pa pf ae x3 ++ RW G pn adn r4 ++ RW G pa ada ra5 ++ FW G pf adf f6) hP hD [0, 1, 3, 4, 5, 6, 7, 8, 9, 10, 11, 12, 13, 14, 15, 16, 17, 18, 19, 20, 21, 22, 23, 24, 25, 26, 27, 28, 29, 30, 31] [2] sb_25e4c4fd82 sb_e40585b7f7 (by decide +kernel) (by decide +kernel) hk1 ht hFc hB
    have hP : va_P G.1 vwCl (OW G ho pn pa pf ae x3 ++ LW gL jw o ++ RW G pn adn r4 ++ RW G pa ada ra5 ++ FW G pf adf f6) H1 := hP.sub [1, 2, 0, 3, 4, 5, 6, 7, 8, 9, 10, 11, 12, 13, 14, 15, 16, 17, 18, 19, 20, 21, 22, 23, 24, 25, 26, 27, 28, 29, 30, 31] sb_13d50e5728
    have hD : va_D A (OW G ho pn pa pf ae x3 ++ LW gL jw o ++ RW G pn adn r4 ++ RW G pa ada ra5 ++ FW G pf adf f6) := hD.sub [1, 2, 0, 3, 4, 5, 6, 7, 8, 9, 10, 11, 12, 13, 14, 15, 16, 17, 18, 19, 20, 21, 22, 23, 24, 25, 26, 27, 28, 29, 30, 31] (by decide +kernel) sb_eddd18e5dc
    clear hB hk1 hFc ht hz1 hvm
    generalize H1 = H at hP hS ⊢
    obtain ⟨z7, rfl, w8⟩ := hw
    refine mf_i2lw hx hb dL_cell_10 ?_
    refine va_last hx hb hK2 hP hD hS 2 2 rfl rfl (i := iI 0) (x := lI (wrI (z7))) (iI_in (z := 0) (by decide) (by decide) (by decide)) dL_cell_11 (fun H locs hP hD hS => ?_)
    obtain ⟨ov9, eov9⟩ : ∃ z9 : Nat → Int64, z9 = vp_updL o (iI 0).toNatClampNeg (lI (wrI (z7))) := ⟨_, rfl⟩
    have hP : va_P G.1 vwCl (OW G ho pn pa pf ae x3 ++ LW gL jw ov9 ++ RW G pn adn r4 ++ RW G pa ada ra5 ++ FW G pf adf f6) H := by rw [eov9]; exact hP
    have hD : va_D A (OW G ho pn pa pf ae x3 ++ LW gL jw ov9 ++ RW G pn adn r4 ++ RW G pa ada ra5 ++ FW G pf adf f6) := by rw [eov9]; exact hD
    have f0_ov9 : ov9 0 = lI (wrI (z7)) := by rw [eov9]; exact if_pos (by decide)
    refine lv_goto (tgt := 19) hx hb dL_cell_12 (by decide) ?_
    refine mf_iconst hx hb dL_cell_19 ?_
    refine vx_ret ?_
    exact W.iret hx hb hr (fun t ht hW => ⟨⟨_, (x3, ov9, r4, ra5, f6), rfl, ⟨_, rfl, by (try dsimp only); exact ⟨w8.1.symm, w8.2.1, fun _ => ⟨_, f0_ov9, w8.2.2⟩, fun z9 => absurd w8.1 z9⟩⟩, by rw [ht]; exact hP, hD⟩, hS.F ht⟩) hS.2.2 dL_cell_20
set_option maxHeartbeats 4000000 in
set_option maxRecDepth 100000 in
theorem c_L_course (l : Launch) (hl9 : l.stackTraces = false) (G : mf_G) (gL : ClassId) (ho pn pa pf : Nat) (ae : Nat) (x : mf_V) (jw : Nat) (o : Nat → Int64) (adn : Nat → Nat) (r : mf_V) (ada : Nat → Nat) (ra : mf_V) (adf : Nat → Nat) (f : mf_V)  (iv : Int) (wv : Int) (hiv : i32 iv) (hwv : i32 wv) (okx : rOK xlo xhi x) (ok : rOK rlo rhi r) (okra : rOK rlo rhi ra) (okf : rOK flo fhi f) (sz : Nat) : vx_Met l yL_course wsL_course ({ frames := 7, cells := 1, slots := 6, locals := 112 }) (va_Pc [.ref ho, .int (iI (iv)), .int (iI (wv)), .ref jw] (WrPy G gL (OW G ho pn pa pf ae x ++ LW gL jw o ++ RW G pn adn r ++ RW G pa ada ra ++ FW G pf adf f) sz)) (va_Qi (fun q9 (u : mf_V × (Nat → Int64) × mf_V × mf_V × mf_V) => ∃ z : Int, q9 = iI z ∧ z = kCourse r iv wv ∧ (rOK xlo xhi u.1 ∧ rOK rlo rhi u.2.2.1 ∧ rOK rlo rhi u.2.2.2.1 ∧ rOK flo fhi u.2.2.2.2) ∧ (kCourse r iv wv = 0 → ∃ v : Int, u.2.1 0 = lI (wrI v) ∧ u.2.2.1 = r ∧ u.2.2.2.2 = f ∧ v = vCourse r iv wv) ∧ (¬ kCourse r iv wv = 0 → u.1 = x ∧ u.2.2.1 = r ∧ u.2.2.2.1 = ra ∧ u.2.2.2.2 = f)) (fun (u : mf_V × (Nat → Int64) × mf_V × mf_V × mf_V) t => WrQ G (va_A (OW G ho pn pa pf ae x ++ LW gL jw o ++ RW G pn adn r ++ RW G pa ada ra ++ FW G pf adf f) sz) (OW G ho pn pa pf ae (u.1) ++ LW gL jw (u.2.1) ++ RW G pn adn (u.2.2.1) ++ RW G pa ada (u.2.2.2.1) ++ FW G pf adf (u.2.2.2.2)) t) (va_A (OW G ho pn pa pf ae x ++ LW gL jw o ++ RW G pn adn r ++ RW G pa ada ra ++ FW G pf adf f) sz)) (vx_X (fun _ : Unit => False) (fun _ _ _ => False) (va_A (OW G ho pn pa pf ae x ++ LW gL jw o ++ RW G pn adn r ++ RW G pa ada ra ++ FW G pf adf f) sz)) 1 6 (va_A (OW G ho pn pa pf ae x ++ LW gL jw o ++ RW G pn adn r ++ RW G pa ada ra ++ FW G pf adf f) sz) := by
  refine vx_ofWH (cc := cL_course) (maxL := 5) (ret := (some .int)) (hh := [(0, 10, 13, 13)]) (by decide +kernel) rfl ?_
  intro p e s m args below meth c s₁ B hml hv
  obtain ⟨rfl, hsz, hP, hK, hD0, hN, hSX, hCX, hZ, hNX⟩ := hv
  have hx := B.exec
  have hb := B.bytes
  have hr := B.returns
  have hts := atoms_spec (ws := wsL_course) B.pre
  have hown : s.vm.findClass RL = some m.cls := findClass_of_methodNamed B.named
  have hlocks := B.notSynchronized
  have hK2 := hK
  have hK := hK2.sub (tys' := mf_ty G) [0, 1] rfl
  have htab := vx_table (x := yL_course) B (hts (.codeWith yL_course cL_course 5 (some .int) [(0, 10, 13, 13)]) List.mem_cons_self)
  subst hsz
  have hD := hD0.self (sz := s.heap.size)
  generalize hAe : va_A (OW G ho pn pa pf ae x ++ LW gL jw o ++ RW G pn adn r ++ RW G pa ada ra ++ FW G pf adf f) s.heap.size = A at hD hZ ⊢
  have hA : ∀ q : Nat, s.heap.size ≤ q → A q := fun q h => by rw [← hAe]; exact Or.inr h
  have hS : va_S A s.heap s.heap [] := va_S.rf
  have hl := lv_entry ([.ref ho, .int (iI (iv)), .int (iI (wv)), .ref jw]) (n := 5) (Nat.le_of_ble_eq_true rfl)
  rw [lg_entry_eq]
  generalize (lg_sl ([.ref ho, .int (iI (iv)), .int (iI (wv)), .ref jw]) ++ List.replicate (5 - (lg_sl ([.ref ho, .int (iI (iv)), .int (iI (wv)), .ref jw])).length) Slot.unset).toArray = ls at hl ⊢
  have hl : lv_has ls 5 [(0, .ref ho), (1, .int (iI (iv))), (2, .int (iI (wv))), (3, .ref jw)] := hl
  have hiv1 := hiv.1
  have hiv2 := hiv.2
  have hwv1 := hwv.1
  have hwv2 := hwv.2
  have okLr : (0 : Int) ≤ r 7 0 ∧ r 7 0 ≤ 150 := ok 7 0
  have okLra : (0 : Int) ≤ ra 7 0 ∧ ra 7 0 ≤ 150 := okra 7 0
  refine lv_aload_n hx hb dL_course_0 rfl (lv_at hl 3 rfl) ?_
  refine mf_iconst hx hb dL_course_1 ?_
  refine lv_aload_n hx hb dL_course_2 rfl (lv_at hl 0 rfl) ?_
  refine lv_iload_n hx hb dL_course_3 rfl (lv_at hl 1 rfl) ?_
  refine lv_iload_n hx hb dL_course_4 rfl (lv_at hl 2 rfl) ?_
  have hFc := va_free (wc := OW G ho pn pa pf ae x ++ RW G pn adn r ++ RW G pa ada ra ++ FW G pf adf f) hD hS hA [0, 1, 3, 4, 5, 6, 7, 8, 9, 10, 11, 12, 13, 14, 15, 16, 17, 18, 19, 20, 21, 22, 23, 24, 25, 26, 27, 28, 29, 30, 31] sb_25e4c4fd82
  refine vx_calli (vx_runV (As := [.int (iI (iv)), .int (iI (wv))]) (rest := [.int (iI (0)), .ref jw]) ⟨hx, hb, hml, hown, hts⟩ (c_X2_course l hl9 G ho pn pa pf ae x adn r ada ra adf f (iv) (wv) (i32_mk (by omega) (by omega)) (i32_mk (by omega) (by omega)) (by assumption) (by assumption) (by assumption) (by assumption) _) (cwV 2 hts gL_course_X2_course rfl rfl rfl (by decide +kernel) ⟨Nat.le_of_ble_eq_true rfl, Nat.le_of_ble_eq_true rfl⟩) (wrVx (wc := OW G ho pn pa pf ae x ++ RW G pn adn r ++ RW G pa ada ra ++ FW G pf adf f) hSX hCX hZ hS hFc hK hP hD hN [0, 1, 3, 4, 5, 6, 7, 8, 9, 10, 11, 12, 13, 14, 15, 16, 17, 18, 19, 20, 21, 22, 23, 24, 25, 26, 27, 28, 29, 30, 31] (by decide +kernel) sb_f976e10569 sb_25e4c4fd82 (ci := 2) rfl rfl) rfl rfl hl.1 rfl (lv_room (Nat.le_of_ble_eq_true rfl)) dL_course_5 ⟨Nat.le_of_ble_eq_true rfl, Nat.le_of_ble_eq_true rfl⟩) hS (fun q _ h => hFc q h) hFc (fun q _ h => hFc q h) (fun E ce q9 _ t H1 locs ht hvm _ hB hz1 hk1 hS hce hcv hcl => ?_) (fun q1 u2 t H1 locs ht hvm hw hB hz1 hk1 hS => ?_)
  · skip
    obtain ⟨hxp, hB⟩ := hB
    obtain ⟨hP, hD⟩ := wrJ2 (ws := OW G ho pn pa pf ae x ++ LW gL jw o ++ RW G pn adn r ++ RW G pa ada ra ++ FW G pf adf f) (wc := OW G ho pn pa pf ae x ++ RW G pn adn r ++ RW G pa ada ra ++ FW G pf adf f) (wr := LW gL jw o) (w1 := OW G ho pn pa pf ae x ++ RW G pn adn r ++ RW G pa ada ra ++ FW G pf adf f) hP hD [0, 1, 3, 4, 5, 6, 7, 8, 9, 10, 11, 12, 13, 14, 15, 16, 17, 18, 19, 20, 21, 22, 23, 24, 25, 26, 27, 28, 29, 30, 31] [2] sb_25e4c4fd82 sb_e40585b7f7 (by decide +kernel) (by decide +kernel) hk1 ht hFc hB
    have hP : va_P G.1 vwCl (OW G ho pn pa pf ae x ++ LW gL jw o ++ RW G pn adn r ++ RW G pa ada ra ++ FW G pf adf f) H1 := hP.sub [1, 2, 0, 3, 4, 5, 6, 7, 8, 9, 10, 11, 12, 13, 14, 15, 16, 17, 18, 19, 20, 21, 22, 23, 24, 25, 26, 27, 28, 29, 30, 31] sb_13d50e5728
    have hD : va_D A (OW G ho pn pa pf ae x ++ LW gL jw o ++ RW G pn adn r ++ RW G pa ada ra ++ FW G pf adf f) := hD.sub [1, 2, 0, 3, 4, 5, 6, 7, 8, 9, 10, 11, 12, 13, 14, 15, 16, 17, 18, 19, 20, 21, 22, 23, 24, 25, 26, 27, 28, 29, 30, 31] (by decide +kernel) sb_eddd18e5dc
    clear hB hk1 hFc ht hz1 hvm
    generalize H1 = H at hP hS hce ⊢
    rcases hxp with ⟨rfl, hk9⟩
    · skip
      refine vx_catch (name := xIO) hown [] ⟨0, 10, 13, 13⟩ [] htab (fun z hz => by cases hz) (by decide) (by decide) (hts (.classLink RL 13 "java/lang/IndexOutOfBoundsException") (List.mem_of_getElem? (i := 1) rfl)) (va_Nw.use rfl hCX.1) hce hcv hcl ?_
      refine lv_astore (lv' := [(4, .ref q9), (0, .ref ho), (1, .int (iI (iv))), (2, .int (iI (wv))), (3, .ref jw)]) hx hb dL_course_13 hl (by decide) rfl (fun ls hl => ?_)
      refine mf_iconst hx hb dL_course_15 ?_
      refine vx_ret ?_
      exact W.iret hx hb hr (fun t ht hW => ⟨⟨_, (x, o, r, ra, f), rfl, ⟨_, rfl, by (try dsimp only); exact ⟨hk9.symm, ⟨okx, ok, okra, okf⟩, fun z9 => absurd (hk9.symm.trans z9) (by decide), fun _ => ⟨rfl, rfl, rfl, rfl⟩⟩⟩, by rw [ht]; exact hP, hD⟩, hS.F ht⟩) hS.2.2 dL_course_16
  · skip
    obtain ⟨x3, r4, ra5, f6⟩ := u2
    try dsimp only at hw hB
    obtain ⟨hP, hD⟩ := wrJ2 (ws := OW G ho pn pa pf ae x ++ LW gL jw o ++ RW G pn adn r ++ RW G pa ada ra ++ FW G pf adf f) (wc := OW G ho pn pa pf ae x ++ RW G pn adn r ++ RW G pa ada ra ++ FW G pf adf f) (wr := LW gL jw o) (w1 := OW G ho pn pa pf ae x3 ++ RW G pn adn r4 ++ RW G pa ada ra5 ++ FW G pf adf f6) hP hD [0, 1, 3, 4, 5, 6, 7, 8, 9, 10, 11, 12, 13, 14, 15, 16, 17, 18, 19, 20, 21, 22, 23, 24, 25, 26, 27, 28, 29, 30, 31] [2] sb_25e4c4fd82 sb_e40585b7f7 (by decide +kernel) (by decide +kernel) hk1 ht hFc hB
    have hP : va_P G.1 vwCl (OW G ho pn pa pf ae x3 ++ LW gL jw o ++ RW G pn adn r4 ++ RW G pa ada ra5 ++ FW G pf adf f6) H1 := hP.sub [1, 2, 0, 3, 4, 5, 6, 7, 8, 9, 10, 11, 12, 13, 14, 15, 16, 17, 18, 19, 20, 21, 22, 23, 24, 25, 26, 27, 28, 29, 30, 31] sb_13d50e5728
    have hD : va_D A (OW G ho pn pa pf ae x3 ++ LW gL jw o ++ RW G pn adn r4 ++ RW G pa ada ra5 ++ FW G pf adf f6) := hD.sub [1, 2, 0, 3, 4, 5, 6, 7, 8, 9, 10, 11, 12, 13, 14, 15, 16, 17, 18, 19, 20, 21, 22, 23, 24, 25, 26, 27, 28, 29, 30, 31] (by decide +kernel) sb_eddd18e5dc
    clear hB hk1 hFc ht hz1 hvm
    generalize H1 = H at hP hS ⊢
    obtain ⟨z7, rfl, w8⟩ := hw
    refine mf_i2lw hx hb dL_course_8 ?_
    refine va_last hx hb hK2 hP hD hS 2 2 rfl rfl (i := iI 0) (x := lI (wrI (z7))) (iI_in (z := 0) (by decide) (by decide) (by decide)) dL_course_9 (fun H locs hP hD hS => ?_)
    obtain ⟨ov9, eov9⟩ : ∃ z9 : Nat → Int64, z9 = vp_updL o (iI 0).toNatClampNeg (lI (wrI (z7))) := ⟨_, rfl⟩
    have hP : va_P G.1 vwCl (OW G ho pn pa pf ae x3 ++ LW gL jw ov9 ++ RW G pn adn r4 ++ RW G pa ada ra5 ++ FW G pf adf f6) H := by rw [eov9]; exact hP
    have hD : va_D A (OW G ho pn pa pf ae x3 ++ LW gL jw ov9 ++ RW G pn adn r4 ++ RW G pa ada ra5 ++ FW G pf adf f6) := by rw [eov9]; exact hD
    have f0_ov9 : ov9 0 = lI (wrI (z7)) := by rw [eov9]; exact if_pos (by decide)
    refine lv_goto (tgt := 17) hx hb dL_course_10 (by decide) ?_
    refine mf_iconst hx hb dL_course_17 ?_
    refine vx_ret ?_
    exact W.iret hx hb hr (fun t ht hW => ⟨⟨_, (x3, ov9, r4, ra5, f6), rfl, ⟨_, rfl, by (try dsimp only); exact ⟨w8.1.symm, w8.2.1, fun _ => ⟨_, f0_ov9, w8.2.2⟩, fun z9 => absurd w8.1 z9⟩⟩, by rw [ht]; exact hP, hD⟩, hS.F ht⟩) hS.2.2 dL_course_18
set_option maxHeartbeats 4000000 in
set_option maxRecDepth 100000 in
theorem c_L_slip (l : Launch) (hl9 : l.stackTraces = false) (G : mf_G) (gL : ClassId) (ho pn pa pf : Nat) (ae : Nat) (x : mf_V) (jw : Nat) (o : Nat → Int64) (adn : Nat → Nat) (r : mf_V) (ada : Nat → Nat) (ra : mf_V) (adf : Nat → Nat) (f : mf_V)  (iv : Int) (sv : Int) (hiv : i32 iv) (hsv : i32 sv) (okx : rOK xlo xhi x) (ok : rOK rlo rhi r) (okra : rOK rlo rhi ra) (okf : rOK flo fhi f) (hI : RInv r) (sz : Nat) : vx_Met l yL_slip wsL_slip ({ frames := 7, cells := 1, slots := 6, locals := 116 }) (va_Pc [.ref ho, .int (iI (iv)), .int (iI (sv)), .ref jw] (WrPy G gL (OW G ho pn pa pf ae x ++ LW gL jw o ++ RW G pn adn r ++ RW G pa ada ra ++ FW G pf adf f) sz)) (va_Qi (fun q9 (u : mf_V × (Nat → Int64) × mf_V × mf_V × mf_V) => ∃ z : Int, q9 = iI z ∧ z = kSlip r iv sv ∧ (rOK xlo xhi u.1 ∧ rOK rlo rhi u.2.2.1 ∧ rOK rlo rhi u.2.2.2.1 ∧ rOK flo fhi u.2.2.2.2) ∧ (kSlip r iv sv = 0 → ∃ v : Int, u.2.1 0 = lI (wrI v) ∧ RInv u.2.2.1 ∧ Bul r iv sv u.2.2.1 ∧ u.2.2.2.2 = f ∧ v = u.2.2.1 7 0) ∧ (¬ kSlip r iv sv = 0 → u.1 = x ∧ u.2.2.1 = r ∧ u.2.2.2.1 = ra ∧ u.2.2.2.2 = f)) (fun (u : mf_V × (Nat → Int64) × mf_V × mf_V × mf_V) t => WrQ G (va_A (OW G ho pn pa pf ae x ++ LW gL jw o ++ RW G pn adn r ++ RW G pa ada ra ++ FW G pf adf f) sz) (OW G ho pn pa pf ae (u.1) ++ LW gL jw (u.2.1) ++ RW G pn adn (u.2.2.1) ++ RW G pa ada (u.2.2.2.1) ++ FW G pf adf (u.2.2.2.2)) t) (va_A (OW G ho pn pa pf ae x ++ LW gL jw o ++ RW G pn adn r ++ RW G pa ada ra ++ FW G pf adf f) sz)) (vx_X (fun _ : Unit => False) (fun _ _ _ => False) (va_A (OW G ho pn pa pf ae x ++ LW gL jw o ++ RW G pn adn r ++ RW G pa ada ra ++ FW G pf adf f) sz)) 1 6 (va_A (OW G ho pn pa pf ae x ++ LW gL jw o ++ RW G pn adn r ++ RW G pa ada ra ++ FW G pf adf f) sz) := by
  refine vx_ofWH (cc := cL_slip) (maxL := 5) (ret := (some .int)) (hh := [(0, 10, 13, 13), (0, 10, 17, 15), (0, 10, 21, 34)]) (by decide +kernel) rfl ?_
  intro p e s m args below meth c s₁ B hml hv
  obtain ⟨rfl, hsz, hP, hK, hD0, hN, hSX, hCX, hZ, hNX⟩ := hv
  have hx := B.exec
  have hb := B.bytes
  have hr := B.returns
  have hts := atoms_spec (ws := wsL_slip) B.pre
  have hown : s.vm.findClass RL = some m.cls := findClass_of_methodNamed B.named
  have hlocks := B.notSynchronized
  have hK2 := hK
  have hK := hK2.sub (tys' := mf_ty G) [0, 1] rfl
  have htab := vx_table (x := yL_slip) B (hts (.codeWith yL_slip cL_slip 5 (some .int) [(0, 10, 13, 13), (0, 10, 17, 15), (0, 10, 21, 34)]) List.mem_cons_self)
  subst hsz
  have hD := hD0.self (sz := s.heap.size)
  generalize hAe : va_A (OW G ho pn pa pf ae x ++ LW gL jw o ++ RW G pn adn r ++ RW G pa ada ra ++ FW G pf adf f) s.heap.size = A at hD hZ ⊢
  have hA : ∀ q : Nat, s.heap.size ≤ q → A q := fun q h => by rw [← hAe]; exact Or.inr h
  have hS : va_S A s.heap s.heap [] := va_S.rf
  have hl := lv_entry ([.ref ho, .int (iI (iv)), .int (iI (sv)), .ref jw]) (n := 5) (Nat.le_of_ble_eq_true rfl)
  rw [lg_entry_eq]
  generalize (lg_sl ([.ref ho, .int (iI (iv)), .int (iI (sv)), .ref jw]) ++ List.replicate (5 - (lg_sl ([.ref ho, .int (iI (iv)), .int (iI (sv)), .ref jw])).length) Slot.unset).toArray = ls at hl ⊢
  have hl : lv_has ls 5 [(0, .ref ho), (1, .int (iI (iv))), (2, .int (iI (sv))), (3, .ref jw)] := hl
  have hiv1 := hiv.1
  have hiv2 := hiv.2
  have hsv1 := hsv.1
  have hsv2 := hsv.2
  have okLr : (0 : Int) ≤ r 7 0 ∧ r 7 0 ≤ 150 := ok 7 0
  have okLra : (0 : Int) ≤ ra 7 0 ∧ ra 7 0 ≤ 150 := okra 7 0
  refine lv_aload_n hx hb dL_slip_0 rfl (lv_at hl 3 rfl) ?_
  refine mf_iconst hx hb dL_slip_1 ?_
  refine lv_aload_n hx hb dL_slip_2 rfl (lv_at hl 0 rfl) ?_
  refine lv_iload_n hx hb dL_slip_3 rfl (lv_at hl 1 rfl) ?_
  refine lv_iload_n hx hb dL_slip_4 rfl (lv_at hl 2 rfl) ?_
  have hFc := va_free (wc := OW G ho pn pa pf ae x ++ RW G pn adn r ++ RW G pa ada ra ++ FW G pf adf f) hD hS hA [0, 1, 3, 4, 5, 6, 7, 8, 9, 10, 11, 12, 13, 14, 15, 16, 17, 18, 19, 20, 21, 22, 23, 24, 25, 26, 27, 28, 29, 30, 31] sb_25e4c4fd82
  refine vx_calli (vx_runV (As := [.int (iI (iv)), .int (iI (sv))]) (rest := [.int (iI (0)), .ref jw]) ⟨hx, hb, hml, hown, hts⟩ (c_X2_slip l hl9 G ho pn pa pf ae x adn r ada ra adf f (iv) (sv) (i32_mk (by omega) (by omega)) (i32_mk (by omega) (by omega)) (by assumption) (by assumption) (by assumption) (by assumption) (by first | assumption | omega) _) (cwV 2 hts gL_slip_X2_slip rfl rfl rfl (by decide +kernel) ⟨Nat.le_of_ble_eq_true rfl, Nat.le_of_ble_eq_true rfl⟩) (wrVx (wc := OW G ho pn pa pf ae x ++ RW G pn adn r ++ RW G pa ada ra ++ FW G pf adf f) hSX hCX hZ hS hFc hK hP hD hN [0, 1, 3, 4, 5, 6, 7, 8, 9, 10, 11, 12, 13, 14, 15, 16, 17, 18, 19, 20, 21, 22, 23, 24, 25, 26, 27, 28, 29, 30, 31] (by decide +kernel) sb_f976e10569 sb_25e4c4fd82 (ci := 2) rfl rfl) rfl rfl hl.1 rfl (lv_room (Nat.le_of_ble_eq_true rfl)) dL_slip_5 ⟨Nat.le_of_ble_eq_true rfl, Nat.le_of_ble_eq_true rfl⟩) hS (fun q _ h => hFc q h) hFc (fun q _ h => hFc q h) (fun E ce q9 _ t H1 locs ht hvm _ hB hz1 hk1 hS hce hcv hcl => ?_) (fun q1 u2 t H1 locs ht hvm hw hB hz1 hk1 hS => ?_)
  · skip
    obtain ⟨hxp, hB⟩ := hB
    obtain ⟨hP, hD⟩ := wrJ2 (ws := OW G ho pn pa pf ae x ++ LW gL jw o ++ RW G pn adn r ++ RW G pa ada ra ++ FW G pf adf f) (wc := OW G ho pn pa pf ae x ++ RW G pn adn r ++ RW G pa ada ra ++ FW G pf adf f) (wr := LW gL jw o) (w1 := OW G ho pn pa pf ae x ++ RW G pn adn r ++ RW G pa ada ra ++ FW G pf adf f) hP hD [0, 1, 3, 4, 5, 6, 7, 8, 9, 10, 11, 12, 13, 14, 15, 16, 17, 18, 19, 20, 21, 22, 23, 24, 25, 26, 27, 28, 29, 30, 31] [2] sb_25e4c4fd82 sb_e40585b7f7 (by decide +kernel) (by decide +kernel) hk1 ht hFc hB
    have hP : va_P G.1 vwCl (OW G ho pn pa pf ae x ++ LW gL jw o ++ RW G pn adn r ++ RW G pa ada ra ++ FW G pf adf f) H1 := hP.sub [1, 2, 0, 3, 4, 5, 6, 7, 8, 9, 10, 11, 12, 13, 14, 15, 16, 17, 18, 19, 20, 21, 22, 23, 24, 25, 26, 27, 28, 29, 30, 31] sb_13d50e5728
    have hD : va_D A (OW G ho pn pa pf ae x ++ LW gL jw o ++ RW G pn adn r ++ RW G pa ada ra ++ FW G pf adf f) := hD.sub [1, 2, 0, 3, 4, 5, 6, 7, 8, 9, 10, 11, 12, 13, 14, 15, 16, 17, 18, 19, 20, 21, 22, 23, 24, 25, 26, 27, 28, 29, 30, 31] (by decide +kernel) sb_eddd18e5dc
    clear hB hk1 hFc ht hz1 hvm
    generalize H1 = H at hP hS hce ⊢
    rcases hxp with ⟨rfl, hk9⟩ | ⟨rfl, hk9⟩ | ⟨rfl, hk9⟩
    · skip
      refine vx_catch (name := xIO) hown [] ⟨0, 10, 13, 13⟩ [⟨0, 10, 17, 15⟩, ⟨0, 10, 21, 34⟩] htab (fun z hz => by cases hz) (by decide) (by decide) (hts (.classLink RL 13 "java/lang/IndexOutOfBoundsException") (List.mem_of_getElem? (i := 1) rfl)) (va_Nw.use rfl hCX.1) hce hcv hcl ?_
      refine lv_astore (lv' := [(4, .ref q9), (0, .ref ho), (1, .int (iI (iv))), (2, .int (iI (sv))), (3, .ref jw)]) hx hb dL_slip_13 hl (by decide) rfl (fun ls hl => ?_)
      refine mf_iconst hx hb dL_slip_15 ?_
      refine vx_ret ?_
      exact W.iret hx hb hr (fun t ht hW => ⟨⟨_, (x, o, r, ra, f), rfl, ⟨_, rfl, by (try dsimp only); exact ⟨hk9.symm, ⟨okx, ok, okra, okf⟩, fun z9 => absurd (hk9.symm.trans z9) (by decide), fun _ => ⟨rfl, rfl, rfl, rfl⟩⟩⟩, by rw [ht]; exact hP, hD⟩, hS.F ht⟩) hS.2.2 dL_slip_16
    · skip
      refine vx_catch (name := xIA) hown [⟨0, 10, 13, 13⟩] ⟨0, 10, 17, 15⟩ [⟨0, 10, 21, 34⟩] htab (fun z hz => by (rcases List.mem_cons.mp hz with rfl | hz; exact Or.inr ⟨by decide, _, (hts (.classLink RL 13 "java/lang/IndexOutOfBoundsException") (List.mem_of_getElem? (i := 1) rfl)), hNX.1⟩); cases hz) (by decide) (by decide) (hts (.classLink RL 15 "java/lang/IllegalArgumentException") (List.mem_of_getElem? (i := 2) rfl)) (va_Nw.use rfl hCX.2.1) hce hcv hcl ?_
      refine lv_astore (lv' := [(4, .ref q9), (0, .ref ho), (1, .int (iI (iv))), (2, .int (iI (sv))), (3, .ref jw)]) hx hb dL_slip_17 hl (by decide) rfl (fun ls hl => ?_)
      refine mf_iconst hx hb dL_slip_19 ?_
      refine vx_ret ?_
      exact W.iret hx hb hr (fun t ht hW => ⟨⟨_, (x, o, r, ra, f), rfl, ⟨_, rfl, by (try dsimp only); exact ⟨hk9.symm, ⟨okx, ok, okra, okf⟩, fun z9 => absurd (hk9.symm.trans z9) (by decide), fun _ => ⟨rfl, rfl, rfl, rfl⟩⟩⟩, by rw [ht]; exact hP, hD⟩, hS.F ht⟩) hS.2.2 dL_slip_20
    · skip
      refine vx_catch (name := xIS) hown [⟨0, 10, 13, 13⟩, ⟨0, 10, 17, 15⟩] ⟨0, 10, 21, 34⟩ [] htab (fun z hz => by (rcases List.mem_cons.mp hz with rfl | hz; exact Or.inr ⟨by decide, _, (hts (.classLink RL 13 "java/lang/IndexOutOfBoundsException") (List.mem_of_getElem? (i := 1) rfl)), hNX.2.1⟩); (rcases List.mem_cons.mp hz with rfl | hz; exact Or.inr ⟨by decide, _, (hts (.classLink RL 15 "java/lang/IllegalArgumentException") (List.mem_of_getElem? (i := 2) rfl)), hNX.2.2.1⟩); cases hz) (by decide) (by decide) (hts (.classLink RL 34 "java/lang/IllegalStateException") (List.mem_of_getElem? (i := 3) rfl)) (va_Nw.use rfl hCX.2.2.1) hce hcv hcl ?_
      refine lv_astore (lv' := [(4, .ref q9), (0, .ref ho), (1, .int (iI (iv))), (2, .int (iI (sv))), (3, .ref jw)]) hx hb dL_slip_21 hl (by decide) rfl (fun ls hl => ?_)
      refine mf_iconst hx hb dL_slip_23 ?_
      refine vx_ret ?_
      exact W.iret hx hb hr (fun t ht hW => ⟨⟨_, (x, o, r, ra, f), rfl, ⟨_, rfl, by (try dsimp only); exact ⟨hk9.symm, ⟨okx, ok, okra, okf⟩, fun z9 => absurd (hk9.symm.trans z9) (by decide), fun _ => ⟨rfl, rfl, rfl, rfl⟩⟩⟩, by rw [ht]; exact hP, hD⟩, hS.F ht⟩) hS.2.2 dL_slip_24
  · skip
    obtain ⟨x3, r4, ra5, f6⟩ := u2
    try dsimp only at hw hB
    obtain ⟨hP, hD⟩ := wrJ2 (ws := OW G ho pn pa pf ae x ++ LW gL jw o ++ RW G pn adn r ++ RW G pa ada ra ++ FW G pf adf f) (wc := OW G ho pn pa pf ae x ++ RW G pn adn r ++ RW G pa ada ra ++ FW G pf adf f) (wr := LW gL jw o) (w1 := OW G ho pn pa pf ae x3 ++ RW G pn adn r4 ++ RW G pa ada ra5 ++ FW G pf adf f6) hP hD [0, 1, 3, 4, 5, 6, 7, 8, 9, 10, 11, 12, 13, 14, 15, 16, 17, 18, 19, 20, 21, 22, 23, 24, 25, 26, 27, 28, 29, 30, 31] [2] sb_25e4c4fd82 sb_e40585b7f7 (by decide +kernel) (by decide +kernel) hk1 ht hFc hB
    have hP : va_P G.1 vwCl (OW G ho pn pa pf ae x3 ++ LW gL jw o ++ RW G pn adn r4 ++ RW G pa ada ra5 ++ FW G pf adf f6) H1 := hP.sub [1, 2, 0, 3, 4, 5, 6, 7, 8, 9, 10, 11, 12, 13, 14, 15, 16, 17, 18, 19, 20, 21, 22, 23, 24, 25, 26, 27, 28, 29, 30, 31] sb_13d50e5728
    have hD : va_D A (OW G ho pn pa pf ae x3 ++ LW gL jw o ++ RW G pn adn r4 ++ RW G pa ada ra5 ++ FW G pf adf f6) := hD.sub [1, 2, 0, 3, 4, 5, 6, 7, 8, 9, 10, 11, 12, 13, 14, 15, 16, 17, 18, 19, 20, 21, 22, 23, 24, 25, 26, 27, 28, 29, 30, 31] (by decide +kernel) sb_eddd18e5dc
    clear hB hk1 hFc ht hz1 hvm
    generalize H1 = H at hP hS ⊢
    obtain ⟨z7, rfl, w8⟩ := hw
    refine mf_i2lw hx hb dL_slip_8 ?_
    refine va_last hx hb hK2 hP hD hS 2 2 rfl rfl (i := iI 0) (x := lI (wrI (z7))) (iI_in (z := 0) (by decide) (by decide) (by decide)) dL_slip_9 (fun H locs hP hD hS => ?_)
    obtain ⟨ov9, eov9⟩ : ∃ z9 : Nat → Int64, z9 = vp_updL o (iI 0).toNatClampNeg (lI (wrI (z7))) := ⟨_, rfl⟩
    have hP : va_P G.1 vwCl (OW G ho pn pa pf ae x3 ++ LW gL jw ov9 ++ RW G pn adn r4 ++ RW G pa ada ra5 ++ FW G pf adf f6) H := by rw [eov9]; exact hP
    have hD : va_D A (OW G ho pn pa pf ae x3 ++ LW gL jw ov9 ++ RW G pn adn r4 ++ RW G pa ada ra5 ++ FW G pf adf f6) := by rw [eov9]; exact hD
    have f0_ov9 : ov9 0 = lI (wrI (z7)) := by rw [eov9]; exact if_pos (by decide)
    refine lv_goto (tgt := 25) hx hb dL_slip_10 (by decide) ?_
    refine mf_iconst hx hb dL_slip_25 ?_
    refine vx_ret ?_
    exact W.iret hx hb hr (fun t ht hW => ⟨⟨_, (x3, ov9, r4, ra5, f6), rfl, ⟨_, rfl, by (try dsimp only); exact ⟨w8.1.symm, w8.2.1, fun _ => ⟨_, f0_ov9, w8.2.2⟩, fun z9 => absurd w8.1 z9⟩⟩, by rw [ht]; exact hP, hD⟩, hS.F ht⟩) hS.2.2 dL_slip_26
set_option maxHeartbeats 4000000 in
set_option maxRecDepth 100000 in
theorem c_L_dig (l : Launch) (hl9 : l.stackTraces = false) (G : mf_G) (gL : ClassId) (ho pn pa pf : Nat) (ae : Nat) (x : mf_V) (jw : Nat) (o : Nat → Int64) (adn : Nat → Nat) (r : mf_V) (ada : Nat → Nat) (ra : mf_V) (adf : Nat → Nat) (f : mf_V)  (iv : Int) (jv : Int) (hiv : i32 iv) (hjv : i32 jv) (okx : rOK xlo xhi x) (ok : rOK rlo rhi r) (okra : rOK rlo rhi ra) (okf : rOK flo fhi f) (hI : RInv r) (hbk : r 9 0 < 100000000) (sz : Nat) : vx_Met l yL_dig wsL_dig ({ frames := 7, cells := 1, slots := 6, locals := 114 }) (va_Pc [.ref ho, .int (iI (iv)), .int (iI (jv)), .ref jw] (WrPy G gL (OW G ho pn pa pf ae x ++ LW gL jw o ++ RW G pn adn r ++ RW G pa ada ra ++ FW G pf adf f) sz)) (va_Qi (fun q9 (u : mf_V × (Nat → Int64) × mf_V × mf_V × mf_V) => ∃ z : Int, q9 = iI z ∧ z = kDig r iv jv ∧ (rOK xlo xhi u.1 ∧ rOK rlo rhi u.2.2.1 ∧ rOK rlo rhi u.2.2.2.1 ∧ rOK flo fhi u.2.2.2.2) ∧ (kDig r iv jv = 0 → ∃ v : Int, u.2.1 0 = lI (wrI v) ∧ RInv u.2.2.1 ∧ Brk r iv jv u.2.2.1 ∧ u.2.2.2.2 = f ∧ v = u.2.2.1 7 0) ∧ (¬ kDig r iv jv = 0 → u.1 = x ∧ u.2.2.1 = r ∧ u.2.2.2.1 = ra ∧ u.2.2.2.2 = f)) (fun (u : mf_V × (Nat → Int64) × mf_V × mf_V × mf_V) t => WrQ G (va_A (OW G ho pn pa pf ae x ++ LW gL jw o ++ RW G pn adn r ++ RW G pa ada ra ++ FW G pf adf f) sz) (OW G ho pn pa pf ae (u.1) ++ LW gL jw (u.2.1) ++ RW G pn adn (u.2.2.1) ++ RW G pa ada (u.2.2.2.1) ++ FW G pf adf (u.2.2.2.2)) t) (va_A (OW G ho pn pa pf ae x ++ LW gL jw o ++ RW G pn adn r ++ RW G pa ada ra ++ FW G pf adf f) sz)) (vx_X (fun _ : Unit => False) (fun _ _ _ => False) (va_A (OW G ho pn pa pf ae x ++ LW gL jw o ++ RW G pn adn r ++ RW G pa ada ra ++ FW G pf adf f) sz)) 1 6 (va_A (OW G ho pn pa pf ae x ++ LW gL jw o ++ RW G pn adn r ++ RW G pa ada ra ++ FW G pf adf f) sz) := by
  refine vx_ofWH (cc := cL_dig) (maxL := 5) (ret := (some .int)) (hh := [(0, 10, 13, 13), (0, 10, 17, 34)]) (by decide +kernel) rfl ?_
  intro p e s m args below meth c s₁ B hml hv
  obtain ⟨rfl, hsz, hP, hK, hD0, hN, hSX, hCX, hZ, hNX⟩ := hv
  have hx := B.exec
  have hb := B.bytes
  have hr := B.returns
  have hts := atoms_spec (ws := wsL_dig) B.pre
  have hown : s.vm.findClass RL = some m.cls := findClass_of_methodNamed B.named
  have hlocks := B.notSynchronized
  have hK2 := hK
  have hK := hK2.sub (tys' := mf_ty G) [0, 1] rfl
  have htab := vx_table (x := yL_dig) B (hts (.codeWith yL_dig cL_dig 5 (some .int) [(0, 10, 13, 13), (0, 10, 17, 34)]) List.mem_cons_self)
  subst hsz
  have hD := hD0.self (sz := s.heap.size)
  generalize hAe : va_A (OW G ho pn pa pf ae x ++ LW gL jw o ++ RW G pn adn r ++ RW G pa ada ra ++ FW G pf adf f) s.heap.size = A at hD hZ ⊢
  have hA : ∀ q : Nat, s.heap.size ≤ q → A q := fun q h => by rw [← hAe]; exact Or.inr h
  have hS : va_S A s.heap s.heap [] := va_S.rf
  have hl := lv_entry ([.ref ho, .int (iI (iv)), .int (iI (jv)), .ref jw]) (n := 5) (Nat.le_of_ble_eq_true rfl)
  rw [lg_entry_eq]
  generalize (lg_sl ([.ref ho, .int (iI (iv)), .int (iI (jv)), .ref jw]) ++ List.replicate (5 - (lg_sl ([.ref ho, .int (iI (iv)), .int (iI (jv)), .ref jw])).length) Slot.unset).toArray = ls at hl ⊢
  have hl : lv_has ls 5 [(0, .ref ho), (1, .int (iI (iv))), (2, .int (iI (jv))), (3, .ref jw)] := hl
  have hiv1 := hiv.1
  have hiv2 := hiv.2
  have hjv1 := hjv.1
  have hjv2 := hjv.2
  have okLr : (0 : Int) ≤ r 7 0 ∧ r 7 0 ≤ 150 := ok 7 0
  have okLra : (0 : Int) ≤ ra 7 0 ∧ ra 7 0 ≤ 150 := okra 7 0
  refine lv_aload_n hx hb dL_dig_0 rfl (lv_at hl 3 rfl) ?_
  refine mf_iconst hx hb dL_dig_1 ?_
  refine lv_aload_n hx hb dL_dig_2 rfl (lv_at hl 0 rfl) ?_
  refine lv_iload_n hx hb dL_dig_3 rfl (lv_at hl 1 rfl) ?_
  refine lv_iload_n hx hb dL_dig_4 rfl (lv_at hl 2 rfl) ?_
  have hFc := va_free (wc := OW G ho pn pa pf ae x ++ RW G pn adn r ++ RW G pa ada ra ++ FW G pf adf f) hD hS hA [0, 1, 3, 4, 5, 6, 7, 8, 9, 10, 11, 12, 13, 14, 15, 16, 17, 18, 19, 20, 21, 22, 23, 24, 25, 26, 27, 28, 29, 30, 31] sb_25e4c4fd82
  refine vx_calli (vx_runV (As := [.int (iI (iv)), .int (iI (jv))]) (rest := [.int (iI (0)), .ref jw]) ⟨hx, hb, hml, hown, hts⟩ (c_X2_dig l hl9 G ho pn pa pf ae x adn r ada ra adf f (iv) (jv) (i32_mk (by omega) (by omega)) (i32_mk (by omega) (by omega)) (by assumption) (by assumption) (by assumption) (by assumption) (by first | assumption | omega) (by first | assumption | omega) _) (cwV 2 hts gL_dig_X2_dig rfl rfl rfl (by decide +kernel) ⟨Nat.le_of_ble_eq_true rfl, Nat.le_of_ble_eq_true rfl⟩) (wrVx (wc := OW G ho pn pa pf ae x ++ RW G pn adn r ++ RW G pa ada ra ++ FW G pf adf f) hSX hCX hZ hS hFc hK hP hD hN [0, 1, 3, 4, 5, 6, 7, 8, 9, 10, 11, 12, 13, 14, 15, 16, 17, 18, 19, 20, 21, 22, 23, 24, 25, 26, 27, 28, 29, 30, 31] (by decide +kernel) sb_f976e10569 sb_25e4c4fd82 (ci := 2) rfl rfl) rfl rfl hl.1 rfl (lv_room (Nat.le_of_ble_eq_true rfl)) dL_dig_5 ⟨Nat.le_of_ble_eq_true rfl, Nat.le_of_ble_eq_true rfl⟩) hS (fun q _ h => hFc q h) hFc (fun q _ h => hFc q h) (fun E ce q9 _ t H1 locs ht hvm _ hB hz1 hk1 hS hce hcv hcl => ?_) (fun q1 u2 t H1 locs ht hvm hw hB hz1 hk1 hS => ?_)
  · skip
    obtain ⟨hxp, hB⟩ := hB
    obtain ⟨hP, hD⟩ := wrJ2 (ws := OW G ho pn pa pf ae x ++ LW gL jw o ++ RW G pn adn r ++ RW G pa ada ra ++ FW G pf adf f) (wc := OW G ho pn pa pf ae x ++ RW G pn adn r ++ RW G pa ada ra ++ FW G pf adf f) (wr := LW gL jw o) (w1 := OW G ho pn pa pf ae x ++ RW G pn adn r ++ RW G pa ada ra ++ FW G pf adf f) hP hD [0, 1, 3, 4, 5, 6, 7, 8, 9, 10, 11, 12, 13, 14, 15, 16, 17, 18, 19, 20, 21, 22, 23, 24, 25, 26, 27, 28, 29, 30, 31] [2] sb_25e4c4fd82 sb_e40585b7f7 (by decide +kernel) (by decide +kernel) hk1 ht hFc hB
    have hP : va_P G.1 vwCl (OW G ho pn pa pf ae x ++ LW gL jw o ++ RW G pn adn r ++ RW G pa ada ra ++ FW G pf adf f) H1 := hP.sub [1, 2, 0, 3, 4, 5, 6, 7, 8, 9, 10, 11, 12, 13, 14, 15, 16, 17, 18, 19, 20, 21, 22, 23, 24, 25, 26, 27, 28, 29, 30, 31] sb_13d50e5728
    have hD : va_D A (OW G ho pn pa pf ae x ++ LW gL jw o ++ RW G pn adn r ++ RW G pa ada ra ++ FW G pf adf f) := hD.sub [1, 2, 0, 3, 4, 5, 6, 7, 8, 9, 10, 11, 12, 13, 14, 15, 16, 17, 18, 19, 20, 21, 22, 23, 24, 25, 26, 27, 28, 29, 30, 31] (by decide +kernel) sb_eddd18e5dc
    clear hB hk1 hFc ht hz1 hvm
    generalize H1 = H at hP hS hce ⊢
    rcases hxp with ⟨rfl, hk9⟩ | ⟨rfl, hk9⟩
    · skip
      refine vx_catch (name := xIO) hown [] ⟨0, 10, 13, 13⟩ [⟨0, 10, 17, 34⟩] htab (fun z hz => by cases hz) (by decide) (by decide) (hts (.classLink RL 13 "java/lang/IndexOutOfBoundsException") (List.mem_of_getElem? (i := 1) rfl)) (va_Nw.use rfl hCX.1) hce hcv hcl ?_
      refine lv_astore (lv' := [(4, .ref q9), (0, .ref ho), (1, .int (iI (iv))), (2, .int (iI (jv))), (3, .ref jw)]) hx hb dL_dig_13 hl (by decide) rfl (fun ls hl => ?_)
      refine mf_iconst hx hb dL_dig_15 ?_
      refine vx_ret ?_
      exact W.iret hx hb hr (fun t ht hW => ⟨⟨_, (x, o, r, ra, f), rfl, ⟨_, rfl, by (try dsimp only); exact ⟨hk9.symm, ⟨okx, ok, okra, okf⟩, fun z9 => absurd (hk9.symm.trans z9) (by decide), fun _ => ⟨rfl, rfl, rfl, rfl⟩⟩⟩, by rw [ht]; exact hP, hD⟩, hS.F ht⟩) hS.2.2 dL_dig_16
    · skip
      refine vx_catch (name := xIS) hown [⟨0, 10, 13, 13⟩] ⟨0, 10, 17, 34⟩ [] htab (fun z hz => by (rcases List.mem_cons.mp hz with rfl | hz; exact Or.inr ⟨by decide, _, (hts (.classLink RL 13 "java/lang/IndexOutOfBoundsException") (List.mem_of_getElem? (i := 1) rfl)), hNX.2.1⟩); cases hz) (by decide) (by decide) (hts (.classLink RL 34 "java/lang/IllegalStateException") (List.mem_of_getElem? (i := 2) rfl)) (va_Nw.use rfl hCX.2.2.1) hce hcv hcl ?_
      refine lv_astore (lv' := [(4, .ref q9), (0, .ref ho), (1, .int (iI (iv))), (2, .int (iI (jv))), (3, .ref jw)]) hx hb dL_dig_17 hl (by decide) rfl (fun ls hl => ?_)
      refine mf_iconst hx hb dL_dig_19 ?_
      refine vx_ret ?_
      exact W.iret hx hb hr (fun t ht hW => ⟨⟨_, (x, o, r, ra, f), rfl, ⟨_, rfl, by (try dsimp only); exact ⟨hk9.symm, ⟨okx, ok, okra, okf⟩, fun z9 => absurd (hk9.symm.trans z9) (by decide), fun _ => ⟨rfl, rfl, rfl, rfl⟩⟩⟩, by rw [ht]; exact hP, hD⟩, hS.F ht⟩) hS.2.2 dL_dig_20
  · skip
    obtain ⟨x3, r4, ra5, f6⟩ := u2
    try dsimp only at hw hB
    obtain ⟨hP, hD⟩ := wrJ2 (ws := OW G ho pn pa pf ae x ++ LW gL jw o ++ RW G pn adn r ++ RW G pa ada ra ++ FW G pf adf f) (wc := OW G ho pn pa pf ae x ++ RW G pn adn r ++ RW G pa ada ra ++ FW G pf adf f) (wr := LW gL jw o) (w1 := OW G ho pn pa pf ae x3 ++ RW G pn adn r4 ++ RW G pa ada ra5 ++ FW G pf adf f6) hP hD [0, 1, 3, 4, 5, 6, 7, 8, 9, 10, 11, 12, 13, 14, 15, 16, 17, 18, 19, 20, 21, 22, 23, 24, 25, 26, 27, 28, 29, 30, 31] [2] sb_25e4c4fd82 sb_e40585b7f7 (by decide +kernel) (by decide +kernel) hk1 ht hFc hB
    have hP : va_P G.1 vwCl (OW G ho pn pa pf ae x3 ++ LW gL jw o ++ RW G pn adn r4 ++ RW G pa ada ra5 ++ FW G pf adf f6) H1 := hP.sub [1, 2, 0, 3, 4, 5, 6, 7, 8, 9, 10, 11, 12, 13, 14, 15, 16, 17, 18, 19, 20, 21, 22, 23, 24, 25, 26, 27, 28, 29, 30, 31] sb_13d50e5728
    have hD : va_D A (OW G ho pn pa pf ae x3 ++ LW gL jw o ++ RW G pn adn r4 ++ RW G pa ada ra5 ++ FW G pf adf f6) := hD.sub [1, 2, 0, 3, 4, 5, 6, 7, 8, 9, 10, 11, 12, 13, 14, 15, 16, 17, 18, 19, 20, 21, 22, 23, 24, 25, 26, 27, 28, 29, 30, 31] (by decide +kernel) sb_eddd18e5dc
    clear hB hk1 hFc ht hz1 hvm
    generalize H1 = H at hP hS ⊢
    obtain ⟨z7, rfl, w8⟩ := hw
    refine mf_i2lw hx hb dL_dig_8 ?_
    refine va_last hx hb hK2 hP hD hS 2 2 rfl rfl (i := iI 0) (x := lI (wrI (z7))) (iI_in (z := 0) (by decide) (by decide) (by decide)) dL_dig_9 (fun H locs hP hD hS => ?_)
    obtain ⟨ov9, eov9⟩ : ∃ z9 : Nat → Int64, z9 = vp_updL o (iI 0).toNatClampNeg (lI (wrI (z7))) := ⟨_, rfl⟩
    have hP : va_P G.1 vwCl (OW G ho pn pa pf ae x3 ++ LW gL jw ov9 ++ RW G pn adn r4 ++ RW G pa ada ra5 ++ FW G pf adf f6) H := by rw [eov9]; exact hP
    have hD : va_D A (OW G ho pn pa pf ae x3 ++ LW gL jw ov9 ++ RW G pn adn r4 ++ RW G pa ada ra5 ++ FW G pf adf f6) := by rw [eov9]; exact hD
    have f0_ov9 : ov9 0 = lI (wrI (z7)) := by rw [eov9]; exact if_pos (by decide)
    refine lv_goto (tgt := 21) hx hb dL_dig_10 (by decide) ?_
    refine mf_iconst hx hb dL_dig_21 ?_
    refine vx_ret ?_
    exact W.iret hx hb hr (fun t ht hW => ⟨⟨_, (x3, ov9, r4, ra5, f6), rfl, ⟨_, rfl, by (try dsimp only); exact ⟨w8.1.symm, w8.2.1, fun _ => ⟨_, f0_ov9, w8.2.2⟩, fun z9 => absurd w8.1 z9⟩⟩, by rw [ht]; exact hP, hD⟩, hS.F ht⟩) hS.2.2 dL_dig_22
set_option maxHeartbeats 4000000 in
set_option maxRecDepth 100000 in
theorem c_L_neck (l : Launch) (hl9 : l.stackTraces = false) (G : mf_G) (gL : ClassId) (ho pn pa pf : Nat) (ae : Nat) (x : mf_V) (jw : Nat) (o : Nat → Int64) (adn : Nat → Nat) (r : mf_V) (ada : Nat → Nat) (ra : mf_V) (adf : Nat → Nat) (f : mf_V)  (wv : Int) (hwv : i32 wv) (okx : rOK xlo xhi x) (ok : rOK rlo rhi r) (okra : rOK rlo rhi ra) (okf : rOK flo fhi f) (hI : RInv r) (hbk : r 9 0 + 150 ≤ 100000000) (sz : Nat) : vx_Met l yL_neck wsL_neck ({ frames := 7, cells := 1, slots := 6, locals := 135 }) (va_Pc [.ref ho, .int (iI (wv)), .ref jw] (WrPy G gL (OW G ho pn pa pf ae x ++ LW gL jw o ++ RW G pn adn r ++ RW G pa ada ra ++ FW G pf adf f) sz)) (va_Qi (fun q9 (u : mf_V × (Nat → Int64) × mf_V × mf_V × mf_V) => ∃ z : Int, q9 = iI z ∧ z = kRng 0 3 wv ∧ (rOK xlo xhi u.1 ∧ rOK rlo rhi u.2.2.1 ∧ rOK rlo rhi u.2.2.2.1 ∧ rOK flo fhi u.2.2.2.2) ∧ (kRng 0 3 wv = 0 → ∃ v : Int, u.2.1 0 = lI (wrI v) ∧ (∃ q, (wv = 3 → Flood (rC r) q ∧ rOK rlo rhi q ∧ RInv q) ∧ v = vNeck r q wv) ∧ u.2.2.1 = r ∧ u.2.2.2.2 = f) ∧ (¬ kRng 0 3 wv = 0 → u.1 = x ∧ u.2.2.1 = r ∧ u.2.2.2.1 = ra ∧ u.2.2.2.2 = f)) (fun (u : mf_V × (Nat → Int64) × mf_V × mf_V × mf_V) t => WrQ G (va_A (OW G ho pn pa pf ae x ++ LW gL jw o ++ RW G pn adn r ++ RW G pa ada ra ++ FW G pf adf f) sz) (OW G ho pn pa pf ae (u.1) ++ LW gL jw (u.2.1) ++ RW G pn adn (u.2.2.1) ++ RW G pa ada (u.2.2.2.1) ++ FW G pf adf (u.2.2.2.2)) t) (va_A (OW G ho pn pa pf ae x ++ LW gL jw o ++ RW G pn adn r ++ RW G pa ada ra ++ FW G pf adf f) sz)) (vx_X (fun _ : Unit => False) (fun _ _ _ => False) (va_A (OW G ho pn pa pf ae x ++ LW gL jw o ++ RW G pn adn r ++ RW G pa ada ra ++ FW G pf adf f) sz)) 1 6 (va_A (OW G ho pn pa pf ae x ++ LW gL jw o ++ RW G pn adn r ++ RW G pa ada ra ++ FW G pf adf f) sz) := by
  refine vx_ofWH (cc := cL_neck) (maxL := 4) (ret := (some .int)) (hh := [(0, 9, 12, 13)]) (by decide +kernel) rfl ?_
  intro p e s m args below meth c s₁ B hml hv
  obtain ⟨rfl, hsz, hP, hK, hD0, hN, hSX, hCX, hZ, hNX⟩ := hv
  have hx := B.exec
  have hb := B.bytes
  have hr := B.returns
  have hts := atoms_spec (ws := wsL_neck) B.pre
  have hown : s.vm.findClass RL = some m.cls := findClass_of_methodNamed B.named
  have hlocks := B.notSynchronized
  have hK2 := hK
  have hK := hK2.sub (tys' := mf_ty G) [0, 1] rfl
  have htab := vx_table (x := yL_neck) B (hts (.codeWith yL_neck cL_neck 4 (some .int) [(0, 9, 12, 13)]) List.mem_cons_self)
  subst hsz
  have hD := hD0.self (sz := s.heap.size)
  generalize hAe : va_A (OW G ho pn pa pf ae x ++ LW gL jw o ++ RW G pn adn r ++ RW G pa ada ra ++ FW G pf adf f) s.heap.size = A at hD hZ ⊢
  have hA : ∀ q : Nat, s.heap.size ≤ q → A q := fun q h => by rw [← hAe]; exact Or.inr h
  have hS : va_S A s.heap s.heap [] := va_S.rf
  have hl := lv_entry ([.ref ho, .int (iI (wv)), .ref jw]) (n := 4) (Nat.le_of_ble_eq_true rfl)
  rw [lg_entry_eq]
  generalize (lg_sl ([.ref ho, .int (iI (wv)), .ref jw]) ++ List.replicate (4 - (lg_sl ([.ref ho, .int (iI (wv)), .ref jw])).length) Slot.unset).toArray = ls at hl ⊢
  have hl : lv_has ls 4 [(0, .ref ho), (1, .int (iI (wv))), (2, .ref jw)] := hl
  have hwv1 := hwv.1
  have hwv2 := hwv.2
  have okLr : (0 : Int) ≤ r 7 0 ∧ r 7 0 ≤ 150 := ok 7 0
  have okLra : (0 : Int) ≤ ra 7 0 ∧ ra 7 0 ≤ 150 := okra 7 0
  refine lv_aload_n hx hb dL_neck_0 rfl (lv_at hl 2 rfl) ?_
  refine mf_iconst hx hb dL_neck_1 ?_
  refine lv_aload_n hx hb dL_neck_2 rfl (lv_at hl 0 rfl) ?_
  refine lv_iload_n hx hb dL_neck_3 rfl (lv_at hl 1 rfl) ?_
  have hFc := va_free (wc := OW G ho pn pa pf ae x ++ RW G pn adn r ++ RW G pa ada ra ++ FW G pf adf f) hD hS hA [0, 1, 3, 4, 5, 6, 7, 8, 9, 10, 11, 12, 13, 14, 15, 16, 17, 18, 19, 20, 21, 22, 23, 24, 25, 26, 27, 28, 29, 30, 31] sb_25e4c4fd82
  refine vx_calli (vx_runV (As := [.int (iI (wv))]) (rest := [.int (iI (0)), .ref jw]) ⟨hx, hb, hml, hown, hts⟩ (c_X2_neck l hl9 G ho pn pa pf ae x adn r ada ra adf f (wv) (i32_mk (by omega) (by omega)) (by assumption) (by assumption) (by assumption) (by assumption) (by first | assumption | omega) (by first | assumption | omega) _) (cwV 1 hts gL_neck_X2_neck rfl rfl rfl (by decide +kernel) ⟨Nat.le_of_ble_eq_true rfl, Nat.le_of_ble_eq_true rfl⟩) (wrVx (wc := OW G ho pn pa pf ae x ++ RW G pn adn r ++ RW G pa ada ra ++ FW G pf adf f) hSX hCX hZ hS hFc hK hP hD hN [0, 1, 3, 4, 5, 6, 7, 8, 9, 10, 11, 12, 13, 14, 15, 16, 17, 18, 19, 20, 21, 22, 23, 24, 25, 26, 27, 28, 29, 30, 31] (by decide +kernel) sb_f976e10569 sb_25e4c4fd82 (ci := 2) rfl rfl) rfl rfl hl.1 rfl (lv_room (Nat.le_of_ble_eq_true rfl)) dL_neck_4 ⟨Nat.le_of_ble_eq_true rfl, Nat.le_of_ble_eq_true rfl⟩) hS (fun q _ h => hFc q h) hFc (fun q _ h => hFc q h) (fun E ce q9 _ t H1 locs ht hvm _ hB hz1 hk1 hS hce hcv hcl => ?_) (fun q1 u2 t H1 locs ht hvm hw hB hz1 hk1 hS => ?_)
  · skip
    obtain ⟨hxp, hB⟩ := hB
    obtain ⟨hP, hD⟩ := wrJ2 (ws := OW G ho pn pa pf ae x ++ LW gL jw o ++ RW G pn adn r ++ RW G pa ada ra ++ FW G pf adf f) (wc := OW G ho pn pa pf ae x ++ RW G pn adn r ++ RW G pa ada ra ++ FW G pf adf f) (wr := LW gL jw o) (w1 := OW G ho pn pa pf ae x ++ RW G pn adn r ++ RW G pa ada ra ++ FW G pf adf f) hP hD [0, 1, 3, 4, 5, 6, 7, 8, 9, 10, 11, 12, 13, 14, 15, 16, 17, 18, 19, 20, 21, 22, 23, 24, 25, 26, 27, 28, 29, 30, 31] [2] sb_25e4c4fd82 sb_e40585b7f7 (by decide +kernel) (by decide +kernel) hk1 ht hFc hB
    have hP : va_P G.1 vwCl (OW G ho pn pa pf ae x ++ LW gL jw o ++ RW G pn adn r ++ RW G pa ada ra ++ FW G pf adf f) H1 := hP.sub [1, 2, 0, 3, 4, 5, 6, 7, 8, 9, 10, 11, 12, 13, 14, 15, 16, 17, 18, 19, 20, 21, 22, 23, 24, 25, 26, 27, 28, 29, 30, 31] sb_13d50e5728
    have hD : va_D A (OW G ho pn pa pf ae x ++ LW gL jw o ++ RW G pn adn r ++ RW G pa ada ra ++ FW G pf adf f) := hD.sub [1, 2, 0, 3, 4, 5, 6, 7, 8, 9, 10, 11, 12, 13, 14, 15, 16, 17, 18, 19, 20, 21, 22, 23, 24, 25, 26, 27, 28, 29, 30, 31] (by decide +kernel) sb_eddd18e5dc
    clear hB hk1 hFc ht hz1 hvm
    generalize H1 = H at hP hS hce ⊢
    rcases hxp with ⟨rfl, hk9⟩
    · skip
      refine vx_catch (name := xIO) hown [] ⟨0, 9, 12, 13⟩ [] htab (fun z hz => by cases hz) (by decide) (by decide) (hts (.classLink RL 13 "java/lang/IndexOutOfBoundsException") (List.mem_of_getElem? (i := 1) rfl)) (va_Nw.use rfl hCX.1) hce hcv hcl ?_
      refine lv_astore_n (lv' := [(3, .ref q9), (0, .ref ho), (1, .int (iI (wv))), (2, .ref jw)]) hx hb dL_neck_12 rfl hl (by decide) rfl (fun ls hl => ?_)
      refine mf_iconst hx hb dL_neck_13 ?_
      refine vx_ret ?_
      exact W.iret hx hb hr (fun t ht hW => ⟨⟨_, (x, o, r, ra, f), rfl, ⟨_, rfl, by (try dsimp only); exact ⟨hk9.symm, ⟨okx, ok, okra, okf⟩, fun z9 => absurd (hk9.symm.trans z9) (by decide), fun _ => ⟨rfl, rfl, rfl, rfl⟩⟩⟩, by rw [ht]; exact hP, hD⟩, hS.F ht⟩) hS.2.2 dL_neck_14
  · skip
    obtain ⟨x3, r4, ra5, f6⟩ := u2
    try dsimp only at hw hB
    obtain ⟨hP, hD⟩ := wrJ2 (ws := OW G ho pn pa pf ae x ++ LW gL jw o ++ RW G pn adn r ++ RW G pa ada ra ++ FW G pf adf f) (wc := OW G ho pn pa pf ae x ++ RW G pn adn r ++ RW G pa ada ra ++ FW G pf adf f) (wr := LW gL jw o) (w1 := OW G ho pn pa pf ae x3 ++ RW G pn adn r4 ++ RW G pa ada ra5 ++ FW G pf adf f6) hP hD [0, 1, 3, 4, 5, 6, 7, 8, 9, 10, 11, 12, 13, 14, 15, 16, 17, 18, 19, 20, 21, 22, 23, 24, 25, 26, 27, 28, 29, 30, 31] [2] sb_25e4c4fd82 sb_e40585b7f7 (by decide +kernel) (by decide +kernel) hk1 ht hFc hB
    have hP : va_P G.1 vwCl (OW G ho pn pa pf ae x3 ++ LW gL jw o ++ RW G pn adn r4 ++ RW G pa ada ra5 ++ FW G pf adf f6) H1 := hP.sub [1, 2, 0, 3, 4, 5, 6, 7, 8, 9, 10, 11, 12, 13, 14, 15, 16, 17, 18, 19, 20, 21, 22, 23, 24, 25, 26, 27, 28, 29, 30, 31] sb_13d50e5728
    have hD : va_D A (OW G ho pn pa pf ae x3 ++ LW gL jw o ++ RW G pn adn r4 ++ RW G pa ada ra5 ++ FW G pf adf f6) := hD.sub [1, 2, 0, 3, 4, 5, 6, 7, 8, 9, 10, 11, 12, 13, 14, 15, 16, 17, 18, 19, 20, 21, 22, 23, 24, 25, 26, 27, 28, 29, 30, 31] (by decide +kernel) sb_eddd18e5dc
    clear hB hk1 hFc ht hz1 hvm
    generalize H1 = H at hP hS ⊢
    obtain ⟨z7, rfl, w8⟩ := hw
    refine mf_i2lw hx hb dL_neck_7 ?_
    refine va_last hx hb hK2 hP hD hS 2 2 rfl rfl (i := iI 0) (x := lI (wrI (z7))) (iI_in (z := 0) (by decide) (by decide) (by decide)) dL_neck_8 (fun H locs hP hD hS => ?_)
    obtain ⟨ov9, eov9⟩ : ∃ z9 : Nat → Int64, z9 = vp_updL o (iI 0).toNatClampNeg (lI (wrI (z7))) := ⟨_, rfl⟩
    have hP : va_P G.1 vwCl (OW G ho pn pa pf ae x3 ++ LW gL jw ov9 ++ RW G pn adn r4 ++ RW G pa ada ra5 ++ FW G pf adf f6) H := by rw [eov9]; exact hP
    have hD : va_D A (OW G ho pn pa pf ae x3 ++ LW gL jw ov9 ++ RW G pn adn r4 ++ RW G pa ada ra5 ++ FW G pf adf f6) := by rw [eov9]; exact hD
    have f0_ov9 : ov9 0 = lI (wrI (z7)) := by rw [eov9]; exact if_pos (by decide)
    refine lv_goto (tgt := 15) hx hb dL_neck_9 (by decide) ?_
    refine mf_iconst hx hb dL_neck_15 ?_
    refine vx_ret ?_
    exact W.iret hx hb hr (fun t ht hW => ⟨⟨_, (x3, ov9, r4, ra5, f6), rfl, ⟨_, rfl, by (try dsimp only); exact ⟨w8.1.symm, w8.2.1, fun _ => ⟨_, f0_ov9, w8.2.2⟩, fun z9 => absurd w8.1 z9⟩⟩, by rw [ht]; exact hP, hD⟩, hS.F ht⟩) hS.2.2 dL_neck_16
set_option maxHeartbeats 4000000 in
set_option maxRecDepth 100000 in
theorem c_L_addFarm (l : Launch) (hl9 : l.stackTraces = false) (G : mf_G) (gL : ClassId) (ho pn pa pf : Nat) (ae : Nat) (x : mf_V) (jw : Nat) (o : Nat → Int64) (adn : Nat → Nat) (r : mf_V) (ada : Nat → Nat) (ra : mf_V) (adf : Nat → Nat) (f : mf_V)  (xv : Int) (yv : Int) (wv : Int) (dv : Int) (hxv : i32 xv) (hyv : i32 yv) (hwv : i32 wv) (hdv : i32 dv) (okx : rOK xlo xhi x) (ok : rOK rlo rhi r) (okra : rOK rlo rhi ra) (okf : rOK flo fhi f) (sz : Nat) : vx_Met l yL_addFarm wsL_addFarm ({ frames := 7, cells := 1, slots := 6, locals := 114 }) (va_Pc [.ref ho, .int (iI (xv)), .int (iI (yv)), .int (iI (wv)), .int (iI (dv)), .ref jw] (WrPy G gL (OW G ho pn pa pf ae x ++ LW gL jw o ++ RW G pn adn r ++ RW G pa ada ra ++ FW G pf adf f) sz)) (va_Qi (fun q9 (u : mf_V × (Nat → Int64) × mf_V × mf_V × mf_V) => ∃ z : Int, q9 = iI z ∧ z = kAdd f xv yv wv dv ∧ (rOK xlo xhi u.1 ∧ rOK rlo rhi u.2.2.1 ∧ rOK rlo rhi u.2.2.2.1 ∧ rOK flo fhi u.2.2.2.2) ∧ (kAdd f xv yv wv dv = 0 → ∃ v : Int, u.2.1 0 = lI (wrI v) ∧ AddP f u.2.2.2.2 xv yv wv dv ∧ u.2.2.1 = r ∧ v = f 4 0) ∧ (¬ kAdd f xv yv wv dv = 0 → u.1 = x ∧ u.2.2.1 = r ∧ u.2.2.2.1 = ra ∧ u.2.2.2.2 = f)) (fun (u : mf_V × (Nat → Int64) × mf_V × mf_V × mf_V) t => WrQ G (va_A (OW G ho pn pa pf ae x ++ LW gL jw o ++ RW G pn adn r ++ RW G pa ada ra ++ FW G pf adf f) sz) (OW G ho pn pa pf ae (u.1) ++ LW gL jw (u.2.1) ++ RW G pn adn (u.2.2.1) ++ RW G pa ada (u.2.2.2.1) ++ FW G pf adf (u.2.2.2.2)) t) (va_A (OW G ho pn pa pf ae x ++ LW gL jw o ++ RW G pn adn r ++ RW G pa ada ra ++ FW G pf adf f) sz)) (vx_X (fun _ : Unit => False) (fun _ _ _ => False) (va_A (OW G ho pn pa pf ae x ++ LW gL jw o ++ RW G pn adn r ++ RW G pa ada ra ++ FW G pf adf f) sz)) 1 6 (va_A (OW G ho pn pa pf ae x ++ LW gL jw o ++ RW G pn adn r ++ RW G pa ada ra ++ FW G pf adf f) sz) := by
  refine vx_ofWH (cc := cL_addFarm) (maxL := 7) (ret := (some .int)) (hh := [(0, 14, 17, 15), (0, 14, 21, 34)]) (by decide +kernel) rfl ?_
  intro p e s m args below meth c s₁ B hml hv
  obtain ⟨rfl, hsz, hP, hK, hD0, hN, hSX, hCX, hZ, hNX⟩ := hv
  have hx := B.exec
  have hb := B.bytes
  have hr := B.returns
  have hts := atoms_spec (ws := wsL_addFarm) B.pre
  have hown : s.vm.findClass RL = some m.cls := findClass_of_methodNamed B.named
  have hlocks := B.notSynchronized
  have hK2 := hK
  have hK := hK2.sub (tys' := mf_ty G) [0, 1] rfl
  have htab := vx_table (x := yL_addFarm) B (hts (.codeWith yL_addFarm cL_addFarm 7 (some .int) [(0, 14, 17, 15), (0, 14, 21, 34)]) List.mem_cons_self)
  subst hsz
  have hD := hD0.self (sz := s.heap.size)
  generalize hAe : va_A (OW G ho pn pa pf ae x ++ LW gL jw o ++ RW G pn adn r ++ RW G pa ada ra ++ FW G pf adf f) s.heap.size = A at hD hZ ⊢
  have hA : ∀ q : Nat, s.heap.size ≤ q → A q := fun q h => by rw [← hAe]; exact Or.inr h
  have hS : va_S A s.heap s.heap [] := va_S.rf
  have hl := lv_entry ([.ref ho, .int (iI (xv)), .int (iI (yv)), .int (iI (wv)), .int (iI (dv)), .ref jw]) (n := 7) (Nat.le_of_ble_eq_true rfl)
  rw [lg_entry_eq]
  generalize (lg_sl ([.ref ho, .int (iI (xv)), .int (iI (yv)), .int (iI (wv)), .int (iI (dv)), .ref jw]) ++ List.replicate (7 - (lg_sl ([.ref ho, .int (iI (xv)), .int (iI (yv)), .int (iI (wv)), .int (iI (dv)), .ref jw])).length) Slot.unset).toArray = ls at hl ⊢
  have hl : lv_has ls 7 [(0, .ref ho), (1, .int (iI (xv))), (2, .int (iI (yv))), (3, .int (iI (wv))), (4, .int (iI (dv))), (5, .ref jw)] := hl
  have hxv1 := hxv.1
  have hxv2 := hxv.2
  have hyv1 := hyv.1
  have hyv2 := hyv.2
  have hwv1 := hwv.1
  have hwv2 := hwv.2
  have hdv1 := hdv.1
  have hdv2 := hdv.2
  have okLr : (0 : Int) ≤ r 7 0 ∧ r 7 0 ≤ 150 := ok 7 0
  have okLra : (0 : Int) ≤ ra 7 0 ∧ ra 7 0 ≤ 150 := okra 7 0
  refine lv_aload hx hb dL_addFarm_0 (lv_at hl 5 rfl) ?_
  refine mf_iconst hx hb dL_addFarm_2 ?_
  refine lv_aload_n hx hb dL_addFarm_3 rfl (lv_at hl 0 rfl) ?_
  refine lv_iload_n hx hb dL_addFarm_4 rfl (lv_at hl 1 rfl) ?_
  refine lv_iload_n hx hb dL_addFarm_5 rfl (lv_at hl 2 rfl) ?_
  refine lv_iload_n hx hb dL_addFarm_6 rfl (lv_at hl 3 rfl) ?_
  refine lv_iload hx hb dL_addFarm_7 (lv_at hl 4 rfl) ?_
  have hFc := va_free (wc := OW G ho pn pa pf ae x ++ RW G pn adn r ++ RW G pa ada ra ++ FW G pf adf f) hD hS hA [0, 1, 3, 4, 5, 6, 7, 8, 9, 10, 11, 12, 13, 14, 15, 16, 17, 18, 19, 20, 21, 22, 23, 24, 25, 26, 27, 28, 29, 30, 31] sb_25e4c4fd82
  refine vx_calli (vx_runV (As := [.int (iI (xv)), .int (iI (yv)), .int (iI (wv)), .int (iI (dv))]) (rest := [.int (iI (0)), .ref jw]) ⟨hx, hb, hml, hown, hts⟩ (c_X2_addFarm l hl9 G ho pn pa pf ae x adn r ada ra adf f (xv) (yv) (wv) (dv) (i32_mk (by omega) (by omega)) (i32_mk (by omega) (by omega)) (i32_mk (by omega) (by omega)) (i32_mk (by omega) (by omega)) (by assumption) (by assumption) (by assumption) (by assumption) _) (cwV 4 hts gL_addFarm_X2_addFarm rfl rfl rfl (by decide +kernel) ⟨Nat.le_of_ble_eq_true rfl, Nat.le_of_ble_eq_true rfl⟩) (wrVx (wc := OW G ho pn pa pf ae x ++ RW G pn adn r ++ RW G pa ada ra ++ FW G pf adf f) hSX hCX hZ hS hFc hK hP hD hN [0, 1, 3, 4, 5, 6, 7, 8, 9, 10, 11, 12, 13, 14, 15, 16, 17, 18, 19, 20, 21, 22, 23, 24, 25, 26, 27, 28, 29, 30, 31] (by decide +kernel) sb_f976e10569 sb_25e4c4fd82 (ci := 2) rfl rfl) rfl rfl hl.1 rfl (lv_room (Nat.le_of_ble_eq_true rfl)) dL_addFarm_9 ⟨Nat.le_of_ble_eq_true rfl, Nat.le_of_ble_eq_true rfl⟩) hS (fun q _ h => hFc q h) hFc (fun q _ h => hFc q h) (fun E ce q9 _ t H1 locs ht hvm _ hB hz1 hk1 hS hce hcv hcl => ?_) (fun q1 u2 t H1 locs ht hvm hw hB hz1 hk1 hS => ?_)
  · skip
    obtain ⟨hxp, hB⟩ := hB
    obtain ⟨hP, hD⟩ := wrJ2 (ws := OW G ho pn pa pf ae x ++ LW gL jw o ++ RW G pn adn r ++ RW G pa ada ra ++ FW G pf adf f) (wc := OW G ho pn pa pf ae x ++ RW G pn adn r ++ RW G pa ada ra ++ FW G pf adf f) (wr := LW gL jw o) (w1 := OW G ho pn pa pf ae x ++ RW G pn adn r ++ RW G pa ada ra ++ FW G pf adf f) hP hD [0, 1, 3, 4, 5, 6, 7, 8, 9, 10, 11, 12, 13, 14, 15, 16, 17, 18, 19, 20, 21, 22, 23, 24, 25, 26, 27, 28, 29, 30, 31] [2] sb_25e4c4fd82 sb_e40585b7f7 (by decide +kernel) (by decide +kernel) hk1 ht hFc hB
    have hP : va_P G.1 vwCl (OW G ho pn pa pf ae x ++ LW gL jw o ++ RW G pn adn r ++ RW G pa ada ra ++ FW G pf adf f) H1 := hP.sub [1, 2, 0, 3, 4, 5, 6, 7, 8, 9, 10, 11, 12, 13, 14, 15, 16, 17, 18, 19, 20, 21, 22, 23, 24, 25, 26, 27, 28, 29, 30, 31] sb_13d50e5728
    have hD : va_D A (OW G ho pn pa pf ae x ++ LW gL jw o ++ RW G pn adn r ++ RW G pa ada ra ++ FW G pf adf f) := hD.sub [1, 2, 0, 3, 4, 5, 6, 7, 8, 9, 10, 11, 12, 13, 14, 15, 16, 17, 18, 19, 20, 21, 22, 23, 24, 25, 26, 27, 28, 29, 30, 31] (by decide +kernel) sb_eddd18e5dc
    clear hB hk1 hFc ht hz1 hvm
    generalize H1 = H at hP hS hce ⊢
    rcases hxp with ⟨rfl, hk9⟩ | ⟨rfl, hk9⟩
    · skip
      refine vx_catch (name := xIA) hown [] ⟨0, 14, 17, 15⟩ [⟨0, 14, 21, 34⟩] htab (fun z hz => by cases hz) (by decide) (by decide) (hts (.classLink RL 15 "java/lang/IllegalArgumentException") (List.mem_of_getElem? (i := 1) rfl)) (va_Nw.use rfl hCX.2.1) hce hcv hcl ?_
      refine lv_astore (lv' := [(6, .ref q9), (0, .ref ho), (1, .int (iI (xv))), (2, .int (iI (yv))), (3, .int (iI (wv))), (4, .int (iI (dv))), (5, .ref jw)]) hx hb dL_addFarm_17 hl (by decide) rfl (fun ls hl => ?_)
      refine mf_iconst hx hb dL_addFarm_19 ?_
      refine vx_ret ?_
      exact W.iret hx hb hr (fun t ht hW => ⟨⟨_, (x, o, r, ra, f), rfl, ⟨_, rfl, by (try dsimp only); exact ⟨hk9.symm, ⟨okx, ok, okra, okf⟩, fun z9 => absurd (hk9.symm.trans z9) (by decide), fun _ => ⟨rfl, rfl, rfl, rfl⟩⟩⟩, by rw [ht]; exact hP, hD⟩, hS.F ht⟩) hS.2.2 dL_addFarm_20
    · skip
      refine vx_catch (name := xIS) hown [⟨0, 14, 17, 15⟩] ⟨0, 14, 21, 34⟩ [] htab (fun z hz => by (rcases List.mem_cons.mp hz with rfl | hz; exact Or.inr ⟨by decide, _, (hts (.classLink RL 15 "java/lang/IllegalArgumentException") (List.mem_of_getElem? (i := 1) rfl)), hNX.2.2.1⟩); cases hz) (by decide) (by decide) (hts (.classLink RL 34 "java/lang/IllegalStateException") (List.mem_of_getElem? (i := 2) rfl)) (va_Nw.use rfl hCX.2.2.1) hce hcv hcl ?_
      refine lv_astore (lv' := [(6, .ref q9), (0, .ref ho), (1, .int (iI (xv))), (2, .int (iI (yv))), (3, .int (iI (wv))), (4, .int (iI (dv))), (5, .ref jw)]) hx hb dL_addFarm_21 hl (by decide) rfl (fun ls hl => ?_)
      refine mf_iconst hx hb dL_addFarm_23 ?_
      refine vx_ret ?_
      exact W.iret hx hb hr (fun t ht hW => ⟨⟨_, (x, o, r, ra, f), rfl, ⟨_, rfl, by (try dsimp only); exact ⟨hk9.symm, ⟨okx, ok, okra, okf⟩, fun z9 => absurd (hk9.symm.trans z9) (by decide), fun _ => ⟨rfl, rfl, rfl, rfl⟩⟩⟩, by rw [ht]; exact hP, hD⟩, hS.F ht⟩) hS.2.2 dL_addFarm_24
  · skip
    obtain ⟨x3, r4, ra5, f6⟩ := u2
    try dsimp only at hw hB
    obtain ⟨hP, hD⟩ := wrJ2 (ws := OW G ho pn pa pf ae x ++ LW gL jw o ++ RW G pn adn r ++ RW G pa ada ra ++ FW G pf adf f) (wc := OW G ho pn pa pf ae x ++ RW G pn adn r ++ RW G pa ada ra ++ FW G pf adf f) (wr := LW gL jw o) (w1 := OW G ho pn pa pf ae x3 ++ RW G pn adn r4 ++ RW G pa ada ra5 ++ FW G pf adf f6) hP hD [0, 1, 3, 4, 5, 6, 7, 8, 9, 10, 11, 12, 13, 14, 15, 16, 17, 18, 19, 20, 21, 22, 23, 24, 25, 26, 27, 28, 29, 30, 31] [2] sb_25e4c4fd82 sb_e40585b7f7 (by decide +kernel) (by decide +kernel) hk1 ht hFc hB
    have hP : va_P G.1 vwCl (OW G ho pn pa pf ae x3 ++ LW gL jw o ++ RW G pn adn r4 ++ RW G pa ada ra5 ++ FW G pf adf f6) H1 := hP.sub [1, 2, 0, 3, 4, 5, 6, 7, 8, 9, 10, 11, 12, 13, 14, 15, 16, 17, 18, 19, 20, 21, 22, 23, 24, 25, 26, 27, 28, 29, 30, 31] sb_13d50e5728
    have hD : va_D A (OW G ho pn pa pf ae x3 ++ LW gL jw o ++ RW G pn adn r4 ++ RW G pa ada ra5 ++ FW G pf adf f6) := hD.sub [1, 2, 0, 3, 4, 5, 6, 7, 8, 9, 10, 11, 12, 13, 14, 15, 16, 17, 18, 19, 20, 21, 22, 23, 24, 25, 26, 27, 28, 29, 30, 31] (by decide +kernel) sb_eddd18e5dc
    clear hB hk1 hFc ht hz1 hvm
    generalize H1 = H at hP hS ⊢
    obtain ⟨z7, rfl, w8⟩ := hw
    refine mf_i2lw hx hb dL_addFarm_12 ?_
    refine va_last hx hb hK2 hP hD hS 2 2 rfl rfl (i := iI 0) (x := lI (wrI (z7))) (iI_in (z := 0) (by decide) (by decide) (by decide)) dL_addFarm_13 (fun H locs hP hD hS => ?_)
    obtain ⟨ov9, eov9⟩ : ∃ z9 : Nat → Int64, z9 = vp_updL o (iI 0).toNatClampNeg (lI (wrI (z7))) := ⟨_, rfl⟩
    have hP : va_P G.1 vwCl (OW G ho pn pa pf ae x3 ++ LW gL jw ov9 ++ RW G pn adn r4 ++ RW G pa ada ra5 ++ FW G pf adf f6) H := by rw [eov9]; exact hP
    have hD : va_D A (OW G ho pn pa pf ae x3 ++ LW gL jw ov9 ++ RW G pn adn r4 ++ RW G pa ada ra5 ++ FW G pf adf f6) := by rw [eov9]; exact hD
    have f0_ov9 : ov9 0 = lI (wrI (z7)) := by rw [eov9]; exact if_pos (by decide)
    refine lv_goto (tgt := 25) hx hb dL_addFarm_14 (by decide) ?_
    refine mf_iconst hx hb dL_addFarm_25 ?_
    refine vx_ret ?_
    exact W.iret hx hb hr (fun t ht hW => ⟨⟨_, (x3, ov9, r4, ra5, f6), rfl, ⟨_, rfl, by (try dsimp only); exact ⟨w8.1.symm, w8.2.1, fun _ => ⟨_, f0_ov9, w8.2.2⟩, fun z9 => absurd w8.1 z9⟩⟩, by rw [ht]; exact hP, hD⟩, hS.F ht⟩) hS.2.2 dL_addFarm_26
set_option maxHeartbeats 4000000 in
set_option maxRecDepth 100000 in
theorem c_L_farm (l : Launch) (hl9 : l.stackTraces = false) (G : mf_G) (gL : ClassId) (ho pn pa pf : Nat) (ae : Nat) (x : mf_V) (jw : Nat) (o : Nat → Int64) (adn : Nat → Nat) (r : mf_V) (ada : Nat → Nat) (ra : mf_V) (adf : Nat → Nat) (f : mf_V)  (kv : Int) (wv : Int) (hkv : i32 kv) (hwv : i32 wv) (okx : rOK xlo xhi x) (ok : rOK rlo rhi r) (okra : rOK rlo rhi ra) (okf : rOK flo fhi f) (sz : Nat) : vx_Met l yL_farm wsL_farm ({ frames := 7, cells := 1, slots := 6, locals := 114 }) (va_Pc [.ref ho, .int (iI (kv)), .int (iI (wv)), .ref jw] (WrPy G gL (OW G ho pn pa pf ae x ++ LW gL jw o ++ RW G pn adn r ++ RW G pa ada ra ++ FW G pf adf f) sz)) (va_Qi (fun q9 (u : mf_V × (Nat → Int64) × mf_V × mf_V × mf_V) => ∃ z : Int, q9 = iI z ∧ z = kFarm f kv wv ∧ (rOK xlo xhi u.1 ∧ rOK rlo rhi u.2.2.1 ∧ rOK rlo rhi u.2.2.2.1 ∧ rOK flo fhi u.2.2.2.2) ∧ (kFarm f kv wv = 0 → ∃ v : Int, u.2.1 0 = lI (wrI v) ∧ u.2.2.1 = r ∧ u.2.2.2.2 = f ∧ v = cof f r kv wv) ∧ (¬ kFarm f kv wv = 0 → u.1 = x ∧ u.2.2.1 = r ∧ u.2.2.2.1 = ra ∧ u.2.2.2.2 = f)) (fun (u : mf_V × (Nat → Int64) × mf_V × mf_V × mf_V) t => WrQ G (va_A (OW G ho pn pa pf ae x ++ LW gL jw o ++ RW G pn adn r ++ RW G pa ada ra ++ FW G pf adf f) sz) (OW G ho pn pa pf ae (u.1) ++ LW gL jw (u.2.1) ++ RW G pn adn (u.2.2.1) ++ RW G pa ada (u.2.2.2.1) ++ FW G pf adf (u.2.2.2.2)) t) (va_A (OW G ho pn pa pf ae x ++ LW gL jw o ++ RW G pn adn r ++ RW G pa ada ra ++ FW G pf adf f) sz)) (vx_X (fun _ : Unit => False) (fun _ _ _ => False) (va_A (OW G ho pn pa pf ae x ++ LW gL jw o ++ RW G pn adn r ++ RW G pa ada ra ++ FW G pf adf f) sz)) 1 6 (va_A (OW G ho pn pa pf ae x ++ LW gL jw o ++ RW G pn adn r ++ RW G pa ada ra ++ FW G pf adf f) sz) := by
  refine vx_ofWH (cc := cL_farm) (maxL := 5) (ret := (some .int)) (hh := [(0, 10, 13, 13)]) (by decide +kernel) rfl ?_
  intro p e s m args below meth c s₁ B hml hv
  obtain ⟨rfl, hsz, hP, hK, hD0, hN, hSX, hCX, hZ, hNX⟩ := hv
  have hx := B.exec
  have hb := B.bytes
  have hr := B.returns
  have hts := atoms_spec (ws := wsL_farm) B.pre
  have hown : s.vm.findClass RL = some m.cls := findClass_of_methodNamed B.named
  have hlocks := B.notSynchronized
  have hK2 := hK
  have hK := hK2.sub (tys' := mf_ty G) [0, 1] rfl
  have htab := vx_table (x := yL_farm) B (hts (.codeWith yL_farm cL_farm 5 (some .int) [(0, 10, 13, 13)]) List.mem_cons_self)
  subst hsz
  have hD := hD0.self (sz := s.heap.size)
  generalize hAe : va_A (OW G ho pn pa pf ae x ++ LW gL jw o ++ RW G pn adn r ++ RW G pa ada ra ++ FW G pf adf f) s.heap.size = A at hD hZ ⊢
  have hA : ∀ q : Nat, s.heap.size ≤ q → A q := fun q h => by rw [← hAe]; exact Or.inr h
  have hS : va_S A s.heap s.heap [] := va_S.rf
  have hl := lv_entry ([.ref ho, .int (iI (kv)), .int (iI (wv)), .ref jw]) (n := 5) (Nat.le_of_ble_eq_true rfl)
  rw [lg_entry_eq]
  generalize (lg_sl ([.ref ho, .int (iI (kv)), .int (iI (wv)), .ref jw]) ++ List.replicate (5 - (lg_sl ([.ref ho, .int (iI (kv)), .int (iI (wv)), .ref jw])).length) Slot.unset).toArray = ls at hl ⊢
  have hl : lv_has ls 5 [(0, .ref ho), (1, .int (iI (kv))), (2, .int (iI (wv))), (3, .ref jw)] := hl
  have hkv1 := hkv.1
  have hkv2 := hkv.2
  have hwv1 := hwv.1
  have hwv2 := hwv.2
  have okLr : (0 : Int) ≤ r 7 0 ∧ r 7 0 ≤ 150 := ok 7 0
  have okLra : (0 : Int) ≤ ra 7 0 ∧ ra 7 0 ≤ 150 := okra 7 0
  refine lv_aload_n hx hb dL_farm_0 rfl (lv_at hl 3 rfl) ?_
  refine mf_iconst hx hb dL_farm_1 ?_
  refine lv_aload_n hx hb dL_farm_2 rfl (lv_at hl 0 rfl) ?_
  refine lv_iload_n hx hb dL_farm_3 rfl (lv_at hl 1 rfl) ?_
  refine lv_iload_n hx hb dL_farm_4 rfl (lv_at hl 2 rfl) ?_
  have hFc := va_free (wc := OW G ho pn pa pf ae x ++ RW G pn adn r ++ RW G pa ada ra ++ FW G pf adf f) hD hS hA [0, 1, 3, 4, 5, 6, 7, 8, 9, 10, 11, 12, 13, 14, 15, 16, 17, 18, 19, 20, 21, 22, 23, 24, 25, 26, 27, 28, 29, 30, 31] sb_25e4c4fd82
  refine vx_calli (vx_runV (As := [.int (iI (kv)), .int (iI (wv))]) (rest := [.int (iI (0)), .ref jw]) ⟨hx, hb, hml, hown, hts⟩ (c_X2_farm l hl9 G ho pn pa pf ae x adn r ada ra adf f (kv) (wv) (i32_mk (by omega) (by omega)) (i32_mk (by omega) (by omega)) (by assumption) (by assumption) (by assumption) (by assumption) _) (cwV 2 hts gL_farm_X2_farm rfl rfl rfl (by decide +kernel) ⟨Nat.le_of_ble_eq_true rfl, Nat.le_of_ble_eq_true rfl⟩) (wrVx (wc := OW G ho pn pa pf ae x ++ RW G pn adn r ++ RW G pa ada ra ++ FW G pf adf f) hSX hCX hZ hS hFc hK hP hD hN [0, 1, 3, 4, 5, 6, 7, 8, 9, 10, 11, 12, 13, 14, 15, 16, 17, 18, 19, 20, 21, 22, 23, 24, 25, 26, 27, 28, 29, 30, 31] (by decide +kernel) sb_f976e10569 sb_25e4c4fd82 (ci := 2) rfl rfl) rfl rfl hl.1 rfl (lv_room (Nat.le_of_ble_eq_true rfl)) dL_farm_5 ⟨Nat.le_of_ble_eq_true rfl, Nat.le_of_ble_eq_true rfl⟩) hS (fun q _ h => hFc q h) hFc (fun q _ h => hFc q h) (fun E ce q9 _ t H1 locs ht hvm _ hB hz1 hk1 hS hce hcv hcl => ?_) (fun q1 u2 t H1 locs ht hvm hw hB hz1 hk1 hS => ?_)
  · skip
    obtain ⟨hxp, hB⟩ := hB
    obtain ⟨hP, hD⟩ := wrJ2 (ws := OW G ho pn pa pf ae x ++ LW gL jw o ++ RW G pn adn r ++ RW G pa ada ra ++ FW G pf adf f) (wc := OW G ho pn pa pf ae x ++ RW G pn adn r ++ RW G pa ada ra ++ FW G pf adf f) (wr := LW gL jw o) (w1 := OW G ho pn pa pf ae x ++ RW G pn adn r ++ RW G pa ada ra ++ FW G pf adf f) hP hD [0, 1, 3, 4, 5, 6, 7, 8, 9, 10, 11, 12, 13, 14, 15, 16, 17, 18, 19, 20, 21, 22, 23, 24, 25, 26, 27, 28, 29, 30, 31] [2] sb_25e4c4fd82 sb_e40585b7f7 (by decide +kernel) (by decide +kernel) hk1 ht hFc hB
    have hP : va_P G.1 vwCl (OW G ho pn pa pf ae x ++ LW gL jw o ++ RW G pn adn r ++ RW G pa ada ra ++ FW G pf adf f) H1 := hP.sub [1, 2, 0, 3, 4, 5, 6, 7, 8, 9, 10, 11, 12, 13, 14, 15, 16, 17, 18, 19, 20, 21, 22, 23, 24, 25, 26, 27, 28, 29, 30, 31] sb_13d50e5728
    have hD : va_D A (OW G ho pn pa pf ae x ++ LW gL jw o ++ RW G pn adn r ++ RW G pa ada ra ++ FW G pf adf f) := hD.sub [1, 2, 0, 3, 4, 5, 6, 7, 8, 9, 10, 11, 12, 13, 14, 15, 16, 17, 18, 19, 20, 21, 22, 23, 24, 25, 26, 27, 28, 29, 30, 31] (by decide +kernel) sb_eddd18e5dc
    clear hB hk1 hFc ht hz1 hvm
    generalize H1 = H at hP hS hce ⊢
    rcases hxp with ⟨rfl, hk9⟩
    · skip
      refine vx_catch (name := xIO) hown [] ⟨0, 10, 13, 13⟩ [] htab (fun z hz => by cases hz) (by decide) (by decide) (hts (.classLink RL 13 "java/lang/IndexOutOfBoundsException") (List.mem_of_getElem? (i := 1) rfl)) (va_Nw.use rfl hCX.1) hce hcv hcl ?_
      refine lv_astore (lv' := [(4, .ref q9), (0, .ref ho), (1, .int (iI (kv))), (2, .int (iI (wv))), (3, .ref jw)]) hx hb dL_farm_13 hl (by decide) rfl (fun ls hl => ?_)
      refine mf_iconst hx hb dL_farm_15 ?_
      refine vx_ret ?_
      exact W.iret hx hb hr (fun t ht hW => ⟨⟨_, (x, o, r, ra, f), rfl, ⟨_, rfl, by (try dsimp only); exact ⟨hk9.symm, ⟨okx, ok, okra, okf⟩, fun z9 => absurd (hk9.symm.trans z9) (by decide), fun _ => ⟨rfl, rfl, rfl, rfl⟩⟩⟩, by rw [ht]; exact hP, hD⟩, hS.F ht⟩) hS.2.2 dL_farm_16
  · skip
    obtain ⟨x3, r4, ra5, f6⟩ := u2
    try dsimp only at hw hB
    obtain ⟨hP, hD⟩ := wrJ2 (ws := OW G ho pn pa pf ae x ++ LW gL jw o ++ RW G pn adn r ++ RW G pa ada ra ++ FW G pf adf f) (wc := OW G ho pn pa pf ae x ++ RW G pn adn r ++ RW G pa ada ra ++ FW G pf adf f) (wr := LW gL jw o) (w1 := OW G ho pn pa pf ae x3 ++ RW G pn adn r4 ++ RW G pa ada ra5 ++ FW G pf adf f6) hP hD [0, 1, 3, 4, 5, 6, 7, 8, 9, 10, 11, 12, 13, 14, 15, 16, 17, 18, 19, 20, 21, 22, 23, 24, 25, 26, 27, 28, 29, 30, 31] [2] sb_25e4c4fd82 sb_e40585b7f7 (by decide +kernel) (by decide +kernel) hk1 ht hFc hB
    have hP : va_P G.1 vwCl (OW G ho pn pa pf ae x3 ++ LW gL jw o ++ RW G pn adn r4 ++ RW G pa ada ra5 ++ FW G pf adf f6) H1 := hP.sub [1, 2, 0, 3, 4, 5, 6, 7, 8, 9, 10, 11, 12, 13, 14, 15, 16, 17, 18, 19, 20, 21, 22, 23, 24, 25, 26, 27, 28, 29, 30, 31] sb_13d50e5728
    have hD : va_D A (OW G ho pn pa pf ae x3 ++ LW gL jw o ++ RW G pn adn r4 ++ RW G pa ada ra5 ++ FW G pf adf f6) := hD.sub [1, 2, 0, 3, 4, 5, 6, 7, 8, 9, 10, 11, 12, 13, 14, 15, 16, 17, 18, 19, 20, 21, 22, 23, 24, 25, 26, 27, 28, 29, 30, 31] (by decide +kernel) sb_eddd18e5dc
    clear hB hk1 hFc ht hz1 hvm
    generalize H1 = H at hP hS ⊢
    obtain ⟨z7, rfl, w8⟩ := hw
    refine mf_i2lw hx hb dL_farm_8 ?_
    refine va_last hx hb hK2 hP hD hS 2 2 rfl rfl (i := iI 0) (x := lI (wrI (z7))) (iI_in (z := 0) (by decide) (by decide) (by decide)) dL_farm_9 (fun H locs hP hD hS => ?_)
    obtain ⟨ov9, eov9⟩ : ∃ z9 : Nat → Int64, z9 = vp_updL o (iI 0).toNatClampNeg (lI (wrI (z7))) := ⟨_, rfl⟩
    have hP : va_P G.1 vwCl (OW G ho pn pa pf ae x3 ++ LW gL jw ov9 ++ RW G pn adn r4 ++ RW G pa ada ra5 ++ FW G pf adf f6) H := by rw [eov9]; exact hP
    have hD : va_D A (OW G ho pn pa pf ae x3 ++ LW gL jw ov9 ++ RW G pn adn r4 ++ RW G pa ada ra5 ++ FW G pf adf f6) := by rw [eov9]; exact hD
    have f0_ov9 : ov9 0 = lI (wrI (z7)) := by rw [eov9]; exact if_pos (by decide)
    refine lv_goto (tgt := 17) hx hb dL_farm_10 (by decide) ?_
    refine mf_iconst hx hb dL_farm_17 ?_
    refine vx_ret ?_
    exact W.iret hx hb hr (fun t ht hW => ⟨⟨_, (x3, ov9, r4, ra5, f6), rfl, ⟨_, rfl, by (try dsimp only); exact ⟨w8.1.symm, w8.2.1, fun _ => ⟨_, f0_ov9, w8.2.2⟩, fun z9 => absurd w8.1 z9⟩⟩, by rw [ht]; exact hP, hD⟩, hS.F ht⟩) hS.2.2 dL_farm_18
set_option maxHeartbeats 4000000 in
set_option maxRecDepth 100000 in
theorem c_L_pass (l : Launch) (hl9 : l.stackTraces = false) (G : mf_G) (gL : ClassId) (ho pn pa pf : Nat) (ae : Nat) (x : mf_V) (jw : Nat) (o : Nat → Int64) (adn : Nat → Nat) (r : mf_V) (ada : Nat → Nat) (ra : mf_V) (adf : Nat → Nat) (f : mf_V)  (yv : Int) (Yv : Int) (hyv : i32 yv) (okx : rOK xlo xhi x) (ok : rOK rlo rhi r) (okra : rOK rlo rhi ra) (okf : rOK flo fhi f) (hI : RInv r) (hB : bdP r Yv) (hYv : 0 ≤ Yv ∧ Yv + 100 ≤ 60000) (sz : Nat) : vx_Met l yL_pass wsL_pass ({ frames := 7, cells := 1, slots := 6, locals := 164 }) (va_Pc [.ref ho, .int (iI (yv)), .ref jw] (WrPy G gL (OW G ho pn pa pf ae x ++ LW gL jw o ++ RW G pn adn r ++ RW G pa ada ra ++ FW G pf adf f) sz)) (va_Qi (fun q9 (u : mf_V × (Nat → Int64) × mf_V × mf_V × mf_V) => ∃ z : Int, q9 = iI z ∧ z = kRng 1 100 yv ∧ (rOK xlo xhi u.1 ∧ rOK rlo rhi u.2.2.1 ∧ rOK rlo rhi u.2.2.2.1 ∧ rOK flo fhi u.2.2.2.2) ∧ (kRng 1 100 yv = 0 → ∃ v : Int, u.2.1 0 = lI (wrI v) ∧ YearsR yv r u.2.2.1 v ∧ RInv u.2.2.1 ∧ bdP u.2.2.1 (Yv + yv) ∧ u.2.2.2.2 = f) ∧ (¬ kRng 1 100 yv = 0 → u.1 = x ∧ u.2.2.1 = r ∧ u.2.2.2.1 = ra ∧ u.2.2.2.2 = f)) (fun (u : mf_V × (Nat → Int64) × mf_V × mf_V × mf_V) t => WrQ G (va_A (OW G ho pn pa pf ae x ++ LW gL jw o ++ RW G pn adn r ++ RW G pa ada ra ++ FW G pf adf f) sz) (OW G ho pn pa pf ae (u.1) ++ LW gL jw (u.2.1) ++ RW G pn adn (u.2.2.1) ++ RW G pa ada (u.2.2.2.1) ++ FW G pf adf (u.2.2.2.2)) t) (va_A (OW G ho pn pa pf ae x ++ LW gL jw o ++ RW G pn adn r ++ RW G pa ada ra ++ FW G pf adf f) sz)) (vx_X (fun _ : Unit => False) (fun _ _ _ => False) (va_A (OW G ho pn pa pf ae x ++ LW gL jw o ++ RW G pn adn r ++ RW G pa ada ra ++ FW G pf adf f) sz)) 1 6 (va_A (OW G ho pn pa pf ae x ++ LW gL jw o ++ RW G pn adn r ++ RW G pa ada ra ++ FW G pf adf f) sz) := by
  refine vx_ofWH (cc := cL_pass) (maxL := 4) (ret := (some .int)) (hh := [(0, 9, 12, 15)]) (by decide +kernel) rfl ?_
  intro p e s m args below meth c s₁ B hml hv
  obtain ⟨rfl, hsz, hP, hK, hD0, hN, hSX, hCX, hZ, hNX⟩ := hv
  have hx := B.exec
  have hb := B.bytes
  have hr := B.returns
  have hts := atoms_spec (ws := wsL_pass) B.pre
  have hown : s.vm.findClass RL = some m.cls := findClass_of_methodNamed B.named
  have hlocks := B.notSynchronized
  have hK2 := hK
  have hK := hK2.sub (tys' := mf_ty G) [0, 1] rfl
  have htab := vx_table (x := yL_pass) B (hts (.codeWith yL_pass cL_pass 4 (some .int) [(0, 9, 12, 15)]) List.mem_cons_self)
  subst hsz
  have hD := hD0.self (sz := s.heap.size)
  generalize hAe : va_A (OW G ho pn pa pf ae x ++ LW gL jw o ++ RW G pn adn r ++ RW G pa ada ra ++ FW G pf adf f) s.heap.size = A at hD hZ ⊢
  have hA : ∀ q : Nat, s.heap.size ≤ q → A q := fun q h => by rw [← hAe]; exact Or.inr h
  have hS : va_S A s.heap s.heap [] := va_S.rf
  have hl := lv_entry ([.ref ho, .int (iI (yv)), .ref jw]) (n := 4) (Nat.le_of_ble_eq_true rfl)
  rw [lg_entry_eq]
  generalize (lg_sl ([.ref ho, .int (iI (yv)), .ref jw]) ++ List.replicate (4 - (lg_sl ([.ref ho, .int (iI (yv)), .ref jw])).length) Slot.unset).toArray = ls at hl ⊢
  have hl : lv_has ls 4 [(0, .ref ho), (1, .int (iI (yv))), (2, .ref jw)] := hl
  have hyv1 := hyv.1
  have hyv2 := hyv.2
  have okLr : (0 : Int) ≤ r 7 0 ∧ r 7 0 ≤ 150 := ok 7 0
  have okLra : (0 : Int) ≤ ra 7 0 ∧ ra 7 0 ≤ 150 := okra 7 0
  refine lv_aload_n hx hb dL_pass_0 rfl (lv_at hl 2 rfl) ?_
  refine mf_iconst hx hb dL_pass_1 ?_
  refine lv_aload_n hx hb dL_pass_2 rfl (lv_at hl 0 rfl) ?_
  refine lv_iload_n hx hb dL_pass_3 rfl (lv_at hl 1 rfl) ?_
  have hFc := va_free (wc := OW G ho pn pa pf ae x ++ RW G pn adn r ++ RW G pa ada ra ++ FW G pf adf f) hD hS hA [0, 1, 3, 4, 5, 6, 7, 8, 9, 10, 11, 12, 13, 14, 15, 16, 17, 18, 19, 20, 21, 22, 23, 24, 25, 26, 27, 28, 29, 30, 31] sb_25e4c4fd82
  refine vx_calli (vx_runV (As := [.int (iI (yv))]) (rest := [.int (iI (0)), .ref jw]) ⟨hx, hb, hml, hown, hts⟩ (c_X2_pass l hl9 G ho pn pa pf ae x adn r ada ra adf f (yv) (Yv) (i32_mk (by omega) (by omega)) (by assumption) (by assumption) (by assumption) (by assumption) (by first | assumption | omega) (by first | assumption | omega) (by first | assumption | omega) _) (cwV 1 hts gL_pass_X2_pass rfl rfl rfl (by decide +kernel) ⟨Nat.le_of_ble_eq_true rfl, Nat.le_of_ble_eq_true rfl⟩) (wrVx (wc := OW G ho pn pa pf ae x ++ RW G pn adn r ++ RW G pa ada ra ++ FW G pf adf f) hSX hCX hZ hS hFc hK hP hD hN [0, 1, 3, 4, 5, 6, 7, 8, 9, 10, 11, 12, 13, 14, 15, 16, 17, 18, 19, 20, 21, 22, 23, 24, 25, 26, 27, 28, 29, 30, 31] (by decide +kernel) sb_f976e10569 sb_25e4c4fd82 (ci := 2) rfl rfl) rfl rfl hl.1 rfl (lv_room (Nat.le_of_ble_eq_true rfl)) dL_pass_4 ⟨Nat.le_of_ble_eq_true rfl, Nat.le_of_ble_eq_true rfl⟩) hS (fun q _ h => hFc q h) hFc (fun q _ h => hFc q h) (fun E ce q9 _ t H1 locs ht hvm _ hB hz1 hk1 hS hce hcv hcl => ?_) (fun q1 u2 t H1 locs ht hvm hw hB hz1 hk1 hS => ?_)
  · skip
    obtain ⟨hxp, hB⟩ := hB
    obtain ⟨hP, hD⟩ := wrJ2 (ws := OW G ho pn pa pf ae x ++ LW gL jw o ++ RW G pn adn r ++ RW G pa ada ra ++ FW G pf adf f) (wc := OW G ho pn pa pf ae x ++ RW G pn adn r ++ RW G pa ada ra ++ FW G pf adf f) (wr := LW gL jw o) (w1 := OW G ho pn pa pf ae x ++ RW G pn adn r ++ RW G pa ada ra ++ FW G pf adf f) hP hD [0, 1, 3, 4, 5, 6, 7, 8, 9, 10, 11, 12, 13, 14, 15, 16, 17, 18, 19, 20, 21, 22, 23, 24, 25, 26, 27, 28, 29, 30, 31] [2] sb_25e4c4fd82 sb_e40585b7f7 (by decide +kernel) (by decide +kernel) hk1 ht hFc hB
    have hP : va_P G.1 vwCl (OW G ho pn pa pf ae x ++ LW gL jw o ++ RW G pn adn r ++ RW G pa ada ra ++ FW G pf adf f) H1 := hP.sub [1, 2, 0, 3, 4, 5, 6, 7, 8, 9, 10, 11, 12, 13, 14, 15, 16, 17, 18, 19, 20, 21, 22, 23, 24, 25, 26, 27, 28, 29, 30, 31] sb_13d50e5728
    have hD : va_D A (OW G ho pn pa pf ae x ++ LW gL jw o ++ RW G pn adn r ++ RW G pa ada ra ++ FW G pf adf f) := hD.sub [1, 2, 0, 3, 4, 5, 6, 7, 8, 9, 10, 11, 12, 13, 14, 15, 16, 17, 18, 19, 20, 21, 22, 23, 24, 25, 26, 27, 28, 29, 30, 31] (by decide +kernel) sb_eddd18e5dc
    clear hB hk1 hFc ht hz1 hvm
    generalize H1 = H at hP hS hce ⊢
    rcases hxp with ⟨rfl, hk9⟩
    · skip
      refine vx_catch (name := xIA) hown [] ⟨0, 9, 12, 15⟩ [] htab (fun z hz => by cases hz) (by decide) (by decide) (hts (.classLink RL 15 "java/lang/IllegalArgumentException") (List.mem_of_getElem? (i := 1) rfl)) (va_Nw.use rfl hCX.2.1) hce hcv hcl ?_
      refine lv_astore_n (lv' := [(3, .ref q9), (0, .ref ho), (1, .int (iI (yv))), (2, .ref jw)]) hx hb dL_pass_12 rfl hl (by decide) rfl (fun ls hl => ?_)
      refine mf_iconst hx hb dL_pass_13 ?_
      refine vx_ret ?_
      exact W.iret hx hb hr (fun t ht hW => ⟨⟨_, (x, o, r, ra, f), rfl, ⟨_, rfl, by (try dsimp only); exact ⟨hk9.symm, ⟨okx, ok, okra, okf⟩, fun z9 => absurd (hk9.symm.trans z9) (by decide), fun _ => ⟨rfl, rfl, rfl, rfl⟩⟩⟩, by rw [ht]; exact hP, hD⟩, hS.F ht⟩) hS.2.2 dL_pass_14
  · skip
    obtain ⟨x3, r4, ra5, f6⟩ := u2
    try dsimp only at hw hB
    obtain ⟨hP, hD⟩ := wrJ2 (ws := OW G ho pn pa pf ae x ++ LW gL jw o ++ RW G pn adn r ++ RW G pa ada ra ++ FW G pf adf f) (wc := OW G ho pn pa pf ae x ++ RW G pn adn r ++ RW G pa ada ra ++ FW G pf adf f) (wr := LW gL jw o) (w1 := OW G ho pn pa pf ae x3 ++ RW G pn adn r4 ++ RW G pa ada ra5 ++ FW G pf adf f6) hP hD [0, 1, 3, 4, 5, 6, 7, 8, 9, 10, 11, 12, 13, 14, 15, 16, 17, 18, 19, 20, 21, 22, 23, 24, 25, 26, 27, 28, 29, 30, 31] [2] sb_25e4c4fd82 sb_e40585b7f7 (by decide +kernel) (by decide +kernel) hk1 ht hFc hB
    have hP : va_P G.1 vwCl (OW G ho pn pa pf ae x3 ++ LW gL jw o ++ RW G pn adn r4 ++ RW G pa ada ra5 ++ FW G pf adf f6) H1 := hP.sub [1, 2, 0, 3, 4, 5, 6, 7, 8, 9, 10, 11, 12, 13, 14, 15, 16, 17, 18, 19, 20, 21, 22, 23, 24, 25, 26, 27, 28, 29, 30, 31] sb_13d50e5728
    have hD : va_D A (OW G ho pn pa pf ae x3 ++ LW gL jw o ++ RW G pn adn r4 ++ RW G pa ada ra5 ++ FW G pf adf f6) := hD.sub [1, 2, 0, 3, 4, 5, 6, 7, 8, 9, 10, 11, 12, 13, 14, 15, 16, 17, 18, 19, 20, 21, 22, 23, 24, 25, 26, 27, 28, 29, 30, 31] (by decide +kernel) sb_eddd18e5dc
    clear hB hk1 hFc ht hz1 hvm
    generalize H1 = H at hP hS ⊢
    obtain ⟨z7, rfl, w8⟩ := hw
    refine mf_i2lw hx hb dL_pass_7 ?_
    refine va_last hx hb hK2 hP hD hS 2 2 rfl rfl (i := iI 0) (x := lI (wrI (z7))) (iI_in (z := 0) (by decide) (by decide) (by decide)) dL_pass_8 (fun H locs hP hD hS => ?_)
    obtain ⟨ov9, eov9⟩ : ∃ z9 : Nat → Int64, z9 = vp_updL o (iI 0).toNatClampNeg (lI (wrI (z7))) := ⟨_, rfl⟩
    have hP : va_P G.1 vwCl (OW G ho pn pa pf ae x3 ++ LW gL jw ov9 ++ RW G pn adn r4 ++ RW G pa ada ra5 ++ FW G pf adf f6) H := by rw [eov9]; exact hP
    have hD : va_D A (OW G ho pn pa pf ae x3 ++ LW gL jw ov9 ++ RW G pn adn r4 ++ RW G pa ada ra5 ++ FW G pf adf f6) := by rw [eov9]; exact hD
    have f0_ov9 : ov9 0 = lI (wrI (z7)) := by rw [eov9]; exact if_pos (by decide)
    refine lv_goto (tgt := 15) hx hb dL_pass_9 (by decide) ?_
    refine mf_iconst hx hb dL_pass_15 ?_
    refine vx_ret ?_
    exact W.iret hx hb hr (fun t ht hW => ⟨⟨_, (x3, ov9, r4, ra5, f6), rfl, ⟨_, rfl, by (try dsimp only); exact ⟨w8.1.symm, w8.2.1, fun _ => ⟨_, f0_ov9, w8.2.2⟩, fun z9 => absurd w8.1 z9⟩⟩, by rw [ht]; exact hP, hD⟩, hS.F ht⟩) hS.2.2 dL_pass_16
set_option maxHeartbeats 4000000 in
set_option maxRecDepth 100000 in
theorem c_L_count (l : Launch) (hl9 : l.stackTraces = false) (G : mf_G) (gL : ClassId) (ho pn pa pf : Nat) (ae : Nat) (x : mf_V) (jw : Nat) (o : Nat → Int64) (adn : Nat → Nat) (r : mf_V) (ada : Nat → Nat) (ra : mf_V) (adf : Nat → Nat) (f : mf_V)  (wv : Int) (hwv : i32 wv) (okx : rOK xlo xhi x) (ok : rOK rlo rhi r) (okra : rOK rlo rhi ra) (okf : rOK flo fhi f) (hlen : 2 ≤ r 7 0) (sz : Nat) : vx_Met l yL_count wsL_count ({ frames := 7, cells := 1, slots := 6, locals := 111 }) (va_Pc [.ref ho, .int (iI (wv)), .ref jw] (WrPy G gL (OW G ho pn pa pf ae x ++ LW gL jw o ++ RW G pn adn r ++ RW G pa ada ra ++ FW G pf adf f) sz)) (va_Qi (fun q9 (u : mf_V × (Nat → Int64) × mf_V × mf_V × mf_V) => ∃ z : Int, q9 = iI z ∧ z = kRng 0 7 wv ∧ (rOK xlo xhi u.1 ∧ rOK rlo rhi u.2.2.1 ∧ rOK rlo rhi u.2.2.2.1 ∧ rOK flo fhi u.2.2.2.2) ∧ (kRng 0 7 wv = 0 → ∃ v : Int, u.2.1 0 = lI (wrI v) ∧ u.2.2.1 = r ∧ u.2.2.2.2 = f ∧ v = totF r (f 4 0) wv) ∧ (¬ kRng 0 7 wv = 0 → u.1 = x ∧ u.2.2.1 = r ∧ u.2.2.2.1 = ra ∧ u.2.2.2.2 = f)) (fun (u : mf_V × (Nat → Int64) × mf_V × mf_V × mf_V) t => WrQ G (va_A (OW G ho pn pa pf ae x ++ LW gL jw o ++ RW G pn adn r ++ RW G pa ada ra ++ FW G pf adf f) sz) (OW G ho pn pa pf ae (u.1) ++ LW gL jw (u.2.1) ++ RW G pn adn (u.2.2.1) ++ RW G pa ada (u.2.2.2.1) ++ FW G pf adf (u.2.2.2.2)) t) (va_A (OW G ho pn pa pf ae x ++ LW gL jw o ++ RW G pn adn r ++ RW G pa ada ra ++ FW G pf adf f) sz)) (vx_X (fun _ : Unit => False) (fun _ _ _ => False) (va_A (OW G ho pn pa pf ae x ++ LW gL jw o ++ RW G pn adn r ++ RW G pa ada ra ++ FW G pf adf f) sz)) 1 6 (va_A (OW G ho pn pa pf ae x ++ LW gL jw o ++ RW G pn adn r ++ RW G pa ada ra ++ FW G pf adf f) sz) := by
  refine vx_ofWH (cc := cL_count) (maxL := 4) (ret := (some .int)) (hh := [(0, 9, 12, 13)]) (by decide +kernel) rfl ?_
  intro p e s m args below meth c s₁ B hml hv
  obtain ⟨rfl, hsz, hP, hK, hD0, hN, hSX, hCX, hZ, hNX⟩ := hv
  have hx := B.exec
  have hb := B.bytes
  have hr := B.returns
  have hts := atoms_spec (ws := wsL_count) B.pre
  have hown : s.vm.findClass RL = some m.cls := findClass_of_methodNamed B.named
  have hlocks := B.notSynchronized
  have hK2 := hK
  have hK := hK2.sub (tys' := mf_ty G) [0, 1] rfl
  have htab := vx_table (x := yL_count) B (hts (.codeWith yL_count cL_count 4 (some .int) [(0, 9, 12, 13)]) List.mem_cons_self)
  subst hsz
  have hD := hD0.self (sz := s.heap.size)
  generalize hAe : va_A (OW G ho pn pa pf ae x ++ LW gL jw o ++ RW G pn adn r ++ RW G pa ada ra ++ FW G pf adf f) s.heap.size = A at hD hZ ⊢
  have hA : ∀ q : Nat, s.heap.size ≤ q → A q := fun q h => by rw [← hAe]; exact Or.inr h
  have hS : va_S A s.heap s.heap [] := va_S.rf
  have hl := lv_entry ([.ref ho, .int (iI (wv)), .ref jw]) (n := 4) (Nat.le_of_ble_eq_true rfl)
  rw [lg_entry_eq]
  generalize (lg_sl ([.ref ho, .int (iI (wv)), .ref jw]) ++ List.replicate (4 - (lg_sl ([.ref ho, .int (iI (wv)), .ref jw])).length) Slot.unset).toArray = ls at hl ⊢
  have hl : lv_has ls 4 [(0, .ref ho), (1, .int (iI (wv))), (2, .ref jw)] := hl
  have hwv1 := hwv.1
  have hwv2 := hwv.2
  have okLr : (0 : Int) ≤ r 7 0 ∧ r 7 0 ≤ 150 := ok 7 0
  have okLra : (0 : Int) ≤ ra 7 0 ∧ ra 7 0 ≤ 150 := okra 7 0
  refine lv_aload_n hx hb dL_count_0 rfl (lv_at hl 2 rfl) ?_
  refine mf_iconst hx hb dL_count_1 ?_
  refine lv_aload_n hx hb dL_count_2 rfl (lv_at hl 0 rfl) ?_
  refine lv_iload_n hx hb dL_count_3 rfl (lv_at hl 1 rfl) ?_
  have hFc := va_free (wc := OW G ho pn pa pf ae x ++ RW G pn adn r ++ RW G pa ada ra ++ FW G pf adf f) hD hS hA [0, 1, 3, 4, 5, 6, 7, 8, 9, 10, 11, 12, 13, 14, 15, 16, 17, 18, 19, 20, 21, 22, 23, 24, 25, 26, 27, 28, 29, 30, 31] sb_25e4c4fd82
  refine vx_calli (vx_runV (As := [.int (iI (wv))]) (rest := [.int (iI (0)), .ref jw]) ⟨hx, hb, hml, hown, hts⟩ (c_X2_count l hl9 G ho pn pa pf ae x adn r ada ra adf f (wv) (i32_mk (by omega) (by omega)) (by assumption) (by assumption) (by assumption) (by assumption) (by first | assumption | omega) _) (cwV 1 hts gL_count_X2_count rfl rfl rfl (by decide +kernel) ⟨Nat.le_of_ble_eq_true rfl, Nat.le_of_ble_eq_true rfl⟩) (wrVx (wc := OW G ho pn pa pf ae x ++ RW G pn adn r ++ RW G pa ada ra ++ FW G pf adf f) hSX hCX hZ hS hFc hK hP hD hN [0, 1, 3, 4, 5, 6, 7, 8, 9, 10, 11, 12, 13, 14, 15, 16, 17, 18, 19, 20, 21, 22, 23, 24, 25, 26, 27, 28, 29, 30, 31] (by decide +kernel) sb_f976e10569 sb_25e4c4fd82 (ci := 2) rfl rfl) rfl rfl hl.1 rfl (lv_room (Nat.le_of_ble_eq_true rfl)) dL_count_4 ⟨Nat.le_of_ble_eq_true rfl, Nat.le_of_ble_eq_true rfl⟩) hS (fun q _ h => hFc q h) hFc (fun q _ h => hFc q h) (fun E ce q9 _ t H1 locs ht hvm _ hB hz1 hk1 hS hce hcv hcl => ?_) (fun q1 u2 t H1 locs ht hvm hw hB hz1 hk1 hS => ?_)
  · skip
    obtain ⟨hxp, hB⟩ := hB
    obtain ⟨hP, hD⟩ := wrJ2 (ws := OW G ho pn pa pf ae x ++ LW gL jw o ++ RW G pn adn r ++ RW G pa ada ra ++ FW G pf adf f) (wc := OW G ho pn pa pf ae x ++ RW G pn adn r ++ RW G pa ada ra ++ FW G pf adf f) (wr := LW gL jw o) (w1 := OW G ho pn pa pf ae x ++ RW G pn adn r ++ RW G pa ada ra ++ FW G pf adf f) hP hD [0, 1, 3, 4, 5, 6, 7, 8, 9, 10, 11, 12, 13, 14, 15, 16, 17, 18, 19, 20, 21, 22, 23, 24, 25, 26, 27, 28, 29, 30, 31] [2] sb_25e4c4fd82 sb_e40585b7f7 (by decide +kernel) (by decide +kernel) hk1 ht hFc hB
    have hP : va_P G.1 vwCl (OW G ho pn pa pf ae x ++ LW gL jw o ++ RW G pn adn r ++ RW G pa ada ra ++ FW G pf adf f) H1 := hP.sub [1, 2, 0, 3, 4, 5, 6, 7, 8, 9, 10, 11, 12, 13, 14, 15, 16, 17, 18, 19, 20, 21, 22, 23, 24, 25, 26, 27, 28, 29, 30, 31] sb_13d50e5728
    have hD : va_D A (OW G ho pn pa pf ae x ++ LW gL jw o ++ RW G pn adn r ++ RW G pa ada ra ++ FW G pf adf f) := hD.sub [1, 2, 0, 3, 4, 5, 6, 7, 8, 9, 10, 11, 12, 13, 14, 15, 16, 17, 18, 19, 20, 21, 22, 23, 24, 25, 26, 27, 28, 29, 30, 31] (by decide +kernel) sb_eddd18e5dc
    clear hB hk1 hFc ht hz1 hvm
    generalize H1 = H at hP hS hce ⊢
    rcases hxp with ⟨rfl, hk9⟩
    · skip
      refine vx_catch (name := xIO) hown [] ⟨0, 9, 12, 13⟩ [] htab (fun z hz => by cases hz) (by decide) (by decide) (hts (.classLink RL 13 "java/lang/IndexOutOfBoundsException") (List.mem_of_getElem? (i := 1) rfl)) (va_Nw.use rfl hCX.1) hce hcv hcl ?_
      refine lv_astore_n (lv' := [(3, .ref q9), (0, .ref ho), (1, .int (iI (wv))), (2, .ref jw)]) hx hb dL_count_12 rfl hl (by decide) rfl (fun ls hl => ?_)
      refine mf_iconst hx hb dL_count_13 ?_
      refine vx_ret ?_
      exact W.iret hx hb hr (fun t ht hW => ⟨⟨_, (x, o, r, ra, f), rfl, ⟨_, rfl, by (try dsimp only); exact ⟨hk9.symm, ⟨okx, ok, okra, okf⟩, fun z9 => absurd (hk9.symm.trans z9) (by decide), fun _ => ⟨rfl, rfl, rfl, rfl⟩⟩⟩, by rw [ht]; exact hP, hD⟩, hS.F ht⟩) hS.2.2 dL_count_14
  · skip
    obtain ⟨x3, r4, ra5, f6⟩ := u2
    try dsimp only at hw hB
    obtain ⟨hP, hD⟩ := wrJ2 (ws := OW G ho pn pa pf ae x ++ LW gL jw o ++ RW G pn adn r ++ RW G pa ada ra ++ FW G pf adf f) (wc := OW G ho pn pa pf ae x ++ RW G pn adn r ++ RW G pa ada ra ++ FW G pf adf f) (wr := LW gL jw o) (w1 := OW G ho pn pa pf ae x3 ++ RW G pn adn r4 ++ RW G pa ada ra5 ++ FW G pf adf f6) hP hD [0, 1, 3, 4, 5, 6, 7, 8, 9, 10, 11, 12, 13, 14, 15, 16, 17, 18, 19, 20, 21, 22, 23, 24, 25, 26, 27, 28, 29, 30, 31] [2] sb_25e4c4fd82 sb_e40585b7f7 (by decide +kernel) (by decide +kernel) hk1 ht hFc hB
    have hP : va_P G.1 vwCl (OW G ho pn pa pf ae x3 ++ LW gL jw o ++ RW G pn adn r4 ++ RW G pa ada ra5 ++ FW G pf adf f6) H1 := hP.sub [1, 2, 0, 3, 4, 5, 6, 7, 8, 9, 10, 11, 12, 13, 14, 15, 16, 17, 18, 19, 20, 21, 22, 23, 24, 25, 26, 27, 28, 29, 30, 31] sb_13d50e5728
    have hD : va_D A (OW G ho pn pa pf ae x3 ++ LW gL jw o ++ RW G pn adn r4 ++ RW G pa ada ra5 ++ FW G pf adf f6) := hD.sub [1, 2, 0, 3, 4, 5, 6, 7, 8, 9, 10, 11, 12, 13, 14, 15, 16, 17, 18, 19, 20, 21, 22, 23, 24, 25, 26, 27, 28, 29, 30, 31] (by decide +kernel) sb_eddd18e5dc
    clear hB hk1 hFc ht hz1 hvm
    generalize H1 = H at hP hS ⊢
    obtain ⟨z7, rfl, w8⟩ := hw
    refine mf_i2lw hx hb dL_count_7 ?_
    refine va_last hx hb hK2 hP hD hS 2 2 rfl rfl (i := iI 0) (x := lI (wrI (z7))) (iI_in (z := 0) (by decide) (by decide) (by decide)) dL_count_8 (fun H locs hP hD hS => ?_)
    obtain ⟨ov9, eov9⟩ : ∃ z9 : Nat → Int64, z9 = vp_updL o (iI 0).toNatClampNeg (lI (wrI (z7))) := ⟨_, rfl⟩
    have hP : va_P G.1 vwCl (OW G ho pn pa pf ae x3 ++ LW gL jw ov9 ++ RW G pn adn r4 ++ RW G pa ada ra5 ++ FW G pf adf f6) H := by rw [eov9]; exact hP
    have hD : va_D A (OW G ho pn pa pf ae x3 ++ LW gL jw ov9 ++ RW G pn adn r4 ++ RW G pa ada ra5 ++ FW G pf adf f6) := by rw [eov9]; exact hD
    have f0_ov9 : ov9 0 = lI (wrI (z7)) := by rw [eov9]; exact if_pos (by decide)
    refine lv_goto (tgt := 15) hx hb dL_count_9 (by decide) ?_
    refine mf_iconst hx hb dL_count_15 ?_
    refine vx_ret ?_
    exact W.iret hx hb hr (fun t ht hW => ⟨⟨_, (x3, ov9, r4, ra5, f6), rfl, ⟨_, rfl, by (try dsimp only); exact ⟨w8.1.symm, w8.2.1, fun _ => ⟨_, f0_ov9, w8.2.2⟩, fun z9 => absurd w8.1 z9⟩⟩, by rw [ht]; exact hP, hD⟩, hS.F ht⟩) hS.2.2 dL_count_16
set_option maxHeartbeats 4000000 in
set_option maxRecDepth 100000 in
theorem c_L_foresee (l : Launch) (hl9 : l.stackTraces = false) (G : mf_G) (gL : ClassId) (ho pn pa pf : Nat) (ae : Nat) (x : mf_V) (jw : Nat) (o : Nat → Int64) (adn : Nat → Nat) (r : mf_V) (ada : Nat → Nat) (ra : mf_V) (adf : Nat → Nat) (f : mf_V)  (yv : Int) (wv : Int) (Yv : Int) (hyv : i32 yv) (hwv : i32 wv) (okx : rOK xlo xhi x) (ok : rOK rlo rhi r) (okra : rOK rlo rhi ra) (okf : rOK flo fhi f) (hI : RInv r) (hB : bdP r Yv) (hYv : 0 ≤ Yv ∧ Yv + 100 ≤ 60000) (sz : Nat) : vx_Met l yL_foresee wsL_foresee ({ frames := 7, cells := 1, slots := 6, locals := 166 }) (va_Pc [.ref ho, .int (iI (yv)), .int (iI (wv)), .ref jw] (WrPy G gL (OW G ho pn pa pf ae x ++ LW gL jw o ++ RW G pn adn r ++ RW G pa ada ra ++ FW G pf adf f) sz)) (va_Qi (fun q9 (u : mf_V × (Nat → Int64) × mf_V × mf_V × mf_V) => ∃ z : Int, q9 = iI z ∧ z = kFore yv wv ∧ (rOK xlo xhi u.1 ∧ rOK rlo rhi u.2.2.1 ∧ rOK rlo rhi u.2.2.2.1 ∧ rOK flo fhi u.2.2.2.2) ∧ (kFore yv wv = 0 → ∃ v : Int, u.2.1 0 = lI (wrI v) ∧ (∃ q b, YearsR yv (rC r) q b ∧ rOK rlo rhi q ∧ RInv q ∧ v = vFore r q b wv) ∧ u.2.2.1 = r ∧ u.2.2.2.2 = f) ∧ (¬ kFore yv wv = 0 → u.1 = x ∧ u.2.2.1 = r ∧ u.2.2.2.1 = ra ∧ u.2.2.2.2 = f)) (fun (u : mf_V × (Nat → Int64) × mf_V × mf_V × mf_V) t => WrQ G (va_A (OW G ho pn pa pf ae x ++ LW gL jw o ++ RW G pn adn r ++ RW G pa ada ra ++ FW G pf adf f) sz) (OW G ho pn pa pf ae (u.1) ++ LW gL jw (u.2.1) ++ RW G pn adn (u.2.2.1) ++ RW G pa ada (u.2.2.2.1) ++ FW G pf adf (u.2.2.2.2)) t) (va_A (OW G ho pn pa pf ae x ++ LW gL jw o ++ RW G pn adn r ++ RW G pa ada ra ++ FW G pf adf f) sz)) (vx_X (fun _ : Unit => False) (fun _ _ _ => False) (va_A (OW G ho pn pa pf ae x ++ LW gL jw o ++ RW G pn adn r ++ RW G pa ada ra ++ FW G pf adf f) sz)) 1 6 (va_A (OW G ho pn pa pf ae x ++ LW gL jw o ++ RW G pn adn r ++ RW G pa ada ra ++ FW G pf adf f) sz) := by
  refine vx_ofWH (cc := cL_foresee) (maxL := 5) (ret := (some .int)) (hh := [(0, 10, 13, 15), (0, 10, 17, 13)]) (by decide +kernel) rfl ?_
  intro p e s m args below meth c s₁ B hml hv
  obtain ⟨rfl, hsz, hP, hK, hD0, hN, hSX, hCX, hZ, hNX⟩ := hv
  have hx := B.exec
  have hb := B.bytes
  have hr := B.returns
  have hts := atoms_spec (ws := wsL_foresee) B.pre
  have hown : s.vm.findClass RL = some m.cls := findClass_of_methodNamed B.named
  have hlocks := B.notSynchronized
  have hK2 := hK
  have hK := hK2.sub (tys' := mf_ty G) [0, 1] rfl
  have htab := vx_table (x := yL_foresee) B (hts (.codeWith yL_foresee cL_foresee 5 (some .int) [(0, 10, 13, 15), (0, 10, 17, 13)]) List.mem_cons_self)
  subst hsz
  have hD := hD0.self (sz := s.heap.size)
  generalize hAe : va_A (OW G ho pn pa pf ae x ++ LW gL jw o ++ RW G pn adn r ++ RW G pa ada ra ++ FW G pf adf f) s.heap.size = A at hD hZ ⊢
  have hA : ∀ q : Nat, s.heap.size ≤ q → A q := fun q h => by rw [← hAe]; exact Or.inr h
  have hS : va_S A s.heap s.heap [] := va_S.rf
  have hl := lv_entry ([.ref ho, .int (iI (yv)), .int (iI (wv)), .ref jw]) (n := 5) (Nat.le_of_ble_eq_true rfl)
  rw [lg_entry_eq]
  generalize (lg_sl ([.ref ho, .int (iI (yv)), .int (iI (wv)), .ref jw]) ++ List.replicate (5 - (lg_sl ([.ref ho, .int (iI (yv)), .int (iI (wv)), .ref jw])).length) Slot.unset).toArray = ls at hl ⊢
  have hl : lv_has ls 5 [(0, .ref ho), (1, .int (iI (yv))), (2, .int (iI (wv))), (3, .ref jw)] := hl
  have hyv1 := hyv.1
  have hyv2 := hyv.2
  have hwv1 := hwv.1
  have hwv2 := hwv.2
  have okLr : (0 : Int) ≤ r 7 0 ∧ r 7 0 ≤ 150 := ok 7 0
  have okLra : (0 : Int) ≤ ra 7 0 ∧ ra 7 0 ≤ 150 := okra 7 0
  refine lv_aload_n hx hb dL_foresee_0 rfl (lv_at hl 3 rfl) ?_
  refine mf_iconst hx hb dL_foresee_1 ?_
  refine lv_aload_n hx hb dL_foresee_2 rfl (lv_at hl 0 rfl) ?_
  refine lv_iload_n hx hb dL_foresee_3 rfl (lv_at hl 1 rfl) ?_
  refine lv_iload_n hx hb dL_foresee_4 rfl (lv_at hl 2 rfl) ?_
  have hFc := va_free (wc := OW G ho pn pa pf ae x ++ RW G pn adn r ++ RW G pa ada ra ++ FW G pf adf f) hD hS hA [0, 1, 3, 4, 5, 6, 7, 8, 9, 10, 11, 12, 13, 14, 15, 16, 17, 18, 19, 20, 21, 22, 23, 24, 25, 26, 27, 28, 29, 30, 31] sb_25e4c4fd82
  refine vx_calli (vx_runV (As := [.int (iI (yv)), .int (iI (wv))]) (rest := [.int (iI (0)), .ref jw]) ⟨hx, hb, hml, hown, hts⟩ (c_X2_foresee l hl9 G ho pn pa pf ae x adn r ada ra adf f (yv) (wv) (Yv) (i32_mk (by omega) (by omega)) (i32_mk (by omega) (by omega)) (by assumption) (by assumption) (by assumption) (by assumption) (by first | assumption | omega) (by first | assumption | omega) (by first | assumption | omega) _) (cwV 2 hts gL_foresee_X2_foresee rfl rfl rfl (by decide +kernel) ⟨Nat.le_of_ble_eq_true rfl, Nat.le_of_ble_eq_true rfl⟩) (wrVx (wc := OW G ho pn pa pf ae x ++ RW G pn adn r ++ RW G pa ada ra ++ FW G pf adf f) hSX hCX hZ hS hFc hK hP hD hN [0, 1, 3, 4, 5, 6, 7, 8, 9, 10, 11, 12, 13, 14, 15, 16, 17, 18, 19, 20, 21, 22, 23, 24, 25, 26, 27, 28, 29, 30, 31] (by decide +kernel) sb_f976e10569 sb_25e4c4fd82 (ci := 2) rfl rfl) rfl rfl hl.1 rfl (lv_room (Nat.le_of_ble_eq_true rfl)) dL_foresee_5 ⟨Nat.le_of_ble_eq_true rfl, Nat.le_of_ble_eq_true rfl⟩) hS (fun q _ h => hFc q h) hFc (fun q _ h => hFc q h) (fun E ce q9 _ t H1 locs ht hvm _ hB hz1 hk1 hS hce hcv hcl => ?_) (fun q1 u2 t H1 locs ht hvm hw hB hz1 hk1 hS => ?_)
  · skip
    obtain ⟨hxp, hB⟩ := hB
    obtain ⟨hP, hD⟩ := wrJ2 (ws := OW G ho pn pa pf ae x ++ LW gL jw o ++ RW G pn adn r ++ RW G pa ada ra ++ FW G pf adf f) (wc := OW G ho pn pa pf ae x ++ RW G pn adn r ++ RW G pa ada ra ++ FW G pf adf f) (wr := LW gL jw o) (w1 := OW G ho pn pa pf ae x ++ RW G pn adn r ++ RW G pa ada ra ++ FW G pf adf f) hP hD [0, 1, 3, 4, 5, 6, 7, 8, 9, 10, 11, 12, 13, 14, 15, 16, 17, 18, 19, 20, 21, 22, 23, 24, 25, 26, 27, 28, 29, 30, 31] [2] sb_25e4c4fd82 sb_e40585b7f7 (by decide +kernel) (by decide +kernel) hk1 ht hFc hB
    have hP : va_P G.1 vwCl (OW G ho pn pa pf ae x ++ LW gL jw o ++ RW G pn adn r ++ RW G pa ada ra ++ FW G pf adf f) H1 := hP.sub [1, 2, 0, 3, 4, 5, 6, 7, 8, 9, 10, 11, 12, 13, 14, 15, 16, 17, 18, 19, 20, 21, 22, 23, 24, 25, 26, 27, 28, 29, 30, 31] sb_13d50e5728
    have hD : va_D A (OW G ho pn pa pf ae x ++ LW gL jw o ++ RW G pn adn r ++ RW G pa ada ra ++ FW G pf adf f) := hD.sub [1, 2, 0, 3, 4, 5, 6, 7, 8, 9, 10, 11, 12, 13, 14, 15, 16, 17, 18, 19, 20, 21, 22, 23, 24, 25, 26, 27, 28, 29, 30, 31] (by decide +kernel) sb_eddd18e5dc
    clear hB hk1 hFc ht hz1 hvm
    generalize H1 = H at hP hS hce ⊢
    rcases hxp with ⟨rfl, hk9⟩ | ⟨rfl, hk9⟩
    · skip
      refine vx_catch (name := xIA) hown [] ⟨0, 10, 13, 15⟩ [⟨0, 10, 17, 13⟩] htab (fun z hz => by cases hz) (by decide) (by decide) (hts (.classLink RL 15 "java/lang/IllegalArgumentException") (List.mem_of_getElem? (i := 1) rfl)) (va_Nw.use rfl hCX.2.1) hce hcv hcl ?_
      refine lv_astore (lv' := [(4, .ref q9), (0, .ref ho), (1, .int (iI (yv))), (2, .int (iI (wv))), (3, .ref jw)]) hx hb dL_foresee_13 hl (by decide) rfl (fun ls hl => ?_)
      refine mf_iconst hx hb dL_foresee_15 ?_
      refine vx_ret ?_
      exact W.iret hx hb hr (fun t ht hW => ⟨⟨_, (x, o, r, ra, f), rfl, ⟨_, rfl, by (try dsimp only); exact ⟨hk9.symm, ⟨okx, ok, okra, okf⟩, fun z9 => absurd (hk9.symm.trans z9) (by decide), fun _ => ⟨rfl, rfl, rfl, rfl⟩⟩⟩, by rw [ht]; exact hP, hD⟩, hS.F ht⟩) hS.2.2 dL_foresee_16
    · skip
      refine vx_catch (name := xIO) hown [⟨0, 10, 13, 15⟩] ⟨0, 10, 17, 13⟩ [] htab (fun z hz => by (rcases List.mem_cons.mp hz with rfl | hz; exact Or.inr ⟨by decide, _, (hts (.classLink RL 15 "java/lang/IllegalArgumentException") (List.mem_of_getElem? (i := 1) rfl)), hNX.2.2.2⟩); cases hz) (by decide) (by decide) (hts (.classLink RL 13 "java/lang/IndexOutOfBoundsException") (List.mem_of_getElem? (i := 2) rfl)) (va_Nw.use rfl hCX.1) hce hcv hcl ?_
      refine lv_astore (lv' := [(4, .ref q9), (0, .ref ho), (1, .int (iI (yv))), (2, .int (iI (wv))), (3, .ref jw)]) hx hb dL_foresee_17 hl (by decide) rfl (fun ls hl => ?_)
      refine mf_iconst hx hb dL_foresee_19 ?_
      refine vx_ret ?_
      exact W.iret hx hb hr (fun t ht hW => ⟨⟨_, (x, o, r, ra, f), rfl, ⟨_, rfl, by (try dsimp only); exact ⟨hk9.symm, ⟨okx, ok, okra, okf⟩, fun z9 => absurd (hk9.symm.trans z9) (by decide), fun _ => ⟨rfl, rfl, rfl, rfl⟩⟩⟩, by rw [ht]; exact hP, hD⟩, hS.F ht⟩) hS.2.2 dL_foresee_20
  · skip
    obtain ⟨x3, r4, ra5, f6⟩ := u2
    try dsimp only at hw hB
    obtain ⟨hP, hD⟩ := wrJ2 (ws := OW G ho pn pa pf ae x ++ LW gL jw o ++ RW G pn adn r ++ RW G pa ada ra ++ FW G pf adf f) (wc := OW G ho pn pa pf ae x ++ RW G pn adn r ++ RW G pa ada ra ++ FW G pf adf f) (wr := LW gL jw o) (w1 := OW G ho pn pa pf ae x3 ++ RW G pn adn r4 ++ RW G pa ada ra5 ++ FW G pf adf f6) hP hD [0, 1, 3, 4, 5, 6, 7, 8, 9, 10, 11, 12, 13, 14, 15, 16, 17, 18, 19, 20, 21, 22, 23, 24, 25, 26, 27, 28, 29, 30, 31] [2] sb_25e4c4fd82 sb_e40585b7f7 (by decide +kernel) (by decide +kernel) hk1 ht hFc hB
    have hP : va_P G.1 vwCl (OW G ho pn pa pf ae x3 ++ LW gL jw o ++ RW G pn adn r4 ++ RW G pa ada ra5 ++ FW G pf adf f6) H1 := hP.sub [1, 2, 0, 3, 4, 5, 6, 7, 8, 9, 10, 11, 12, 13, 14, 15, 16, 17, 18, 19, 20, 21, 22, 23, 24, 25, 26, 27, 28, 29, 30, 31] sb_13d50e5728
    have hD : va_D A (OW G ho pn pa pf ae x3 ++ LW gL jw o ++ RW G pn adn r4 ++ RW G pa ada ra5 ++ FW G pf adf f6) := hD.sub [1, 2, 0, 3, 4, 5, 6, 7, 8, 9, 10, 11, 12, 13, 14, 15, 16, 17, 18, 19, 20, 21, 22, 23, 24, 25, 26, 27, 28, 29, 30, 31] (by decide +kernel) sb_eddd18e5dc
    clear hB hk1 hFc ht hz1 hvm
    generalize H1 = H at hP hS ⊢
    obtain ⟨z7, rfl, w8⟩ := hw
    refine mf_i2lw hx hb dL_foresee_8 ?_
    refine va_last hx hb hK2 hP hD hS 2 2 rfl rfl (i := iI 0) (x := lI (wrI (z7))) (iI_in (z := 0) (by decide) (by decide) (by decide)) dL_foresee_9 (fun H locs hP hD hS => ?_)
    obtain ⟨ov9, eov9⟩ : ∃ z9 : Nat → Int64, z9 = vp_updL o (iI 0).toNatClampNeg (lI (wrI (z7))) := ⟨_, rfl⟩
    have hP : va_P G.1 vwCl (OW G ho pn pa pf ae x3 ++ LW gL jw ov9 ++ RW G pn adn r4 ++ RW G pa ada ra5 ++ FW G pf adf f6) H := by rw [eov9]; exact hP
    have hD : va_D A (OW G ho pn pa pf ae x3 ++ LW gL jw ov9 ++ RW G pn adn r4 ++ RW G pa ada ra5 ++ FW G pf adf f6) := by rw [eov9]; exact hD
    have f0_ov9 : ov9 0 = lI (wrI (z7)) := by rw [eov9]; exact if_pos (by decide)
    refine lv_goto (tgt := 21) hx hb dL_foresee_10 (by decide) ?_
    refine mf_iconst hx hb dL_foresee_21 ?_
    refine vx_ret ?_
    exact W.iret hx hb hr (fun t ht hW => ⟨⟨_, (x3, ov9, r4, ra5, f6), rfl, ⟨_, rfl, by (try dsimp only); exact ⟨w8.1.symm, w8.2.1, fun _ => ⟨_, f0_ov9, w8.2.2⟩, fun z9 => absurd w8.1 z9⟩⟩, by rw [ht]; exact hP, hD⟩, hS.F ht⟩) hS.2.2 dL_foresee_22
set_option maxHeartbeats 4000000 in
set_option maxRecDepth 100000 in
theorem c_L_loses (l : Launch) (hl9 : l.stackTraces = false) (G : mf_G) (gL : ClassId) (ho pn pa pf : Nat) (ae : Nat) (x : mf_V) (jw : Nat) (o : Nat → Int64) (adn : Nat → Nat) (r : mf_V) (ada : Nat → Nat) (ra : mf_V) (adf : Nat → Nat) (f : mf_V)  (kv : Int) (Yv : Int) (hkv : i32 kv) (okx : rOK xlo xhi x) (ok : rOK rlo rhi r) (okra : rOK rlo rhi ra) (okf : rOK flo fhi f) (hI : RInv r) (hB : bdP r Yv) (hYv : 0 ≤ Yv ∧ Yv + 100 ≤ 60000) (sz : Nat) : vx_Met l yL_loses wsL_loses ({ frames := 7, cells := 1, slots := 6, locals := 166 }) (va_Pc [.ref ho, .int (iI (kv)), .ref jw] (WrPy G gL (OW G ho pn pa pf ae x ++ LW gL jw o ++ RW G pn adn r ++ RW G pa ada ra ++ FW G pf adf f) sz)) (va_Qi (fun q9 (u : mf_V × (Nat → Int64) × mf_V × mf_V × mf_V) => ∃ z : Int, q9 = iI z ∧ z = kLose f kv ∧ (rOK xlo xhi u.1 ∧ rOK rlo rhi u.2.2.1 ∧ rOK rlo rhi u.2.2.2.1 ∧ rOK flo fhi u.2.2.2.2) ∧ (kLose f kv = 0 → ∃ v : Int, u.2.1 0 = lI (wrI v) ∧ (∃ ch nv, LoseP f (rC r) kv ch nv ∧ v = vLose f (rC r) kv ch nv) ∧ u.2.2.1 = r ∧ u.2.2.2.2 = f) ∧ (¬ kLose f kv = 0 → u.1 = x ∧ u.2.2.1 = r ∧ u.2.2.2.1 = ra ∧ u.2.2.2.2 = f)) (fun (u : mf_V × (Nat → Int64) × mf_V × mf_V × mf_V) t => WrQ G (va_A (OW G ho pn pa pf ae x ++ LW gL jw o ++ RW G pn adn r ++ RW G pa ada ra ++ FW G pf adf f) sz) (OW G ho pn pa pf ae (u.1) ++ LW gL jw (u.2.1) ++ RW G pn adn (u.2.2.1) ++ RW G pa ada (u.2.2.2.1) ++ FW G pf adf (u.2.2.2.2)) t) (va_A (OW G ho pn pa pf ae x ++ LW gL jw o ++ RW G pn adn r ++ RW G pa ada ra ++ FW G pf adf f) sz)) (vx_X (fun _ : Unit => False) (fun _ _ _ => False) (va_A (OW G ho pn pa pf ae x ++ LW gL jw o ++ RW G pn adn r ++ RW G pa ada ra ++ FW G pf adf f) sz)) 1 6 (va_A (OW G ho pn pa pf ae x ++ LW gL jw o ++ RW G pn adn r ++ RW G pa ada ra ++ FW G pf adf f) sz) := by
  refine vx_ofWH (cc := cL_loses) (maxL := 4) (ret := (some .int)) (hh := [(0, 9, 12, 13)]) (by decide +kernel) rfl ?_
  intro p e s m args below meth c s₁ B hml hv
  obtain ⟨rfl, hsz, hP, hK, hD0, hN, hSX, hCX, hZ, hNX⟩ := hv
  have hx := B.exec
  have hb := B.bytes
  have hr := B.returns
  have hts := atoms_spec (ws := wsL_loses) B.pre
  have hown : s.vm.findClass RL = some m.cls := findClass_of_methodNamed B.named
  have hlocks := B.notSynchronized
  have hK2 := hK
  have hK := hK2.sub (tys' := mf_ty G) [0, 1] rfl
  have htab := vx_table (x := yL_loses) B (hts (.codeWith yL_loses cL_loses 4 (some .int) [(0, 9, 12, 13)]) List.mem_cons_self)
  subst hsz
  have hD := hD0.self (sz := s.heap.size)
  generalize hAe : va_A (OW G ho pn pa pf ae x ++ LW gL jw o ++ RW G pn adn r ++ RW G pa ada ra ++ FW G pf adf f) s.heap.size = A at hD hZ ⊢
  have hA : ∀ q : Nat, s.heap.size ≤ q → A q := fun q h => by rw [← hAe]; exact Or.inr h
  have hS : va_S A s.heap s.heap [] := va_S.rf
  have hl := lv_entry ([.ref ho, .int (iI (kv)), .ref jw]) (n := 4) (Nat.le_of_ble_eq_true rfl)
  rw [lg_entry_eq]
  generalize (lg_sl ([.ref ho, .int (iI (kv)), .ref jw]) ++ List.replicate (4 - (lg_sl ([.ref ho, .int (iI (kv)), .ref jw])).length) Slot.unset).toArray = ls at hl ⊢
  have hl : lv_has ls 4 [(0, .ref ho), (1, .int (iI (kv))), (2, .ref jw)] := hl
  have hkv1 := hkv.1
  have hkv2 := hkv.2
  have okLr : (0 : Int) ≤ r 7 0 ∧ r 7 0 ≤ 150 := ok 7 0
  have okLra : (0 : Int) ≤ ra 7 0 ∧ ra 7 0 ≤ 150 := okra 7 0
  refine lv_aload_n hx hb dL_loses_0 rfl (lv_at hl 2 rfl) ?_
  refine mf_iconst hx hb dL_loses_1 ?_
  refine lv_aload_n hx hb dL_loses_2 rfl (lv_at hl 0 rfl) ?_
  refine lv_iload_n hx hb dL_loses_3 rfl (lv_at hl 1 rfl) ?_
  have hFc := va_free (wc := OW G ho pn pa pf ae x ++ RW G pn adn r ++ RW G pa ada ra ++ FW G pf adf f) hD hS hA [0, 1, 3, 4, 5, 6, 7, 8, 9, 10, 11, 12, 13, 14, 15, 16, 17, 18, 19, 20, 21, 22, 23, 24, 25, 26, 27, 28, 29, 30, 31] sb_25e4c4fd82
  refine vx_calli (vx_runV (As := [.int (iI (kv))]) (rest := [.int (iI (0)), .ref jw]) ⟨hx, hb, hml, hown, hts⟩ (c_X2_loses l hl9 G ho pn pa pf ae x adn r ada ra adf f (kv) (Yv) (i32_mk (by omega) (by omega)) (by assumption) (by assumption) (by assumption) (by assumption) (by first | assumption | omega) (by first | assumption | omega) (by first | assumption | omega) _) (cwV 1 hts gL_loses_X2_loses rfl rfl rfl (by decide +kernel) ⟨Nat.le_of_ble_eq_true rfl, Nat.le_of_ble_eq_true rfl⟩) (wrVx (wc := OW G ho pn pa pf ae x ++ RW G pn adn r ++ RW G pa ada ra ++ FW G pf adf f) hSX hCX hZ hS hFc hK hP hD hN [0, 1, 3, 4, 5, 6, 7, 8, 9, 10, 11, 12, 13, 14, 15, 16, 17, 18, 19, 20, 21, 22, 23, 24, 25, 26, 27, 28, 29, 30, 31] (by decide +kernel) sb_f976e10569 sb_25e4c4fd82 (ci := 2) rfl rfl) rfl rfl hl.1 rfl (lv_room (Nat.le_of_ble_eq_true rfl)) dL_loses_4 ⟨Nat.le_of_ble_eq_true rfl, Nat.le_of_ble_eq_true rfl⟩) hS (fun q _ h => hFc q h) hFc (fun q _ h => hFc q h) (fun E ce q9 _ t H1 locs ht hvm _ hB hz1 hk1 hS hce hcv hcl => ?_) (fun q1 u2 t H1 locs ht hvm hw hB hz1 hk1 hS => ?_)
  · skip
    obtain ⟨hxp, hB⟩ := hB
    obtain ⟨hP, hD⟩ := wrJ2 (ws := OW G ho pn pa pf ae x ++ LW gL jw o ++ RW G pn adn r ++ RW G pa ada ra ++ FW G pf adf f) (wc := OW G ho pn pa pf ae x ++ RW G pn adn r ++ RW G pa ada ra ++ FW G pf adf f) (wr := LW gL jw o) (w1 := OW G ho pn pa pf ae x ++ RW G pn adn r ++ RW G pa ada ra ++ FW G pf adf f) hP hD [0, 1, 3, 4, 5, 6, 7, 8, 9, 10, 11, 12, 13, 14, 15, 16, 17, 18, 19, 20, 21, 22, 23, 24, 25, 26, 27, 28, 29, 30, 31] [2] sb_25e4c4fd82 sb_e40585b7f7 (by decide +kernel) (by decide +kernel) hk1 ht hFc hB
    have hP : va_P G.1 vwCl (OW G ho pn pa pf ae x ++ LW gL jw o ++ RW G pn adn r ++ RW G pa ada ra ++ FW G pf adf f) H1 := hP.sub [1, 2, 0, 3, 4, 5, 6, 7, 8, 9, 10, 11, 12, 13, 14, 15, 16, 17, 18, 19, 20, 21, 22, 23, 24, 25, 26, 27, 28, 29, 30, 31] sb_13d50e5728
    have hD : va_D A (OW G ho pn pa pf ae x ++ LW gL jw o ++ RW G pn adn r ++ RW G pa ada ra ++ FW G pf adf f) := hD.sub [1, 2, 0, 3, 4, 5, 6, 7, 8, 9, 10, 11, 12, 13, 14, 15, 16, 17, 18, 19, 20, 21, 22, 23, 24, 25, 26, 27, 28, 29, 30, 31] (by decide +kernel) sb_eddd18e5dc
    clear hB hk1 hFc ht hz1 hvm
    generalize H1 = H at hP hS hce ⊢
    rcases hxp with ⟨rfl, hk9⟩
    · skip
      refine vx_catch (name := xIO) hown [] ⟨0, 9, 12, 13⟩ [] htab (fun z hz => by cases hz) (by decide) (by decide) (hts (.classLink RL 13 "java/lang/IndexOutOfBoundsException") (List.mem_of_getElem? (i := 1) rfl)) (va_Nw.use rfl hCX.1) hce hcv hcl ?_
      refine lv_astore_n (lv' := [(3, .ref q9), (0, .ref ho), (1, .int (iI (kv))), (2, .ref jw)]) hx hb dL_loses_12 rfl hl (by decide) rfl (fun ls hl => ?_)
      refine mf_iconst hx hb dL_loses_13 ?_
      refine vx_ret ?_
      exact W.iret hx hb hr (fun t ht hW => ⟨⟨_, (x, o, r, ra, f), rfl, ⟨_, rfl, by (try dsimp only); exact ⟨hk9.symm, ⟨okx, ok, okra, okf⟩, fun z9 => absurd (hk9.symm.trans z9) (by decide), fun _ => ⟨rfl, rfl, rfl, rfl⟩⟩⟩, by rw [ht]; exact hP, hD⟩, hS.F ht⟩) hS.2.2 dL_loses_14
  · skip
    obtain ⟨x3, r4, ra5, f6⟩ := u2
    try dsimp only at hw hB
    obtain ⟨hP, hD⟩ := wrJ2 (ws := OW G ho pn pa pf ae x ++ LW gL jw o ++ RW G pn adn r ++ RW G pa ada ra ++ FW G pf adf f) (wc := OW G ho pn pa pf ae x ++ RW G pn adn r ++ RW G pa ada ra ++ FW G pf adf f) (wr := LW gL jw o) (w1 := OW G ho pn pa pf ae x3 ++ RW G pn adn r4 ++ RW G pa ada ra5 ++ FW G pf adf f6) hP hD [0, 1, 3, 4, 5, 6, 7, 8, 9, 10, 11, 12, 13, 14, 15, 16, 17, 18, 19, 20, 21, 22, 23, 24, 25, 26, 27, 28, 29, 30, 31] [2] sb_25e4c4fd82 sb_e40585b7f7 (by decide +kernel) (by decide +kernel) hk1 ht hFc hB
    have hP : va_P G.1 vwCl (OW G ho pn pa pf ae x3 ++ LW gL jw o ++ RW G pn adn r4 ++ RW G pa ada ra5 ++ FW G pf adf f6) H1 := hP.sub [1, 2, 0, 3, 4, 5, 6, 7, 8, 9, 10, 11, 12, 13, 14, 15, 16, 17, 18, 19, 20, 21, 22, 23, 24, 25, 26, 27, 28, 29, 30, 31] sb_13d50e5728
    have hD : va_D A (OW G ho pn pa pf ae x3 ++ LW gL jw o ++ RW G pn adn r4 ++ RW G pa ada ra5 ++ FW G pf adf f6) := hD.sub [1, 2, 0, 3, 4, 5, 6, 7, 8, 9, 10, 11, 12, 13, 14, 15, 16, 17, 18, 19, 20, 21, 22, 23, 24, 25, 26, 27, 28, 29, 30, 31] (by decide +kernel) sb_eddd18e5dc
    clear hB hk1 hFc ht hz1 hvm
    generalize H1 = H at hP hS ⊢
    obtain ⟨z7, rfl, w8⟩ := hw
    refine mf_i2lw hx hb dL_loses_7 ?_
    refine va_last hx hb hK2 hP hD hS 2 2 rfl rfl (i := iI 0) (x := lI (wrI (z7))) (iI_in (z := 0) (by decide) (by decide) (by decide)) dL_loses_8 (fun H locs hP hD hS => ?_)
    obtain ⟨ov9, eov9⟩ : ∃ z9 : Nat → Int64, z9 = vp_updL o (iI 0).toNatClampNeg (lI (wrI (z7))) := ⟨_, rfl⟩
    have hP : va_P G.1 vwCl (OW G ho pn pa pf ae x3 ++ LW gL jw ov9 ++ RW G pn adn r4 ++ RW G pa ada ra5 ++ FW G pf adf f6) H := by rw [eov9]; exact hP
    have hD : va_D A (OW G ho pn pa pf ae x3 ++ LW gL jw ov9 ++ RW G pn adn r4 ++ RW G pa ada ra5 ++ FW G pf adf f6) := by rw [eov9]; exact hD
    have f0_ov9 : ov9 0 = lI (wrI (z7)) := by rw [eov9]; exact if_pos (by decide)
    refine lv_goto (tgt := 15) hx hb dL_loses_9 (by decide) ?_
    refine mf_iconst hx hb dL_loses_15 ?_
    refine vx_ret ?_
    exact W.iret hx hb hr (fun t ht hW => ⟨⟨_, (x3, ov9, r4, ra5, f6), rfl, ⟨_, rfl, by (try dsimp only); exact ⟨w8.1.symm, w8.2.1, fun _ => ⟨_, f0_ov9, w8.2.2⟩, fun z9 => absurd w8.1 z9⟩⟩, by rw [ht]; exact hP, hD⟩, hS.F ht⟩) hS.2.2 dL_loses_16
set_option maxHeartbeats 4000000 in
set_option maxRecDepth 100000 in
theorem c_L_advise (l : Launch) (hl9 : l.stackTraces = false) (G : mf_G) (gL : ClassId) (ho pn pa pf : Nat) (ae : Nat) (x : mf_V) (jw : Nat) (o : Nat → Int64) (adn : Nat → Nat) (r : mf_V) (ada : Nat → Nat) (ra : mf_V) (adf : Nat → Nat) (f : mf_V)  (kv : Int) (yv : Int) (Yv : Int) (hkv : i32 kv) (hyv : i32 yv) (okx : rOK xlo xhi x) (ok : rOK rlo rhi r) (okra : rOK rlo rhi ra) (okf : rOK flo fhi f) (hI : RInv r) (hB : bdP r Yv) (hYv : 0 ≤ Yv ∧ Yv + 100 ≤ 60000) (sz : Nat) : vx_Met l yL_advise wsL_advise ({ frames := 8, cells := 1, slots := 6, locals := 192 }) (va_Pc [.ref ho, .int (iI (kv)), .int (iI (yv)), .ref jw] (WrPy G gL (OW G ho pn pa pf ae x ++ LW gL jw o ++ RW G pn adn r ++ RW G pa ada ra ++ FW G pf adf f) sz)) (va_Qi (fun q9 (u : mf_V × (Nat → Int64) × mf_V × mf_V × mf_V) => ∃ z : Int, q9 = iI z ∧ z = kAdv f kv yv ∧ (rOK xlo xhi u.1 ∧ rOK rlo rhi u.2.2.1 ∧ rOK rlo rhi u.2.2.2.1 ∧ rOK flo fhi u.2.2.2.2) ∧ (kAdv f kv yv = 0 → ∃ v : Int, u.2.1 0 = lI (wrI v) ∧ (∃ q0 b0 Qf bf, (YearsR yv (rC r) q0 b0 ∧ rOK rlo rhi q0 ∧ RInv q0) ∧ AdvQ (rC r) yv Qf bf 384 ∧ v = (advG f (rC r) kv q0 Qf 384).2) ∧ u.2.2.1 = r ∧ u.2.2.2.2 = f) ∧ (¬ kAdv f kv yv = 0 → u.1 = x ∧ u.2.2.1 = r ∧ u.2.2.2.1 = ra ∧ u.2.2.2.2 = f)) (fun (u : mf_V × (Nat → Int64) × mf_V × mf_V × mf_V) t => WrQ G (va_A (OW G ho pn pa pf ae x ++ LW gL jw o ++ RW G pn adn r ++ RW G pa ada ra ++ FW G pf adf f) sz) (OW G ho pn pa pf ae (u.1) ++ LW gL jw (u.2.1) ++ RW G pn adn (u.2.2.1) ++ RW G pa ada (u.2.2.2.1) ++ FW G pf adf (u.2.2.2.2)) t) (va_A (OW G ho pn pa pf ae x ++ LW gL jw o ++ RW G pn adn r ++ RW G pa ada ra ++ FW G pf adf f) sz)) (vx_X (fun _ : Unit => False) (fun _ _ _ => False) (va_A (OW G ho pn pa pf ae x ++ LW gL jw o ++ RW G pn adn r ++ RW G pa ada ra ++ FW G pf adf f) sz)) 1 6 (va_A (OW G ho pn pa pf ae x ++ LW gL jw o ++ RW G pn adn r ++ RW G pa ada ra ++ FW G pf adf f) sz) := by
  refine vx_ofWH (cc := cL_advise) (maxL := 5) (ret := (some .int)) (hh := [(0, 10, 13, 13), (0, 10, 17, 15)]) (by decide +kernel) rfl ?_
  intro p e s m args below meth c s₁ B hml hv
  obtain ⟨rfl, hsz, hP, hK, hD0, hN, hSX, hCX, hZ, hNX⟩ := hv
  have hx := B.exec
  have hb := B.bytes
  have hr := B.returns
  have hts := atoms_spec (ws := wsL_advise) B.pre
  have hown : s.vm.findClass RL = some m.cls := findClass_of_methodNamed B.named
  have hlocks := B.notSynchronized
  have hK2 := hK
  have hK := hK2.sub (tys' := mf_ty G) [0, 1] rfl
  have htab := vx_table (x := yL_advise) B (hts (.codeWith yL_advise cL_advise 5 (some .int) [(0, 10, 13, 13), (0, 10, 17, 15)]) List.mem_cons_self)
  subst hsz
  have hD := hD0.self (sz := s.heap.size)
  generalize hAe : va_A (OW G ho pn pa pf ae x ++ LW gL jw o ++ RW G pn adn r ++ RW G pa ada ra ++ FW G pf adf f) s.heap.size = A at hD hZ ⊢
  have hA : ∀ q : Nat, s.heap.size ≤ q → A q := fun q h => by rw [← hAe]; exact Or.inr h
  have hS : va_S A s.heap s.heap [] := va_S.rf
  have hl := lv_entry ([.ref ho, .int (iI (kv)), .int (iI (yv)), .ref jw]) (n := 5) (Nat.le_of_ble_eq_true rfl)
  rw [lg_entry_eq]
  generalize (lg_sl ([.ref ho, .int (iI (kv)), .int (iI (yv)), .ref jw]) ++ List.replicate (5 - (lg_sl ([.ref ho, .int (iI (kv)), .int (iI (yv)), .ref jw])).length) Slot.unset).toArray = ls at hl ⊢
  have hl : lv_has ls 5 [(0, .ref ho), (1, .int (iI (kv))), (2, .int (iI (yv))), (3, .ref jw)] := hl
  have hkv1 := hkv.1
  have hkv2 := hkv.2
  have hyv1 := hyv.1
  have hyv2 := hyv.2
  have okLr : (0 : Int) ≤ r 7 0 ∧ r 7 0 ≤ 150 := ok 7 0
  have okLra : (0 : Int) ≤ ra 7 0 ∧ ra 7 0 ≤ 150 := okra 7 0
  refine lv_aload_n hx hb dL_advise_0 rfl (lv_at hl 3 rfl) ?_
  refine mf_iconst hx hb dL_advise_1 ?_
  refine lv_aload_n hx hb dL_advise_2 rfl (lv_at hl 0 rfl) ?_
  refine lv_iload_n hx hb dL_advise_3 rfl (lv_at hl 1 rfl) ?_
  refine lv_iload_n hx hb dL_advise_4 rfl (lv_at hl 2 rfl) ?_
  have hFc := va_free (wc := OW G ho pn pa pf ae x ++ RW G pn adn r ++ RW G pa ada ra ++ FW G pf adf f) hD hS hA [0, 1, 3, 4, 5, 6, 7, 8, 9, 10, 11, 12, 13, 14, 15, 16, 17, 18, 19, 20, 21, 22, 23, 24, 25, 26, 27, 28, 29, 30, 31] sb_25e4c4fd82
  refine vx_calli (vx_runV (As := [.int (iI (kv)), .int (iI (yv))]) (rest := [.int (iI (0)), .ref jw]) ⟨hx, hb, hml, hown, hts⟩ (c_X2_advise l hl9 G ho pn pa pf ae x adn r ada ra adf f (kv) (yv) (Yv) (i32_mk (by omega) (by omega)) (i32_mk (by omega) (by omega)) (by assumption) (by assumption) (by assumption) (by assumption) (by first | assumption | omega) (by first | assumption | omega) (by first | assumption | omega) _) (cwV 2 hts gL_advise_X2_advise rfl rfl rfl (by decide +kernel) ⟨Nat.le_of_ble_eq_true rfl, Nat.le_of_ble_eq_true rfl⟩) (wrVx (wc := OW G ho pn pa pf ae x ++ RW G pn adn r ++ RW G pa ada ra ++ FW G pf adf f) hSX hCX hZ hS hFc hK hP hD hN [0, 1, 3, 4, 5, 6, 7, 8, 9, 10, 11, 12, 13, 14, 15, 16, 17, 18, 19, 20, 21, 22, 23, 24, 25, 26, 27, 28, 29, 30, 31] (by decide +kernel) sb_f976e10569 sb_25e4c4fd82 (ci := 2) rfl rfl) rfl rfl hl.1 rfl (lv_room (Nat.le_of_ble_eq_true rfl)) dL_advise_5 ⟨Nat.le_of_ble_eq_true rfl, Nat.le_of_ble_eq_true rfl⟩) hS (fun q _ h => hFc q h) hFc (fun q _ h => hFc q h) (fun E ce q9 _ t H1 locs ht hvm _ hB hz1 hk1 hS hce hcv hcl => ?_) (fun q1 u2 t H1 locs ht hvm hw hB hz1 hk1 hS => ?_)
  · skip
    obtain ⟨hxp, hB⟩ := hB
    obtain ⟨hP, hD⟩ := wrJ2 (ws := OW G ho pn pa pf ae x ++ LW gL jw o ++ RW G pn adn r ++ RW G pa ada ra ++ FW G pf adf f) (wc := OW G ho pn pa pf ae x ++ RW G pn adn r ++ RW G pa ada ra ++ FW G pf adf f) (wr := LW gL jw o) (w1 := OW G ho pn pa pf ae x ++ RW G pn adn r ++ RW G pa ada ra ++ FW G pf adf f) hP hD [0, 1, 3, 4, 5, 6, 7, 8, 9, 10, 11, 12, 13, 14, 15, 16, 17, 18, 19, 20, 21, 22, 23, 24, 25, 26, 27, 28, 29, 30, 31] [2] sb_25e4c4fd82 sb_e40585b7f7 (by decide +kernel) (by decide +kernel) hk1 ht hFc hB
    have hP : va_P G.1 vwCl (OW G ho pn pa pf ae x ++ LW gL jw o ++ RW G pn adn r ++ RW G pa ada ra ++ FW G pf adf f) H1 := hP.sub [1, 2, 0, 3, 4, 5, 6, 7, 8, 9, 10, 11, 12, 13, 14, 15, 16, 17, 18, 19, 20, 21, 22, 23, 24, 25, 26, 27, 28, 29, 30, 31] sb_13d50e5728
    have hD : va_D A (OW G ho pn pa pf ae x ++ LW gL jw o ++ RW G pn adn r ++ RW G pa ada ra ++ FW G pf adf f) := hD.sub [1, 2, 0, 3, 4, 5, 6, 7, 8, 9, 10, 11, 12, 13, 14, 15, 16, 17, 18, 19, 20, 21, 22, 23, 24, 25, 26, 27, 28, 29, 30, 31] (by decide +kernel) sb_eddd18e5dc
    clear hB hk1 hFc ht hz1 hvm
    generalize H1 = H at hP hS hce ⊢
    rcases hxp with ⟨rfl, hk9⟩ | ⟨rfl, hk9⟩
    · skip
      refine vx_catch (name := xIO) hown [] ⟨0, 10, 13, 13⟩ [⟨0, 10, 17, 15⟩] htab (fun z hz => by cases hz) (by decide) (by decide) (hts (.classLink RL 13 "java/lang/IndexOutOfBoundsException") (List.mem_of_getElem? (i := 1) rfl)) (va_Nw.use rfl hCX.1) hce hcv hcl ?_
      refine lv_astore (lv' := [(4, .ref q9), (0, .ref ho), (1, .int (iI (kv))), (2, .int (iI (yv))), (3, .ref jw)]) hx hb dL_advise_13 hl (by decide) rfl (fun ls hl => ?_)
      refine mf_iconst hx hb dL_advise_15 ?_
      refine vx_ret ?_
      exact W.iret hx hb hr (fun t ht hW => ⟨⟨_, (x, o, r, ra, f), rfl, ⟨_, rfl, by (try dsimp only); exact ⟨hk9.symm, ⟨okx, ok, okra, okf⟩, fun z9 => absurd (hk9.symm.trans z9) (by decide), fun _ => ⟨rfl, rfl, rfl, rfl⟩⟩⟩, by rw [ht]; exact hP, hD⟩, hS.F ht⟩) hS.2.2 dL_advise_16
    · skip
      refine vx_catch (name := xIA) hown [⟨0, 10, 13, 13⟩] ⟨0, 10, 17, 15⟩ [] htab (fun z hz => by (rcases List.mem_cons.mp hz with rfl | hz; exact Or.inr ⟨by decide, _, (hts (.classLink RL 13 "java/lang/IndexOutOfBoundsException") (List.mem_of_getElem? (i := 1) rfl)), hNX.1⟩); cases hz) (by decide) (by decide) (hts (.classLink RL 15 "java/lang/IllegalArgumentException") (List.mem_of_getElem? (i := 2) rfl)) (va_Nw.use rfl hCX.2.1) hce hcv hcl ?_
      refine lv_astore (lv' := [(4, .ref q9), (0, .ref ho), (1, .int (iI (kv))), (2, .int (iI (yv))), (3, .ref jw)]) hx hb dL_advise_17 hl (by decide) rfl (fun ls hl => ?_)
      refine mf_iconst hx hb dL_advise_19 ?_
      refine vx_ret ?_
      exact W.iret hx hb hr (fun t ht hW => ⟨⟨_, (x, o, r, ra, f), rfl, ⟨_, rfl, by (try dsimp only); exact ⟨hk9.symm, ⟨okx, ok, okra, okf⟩, fun z9 => absurd (hk9.symm.trans z9) (by decide), fun _ => ⟨rfl, rfl, rfl, rfl⟩⟩⟩, by rw [ht]; exact hP, hD⟩, hS.F ht⟩) hS.2.2 dL_advise_20
  · skip
    obtain ⟨x3, r4, ra5, f6⟩ := u2
    try dsimp only at hw hB
    obtain ⟨hP, hD⟩ := wrJ2 (ws := OW G ho pn pa pf ae x ++ LW gL jw o ++ RW G pn adn r ++ RW G pa ada ra ++ FW G pf adf f) (wc := OW G ho pn pa pf ae x ++ RW G pn adn r ++ RW G pa ada ra ++ FW G pf adf f) (wr := LW gL jw o) (w1 := OW G ho pn pa pf ae x3 ++ RW G pn adn r4 ++ RW G pa ada ra5 ++ FW G pf adf f6) hP hD [0, 1, 3, 4, 5, 6, 7, 8, 9, 10, 11, 12, 13, 14, 15, 16, 17, 18, 19, 20, 21, 22, 23, 24, 25, 26, 27, 28, 29, 30, 31] [2] sb_25e4c4fd82 sb_e40585b7f7 (by decide +kernel) (by decide +kernel) hk1 ht hFc hB
    have hP : va_P G.1 vwCl (OW G ho pn pa pf ae x3 ++ LW gL jw o ++ RW G pn adn r4 ++ RW G pa ada ra5 ++ FW G pf adf f6) H1 := hP.sub [1, 2, 0, 3, 4, 5, 6, 7, 8, 9, 10, 11, 12, 13, 14, 15, 16, 17, 18, 19, 20, 21, 22, 23, 24, 25, 26, 27, 28, 29, 30, 31] sb_13d50e5728
    have hD : va_D A (OW G ho pn pa pf ae x3 ++ LW gL jw o ++ RW G pn adn r4 ++ RW G pa ada ra5 ++ FW G pf adf f6) := hD.sub [1, 2, 0, 3, 4, 5, 6, 7, 8, 9, 10, 11, 12, 13, 14, 15, 16, 17, 18, 19, 20, 21, 22, 23, 24, 25, 26, 27, 28, 29, 30, 31] (by decide +kernel) sb_eddd18e5dc
    clear hB hk1 hFc ht hz1 hvm
    generalize H1 = H at hP hS ⊢
    obtain ⟨z7, rfl, w8⟩ := hw
    refine mf_i2lw hx hb dL_advise_8 ?_
    refine va_last hx hb hK2 hP hD hS 2 2 rfl rfl (i := iI 0) (x := lI (wrI (z7))) (iI_in (z := 0) (by decide) (by decide) (by decide)) dL_advise_9 (fun H locs hP hD hS => ?_)
    obtain ⟨ov9, eov9⟩ : ∃ z9 : Nat → Int64, z9 = vp_updL o (iI 0).toNatClampNeg (lI (wrI (z7))) := ⟨_, rfl⟩
    have hP : va_P G.1 vwCl (OW G ho pn pa pf ae x3 ++ LW gL jw ov9 ++ RW G pn adn r4 ++ RW G pa ada ra5 ++ FW G pf adf f6) H := by rw [eov9]; exact hP
    have hD : va_D A (OW G ho pn pa pf ae x3 ++ LW gL jw ov9 ++ RW G pn adn r4 ++ RW G pa ada ra5 ++ FW G pf adf f6) := by rw [eov9]; exact hD
    have f0_ov9 : ov9 0 = lI (wrI (z7)) := by rw [eov9]; exact if_pos (by decide)
    refine lv_goto (tgt := 21) hx hb dL_advise_10 (by decide) ?_
    refine mf_iconst hx hb dL_advise_21 ?_
    refine vx_ret ?_
    exact W.iret hx hb hr (fun t ht hW => ⟨⟨_, (x3, ov9, r4, ra5, f6), rfl, ⟨_, rfl, by (try dsimp only); exact ⟨w8.1.symm, w8.2.1, fun _ => ⟨_, f0_ov9, w8.2.2⟩, fun z9 => absurd w8.1 z9⟩⟩, by rw [ht]; exact hP, hD⟩, hS.F ht⟩) hS.2.2 dL_advise_22
