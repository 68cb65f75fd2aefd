/-! 51.cls: the calls of MeanderFarm -/
abbrev xNm : List String := ["java/lang/RuntimeException", "java/lang/Exception"]
abbrev xIO : String := "java/lang/IndexOutOfBoundsException"
abbrev xIA : String := "java/lang/IllegalArgumentException"
abbrev xIS : String := "java/lang/IllegalStateException"
def txts : List (Nat × String) := [(40, "no such cell"), (50, "hardness is not 1 to 9"), (64, "year is not 0 to 11"), (66, "flow is not 1 to 9"), (84, "what is not 0 to 5"), (89, "no such cell of the course"), (106, "what is not 0 to 4"), (108, "side is not 0 to 3"), (116, "a bulge to this side cannot be"), (130, "both are no neck"), (151, "what is not 0 to 3"), (157, "the farm is empty, or not all in the plain"), (162, "there are 6 farms"), (171, "no such farm"), (177, "years is not 1 to 100"), (182, "what is not 0 to 7"), (187, "what is not 0 to 2"), (187, "what is not 0 to 2")]
/-- the texts of the exceptions -/
def SX (U : State) : Prop := ∀ q ∈ txts, ∃ a, vk_R RX2 q.1 q.2 a U
def CX (U : State) : Prop := va_Nw (.castable xIO xIO) U ∧ va_Nw (.castable xIA xIA) U ∧ va_Nw (.castable xIS xIS) U ∧ va_Nw (.declares (Bundle.initS "java/lang/RuntimeException")) U ∧ va_Nw (.declares (Bundle.initS "java/lang/Exception")) U ∧ va_Nw (.declares (Bundle.initS Bundle.tN)) U
/-- the two statics of Throwable -/
def ZX (A : Nat → Prop) (U : State) (H : Heap) : Prop := vx_Zq Bundle.tN "UNASSIGNED_STACK" Bundle.steD A U H ∧ vx_Zq Bundle.tN "SUPPRESSED_SENTINEL" Bundle.listD A U H
theorem SX.warm {s U : State} (hW : s.WarmedH U.vm) (h : SX s) : SX U := fun q hq => by obtain ⟨a, ha⟩ := h q hq; exact ⟨a, vk_R.warm hW ha⟩
theorem SX.same {u U : State} (hv : U.vm = u.vm) (h : SX u) : SX U := fun q hq => by obtain ⟨a, ha⟩ := h q hq; exact ⟨a, vk_R.same hv ha⟩
theorem CX.warm {s U : State} (hW : s.WarmedH U.vm) (h : CX s) : CX U := ⟨va_Nw.warmC hW h.1, va_Nw.warmC hW h.2.1, va_Nw.warmC hW h.2.2.1, va_Nw.warmD hW h.2.2.2.1, va_Nw.warmD hW h.2.2.2.2.1, va_Nw.warmD hW h.2.2.2.2.2⟩
theorem CX.same {u U : State} (hv : u.vm = U.vm) (h : CX u) : CX U := ⟨va_Nw.same rfl hv h.1, va_Nw.same rfl hv h.2.1, va_Nw.same rfl hv h.2.2.1, va_Nw.same rfl hv h.2.2.2.1, va_Nw.same rfl hv h.2.2.2.2.1, va_Nw.same rfl hv h.2.2.2.2.2⟩
theorem ZX.moved {A : Nat → Prop} {u U : State} {H : Heap} (hv : u.vm.Alike U.vm) (h : ZX A u H) : ZX A U H := ⟨h.1.moved hv, h.2.moved hv⟩
theorem ZX.kept {A : Nat → Prop} {U : State} {H H1 : Heap} (h : ZX A U H) (hq : ∀ a : Nat, a < H.size → ¬ A a → H1[a]? = H[a]?) : ZX A U H1 := ⟨h.1.kept hq, h.2.kept hq⟩
theorem ZX.narrow {A B : Nat → Prop} {U : State} {H : Heap} (h : ZX A U H) (hAB : ∀ q, B q → A q) : ZX B U H := ⟨h.1.narrow hAB, h.2.narrow hAB⟩
def WrPx (G : mf_G) (ws : va_W) (sz : Nat) (U : State) : Prop := U.heap.size = sz ∧ va_P G.1 vwCl ws U.heap ∧ va_K G.1 vwCl (mf_ty G) U ∧ va_D (fun _ => True) ws ∧ NW U ∧ SX U ∧ CX U ∧ ZX (va_A ws sz) U U.heap
theorem wrPx_blind {G : mf_G} {ws : va_W} {sz : Nat} {av : List Value} : FrameBlind (va_Pc av (WrPx G ws sz)) := fun a U g mk q => by
  obtain ⟨q0, q1, qP, qK, qD, qN, qS, qC, qZ⟩ := q
  exact ⟨q0, q1, qP, va_K.moved (u := U) (U := U.calling g mk a) (Vm.Alike.refl U.vm) qK, qD, NW.same (U := U.calling g mk a) rfl qN, SX.same (U := U.calling g mk a) rfl qS, CX.same (U := U.calling g mk a) rfl qC, ZX.moved (u := U) (U := U.calling g mk a) (Vm.Alike.refl U.vm) qZ⟩
theorem xg42 : ∀ w ∈ Cond.classLink RX2 38 xIO :: Cond.initialized xIO :: vx_atS RX2 42 xIO xNm, vx_ot w = true := List.all_eq_true.mp (by decide +kernel)
theorem xg52 : ∀ w ∈ Cond.classLink RX2 48 xIA :: Cond.initialized xIA :: vx_atS RX2 52 xIA xNm, vx_ot w = true := List.all_eq_true.mp (by decide +kernel)
theorem xg118 : ∀ w ∈ Cond.classLink RX2 114 xIS :: Cond.initialized xIS :: vx_atS RX2 118 xIS xNm, vx_ot w = true := List.all_eq_true.mp (by decide +kernel)
theorem xb42 : ∀ w ∈ (vx_atS RX2 42 xIO xNm).filter (fun w => !goodWord w), w ∈ [Cond.castable xIO xIO, Cond.declares (Bundle.initS "java/lang/RuntimeException"), Cond.declares (Bundle.initS "java/lang/Exception"), Cond.declares (Bundle.initS Bundle.tN)] := by decide +kernel
theorem xb52 : ∀ w ∈ (vx_atS RX2 52 xIA xNm).filter (fun w => !goodWord w), w ∈ [Cond.castable xIA xIA, Cond.declares (Bundle.initS "java/lang/RuntimeException"), Cond.declares (Bundle.initS "java/lang/Exception"), Cond.declares (Bundle.initS Bundle.tN)] := by decide +kernel
theorem xb118 : ∀ w ∈ (vx_atS RX2 118 xIS xNm).filter (fun w => !goodWord w), w ∈ [Cond.castable xIS xIS, Cond.declares (Bundle.initS "java/lang/RuntimeException"), Cond.declares (Bundle.initS "java/lang/Exception"), Cond.declares (Bundle.initS Bundle.tN)] := by decide +kernel
theorem mf_throw {p : Program} {l : Launch} {e : Env} {R : Room} {s : State} {m : MethodId} {args : Array Value} {below : List Frame} {meth : Method} {c : Code} {H : Heap} {locs : List Loc} {cells slots : Nat} {cc : ByteArray} {pc : Nat} {ls : Array Slot} {rest : List Value} {G : mf_G} {ws : va_W} {A : Nat → Prop} {mc ms : Nat} {Qc : Array Value → State → Outcome → State → Prop} {XP : String → Prop}
    (hx : p.tables.exec = Jvm.exec) (hb : c.code = cc) (hl9 : l.stackTraces = false) (hown : s.vm.findClass RX2 = some m.cls) {cls text : String} {ik is ic : Nat} (hcls : Bundle.fit cls = true) (hk : (Cond.classLink RX2 ik cls).before args s = true) (hini : (Cond.initialized cls).before args s = true)
    (hSX : SX s) (htx : (is, text) ∈ txts) (hat : ∀ w ∈ vx_atS RX2 ic cls xNm, w.before args s = true) (hgood : ∀ w ∈ Cond.classLink RX2 ik cls :: Cond.initialized cls :: vx_atS RX2 ic cls xNm, vx_ot w = true)
    (hZ : ZX A s s.heap) (hP : va_P G.1 vwCl ws H) (hD : va_D A ws) (hS : va_S A s.heap H locs) (hsize : ls.size = c.maxLocals)
    (d0 : decode cc pc = .ok (.new ik, 3)) (d3 : decode cc (pc + 3) = .ok (.dup, 1)) (d4 : decode cc (pc + 4) = .ok (.ldc is, 2)) (d6 : decode cc (pc + 6) = .ok (.invokespecial ic, 3)) (d9 : decode cc (pc + 9) = .ok (.athrow, 1))
    (hexc : ∀ x ∈ c.exceptionTable.toList, False) (hRf : 6 ≤ R.frames) (hRl : (rest.map fun v => v.category).sum + 82 ≤ R.locals) (hRc : cells + 1 ≤ R.cells) (hRs : slots + 6 ≤ R.slots) (hlocks : meth.locks = false) (hXP : XP cls) (hc : cells + 1 ≤ mc) (hs : slots + 6 ≤ ms) :
    W p l e R s m args below meth c H locs cells slots (vx_MQ below Qc (vx_X (fun _ : Unit => True) (fun E _ t => XP E ∧ WrQ G A ws t) A) args s mc ms A) (F0 m pc ls rest) := by
  obtain ⟨sa, hstr⟩ := hSX _ htx
  exact vx_throwS hx hb hl9 hown hcls (by decide +kernel) hk hini hstr hat hgood hZ.1 hZ.2 hS hsize d0 d3 d4 d6 d9 (fun x h => (hexc x h).elim) hRf hRl hRc hRs hlocks (fun t hvm hz hq => ⟨(), trivial, ⟨hXP, hP.kept (fun k x hx => hq x.1 ((hP k x hx).lt)), hD⟩, Nat.le_trans hS.1 hz, fun q h1 h2 => (hq q (Nat.lt_of_lt_of_le h1 hS.1)).trans (hS.2.1 q h1 h2)⟩) hS.2.2 hc hs
theorem cellNo_i (x y : Int) : (cellP x y ∧ cellNo x y = x + 24 * y) ∨ (¬ cellP x y ∧ cellNo x y = -1) := by
  unfold cellP cellNo
  by_cases q : x < 0 ∨ 24 ≤ x ∨ y < 0 ∨ 16 ≤ y
  · rw [if_pos q]; exact Or.inr ⟨by omega, rfl⟩
  · rw [if_neg q]; exact Or.inl ⟨by omega, rfl⟩
theorem dirPos {r : mf_V} (hI : RInv r) : ∀ j, strP r j → 0 ≤ r 11 j := fun j h => by
  unfold strP at h
  exact (dirW hI (by omega) (by omega)).1
/-- a river looked ahead at: copied -/
abbrev rC (r : mf_V) : mf_V := mf_sF r 4 (fun _ => 0)
theorem rC_ok {r : mf_V} (ok : rOK rlo rhi r) : rOK rlo rhi (rC r) := rOK_set ok 4 0 (show (0 : Int) ≤ 0 by decide) (show (0 : Int) ≤ 1 by decide)
theorem rC_I {r : mf_V} (hI : RInv r) : RInv (rC r) := RInv_cg (mf_sF_n (by decide)) (mf_sF_n (by decide)) (mf_sF_n (by decide)) (mf_sF_n (by decide)) (mf_sF_n (by decide)) (mf_sF_n (by decide)) hI
theorem rC_b {r : mf_V} {Y : Int} (h : bdP r Y) : bdP (rC r) Y := h
theorem cof_rC (f r : mf_V) (k w : Int) : cof f (rC r) k w = cof f r k w := rfl
/-- a farm more -/
def AddP (f q : mf_V) (x y w d : Int) : Prop := q 0 = mf_up (f 0) (f 4 0) x ∧ q 1 = mf_up (f 1) (f 4 0) y ∧ q 2 = mf_up (f 2) (f 4 0) w ∧ q 3 = mf_up (f 3) (f 4 0) d ∧ q 4 0 = f 4 0 + 1
theorem sb_9548ab2e14 {G : mf_G} {h1 p1 a1 f1 ae1 : Nat} {x1 : mf_V} {h2 : Nat} {ad2 : Nat → Nat} {x2 : mf_V} {h3 : Nat} {ad3 : Nat → Nat} {x3 : mf_V} {h4 : Nat} {ad4 : Nat → Nat} {x4 : mf_V} : ([2, 3, 4, 5, 6, 7, 8, 9, 10, 11, 12, 13] : List Nat).filterMap (fun i => (OW G h1 p1 a1 f1 ae1 x1 ++ RW G h2 ad2 x2 ++ RW G h3 ad3 x3 ++ FW G h4 ad4 x4)[i]?) = RW G h2 ad2 x2 := rfl
set_option maxHeartbeats 4000000 in
set_option maxRecDepth 100000 in
theorem c_X2_total (l : Launch) (G : mf_G) (ho pn pa pf : Nat) (ae : Nat) (x : mf_V) (adn : Nat → Nat) (r : mf_V) (ada : Nat → Nat) (ra : mf_V) (adf : Nat → Nat) (f : mf_V) (wv : Int) (hwv : i32 wv) (okx : rOK xlo xhi x) (ok : rOK rlo rhi r) (okra : rOK rlo rhi ra) (okf : rOK flo fhi f) (hlen : 2 ≤ r 7 0) : Met l yX2_total wsX2_total ({ frames := 3, cells := 0, slots := 0, locals := 64 }) (va_Pc [.ref ho, .int (iI (wv))] (RdP G (OW G ho pn pa pf ae x ++ RW G pn adn r ++ RW G pa ada ra ++ FW G pf adf f))) (vp_Si (fun q9 => q9 = iI (totF r (f 4 0) wv))) 0 0 (fun _ => False) := by
  refine Met.ofW (cc := cX2_total) (maxL := 2) (ret := (some .int)) (by decide) rfl ?_
  intro p e s m args below meth c s₁ B hml hv
  obtain ⟨rfl, hP, hK, hN⟩ := hv
  have hx := B.exec
  have hb := B.bytes
  have hr := B.returns
  have hts := atoms_spec (ws := wsX2_total) B.pre
  have hown : s.vm.findClass RX2 = some m.cls := findClass_of_methodNamed B.named
  have hlocks := B.notSynchronized
  have hinX0 : ∀ w ∈ u_ws RX0 TX0 5, w ∈ wsX2_total := fun w h => List.mem_cons_of_mem _ (List.mem_append_right _ h)
  have hinX1 : ∀ w ∈ u_ws RX1 TX1 14, w ∈ wsX2_total := fun w h => List.mem_cons_of_mem _ (List.mem_append_left _ (List.mem_append_right _ h))
  have hinX2 : ∀ w ∈ u_ws RX2 TX2 4, w ∈ wsX2_total := fun w h => List.mem_cons_of_mem _ (List.mem_append_left _ (List.mem_append_left _ (List.mem_append_right _ h)))
  have hl := lv_entry ([.ref ho, .int (iI (wv))]) (n := 2) (Nat.le_of_ble_eq_true rfl)
  rw [lg_entry_eq]
  generalize (lg_sl ([.ref ho, .int (iI (wv))]) ++ List.replicate (2 - (lg_sl ([.ref ho, .int (iI (wv))])).length) Slot.unset).toArray = ls at hl ⊢
  have hl : lv_has ls 2 [(0, .ref ho), (1, .int (iI (wv)))] := hl
  have hwv1 := hwv.1
  have hwv2 := hwv.2
  have okLr : (0 : Int) ≤ r 7 0 ∧ r 7 0 ≤ 150 := ok 7 0
  have okLra : (0 : Int) ≤ ra 7 0 ∧ ra 7 0 ≤ 150 := okra 7 0
  refine lv_iload_n hx hb dX2_total_0 rfl (lv_at hl 1 rfl) ?_
  have w1 : i32 (wv) := (i32_mk (by omega) (by omega))
  rcases (show  (wv) = 0 ∨  (wv) = 1 ∨  (wv) = 2 ∨  (wv) = 3 ∨  (wv) = 4 ∨  (wv) = 5 ∨  (wv) = 6 ∨  ((wv) < 0 ∨ 6 < (wv)) by omega) with c2 | c2 | c2 | c2 | c2 | c2 | c2 | c2
  · skip
    refine lv_tableIn (off := 43) (tgt := 44) hx hb dX2_total_1 (by rw [iI_toInt w1]; omega) (by rw [iI_toInt w1]; omega) (by rw [iI_toInt w1, c2]; rfl) (by decide) ?_
    refine lv_aload_n hx hb dX2_total_44 rfl (lv_at hl 0 rfl) ?_
    refine va_get (D := G.1) (ci := 2) (v := .ref pn) (C := RX2) (T := TX2) (N := 4) hx hb hts hinX2 hown hK hP 0 rfl rfl 0 (by decide) (hts (.fieldLink RX2 16 "MeanderFarm" "now" "LMeanderFarm$River;") (List.mem_of_getElem? (i := 1) rfl)) (fun _ h9 => h9) rfl dX2_total_45 ?_
    refine va_getN (D := G.1) (ci := 1) (v := .int (iI (r 8 0))) (C := RX1) (T := TX1) (N := 14) hx hb hts hinX1 hown hK hP 2 rfl rfl 8 (by decide) (va_Nw.use rfl (hN.f 6 rfl)) (fun _ h9 => h9) rfl dX2_total_48 ?_
    have b3 : (0 : Int) ≤ r 8 0 ∧ r 8 0 ≤ 90000 := ok 8 (0)
    exact W.iret hx hb hr (fun t ht hW => ⟨_, rfl, (congrArg iI (by first | (unfold totF;  rw [if_pos (by omega)]; done) | (unfold totF;  rw [if_pos (by omega)]; first | assumption | omega | (symm; assumption)))), ht⟩) t_nil dX2_total_51
  · skip
    refine lv_tableIn (off := 51) (tgt := 52) hx hb dX2_total_1 (by rw [iI_toInt w1]; omega) (by rw [iI_toInt w1]; omega) (by rw [iI_toInt w1, c2]; rfl) (by decide) ?_
    refine lv_aload_n hx hb dX2_total_52 rfl (lv_at hl 0 rfl) ?_
    refine va_get (D := G.1) (ci := 2) (v := .ref pn) (C := RX2) (T := TX2) (N := 4) hx hb hts hinX2 hown hK hP 0 rfl rfl 0 (by decide) (hts (.fieldLink RX2 16 "MeanderFarm" "now" "LMeanderFarm$River;") (List.mem_of_getElem? (i := 1) rfl)) (fun _ h9 => h9) rfl dX2_total_53 ?_
    refine va_getN (D := G.1) (ci := 1) (v := .int (iI (r 7 0))) (C := RX1) (T := TX1) (N := 14) hx hb hts hinX1 hown hK hP 2 rfl rfl 7 (by decide) (va_Nw.use rfl (hN.f 2 rfl)) (fun _ h9 => h9) rfl dX2_total_56 ?_
    have b4 : (0 : Int) ≤ r 7 0 ∧ r 7 0 ≤ 150 := ok 7 (0)
    exact W.iret hx hb hr (fun t ht hW => ⟨_, rfl, (congrArg iI (by first | (unfold totF; rw [if_neg (by omega)]; rw [if_pos (by omega)]; done) | (unfold totF; rw [if_neg (by omega)]; rw [if_pos (by omega)]; first | assumption | omega | (symm; assumption)))), ht⟩) t_nil dX2_total_59
  · skip
    refine lv_tableIn (off := 59) (tgt := 60) hx hb dX2_total_1 (by rw [iI_toInt w1]; omega) (by rw [iI_toInt w1]; omega) (by rw [iI_toInt w1, c2]; rfl) (by decide) ?_
    refine lv_aload_n hx hb dX2_total_60 rfl (lv_at hl 0 rfl) ?_
    refine va_get (D := G.1) (ci := 2) (v := .ref pn) (C := RX2) (T := TX2) (N := 4) hx hb hts hinX2 hown hK hP 0 rfl rfl 0 (by decide) (hts (.fieldLink RX2 16 "MeanderFarm" "now" "LMeanderFarm$River;") (List.mem_of_getElem? (i := 1) rfl)) (fun _ h9 => h9) rfl dX2_total_61 ?_
    refine vp_callSi (va_Run.run (va_runVN (As := []) (rest := []) ⟨hx, hb, hml, hown, hts⟩ (c_X1_lakes l G pn adn r (by assumption)) ⟨(va_cnB 0 hts gX2_total_X1_lakes_n220 rfl rfl rfl (hN.m 15 rfl) (hts (.initialized RX1) (List.mem_of_getElem? (i := 4) rfl)) (by decide +kernel) ⟨Nat.le_of_ble_eq_true rfl, Nat.le_of_ble_eq_true rfl⟩), (hts (.instanceMethod yX1_lakes) (List.mem_of_getElem? (i := 3) rfl)), (hts (.selects RX1 yX1_lakes yX1_lakes) (List.mem_of_getElem? (i := 5) rfl))⟩ (rdV (wc := RW G pn adn r) hK hP hN [2, 3, 4, 5, 6, 7, 8, 9, 10, 11, 12, 13] sb_9548ab2e14 (ci := 1) rfl rfl) rfl rfl hl.1 rfl (lv_room (Nat.le_of_ble_eq_true rfl)) dX2_total_64 ⟨(Nat.zero_le _), (Nat.zero_le _)⟩)) (fun q5 hq5 => ?_)
    subst hq5
    refine mf_nm (fun y6 ey6 => ?_)
    have b7 : 0 ≤ y6 ∧ y6 ≤ 384 := by rw [ey6]; exact lakesF_b r
    exact W.iret hx hb hr (fun t ht hW => ⟨_, rfl, (congrArg iI (by first | (unfold totF; rw [if_neg (by omega)]; rw [if_neg (by omega)]; rw [if_pos (by omega)]; done) | (unfold totF; rw [if_neg (by omega)]; rw [if_neg (by omega)]; rw [if_pos (by omega)]; first | assumption | omega | (symm; assumption)))), ht⟩) t_nil dX2_total_67
  · skip
    refine lv_tableIn (off := 67) (tgt := 68) hx hb dX2_total_1 (by rw [iI_toInt w1]; omega) (by rw [iI_toInt w1]; omega) (by rw [iI_toInt w1, c2]; rfl) (by decide) ?_
    refine lv_aload_n hx hb dX2_total_68 rfl (lv_at hl 0 rfl) ?_
    refine va_get (D := G.1) (ci := 2) (v := .ref pn) (C := RX2) (T := TX2) (N := 4) hx hb hts hinX2 hown hK hP 0 rfl rfl 0 (by decide) (hts (.fieldLink RX2 16 "MeanderFarm" "now" "LMeanderFarm$River;") (List.mem_of_getElem? (i := 1) rfl)) (fun _ h9 => h9) rfl dX2_total_69 ?_
    refine va_getN (D := G.1) (ci := 1) (v := .int (iI (r 9 0))) (C := RX1) (T := TX1) (N := 14) hx hb hts hinX1 hown hK hP 2 rfl rfl 9 (by decide) (va_Nw.use rfl (hN.f 4 rfl)) (fun _ h9 => h9) rfl dX2_total_72 ?_
    have b8 : (0 : Int) ≤ r 9 0 ∧ r 9 0 ≤ 100000000 := ok 9 (0)
    exact W.iret hx hb hr (fun t ht hW => ⟨_, rfl, (congrArg iI (by first | (unfold totF; rw [if_neg (by omega)]; rw [if_neg (by omega)]; rw [if_neg (by omega)]; rw [if_pos (by omega)]; done) | (unfold totF; rw [if_neg (by omega)]; rw [if_neg (by omega)]; rw [if_neg (by omega)]; rw [if_pos (by omega)]; first | assumption | omega | (symm; assumption)))), ht⟩) t_nil dX2_total_75
  · skip
    refine lv_tableIn (off := 75) (tgt := 76) hx hb dX2_total_1 (by rw [iI_toInt w1]; omega) (by rw [iI_toInt w1]; omega) (by rw [iI_toInt w1, c2]; rfl) (by decide) ?_
    refine lv_aload_n hx hb dX2_total_76 rfl (lv_at hl 0 rfl) ?_
    refine va_get (D := G.1) (ci := 2) (v := .ref pf) (C := RX2) (T := TX2) (N := 4) hx hb hts hinX2 hown hK hP 0 rfl rfl 2 (by decide) (hts (.fieldLink RX2 26 "MeanderFarm" "farms" "LMeanderFarm$Farms;") (List.mem_of_getElem? (i := 2) rfl)) (fun _ h9 => h9) rfl dX2_total_77 ?_
    refine va_getN (D := G.1) (ci := 0) (v := .int (iI (f 4 0))) (C := RX0) (T := TX0) (N := 5) hx hb hts hinX0 hown hK hP 26 rfl rfl 4 (by decide) (va_Nw.use rfl (hN.f 3 rfl)) (fun _ h9 => h9) rfl dX2_total_80 ?_
    have b9 : (0 : Int) ≤ f 4 0 ∧ f 4 0 ≤ 6 := okf 4 (0)
    exact W.iret hx hb hr (fun t ht hW => ⟨_, rfl, (congrArg iI (by first | (unfold totF; rw [if_neg (by omega)]; rw [if_neg (by omega)]; rw [if_neg (by omega)]; rw [if_neg (by omega)]; rw [if_pos (by omega)]; done) | (unfold totF; rw [if_neg (by omega)]; rw [if_neg (by omega)]; rw [if_neg (by omega)]; rw [if_neg (by omega)]; rw [if_pos (by omega)]; first | assumption | omega | (symm; assumption)))), ht⟩) t_nil dX2_total_83
  · skip
    refine lv_tableIn (off := 83) (tgt := 84) hx hb dX2_total_1 (by rw [iI_toInt w1]; omega) (by rw [iI_toInt w1]; omega) (by rw [iI_toInt w1, c2]; rfl) (by decide) ?_
    refine lv_aload_n hx hb dX2_total_84 rfl (lv_at hl 0 rfl) ?_
    refine va_get (D := G.1) (ci := 2) (v := .ref pn) (C := RX2) (T := TX2) (N := 4) hx hb hts hinX2 hown hK hP 0 rfl rfl 0 (by decide) (hts (.fieldLink RX2 16 "MeanderFarm" "now" "LMeanderFarm$River;") (List.mem_of_getElem? (i := 1) rfl)) (fun _ h9 => h9) rfl dX2_total_85 ?_
    refine vp_callSi (va_Run.run (va_runVN (As := []) (rest := []) ⟨hx, hb, hml, hown, hts⟩ (c_X1_cellsWithStones l G pn adn r (by assumption)) ⟨(va_cnB 0 hts gX2_total_X1_cellsWithStones_n60 rfl rfl rfl (hN.m 19 rfl) (hts (.initialized RX1) (List.mem_of_getElem? (i := 4) rfl)) (by decide +kernel) ⟨Nat.le_of_ble_eq_true rfl, Nat.le_of_ble_eq_true rfl⟩), (hts (.instanceMethod yX1_cellsWithStones) (List.mem_of_getElem? (i := 9) rfl)), (hts (.selects RX1 yX1_cellsWithStones yX1_cellsWithStones) (List.mem_of_getElem? (i := 10) rfl))⟩ (rdV (wc := RW G pn adn r) hK hP hN [2, 3, 4, 5, 6, 7, 8, 9, 10, 11, 12, 13] sb_9548ab2e14 (ci := 1) rfl rfl) rfl rfl hl.1 rfl (lv_room (Nat.le_of_ble_eq_true rfl)) dX2_total_88 ⟨(Nat.zero_le _), (Nat.zero_le _)⟩)) (fun q10 hq10 => ?_)
    subst hq10
    refine mf_nm (fun y11 ey11 => ?_)
    have b12 : 0 ≤ y11 ∧ y11 ≤ 384 := by rw [ey11]; exact stonesF_b r
    exact W.iret hx hb hr (fun t ht hW => ⟨_, rfl, (congrArg iI (by first | (unfold totF; rw [if_neg (by omega)]; rw [if_neg (by omega)]; rw [if_neg (by omega)]; rw [if_neg (by omega)]; rw [if_neg (by omega)]; rw [if_pos (by omega)]; done) | (unfold totF; rw [if_neg (by omega)]; rw [if_neg (by omega)]; rw [if_neg (by omega)]; rw [if_neg (by omega)]; rw [if_neg (by omega)]; rw [if_pos (by omega)]; first | assumption | omega | (symm; assumption)))), ht⟩) t_nil dX2_total_91
  · skip
    refine lv_tableIn (off := 91) (tgt := 92) hx hb dX2_total_1 (by rw [iI_toInt w1]; omega) (by rw [iI_toInt w1]; omega) (by rw [iI_toInt w1, c2]; rfl) (by decide) ?_
    refine lv_aload_n hx hb dX2_total_92 rfl (lv_at hl 0 rfl) ?_
    refine va_get (D := G.1) (ci := 2) (v := .ref pn) (C := RX2) (T := TX2) (N := 4) hx hb hts hinX2 hown hK hP 0 rfl rfl 0 (by decide) (hts (.fieldLink RX2 16 "MeanderFarm" "now" "LMeanderFarm$River;") (List.mem_of_getElem? (i := 1) rfl)) (fun _ h9 => h9) rfl dX2_total_93 ?_
    refine vp_callSi (va_Run.run (va_runVN (As := []) (rest := []) ⟨hx, hb, hml, hown, hts⟩ (c_X1_bends l G pn adn r (by assumption) (by first | assumption | omega)) ⟨(va_cnB 0 hts gX2_total_X1_bends_n223 rfl rfl rfl (hN.m 16 rfl) (hts (.initialized RX1) (List.mem_of_getElem? (i := 4) rfl)) (by decide +kernel) ⟨Nat.le_of_ble_eq_true rfl, Nat.le_of_ble_eq_true rfl⟩), (hts (.instanceMethod yX1_bends) (List.mem_of_getElem? (i := 13) rfl)), (hts (.selects RX1 yX1_bends yX1_bends) (List.mem_of_getElem? (i := 14) rfl))⟩ (rdV (wc := RW G pn adn r) hK hP hN [2, 3, 4, 5, 6, 7, 8, 9, 10, 11, 12, 13] sb_9548ab2e14 (ci := 1) rfl rfl) rfl rfl hl.1 rfl (lv_room (Nat.le_of_ble_eq_true rfl)) dX2_total_96 ⟨(Nat.zero_le _), (Nat.zero_le _)⟩)) (fun q13 hq13 => ?_)
    subst hq13
    exact W.iret hx hb hr (fun t ht hW => ⟨_, rfl, (congrArg iI (by first | (unfold totF; rw [if_neg (by omega)]; rw [if_neg (by omega)]; rw [if_neg (by omega)]; rw [if_neg (by omega)]; rw [if_neg (by omega)]; rw [if_neg (by omega)]; rw [if_pos (by omega)]; done) | (unfold totF; rw [if_neg (by omega)]; rw [if_neg (by omega)]; rw [if_neg (by omega)]; rw [if_neg (by omega)]; rw [if_neg (by omega)]; rw [if_neg (by omega)]; rw [if_pos (by omega)]; first | assumption | omega | (symm; assumption)))), ht⟩) t_nil dX2_total_99
  · skip
    refine lv_tableOut (tgt := 100) hx hb dX2_total_1 (by rw [iI_toInt w1]; omega) (by decide) ?_
    refine lv_aload_n hx hb dX2_total_100 rfl (lv_at hl 0 rfl) ?_
    refine va_get (D := G.1) (ci := 2) (v := .ref pn) (C := RX2) (T := TX2) (N := 4) hx hb hts hinX2 hown hK hP 0 rfl rfl 0 (by decide) (hts (.fieldLink RX2 16 "MeanderFarm" "now" "LMeanderFarm$River;") (List.mem_of_getElem? (i := 1) rfl)) (fun _ h9 => h9) rfl dX2_total_101 ?_
    refine vp_callSi (va_Run.run (va_runVN (As := []) (rest := []) ⟨hx, hb, hml, hown, hts⟩ (c_X1_allWear l G pn adn r (by assumption)) ⟨(va_cnB 0 hts gX2_total_X1_allWear_n226 rfl rfl rfl (hN.m 17 rfl) (hts (.initialized RX1) (List.mem_of_getElem? (i := 4) rfl)) (by decide +kernel) ⟨Nat.le_of_ble_eq_true rfl, Nat.le_of_ble_eq_true rfl⟩), (hts (.instanceMethod yX1_allWear) (List.mem_of_getElem? (i := 26) rfl)), (hts (.selects RX1 yX1_allWear yX1_allWear) (List.mem_of_getElem? (i := 27) rfl))⟩ (rdV (wc := RW G pn adn r) hK hP hN [2, 3, 4, 5, 6, 7, 8, 9, 10, 11, 12, 13] sb_9548ab2e14 (ci := 1) rfl rfl) rfl rfl hl.1 rfl (lv_room (Nat.le_of_ble_eq_true rfl)) dX2_total_104 ⟨(Nat.zero_le _), (Nat.zero_le _)⟩)) (fun q14 hq14 => ?_)
    subst hq14
    exact W.iret hx hb hr (fun t ht hW => ⟨_, rfl, (congrArg iI (by first | (unfold totF; rw [if_neg (by omega)]; rw [if_neg (by omega)]; rw [if_neg (by omega)]; rw [if_neg (by omega)]; rw [if_neg (by omega)]; rw [if_neg (by omega)]; rw [if_neg (by omega)]; skip; done) | (unfold totF; rw [if_neg (by omega)]; rw [if_neg (by omega)]; rw [if_neg (by omega)]; rw [if_neg (by omega)]; rw [if_neg (by omega)]; rw [if_neg (by omega)]; rw [if_neg (by omega)]; skip; first | assumption | omega | (symm; assumption)))), ht⟩) t_nil dX2_total_107
set_option maxHeartbeats 4000000 in
set_option maxRecDepth 100000 in
theorem c_X2_setHardness (l : Launch) (hl9 : l.stackTraces = false) (G : mf_G) (ho pn pa pf : Nat) (ae : Nat) (x : mf_V) (adn : Nat → Nat) (r : mf_V) (ada : Nat → Nat) (ra : mf_V) (adf : Nat → Nat) (f : mf_V)  (xv : Int) (yv : Int) (hv : Int) (hxv : i32 xv) (hyv : i32 yv) (hhv : i32 hv) (okx : rOK xlo xhi x) (ok : rOK rlo rhi r) (okra : rOK rlo rhi ra) (okf : rOK flo fhi f) (sz : Nat) : vx_Met l yX2_setHardness wsX2_setHardness ({ frames := 6, cells := 1, slots := 6, locals := 90 }) (va_Pc [.ref ho, .int (iI (xv)), .int (iI (yv)), .int (iI (hv))] (WrPx G (OW G ho pn pa pf ae x ++ RW G pn adn r ++ RW G pa ada ra ++ FW G pf adf f) sz)) (va_Qi (fun q9 (u : mf_V × mf_V × mf_V × mf_V) => ∃ z : Int, q9 = iI z ∧ kHard xv yv hv = 0 ∧ (rOK xlo xhi u.1 ∧ rOK rlo rhi u.2.1 ∧ rOK rlo rhi u.2.2.1 ∧ rOK flo fhi u.2.2.2) ∧ u.2.1 = mf_sF r 0 (mf_up (r 0) (xv + 24 * yv) hv) ∧ u.2.2.2 = f ∧ z = r 0 (xv + 24 * yv)) (fun (u : mf_V × mf_V × mf_V × mf_V) t => WrQ G (va_A (OW G ho pn pa pf ae x ++ RW G pn adn r ++ RW G pa ada ra ++ FW G pf adf f) sz) (OW G ho pn pa pf ae (u.1) ++ RW G pn adn (u.2.1) ++ RW G pa ada (u.2.2.1) ++ FW G pf adf (u.2.2.2)) t) (va_A (OW G ho pn pa pf ae x ++ RW G pn adn r ++ RW G pa ada ra ++ FW G pf adf f) sz)) (vx_X (fun _ : Unit => True) (fun E _ t => ((E = xIO ∧ kHard xv yv hv = 1) ∨ (E = xIA ∧ kHard xv yv hv = 2)) ∧ WrQ G (va_A (OW G ho pn pa pf ae x ++ RW G pn adn r ++ RW G pa ada ra ++ FW G pf adf f) sz) (OW G ho pn pa pf ae x ++ RW G pn adn r ++ RW G pa ada ra ++ FW G pf adf f) t) (va_A (OW G ho pn pa pf ae x ++ RW G pn adn r ++ RW G pa ada ra ++ FW G pf adf f) sz)) 1 6 (va_A (OW G ho pn pa pf ae x ++ RW G pn adn r ++ RW G pa ada ra ++ FW G pf adf f) sz) := by
  refine vx_ofW (cc := cX2_setHardness) (maxL := 6) (ret := (some .int)) (by decide) rfl ?_
  intro p e s m args below meth c s₁ B hml hexc hv
  obtain ⟨rfl, hsz, hP, hK, hD0, hN, hSX, hCX, hZ⟩ := hv
  have hx := B.exec
  have hb := B.bytes
  have hr := B.returns
  have hts := atoms_spec (ws := wsX2_setHardness) B.pre
  have hown : s.vm.findClass RX2 = some m.cls := findClass_of_methodNamed B.named
  have hlocks := B.notSynchronized
  have hat42 := vx_hat (fun w h => hts w (List.mem_cons_of_mem _ (List.mem_append_left _ (List.mem_append_right _ h)))) xb42 (vx_c (va_Nw.use rfl hCX.1) (vx_c (va_Nw.use rfl hCX.2.2.2.1) (vx_c (va_Nw.use rfl hCX.2.2.2.2.1) (vx_c (va_Nw.use rfl hCX.2.2.2.2.2) vx_n))))
  have hat52 := vx_hat (fun w h => hts w (List.mem_cons_of_mem _ (List.mem_append_right _ h))) xb52 (vx_c (va_Nw.use rfl hCX.2.1) (vx_c (va_Nw.use rfl hCX.2.2.2.1) (vx_c (va_Nw.use rfl hCX.2.2.2.2.1) (vx_c (va_Nw.use rfl hCX.2.2.2.2.2) vx_n))))
  have hinX1 : ∀ w ∈ u_ws RX1 TX1 14, w ∈ wsX2_setHardness := fun w h => List.mem_cons_of_mem _ (List.mem_append_left _ (List.mem_append_left _ (List.mem_append_right _ h)))
  have hinX2 : ∀ w ∈ u_ws RX2 TX2 4, w ∈ wsX2_setHardness := fun w h => List.mem_cons_of_mem _ (List.mem_append_left _ (List.mem_append_left _ (List.mem_append_left _ (List.mem_append_right _ h))))
  subst hsz
  have hD := hD0.self (sz := s.heap.size)
  generalize hAe : va_A (OW G ho pn pa pf ae x ++ RW G pn adn r ++ RW G pa ada ra ++ FW G pf adf f) s.heap.size = A at hD hZ ⊢
  have hA : ∀ q : Nat, s.heap.size ≤ q → A q := fun q h => by rw [← hAe]; exact Or.inr h
  have hS : va_S A s.heap s.heap [] := va_S.rf
  have hl := lv_entry ([.ref ho, .int (iI (xv)), .int (iI (yv)), .int (iI (hv))]) (n := 6) (Nat.le_of_ble_eq_true rfl)
  rw [lg_entry_eq]
  generalize (lg_sl ([.ref ho, .int (iI (xv)), .int (iI (yv)), .int (iI (hv))]) ++ List.replicate (6 - (lg_sl ([.ref ho, .int (iI (xv)), .int (iI (yv)), .int (iI (hv))])).length) Slot.unset).toArray = ls at hl ⊢
  have hl : lv_has ls 6 [(0, .ref ho), (1, .int (iI (xv))), (2, .int (iI (yv))), (3, .int (iI (hv)))] := hl
  have hxv1 := hxv.1
  have hxv2 := hxv.2
  have hyv1 := hyv.1
  have hyv2 := hyv.2
  have hhv1 := hhv.1
  have hhv2 := hhv.2
  have okLr : (0 : Int) ≤ r 7 0 ∧ r 7 0 ≤ 150 := ok 7 0
  have okLra : (0 : Int) ≤ ra 7 0 ∧ ra 7 0 ≤ 150 := okra 7 0
  refine lv_iload_n hx hb dX2_setHardness_0 rfl (lv_at hl 1 rfl) ?_
  refine lv_iload_n hx hb dX2_setHardness_1 rfl (lv_at hl 2 rfl) ?_
  refine vp_callSi (va_Run.run (va_runS (As := [.int (iI (xv)), .int (iI (yv))]) (rest := []) ⟨hx, hb, hml, hown, hts⟩ (c_X2_cellNumber l (xv) (yv) (i32_mk (by omega) (by omega)) (i32_mk (by omega) (by omega))) (va_cwS 2 hts gX2_setHardness_X2_cellNumber rfl rfl rfl (by decide +kernel) ⟨Nat.le_of_ble_eq_true rfl, Nat.le_of_ble_eq_true rfl⟩) pureS rfl rfl hl.1 rfl (lv_room (Nat.le_of_ble_eq_true rfl)) dX2_setHardness_2 ⟨(Nat.zero_le _), (Nat.zero_le _)⟩)) (fun q1 hq1 => ?_)
  subst hq1
  refine mf_nm (fun y2 ey2 => ?_)
  have b3 : -1 ≤ y2 ∧ y2 ≤ 383 := by rw [ey2]; exact cellNo_b xv yv
  have hcn := cellNo_i xv yv
  rw [← ey2] at hcn
  refine lv_istore (lv' := [(4, .int (iI (y2))), (0, .ref ho), (1, .int (iI (xv))), (2, .int (iI (yv))), (3, .int (iI (hv)))]) hx hb dX2_setHardness_5 hl (by decide) rfl (fun ls hl => ?_)
  refine lv_iload hx hb dX2_setHardness_7 (lv_at hl 0 rfl) ?_
  refine vp_callSi (va_Run.run (va_runS (As := [.int (iI (y2))]) (rest := []) ⟨hx, hb, hml, hown, hts⟩ (c_X2_isCell l (y2) (i32_mk (by omega) (by omega))) (va_cwS 1 hts gX2_setHardness_X2_isCell rfl rfl rfl (by decide +kernel) ⟨Nat.le_of_ble_eq_true rfl, Nat.le_of_ble_eq_true rfl⟩) pureS rfl rfl hl.1 rfl (lv_room (Nat.le_of_ble_eq_true rfl)) dX2_setHardness_9 ⟨(Nat.zero_le _), (Nat.zero_le _)⟩)) (fun q4 hq4 => ?_)
  subst hq4
  refine mf_bp_ne (tgt := 25) hx hb dX2_setHardness_12 (by decide) (fun c5 => ?_) (fun c5 => ?_)
  · skip
    have hcp : cellP xv yv := by rcases hcn with q | q; exact q.1; (exfalso; omega)
    have hcv : y2 = xv + 24 * yv := by rcases hcn with q | q; exact q.2; (exfalso; omega)
    refine lv_iload_n hx hb dX2_setHardness_25 rfl (lv_at hl 4 rfl) ?_
    refine vp_callSi (va_Run.run (va_runS (As := [.int (iI (hv))]) (rest := []) ⟨hx, hb, hml, hown, hts⟩ (c_X2_isGrade l (hv) (i32_mk (by omega) (by omega))) (va_cwS 1 hts gX2_setHardness_X2_isGrade rfl rfl rfl (by decide +kernel) ⟨Nat.le_of_ble_eq_true rfl, Nat.le_of_ble_eq_true rfl⟩) pureS rfl rfl hl.1 rfl (lv_room (Nat.le_of_ble_eq_true rfl)) dX2_setHardness_26 ⟨(Nat.zero_le _), (Nat.zero_le _)⟩)) (fun q6 hq6 => ?_)
    subst hq6
    refine mf_bp_ne (tgt := 42) hx hb dX2_setHardness_29 (by decide) (fun c7 => ?_) (fun c7 => ?_)
    · skip
      refine lv_aload_n hx hb dX2_setHardness_42 rfl (lv_at hl 1 rfl) ?_
      refine va_get (D := G.1) (ci := 2) (v := .ref pn) (C := RX2) (T := TX2) (N := 4) hx hb hts hinX2 hown hK hP 0 rfl rfl 0 (by decide) (hts (.fieldLink RX2 16 "MeanderFarm" "now" "LMeanderFarm$River;") (List.mem_of_getElem? (i := 5) rfl)) (fun _ h9 => h9) rfl dX2_setHardness_43 ?_
      refine va_getN (D := G.1) (ci := 1) (v := .ref (adn 0)) (C := RX1) (T := TX1) (N := 14) hx hb hts hinX1 hown hK hP 2 rfl rfl 0 (by decide) (va_Nw.use rfl (hN.f 7 rfl)) (fun _ h9 => h9) rfl dX2_setHardness_46 ?_
      refine lv_iload hx hb dX2_setHardness_49 (lv_at hl 0 rfl) ?_
      refine mf_iald (n := 384) (f := r 0) hx hb hK hP 3 0 rfl rfl (z := y2) (by omega) (by omega) (by decide) dX2_setHardness_51 ?_
      have b8 : (0 : Int) ≤ r 0 y2 ∧ r 0 y2 ≤ 9 := ok 0 (y2)
      refine lv_istore (lv' := [(5, .int (iI (r 0 y2))), (4, .int (iI (y2))), (0, .ref ho), (1, .int (iI (xv))), (2, .int (iI (yv))), (3, .int (iI (hv)))]) hx hb dX2_setHardness_52 hl (by decide) rfl (fun ls hl => ?_)
      refine lv_aload_n hx hb dX2_setHardness_54 rfl (lv_at hl 2 rfl) ?_
      refine va_get (D := G.1) (ci := 2) (v := .ref pn) (C := RX2) (T := TX2) (N := 4) hx hb hts hinX2 hown hK hP 0 rfl rfl 0 (by decide) (hts (.fieldLink RX2 16 "MeanderFarm" "now" "LMeanderFarm$River;") (List.mem_of_getElem? (i := 5) rfl)) (fun _ h9 => h9) rfl dX2_setHardness_55 ?_
      refine va_getN (D := G.1) (ci := 1) (v := .ref (adn 0)) (C := RX1) (T := TX1) (N := 14) hx hb hts hinX1 hown hK hP 2 rfl rfl 0 (by decide) (va_Nw.use rfl (hN.f 7 rfl)) (fun _ h9 => h9) rfl dX2_setHardness_58 ?_
      refine lv_iload hx hb dX2_setHardness_61 (lv_at hl 1 rfl) ?_
      refine lv_iload_n hx hb dX2_setHardness_63 rfl (lv_at hl 5 rfl) ?_
      refine mf_iast (n := 384) (f := r 0) hx hb hK hP hD hS 3 0 rfl rfl (z := y2) (x := hv) (by omega) (by omega) (by decide) dX2_setHardness_64 (fun H locs hP hD hS => ?_)
      obtain ⟨r9, er9⟩ : ∃ z9 : mf_V, z9 = mf_sF r 0 (mf_up (r 0) (y2) (hv)) := ⟨_, rfl⟩
      have hP : va_P G.1 vwCl (OW G ho pn pa pf ae x ++ RW G pn adn r9 ++ RW G pa ada ra ++ FW G pf adf f) H := by rw [er9]; exact hP
      have hD : va_D A (OW G ho pn pa pf ae x ++ RW G pn adn r9 ++ RW G pa ada ra ++ FW G pf adf f) := by rw [er9]; exact hD
      have okr9 : rOK rlo rhi r9 := by rw [er9]; exact rOK_up ok 0 _ _ (show (0 : Int) ≤ hv by omega) (show hv ≤ (9 : Int) by omega)
      have f1_r9 : r9 0 (y2) = hv := by rw [er9, mf_sF_s, mf_up_s]
      have f2_r9 : ∀ y, y ≠ (y2) → r9 0 y = r 0 y := fun y hy => by rw [er9, mf_sF_s, mf_up_n hy]
      have f3_r9 : ∀ q, q ≠ 0 → r9 q = r q := fun q hq => by rw [er9, mf_sF_n hq]
      refine lv_iload hx hb dX2_setHardness_65 (lv_at hl 0 rfl) ?_
      have hk9 : kHard xv yv hv = 0 := (mf_if_f (fun z => z hcp)).trans (mf_if_f (fun z => z (by assumption)))
      refine W.widen (k := 1) (n := 6) (Nat.le_of_ble_eq_true rfl) (Nat.le_of_ble_eq_true rfl) ?_
      refine vx_ret ?_
      exact W.iret hx hb hr (fun t ht hW => ⟨⟨_, (x, r9, ra, f), rfl, ⟨_, rfl, by (try dsimp only); exact ⟨hk9, ⟨okx, okr9, okra, okf⟩, by rw [← hcv]; exact er9, rfl, by rw [← hcv]⟩⟩, by rw [ht]; exact hP, hD⟩, hS.F ht⟩) hS.2.2 dX2_setHardness_67
    · skip
      have hk9 : kHard xv yv hv = 2 := (mf_if_f (fun z => z hcp)).trans (mf_if_t (by assumption))
      exact mf_throw (ik := 48) (is := 50) (ic := 52) (cls := "java/lang/IllegalArgumentException") hx hb hl9 hown (by decide +kernel) (hts (.classLink RX2 48 "java/lang/IllegalArgumentException") (List.mem_of_getElem? (i := 3) rfl)) (hts (.initialized "java/lang/IllegalArgumentException") (List.mem_of_getElem? (i := 4) rfl)) hSX (List.mem_of_getElem? (i := 1) rfl) hat52 xg52 hZ hP hD hS (hl.1.trans hml.symm) dX2_setHardness_32 dX2_setHardness_35 dX2_setHardness_36 dX2_setHardness_38 dX2_setHardness_41 hexc (Nat.le_of_ble_eq_true rfl) (Nat.le_of_ble_eq_true rfl) (Nat.le_of_ble_eq_true rfl) (Nat.le_of_ble_eq_true rfl) hlocks (by exact Or.inr (⟨rfl, hk9⟩)) (Nat.le_of_ble_eq_true rfl) (Nat.le_of_ble_eq_true rfl)
  · skip
    have hcq : ¬ cellP xv yv := by rcases hcn with q | q; (have q1 := q.1; unfold cellP at q1; exfalso; omega); exact q.1
    have hk9 : kHard xv yv hv = 1 := mf_if_t hcq
    exact mf_throw (ik := 38) (is := 40) (ic := 42) (cls := "java/lang/IndexOutOfBoundsException") hx hb hl9 hown (by decide +kernel) (hts (.classLink RX2 38 "java/lang/IndexOutOfBoundsException") (List.mem_of_getElem? (i := 1) rfl)) (hts (.initialized "java/lang/IndexOutOfBoundsException") (List.mem_of_getElem? (i := 2) rfl)) hSX (List.mem_of_getElem? (i := 0) rfl) hat42 xg42 hZ hP hD hS (hl.1.trans hml.symm) dX2_setHardness_15 dX2_setHardness_18 dX2_setHardness_19 dX2_setHardness_21 dX2_setHardness_24 hexc (Nat.le_of_ble_eq_true rfl) (Nat.le_of_ble_eq_true rfl) (Nat.le_of_ble_eq_true rfl) (Nat.le_of_ble_eq_true rfl) hlocks (by exact Or.inl ⟨rfl, hk9⟩) (Nat.le_of_ble_eq_true rfl) (Nat.le_of_ble_eq_true rfl)
set_option maxHeartbeats 4000000 in
set_option maxRecDepth 100000 in
theorem c_X2_setStones (l : Launch) (hl9 : l.stackTraces = false) (G : mf_G) (ho pn pa pf : Nat) (ae : Nat) (x : mf_V) (adn : Nat → Nat) (r : mf_V) (ada : Nat → Nat) (ra : mf_V) (adf : Nat → Nat) (f : mf_V)  (xv : Int) (yv : Int) (bv : Int) (hxv : i32 xv) (hyv : i32 yv) (hbv : i32 bv) (okx : rOK xlo xhi x) (ok : rOK rlo rhi r) (okra : rOK rlo rhi ra) (okf : rOK flo fhi f) (hb01 : 0 ≤ bv ∧ bv ≤ 1) (sz : Nat) : vx_Met l yX2_setStones wsX2_setStones ({ frames := 6, cells := 1, slots := 6, locals := 90 }) (va_Pc [.ref ho, .int (iI (xv)), .int (iI (yv)), .int (iI (bv))] (WrPx G (OW G ho pn pa pf ae x ++ RW G pn adn r ++ RW G pa ada ra ++ FW G pf adf f) sz)) (va_Qi (fun q9 (u : mf_V × mf_V × mf_V × mf_V) => ∃ z : Int, q9 = iI z ∧ kCell xv yv = 0 ∧ (rOK xlo xhi u.1 ∧ rOK rlo rhi u.2.1 ∧ rOK rlo rhi u.2.2.1 ∧ rOK flo fhi u.2.2.2) ∧ u.2.1 = mf_sF r 2 (mf_up (r 2) (xv + 24 * yv) bv) ∧ u.2.2.2 = f ∧ z = stonesF (mf_sF r 2 (mf_up (r 2) (xv + 24 * yv) bv))) (fun (u : mf_V × mf_V × mf_V × mf_V) t => WrQ G (va_A (OW G ho pn pa pf ae x ++ RW G pn adn r ++ RW G pa ada ra ++ FW G pf adf f) sz) (OW G ho pn pa pf ae (u.1) ++ RW G pn adn (u.2.1) ++ RW G pa ada (u.2.2.1) ++ FW G pf adf (u.2.2.2)) t) (va_A (OW G ho pn pa pf ae x ++ RW G pn adn r ++ RW G pa ada ra ++ FW G pf adf f) sz)) (vx_X (fun _ : Unit => True) (fun E _ t => (E = xIO ∧ kCell xv yv = 1) ∧ WrQ G (va_A (OW G ho pn pa pf ae x ++ RW G pn adn r ++ RW G pa ada ra ++ FW G pf adf f) sz) (OW G ho pn pa pf ae x ++ RW G pn adn r ++ RW G pa ada ra ++ FW G pf adf f) t) (va_A (OW G ho pn pa pf ae x ++ RW G pn adn r ++ RW G pa ada ra ++ FW G pf adf f) sz)) 1 6 (va_A (OW G ho pn pa pf ae x ++ RW G pn adn r ++ RW G pa ada ra ++ FW G pf adf f) sz) := by
  refine vx_ofW (cc := cX2_setStones) (maxL := 5) (ret := (some .int)) (by decide) rfl ?_
  intro p e s m args below meth c s₁ B hml hexc hv
  obtain ⟨rfl, hsz, hP, hK, hD0, hN, hSX, hCX, hZ⟩ := hv
  have hx := B.exec
  have hb := B.bytes
  have hr := B.returns
  have hts := atoms_spec (ws := wsX2_setStones) B.pre
  have hown : s.vm.findClass RX2 = some m.cls := findClass_of_methodNamed B.named
  have hlocks := B.notSynchronized
  have hat42 := vx_hat (fun w h => hts w (List.mem_cons_of_mem _ (List.mem_append_right _ h))) xb42 (vx_c (va_Nw.use rfl hCX.1) (vx_c (va_Nw.use rfl hCX.2.2.2.1) (vx_c (va_Nw.use rfl hCX.2.2.2.2.1) (vx_c (va_Nw.use rfl hCX.2.2.2.2.2) vx_n))))
  have hinX1 : ∀ w ∈ u_ws RX1 TX1 14, w ∈ wsX2_setStones := fun w h => List.mem_cons_of_mem _ (List.mem_append_left _ (List.mem_append_right _ h))
  have hinX2 : ∀ w ∈ u_ws RX2 TX2 4, w ∈ wsX2_setStones := fun w h => List.mem_cons_of_mem _ (List.mem_append_left _ (List.mem_append_left _ (List.mem_append_right _ h)))
  subst hsz
  have hD := hD0.self (sz := s.heap.size)
  generalize hAe : va_A (OW G ho pn pa pf ae x ++ RW G pn adn r ++ RW G pa ada ra ++ FW G pf adf f) s.heap.size = A at hD hZ ⊢
  have hA : ∀ q : Nat, s.heap.size ≤ q → A q := fun q h => by rw [← hAe]; exact Or.inr h
  have hS : va_S A s.heap s.heap [] := va_S.rf
  have hl := lv_entry ([.ref ho, .int (iI (xv)), .int (iI (yv)), .int (iI (bv))]) (n := 5) (Nat.le_of_ble_eq_true rfl)
  rw [lg_entry_eq]
  generalize (lg_sl ([.ref ho, .int (iI (xv)), .int (iI (yv)), .int (iI (bv))]) ++ List.replicate (5 - (lg_sl ([.ref ho, .int (iI (xv)), .int (iI (yv)), .int (iI (bv))])).length) Slot.unset).toArray = ls at hl ⊢
  have hl : lv_has ls 5 [(0, .ref ho), (1, .int (iI (xv))), (2, .int (iI (yv))), (3, .int (iI (bv)))] := hl
  have hxv1 := hxv.1
  have hxv2 := hxv.2
  have hyv1 := hyv.1
  have hyv2 := hyv.2
  have hbv1 := hbv.1
  have hbv2 := hbv.2
  have okLr : (0 : Int) ≤ r 7 0 ∧ r 7 0 ≤ 150 := ok 7 0
  have okLra : (0 : Int) ≤ ra 7 0 ∧ ra 7 0 ≤ 150 := okra 7 0
  refine lv_iload_n hx hb dX2_setStones_0 rfl (lv_at hl 1 rfl) ?_
  refine lv_iload_n hx hb dX2_setStones_1 rfl (lv_at hl 2 rfl) ?_
  refine vp_callSi (va_Run.run (va_runS (As := [.int (iI (xv)), .int (iI (yv))]) (rest := []) ⟨hx, hb, hml, hown, hts⟩ (c_X2_cellNumber l (xv) (yv) (i32_mk (by omega) (by omega)) (i32_mk (by omega) (by omega))) (va_cwS 2 hts gX2_setStones_X2_cellNumber rfl rfl rfl (by decide +kernel) ⟨Nat.le_of_ble_eq_true rfl, Nat.le_of_ble_eq_true rfl⟩) pureS rfl rfl hl.1 rfl (lv_room (Nat.le_of_ble_eq_true rfl)) dX2_setStones_2 ⟨(Nat.zero_le _), (Nat.zero_le _)⟩)) (fun q1 hq1 => ?_)
  subst hq1
  refine mf_nm (fun y2 ey2 => ?_)
  have b3 : -1 ≤ y2 ∧ y2 ≤ 383 := by rw [ey2]; exact cellNo_b xv yv
  have hcn := cellNo_i xv yv
  rw [← ey2] at hcn
  refine lv_istore (lv' := [(4, .int (iI (y2))), (0, .ref ho), (1, .int (iI (xv))), (2, .int (iI (yv))), (3, .int (iI (bv)))]) hx hb dX2_setStones_5 hl (by decide) rfl (fun ls hl => ?_)
  refine lv_iload hx hb dX2_setStones_7 (lv_at hl 0 rfl) ?_
  refine vp_callSi (va_Run.run (va_runS (As := [.int (iI (y2))]) (rest := []) ⟨hx, hb, hml, hown, hts⟩ (c_X2_isCell l (y2) (i32_mk (by omega) (by omega))) (va_cwS 1 hts gX2_setStones_X2_isCell rfl rfl rfl (by decide +kernel) ⟨Nat.le_of_ble_eq_true rfl, Nat.le_of_ble_eq_true rfl⟩) pureS rfl rfl hl.1 rfl (lv_room (Nat.le_of_ble_eq_true rfl)) dX2_setStones_9 ⟨(Nat.zero_le _), (Nat.zero_le _)⟩)) (fun q4 hq4 => ?_)
  subst hq4
  refine mf_bp_ne (tgt := 25) hx hb dX2_setStones_12 (by decide) (fun c5 => ?_) (fun c5 => ?_)
  · skip
    have hcp : cellP xv yv := by rcases hcn with q | q; exact q.1; (exfalso; omega)
    have hcv : y2 = xv + 24 * yv := by rcases hcn with q | q; exact q.2; (exfalso; omega)
    refine lv_aload_n hx hb dX2_setStones_25 rfl (lv_at hl 1 rfl) ?_
    refine va_get (D := G.1) (ci := 2) (v := .ref pn) (C := RX2) (T := TX2) (N := 4) hx hb hts hinX2 hown hK hP 0 rfl rfl 0 (by decide) (hts (.fieldLink RX2 16 "MeanderFarm" "now" "LMeanderFarm$River;") (List.mem_of_getElem? (i := 3) rfl)) (fun _ h9 => h9) rfl dX2_setStones_26 ?_
    refine va_getN (D := G.1) (ci := 1) (v := .ref (adn 2)) (C := RX1) (T := TX1) (N := 14) hx hb hts hinX1 hown hK hP 2 rfl rfl 2 (by decide) (va_Nw.use rfl (hN.f 8 rfl)) (fun _ h9 => h9) rfl dX2_setStones_29 ?_
    refine lv_iload hx hb dX2_setStones_32 (lv_at hl 0 rfl) ?_
    refine lv_iload_n hx hb dX2_setStones_34 rfl (lv_at hl 4 rfl) ?_
    refine mf_zast (n := 384) (f := r 2) hx hb hK hP hD hS 5 1 rfl rfl (z := y2) (x := bv) (by omega) (by omega) (by decide) (by omega) dX2_setStones_35 (fun H locs hP hD hS => ?_)
    obtain ⟨r6, er6⟩ : ∃ z9 : mf_V, z9 = mf_sF r 2 (mf_up (r 2) (y2) (bv)) := ⟨_, rfl⟩
    have hP : va_P G.1 vwCl (OW G ho pn pa pf ae x ++ RW G pn adn r6 ++ RW G pa ada ra ++ FW G pf adf f) H := by rw [er6]; exact hP
    have hD : va_D A (OW G ho pn pa pf ae x ++ RW G pn adn r6 ++ RW G pa ada ra ++ FW G pf adf f) := by rw [er6]; exact hD
    have okr6 : rOK rlo rhi r6 := by rw [er6]; exact rOK_up ok 2 _ _ (show (0 : Int) ≤ bv by omega) (show bv ≤ (1 : Int) by omega)
    have f1_r6 : r6 2 (y2) = bv := by rw [er6, mf_sF_s, mf_up_s]
    have f2_r6 : ∀ y, y ≠ (y2) → r6 2 y = r 2 y := fun y hy => by rw [er6, mf_sF_s, mf_up_n hy]
    have f3_r6 : ∀ q, q ≠ 2 → r6 q = r q := fun q hq => by rw [er6, mf_sF_n hq]
    refine lv_aload_n hx hb dX2_setStones_36 rfl (lv_at hl 1 rfl) ?_
    refine va_get (D := G.1) (ci := 2) (v := .ref pn) (C := RX2) (T := TX2) (N := 4) hx hb hts hinX2 hown hK hP 0 rfl rfl 0 (by decide) (hts (.fieldLink RX2 16 "MeanderFarm" "now" "LMeanderFarm$River;") (List.mem_of_getElem? (i := 3) rfl)) (fun _ h9 => h9) rfl dX2_setStones_37 ?_
    refine vp_callSi (va_Run.run (va_runVN (As := []) (rest := []) ⟨hx, hb, hml, hown, hts⟩ (c_X1_cellsWithStones l G pn adn r6 (by assumption)) ⟨(va_cnB 0 hts gX2_setStones_X1_cellsWithStones_n60 rfl rfl rfl (hN.m 19 rfl) (hts (.initialized RX1) (List.mem_of_getElem? (i := 12) rfl)) (by decide +kernel) ⟨Nat.le_of_ble_eq_true rfl, Nat.le_of_ble_eq_true rfl⟩), (hts (.instanceMethod yX1_cellsWithStones) (List.mem_of_getElem? (i := 11) rfl)), (hts (.selects RX1 yX1_cellsWithStones yX1_cellsWithStones) (List.mem_of_getElem? (i := 13) rfl))⟩ (rdV (wc := RW G pn adn r6) hK hP hN [2, 3, 4, 5, 6, 7, 8, 9, 10, 11, 12, 13] sb_9548ab2e14 (ci := 1) rfl rfl) rfl rfl hl.1 rfl (lv_room (Nat.le_of_ble_eq_true rfl)) dX2_setStones_40 ⟨(Nat.zero_le _), (Nat.zero_le _)⟩)) (fun q7 hq7 => ?_)
    subst hq7
    refine mf_nm (fun y8 ey8 => ?_)
    have b9 : 0 ≤ y8 ∧ y8 ≤ 384 := by rw [ey8]; exact stonesF_b r6
    have hk9 : kCell xv yv = 0 := mf_if_f (fun z => z hcp)
    have he9 : r6 = mf_sF r 2 (mf_up (r 2) (xv + 24 * yv) bv) := by rw [← hcv]; exact er6
    refine W.widen (k := 1) (n := 6) (Nat.le_of_ble_eq_true rfl) (Nat.le_of_ble_eq_true rfl) ?_
    refine vx_ret ?_
    exact W.iret hx hb hr (fun t ht hW => ⟨⟨_, (x, r6, ra, f), rfl, ⟨_, rfl, by (try dsimp only); exact ⟨hk9, ⟨okx, okr6, okra, okf⟩, he9, rfl, by rw [← he9]; first | rfl | assumption⟩⟩, by rw [ht]; exact hP, hD⟩, hS.F ht⟩) hS.2.2 dX2_setStones_43
  · skip
    have hcq : ¬ cellP xv yv := by rcases hcn with q | q; (have q1 := q.1; unfold cellP at q1; exfalso; omega); exact q.1
    have hk9 : kCell xv yv = 1 := mf_if_t hcq
    exact mf_throw (ik := 38) (is := 40) (ic := 42) (cls := "java/lang/IndexOutOfBoundsException") hx hb hl9 hown (by decide +kernel) (hts (.classLink RX2 38 "java/lang/IndexOutOfBoundsException") (List.mem_of_getElem? (i := 1) rfl)) (hts (.initialized "java/lang/IndexOutOfBoundsException") (List.mem_of_getElem? (i := 2) rfl)) hSX (List.mem_of_getElem? (i := 0) rfl) hat42 xg42 hZ hP hD hS (hl.1.trans hml.symm) dX2_setStones_15 dX2_setStones_18 dX2_setStones_19 dX2_setStones_21 dX2_setStones_24 hexc (Nat.le_of_ble_eq_true rfl) (Nat.le_of_ble_eq_true rfl) (Nat.le_of_ble_eq_true rfl) (Nat.le_of_ble_eq_true rfl) hlocks (by exact ⟨rfl, hk9⟩) (Nat.le_of_ble_eq_true rfl) (Nat.le_of_ble_eq_true rfl)
set_option maxHeartbeats 4000000 in
set_option maxRecDepth 100000 in
theorem c_X2_setFlow (l : Launch) (hl9 : l.stackTraces = false) (G : mf_G) (ho pn pa pf : Nat) (ae : Nat) (x : mf_V) (adn : Nat → Nat) (r : mf_V) (ada : Nat → Nat) (ra : mf_V) (adf : Nat → Nat) (f : mf_V)  (yv : Int) (fv : Int) (hyv : i32 yv) (hfv : i32 fv) (okx : rOK xlo xhi x) (ok : rOK rlo rhi r) (okra : rOK rlo rhi ra) (okf : rOK flo fhi f) (sz : Nat) : vx_Met l yX2_setFlow wsX2_setFlow ({ frames := 6, cells := 1, slots := 6, locals := 90 }) (va_Pc [.ref ho, .int (iI (yv)), .int (iI (fv))] (WrPx G (OW G ho pn pa pf ae x ++ RW G pn adn r ++ RW G pa ada ra ++ FW G pf adf f) sz)) (va_Qi (fun q9 (u : mf_V × mf_V × mf_V × mf_V) => ∃ z : Int, q9 = iI z ∧ kFlow yv fv = 0 ∧ (rOK xlo xhi u.1 ∧ rOK rlo rhi u.2.1 ∧ rOK rlo rhi u.2.2.1 ∧ rOK flo fhi u.2.2.2) ∧ u.2.1 = mf_sF r 5 (mf_up (r 5) yv fv) ∧ u.2.2.2 = f ∧ z = r 5 yv) (fun (u : mf_V × mf_V × mf_V × mf_V) t => WrQ G (va_A (OW G ho pn pa pf ae x ++ RW G pn adn r ++ RW G pa ada ra ++ FW G pf adf f) sz) (OW G ho pn pa pf ae (u.1) ++ RW G pn adn (u.2.1) ++ RW G pa ada (u.2.2.1) ++ FW G pf adf (u.2.2.2)) t) (va_A (OW G ho pn pa pf ae x ++ RW G pn adn r ++ RW G pa ada ra ++ FW G pf adf f) sz)) (vx_X (fun _ : Unit => True) (fun E _ t => ((E = xIO ∧ kFlow yv fv = 1) ∨ (E = xIA ∧ kFlow yv fv = 2)) ∧ WrQ G (va_A (OW G ho pn pa pf ae x ++ RW G pn adn r ++ RW G pa ada ra ++ FW G pf adf f) sz) (OW G ho pn pa pf ae x ++ RW G pn adn r ++ RW G pa ada ra ++ FW G pf adf f) t) (va_A (OW G ho pn pa pf ae x ++ RW G pn adn r ++ RW G pa ada ra ++ FW G pf adf f) sz)) 1 6 (va_A (OW G ho pn pa pf ae x ++ RW G pn adn r ++ RW G pa ada ra ++ FW G pf adf f) sz) := by
  refine vx_ofW (cc := cX2_setFlow) (maxL := 4) (ret := (some .int)) (by decide) rfl ?_
  intro p e s m args below meth c s₁ B hml hexc hv
  obtain ⟨rfl, hsz, hP, hK, hD0, hN, hSX, hCX, hZ⟩ := hv
  have hx := B.exec
  have hb := B.bytes
  have hr := B.returns
  have hts := atoms_spec (ws := wsX2_setFlow) B.pre
  have hown : s.vm.findClass RX2 = some m.cls := findClass_of_methodNamed B.named
  have hlocks := B.notSynchronized
  have hat42 := vx_hat (fun w h => hts w (List.mem_cons_of_mem _ (List.mem_append_left _ (List.mem_append_right _ h)))) xb42 (vx_c (va_Nw.use rfl hCX.1) (vx_c (va_Nw.use rfl hCX.2.2.2.1) (vx_c (va_Nw.use rfl hCX.2.2.2.2.1) (vx_c (va_Nw.use rfl hCX.2.2.2.2.2) vx_n))))
  have hat52 := vx_hat (fun w h => hts w (List.mem_cons_of_mem _ (List.mem_append_right _ h))) xb52 (vx_c (va_Nw.use rfl hCX.2.1) (vx_c (va_Nw.use rfl hCX.2.2.2.1) (vx_c (va_Nw.use rfl hCX.2.2.2.2.1) (vx_c (va_Nw.use rfl hCX.2.2.2.2.2) vx_n))))
  have hinX1 : ∀ w ∈ u_ws RX1 TX1 14, w ∈ wsX2_setFlow := fun w h => List.mem_cons_of_mem _ (List.mem_append_left _ (List.mem_append_left _ (List.mem_append_right _ h)))
  have hinX2 : ∀ w ∈ u_ws RX2 TX2 4, w ∈ wsX2_setFlow := fun w h => List.mem_cons_of_mem _ (List.mem_append_left _ (List.mem_append_left _ (List.mem_append_left _ (List.mem_append_right _ h))))
  subst hsz
  have hD := hD0.self (sz := s.heap.size)
  generalize hAe : va_A (OW G ho pn pa pf ae x ++ RW G pn adn r ++ RW G pa ada ra ++ FW G pf adf f) s.heap.size = A at hD hZ ⊢
  have hA : ∀ q : Nat, s.heap.size ≤ q → A q := fun q h => by rw [← hAe]; exact Or.inr h
  have hS : va_S A s.heap s.heap [] := va_S.rf
  have hl := lv_entry ([.ref ho, .int (iI (yv)), .int (iI (fv))]) (n := 4) (Nat.le_of_ble_eq_true rfl)
  rw [lg_entry_eq]
  generalize (lg_sl ([.ref ho, .int (iI (yv)), .int (iI (fv))]) ++ List.replicate (4 - (lg_sl ([.ref ho, .int (iI (yv)), .int (iI (fv))])).length) Slot.unset).toArray = ls at hl ⊢
  have hl : lv_has ls 4 [(0, .ref ho), (1, .int (iI (yv))), (2, .int (iI (fv)))] := hl
  have hyv1 := hyv.1
  have hyv2 := hyv.2
  have hfv1 := hfv.1
  have hfv2 := hfv.2
  have okLr : (0 : Int) ≤ r 7 0 ∧ r 7 0 ≤ 150 := ok 7 0
  have okLra : (0 : Int) ≤ ra 7 0 ∧ ra 7 0 ≤ 150 := okra 7 0
  refine lv_iload_n hx hb dX2_setFlow_0 rfl (lv_at hl 1 rfl) ?_
  refine mf_if_lt (tgt := 10) hx hb dX2_setFlow_1 (by decide) (i32_mk (by omega) (by omega)) (fun c1 => ?_) (fun c1 => ?_)
  · skip
    have hk9 : kFlow yv fv = 1 := mf_if_t (by omega)
    exact mf_throw (ik := 38) (is := 64) (ic := 42) (cls := "java/lang/IndexOutOfBoundsException") hx hb hl9 hown (by decide +kernel) (hts (.classLink RX2 38 "java/lang/IndexOutOfBoundsException") (List.mem_of_getElem? (i := 1) rfl)) (hts (.initialized "java/lang/IndexOutOfBoundsException") (List.mem_of_getElem? (i := 2) rfl)) hSX (List.mem_of_getElem? (i := 2) rfl) hat42 xg42 hZ hP hD hS (hl.1.trans hml.symm) dX2_setFlow_10 dX2_setFlow_13 dX2_setFlow_14 dX2_setFlow_16 dX2_setFlow_19 hexc (Nat.le_of_ble_eq_true rfl) (Nat.le_of_ble_eq_true rfl) (Nat.le_of_ble_eq_true rfl) (Nat.le_of_ble_eq_true rfl) hlocks (by exact Or.inl ⟨rfl, hk9⟩) (Nat.le_of_ble_eq_true rfl) (Nat.le_of_ble_eq_true rfl)
  · skip
    refine lv_iload_n hx hb dX2_setFlow_4 rfl (lv_at hl 1 rfl) ?_
    refine mf_bipush hx hb dX2_setFlow_5 rfl ?_
    refine mf_icmp_lt (tgt := 20) hx hb dX2_setFlow_7 (by decide) (i32_mk (by omega) (by omega)) (i32_mk (by decide) (by decide)) (fun c2 => ?_) (fun c2 => ?_)
    · skip
      refine lv_iload_n hx hb dX2_setFlow_20 rfl (lv_at hl 2 rfl) ?_
      refine vp_callSi (va_Run.run (va_runS (As := [.int (iI (fv))]) (rest := []) ⟨hx, hb, hml, hown, hts⟩ (c_X2_isGrade l (fv) (i32_mk (by omega) (by omega))) (va_cwS 1 hts gX2_setFlow_X2_isGrade rfl rfl rfl (by decide +kernel) ⟨Nat.le_of_ble_eq_true rfl, Nat.le_of_ble_eq_true rfl⟩) pureS rfl rfl hl.1 rfl (lv_room (Nat.le_of_ble_eq_true rfl)) dX2_setFlow_21 ⟨(Nat.zero_le _), (Nat.zero_le _)⟩)) (fun q3 hq3 => ?_)
      subst hq3
      refine mf_bp_ne (tgt := 37) hx hb dX2_setFlow_24 (by decide) (fun c4 => ?_) (fun c4 => ?_)
      · skip
        refine lv_aload_n hx hb dX2_setFlow_37 rfl (lv_at hl 0 rfl) ?_
        refine va_get (D := G.1) (ci := 2) (v := .ref pn) (C := RX2) (T := TX2) (N := 4) hx hb hts hinX2 hown hK hP 0 rfl rfl 0 (by decide) (hts (.fieldLink RX2 16 "MeanderFarm" "now" "LMeanderFarm$River;") (List.mem_of_getElem? (i := 5) rfl)) (fun _ h9 => h9) rfl dX2_setFlow_38 ?_
        refine va_getN (D := G.1) (ci := 1) (v := .ref (adn 5)) (C := RX1) (T := TX1) (N := 14) hx hb hts hinX1 hown hK hP 2 rfl rfl 5 (by decide) (va_Nw.use rfl (hN.f 9 rfl)) (fun _ h9 => h9) rfl dX2_setFlow_41 ?_
        refine lv_iload_n hx hb dX2_setFlow_44 rfl (lv_at hl 1 rfl) ?_
        refine mf_iald (n := 12) (f := r 5) hx hb hK hP 8 0 rfl rfl (z := yv) (by omega) (by omega) (by decide) dX2_setFlow_45 ?_
        have b5 : (0 : Int) ≤ r 5 yv ∧ r 5 yv ≤ 9 := ok 5 (yv)
        refine lv_istore_n (lv' := [(3, .int (iI (r 5 yv))), (0, .ref ho), (1, .int (iI (yv))), (2, .int (iI (fv)))]) hx hb dX2_setFlow_46 rfl hl (by decide) rfl (fun ls hl => ?_)
        refine lv_aload_n hx hb dX2_setFlow_47 rfl (lv_at hl 1 rfl) ?_
        refine va_get (D := G.1) (ci := 2) (v := .ref pn) (C := RX2) (T := TX2) (N := 4) hx hb hts hinX2 hown hK hP 0 rfl rfl 0 (by decide) (hts (.fieldLink RX2 16 "MeanderFarm" "now" "LMeanderFarm$River;") (List.mem_of_getElem? (i := 5) rfl)) (fun _ h9 => h9) rfl dX2_setFlow_48 ?_
        refine va_getN (D := G.1) (ci := 1) (v := .ref (adn 5)) (C := RX1) (T := TX1) (N := 14) hx hb hts hinX1 hown hK hP 2 rfl rfl 5 (by decide) (va_Nw.use rfl (hN.f 9 rfl)) (fun _ h9 => h9) rfl dX2_setFlow_51 ?_
        refine lv_iload_n hx hb dX2_setFlow_54 rfl (lv_at hl 2 rfl) ?_
        refine lv_iload_n hx hb dX2_setFlow_55 rfl (lv_at hl 3 rfl) ?_
        refine mf_iast (n := 12) (f := r 5) hx hb hK hP hD hS 8 0 rfl rfl (z := yv) (x := fv) (by omega) (by omega) (by decide) dX2_setFlow_56 (fun H locs hP hD hS => ?_)
        obtain ⟨r6, er6⟩ : ∃ z9 : mf_V, z9 = mf_sF r 5 (mf_up (r 5) (yv) (fv)) := ⟨_, rfl⟩
        have hP : va_P G.1 vwCl (OW G ho pn pa pf ae x ++ RW G pn adn r6 ++ RW G pa ada ra ++ FW G pf adf f) H := by rw [er6]; exact hP
        have hD : va_D A (OW G ho pn pa pf ae x ++ RW G pn adn r6 ++ RW G pa ada ra ++ FW G pf adf f) := by rw [er6]; exact hD
        have okr6 : rOK rlo rhi r6 := by rw [er6]; exact rOK_up ok 5 _ _ (show (0 : Int) ≤ fv by omega) (show fv ≤ (9 : Int) by omega)
        have f1_r6 : r6 5 (yv) = fv := by rw [er6, mf_sF_s, mf_up_s]
        have f2_r6 : ∀ y, y ≠ (yv) → r6 5 y = r 5 y := fun y hy => by rw [er6, mf_sF_s, mf_up_n hy]
        have f3_r6 : ∀ q, q ≠ 5 → r6 q = r q := fun q hq => by rw [er6, mf_sF_n hq]
        refine lv_iload_n hx hb dX2_setFlow_57 rfl (lv_at hl 0 rfl) ?_
        have hk9 : kFlow yv fv = 0 := (mf_if_f (fun z => z (by omega))).trans (mf_if_f (fun z => z (by assumption)))
        refine W.widen (k := 1) (n := 6) (Nat.le_of_ble_eq_true rfl) (Nat.le_of_ble_eq_true rfl) ?_
        refine vx_ret ?_
        exact W.iret hx hb hr (fun t ht hW => ⟨⟨_, (x, r6, ra, f), rfl, ⟨_, rfl, by (try dsimp only); exact ⟨hk9, ⟨okx, okr6, okra, okf⟩, er6, rfl, rfl⟩⟩, by rw [ht]; exact hP, hD⟩, hS.F ht⟩) hS.2.2 dX2_setFlow_58
      · skip
        have hk9 : kFlow yv fv = 2 := (mf_if_f (fun z => z (by omega))).trans (mf_if_t (by assumption))
        exact mf_throw (ik := 48) (is := 66) (ic := 52) (cls := "java/lang/IllegalArgumentException") hx hb hl9 hown (by decide +kernel) (hts (.classLink RX2 48 "java/lang/IllegalArgumentException") (List.mem_of_getElem? (i := 3) rfl)) (hts (.initialized "java/lang/IllegalArgumentException") (List.mem_of_getElem? (i := 4) rfl)) hSX (List.mem_of_getElem? (i := 3) rfl) hat52 xg52 hZ hP hD hS (hl.1.trans hml.symm) dX2_setFlow_27 dX2_setFlow_30 dX2_setFlow_31 dX2_setFlow_33 dX2_setFlow_36 hexc (Nat.le_of_ble_eq_true rfl) (Nat.le_of_ble_eq_true rfl) (Nat.le_of_ble_eq_true rfl) (Nat.le_of_ble_eq_true rfl) hlocks (by exact Or.inr (⟨rfl, hk9⟩)) (Nat.le_of_ble_eq_true rfl) (Nat.le_of_ble_eq_true rfl)
    · skip
      have hk9 : kFlow yv fv = 1 := mf_if_t (by omega)
      exact mf_throw (ik := 38) (is := 64) (ic := 42) (cls := "java/lang/IndexOutOfBoundsException") hx hb hl9 hown (by decide +kernel) (hts (.classLink RX2 38 "java/lang/IndexOutOfBoundsException") (List.mem_of_getElem? (i := 1) rfl)) (hts (.initialized "java/lang/IndexOutOfBoundsException") (List.mem_of_getElem? (i := 2) rfl)) hSX (List.mem_of_getElem? (i := 2) rfl) hat42 xg42 hZ hP hD hS (hl.1.trans hml.symm) dX2_setFlow_10 dX2_setFlow_13 dX2_setFlow_14 dX2_setFlow_16 dX2_setFlow_19 hexc (Nat.le_of_ble_eq_true rfl) (Nat.le_of_ble_eq_true rfl) (Nat.le_of_ble_eq_true rfl) (Nat.le_of_ble_eq_true rfl) hlocks (by exact Or.inl ⟨rfl, hk9⟩) (Nat.le_of_ble_eq_true rfl) (Nat.le_of_ble_eq_true rfl)
theorem sb_a21b19b911 {G : mf_G} {h1 p1 a1 f1 ae1 : Nat} {x1 : mf_V} {h2 : Nat} {ad2 : Nat → Nat} {x2 : mf_V} {h3 : Nat} {ad3 : Nat → Nat} {x3 : mf_V} {h4 : Nat} {ad4 : Nat → Nat} {x4 : mf_V} : ([26, 27, 28, 29, 30] : List Nat).filterMap (fun i => (OW G h1 p1 a1 f1 ae1 x1 ++ RW G h2 ad2 x2 ++ RW G h3 ad3 x3 ++ FW G h4 ad4 x4)[i]?) = FW G h4 ad4 x4 := rfl
set_option maxHeartbeats 4000000 in
set_option maxRecDepth 100000 in
theorem c_X2_cell (l : Launch) (hl9 : l.stackTraces = false) (G : mf_G) (ho pn pa pf : Nat) (ae : Nat) (x : mf_V) (adn : Nat → Nat) (r : mf_V) (ada : Nat → Nat) (ra : mf_V) (adf : Nat → Nat) (f : mf_V)  (xv : Int) (yv : Int) (wv : Int) (hxv : i32 xv) (hyv : i32 yv) (hwv : i32 wv) (okx : rOK xlo xhi x) (ok : rOK rlo rhi r) (okra : rOK rlo rhi ra) (okf : rOK flo fhi f) (sz : Nat) : vx_Met l yX2_cell wsX2_cell ({ frames := 6, cells := 1, slots := 6, locals := 90 }) (va_Pc [.ref ho, .int (iI (xv)), .int (iI (yv)), .int (iI (wv))] (WrPx G (OW G ho pn pa pf ae x ++ RW G pn adn r ++ RW G pa ada ra ++ FW G pf adf f) sz)) (va_Qi (fun q9 (u : mf_V × mf_V × mf_V × mf_V) => ∃ z : Int, q9 = iI z ∧ kCell2 xv yv wv = 0 ∧ (rOK xlo xhi u.1 ∧ rOK rlo rhi u.2.1 ∧ rOK rlo rhi u.2.2.1 ∧ rOK flo fhi u.2.2.2) ∧ u.2.1 = r ∧ u.2.2.2 = f ∧ z = vCell r f xv yv wv) (fun (u : mf_V × mf_V × mf_V × mf_V) t => WrQ G (va_A (OW G ho pn pa pf ae x ++ RW G pn adn r ++ RW G pa ada ra ++ FW G pf adf f) sz) (OW G ho pn pa pf ae (u.1) ++ RW G pn adn (u.2.1) ++ RW G pa ada (u.2.2.1) ++ FW G pf adf (u.2.2.2)) t) (va_A (OW G ho pn pa pf ae x ++ RW G pn adn r ++ RW G pa ada ra ++ FW G pf adf f) sz)) (vx_X (fun _ : Unit => True) (fun E _ t => (E = xIO ∧ kCell2 xv yv wv = 1) ∧ WrQ G (va_A (OW G ho pn pa pf ae x ++ RW G pn adn r ++ RW G pa ada ra ++ FW G pf adf f) sz) (OW G ho pn pa pf ae x ++ RW G pn adn r ++ RW G pa ada ra ++ FW G pf adf f) t) (va_A (OW G ho pn pa pf ae x ++ RW G pn adn r ++ RW G pa ada ra ++ FW G pf adf f) sz)) 1 6 (va_A (OW G ho pn pa pf ae x ++ RW G pn adn r ++ RW G pa ada ra ++ FW G pf adf f) sz) := by
  refine vx_ofW (cc := cX2_cell) (maxL := 5) (ret := (some .int)) (by decide) rfl ?_
  intro p e s m args below meth c s₁ B hml hexc hv
  obtain ⟨rfl, hsz, hP, hK, hD0, hN, hSX, hCX, hZ⟩ := hv
  have hx := B.exec
  have hb := B.bytes
  have hr := B.returns
  have hts := atoms_spec (ws := wsX2_cell) B.pre
  have hown : s.vm.findClass RX2 = some m.cls := findClass_of_methodNamed B.named
  have hlocks := B.notSynchronized
  have hat42 := vx_hat (fun w h => hts w (List.mem_cons_of_mem _ (List.mem_append_right _ h))) xb42 (vx_c (va_Nw.use rfl hCX.1) (vx_c (va_Nw.use rfl hCX.2.2.2.1) (vx_c (va_Nw.use rfl hCX.2.2.2.2.1) (vx_c (va_Nw.use rfl hCX.2.2.2.2.2) vx_n))))
  have hinX1 : ∀ w ∈ u_ws RX1 TX1 14, w ∈ wsX2_cell := fun w h => List.mem_cons_of_mem _ (List.mem_append_left _ (List.mem_append_left _ (List.mem_append_right _ h)))
  have hinX2 : ∀ w ∈ u_ws RX2 TX2 4, w ∈ wsX2_cell := fun w h => List.mem_cons_of_mem _ (List.mem_append_left _ (List.mem_append_left _ (List.mem_append_left _ (List.mem_append_right _ h))))
  subst hsz
  have hD := hD0.self (sz := s.heap.size)
  generalize hAe : va_A (OW G ho pn pa pf ae x ++ RW G pn adn r ++ RW G pa ada ra ++ FW G pf adf f) s.heap.size = A at hD hZ ⊢
  have hA : ∀ q : Nat, s.heap.size ≤ q → A q := fun q h => by rw [← hAe]; exact Or.inr h
  have hS : va_S A s.heap s.heap [] := va_S.rf
  have hl := lv_entry ([.ref ho, .int (iI (xv)), .int (iI (yv)), .int (iI (wv))]) (n := 5) (Nat.le_of_ble_eq_true rfl)
  rw [lg_entry_eq]
  generalize (lg_sl ([.ref ho, .int (iI (xv)), .int (iI (yv)), .int (iI (wv))]) ++ List.replicate (5 - (lg_sl ([.ref ho, .int (iI (xv)), .int (iI (yv)), .int (iI (wv))])).length) Slot.unset).toArray = ls at hl ⊢
  have hl : lv_has ls 5 [(0, .ref ho), (1, .int (iI (xv))), (2, .int (iI (yv))), (3, .int (iI (wv)))] := hl
  have hxv1 := hxv.1
  have hxv2 := hxv.2
  have hyv1 := hyv.1
  have hyv2 := hyv.2
  have hwv1 := hwv.1
  have hwv2 := hwv.2
  have okLr : (0 : Int) ≤ r 7 0 ∧ r 7 0 ≤ 150 := ok 7 0
  have okLra : (0 : Int) ≤ ra 7 0 ∧ ra 7 0 ≤ 150 := okra 7 0
  refine lv_iload_n hx hb dX2_cell_0 rfl (lv_at hl 1 rfl) ?_
  refine lv_iload_n hx hb dX2_cell_1 rfl (lv_at hl 2 rfl) ?_
  refine vp_callSi (va_Run.run (va_runS (As := [.int (iI (xv)), .int (iI (yv))]) (rest := []) ⟨hx, hb, hml, hown, hts⟩ (c_X2_cellNumber l (xv) (yv) (i32_mk (by omega) (by omega)) (i32_mk (by omega) (by omega))) (va_cwS 2 hts gX2_cell_X2_cellNumber rfl rfl rfl (by decide +kernel) ⟨Nat.le_of_ble_eq_true rfl, Nat.le_of_ble_eq_true rfl⟩) pureS rfl rfl hl.1 rfl (lv_room (Nat.le_of_ble_eq_true rfl)) dX2_cell_2 ⟨(Nat.zero_le _), (Nat.zero_le _)⟩)) (fun q1 hq1 => ?_)
  subst hq1
  refine mf_nm (fun y2 ey2 => ?_)
  have b3 : -1 ≤ y2 ∧ y2 ≤ 383 := by rw [ey2]; exact cellNo_b xv yv
  have hcn := cellNo_i xv yv
  rw [← ey2] at hcn
  refine lv_istore (lv' := [(4, .int (iI (y2))), (0, .ref ho), (1, .int (iI (xv))), (2, .int (iI (yv))), (3, .int (iI (wv)))]) hx hb dX2_cell_5 hl (by decide) rfl (fun ls hl => ?_)
  refine lv_iload hx hb dX2_cell_7 (lv_at hl 0 rfl) ?_
  refine vp_callSi (va_Run.run (va_runS (As := [.int (iI (y2))]) (rest := []) ⟨hx, hb, hml, hown, hts⟩ (c_X2_isCell l (y2) (i32_mk (by omega) (by omega))) (va_cwS 1 hts gX2_cell_X2_isCell rfl rfl rfl (by decide +kernel) ⟨Nat.le_of_ble_eq_true rfl, Nat.le_of_ble_eq_true rfl⟩) pureS rfl rfl hl.1 rfl (lv_room (Nat.le_of_ble_eq_true rfl)) dX2_cell_9 ⟨(Nat.zero_le _), (Nat.zero_le _)⟩)) (fun q4 hq4 => ?_)
  subst hq4
  refine mf_bp_ne (tgt := 25) hx hb dX2_cell_12 (by decide) (fun c5 => ?_) (fun c5 => ?_)
  · skip
    have b2 : (0 : Int) ≤ r 2 (xv + 24 * yv) ∧ r 2 (xv + 24 * yv) ≤ 1 := ok 2 _
    have hcp : cellP xv yv := by rcases hcn with q | q; exact q.1; (exfalso; omega)
    have hcv : y2 = xv + 24 * yv := by rcases hcn with q | q; exact q.2; (exfalso; omega)
    refine lv_iload_n hx hb dX2_cell_25 rfl (lv_at hl 4 rfl) ?_
    have w6 : i32 (wv) := (i32_mk (by omega) (by omega))
    rcases (show  (wv) = 0 ∨  (wv) = 1 ∨  (wv) = 2 ∨  (wv) = 3 ∨  (wv) = 4 ∨  (wv) = 5 ∨  ((wv) < 0 ∨ 5 < (wv)) by omega) with c7 | c7 | c7 | c7 | c7 | c7 | c7
    · skip
      refine lv_tableIn (off := 38) (tgt := 64) hx hb dX2_cell_26 (by rw [iI_toInt w6]; omega) (by rw [iI_toInt w6]; omega) (by rw [iI_toInt w6, c7]; rfl) (by decide) ?_
      refine lv_aload_n hx hb dX2_cell_64 rfl (lv_at hl 1 rfl) ?_
      refine va_get (D := G.1) (ci := 2) (v := .ref pn) (C := RX2) (T := TX2) (N := 4) hx hb hts hinX2 hown hK hP 0 rfl rfl 0 (by decide) (hts (.fieldLink RX2 16 "MeanderFarm" "now" "LMeanderFarm$River;") (List.mem_of_getElem? (i := 3) rfl)) (fun _ h9 => h9) rfl dX2_cell_65 ?_
      refine va_getN (D := G.1) (ci := 1) (v := .ref (adn 0)) (C := RX1) (T := TX1) (N := 14) hx hb hts hinX1 hown hK hP 2 rfl rfl 0 (by decide) (va_Nw.use rfl (hN.f 7 rfl)) (fun _ h9 => h9) rfl dX2_cell_68 ?_
      refine lv_iload hx hb dX2_cell_71 (lv_at hl 0 rfl) ?_
      refine mf_iald (n := 384) (f := r 0) hx hb hK hP 3 0 rfl rfl (z := y2) (by omega) (by omega) (by decide) dX2_cell_73 ?_
      have b8 : (0 : Int) ≤ r 0 y2 ∧ r 0 y2 ≤ 9 := ok 0 (y2)
      have hk9 : kCell2 xv yv wv = 0 := mf_if_f (fun z => z ⟨hcp, by omega⟩)
      refine W.widen (k := 1) (n := 6) (Nat.le_of_ble_eq_true rfl) (Nat.le_of_ble_eq_true rfl) ?_
      refine vx_ret ?_
      exact W.iret hx hb hr (fun t ht hW => ⟨⟨_, (x, r, ra, f), rfl, ⟨_, rfl, by (try dsimp only); exact ⟨hk9, ⟨okx, ok, okra, okf⟩, rfl, rfl, by unfold vCell;  rw [if_pos (by omega)]; all_goals (first | (rw [← hcv]; done) | omega | (rw [← hcv]; omega) | rfl | (rw [← hcv]; assumption))⟩⟩, by rw [ht]; exact hP, hD⟩, hS.F ht⟩) hS.2.2 dX2_cell_74
    · skip
      refine lv_tableIn (off := 49) (tgt := 75) hx hb dX2_cell_26 (by rw [iI_toInt w6]; omega) (by rw [iI_toInt w6]; omega) (by rw [iI_toInt w6, c7]; rfl) (by decide) ?_
      refine lv_aload_n hx hb dX2_cell_75 rfl (lv_at hl 1 rfl) ?_
      refine va_get (D := G.1) (ci := 2) (v := .ref pn) (C := RX2) (T := TX2) (N := 4) hx hb hts hinX2 hown hK hP 0 rfl rfl 0 (by decide) (hts (.fieldLink RX2 16 "MeanderFarm" "now" "LMeanderFarm$River;") (List.mem_of_getElem? (i := 3) rfl)) (fun _ h9 => h9) rfl dX2_cell_76 ?_
      refine va_getN (D := G.1) (ci := 1) (v := .ref (adn 1)) (C := RX1) (T := TX1) (N := 14) hx hb hts hinX1 hown hK hP 2 rfl rfl 1 (by decide) (va_Nw.use rfl (hN.f 10 rfl)) (fun _ h9 => h9) rfl dX2_cell_79 ?_
      refine lv_iload hx hb dX2_cell_82 (lv_at hl 0 rfl) ?_
      refine mf_iald (n := 384) (f := r 1) hx hb hK hP 4 0 rfl rfl (z := y2) (by omega) (by omega) (by decide) dX2_cell_84 ?_
      have b9 : (0 : Int) ≤ r 1 y2 ∧ r 1 y2 ≤ 200000000 := ok 1 (y2)
      have hk9 : kCell2 xv yv wv = 0 := mf_if_f (fun z => z ⟨hcp, by omega⟩)
      refine W.widen (k := 1) (n := 6) (Nat.le_of_ble_eq_true rfl) (Nat.le_of_ble_eq_true rfl) ?_
      refine vx_ret ?_
      exact W.iret hx hb hr (fun t ht hW => ⟨⟨_, (x, r, ra, f), rfl, ⟨_, rfl, by (try dsimp only); exact ⟨hk9, ⟨okx, ok, okra, okf⟩, rfl, rfl, by unfold vCell; rw [if_neg (by omega)]; rw [if_pos (by omega)]; all_goals (first | (rw [← hcv]; done) | omega | (rw [← hcv]; omega) | rfl | (rw [← hcv]; assumption))⟩⟩, by rw [ht]; exact hP, hD⟩, hS.F ht⟩) hS.2.2 dX2_cell_85
    · skip
      refine lv_tableIn (off := 60) (tgt := 86) hx hb dX2_cell_26 (by rw [iI_toInt w6]; omega) (by rw [iI_toInt w6]; omega) (by rw [iI_toInt w6, c7]; rfl) (by decide) ?_
      refine lv_aload_n hx hb dX2_cell_86 rfl (lv_at hl 1 rfl) ?_
      refine va_get (D := G.1) (ci := 2) (v := .ref pn) (C := RX2) (T := TX2) (N := 4) hx hb hts hinX2 hown hK hP 0 rfl rfl 0 (by decide) (hts (.fieldLink RX2 16 "MeanderFarm" "now" "LMeanderFarm$River;") (List.mem_of_getElem? (i := 3) rfl)) (fun _ h9 => h9) rfl dX2_cell_87 ?_
      refine va_getN (D := G.1) (ci := 1) (v := .ref (adn 2)) (C := RX1) (T := TX1) (N := 14) hx hb hts hinX1 hown hK hP 2 rfl rfl 2 (by decide) (va_Nw.use rfl (hN.f 8 rfl)) (fun _ h9 => h9) rfl dX2_cell_90 ?_
      refine lv_iload hx hb dX2_cell_93 (lv_at hl 0 rfl) ?_
      refine mf_zald (n := 384) (f := r 2) hx hb hK hP 5 1 rfl rfl (z := y2) (by omega) (by omega) (by decide) dX2_cell_95 ?_
      have b10 : (0 : Int) ≤ r 2 y2 ∧ r 2 y2 ≤ 1 := ok 2 (y2)
      refine mf_if_eq (tgt := 103) hx hb dX2_cell_96 (by decide) (i32_mk (by omega) (by omega)) (fun c11 => ?_) (fun c11 => ?_)
      · skip
        refine mf_iconst hx hb dX2_cell_103 ?_
        have hk9 : kCell2 xv yv wv = 0 := mf_if_f (fun z => z ⟨hcp, by omega⟩)
        refine W.widen (k := 1) (n := 6) (Nat.le_of_ble_eq_true rfl) (Nat.le_of_ble_eq_true rfl) ?_
        refine vx_ret ?_
        exact W.iret hx hb hr (fun t ht hW => ⟨⟨_, (x, r, ra, f), rfl, ⟨_, rfl, by (try dsimp only); exact ⟨hk9, ⟨okx, ok, okra, okf⟩, rfl, rfl, by unfold vCell; rw [if_neg (by omega)]; rw [if_neg (by omega)]; rw [if_pos (by omega)]; all_goals (first | (rw [← hcv]; done) | omega | (rw [← hcv]; omega) | rfl | (rw [← hcv]; assumption))⟩⟩, by rw [ht]; exact hP, hD⟩, hS.F ht⟩) hS.2.2 dX2_cell_104
      · skip
        refine mf_iconst hx hb dX2_cell_99 ?_
        refine lv_goto (tgt := 104) hx hb dX2_cell_100 (by decide) ?_
        have hk9 : kCell2 xv yv wv = 0 := mf_if_f (fun z => z ⟨hcp, by omega⟩)
        refine W.widen (k := 1) (n := 6) (Nat.le_of_ble_eq_true rfl) (Nat.le_of_ble_eq_true rfl) ?_
        refine vx_ret ?_
        exact W.iret hx hb hr (fun t ht hW => ⟨⟨_, (x, r, ra, f), rfl, ⟨_, rfl, by (try dsimp only); exact ⟨hk9, ⟨okx, ok, okra, okf⟩, rfl, rfl, by unfold vCell; rw [if_neg (by omega)]; rw [if_neg (by omega)]; rw [if_pos (by omega)]; all_goals (first | (rw [← hcv]; done) | omega | (rw [← hcv]; omega) | rfl | (rw [← hcv]; assumption))⟩⟩, by rw [ht]; exact hP, hD⟩, hS.F ht⟩) hS.2.2 dX2_cell_104
    · skip
      refine lv_tableIn (off := 79) (tgt := 105) hx hb dX2_cell_26 (by rw [iI_toInt w6]; omega) (by rw [iI_toInt w6]; omega) (by rw [iI_toInt w6, c7]; rfl) (by decide) ?_
      refine lv_aload_n hx hb dX2_cell_105 rfl (lv_at hl 1 rfl) ?_
      refine va_get (D := G.1) (ci := 2) (v := .ref pn) (C := RX2) (T := TX2) (N := 4) hx hb hts hinX2 hown hK hP 0 rfl rfl 0 (by decide) (hts (.fieldLink RX2 16 "MeanderFarm" "now" "LMeanderFarm$River;") (List.mem_of_getElem? (i := 3) rfl)) (fun _ h9 => h9) rfl dX2_cell_106 ?_
      refine va_getN (D := G.1) (ci := 1) (v := .ref (adn 10)) (C := RX1) (T := TX1) (N := 14) hx hb hts hinX1 hown hK hP 2 rfl rfl 10 (by decide) (va_Nw.use rfl (hN.f 11 rfl)) (fun _ h9 => h9) rfl dX2_cell_109 ?_
      refine lv_iload hx hb dX2_cell_112 (lv_at hl 0 rfl) ?_
      refine mf_iald (n := 384) (f := r 10) hx hb hK hP 10 0 rfl rfl (z := y2) (by omega) (by omega) (by decide) dX2_cell_114 ?_
      have b12 : (-1 : Int) ≤ r 10 y2 ∧ r 10 y2 ≤ 149 := ok 10 (y2)
      have hk9 : kCell2 xv yv wv = 0 := mf_if_f (fun z => z ⟨hcp, by omega⟩)
      refine W.widen (k := 1) (n := 6) (Nat.le_of_ble_eq_true rfl) (Nat.le_of_ble_eq_true rfl) ?_
      refine vx_ret ?_
      exact W.iret hx hb hr (fun t ht hW => ⟨⟨_, (x, r, ra, f), rfl, ⟨_, rfl, by (try dsimp only); exact ⟨hk9, ⟨okx, ok, okra, okf⟩, rfl, rfl, by unfold vCell; rw [if_neg (by omega)]; rw [if_neg (by omega)]; rw [if_neg (by omega)]; rw [if_pos (by omega)]; all_goals (first | (rw [← hcv]; done) | omega | (rw [← hcv]; omega) | rfl | (rw [← hcv]; assumption))⟩⟩, by rw [ht]; exact hP, hD⟩, hS.F ht⟩) hS.2.2 dX2_cell_115
    · skip
      refine lv_tableIn (off := 90) (tgt := 116) hx hb dX2_cell_26 (by rw [iI_toInt w6]; omega) (by rw [iI_toInt w6]; omega) (by rw [iI_toInt w6, c7]; rfl) (by decide) ?_
      refine lv_aload_n hx hb dX2_cell_116 rfl (lv_at hl 1 rfl) ?_
      refine va_get (D := G.1) (ci := 2) (v := .ref pn) (C := RX2) (T := TX2) (N := 4) hx hb hts hinX2 hown hK hP 0 rfl rfl 0 (by decide) (hts (.fieldLink RX2 16 "MeanderFarm" "now" "LMeanderFarm$River;") (List.mem_of_getElem? (i := 3) rfl)) (fun _ h9 => h9) rfl dX2_cell_117 ?_
      refine lv_iload hx hb dX2_cell_120 (lv_at hl 0 rfl) ?_
      refine vp_callSi (va_Run.run (va_runVN (As := [.int (iI (y2))]) (rest := []) ⟨hx, hb, hml, hown, hts⟩ (c_X1_lakeYearsLeft l G pn adn r (y2) (i32_mk (by omega) (by omega)) (by assumption)) ⟨(va_cnB 1 hts gX2_cell_X1_lakeYearsLeft_n77 rfl rfl rfl (hN.m 20 rfl) (hts (.initialized RX1) (List.mem_of_getElem? (i := 13) rfl)) (by decide +kernel) ⟨Nat.le_of_ble_eq_true rfl, Nat.le_of_ble_eq_true rfl⟩), (hts (.instanceMethod yX1_lakeYearsLeft) (List.mem_of_getElem? (i := 12) rfl)), (hts (.selects RX1 yX1_lakeYearsLeft yX1_lakeYearsLeft) (List.mem_of_getElem? (i := 14) rfl))⟩ (rdV (wc := RW G pn adn r) hK hP hN [2, 3, 4, 5, 6, 7, 8, 9, 10, 11, 12, 13] sb_9548ab2e14 (ci := 1) rfl rfl) rfl rfl hl.1 rfl (lv_room (Nat.le_of_ble_eq_true rfl)) dX2_cell_122 ⟨(Nat.zero_le _), (Nat.zero_le _)⟩)) (fun q13 hq13 => ?_)
      subst hq13
      refine mf_nm (fun y14 ey14 => ?_)
      have b15 : 0 ≤ y14 ∧ y14 ≤ 100000 := by rw [ey14]; exact lyl_b (by assumption) y2
      have hk9 : kCell2 xv yv wv = 0 := mf_if_f (fun z => z ⟨hcp, by omega⟩)
      refine W.widen (k := 1) (n := 6) (Nat.le_of_ble_eq_true rfl) (Nat.le_of_ble_eq_true rfl) ?_
      refine vx_ret ?_
      exact W.iret hx hb hr (fun t ht hW => ⟨⟨_, (x, r, ra, f), rfl, ⟨_, rfl, by (try dsimp only); exact ⟨hk9, ⟨okx, ok, okra, okf⟩, rfl, rfl, by unfold vCell; rw [if_neg (by omega)]; rw [if_neg (by omega)]; rw [if_neg (by omega)]; rw [if_neg (by omega)]; rw [if_pos (by omega)]; all_goals (first | (rw [← hcv]; done) | omega | (rw [← hcv]; omega) | rfl | (rw [← hcv]; assumption))⟩⟩, by rw [ht]; exact hP, hD⟩, hS.F ht⟩) hS.2.2 dX2_cell_125
    · skip
      refine lv_tableIn (off := 100) (tgt := 126) hx hb dX2_cell_26 (by rw [iI_toInt w6]; omega) (by rw [iI_toInt w6]; omega) (by rw [iI_toInt w6, c7]; rfl) (by decide) ?_
      refine lv_aload_n hx hb dX2_cell_126 rfl (lv_at hl 1 rfl) ?_
      refine va_get (D := G.1) (ci := 2) (v := .ref pf) (C := RX2) (T := TX2) (N := 4) hx hb hts hinX2 hown hK hP 0 rfl rfl 2 (by decide) (hts (.fieldLink RX2 26 "MeanderFarm" "farms" "LMeanderFarm$Farms;") (List.mem_of_getElem? (i := 4) rfl)) (fun _ h9 => h9) rfl dX2_cell_127 ?_
      refine lv_iload_n hx hb dX2_cell_130 rfl (lv_at hl 2 rfl) ?_
      refine lv_iload_n hx hb dX2_cell_131 rfl (lv_at hl 3 rfl) ?_
      refine vp_callSi (va_Run.run (va_runVN (As := [.int (iI (xv)), .int (iI (yv))]) (rest := []) ⟨hx, hb, hml, hown, hts⟩ (c_X0_farmsAt l G pf adf f (xv) (yv) (i32_mk (by omega) (by omega)) (i32_mk (by omega) (by omega)) (by assumption)) ⟨(va_cnB 2 hts gX2_cell_X0_farmsAt_n81 rfl rfl rfl (hN.m 21 rfl) (hts (.initialized RX0) (List.mem_of_getElem? (i := 23) rfl)) (by decide +kernel) ⟨Nat.le_of_ble_eq_true rfl, Nat.le_of_ble_eq_true rfl⟩), (hts (.instanceMethod yX0_farmsAt) (List.mem_of_getElem? (i := 22) rfl)), (hts (.selects RX0 yX0_farmsAt yX0_farmsAt) (List.mem_of_getElem? (i := 24) rfl))⟩ (rdV (wc := FW G pf adf f) hK hP hN [26, 27, 28, 29, 30] sb_a21b19b911 (ci := 0) rfl rfl) rfl rfl hl.1 rfl (lv_room (Nat.le_of_ble_eq_true rfl)) dX2_cell_132 ⟨(Nat.zero_le _), (Nat.zero_le _)⟩)) (fun q16 hq16 => ?_)
      subst hq16
      refine mf_topw ?_
      skip
      have hk9 : kCell2 xv yv wv = 0 := mf_if_f (fun z => z ⟨hcp, by omega⟩)
      refine W.widen (k := 1) (n := 6) (Nat.le_of_ble_eq_true rfl) (Nat.le_of_ble_eq_true rfl) ?_
      refine vx_ret ?_
      exact W.iret hx hb hr (fun t ht hW => ⟨⟨_, (x, r, ra, f), rfl, ⟨_, rfl, by (try dsimp only); exact ⟨hk9, ⟨okx, ok, okra, okf⟩, rfl, rfl, by unfold vCell; rw [if_neg (by omega)]; rw [if_neg (by omega)]; rw [if_neg (by omega)]; rw [if_neg (by omega)]; rw [if_neg (by omega)]; all_goals (first | (rw [← hcv]; done) | omega | (rw [← hcv]; omega) | rfl | (rw [← hcv]; assumption))⟩⟩, by rw [ht]; exact hP, hD⟩, hS.F ht⟩) hS.2.2 dX2_cell_135
    · skip
      refine lv_tableOut (tgt := 136) hx hb dX2_cell_26 (by rw [iI_toInt w6]; omega) (by decide) ?_
      have hk9 : kCell2 xv yv wv = 1 := mf_if_t (fun z => by have z2 := z.2; omega)
      exact mf_throw (ik := 38) (is := 84) (ic := 42) (cls := "java/lang/IndexOutOfBoundsException") hx hb hl9 hown (by decide +kernel) (hts (.classLink RX2 38 "java/lang/IndexOutOfBoundsException") (List.mem_of_getElem? (i := 1) rfl)) (hts (.initialized "java/lang/IndexOutOfBoundsException") (List.mem_of_getElem? (i := 2) rfl)) hSX (List.mem_of_getElem? (i := 4) rfl) hat42 xg42 hZ hP hD hS (hl.1.trans hml.symm) dX2_cell_136 dX2_cell_139 dX2_cell_140 dX2_cell_142 dX2_cell_145 hexc (Nat.le_of_ble_eq_true rfl) (Nat.le_of_ble_eq_true rfl) (Nat.le_of_ble_eq_true rfl) (Nat.le_of_ble_eq_true rfl) hlocks (by exact ⟨rfl, hk9⟩) (Nat.le_of_ble_eq_true rfl) (Nat.le_of_ble_eq_true rfl)
  · skip
    have hcq : ¬ cellP xv yv := by rcases hcn with q | q; (have q1 := q.1; unfold cellP at q1; exfalso; omega); exact q.1
    have hk9 : kCell2 xv yv wv = 1 := mf_if_t (fun z => hcq z.1)
    exact mf_throw (ik := 38) (is := 40) (ic := 42) (cls := "java/lang/IndexOutOfBoundsException") hx hb hl9 hown (by decide +kernel) (hts (.classLink RX2 38 "java/lang/IndexOutOfBoundsException") (List.mem_of_getElem? (i := 1) rfl)) (hts (.initialized "java/lang/IndexOutOfBoundsException") (List.mem_of_getElem? (i := 2) rfl)) hSX (List.mem_of_getElem? (i := 0) rfl) hat42 xg42 hZ hP hD hS (hl.1.trans hml.symm) dX2_cell_15 dX2_cell_18 dX2_cell_19 dX2_cell_21 dX2_cell_24 hexc (Nat.le_of_ble_eq_true rfl) (Nat.le_of_ble_eq_true rfl) (Nat.le_of_ble_eq_true rfl) (Nat.le_of_ble_eq_true rfl) hlocks (by exact ⟨rfl, hk9⟩) (Nat.le_of_ble_eq_true rfl) (Nat.le_of_ble_eq_true rfl)
