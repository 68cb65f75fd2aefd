/-! 51.cls: the calls of MeanderFarm -/
abbrev xNm : List String := ["java/lang/RuntimeException", "java/lang/Exception"]
abbrev xIO : String := "java/lang/IndexOutOfBoundsException"
abbrev xIA : String := "java/lang/IllegalArgumentException"
abbrev xIS : String := "java/lang/IllegalStateException"
def txts : List (Nat × String) := [(40, "no such cell"), (50, "hardness is not 1 to 9"), (64, "year is not 0 to 11"), (66, "flow is not 1 to 9"), (84, "what is not 0 to 5"), (89, "no such cell of the course"), (106, "what is not 0 to 4"), (108, "side is not 0 to 3"), (116, "a bulge to this side cannot be"), (130, "both are no neck"), (151, "what is not 0 to 3"), (157, "the farm is empty, or not all in the plain"), (162, "there are 6 farms"), (171, "no such farm"), (177, "years is not 1 to 100"), (182, "what is not 0 to 7"), (187, "what is not 0 to 2"), (192, "years is not 1 to 30")]
/-- the texts of the exceptions -/
def SX (U : State) : Prop := ∀ q ∈ txts, ∃ a, vk_R RX2 q.1 q.2 a U
def CX (U : State) : Prop := va_Nw (.castable xIO xIO) U ∧ va_Nw (.castable xIA xIA) U ∧ va_Nw (.castable xIS xIS) U
/-- the two statics of Throwable -/
def ZX (A : Nat → Prop) (U : State) (H : Heap) : Prop := vx_Zq Bundle.tN "UNASSIGNED_STACK" Bundle.steD A U H ∧ vx_Zq Bundle.tN "SUPPRESSED_SENTINEL" Bundle.listD A U H
theorem SX.warm {s U : State} (hW : s.WarmedH U.vm) (h : SX s) : SX U := fun q hq => by obtain ⟨a, ha⟩ := h q hq; exact ⟨a, vk_R.warm hW ha⟩
theorem SX.same {u U : State} (hv : U.vm = u.vm) (h : SX u) : SX U := fun q hq => by obtain ⟨a, ha⟩ := h q hq; exact ⟨a, vk_R.same hv ha⟩
theorem CX.warm {s U : State} (hW : s.WarmedH U.vm) (h : CX s) : CX U := ⟨va_Nw.warmC hW h.1, va_Nw.warmC hW h.2.1, va_Nw.warmC hW h.2.2⟩
theorem CX.same {u U : State} (hv : u.vm = U.vm) (h : CX u) : CX U := ⟨va_Nw.same rfl hv h.1, va_Nw.same rfl hv h.2.1, va_Nw.same rfl hv h.2.2⟩
theorem ZX.moved {A : Nat → Prop} {u U : State} {H : Heap} (hv : u.vm.Alike U.vm) (h : ZX A u H) : ZX A U H := ⟨h.1.moved hv, h.2.moved hv⟩
theorem ZX.kept {A : Nat → Prop} {U : State} {H H1 : Heap} (h : ZX A U H) (hq : ∀ a : Nat, a < H.size → ¬ A a → H1[a]? = H[a]?) : ZX A U H1 := ⟨h.1.kept hq, h.2.kept hq⟩
theorem ZX.narrow {A B : Nat → Prop} {U : State} {H : Heap} (h : ZX A U H) (hAB : ∀ q, B q → A q) : ZX B U H := ⟨h.1.narrow hAB, h.2.narrow hAB⟩
def WrPx (G : mf_G) (ws : va_W) (sz : Nat) (U : State) : Prop := U.heap.size = sz ∧ va_P G.1 vwCl ws U.heap ∧ va_K G.1 vwCl (mf_ty G) U ∧ va_D (fun _ => True) ws ∧ NW U ∧ SX U ∧ CX U ∧ ZX (va_A ws sz) U U.heap
theorem wrPx_blind {G : mf_G} {ws : va_W} {sz : Nat} {av : List Value} : FrameBlind (va_Pc av (WrPx G ws sz)) := fun a U g mk q => by
  obtain ⟨q0, q1, qP, qK, qD, qN, qS, qC, qZ⟩ := q
  exact ⟨q0, q1, qP, va_K.moved (u := U) (U := U.calling g mk a) (Vm.Alike.refl U.vm) qK, qD, NW.same (U := U.calling g mk a) rfl qN, SX.same (U := U.calling g mk a) rfl qS, CX.same (U := U.calling g mk a) rfl qC, ZX.moved (u := U) (U := U.calling g mk a) (Vm.Alike.refl U.vm) qZ⟩
theorem xg42 : ∀ w ∈ Cond.classLink RX2 38 xIO :: Cond.initialized xIO :: vx_atS RX2 42 xIO xNm, vx_ot w = true := List.all_eq_true.mp (by decide +kernel)
theorem xg52 : ∀ w ∈ Cond.classLink RX2 48 xIA :: Cond.initialized xIA :: vx_atS RX2 52 xIA xNm, vx_ot w = true := List.all_eq_true.mp (by decide +kernel)
theorem xg118 : ∀ w ∈ Cond.classLink RX2 114 xIS :: Cond.initialized xIS :: vx_atS RX2 118 xIS xNm, vx_ot w = true := List.all_eq_true.mp (by decide +kernel)
theorem xb42 : ∀ w ∈ (vx_atS RX2 42 xIO xNm).filter (fun w => !goodWord w), w ∈ [Cond.castable xIO xIO] := by decide +kernel
theorem xb52 : ∀ w ∈ (vx_atS RX2 52 xIA xNm).filter (fun w => !goodWord w), w ∈ [Cond.castable xIA xIA] := by decide +kernel
theorem xb118 : ∀ w ∈ (vx_atS RX2 118 xIS xNm).filter (fun w => !goodWord w), w ∈ [Cond.castable xIS xIS] := by decide +kernel
theorem mf_throw {p : Program} {l : Launch} {e : Env} {R : Room} {s : State} {m : MethodId} {args : Array Value} {below : List Frame} {meth : Method} {c : Code} {H : Heap} {locs : List Loc} {cells slots : Nat} {cc : ByteArray} {pc : Nat} {ls : Array Slot} {rest : List Value} {G : mf_G} {ws : va_W} {A : Nat → Prop} {mc ms : Nat} {Qc : Array Value → State → Outcome → State → Prop} {XP : String → Prop}
    (hx : p.tables.exec = Jvm.exec) (hb : c.code = cc) (hl9 : l.stackTraces = false) (hown : s.vm.findClass RX2 = some m.cls) {cls text : String} {ik is ic : Nat} (hcls : Bundle.fit cls = true) (hk : (Cond.classLink RX2 ik cls).before args s = true) (hini : (Cond.initialized cls).before args s = true)
    (hSX : SX s) (htx : (is, text) ∈ txts) (hat : ∀ w ∈ vx_atS RX2 ic cls xNm, w.before args s = true) (hgood : ∀ w ∈ Cond.classLink RX2 ik cls :: Cond.initialized cls :: vx_atS RX2 ic cls xNm, vx_ot w = true)
    (hZ : ZX A s s.heap) (hP : va_P G.1 vwCl ws H) (hD : va_D A ws) (hS : va_S A s.heap H locs) (hsize : ls.size = c.maxLocals)
    (d0 : decode cc pc = .ok (.new ik, 3)) (d3 : decode cc (pc + 3) = .ok (.dup, 1)) (d4 : decode cc (pc + 4) = .ok (.ldc is, 2)) (d6 : decode cc (pc + 6) = .ok (.invokespecial ic, 3)) (d9 : decode cc (pc + 9) = .ok (.athrow, 1))
    (hexc : ∀ x ∈ c.exceptionTable.toList, False) (hRf : 6 ≤ R.frames) (hRl : (rest.map fun v => v.category).sum + 82 ≤ R.locals) (hRc : cells + 1 ≤ R.cells) (hRs : slots + 6 ≤ R.slots) (hlocks : meth.locks = false) (hXP : XP cls) (hc : cells + 1 ≤ mc) (hs : slots + 6 ≤ ms) :
    W p l e R s m args below meth c H locs cells slots (vx_MQ below Qc (vx_X (fun _ : Unit => True) (fun E _ t => XP E ∧ WrQ G A ws t) A) args s mc ms A) (F0 m pc ls rest) := by
  obtain ⟨sa, hstr⟩ := hSX _ htx
  exact vx_throwS hx hb hl9 hown hcls (by decide +kernel) hk hini hstr hat hgood hZ.1 hZ.2 hS hsize d0 d3 d4 d6 d9 (fun x h => (hexc x h).elim) hRf hRl hRc hRs hlocks (fun t hvm hz hq => ⟨(), trivial, ⟨hXP, hP.kept (fun k x hx => hq x.1 ((hP k x hx).lt)), hD⟩, Nat.le_trans hS.1 hz, fun q h1 h2 => (hq q (Nat.lt_of_lt_of_le h1 hS.1)).trans (hS.2.1 q h1 h2)⟩) hS.2.2 hc hs
theorem cellNo_i (x y : Int) : (cellP x y ∧ cellNo x y = x + 24 * y) ∨ (¬ cellP x y ∧ cellNo x y = -1) := by
  unfold cellP cellNo
  by_cases q : x < 0 ∨ 24 ≤ x ∨ y < 0 ∨ 16 ≤ y
  · rw [if_pos q]; exact Or.inr ⟨by omega, rfl⟩
  · rw [if_neg q]; exact Or.inl ⟨by omega, rfl⟩
theorem dirPos {r : mf_V} (hI : RInv r) : ∀ j, strP r j → 0 ≤ r 11 j := fun j h => by
  unfold strP at h
  exact (dirW hI (by omega) (by omega)).1
/-- a river looked ahead at: copied -/
abbrev rC (r : mf_V) : mf_V := mf_sF r 4 (fun _ => 0)
theorem rC_ok {r : mf_V} (ok : rOK rlo rhi r) : rOK rlo rhi (rC r) := rOK_set ok 4 0 (show (0 : Int) ≤ 0 by decide) (show (0 : Int) ≤ 1 by decide)
theorem rC_I {r : mf_V} (hI : RInv r) : RInv (rC r) := RInv_cg (mf_sF_n (by decide)) (mf_sF_n (by decide)) (mf_sF_n (by decide)) (mf_sF_n (by decide)) (mf_sF_n (by decide)) (mf_sF_n (by decide)) hI
theorem rC_b {r : mf_V} {Y : Int} (h : bdP r Y) : bdP (rC r) Y := h
theorem cof_rC (f r : mf_V) (k w : Int) : cof f (rC r) k w = cof f r k w := rfl
/-- a farm more -/
def AddP (f q : mf_V) (x y w d : Int) : Prop := q 0 = mf_up (f 0) (f 4 0) x ∧ q 1 = mf_up (f 1) (f 4 0) y ∧ q 2 = mf_up (f 2) (f 4 0) w ∧ q 3 = mf_up (f 3) (f 4 0) d ∧ q 4 0 = f 4 0 + 1
set_option maxHeartbeats 4000000 in
set_option maxRecDepth 100000 in
theorem c_X2_total (l : Launch) (G : mf_G) (ho hn ha hff : Nat) (ae : Nat) (x : mf_V) (adn : Nat → Nat) (r : mf_V) (ada : Nat → Nat) (ra : mf_V) (adf : Nat → Nat) (f : mf_V) (wv : Int) (hwv : i32 wv) (okx : rOK xlo xhi x) (ok : rOK rlo rhi r) (okra : rOK rlo rhi ra) (okf : rOK flo fhi f) (hlen : 2 ≤ r 7 0) : Met l yX2_total wsX2_total ({ frames := 3, cells := 0, slots := 0, locals := 64 }) (va_Pc [.ref ho, .int (iI (wv))] (RdP G (OW G ho hn ha hff ae x ++ RW G hn adn r ++ RW G ha ada ra ++ FW G hff adf f))) (vp_Si (fun q9 => q9 = iI (totF r (f 4 0) wv))) 0 0 (fun _ => False) := by
  refine Met.ofW (cc := cX2_total) (maxL := 2) (ret := (some .int)) (by decide) rfl ?_
  intro p e s m args below meth c s₁ B hml hv
  obtain ⟨rfl, hP, hK, hN⟩ := hv
  have hx := B.exec
  have hb := B.bytes
  have hr := B.returns
  have hts := atoms_spec (ws := wsX2_total) B.pre
  have hown : s.vm.findClass RX2 = some m.cls := findClass_of_methodNamed B.named
  have hlocks := B.notSynchronized
  have hinX0 : ∀ w ∈ u_ws RX0 TX0 5, w ∈ wsX2_total := fun w h => List.mem_cons_of_mem _ (List.mem_append_right _ h)
  have hinX1 : ∀ w ∈ u_ws RX1 TX1 14, w ∈ wsX2_total := fun w h => List.mem_cons_of_mem _ (List.mem_append_left _ (List.mem_append_right _ h))
  have hinX2 : ∀ w ∈ u_ws RX2 TX2 4, w ∈ wsX2_total := fun w h => List.mem_cons_of_mem _ (List.mem_append_left _ (List.mem_append_left _ (List.mem_append_right _ h)))
  have hl := lv_entry ([.ref ho, .int (iI (wv))]) (n := 2) (Nat.le_of_ble_eq_true rfl)
  rw [lg_entry_eq]
  generalize (lg_sl ([.ref ho, .int (iI (wv))]) ++ List.replicate (2 - (lg_sl ([.ref ho, .int (iI (wv))])).length) Slot.unset).toArray = ls at hl ⊢
  have hl : lv_has ls 2 [(0, .ref ho), (1, .int (iI (wv)))] := hl
  have hwv1 := hwv.1
  have hwv2 := hwv.2
  have okLr : (0 : Int) ≤ r 7 0 ∧ r 7 0 ≤ 150 := ok 7 0
  have okLra : (0 : Int) ≤ ra 7 0 ∧ ra 7 0 ≤ 150 := okra 7 0
  refine lv_iload_n hx hb dX2_total_0 rfl (lv_at hl 1 rfl) ?_
  have w1 : i32 (wv) := (i32_mk (by omega) (by omega))
  rcases (show  (wv) = 0 ∨  (wv) = 1 ∨  (wv) = 2 ∨  (wv) = 3 ∨  (wv) = 4 ∨  (wv) = 5 ∨  (wv) = 6 ∨  ((wv) < 0 ∨ 6 < (wv)) by omega) with c2 | c2 | c2 | c2 | c2 | c2 | c2 | c2
  · skip
    refine lv_tableIn (off := 43) (tgt := 44) hx hb dX2_total_1 (by rw [iI_toInt w1]; omega) (by rw [iI_toInt w1]; omega) (by rw [iI_toInt w1, c2]; rfl) (by decide) ?_
    refine lv_aload_n hx hb dX2_total_44 rfl (lv_at hl 0 rfl) ?_
    refine va_get (D := G.1) (ci := 2) (v := .ref hn) (C := RX2) (T := TX2) (N := 4) hx hb hts hinX2 hown hK hP 0 rfl rfl 0 (by decide) (hts (.fieldLink RX2 16 "MeanderFarm" "now" "LMeanderFarm$River;") (List.mem_of_getElem? (i := 1) rfl)) (fun _ h9 => h9) rfl dX2_total_45 ?_
    refine va_getN (D := G.1) (ci := 1) (v := .int (iI (r 8 0))) (C := RX1) (T := TX1) (N := 14) hx hb hts hinX1 hown hK hP 2 rfl rfl 8 (by decide) (va_Nw.use rfl (hN.f 6 rfl)) (fun _ h9 => h9) rfl dX2_total_48 ?_
    have b3 : (0 : Int) ≤ r 8 0 ∧ r 8 0 ≤ 90000 := ok 8 (0)
    exact W.iret hx hb hr (fun t ht hW => ⟨_, rfl, (congrArg iI (by first | (unfold totF;  rw [if_pos (by omega)]; done) | (unfold totF;  rw [if_pos (by omega)]; first | assumption | omega | (symm; assumption)))), ht⟩) t_nil dX2_total_51
  · skip
    refine lv_tableIn (off := 51) (tgt := 52) hx hb dX2_total_1 (by rw [iI_toInt w1]; omega) (by rw [iI_toInt w1]; omega) (by rw [iI_toInt w1, c2]; rfl) (by decide) ?_
    refine lv_aload_n hx hb dX2_total_52 rfl (lv_at hl 0 rfl) ?_
    refine va_get (D := G.1) (ci := 2) (v := .ref hn) (C := RX2) (T := TX2) (N := 4) hx hb hts hinX2 hown hK hP 0 rfl rfl 0 (by decide) (hts (.fieldLink RX2 16 "MeanderFarm" "now" "LMeanderFarm$River;") (List.mem_of_getElem? (i := 1) rfl)) (fun _ h9 => h9) rfl dX2_total_53 ?_
    refine va_getN (D := G.1) (ci := 1) (v := .int (iI (r 7 0))) (C := RX1) (T := TX1) (N := 14) hx hb hts hinX1 hown hK hP 2 rfl rfl 7 (by decide) (va_Nw.use rfl (hN.f 2 rfl)) (fun _ h9 => h9) rfl dX2_total_56 ?_
    have b4 : (0 : Int) ≤ r 7 0 ∧ r 7 0 ≤ 150 := ok 7 (0)
    exact W.iret hx hb hr (fun t ht hW => ⟨_, rfl, (congrArg iI (by first | (unfold totF; rw [if_neg (by omega)]; rw [if_pos (by omega)]; done) | (unfold totF; rw [if_neg (by omega)]; rw [if_pos (by omega)]; first | assumption | omega | (symm; assumption)))), ht⟩) t_nil dX2_total_59
  · skip
    refine lv_tableIn (off := 59) (tgt := 60) hx hb dX2_total_1 (by rw [iI_toInt w1]; omega) (by rw [iI_toInt w1]; omega) (by rw [iI_toInt w1, c2]; rfl) (by decide) ?_
    refine lv_aload_n hx hb dX2_total_60 rfl (lv_at hl 0 rfl) ?_
    refine va_get (D := G.1) (ci := 2) (v := .ref hn) (C := RX2) (T := TX2) (N := 4) hx hb hts hinX2 hown hK hP 0 rfl rfl 0 (by decide) (hts (.fieldLink RX2 16 "MeanderFarm" "now" "LMeanderFarm$River;") (List.mem_of_getElem? (i := 1) rfl)) (fun _ h9 => h9) rfl dX2_total_61 ?_
    refine vp_callSi (va_Run.run (va_runVN (As := []) (rest := []) ⟨hx, hb, hml, hown, hts⟩ (c_X1_lakes l G hn adn r (by assumption)) ⟨(va_cnB 0 hts gX2_total_X1_lakes_n220 rfl rfl rfl (hN.m 15 rfl) (hts (.initialized RX1) (List.mem_of_getElem? (i := 4) rfl)) (by decide +kernel) ⟨Nat.le_of_ble_eq_true rfl, Nat.le_of_ble_eq_true rfl⟩), (hts (.instanceMethod yX1_lakes) (List.mem_of_getElem? (i := 3) rfl)), (hts (.selects RX1 yX1_lakes yX1_lakes) (List.mem_of_getElem? (i := 5) rfl))⟩ (rdV (wc := RW G hn adn r) hK hP hN [2, 3, 4, 5, 6, 7, 8, 9, 10, 11, 12, 13] rfl (ci := 1) rfl rfl) rfl rfl hl.1 rfl (lv_room (Nat.le_of_ble_eq_true rfl)) dX2_total_64 ⟨(Nat.zero_le _), (Nat.zero_le _)⟩)) (fun q5 hq5 => ?_)
    subst hq5
    refine mf_nm (fun y6 ey6 => ?_)
    have b7 : 0 ≤ y6 ∧ y6 ≤ 384 := by rw [ey6]; exact lakesF_b r
    exact W.iret hx hb hr (fun t ht hW => ⟨_, rfl, (congrArg iI (by first | (unfold totF; rw [if_neg (by omega)]; rw [if_neg (by omega)]; rw [if_pos (by omega)]; done) | (unfold totF; rw [if_neg (by omega)]; rw [if_neg (by omega)]; rw [if_pos (by omega)]; first | assumption | omega | (symm; assumption)))), ht⟩) t_nil dX2_total_67
  · skip
    refine lv_tableIn (off := 67) (tgt := 68) hx hb dX2_total_1 (by rw [iI_toInt w1]; omega) (by rw [iI_toInt w1]; omega) (by rw [iI_toInt w1, c2]; rfl) (by decide) ?_
    refine lv_aload_n hx hb dX2_total_68 rfl (lv_at hl 0 rfl) ?_
    refine va_get (D := G.1) (ci := 2) (v := .ref hn) (C := RX2) (T := TX2) (N := 4) hx hb hts hinX2 hown hK hP 0 rfl rfl 0 (by decide) (hts (.fieldLink RX2 16 "MeanderFarm" "now" "LMeanderFarm$River;") (List.mem_of_getElem? (i := 1) rfl)) (fun _ h9 => h9) rfl dX2_total_69 ?_
    refine va_getN (D := G.1) (ci := 1) (v := .int (iI (r 9 0))) (C := RX1) (T := TX1) (N := 14) hx hb hts hinX1 hown hK hP 2 rfl rfl 9 (by decide) (va_Nw.use rfl (hN.f 4 rfl)) (fun _ h9 => h9) rfl dX2_total_72 ?_
    have b8 : (0 : Int) ≤ r 9 0 ∧ r 9 0 ≤ 100000000 := ok 9 (0)
    exact W.iret hx hb hr (fun t ht hW => ⟨_, rfl, (congrArg iI (by first | (unfold totF; rw [if_neg (by omega)]; rw [if_neg (by omega)]; rw [if_neg (by omega)]; rw [if_pos (by omega)]; done) | (unfold totF; rw [if_neg (by omega)]; rw [if_neg (by omega)]; rw [if_neg (by omega)]; rw [if_pos (by omega)]; first | assumption | omega | (symm; assumption)))), ht⟩) t_nil dX2_total_75
  · skip
    refine lv_tableIn (off := 75) (tgt := 76) hx hb dX2_total_1 (by rw [iI_toInt w1]; omega) (by rw [iI_toInt w1]; omega) (by rw [iI_toInt w1, c2]; rfl) (by decide) ?_
    refine lv_aload_n hx hb dX2_total_76 rfl (lv_at hl 0 rfl) ?_
    refine va_get (D := G.1) (ci := 2) (v := .ref hff) (C := RX2) (T := TX2) (N := 4) hx hb hts hinX2 hown hK hP 0 rfl rfl 2 (by decide) (hts (.fieldLink RX2 26 "MeanderFarm" "farms" "LMeanderFarm$Farms;") (List.mem_of_getElem? (i := 2) rfl)) (fun _ h9 => h9) rfl dX2_total_77 ?_
    refine va_getN (D := G.1) (ci := 0) (v := .int (iI (f 4 0))) (C := RX0) (T := TX0) (N := 5) hx hb hts hinX0 hown hK hP 26 rfl rfl 4 (by decide) (va_Nw.use rfl (hN.f 3 rfl)) (fun _ h9 => h9) rfl dX2_total_80 ?_
    have b9 : (0 : Int) ≤ f 4 0 ∧ f 4 0 ≤ 6 := okf 4 (0)
    exact W.iret hx hb hr (fun t ht hW => ⟨_, rfl, (congrArg iI (by first | (unfold totF; rw [if_neg (by omega)]; rw [if_neg (by omega)]; rw [if_neg (by omega)]; rw [if_neg (by omega)]; rw [if_pos (by omega)]; done) | (unfold totF; rw [if_neg (by omega)]; rw [if_neg (by omega)]; rw [if_neg (by omega)]; rw [if_neg (by omega)]; rw [if_pos (by omega)]; first | assumption | omega | (symm; assumption)))), ht⟩) t_nil dX2_total_83
  · skip
    refine lv_tableIn (off := 83) (tgt := 84) hx hb dX2_total_1 (by rw [iI_toInt w1]; omega) (by rw [iI_toInt w1]; omega) (by rw [iI_toInt w1, c2]; rfl) (by decide) ?_
    refine lv_aload_n hx hb dX2_total_84 rfl (lv_at hl 0 rfl) ?_
    refine va_get (D := G.1) (ci := 2) (v := .ref hn) (C := RX2) (T := TX2) (N := 4) hx hb hts hinX2 hown hK hP 0 rfl rfl 0 (by decide) (hts (.fieldLink RX2 16 "MeanderFarm" "now" "LMeanderFarm$River;") (List.mem_of_getElem? (i := 1) rfl)) (fun _ h9 => h9) rfl dX2_total_85 ?_
    refine vp_callSi (va_Run.run (va_runVN (As := []) (rest := []) ⟨hx, hb, hml, hown, hts⟩ (c_X1_cellsWithStones l G hn adn r (by assumption)) ⟨(va_cnB 0 hts gX2_total_X1_cellsWithStones_n60 rfl rfl rfl (hN.m 19 rfl) (hts (.initialized RX1) (List.mem_of_getElem? (i := 4) rfl)) (by decide +kernel) ⟨Nat.le_of_ble_eq_true rfl, Nat.le_of_ble_eq_true rfl⟩), (hts (.instanceMethod yX1_cellsWithStones) (List.mem_of_getElem? (i := 9) rfl)), (hts (.selects RX1 yX1_cellsWithStones yX1_cellsWithStones) (List.mem_of_getElem? (i := 10) rfl))⟩ (rdV (wc := RW G hn adn r) hK hP hN [2, 3, 4, 5, 6, 7, 8, 9, 10, 11, 12, 13] rfl (ci := 1) rfl rfl) rfl rfl hl.1 rfl (lv_room (Nat.le_of_ble_eq_true rfl)) dX2_total_88 ⟨(Nat.zero_le _), (Nat.zero_le _)⟩)) (fun q10 hq10 => ?_)
    subst hq10
    refine mf_nm (fun y11 ey11 => ?_)
    have b12 : 0 ≤ y11 ∧ y11 ≤ 384 := by rw [ey11]; exact stonesF_b r
    exact W.iret hx hb hr (fun t ht hW => ⟨_, rfl, (congrArg iI (by first | (unfold totF; rw [if_neg (by omega)]; rw [if_neg (by omega)]; rw [if_neg (by omega)]; rw [if_neg (by omega)]; rw [if_neg (by omega)]; rw [if_pos (by omega)]; done) | (unfold totF; rw [if_neg (by omega)]; rw [if_neg (by omega)]; rw [if_neg (by omega)]; rw [if_neg (by omega)]; rw [if_neg (by omega)]; rw [if_pos (by omega)]; first | assumption | omega | (symm; assumption)))), ht⟩) t_nil dX2_total_91
  · skip
    refine lv_tableIn (off := 91) (tgt := 92) hx hb dX2_total_1 (by rw [iI_toInt w1]; omega) (by rw [iI_toInt w1]; omega) (by rw [iI_toInt w1, c2]; rfl) (by decide) ?_
    refine lv_aload_n hx hb dX2_total_92 rfl (lv_at hl 0 rfl) ?_
    refine va_get (D := G.1) (ci := 2) (v := .ref hn) (C := RX2) (T := TX2) (N := 4) hx hb hts hinX2 hown hK hP 0 rfl rfl 0 (by decide) (hts (.fieldLink RX2 16 "MeanderFarm" "now" "LMeanderFarm$River;") (List.mem_of_getElem? (i := 1) rfl)) (fun _ h9 => h9) rfl dX2_total_93 ?_
    refine vp_callSi (va_Run.run (va_runVN (As := []) (rest := []) ⟨hx, hb, hml, hown, hts⟩ (c_X1_bends l G hn adn r (by assumption) (by first | assumption | omega)) ⟨(va_cnB 0 hts gX2_total_X1_bends_n223 rfl rfl rfl (hN.m 16 rfl) (hts (.initialized RX1) (List.mem_of_getElem? (i := 4) rfl)) (by decide +kernel) ⟨Nat.le_of_ble_eq_true rfl, Nat.le_of_ble_eq_true rfl⟩), (hts (.instanceMethod yX1_bends) (List.mem_of_getElem? (i := 13) rfl)), (hts (.selects RX1 yX1_bends yX1_bends) (List.mem_of_getElem? (i := 14) rfl))⟩ (rdV (wc := RW G hn adn r) hK hP hN [2, 3, 4, 5, 6, 7, 8, 9, 10, 11, 12, 13] rfl (ci := 1) rfl rfl) rfl rfl hl.1 rfl (lv_room (Nat.le_of_ble_eq_true rfl)) dX2_total_96 ⟨(Nat.zero_le _), (Nat.zero_le _)⟩)) (fun q13 hq13 => ?_)
    subst hq13
    exact W.iret hx hb hr (fun t ht hW => ⟨_, rfl, (congrArg iI (by first | (unfold totF; rw [if_neg (by omega)]; rw [if_neg (by omega)]; rw [if_neg (by omega)]; rw [if_neg (by omega)]; rw [if_neg (by omega)]; rw [if_neg (by omega)]; rw [if_pos (by omega)]; done) | (unfold totF; rw [if_neg (by omega)]; rw [if_neg (by omega)]; rw [if_neg (by omega)]; rw [if_neg (by omega)]; rw [if_neg (by omega)]; rw [if_neg (by omega)]; rw [if_pos (by omega)]; first | assumption | omega | (symm; assumption)))), ht⟩) t_nil dX2_total_99
  · skip
    refine lv_tableOut (tgt := 100) hx hb dX2_total_1 (by rw [iI_toInt w1]; omega) (by decide) ?_
    refine lv_aload_n hx hb dX2_total_100 rfl (lv_at hl 0 rfl) ?_
    refine va_get (D := G.1) (ci := 2) (v := .ref hn) (C := RX2) (T := TX2) (N := 4) hx hb hts hinX2 hown hK hP 0 rfl rfl 0 (by decide) (hts (.fieldLink RX2 16 "MeanderFarm" "now" "LMeanderFarm$River;") (List.mem_of_getElem? (i := 1) rfl)) (fun _ h9 => h9) rfl dX2_total_101 ?_
    refine vp_callSi (va_Run.run (va_runVN (As := []) (rest := []) ⟨hx, hb, hml, hown, hts⟩ (c_X1_allWear l G hn adn r (by assumption)) ⟨(va_cnB 0 hts gX2_total_X1_allWear_n226 rfl rfl rfl (hN.m 17 rfl) (hts (.initialized RX1) (List.mem_of_getElem? (i := 4) rfl)) (by decide +kernel) ⟨Nat.le_of_ble_eq_true rfl, Nat.le_of_ble_eq_true rfl⟩), (hts (.instanceMethod yX1_allWear) (List.mem_of_getElem? (i := 26) rfl)), (hts (.selects RX1 yX1_allWear yX1_allWear) (List.mem_of_getElem? (i := 27) rfl))⟩ (rdV (wc := RW G hn adn r) hK hP hN [2, 3, 4, 5, 6, 7, 8, 9, 10, 11, 12, 13] rfl (ci := 1) rfl rfl) rfl rfl hl.1 rfl (lv_room (Nat.le_of_ble_eq_true rfl)) dX2_total_104 ⟨(Nat.zero_le _), (Nat.zero_le _)⟩)) (fun q14 hq14 => ?_)
    subst hq14
    exact W.iret hx hb hr (fun t ht hW => ⟨_, rfl, (congrArg iI (by first | (unfold totF; rw [if_neg (by omega)]; rw [if_neg (by omega)]; rw [if_neg (by omega)]; rw [if_neg (by omega)]; rw [if_neg (by omega)]; rw [if_neg (by omega)]; rw [if_neg (by omega)]; skip; done) | (unfold totF; rw [if_neg (by omega)]; rw [if_neg (by omega)]; rw [if_neg (by omega)]; rw [if_neg (by omega)]; rw [if_neg (by omega)]; rw [if_neg (by omega)]; rw [if_neg (by omega)]; skip; first | assumption | omega | (symm; assumption)))), ht⟩) t_nil dX2_total_107
set_option maxHeartbeats 4000000 in
set_option maxRecDepth 100000 in
theorem c_X2_setHardness (l : Launch) (hl9 : l.stackTraces = false) (G : mf_G) (ho hn ha hff : Nat) (ae : Nat) (x : mf_V) (adn : Nat → Nat) (r : mf_V) (ada : Nat → Nat) (ra : mf_V) (adf : Nat → Nat) (f : mf_V)  (xv : Int) (yv : Int) (hv : Int) (hxv : i32 xv) (hyv : i32 yv) (hhv : i32 hv) (okx : rOK xlo xhi x) (ok : rOK rlo rhi r) (okra : rOK rlo rhi ra) (okf : rOK flo fhi f) (sz : Nat) : vx_Met l yX2_setHardness wsX2_setHardness ({ frames := 6, cells := 1, slots := 6, locals := 90 }) (va_Pc [.ref ho, .int (iI (xv)), .int (iI (yv)), .int (iI (hv))] (WrPx G (OW G ho hn ha hff ae x ++ RW G hn adn r ++ RW G ha ada ra ++ FW G hff adf f) sz)) (va_Qi (fun q9 (u : mf_V × mf_V × mf_V × mf_V) => ∃ z : Int, q9 = iI z ∧ kHard xv yv hv = 0 ∧ (rOK xlo xhi u.1 ∧ rOK rlo rhi u.2.1 ∧ rOK rlo rhi u.2.2.1 ∧ rOK flo fhi u.2.2.2) ∧ u.2.1 = mf_sF r 0 (mf_up (r 0) (xv + 24 * yv) hv) ∧ u.2.2.2 = f ∧ z = r 0 (xv + 24 * yv)) (fun (u : mf_V × mf_V × mf_V × mf_V) t => WrQ G (va_A (OW G ho hn ha hff ae x ++ RW G hn adn r ++ RW G ha ada ra ++ FW G hff adf f) sz) (OW G ho hn ha hff ae (u.1) ++ RW G hn adn (u.2.1) ++ RW G ha ada (u.2.2.1) ++ FW G hff adf (u.2.2.2)) t) (va_A (OW G ho hn ha hff ae x ++ RW G hn adn r ++ RW G ha ada ra ++ FW G hff adf f) sz)) (vx_X (fun _ : Unit => True) (fun E _ t => ((E = xIO ∧ kHard xv yv hv = 1) ∨ (E = xIA ∧ kHard xv yv hv = 2)) ∧ WrQ G (va_A (OW G ho hn ha hff ae x ++ RW G hn adn r ++ RW G ha ada ra ++ FW G hff adf f) sz) (OW G ho hn ha hff ae x ++ RW G hn adn r ++ RW G ha ada ra ++ FW G hff adf f) t) (va_A (OW G ho hn ha hff ae x ++ RW G hn adn r ++ RW G ha ada ra ++ FW G hff adf f) sz)) 1 6 (va_A (OW G ho hn ha hff ae x ++ RW G hn adn r ++ RW G ha ada ra ++ FW G hff adf f) sz) := by
  refine vx_ofW (cc := cX2_setHardness) (maxL := 6) (ret := (some .int)) (by decide) rfl ?_
  intro p e s m args below meth c s₁ B hml hexc hv
  obtain ⟨rfl, hsz, hP, hK, hD0, hN, hSX, hCX, hZ⟩ := hv
  have hx := B.exec
  have hb := B.bytes
  have hr := B.returns
  have hts := atoms_spec (ws := wsX2_setHardness) B.pre
  have hown : s.vm.findClass RX2 = some m.cls := findClass_of_methodNamed B.named
  have hlocks := B.notSynchronized
  have hat42 := vx_hat (fun w h => hts w (List.mem_cons_of_mem _ (List.mem_append_left _ (List.mem_append_right _ h)))) xb42 (vx_c (va_Nw.use rfl hCX.1) vx_n)
  have hat52 := vx_hat (fun w h => hts w (List.mem_cons_of_mem _ (List.mem_append_right _ h))) xb52 (vx_c (va_Nw.use rfl hCX.2.1) vx_n)
  have hinX1 : ∀ w ∈ u_ws RX1 TX1 14, w ∈ wsX2_setHardness := fun w h => List.mem_cons_of_mem _ (List.mem_append_left _ (List.mem_append_left _ (List.mem_append_right _ h)))
  have hinX2 : ∀ w ∈ u_ws RX2 TX2 4, w ∈ wsX2_setHardness := fun w h => List.mem_cons_of_mem _ (List.mem_append_left _ (List.mem_append_left _ (List.mem_append_left _ (List.mem_append_right _ h))))
  subst hsz
  have hD := hD0.self (sz := s.heap.size)
  generalize hAe : va_A (OW G ho hn ha hff ae x ++ RW G hn adn r ++ RW G ha ada ra ++ FW G hff adf f) s.heap.size = A at hD hZ ⊢
  have hA : ∀ q : Nat, s.heap.size ≤ q → A q := fun q h => by rw [← hAe]; exact Or.inr h
  have hS : va_S A s.heap s.heap [] := va_S.rf
  have hl := lv_entry ([.ref ho, .int (iI (xv)), .int (iI (yv)), .int (iI (hv))]) (n := 6) (Nat.le_of_ble_eq_true rfl)
  rw [lg_entry_eq]
  generalize (lg_sl ([.ref ho, .int (iI (xv)), .int (iI (yv)), .int (iI (hv))]) ++ List.replicate (6 - (lg_sl ([.ref ho, .int (iI (xv)), .int (iI (yv)), .int (iI (hv))])).length) Slot.unset).toArray = ls at hl ⊢
  have hl : lv_has ls 6 [(0, .ref ho), (1, .int (iI (xv))), (2, .int (iI (yv))), (3, .int (iI (hv)))] := hl
  have hxv1 := hxv.1
  have hxv2 := hxv.2
  have hyv1 := hyv.1
  have hyv2 := hyv.2
  have hhv1 := hhv.1
  have hhv2 := hhv.2
  have okLr : (0 : Int) ≤ r 7 0 ∧ r 7 0 ≤ 150 := ok 7 0
  have okLra : (0 : Int) ≤ ra 7 0 ∧ ra 7 0 ≤ 150 := okra 7 0
  refine lv_iload_n hx hb dX2_setHardness_0 rfl (lv_at hl 1 rfl) ?_
  refine lv_iload_n hx hb dX2_setHardness_1 rfl (lv_at hl 2 rfl) ?_
  refine vp_callSi (va_Run.run (va_runS (As := [.int (iI (xv)), .int (iI (yv))]) (rest := []) ⟨hx, hb, hml, hown, hts⟩ (c_X2_cellNumber l (xv) (yv) (i32_mk (by omega) (by omega)) (i32_mk (by omega) (by omega))) (va_cwS 2 hts gX2_setHardness_X2_cellNumber rfl rfl rfl (by decide +kernel) ⟨Nat.le_of_ble_eq_true rfl, Nat.le_of_ble_eq_true rfl⟩) pureS rfl rfl hl.1 rfl (lv_room (Nat.le_of_ble_eq_true rfl)) dX2_setHardness_2 ⟨(Nat.zero_le _), (Nat.zero_le _)⟩)) (fun q1 hq1 => ?_)
  subst hq1
  refine mf_nm (fun y2 ey2 => ?_)
  have b3 : -1 ≤ y2 ∧ y2 ≤ 383 := by rw [ey2]; exact cellNo_b xv yv
  have hcn := cellNo_i xv yv
  rw [← ey2] at hcn
  refine lv_istore (lv' := [(4, .int (iI (y2))), (0, .ref ho), (1, .int (iI (xv))), (2, .int (iI (yv))), (3, .int (iI (hv)))]) hx hb dX2_setHardness_5 hl (by decide) rfl (fun ls hl => ?_)
  refine lv_iload hx hb dX2_setHardness_7 (lv_at hl 0 rfl) ?_
  refine vp_callSi (va_Run.run (va_runS (As := [.int (iI (y2))]) (rest := []) ⟨hx, hb, hml, hown, hts⟩ (c_X2_isCell l (y2) (i32_mk (by omega) (by omega))) (va_cwS 1 hts gX2_setHardness_X2_isCell rfl rfl rfl (by decide +kernel) ⟨Nat.le_of_ble_eq_true rfl, Nat.le_of_ble_eq_true rfl⟩) pureS rfl rfl hl.1 rfl (lv_room (Nat.le_of_ble_eq_true rfl)) dX2_setHardness_9 ⟨(Nat.zero_le _), (Nat.zero_le _)⟩)) (fun q4 hq4 => ?_)
  subst hq4
  refine mf_bp_ne (tgt := 25) hx hb dX2_setHardness_12 (by decide) (fun c5 => ?_) (fun c5 => ?_)
  · skip
    have hcp : cellP xv yv := by rcases hcn with q | q; exact q.1; (exfalso; omega)
    have hcv : y2 = xv + 24 * yv := by rcases hcn with q | q; exact q.2; (exfalso; omega)
    refine lv_iload_n hx hb dX2_setHardness_25 rfl (lv_at hl 4 rfl) ?_
    refine vp_callSi (va_Run.run (va_runS (As := [.int (iI (hv))]) (rest := []) ⟨hx, hb, hml, hown, hts⟩ (c_X2_isGrade l (hv) (i32_mk (by omega) (by omega))) (va_cwS 1 hts gX2_setHardness_X2_isGrade rfl rfl rfl (by decide +kernel) ⟨Nat.le_of_ble_eq_true rfl, Nat.le_of_ble_eq_true rfl⟩) pureS rfl rfl hl.1 rfl (lv_room (Nat.le_of_ble_eq_true rfl)) dX2_setHardness_26 ⟨(Nat.zero_le _), (Nat.zero_le _)⟩)) (fun q6 hq6 => ?_)
    subst hq6
    refine mf_bp_ne (tgt := 42) hx hb dX2_setHardness_29 (by decide) (fun c7 => ?_) (fun c7 => ?_)
    · skip
      refine lv_aload_n hx hb dX2_setHardness_42 rfl (lv_at hl 1 rfl) ?_
      refine va_get (D := G.1) (ci := 2) (v := .ref hn) (C := RX2) (T := TX2) (N := 4) hx hb hts hinX2 hown hK hP 0 rfl rfl 0 (by decide) (hts (.fieldLink RX2 16 "MeanderFarm" "now" "LMeanderFarm$River;") (List.mem_of_getElem? (i := 5) rfl)) (fun _ h9 => h9) rfl dX2_setHardness_43 ?_
      refine va_getN (D := G.1) (ci := 1) (v := .ref (adn 0)) (C := RX1) (T := TX1) (N := 14) hx hb hts hinX1 hown hK hP 2 rfl rfl 0 (by decide) (va_Nw.use rfl (hN.f 7 rfl)) (fun _ h9 => h9) rfl dX2_setHardness_46 ?_
      refine lv_iload hx hb dX2_setHardness_49 (lv_at hl 0 rfl) ?_
      refine mf_iald (n := 384) (f := r 0) hx hb hK hP 3 0 rfl rfl (z := y2) (by omega) (by omega) (by decide) dX2_setHardness_51 ?_
      have b8 : (0 : Int) ≤ r 0 y2 ∧ r 0 y2 ≤ 9 := ok 0 (y2)
      refine lv_istore (lv' := [(5, .int (iI (r 0 y2))), (4, .int (iI (y2))), (0, .ref ho), (1, .int (iI (xv))), (2, .int (iI (yv))), (3, .int (iI (hv)))]) hx hb dX2_setHardness_52 hl (by decide) rfl (fun ls hl => ?_)
      refine lv_aload_n hx hb dX2_setHardness_54 rfl (lv_at hl 2 rfl) ?_
      refine va_get (D := G.1) (ci := 2) (v := .ref hn) (C := RX2) (T := TX2) (N := 4) hx hb hts hinX2 hown hK hP 0 rfl rfl 0 (by decide) (hts (.fieldLink RX2 16 "MeanderFarm" "now" "LMeanderFarm$River;") (List.mem_of_getElem? (i := 5) rfl)) (fun _ h9 => h9) rfl dX2_setHardness_55 ?_
      refine va_getN (D := G.1) (ci := 1) (v := .ref (adn 0)) (C := RX1) (T := TX1) (N := 14) hx hb hts hinX1 hown hK hP 2 rfl rfl 0 (by decide) (va_Nw.use rfl (hN.f 7 rfl)) (fun _ h9 => h9) rfl dX2_setHardness_58 ?_
      refine lv_iload hx hb dX2_setHardness_61 (lv_at hl 1 rfl) ?_
      refine lv_iload_n hx hb dX2_setHardness_63 rfl (lv_at hl 5 rfl) ?_
      refine mf_iast (n := 384) (f := r 0) hx hb hK hP hD hS 3 0 rfl rfl (z := y2) (x := hv) (by omega) (by omega) (by decide) dX2_setHardness_64 (fun H locs hP hD hS => ?_)
      obtain ⟨r9, er9⟩ : ∃ z9 : mf_V, z9 = mf_sF r 0 (mf_up (r 0) (y2) (hv)) := ⟨_, rfl⟩
      have hP : va_P G.1 vwCl (OW G ho hn ha hff ae x ++ RW G hn adn r9 ++ RW G ha ada ra ++ FW G hff adf f) H := by rw [er9]; exact hP
      have hD : va_D A (OW G ho hn ha hff ae x ++ RW G hn adn r9 ++ RW G ha ada ra ++ FW G hff adf f) := by rw [er9]; exact hD
      have okr9 : rOK rlo rhi r9 := by rw [er9]; exact rOK_up ok 0 _ _ (show (0 : Int) ≤ hv by omega) (show hv ≤ (9 : Int) by omega)
      have f1_r9 : r9 0 (y2) = hv := by rw [er9, mf_sF_s, mf_up_s]
      have f2_r9 : ∀ y, y ≠ (y2) → r9 0 y = r 0 y := fun y hy => by rw [er9, mf_sF_s, mf_up_n hy]
      have f3_r9 : ∀ q, q ≠ 0 → r9 q = r q := fun q hq => by rw [er9, mf_sF_n hq]
      refine lv_iload hx hb dX2_setHardness_65 (lv_at hl 0 rfl) ?_
      have hk9 : kHard xv yv hv = 0 := (mf_if_f (fun z => z hcp)).trans (mf_if_f (fun z => z (by assumption)))
      refine W.widen (k := 1) (n := 6) (Nat.le_of_ble_eq_true rfl) (Nat.le_of_ble_eq_true rfl) ?_
      refine vx_ret ?_
      exact W.iret hx hb hr (fun t ht hW => ⟨⟨_, (x, r9, ra, f), rfl, ⟨_, rfl, by (try dsimp only); exact ⟨hk9, ⟨okx, okr9, okra, okf⟩, by rw [← hcv]; exact er9, rfl, by rw [← hcv]⟩⟩, by rw [ht]; exact hP, hD⟩, hS.F ht⟩) hS.2.2 dX2_setHardness_67
    · skip
      have hk9 : kHard xv yv hv = 2 := (mf_if_f (fun z => z hcp)).trans (mf_if_t (by assumption))
      exact mf_throw (ik := 48) (is := 50) (ic := 52) (cls := "java/lang/IllegalArgumentException") hx hb hl9 hown (by decide +kernel) (hts (.classLink RX2 48 "java/lang/IllegalArgumentException") (List.mem_of_getElem? (i := 3) rfl)) (hts (.initialized "java/lang/IllegalArgumentException") (List.mem_of_getElem? (i := 4) rfl)) hSX (List.mem_of_getElem? (i := 1) rfl) hat52 xg52 hZ hP hD hS (hl.1.trans hml.symm) dX2_setHardness_32 dX2_setHardness_35 dX2_setHardness_36 dX2_setHardness_38 dX2_setHardness_41 hexc (Nat.le_of_ble_eq_true rfl) (Nat.le_of_ble_eq_true rfl) (Nat.le_of_ble_eq_true rfl) (Nat.le_of_ble_eq_true rfl) hlocks (by exact Or.inr (⟨rfl, hk9⟩)) (Nat.le_of_ble_eq_true rfl) (Nat.le_of_ble_eq_true rfl)
  · skip
    have hcq : ¬ cellP xv yv := by rcases hcn with q | q; (have q1 := q.1; unfold cellP at q1; exfalso; omega); exact q.1
    have hk9 : kHard xv yv hv = 1 := mf_if_t hcq
    exact mf_throw (ik := 38) (is := 40) (ic := 42) (cls := "java/lang/IndexOutOfBoundsException") hx hb hl9 hown (by decide +kernel) (hts (.classLink RX2 38 "java/lang/IndexOutOfBoundsException") (List.mem_of_getElem? (i := 1) rfl)) (hts (.initialized "java/lang/IndexOutOfBoundsException") (List.mem_of_getElem? (i := 2) rfl)) hSX (List.mem_of_getElem? (i := 0) rfl) hat42 xg42 hZ hP hD hS (hl.1.trans hml.symm) dX2_setHardness_15 dX2_setHardness_18 dX2_setHardness_19 dX2_setHardness_21 dX2_setHardness_24 hexc (Nat.le_of_ble_eq_true rfl) (Nat.le_of_ble_eq_true rfl) (Nat.le_of_ble_eq_true rfl) (Nat.le_of_ble_eq_true rfl) hlocks (by exact Or.inl ⟨rfl, hk9⟩) (Nat.le_of_ble_eq_true rfl) (Nat.le_of_ble_eq_true rfl)
set_option maxHeartbeats 4000000 in
set_option maxRecDepth 100000 in
theorem c_X2_setStones (l : Launch) (hl9 : l.stackTraces = false) (G : mf_G) (ho hn ha hff : Nat) (ae : Nat) (x : mf_V) (adn : Nat → Nat) (r : mf_V) (ada : Nat → Nat) (ra : mf_V) (adf : Nat → Nat) (f : mf_V)  (xv : Int) (yv : Int) (bv : Int) (hxv : i32 xv) (hyv : i32 yv) (hbv : i32 bv) (okx : rOK xlo xhi x) (ok : rOK rlo rhi r) (okra : rOK rlo rhi ra) (okf : rOK flo fhi f) (hb01 : 0 ≤ bv ∧ bv ≤ 1) (sz : Nat) : vx_Met l yX2_setStones wsX2_setStones ({ frames := 6, cells := 1, slots := 6, locals := 90 }) (va_Pc [.ref ho, .int (iI (xv)), .int (iI (yv)), .int (iI (bv))] (WrPx G (OW G ho hn ha hff ae x ++ RW G hn adn r ++ RW G ha ada ra ++ FW G hff adf f) sz)) (va_Qi (fun q9 (u : mf_V × mf_V × mf_V × mf_V) => ∃ z : Int, q9 = iI z ∧ kCell xv yv = 0 ∧ (rOK xlo xhi u.1 ∧ rOK rlo rhi u.2.1 ∧ rOK rlo rhi u.2.2.1 ∧ rOK flo fhi u.2.2.2) ∧ u.2.1 = mf_sF r 2 (mf_up (r 2) (xv + 24 * yv) bv) ∧ u.2.2.2 = f ∧ z = stonesF (mf_sF r 2 (mf_up (r 2) (xv + 24 * yv) bv))) (fun (u : mf_V × mf_V × mf_V × mf_V) t => WrQ G (va_A (OW G ho hn ha hff ae x ++ RW G hn adn r ++ RW G ha ada ra ++ FW G hff adf f) sz) (OW G ho hn ha hff ae (u.1) ++ RW G hn adn (u.2.1) ++ RW G ha ada (u.2.2.1) ++ FW G hff adf (u.2.2.2)) t) (va_A (OW G ho hn ha hff ae x ++ RW G hn adn r ++ RW G ha ada ra ++ FW G hff adf f) sz)) (vx_X (fun _ : Unit => True) (fun E _ t => (E = xIO ∧ kCell xv yv = 1) ∧ WrQ G (va_A (OW G ho hn ha hff ae x ++ RW G hn adn r ++ RW G ha ada ra ++ FW G hff adf f) sz) (OW G ho hn ha hff ae x ++ RW G hn adn r ++ RW G ha ada ra ++ FW G hff adf f) t) (va_A (OW G ho hn ha hff ae x ++ RW G hn adn r ++ RW G ha ada ra ++ FW G hff adf f) sz)) 1 6 (va_A (OW G ho hn ha hff ae x ++ RW G hn adn r ++ RW G ha ada ra ++ FW G hff adf f) sz) := by
  refine vx_ofW (cc := cX2_setStones) (maxL := 5) (ret := (some .int)) (by decide) rfl ?_
  intro p e s m args below meth c s₁ B hml hexc hv
  obtain ⟨rfl, hsz, hP, hK, hD0, hN, hSX, hCX, hZ⟩ := hv
  have hx := B.exec
  have hb := B.bytes
  have hr := B.returns
  have hts := atoms_spec (ws := wsX2_setStones) B.pre
  have hown : s.vm.findClass RX2 = some m.cls := findClass_of_methodNamed B.named
  have hlocks := B.notSynchronized
  have hat42 := vx_hat (fun w h => hts w (List.mem_cons_of_mem _ (List.mem_append_right _ h))) xb42 (vx_c (va_Nw.use rfl hCX.1) vx_n)
  have hinX1 : ∀ w ∈ u_ws RX1 TX1 14, w ∈ wsX2_setStones := fun w h => List.mem_cons_of_mem _ (List.mem_append_left _ (List.mem_append_right _ h))
  have hinX2 : ∀ w ∈ u_ws RX2 TX2 4, w ∈ wsX2_setStones := fun w h => List.mem_cons_of_mem _ (List.mem_append_left _ (List.mem_append_left _ (List.mem_append_right _ h)))
  subst hsz
  have hD := hD0.self (sz := s.heap.size)
  generalize hAe : va_A (OW G ho hn ha hff ae x ++ RW G hn adn r ++ RW G ha ada ra ++ FW G hff adf f) s.heap.size = A at hD hZ ⊢
  have hA : ∀ q : Nat, s.heap.size ≤ q → A q := fun q h => by rw [← hAe]; exact Or.inr h
  have hS : va_S A s.heap s.heap [] := va_S.rf
  have hl := lv_entry ([.ref ho, .int (iI (xv)), .int (iI (yv)), .int (iI (bv))]) (n := 5) (Nat.le_of_ble_eq_true rfl)
  rw [lg_entry_eq]
  generalize (lg_sl ([.ref ho, .int (iI (xv)), .int (iI (yv)), .int (iI (bv))]) ++ List.replicate (5 - (lg_sl ([.ref ho, .int (iI (xv)), .int (iI (yv)), .int (iI (bv))])).length) Slot.unset).toArray = ls at hl ⊢
  have hl : lv_has ls 5 [(0, .ref ho), (1, .int (iI (xv))), (2, .int (iI (yv))), (3, .int (iI (bv)))] := hl
  have hxv1 := hxv.1
  have hxv2 := hxv.2
  have hyv1 := hyv.1
  have hyv2 := hyv.2
  have hbv1 := hbv.1
  have hbv2 := hbv.2
  have okLr : (0 : Int) ≤ r 7 0 ∧ r 7 0 ≤ 150 := ok 7 0
  have okLra : (0 : Int) ≤ ra 7 0 ∧ ra 7 0 ≤ 150 := okra 7 0
  refine lv_iload_n hx hb dX2_setStones_0 rfl (lv_at hl 1 rfl) ?_
  refine lv_iload_n hx hb dX2_setStones_1 rfl (lv_at hl 2 rfl) ?_
  refine vp_callSi (va_Run.run (va_runS (As := [.int (iI (xv)), .int (iI (yv))]) (rest := []) ⟨hx, hb, hml, hown, hts⟩ (c_X2_cellNumber l (xv) (yv) (i32_mk (by omega) (by omega)) (i32_mk (by omega) (by omega))) (va_cwS 2 hts gX2_setStones_X2_cellNumber rfl rfl rfl (by decide +kernel) ⟨Nat.le_of_ble_eq_true rfl, Nat.le_of_ble_eq_true rfl⟩) pureS rfl rfl hl.1 rfl (lv_room (Nat.le_of_ble_eq_true rfl)) dX2_setStones_2 ⟨(Nat.zero_le _), (Nat.zero_le _)⟩)) (fun q1 hq1 => ?_)
  subst hq1
  refine mf_nm (fun y2 ey2 => ?_)
  have b3 : -1 ≤ y2 ∧ y2 ≤ 383 := by rw [ey2]; exact cellNo_b xv yv
  have hcn := cellNo_i xv yv
  rw [← ey2] at hcn
  refine lv_istore (lv' := [(4, .int (iI (y2))), (0, .ref ho), (1, .int (iI (xv))), (2, .int (iI (yv))), (3, .int (iI (bv)))]) hx hb dX2_setStones_5 hl (by decide) rfl (fun ls hl => ?_)
  refine lv_iload hx hb dX2_setStones_7 (lv_at hl 0 rfl) ?_
  refine vp_callSi (va_Run.run (va_runS (As := [.int (iI (y2))]) (rest := []) ⟨hx, hb, hml, hown, hts⟩ (c_X2_isCell l (y2) (i32_mk (by omega) (by omega))) (va_cwS 1 hts gX2_setStones_X2_isCell rfl rfl rfl (by decide +kernel) ⟨Nat.le_of_ble_eq_true rfl, Nat.le_of_ble_eq_true rfl⟩) pureS rfl rfl hl.1 rfl (lv_room (Nat.le_of_ble_eq_true rfl)) dX2_setStones_9 ⟨(Nat.zero_le _), (Nat.zero_le _)⟩)) (fun q4 hq4 => ?_)
  subst hq4
  refine mf_bp_ne (tgt := 25) hx hb dX2_setStones_12 (by decide) (fun c5 => ?_) (fun c5 => ?_)
  · skip
    have hcp : cellP xv yv := by rcases hcn with q | q; exact q.1; (exfalso; omega)
    have hcv : y2 = xv + 24 * yv := by rcases hcn with q | q; exact q.2; (exfalso; omega)
    refine lv_aload_n hx hb dX2_setStones_25 rfl (lv_at hl 1 rfl) ?_
    refine va_get (D := G.1) (ci := 2) (v := .ref hn) (C := RX2) (T := TX2) (N := 4) hx hb hts hinX2 hown hK hP 0 rfl rfl 0 (by decide) (hts (.fieldLink RX2 16 "MeanderFarm" "now" "LMeanderFarm$River;") (List.mem_of_getElem? (i := 3) rfl)) (fun _ h9 => h9) rfl dX2_setStones_26 ?_
    refine va_getN (D := G.1) (ci := 1) (v := .ref (adn 2)) (C := RX1) (T := TX1) (N := 14) hx hb hts hinX1 hown hK hP 2 rfl rfl 2 (by decide) (va_Nw.use rfl (hN.f 8 rfl)) (fun _ h9 => h9) rfl dX2_setStones_29 ?_
    refine lv_iload hx hb dX2_setStones_32 (lv_at hl 0 rfl) ?_
    refine lv_iload_n hx hb dX2_setStones_34 rfl (lv_at hl 4 rfl) ?_
    refine mf_zast (n := 384) (f := r 2) hx hb hK hP hD hS 5 1 rfl rfl (z := y2) (x := bv) (by omega) (by omega) (by decide) (by omega) dX2_setStones_35 (fun H locs hP hD hS => ?_)
    obtain ⟨r6, er6⟩ : ∃ z9 : mf_V, z9 = mf_sF r 2 (mf_up (r 2) (y2) (bv)) := ⟨_, rfl⟩
    have hP : va_P G.1 vwCl (OW G ho hn ha hff ae x ++ RW G hn adn r6 ++ RW G ha ada ra ++ FW G hff adf f) H := by rw [er6]; exact hP
    have hD : va_D A (OW G ho hn ha hff ae x ++ RW G hn adn r6 ++ RW G ha ada ra ++ FW G hff adf f) := by rw [er6]; exact hD
    have okr6 : rOK rlo rhi r6 := by rw [er6]; exact rOK_up ok 2 _ _ (show (0 : Int) ≤ bv by omega) (show bv ≤ (1 : Int) by omega)
    have f1_r6 : r6 2 (y2) = bv := by rw [er6, mf_sF_s, mf_up_s]
    have f2_r6 : ∀ y, y ≠ (y2) → r6 2 y = r 2 y := fun y hy => by rw [er6, mf_sF_s, mf_up_n hy]
    have f3_r6 : ∀ q, q ≠ 2 → r6 q = r q := fun q hq => by rw [er6, mf_sF_n hq]
    refine lv_aload_n hx hb dX2_setStones_36 rfl (lv_at hl 1 rfl) ?_
    refine va_get (D := G.1) (ci := 2) (v := .ref hn) (C := RX2) (T := TX2) (N := 4) hx hb hts hinX2 hown hK hP 0 rfl rfl 0 (by decide) (hts (.fieldLink RX2 16 "MeanderFarm" "now" "LMeanderFarm$River;") (List.mem_of_getElem? (i := 3) rfl)) (fun _ h9 => h9) rfl dX2_setStones_37 ?_
    refine vp_callSi (va_Run.run (va_runVN (As := []) (rest := []) ⟨hx, hb, hml, hown, hts⟩ (c_X1_cellsWithStones l G hn adn r6 (by assumption)) ⟨(va_cnB 0 hts gX2_setStones_X1_cellsWithStones_n60 rfl rfl rfl (hN.m 19 rfl) (hts (.initialized RX1) (List.mem_of_getElem? (i := 12) rfl)) (by decide +kernel) ⟨Nat.le_of_ble_eq_true rfl, Nat.le_of_ble_eq_true rfl⟩), (hts (.instanceMethod yX1_cellsWithStones) (List.mem_of_getElem? (i := 11) rfl)), (hts (.selects RX1 yX1_cellsWithStones yX1_cellsWithStones) (List.mem_of_getElem? (i := 13) rfl))⟩ (rdV (wc := RW G hn adn r6) hK hP hN [2, 3, 4, 5, 6, 7, 8, 9, 10, 11, 12, 13] rfl (ci := 1) rfl rfl) rfl rfl hl.1 rfl (lv_room (Nat.le_of_ble_eq_true rfl)) dX2_setStones_40 ⟨(Nat.zero_le _), (Nat.zero_le _)⟩)) (fun q7 hq7 => ?_)
    subst hq7
    refine mf_nm (fun y8 ey8 => ?_)
    have b9 : 0 ≤ y8 ∧ y8 ≤ 384 := by rw [ey8]; exact stonesF_b r6
    have hk9 : kCell xv yv = 0 := mf_if_f (fun z => z hcp)
    have he9 : r6 = mf_sF r 2 (mf_up (r 2) (xv + 24 * yv) bv) := by rw [← hcv]; exact er6
    refine W.widen (k := 1) (n := 6) (Nat.le_of_ble_eq_true rfl) (Nat.le_of_ble_eq_true rfl) ?_
    refine vx_ret ?_
    exact W.iret hx hb hr (fun t ht hW => ⟨⟨_, (x, r6, ra, f), rfl, ⟨_, rfl, by (try dsimp only); exact ⟨hk9, ⟨okx, okr6, okra, okf⟩, he9, rfl, by rw [← he9]; first | rfl | assumption⟩⟩, by rw [ht]; exact hP, hD⟩, hS.F ht⟩) hS.2.2 dX2_setStones_43
  · skip
    have hcq : ¬ cellP xv yv := by rcases hcn with q | q; (have q1 := q.1; unfold cellP at q1; exfalso; omega); exact q.1
    have hk9 : kCell xv yv = 1 := mf_if_t hcq
    exact mf_throw (ik := 38) (is := 40) (ic := 42) (cls := "java/lang/IndexOutOfBoundsException") hx hb hl9 hown (by decide +kernel) (hts (.classLink RX2 38 "java/lang/IndexOutOfBoundsException") (List.mem_of_getElem? (i := 1) rfl)) (hts (.initialized "java/lang/IndexOutOfBoundsException") (List.mem_of_getElem? (i := 2) rfl)) hSX (List.mem_of_getElem? (i := 0) rfl) hat42 xg42 hZ hP hD hS (hl.1.trans hml.symm) dX2_setStones_15 dX2_setStones_18 dX2_setStones_19 dX2_setStones_21 dX2_setStones_24 hexc (Nat.le_of_ble_eq_true rfl) (Nat.le_of_ble_eq_true rfl) (Nat.le_of_ble_eq_true rfl) (Nat.le_of_ble_eq_true rfl) hlocks (by exact ⟨rfl, hk9⟩) (Nat.le_of_ble_eq_true rfl) (Nat.le_of_ble_eq_true rfl)
set_option maxHeartbeats 4000000 in
set_option maxRecDepth 100000 in
theorem c_X2_setFlow (l : Launch) (hl9 : l.stackTraces = false) (G : mf_G) (ho hn ha hff : Nat) (ae : Nat) (x : mf_V) (adn : Nat → Nat) (r : mf_V) (ada : Nat → Nat) (ra : mf_V) (adf : Nat → Nat) (f : mf_V)  (yv : Int) (fv : Int) (hyv : i32 yv) (hfv : i32 fv) (okx : rOK xlo xhi x) (ok : rOK rlo rhi r) (okra : rOK rlo rhi ra) (okf : rOK flo fhi f) (sz : Nat) : vx_Met l yX2_setFlow wsX2_setFlow ({ frames := 6, cells := 1, slots := 6, locals := 90 }) (va_Pc [.ref ho, .int (iI (yv)), .int (iI (fv))] (WrPx G (OW G ho hn ha hff ae x ++ RW G hn adn r ++ RW G ha ada ra ++ FW G hff adf f) sz)) (va_Qi (fun q9 (u : mf_V × mf_V × mf_V × mf_V) => ∃ z : Int, q9 = iI z ∧ kFlow yv fv = 0 ∧ (rOK xlo xhi u.1 ∧ rOK rlo rhi u.2.1 ∧ rOK rlo rhi u.2.2.1 ∧ rOK flo fhi u.2.2.2) ∧ u.2.1 = mf_sF r 5 (mf_up (r 5) yv fv) ∧ u.2.2.2 = f ∧ z = r 5 yv) (fun (u : mf_V × mf_V × mf_V × mf_V) t => WrQ G (va_A (OW G ho hn ha hff ae x ++ RW G hn adn r ++ RW G ha ada ra ++ FW G hff adf f) sz) (OW G ho hn ha hff ae (u.1) ++ RW G hn adn (u.2.1) ++ RW G ha ada (u.2.2.1) ++ FW G hff adf (u.2.2.2)) t) (va_A (OW G ho hn ha hff ae x ++ RW G hn adn r ++ RW G ha ada ra ++ FW G hff adf f) sz)) (vx_X (fun _ : Unit => True) (fun E _ t => ((E = xIO ∧ kFlow yv fv = 1) ∨ (E = xIA ∧ kFlow yv fv = 2)) ∧ WrQ G (va_A (OW G ho hn ha hff ae x ++ RW G hn adn r ++ RW G ha ada ra ++ FW G hff adf f) sz) (OW G ho hn ha hff ae x ++ RW G hn adn r ++ RW G ha ada ra ++ FW G hff adf f) t) (va_A (OW G ho hn ha hff ae x ++ RW G hn adn r ++ RW G ha ada ra ++ FW G hff adf f) sz)) 1 6 (va_A (OW G ho hn ha hff ae x ++ RW G hn adn r ++ RW G ha ada ra ++ FW G hff adf f) sz) := by
  refine vx_ofW (cc := cX2_setFlow) (maxL := 4) (ret := (some .int)) (by decide) rfl ?_
  intro p e s m args below meth c s₁ B hml hexc hv
  obtain ⟨rfl, hsz, hP, hK, hD0, hN, hSX, hCX, hZ⟩ := hv
  have hx := B.exec
  have hb := B.bytes
  have hr := B.returns
  have hts := atoms_spec (ws := wsX2_setFlow) B.pre
  have hown : s.vm.findClass RX2 = some m.cls := findClass_of_methodNamed B.named
  have hlocks := B.notSynchronized
  have hat42 := vx_hat (fun w h => hts w (List.mem_cons_of_mem _ (List.mem_append_left _ (List.mem_append_right _ h)))) xb42 (vx_c (va_Nw.use rfl hCX.1) vx_n)
  have hat52 := vx_hat (fun w h => hts w (List.mem_cons_of_mem _ (List.mem_append_right _ h))) xb52 (vx_c (va_Nw.use rfl hCX.2.1) vx_n)
  have hinX1 : ∀ w ∈ u_ws RX1 TX1 14, w ∈ wsX2_setFlow := fun w h => List.mem_cons_of_mem _ (List.mem_append_left _ (List.mem_append_left _ (List.mem_append_right _ h)))
  have hinX2 : ∀ w ∈ u_ws RX2 TX2 4, w ∈ wsX2_setFlow := fun w h => List.mem_cons_of_mem _ (List.mem_append_left _ (List.mem_append_left _ (List.mem_append_left _ (List.mem_append_right _ h))))
  subst hsz
  have hD := hD0.self (sz := s.heap.size)
  generalize hAe : va_A (OW G ho hn ha hff ae x ++ RW G hn adn r ++ RW G ha ada ra ++ FW G hff adf f) s.heap.size = A at hD hZ ⊢
  have hA : ∀ q : Nat, s.heap.size ≤ q → A q := fun q h => by rw [← hAe]; exact Or.inr h
  have hS : va_S A s.heap s.heap [] := va_S.rf
  have hl := lv_entry ([.ref ho, .int (iI (yv)), .int (iI (fv))]) (n := 4) (Nat.le_of_ble_eq_true rfl)
  rw [lg_entry_eq]
  generalize (lg_sl ([.ref ho, .int (iI (yv)), .int (iI (fv))]) ++ List.replicate (4 - (lg_sl ([.ref ho, .int (iI (yv)), .int (iI (fv))])).length) Slot.unset).toArray = ls at hl ⊢
  have hl : lv_has ls 4 [(0, .ref ho), (1, .int (iI (yv))), (2, .int (iI (fv)))] := hl
  have hyv1 := hyv.1
  have hyv2 := hyv.2
  have hfv1 := hfv.1
  have hfv2 := hfv.2
  have okLr : (0 : Int) ≤ r 7 0 ∧ r 7 0 ≤ 150 := ok 7 0
  have okLra : (0 : Int) ≤ ra 7 0 ∧ ra 7 0 ≤ 150 := okra 7 0
  refine lv_iload_n hx hb dX2_setFlow_0 rfl (lv_at hl 1 rfl) ?_
  refine mf_if_lt (tgt := 10) hx hb dX2_setFlow_1 (by decide) (i32_mk (by omega) (by omega)) (fun c1 => ?_) (fun c1 => ?_)
  · skip
    have hk9 : kFlow yv fv = 1 := mf_if_t (by omega)
    exact mf_throw (ik := 38) (is := 64) (ic := 42) (cls := "java/lang/IndexOutOfBoundsException") hx hb hl9 hown (by decide +kernel) (hts (.classLink RX2 38 "java/lang/IndexOutOfBoundsException") (List.mem_of_getElem? (i := 1) rfl)) (hts (.initialized "java/lang/IndexOutOfBoundsException") (List.mem_of_getElem? (i := 2) rfl)) hSX (List.mem_of_getElem? (i := 2) rfl) hat42 xg42 hZ hP hD hS (hl.1.trans hml.symm) dX2_setFlow_10 dX2_setFlow_13 dX2_setFlow_14 dX2_setFlow_16 dX2_setFlow_19 hexc (Nat.le_of_ble_eq_true rfl) (Nat.le_of_ble_eq_true rfl) (Nat.le_of_ble_eq_true rfl) (Nat.le_of_ble_eq_true rfl) hlocks (by exact Or.inl ⟨rfl, hk9⟩) (Nat.le_of_ble_eq_true rfl) (Nat.le_of_ble_eq_true rfl)
  · skip
    refine lv_iload_n hx hb dX2_setFlow_4 rfl (lv_at hl 1 rfl) ?_
    refine mf_bipush hx hb dX2_setFlow_5 rfl ?_
    refine mf_icmp_lt (tgt := 20) hx hb dX2_setFlow_7 (by decide) (i32_mk (by omega) (by omega)) (i32_mk (by decide) (by decide)) (fun c2 => ?_) (fun c2 => ?_)
    · skip
      refine lv_iload_n hx hb dX2_setFlow_20 rfl (lv_at hl 2 rfl) ?_
      refine vp_callSi (va_Run.run (va_runS (As := [.int (iI (fv))]) (rest := []) ⟨hx, hb, hml, hown, hts⟩ (c_X2_isGrade l (fv) (i32_mk (by omega) (by omega))) (va_cwS 1 hts gX2_setFlow_X2_isGrade rfl rfl rfl (by decide +kernel) ⟨Nat.le_of_ble_eq_true rfl, Nat.le_of_ble_eq_true rfl⟩) pureS rfl rfl hl.1 rfl (lv_room (Nat.le_of_ble_eq_true rfl)) dX2_setFlow_21 ⟨(Nat.zero_le _), (Nat.zero_le _)⟩)) (fun q3 hq3 => ?_)
      subst hq3
      refine mf_bp_ne (tgt := 37) hx hb dX2_setFlow_24 (by decide) (fun c4 => ?_) (fun c4 => ?_)
      · skip
        refine lv_aload_n hx hb dX2_setFlow_37 rfl (lv_at hl 0 rfl) ?_
        refine va_get (D := G.1) (ci := 2) (v := .ref hn) (C := RX2) (T := TX2) (N := 4) hx hb hts hinX2 hown hK hP 0 rfl rfl 0 (by decide) (hts (.fieldLink RX2 16 "MeanderFarm" "now" "LMeanderFarm$River;") (List.mem_of_getElem? (i := 5) rfl)) (fun _ h9 => h9) rfl dX2_setFlow_38 ?_
        refine va_getN (D := G.1) (ci := 1) (v := .ref (adn 5)) (C := RX1) (T := TX1) (N := 14) hx hb hts hinX1 hown hK hP 2 rfl rfl 5 (by decide) (va_Nw.use rfl (hN.f 9 rfl)) (fun _ h9 => h9) rfl dX2_setFlow_41 ?_
        refine lv_iload_n hx hb dX2_setFlow_44 rfl (lv_at hl 1 rfl) ?_
        refine mf_iald (n := 12) (f := r 5) hx hb hK hP 8 0 rfl rfl (z := yv) (by omega) (by omega) (by decide) dX2_setFlow_45 ?_
        have b5 : (0 : Int) ≤ r 5 yv ∧ r 5 yv ≤ 9 := ok 5 (yv)
        refine lv_istore_n (lv' := [(3, .int (iI (r 5 yv))), (0, .ref ho), (1, .int (iI (yv))), (2, .int (iI (fv)))]) hx hb dX2_setFlow_46 rfl hl (by decide) rfl (fun ls hl => ?_)
        refine lv_aload_n hx hb dX2_setFlow_47 rfl (lv_at hl 1 rfl) ?_
        refine va_get (D := G.1) (ci := 2) (v := .ref hn) (C := RX2) (T := TX2) (N := 4) hx hb hts hinX2 hown hK hP 0 rfl rfl 0 (by decide) (hts (.fieldLink RX2 16 "MeanderFarm" "now" "LMeanderFarm$River;") (List.mem_of_getElem? (i := 5) rfl)) (fun _ h9 => h9) rfl dX2_setFlow_48 ?_
        refine va_getN (D := G.1) (ci := 1) (v := .ref (adn 5)) (C := RX1) (T := TX1) (N := 14) hx hb hts hinX1 hown hK hP 2 rfl rfl 5 (by decide) (va_Nw.use rfl (hN.f 9 rfl)) (fun _ h9 => h9) rfl dX2_setFlow_51 ?_
        refine lv_iload_n hx hb dX2_setFlow_54 rfl (lv_at hl 2 rfl) ?_
        refine lv_iload_n hx hb dX2_setFlow_55 rfl (lv_at hl 3 rfl) ?_
        refine mf_iast (n := 12) (f := r 5) hx hb hK hP hD hS 8 0 rfl rfl (z := yv) (x := fv) (by omega) (by omega) (by decide) dX2_setFlow_56 (fun H locs hP hD hS => ?_)
        obtain ⟨r6, er6⟩ : ∃ z9 : mf_V, z9 = mf_sF r 5 (mf_up (r 5) (yv) (fv)) := ⟨_, rfl⟩
        have hP : va_P G.1 vwCl (OW G ho hn ha hff ae x ++ RW G hn adn r6 ++ RW G ha ada ra ++ FW G hff adf f) H := by rw [er6]; exact hP
        have hD : va_D A (OW G ho hn ha hff ae x ++ RW G hn adn r6 ++ RW G ha ada ra ++ FW G hff adf f) := by rw [er6]; exact hD
        have okr6 : rOK rlo rhi r6 := by rw [er6]; exact rOK_up ok 5 _ _ (show (0 : Int) ≤ fv by omega) (show fv ≤ (9 : Int) by omega)
        have f1_r6 : r6 5 (yv) = fv := by rw [er6, mf_sF_s, mf_up_s]
        have f2_r6 : ∀ y, y ≠ (yv) → r6 5 y = r 5 y := fun y hy => by rw [er6, mf_sF_s, mf_up_n hy]
        have f3_r6 : ∀ q, q ≠ 5 → r6 q = r q := fun q hq => by rw [er6, mf_sF_n hq]
        refine lv_iload_n hx hb dX2_setFlow_57 rfl (lv_at hl 0 rfl) ?_
        have hk9 : kFlow yv fv = 0 := (mf_if_f (fun z => z (by omega))).trans (mf_if_f (fun z => z (by assumption)))
        refine W.widen (k := 1) (n := 6) (Nat.le_of_ble_eq_true rfl) (Nat.le_of_ble_eq_true rfl) ?_
        refine vx_ret ?_
        exact W.iret hx hb hr (fun t ht hW => ⟨⟨_, (x, r6, ra, f), rfl, ⟨_, rfl, by (try dsimp only); exact ⟨hk9, ⟨okx, okr6, okra, okf⟩, er6, rfl, rfl⟩⟩, by rw [ht]; exact hP, hD⟩, hS.F ht⟩) hS.2.2 dX2_setFlow_58
      · skip
        have hk9 : kFlow yv fv = 2 := (mf_if_f (fun z => z (by omega))).trans (mf_if_t (by assumption))
        exact mf_throw (ik := 48) (is := 66) (ic := 52) (cls := "java/lang/IllegalArgumentException") hx hb hl9 hown (by decide +kernel) (hts (.classLink RX2 48 "java/lang/IllegalArgumentException") (List.mem_of_getElem? (i := 3) rfl)) (hts (.initialized "java/lang/IllegalArgumentException") (List.mem_of_getElem? (i := 4) rfl)) hSX (List.mem_of_getElem? (i := 3) rfl) hat52 xg52 hZ hP hD hS (hl.1.trans hml.symm) dX2_setFlow_27 dX2_setFlow_30 dX2_setFlow_31 dX2_setFlow_33 dX2_setFlow_36 hexc (Nat.le_of_ble_eq_true rfl) (Nat.le_of_ble_eq_true rfl) (Nat.le_of_ble_eq_true rfl) (Nat.le_of_ble_eq_true rfl) hlocks (by exact Or.inr (⟨rfl, hk9⟩)) (Nat.le_of_ble_eq_true rfl) (Nat.le_of_ble_eq_true rfl)
    · skip
      have hk9 : kFlow yv fv = 1 := mf_if_t (by omega)
      exact mf_throw (ik := 38) (is := 64) (ic := 42) (cls := "java/lang/IndexOutOfBoundsException") hx hb hl9 hown (by decide +kernel) (hts (.classLink RX2 38 "java/lang/IndexOutOfBoundsException") (List.mem_of_getElem? (i := 1) rfl)) (hts (.initialized "java/lang/IndexOutOfBoundsException") (List.mem_of_getElem? (i := 2) rfl)) hSX (List.mem_of_getElem? (i := 2) rfl) hat42 xg42 hZ hP hD hS (hl.1.trans hml.symm) dX2_setFlow_10 dX2_setFlow_13 dX2_setFlow_14 dX2_setFlow_16 dX2_setFlow_19 hexc (Nat.le_of_ble_eq_true rfl) (Nat.le_of_ble_eq_true rfl) (Nat.le_of_ble_eq_true rfl) (Nat.le_of_ble_eq_true rfl) hlocks (by exact Or.inl ⟨rfl, hk9⟩) (Nat.le_of_ble_eq_true rfl) (Nat.le_of_ble_eq_true rfl)
set_option maxHeartbeats 4000000 in
set_option maxRecDepth 100000 in
theorem c_X2_cell (l : Launch) (hl9 : l.stackTraces = false) (G : mf_G) (ho hn ha hff : Nat) (ae : Nat) (x : mf_V) (adn : Nat → Nat) (r : mf_V) (ada : Nat → Nat) (ra : mf_V) (adf : Nat → Nat) (f : mf_V)  (xv : Int) (yv : Int) (wv : Int) (hxv : i32 xv) (hyv : i32 yv) (hwv : i32 wv) (okx : rOK xlo xhi x) (ok : rOK rlo rhi r) (okra : rOK rlo rhi ra) (okf : rOK flo fhi f) (sz : Nat) : vx_Met l yX2_cell wsX2_cell ({ frames := 6, cells := 1, slots := 6, locals := 90 }) (va_Pc [.ref ho, .int (iI (xv)), .int (iI (yv)), .int (iI (wv))] (WrPx G (OW G ho hn ha hff ae x ++ RW G hn adn r ++ RW G ha ada ra ++ FW G hff adf f) sz)) (va_Qi (fun q9 (u : mf_V × mf_V × mf_V × mf_V) => ∃ z : Int, q9 = iI z ∧ kCell2 xv yv wv = 0 ∧ (rOK xlo xhi u.1 ∧ rOK rlo rhi u.2.1 ∧ rOK rlo rhi u.2.2.1 ∧ rOK flo fhi u.2.2.2) ∧ u.2.1 = r ∧ u.2.2.2 = f ∧ z = vCell r f xv yv wv) (fun (u : mf_V × mf_V × mf_V × mf_V) t => WrQ G (va_A (OW G ho hn ha hff ae x ++ RW G hn adn r ++ RW G ha ada ra ++ FW G hff adf f) sz) (OW G ho hn ha hff ae (u.1) ++ RW G hn adn (u.2.1) ++ RW G ha ada (u.2.2.1) ++ FW G hff adf (u.2.2.2)) t) (va_A (OW G ho hn ha hff ae x ++ RW G hn adn r ++ RW G ha ada ra ++ FW G hff adf f) sz)) (vx_X (fun _ : Unit => True) (fun E _ t => (E = xIO ∧ kCell2 xv yv wv = 1) ∧ WrQ G (va_A (OW G ho hn ha hff ae x ++ RW G hn adn r ++ RW G ha ada ra ++ FW G hff adf f) sz) (OW G ho hn ha hff ae x ++ RW G hn adn r ++ RW G ha ada ra ++ FW G hff adf f) t) (va_A (OW G ho hn ha hff ae x ++ RW G hn adn r ++ RW G ha ada ra ++ FW G hff adf f) sz)) 1 6 (va_A (OW G ho hn ha hff ae x ++ RW G hn adn r ++ RW G ha ada ra ++ FW G hff adf f) sz) := by
  refine vx_ofW (cc := cX2_cell) (maxL := 5) (ret := (some .int)) (by decide) rfl ?_
  intro p e s m args below meth c s₁ B hml hexc hv
  obtain ⟨rfl, hsz, hP, hK, hD0, hN, hSX, hCX, hZ⟩ := hv
  have hx := B.exec
  have hb := B.bytes
  have hr := B.returns
  have hts := atoms_spec (ws := wsX2_cell) B.pre
  have hown : s.vm.findClass RX2 = some m.cls := findClass_of_methodNamed B.named
  have hlocks := B.notSynchronized
  have hat42 := vx_hat (fun w h => hts w (List.mem_cons_of_mem _ (List.mem_append_right _ h))) xb42 (vx_c (va_Nw.use rfl hCX.1) vx_n)
  have hinX1 : ∀ w ∈ u_ws RX1 TX1 14, w ∈ wsX2_cell := fun w h => List.mem_cons_of_mem _ (List.mem_append_left _ (List.mem_append_left _ (List.mem_append_right _ h)))
  have hinX2 : ∀ w ∈ u_ws RX2 TX2 4, w ∈ wsX2_cell := fun w h => List.mem_cons_of_mem _ (List.mem_append_left _ (List.mem_append_left _ (List.mem_append_left _ (List.mem_append_right _ h))))
  subst hsz
  have hD := hD0.self (sz := s.heap.size)
  generalize hAe : va_A (OW G ho hn ha hff ae x ++ RW G hn adn r ++ RW G ha ada ra ++ FW G hff adf f) s.heap.size = A at hD hZ ⊢
  have hA : ∀ q : Nat, s.heap.size ≤ q → A q := fun q h => by rw [← hAe]; exact Or.inr h
  have hS : va_S A s.heap s.heap [] := va_S.rf
  have hl := lv_entry ([.ref ho, .int (iI (xv)), .int (iI (yv)), .int (iI (wv))]) (n := 5) (Nat.le_of_ble_eq_true rfl)
  rw [lg_entry_eq]
  generalize (lg_sl ([.ref ho, .int (iI (xv)), .int (iI (yv)), .int (iI (wv))]) ++ List.replicate (5 - (lg_sl ([.ref ho, .int (iI (xv)), .int (iI (yv)), .int (iI (wv))])).length) Slot.unset).toArray = ls at hl ⊢
  have hl : lv_has ls 5 [(0, .ref ho), (1, .int (iI (xv))), (2, .int (iI (yv))), (3, .int (iI (wv)))] := hl
  have hxv1 := hxv.1
  have hxv2 := hxv.2
  have hyv1 := hyv.1
  have hyv2 := hyv.2
  have hwv1 := hwv.1
  have hwv2 := hwv.2
  have okLr : (0 : Int) ≤ r 7 0 ∧ r 7 0 ≤ 150 := ok 7 0
  have okLra : (0 : Int) ≤ ra 7 0 ∧ ra 7 0 ≤ 150 := okra 7 0
  refine lv_iload_n hx hb dX2_cell_0 rfl (lv_at hl 1 rfl) ?_
  refine lv_iload_n hx hb dX2_cell_1 rfl (lv_at hl 2 rfl) ?_
  refine vp_callSi (va_Run.run (va_runS (As := [.int (iI (xv)), .int (iI (yv))]) (rest := []) ⟨hx, hb, hml, hown, hts⟩ (c_X2_cellNumber l (xv) (yv) (i32_mk (by omega) (by omega)) (i32_mk (by omega) (by omega))) (va_cwS 2 hts gX2_cell_X2_cellNumber rfl rfl rfl (by decide +kernel) ⟨Nat.le_of_ble_eq_true rfl, Nat.le_of_ble_eq_true rfl⟩) pureS rfl rfl hl.1 rfl (lv_room (Nat.le_of_ble_eq_true rfl)) dX2_cell_2 ⟨(Nat.zero_le _), (Nat.zero_le _)⟩)) (fun q1 hq1 => ?_)
  subst hq1
  refine mf_nm (fun y2 ey2 => ?_)
  have b3 : -1 ≤ y2 ∧ y2 ≤ 383 := by rw [ey2]; exact cellNo_b xv yv
  have hcn := cellNo_i xv yv
  rw [← ey2] at hcn
  refine lv_istore (lv' := [(4, .int (iI (y2))), (0, .ref ho), (1, .int (iI (xv))), (2, .int (iI (yv))), (3, .int (iI (wv)))]) hx hb dX2_cell_5 hl (by decide) rfl (fun ls hl => ?_)
  refine lv_iload hx hb dX2_cell_7 (lv_at hl 0 rfl) ?_
  refine vp_callSi (va_Run.run (va_runS (As := [.int (iI (y2))]) (rest := []) ⟨hx, hb, hml, hown, hts⟩ (c_X2_isCell l (y2) (i32_mk (by omega) (by omega))) (va_cwS 1 hts gX2_cell_X2_isCell rfl rfl rfl (by decide +kernel) ⟨Nat.le_of_ble_eq_true rfl, Nat.le_of_ble_eq_true rfl⟩) pureS rfl rfl hl.1 rfl (lv_room (Nat.le_of_ble_eq_true rfl)) dX2_cell_9 ⟨(Nat.zero_le _), (Nat.zero_le _)⟩)) (fun q4 hq4 => ?_)
  subst hq4
  refine mf_bp_ne (tgt := 25) hx hb dX2_cell_12 (by decide) (fun c5 => ?_) (fun c5 => ?_)
  · skip
    have b2 : (0 : Int) ≤ r 2 (xv + 24 * yv) ∧ r 2 (xv + 24 * yv) ≤ 1 := ok 2 _
    have hcp : cellP xv yv := by rcases hcn with q | q; exact q.1; (exfalso; omega)
    have hcv : y2 = xv + 24 * yv := by rcases hcn with q | q; exact q.2; (exfalso; omega)
    refine lv_iload_n hx hb dX2_cell_25 rfl (lv_at hl 4 rfl) ?_
    have w6 : i32 (wv) := (i32_mk (by omega) (by omega))
    rcases (show  (wv) = 0 ∨  (wv) = 1 ∨  (wv) = 2 ∨  (wv) = 3 ∨  (wv) = 4 ∨  (wv) = 5 ∨  ((wv) < 0 ∨ 5 < (wv)) by omega) with c7 | c7 | c7 | c7 | c7 | c7 | c7
    · skip
      refine lv_tableIn (off := 38) (tgt := 64) hx hb dX2_cell_26 (by rw [iI_toInt w6]; omega) (by rw [iI_toInt w6]; omega) (by rw [iI_toInt w6, c7]; rfl) (by decide) ?_
      refine lv_aload_n hx hb dX2_cell_64 rfl (lv_at hl 1 rfl) ?_
      refine va_get (D := G.1) (ci := 2) (v := .ref hn) (C := RX2) (T := TX2) (N := 4) hx hb hts hinX2 hown hK hP 0 rfl rfl 0 (by decide) (hts (.fieldLink RX2 16 "MeanderFarm" "now" "LMeanderFarm$River;") (List.mem_of_getElem? (i := 3) rfl)) (fun _ h9 => h9) rfl dX2_cell_65 ?_
      refine va_getN (D := G.1) (ci := 1) (v := .ref (adn 0)) (C := RX1) (T := TX1) (N := 14) hx hb hts hinX1 hown hK hP 2 rfl rfl 0 (by decide) (va_Nw.use rfl (hN.f 7 rfl)) (fun _ h9 => h9) rfl dX2_cell_68 ?_
      refine lv_iload hx hb dX2_cell_71 (lv_at hl 0 rfl) ?_
      refine mf_iald (n := 384) (f := r 0) hx hb hK hP 3 0 rfl rfl (z := y2) (by omega) (by omega) (by decide) dX2_cell_73 ?_
      have b8 : (0 : Int) ≤ r 0 y2 ∧ r 0 y2 ≤ 9 := ok 0 (y2)
      have hk9 : kCell2 xv yv wv = 0 := mf_if_f (fun z => z ⟨hcp, by omega⟩)
      refine W.widen (k := 1) (n := 6) (Nat.le_of_ble_eq_true rfl) (Nat.le_of_ble_eq_true rfl) ?_
      refine vx_ret ?_
      exact W.iret hx hb hr (fun t ht hW => ⟨⟨_, (x, r, ra, f), rfl, ⟨_, rfl, by (try dsimp only); exact ⟨hk9, ⟨okx, ok, okra, okf⟩, rfl, rfl, by unfold vCell;  rw [if_pos (by omega)]; first | (rw [← hcv]; done) | omega | (rw [← hcv]; omega) | rfl | (rw [← hcv]; assumption)⟩⟩, by rw [ht]; exact hP, hD⟩, hS.F ht⟩) hS.2.2 dX2_cell_74
    · skip
      refine lv_tableIn (off := 49) (tgt := 75) hx hb dX2_cell_26 (by rw [iI_toInt w6]; omega) (by rw [iI_toInt w6]; omega) (by rw [iI_toInt w6, c7]; rfl) (by decide) ?_
      refine lv_aload_n hx hb dX2_cell_75 rfl (lv_at hl 1 rfl) ?_
      refine va_get (D := G.1) (ci := 2) (v := .ref hn) (C := RX2) (T := TX2) (N := 4) hx hb hts hinX2 hown hK hP 0 rfl rfl 0 (by decide) (hts (.fieldLink RX2 16 "MeanderFarm" "now" "LMeanderFarm$River;") (List.mem_of_getElem? (i := 3) rfl)) (fun _ h9 => h9) rfl dX2_cell_76 ?_
      refine va_getN (D := G.1) (ci := 1) (v := .ref (adn 1)) (C := RX1) (T := TX1) (N := 14) hx hb hts hinX1 hown hK hP 2 rfl rfl 1 (by decide) (va_Nw.use rfl (hN.f 10 rfl)) (fun _ h9 => h9) rfl dX2_cell_79 ?_
      refine lv_iload hx hb dX2_cell_82 (lv_at hl 0 rfl) ?_
      refine mf_iald (n := 384) (f := r 1) hx hb hK hP 4 0 rfl rfl (z := y2) (by omega) (by omega) (by decide) dX2_cell_84 ?_
      have b9 : (0 : Int) ≤ r 1 y2 ∧ r 1 y2 ≤ 200000000 := ok 1 (y2)
      have hk9 : kCell2 xv yv wv = 0 := mf_if_f (fun z => z ⟨hcp, by omega⟩)
      refine W.widen (k := 1) (n := 6) (Nat.le_of_ble_eq_true rfl) (Nat.le_of_ble_eq_true rfl) ?_
      refine vx_ret ?_
      exact W.iret hx hb hr (fun t ht hW => ⟨⟨_, (x, r, ra, f), rfl, ⟨_, rfl, by (try dsimp only); exact ⟨hk9, ⟨okx, ok, okra, okf⟩, rfl, rfl, by unfold vCell; rw [if_neg (by omega)]; rw [if_pos (by omega)]; first | (rw [← hcv]; done) | omega | (rw [← hcv]; omega) | rfl | (rw [← hcv]; assumption)⟩⟩, by rw [ht]; exact hP, hD⟩, hS.F ht⟩) hS.2.2 dX2_cell_85
    · skip
      refine lv_tableIn (off := 60) (tgt := 86) hx hb dX2_cell_26 (by rw [iI_toInt w6]; omega) (by rw [iI_toInt w6]; omega) (by rw [iI_toInt w6, c7]; rfl) (by decide) ?_
      refine lv_aload_n hx hb dX2_cell_86 rfl (lv_at hl 1 rfl) ?_
      refine va_get (D := G.1) (ci := 2) (v := .ref hn) (C := RX2) (T := TX2) (N := 4) hx hb hts hinX2 hown hK hP 0 rfl rfl 0 (by decide) (hts (.fieldLink RX2 16 "MeanderFarm" "now" "LMeanderFarm$River;") (List.mem_of_getElem? (i := 3) rfl)) (fun _ h9 => h9) rfl dX2_cell_87 ?_
      refine va_getN (D := G.1) (ci := 1) (v := .ref (adn 2)) (C := RX1) (T := TX1) (N := 14) hx hb hts hinX1 hown hK hP 2 rfl rfl 2 (by decide) (va_Nw.use rfl (hN.f 8 rfl)) (fun _ h9 => h9) rfl dX2_cell_90 ?_
      refine lv_iload hx hb dX2_cell_93 (lv_at hl 0 rfl) ?_
      refine mf_zald (n := 384) (f := r 2) hx hb hK hP 5 1 rfl rfl (z := y2) (by omega) (by omega) (by decide) dX2_cell_95 ?_
      have b10 : (0 : Int) ≤ r 2 y2 ∧ r 2 y2 ≤ 1 := ok 2 (y2)
      refine mf_if_eq (tgt := 103) hx hb dX2_cell_96 (by decide) (i32_mk (by omega) (by omega)) (fun c11 => ?_) (fun c11 => ?_)
      · skip
        refine mf_iconst hx hb dX2_cell_103 ?_
        have hk9 : kCell2 xv yv wv = 0 := mf_if_f (fun z => z ⟨hcp, by omega⟩)
        refine W.widen (k := 1) (n := 6) (Nat.le_of_ble_eq_true rfl) (Nat.le_of_ble_eq_true rfl) ?_
        refine vx_ret ?_
        exact W.iret hx hb hr (fun t ht hW => ⟨⟨_, (x, r, ra, f), rfl, ⟨_, rfl, by (try dsimp only); exact ⟨hk9, ⟨okx, ok, okra, okf⟩, rfl, rfl, by unfold vCell; rw [if_neg (by omega)]; rw [if_neg (by omega)]; rw [if_pos (by omega)]; first | (rw [← hcv]; done) | omega | (rw [← hcv]; omega) | rfl | (rw [← hcv]; assumption)⟩⟩, by rw [ht]; exact hP, hD⟩, hS.F ht⟩) hS.2.2 dX2_cell_104
      · skip
        refine mf_iconst hx hb dX2_cell_99 ?_
        refine lv_goto (tgt := 104) hx hb dX2_cell_100 (by decide) ?_
        have hk9 : kCell2 xv yv wv = 0 := mf_if_f (fun z => z ⟨hcp, by omega⟩)
        refine W.widen (k := 1) (n := 6) (Nat.le_of_ble_eq_true rfl) (Nat.le_of_ble_eq_true rfl) ?_
        refine vx_ret ?_
        exact W.iret hx hb hr (fun t ht hW => ⟨⟨_, (x, r, ra, f), rfl, ⟨_, rfl, by (try dsimp only); exact ⟨hk9, ⟨okx, ok, okra, okf⟩, rfl, rfl, by unfold vCell; rw [if_neg (by omega)]; rw [if_neg (by omega)]; rw [if_pos (by omega)]; first | (rw [← hcv]; done) | omega | (rw [← hcv]; omega) | rfl | (rw [← hcv]; assumption)⟩⟩, by rw [ht]; exact hP, hD⟩, hS.F ht⟩) hS.2.2 dX2_cell_104
    · skip
      refine lv_tableIn (off := 79) (tgt := 105) hx hb dX2_cell_26 (by rw [iI_toInt w6]; omega) (by rw [iI_toInt w6]; omega) (by rw [iI_toInt w6, c7]; rfl) (by decide) ?_
      refine lv_aload_n hx hb dX2_cell_105 rfl (lv_at hl 1 rfl) ?_
      refine va_get (D := G.1) (ci := 2) (v := .ref hn) (C := RX2) (T := TX2) (N := 4) hx hb hts hinX2 hown hK hP 0 rfl rfl 0 (by decide) (hts (.fieldLink RX2 16 "MeanderFarm" "now" "LMeanderFarm$River;") (List.mem_of_getElem? (i := 3) rfl)) (fun _ h9 => h9) rfl dX2_cell_106 ?_
      refine va_getN (D := G.1) (ci := 1) (v := .ref (adn 10)) (C := RX1) (T := TX1) (N := 14) hx hb hts hinX1 hown hK hP 2 rfl rfl 10 (by decide) (va_Nw.use rfl (hN.f 11 rfl)) (fun _ h9 => h9) rfl dX2_cell_109 ?_
      refine lv_iload hx hb dX2_cell_112 (lv_at hl 0 rfl) ?_
      refine mf_iald (n := 384) (f := r 10) hx hb hK hP 10 0 rfl rfl (z := y2) (by omega) (by omega) (by decide) dX2_cell_114 ?_
      have b12 : (-1 : Int) ≤ r 10 y2 ∧ r 10 y2 ≤ 149 := ok 10 (y2)
      have hk9 : kCell2 xv yv wv = 0 := mf_if_f (fun z => z ⟨hcp, by omega⟩)
      refine W.widen (k := 1) (n := 6) (Nat.le_of_ble_eq_true rfl) (Nat.le_of_ble_eq_true rfl) ?_
      refine vx_ret ?_
      exact W.iret hx hb hr (fun t ht hW => ⟨⟨_, (x, r, ra, f), rfl, ⟨_, rfl, by (try dsimp only); exact ⟨hk9, ⟨okx, ok, okra, okf⟩, rfl, rfl, by unfold vCell; rw [if_neg (by omega)]; rw [if_neg (by omega)]; rw [if_neg (by omega)]; rw [if_pos (by omega)]; first | (rw [← hcv]; done) | omega | (rw [← hcv]; omega) | rfl | (rw [← hcv]; assumption)⟩⟩, by rw [ht]; exact hP, hD⟩, hS.F ht⟩) hS.2.2 dX2_cell_115
    · skip
      refine lv_tableIn (off := 90) (tgt := 116) hx hb dX2_cell_26 (by rw [iI_toInt w6]; omega) (by rw [iI_toInt w6]; omega) (by rw [iI_toInt w6, c7]; rfl) (by decide) ?_
      refine lv_aload_n hx hb dX2_cell_116 rfl (lv_at hl 1 rfl) ?_
      refine va_get (D := G.1) (ci := 2) (v := .ref hn) (C := RX2) (T := TX2) (N := 4) hx hb hts hinX2 hown hK hP 0 rfl rfl 0 (by decide) (hts (.fieldLink RX2 16 "MeanderFarm" "now" "LMeanderFarm$River;") (List.mem_of_getElem? (i := 3) rfl)) (fun _ h9 => h9) rfl dX2_cell_117 ?_
      refine lv_iload hx hb dX2_cell_120 (lv_at hl 0 rfl) ?_
      refine vp_callSi (va_Run.run (va_runVN (As := [.int (iI (y2))]) (rest := []) ⟨hx, hb, hml, hown, hts⟩ (c_X1_lakeYearsLeft l G hn adn r (y2) (i32_mk (by omega) (by omega)) (by assumption)) ⟨(va_cnB 1 hts gX2_cell_X1_lakeYearsLeft_n77 rfl rfl rfl (hN.m 20 rfl) (hts (.initialized RX1) (List.mem_of_getElem? (i := 13) rfl)) (by decide +kernel) ⟨Nat.le_of_ble_eq_true rfl, Nat.le_of_ble_eq_true rfl⟩), (hts (.instanceMethod yX1_lakeYearsLeft) (List.mem_of_getElem? (i := 12) rfl)), (hts (.selects RX1 yX1_lakeYearsLeft yX1_lakeYearsLeft) (List.mem_of_getElem? (i := 14) rfl))⟩ (rdV (wc := RW G hn adn r) hK hP hN [2, 3, 4, 5, 6, 7, 8, 9, 10, 11, 12, 13] rfl (ci := 1) rfl rfl) rfl rfl hl.1 rfl (lv_room (Nat.le_of_ble_eq_true rfl)) dX2_cell_122 ⟨(Nat.zero_le _), (Nat.zero_le _)⟩)) (fun q13 hq13 => ?_)
      subst hq13
      refine mf_nm (fun y14 ey14 => ?_)
      have b15 : 0 ≤ y14 ∧ y14 ≤ 100000 := by rw [ey14]; exact lyl_b (by assumption) y2
      have hk9 : kCell2 xv yv wv = 0 := mf_if_f (fun z => z ⟨hcp, by omega⟩)
      refine W.widen (k := 1) (n := 6) (Nat.le_of_ble_eq_true rfl) (Nat.le_of_ble_eq_true rfl) ?_
      refine vx_ret ?_
      exact W.iret hx hb hr (fun t ht hW => ⟨⟨_, (x, r, ra, f), rfl, ⟨_, rfl, by (try dsimp only); exact ⟨hk9, ⟨okx, ok, okra, okf⟩, rfl, rfl, by unfold vCell; rw [if_neg (by omega)]; rw [if_neg (by omega)]; rw [if_neg (by omega)]; rw [if_neg (by omega)]; rw [if_pos (by omega)]; first | (rw [← hcv]; done) | omega | (rw [← hcv]; omega) | rfl | (rw [← hcv]; assumption)⟩⟩, by rw [ht]; exact hP, hD⟩, hS.F ht⟩) hS.2.2 dX2_cell_125
    · skip
      refine lv_tableIn (off := 100) (tgt := 126) hx hb dX2_cell_26 (by rw [iI_toInt w6]; omega) (by rw [iI_toInt w6]; omega) (by rw [iI_toInt w6, c7]; rfl) (by decide) ?_
      refine lv_aload_n hx hb dX2_cell_126 rfl (lv_at hl 1 rfl) ?_
      refine va_get (D := G.1) (ci := 2) (v := .ref hff) (C := RX2) (T := TX2) (N := 4) hx hb hts hinX2 hown hK hP 0 rfl rfl 2 (by decide) (hts (.fieldLink RX2 26 "MeanderFarm" "farms" "LMeanderFarm$Farms;") (List.mem_of_getElem? (i := 4) rfl)) (fun _ h9 => h9) rfl dX2_cell_127 ?_
      refine lv_iload_n hx hb dX2_cell_130 rfl (lv_at hl 2 rfl) ?_
      refine lv_iload_n hx hb dX2_cell_131 rfl (lv_at hl 3 rfl) ?_
      refine vp_callSi (va_Run.run (va_runVN (As := [.int (iI (xv)), .int (iI (yv))]) (rest := []) ⟨hx, hb, hml, hown, hts⟩ (c_X0_farmsAt l G hff adf f (xv) (yv) (i32_mk (by omega) (by omega)) (i32_mk (by omega) (by omega)) (by assumption)) ⟨(va_cnB 2 hts gX2_cell_X0_farmsAt_n81 rfl rfl rfl (hN.m 21 rfl) (hts (.initialized RX0) (List.mem_of_getElem? (i := 23) rfl)) (by decide +kernel) ⟨Nat.le_of_ble_eq_true rfl, Nat.le_of_ble_eq_true rfl⟩), (hts (.instanceMethod yX0_farmsAt) (List.mem_of_getElem? (i := 22) rfl)), (hts (.selects RX0 yX0_farmsAt yX0_farmsAt) (List.mem_of_getElem? (i := 24) rfl))⟩ (rdV (wc := FW G hff adf f) hK hP hN [26, 27, 28, 29, 30] rfl (ci := 0) rfl rfl) rfl rfl hl.1 rfl (lv_room (Nat.le_of_ble_eq_true rfl)) dX2_cell_132 ⟨(Nat.zero_le _), (Nat.zero_le _)⟩)) (fun q16 hq16 => ?_)
      subst hq16
      refine mf_topw ?_
      skip
      have hk9 : kCell2 xv yv wv = 0 := mf_if_f (fun z => z ⟨hcp, by omega⟩)
      refine W.widen (k := 1) (n := 6) (Nat.le_of_ble_eq_true rfl) (Nat.le_of_ble_eq_true rfl) ?_
      refine vx_ret ?_
      exact W.iret hx hb hr (fun t ht hW => ⟨⟨_, (x, r, ra, f), rfl, ⟨_, rfl, by (try dsimp only); exact ⟨hk9, ⟨okx, ok, okra, okf⟩, rfl, rfl, by unfold vCell; rw [if_neg (by omega)]; rw [if_neg (by omega)]; rw [if_neg (by omega)]; rw [if_neg (by omega)]; rw [if_neg (by omega)]; first | (rw [← hcv]; done) | omega | (rw [← hcv]; omega) | rfl | (rw [← hcv]; assumption)⟩⟩, by rw [ht]; exact hP, hD⟩, hS.F ht⟩) hS.2.2 dX2_cell_135
    · skip
      refine lv_tableOut (tgt := 136) hx hb dX2_cell_26 (by rw [iI_toInt w6]; omega) (by decide) ?_
      have hk9 : kCell2 xv yv wv = 1 := mf_if_t (fun z => by have z2 := z.2; omega)
      exact mf_throw (ik := 38) (is := 84) (ic := 42) (cls := "java/lang/IndexOutOfBoundsException") hx hb hl9 hown (by decide +kernel) (hts (.classLink RX2 38 "java/lang/IndexOutOfBoundsException") (List.mem_of_getElem? (i := 1) rfl)) (hts (.initialized "java/lang/IndexOutOfBoundsException") (List.mem_of_getElem? (i := 2) rfl)) hSX (List.mem_of_getElem? (i := 4) rfl) hat42 xg42 hZ hP hD hS (hl.1.trans hml.symm) dX2_cell_136 dX2_cell_139 dX2_cell_140 dX2_cell_142 dX2_cell_145 hexc (Nat.le_of_ble_eq_true rfl) (Nat.le_of_ble_eq_true rfl) (Nat.le_of_ble_eq_true rfl) (Nat.le_of_ble_eq_true rfl) hlocks (by exact ⟨rfl, hk9⟩) (Nat.le_of_ble_eq_true rfl) (Nat.le_of_ble_eq_true rfl)
  · skip
    have hcq : ¬ cellP xv yv := by rcases hcn with q | q; (have q1 := q.1; unfold cellP at q1; exfalso; omega); exact q.1
    have hk9 : kCell2 xv yv wv = 1 := mf_if_t (fun z => hcq z.1)
    exact mf_throw (ik := 38) (is := 40) (ic := 42) (cls := "java/lang/IndexOutOfBoundsException") hx hb hl9 hown (by decide +kernel) (hts (.classLink RX2 38 "java/lang/IndexOutOfBoundsException") (List.mem_of_getElem? (i := 1) rfl)) (hts (.initialized "java/lang/IndexOutOfBoundsException") (List.mem_of_getElem? (i := 2) rfl)) hSX (List.mem_of_getElem? (i := 0) rfl) hat42 xg42 hZ hP hD hS (hl.1.trans hml.symm) dX2_cell_15 dX2_cell_18 dX2_cell_19 dX2_cell_21 dX2_cell_24 hexc (Nat.le_of_ble_eq_true rfl) (Nat.le_of_ble_eq_true rfl) (Nat.le_of_ble_eq_true rfl) (Nat.le_of_ble_eq_true rfl) hlocks (by exact ⟨rfl, hk9⟩) (Nat.le_of_ble_eq_true rfl) (Nat.le_of_ble_eq_true rfl)
set_option maxHeartbeats 4000000 in
set_option maxRecDepth 100000 in
theorem c_X2_course (l : Launch) (hl9 : l.stackTraces = false) (G : mf_G) (ho hn ha hff : Nat) (ae : Nat) (x : mf_V) (adn : Nat → Nat) (r : mf_V) (ada : Nat → Nat) (ra : mf_V) (adf : Nat → Nat) (f : mf_V)  (iv : Int) (wv : Int) (hiv : i32 iv) (hwv : i32 wv) (okx : rOK xlo xhi x) (ok : rOK rlo rhi r) (okra : rOK rlo rhi ra) (okf : rOK flo fhi f) (sz : Nat) : vx_Met l yX2_course wsX2_course ({ frames := 6, cells := 1, slots := 6, locals := 90 }) (va_Pc [.ref ho, .int (iI (iv)), .int (iI (wv))] (WrPx G (OW G ho hn ha hff ae x ++ RW G hn adn r ++ RW G ha ada ra ++ FW G hff adf f) sz)) (va_Qi (fun q9 (u : mf_V × mf_V × mf_V × mf_V) => ∃ z : Int, q9 = iI z ∧ kCourse r iv wv = 0 ∧ (rOK xlo xhi u.1 ∧ rOK rlo rhi u.2.1 ∧ rOK rlo rhi u.2.2.1 ∧ rOK flo fhi u.2.2.2) ∧ u.2.1 = r ∧ u.2.2.2 = f ∧ z = vCourse r iv wv) (fun (u : mf_V × mf_V × mf_V × mf_V) t => WrQ G (va_A (OW G ho hn ha hff ae x ++ RW G hn adn r ++ RW G ha ada ra ++ FW G hff adf f) sz) (OW G ho hn ha hff ae (u.1) ++ RW G hn adn (u.2.1) ++ RW G ha ada (u.2.2.1) ++ FW G hff adf (u.2.2.2)) t) (va_A (OW G ho hn ha hff ae x ++ RW G hn adn r ++ RW G ha ada ra ++ FW G hff adf f) sz)) (vx_X (fun _ : Unit => True) (fun E _ t => (E = xIO ∧ kCourse r iv wv = 1) ∧ WrQ G (va_A (OW G ho hn ha hff ae x ++ RW G hn adn r ++ RW G ha ada ra ++ FW G hff adf f) sz) (OW G ho hn ha hff ae x ++ RW G hn adn r ++ RW G ha ada ra ++ FW G hff adf f) t) (va_A (OW G ho hn ha hff ae x ++ RW G hn adn r ++ RW G ha ada ra ++ FW G hff adf f) sz)) 1 6 (va_A (OW G ho hn ha hff ae x ++ RW G hn adn r ++ RW G ha ada ra ++ FW G hff adf f) sz) := by
  refine vx_ofW (cc := cX2_course) (maxL := 3) (ret := (some .int)) (by decide) rfl ?_
  intro p e s m args below meth c s₁ B hml hexc hv
  obtain ⟨rfl, hsz, hP, hK, hD0, hN, hSX, hCX, hZ⟩ := hv
  have hx := B.exec
  have hb := B.bytes
  have hr := B.returns
  have hts := atoms_spec (ws := wsX2_course) B.pre
  have hown : s.vm.findClass RX2 = some m.cls := findClass_of_methodNamed B.named
  have hlocks := B.notSynchronized
  have hat42 := vx_hat (fun w h => hts w (List.mem_cons_of_mem _ (List.mem_append_right _ h))) xb42 (vx_c (va_Nw.use rfl hCX.1) vx_n)
  have hinX1 : ∀ w ∈ u_ws RX1 TX1 14, w ∈ wsX2_course := fun w h => List.mem_cons_of_mem _ (List.mem_append_left _ (List.mem_append_right _ h))
  have hinX2 : ∀ w ∈ u_ws RX2 TX2 4, w ∈ wsX2_course := fun w h => List.mem_cons_of_mem _ (List.mem_append_left _ (List.mem_append_left _ (List.mem_append_right _ h)))
  subst hsz
  have hD := hD0.self (sz := s.heap.size)
  generalize hAe : va_A (OW G ho hn ha hff ae x ++ RW G hn adn r ++ RW G ha ada ra ++ FW G hff adf f) s.heap.size = A at hD hZ ⊢
  have hA : ∀ q : Nat, s.heap.size ≤ q → A q := fun q h => by rw [← hAe]; exact Or.inr h
  have hS : va_S A s.heap s.heap [] := va_S.rf
  have hl := lv_entry ([.ref ho, .int (iI (iv)), .int (iI (wv))]) (n := 3) (Nat.le_of_ble_eq_true rfl)
  rw [lg_entry_eq]
  generalize (lg_sl ([.ref ho, .int (iI (iv)), .int (iI (wv))]) ++ List.replicate (3 - (lg_sl ([.ref ho, .int (iI (iv)), .int (iI (wv))])).length) Slot.unset).toArray = ls at hl ⊢
  have hl : lv_has ls 3 [(0, .ref ho), (1, .int (iI (iv))), (2, .int (iI (wv)))] := hl
  have hiv1 := hiv.1
  have hiv2 := hiv.2
  have hwv1 := hwv.1
  have hwv2 := hwv.2
  have okLr : (0 : Int) ≤ r 7 0 ∧ r 7 0 ≤ 150 := ok 7 0
  have okLra : (0 : Int) ≤ ra 7 0 ∧ ra 7 0 ≤ 150 := okra 7 0
  refine lv_aload_n hx hb dX2_course_0 rfl (lv_at hl 0 rfl) ?_
  refine va_get (D := G.1) (ci := 2) (v := .ref hn) (C := RX2) (T := TX2) (N := 4) hx hb hts hinX2 hown hK hP 0 rfl rfl 0 (by decide) (hts (.fieldLink RX2 16 "MeanderFarm" "now" "LMeanderFarm$River;") (List.mem_of_getElem? (i := 3) rfl)) (fun _ h9 => h9) rfl dX2_course_1 ?_
  refine lv_iload_n hx hb dX2_course_4 rfl (lv_at hl 1 rfl) ?_
  refine vp_callSi (va_Run.run (va_runVN (As := [.int (iI (iv))]) (rest := []) ⟨hx, hb, hml, hown, hts⟩ (c_X1_isInCourse l G hn adn r (iv) (i32_mk (by omega) (by omega)) (by assumption)) ⟨(va_cnB 1 hts gX2_course_X1_isInCourse_n86 rfl rfl rfl (hN.m 22 rfl) (hts (.initialized RX1) (List.mem_of_getElem? (i := 5) rfl)) (by decide +kernel) ⟨Nat.le_of_ble_eq_true rfl, Nat.le_of_ble_eq_true rfl⟩), (hts (.instanceMethod yX1_isInCourse) (List.mem_of_getElem? (i := 4) rfl)), (hts (.selects RX1 yX1_isInCourse yX1_isInCourse) (List.mem_of_getElem? (i := 6) rfl))⟩ (rdV (wc := RW G hn adn r) hK hP hN [2, 3, 4, 5, 6, 7, 8, 9, 10, 11, 12, 13] rfl (ci := 1) rfl rfl) rfl rfl hl.1 rfl (lv_room (Nat.le_of_ble_eq_true rfl)) dX2_course_5 ⟨(Nat.zero_le _), (Nat.zero_le _)⟩)) (fun q1 hq1 => ?_)
  subst hq1
  refine mf_bp_ne (tgt := 21) hx hb dX2_course_8 (by decide) (fun c2 => ?_) (fun c2 => ?_)
  · skip
    have c2' := c2; unfold inC at c2'
    have hin9 : inC r iv := by assumption
    have hin8 := hin9
    unfold inC at hin8
    refine lv_iload_n hx hb dX2_course_21 rfl (lv_at hl 2 rfl) ?_
    have w3 : i32 (wv) := (i32_mk (by omega) (by omega))
    rcases (show  (wv) = 0 ∨  (wv) = 1 ∨  (wv) = 2 ∨  (wv) = 3 ∨  (wv) = 4 ∨  ((wv) < 0 ∨ 4 < (wv)) by omega) with c4 | c4 | c4 | c4 | c4 | c4
    · skip
      refine lv_tableIn (off := 34) (tgt := 56) hx hb dX2_course_22 (by rw [iI_toInt w3]; omega) (by rw [iI_toInt w3]; omega) (by rw [iI_toInt w3, c4]; rfl) (by decide) ?_
      refine lv_aload_n hx hb dX2_course_56 rfl (lv_at hl 0 rfl) ?_
      refine va_get (D := G.1) (ci := 2) (v := .ref hn) (C := RX2) (T := TX2) (N := 4) hx hb hts hinX2 hown hK hP 0 rfl rfl 0 (by decide) (hts (.fieldLink RX2 16 "MeanderFarm" "now" "LMeanderFarm$River;") (List.mem_of_getElem? (i := 3) rfl)) (fun _ h9 => h9) rfl dX2_course_57 ?_
      refine va_getN (D := G.1) (ci := 1) (v := .ref (adn 6)) (C := RX1) (T := TX1) (N := 14) hx hb hts hinX1 hown hK hP 2 rfl rfl 6 (by decide) (va_Nw.use rfl (hN.f 12 rfl)) (fun _ h9 => h9) rfl dX2_course_60 ?_
      refine lv_iload_n hx hb dX2_course_63 rfl (lv_at hl 1 rfl) ?_
      refine mf_iald (n := 150) (f := r 6) hx hb hK hP 9 0 rfl rfl (z := iv) (by omega) (by omega) (by decide) dX2_course_64 ?_
      have b5 : (0 : Int) ≤ r 6 iv ∧ r 6 iv ≤ 383 := ok 6 (iv)
      have hk9 : kCourse r iv wv = 0 := mf_if_f (fun z => z ⟨hin9, by omega⟩)
      refine W.widen (k := 1) (n := 6) (Nat.le_of_ble_eq_true rfl) (Nat.le_of_ble_eq_true rfl) ?_
      refine vx_ret ?_
      exact W.iret hx hb hr (fun t ht hW => ⟨⟨_, (x, r, ra, f), rfl, ⟨_, rfl, by (try dsimp only); exact ⟨hk9, ⟨okx, ok, okra, okf⟩, rfl, rfl, by unfold vCourse;  rw [if_pos (by omega)]⟩⟩, by rw [ht]; exact hP, hD⟩, hS.F ht⟩) hS.2.2 dX2_course_65
    · skip
      refine lv_tableIn (off := 44) (tgt := 66) hx hb dX2_course_22 (by rw [iI_toInt w3]; omega) (by rw [iI_toInt w3]; omega) (by rw [iI_toInt w3, c4]; rfl) (by decide) ?_
      refine lv_aload_n hx hb dX2_course_66 rfl (lv_at hl 0 rfl) ?_
      refine va_get (D := G.1) (ci := 2) (v := .ref hn) (C := RX2) (T := TX2) (N := 4) hx hb hts hinX2 hown hK hP 0 rfl rfl 0 (by decide) (hts (.fieldLink RX2 16 "MeanderFarm" "now" "LMeanderFarm$River;") (List.mem_of_getElem? (i := 3) rfl)) (fun _ h9 => h9) rfl dX2_course_67 ?_
      refine va_getN (D := G.1) (ci := 1) (v := .ref (adn 11)) (C := RX1) (T := TX1) (N := 14) hx hb hts hinX1 hown hK hP 2 rfl rfl 11 (by decide) (va_Nw.use rfl (hN.f 13 rfl)) (fun _ h9 => h9) rfl dX2_course_70 ?_
      refine lv_iload_n hx hb dX2_course_73 rfl (lv_at hl 1 rfl) ?_
      refine mf_iald (n := 150) (f := r 11) hx hb hK hP 11 0 rfl rfl (z := iv) (by omega) (by omega) (by decide) dX2_course_74 ?_
      have b6 : (-1 : Int) ≤ r 11 iv ∧ r 11 iv ≤ 3 := ok 11 (iv)
      have hk9 : kCourse r iv wv = 0 := mf_if_f (fun z => z ⟨hin9, by omega⟩)
      refine W.widen (k := 1) (n := 6) (Nat.le_of_ble_eq_true rfl) (Nat.le_of_ble_eq_true rfl) ?_
      refine vx_ret ?_
      exact W.iret hx hb hr (fun t ht hW => ⟨⟨_, (x, r, ra, f), rfl, ⟨_, rfl, by (try dsimp only); exact ⟨hk9, ⟨okx, ok, okra, okf⟩, rfl, rfl, by unfold vCourse; rw [if_neg (by omega)]; rw [if_pos (by omega)]⟩⟩, by rw [ht]; exact hP, hD⟩, hS.F ht⟩) hS.2.2 dX2_course_75
    · skip
      refine lv_tableIn (off := 54) (tgt := 76) hx hb dX2_course_22 (by rw [iI_toInt w3]; omega) (by rw [iI_toInt w3]; omega) (by rw [iI_toInt w3, c4]; rfl) (by decide) ?_
      refine lv_aload_n hx hb dX2_course_76 rfl (lv_at hl 0 rfl) ?_
      refine va_get (D := G.1) (ci := 2) (v := .ref hn) (C := RX2) (T := TX2) (N := 4) hx hb hts hinX2 hown hK hP 0 rfl rfl 0 (by decide) (hts (.fieldLink RX2 16 "MeanderFarm" "now" "LMeanderFarm$River;") (List.mem_of_getElem? (i := 3) rfl)) (fun _ h9 => h9) rfl dX2_course_77 ?_
      refine lv_iload_n hx hb dX2_course_80 rfl (lv_at hl 1 rfl) ?_
      refine vp_callSi (va_Run.run (va_runVN (As := [.int (iI (iv))]) (rest := []) ⟨hx, hb, hml, hown, hts⟩ (c_X1_isStraight l G hn adn r (iv) (i32_mk (by omega) (by omega)) (by assumption)) ⟨(va_cnB 1 hts gX2_course_X1_isStraight_n97 rfl rfl rfl (hN.m 23 rfl) (hts (.initialized RX1) (List.mem_of_getElem? (i := 5) rfl)) (by decide +kernel) ⟨Nat.le_of_ble_eq_true rfl, Nat.le_of_ble_eq_true rfl⟩), (hts (.instanceMethod yX1_isStraight) (List.mem_of_getElem? (i := 9) rfl)), (hts (.selects RX1 yX1_isStraight yX1_isStraight) (List.mem_of_getElem? (i := 10) rfl))⟩ (rdV (wc := RW G hn adn r) hK hP hN [2, 3, 4, 5, 6, 7, 8, 9, 10, 11, 12, 13] rfl (ci := 1) rfl rfl) rfl rfl hl.1 rfl (lv_room (Nat.le_of_ble_eq_true rfl)) dX2_course_81 ⟨(Nat.zero_le _), (Nat.zero_le _)⟩)) (fun q7 hq7 => ?_)
      subst hq7
      refine mf_bp_eq (tgt := 91) hx hb dX2_course_84 (by decide) (fun c8 => ?_) (fun c8 => ?_)
      · skip
        have c8' := c8; unfold strP at c8'
        refine mf_iconst hx hb dX2_course_91 ?_
        have hk9 : kCourse r iv wv = 0 := mf_if_f (fun z => z ⟨hin9, by omega⟩)
        refine W.widen (k := 1) (n := 6) (Nat.le_of_ble_eq_true rfl) (Nat.le_of_ble_eq_true rfl) ?_
        refine vx_ret ?_
        exact W.iret hx hb hr (fun t ht hW => ⟨⟨_, (x, r, ra, f), rfl, ⟨_, rfl, by (try dsimp only); exact ⟨hk9, ⟨okx, ok, okra, okf⟩, rfl, rfl, by unfold vCourse; rw [if_neg (by omega)]; rw [if_neg (by omega)]; rw [if_pos (by omega)]; exact (bP_f (by assumption)).symm⟩⟩, by rw [ht]; exact hP, hD⟩, hS.F ht⟩) hS.2.2 dX2_course_92
      · skip
        have c8' := c8; unfold strP at c8'
        refine mf_iconst hx hb dX2_course_87 ?_
        refine lv_goto (tgt := 92) hx hb dX2_course_88 (by decide) ?_
        have hk9 : kCourse r iv wv = 0 := mf_if_f (fun z => z ⟨hin9, by omega⟩)
        refine W.widen (k := 1) (n := 6) (Nat.le_of_ble_eq_true rfl) (Nat.le_of_ble_eq_true rfl) ?_
        refine vx_ret ?_
        exact W.iret hx hb hr (fun t ht hW => ⟨⟨_, (x, r, ra, f), rfl, ⟨_, rfl, by (try dsimp only); exact ⟨hk9, ⟨okx, ok, okra, okf⟩, rfl, rfl, by unfold vCourse; rw [if_neg (by omega)]; rw [if_neg (by omega)]; rw [if_pos (by omega)]; exact (bP_t (by assumption)).symm⟩⟩, by rw [ht]; exact hP, hD⟩, hS.F ht⟩) hS.2.2 dX2_course_92
    · skip
      refine lv_tableIn (off := 71) (tgt := 93) hx hb dX2_course_22 (by rw [iI_toInt w3]; omega) (by rw [iI_toInt w3]; omega) (by rw [iI_toInt w3, c4]; rfl) (by decide) ?_
      refine lv_aload_n hx hb dX2_course_93 rfl (lv_at hl 0 rfl) ?_
      refine va_get (D := G.1) (ci := 2) (v := .ref hn) (C := RX2) (T := TX2) (N := 4) hx hb hts hinX2 hown hK hP 0 rfl rfl 0 (by decide) (hts (.fieldLink RX2 16 "MeanderFarm" "now" "LMeanderFarm$River;") (List.mem_of_getElem? (i := 3) rfl)) (fun _ h9 => h9) rfl dX2_course_94 ?_
      refine va_getN (D := G.1) (ci := 1) (v := .ref (adn 12)) (C := RX1) (T := TX1) (N := 14) hx hb hts hinX1 hown hK hP 2 rfl rfl 12 (by decide) (va_Nw.use rfl (hN.f 0 rfl)) (fun _ h9 => h9) rfl dX2_course_97 ?_
      refine lv_iload_n hx hb dX2_course_100 rfl (lv_at hl 1 rfl) ?_
      refine mf_iald (n := 150) (f := r 12) hx hb hK hP 12 0 rfl rfl (z := iv) (by omega) (by omega) (by decide) dX2_course_101 ?_
      have b9 : (-1 : Int) ≤ r 12 iv ∧ r 12 iv ≤ 3 := ok 12 (iv)
      have hk9 : kCourse r iv wv = 0 := mf_if_f (fun z => z ⟨hin9, by omega⟩)
      refine W.widen (k := 1) (n := 6) (Nat.le_of_ble_eq_true rfl) (Nat.le_of_ble_eq_true rfl) ?_
      refine vx_ret ?_
      exact W.iret hx hb hr (fun t ht hW => ⟨⟨_, (x, r, ra, f), rfl, ⟨_, rfl, by (try dsimp only); exact ⟨hk9, ⟨okx, ok, okra, okf⟩, rfl, rfl, by unfold vCourse; rw [if_neg (by omega)]; rw [if_neg (by omega)]; rw [if_neg (by omega)]; rw [if_pos (by omega)]⟩⟩, by rw [ht]; exact hP, hD⟩, hS.F ht⟩) hS.2.2 dX2_course_102
    · skip
      refine lv_tableIn (off := 81) (tgt := 103) hx hb dX2_course_22 (by rw [iI_toInt w3]; omega) (by rw [iI_toInt w3]; omega) (by rw [iI_toInt w3, c4]; rfl) (by decide) ?_
      refine lv_aload_n hx hb dX2_course_103 rfl (lv_at hl 0 rfl) ?_
      refine va_get (D := G.1) (ci := 2) (v := .ref hn) (C := RX2) (T := TX2) (N := 4) hx hb hts hinX2 hown hK hP 0 rfl rfl 0 (by decide) (hts (.fieldLink RX2 16 "MeanderFarm" "now" "LMeanderFarm$River;") (List.mem_of_getElem? (i := 3) rfl)) (fun _ h9 => h9) rfl dX2_course_104 ?_
      refine va_getN (D := G.1) (ci := 1) (v := .ref (adn 13)) (C := RX1) (T := TX1) (N := 14) hx hb hts hinX1 hown hK hP 2 rfl rfl 13 (by decide) (va_Nw.use rfl (hN.f 1 rfl)) (fun _ h9 => h9) rfl dX2_course_107 ?_
      refine lv_iload_n hx hb dX2_course_110 rfl (lv_at hl 1 rfl) ?_
      refine mf_iald (n := 150) (f := r 13) hx hb hK hP 13 0 rfl rfl (z := iv) (by omega) (by omega) (by decide) dX2_course_111 ?_
      have b10 : (-1 : Int) ≤ r 13 iv ∧ r 13 iv ≤ 383 := ok 13 (iv)
      have hk9 : kCourse r iv wv = 0 := mf_if_f (fun z => z ⟨hin9, by omega⟩)
      refine W.widen (k := 1) (n := 6) (Nat.le_of_ble_eq_true rfl) (Nat.le_of_ble_eq_true rfl) ?_
      refine vx_ret ?_
      exact W.iret hx hb hr (fun t ht hW => ⟨⟨_, (x, r, ra, f), rfl, ⟨_, rfl, by (try dsimp only); exact ⟨hk9, ⟨okx, ok, okra, okf⟩, rfl, rfl, by unfold vCourse; rw [if_neg (by omega)]; rw [if_neg (by omega)]; rw [if_neg (by omega)]; rw [if_neg (by omega)]; skip⟩⟩, by rw [ht]; exact hP, hD⟩, hS.F ht⟩) hS.2.2 dX2_course_112
    · skip
      refine lv_tableOut (tgt := 113) hx hb dX2_course_22 (by rw [iI_toInt w3]; omega) (by decide) ?_
      have hk9 : kCourse r iv wv = 1 := mf_if_t (fun z => by have z2 := z.2; omega)
      exact mf_throw (ik := 38) (is := 106) (ic := 42) (cls := "java/lang/IndexOutOfBoundsException") hx hb hl9 hown (by decide +kernel) (hts (.classLink RX2 38 "java/lang/IndexOutOfBoundsException") (List.mem_of_getElem? (i := 1) rfl)) (hts (.initialized "java/lang/IndexOutOfBoundsException") (List.mem_of_getElem? (i := 2) rfl)) hSX (List.mem_of_getElem? (i := 6) rfl) hat42 xg42 hZ hP hD hS (hl.1.trans hml.symm) dX2_course_113 dX2_course_116 dX2_course_117 dX2_course_119 dX2_course_122 hexc (Nat.le_of_ble_eq_true rfl) (Nat.le_of_ble_eq_true rfl) (Nat.le_of_ble_eq_true rfl) (Nat.le_of_ble_eq_true rfl) hlocks (by exact ⟨rfl, hk9⟩) (Nat.le_of_ble_eq_true rfl) (Nat.le_of_ble_eq_true rfl)
  · skip
    have c2' := c2; unfold inC at c2'
    have hk9 : kCourse r iv wv = 1 := mf_if_t (fun z => absurd z.1 (by assumption))
    exact mf_throw (ik := 38) (is := 89) (ic := 42) (cls := "java/lang/IndexOutOfBoundsException") hx hb hl9 hown (by decide +kernel) (hts (.classLink RX2 38 "java/lang/IndexOutOfBoundsException") (List.mem_of_getElem? (i := 1) rfl)) (hts (.initialized "java/lang/IndexOutOfBoundsException") (List.mem_of_getElem? (i := 2) rfl)) hSX (List.mem_of_getElem? (i := 5) rfl) hat42 xg42 hZ hP hD hS (hl.1.trans hml.symm) dX2_course_11 dX2_course_14 dX2_course_15 dX2_course_17 dX2_course_20 hexc (Nat.le_of_ble_eq_true rfl) (Nat.le_of_ble_eq_true rfl) (Nat.le_of_ble_eq_true rfl) (Nat.le_of_ble_eq_true rfl) hlocks (by exact ⟨rfl, hk9⟩) (Nat.le_of_ble_eq_true rfl) (Nat.le_of_ble_eq_true rfl)
set_option maxHeartbeats 4000000 in
set_option maxRecDepth 100000 in
theorem c_X2_slip (l : Launch) (hl9 : l.stackTraces = false) (G : mf_G) (ho hn ha hff : Nat) (ae : Nat) (x : mf_V) (adn : Nat → Nat) (r : mf_V) (ada : Nat → Nat) (ra : mf_V) (adf : Nat → Nat) (f : mf_V)  (iv : Int) (sv : Int) (hiv : i32 iv) (hsv : i32 sv) (okx : rOK xlo xhi x) (ok : rOK rlo rhi r) (okra : rOK rlo rhi ra) (okf : rOK flo fhi f) (hI : RInv r) (sz : Nat) : vx_Met l yX2_slip wsX2_slip ({ frames := 6, cells := 1, slots := 6, locals := 94 }) (va_Pc [.ref ho, .int (iI (iv)), .int (iI (sv))] (WrPx G (OW G ho hn ha hff ae x ++ RW G hn adn r ++ RW G ha ada ra ++ FW G hff adf f) sz)) (va_Qi (fun q9 (u : mf_V × mf_V × mf_V × mf_V) => ∃ z : Int, q9 = iI z ∧ kSlip r iv sv = 0 ∧ (rOK xlo xhi u.1 ∧ rOK rlo rhi u.2.1 ∧ rOK rlo rhi u.2.2.1 ∧ rOK flo fhi u.2.2.2) ∧ RInv u.2.1 ∧ Bul r iv sv u.2.1 ∧ u.2.2.2 = f ∧ z = u.2.1 7 0) (fun (u : mf_V × mf_V × mf_V × mf_V) t => WrQ G (va_A (OW G ho hn ha hff ae x ++ RW G hn adn r ++ RW G ha ada ra ++ FW G hff adf f) sz) (OW G ho hn ha hff ae (u.1) ++ RW G hn adn (u.2.1) ++ RW G ha ada (u.2.2.1) ++ FW G hff adf (u.2.2.2)) t) (va_A (OW G ho hn ha hff ae x ++ RW G hn adn r ++ RW G ha ada ra ++ FW G hff adf f) sz)) (vx_X (fun _ : Unit => True) (fun E _ t => ((E = xIO ∧ kSlip r iv sv = 1) ∨ (E = xIA ∧ kSlip r iv sv = 2) ∨ (E = xIS ∧ kSlip r iv sv = 3)) ∧ WrQ G (va_A (OW G ho hn ha hff ae x ++ RW G hn adn r ++ RW G ha ada ra ++ FW G hff adf f) sz) (OW G ho hn ha hff ae x ++ RW G hn adn r ++ RW G ha ada ra ++ FW G hff adf f) t) (va_A (OW G ho hn ha hff ae x ++ RW G hn adn r ++ RW G ha ada ra ++ FW G hff adf f) sz)) 1 6 (va_A (OW G ho hn ha hff ae x ++ RW G hn adn r ++ RW G ha ada ra ++ FW G hff adf f) sz) := by
  refine vx_ofW (cc := cX2_slip) (maxL := 3) (ret := (some .int)) (by decide) rfl ?_
  intro p e s m args below meth c s₁ B hml hexc hv
  obtain ⟨rfl, hsz, hP, hK, hD0, hN, hSX, hCX, hZ⟩ := hv
  have hx := B.exec
  have hb := B.bytes
  have hr := B.returns
  have hts := atoms_spec (ws := wsX2_slip) B.pre
  have hown : s.vm.findClass RX2 = some m.cls := findClass_of_methodNamed B.named
  have hlocks := B.notSynchronized
  have hat42 := vx_hat (fun w h => hts w (List.mem_cons_of_mem _ (List.mem_append_left _ (List.mem_append_left _ (List.mem_append_right _ h))))) xb42 (vx_c (va_Nw.use rfl hCX.1) vx_n)
  have hat52 := vx_hat (fun w h => hts w (List.mem_cons_of_mem _ (List.mem_append_left _ (List.mem_append_right _ h)))) xb52 (vx_c (va_Nw.use rfl hCX.2.1) vx_n)
  have hat118 := vx_hat (fun w h => hts w (List.mem_cons_of_mem _ (List.mem_append_right _ h))) xb118 (vx_c (va_Nw.use rfl hCX.2.2) vx_n)
  have hinX1 : ∀ w ∈ u_ws RX1 TX1 14, w ∈ wsX2_slip := fun w h => List.mem_cons_of_mem _ (List.mem_append_left _ (List.mem_append_left _ (List.mem_append_left _ (List.mem_append_right _ h))))
  have hinX2 : ∀ w ∈ u_ws RX2 TX2 4, w ∈ wsX2_slip := fun w h => List.mem_cons_of_mem _ (List.mem_append_left _ (List.mem_append_left _ (List.mem_append_left _ (List.mem_append_left _ (List.mem_append_right _ h)))))
  subst hsz
  have hD := hD0.self (sz := s.heap.size)
  generalize hAe : va_A (OW G ho hn ha hff ae x ++ RW G hn adn r ++ RW G ha ada ra ++ FW G hff adf f) s.heap.size = A at hD hZ ⊢
  have hA : ∀ q : Nat, s.heap.size ≤ q → A q := fun q h => by rw [← hAe]; exact Or.inr h
  have hS : va_S A s.heap s.heap [] := va_S.rf
  have hl := lv_entry ([.ref ho, .int (iI (iv)), .int (iI (sv))]) (n := 3) (Nat.le_of_ble_eq_true rfl)
  rw [lg_entry_eq]
  generalize (lg_sl ([.ref ho, .int (iI (iv)), .int (iI (sv))]) ++ List.replicate (3 - (lg_sl ([.ref ho, .int (iI (iv)), .int (iI (sv))])).length) Slot.unset).toArray = ls at hl ⊢
  have hl : lv_has ls 3 [(0, .ref ho), (1, .int (iI (iv))), (2, .int (iI (sv)))] := hl
  have hiv1 := hiv.1
  have hiv2 := hiv.2
  have hsv1 := hsv.1
  have hsv2 := hsv.2
  have okLr : (0 : Int) ≤ r 7 0 ∧ r 7 0 ≤ 150 := ok 7 0
  have okLra : (0 : Int) ≤ ra 7 0 ∧ ra 7 0 ≤ 150 := okra 7 0
  refine lv_aload_n hx hb dX2_slip_0 rfl (lv_at hl 0 rfl) ?_
  refine va_get (D := G.1) (ci := 2) (v := .ref hn) (C := RX2) (T := TX2) (N := 4) hx hb hts hinX2 hown hK hP 0 rfl rfl 0 (by decide) (hts (.fieldLink RX2 16 "MeanderFarm" "now" "LMeanderFarm$River;") (List.mem_of_getElem? (i := 7) rfl)) (fun _ h9 => h9) rfl dX2_slip_1 ?_
  refine lv_iload_n hx hb dX2_slip_4 rfl (lv_at hl 1 rfl) ?_
  refine vp_callSi (va_Run.run (va_runVN (As := [.int (iI (iv))]) (rest := []) ⟨hx, hb, hml, hown, hts⟩ (c_X1_isInCourse l G hn adn r (iv) (i32_mk (by omega) (by omega)) (by assumption)) ⟨(va_cnB 1 hts gX2_slip_X1_isInCourse_n86 rfl rfl rfl (hN.m 22 rfl) (hts (.initialized RX1) (List.mem_of_getElem? (i := 9) rfl)) (by decide +kernel) ⟨Nat.le_of_ble_eq_true rfl, Nat.le_of_ble_eq_true rfl⟩), (hts (.instanceMethod yX1_isInCourse) (List.mem_of_getElem? (i := 8) rfl)), (hts (.selects RX1 yX1_isInCourse yX1_isInCourse) (List.mem_of_getElem? (i := 10) rfl))⟩ (rdV (wc := RW G hn adn r) hK hP hN [2, 3, 4, 5, 6, 7, 8, 9, 10, 11, 12, 13] rfl (ci := 1) rfl rfl) rfl rfl hl.1 rfl (lv_room (Nat.le_of_ble_eq_true rfl)) dX2_slip_5 ⟨(Nat.zero_le _), (Nat.zero_le _)⟩)) (fun q1 hq1 => ?_)
  subst hq1
  refine mf_bp_ne (tgt := 21) hx hb dX2_slip_8 (by decide) (fun c2 => ?_) (fun c2 => ?_)
  · skip
    have c2' := c2; unfold inC at c2'
    refine lv_iload_n hx hb dX2_slip_21 rfl (lv_at hl 2 rfl) ?_
    refine mf_if_lt (tgt := 30) hx hb dX2_slip_22 (by decide) (i32_mk (by omega) (by omega)) (fun c3 => ?_) (fun c3 => ?_)
    · skip
      have hk9 : kSlip r iv sv = 2 := (mf_if_f (fun z => z (by assumption))).trans (mf_if_t (by omega))
      exact mf_throw (ik := 48) (is := 108) (ic := 52) (cls := "java/lang/IllegalArgumentException") hx hb hl9 hown (by decide +kernel) (hts (.classLink RX2 48 "java/lang/IllegalArgumentException") (List.mem_of_getElem? (i := 3) rfl)) (hts (.initialized "java/lang/IllegalArgumentException") (List.mem_of_getElem? (i := 4) rfl)) hSX (List.mem_of_getElem? (i := 7) rfl) hat52 xg52 hZ hP hD hS (hl.1.trans hml.symm) dX2_slip_30 dX2_slip_33 dX2_slip_34 dX2_slip_36 dX2_slip_39 hexc (Nat.le_of_ble_eq_true rfl) (Nat.le_of_ble_eq_true rfl) (Nat.le_of_ble_eq_true rfl) (Nat.le_of_ble_eq_true rfl) hlocks (by exact Or.inr (Or.inl ⟨rfl, hk9⟩)) (Nat.le_of_ble_eq_true rfl) (Nat.le_of_ble_eq_true rfl)
    · skip
      refine lv_iload_n hx hb dX2_slip_25 rfl (lv_at hl 2 rfl) ?_
      refine mf_iconst hx hb dX2_slip_26 ?_
      refine mf_icmp_lt (tgt := 40) hx hb dX2_slip_27 (by decide) (i32_mk (by omega) (by omega)) (i32_mk (by decide) (by decide)) (fun c4 => ?_) (fun c4 => ?_)
      · skip
        refine lv_aload_n hx hb dX2_slip_40 rfl (lv_at hl 0 rfl) ?_
        refine va_get (D := G.1) (ci := 2) (v := .ref hn) (C := RX2) (T := TX2) (N := 4) hx hb hts hinX2 hown hK hP 0 rfl rfl 0 (by decide) (hts (.fieldLink RX2 16 "MeanderFarm" "now" "LMeanderFarm$River;") (List.mem_of_getElem? (i := 7) rfl)) (fun _ h9 => h9) rfl dX2_slip_41 ?_
        refine lv_iload_n hx hb dX2_slip_44 rfl (lv_at hl 1 rfl) ?_
        refine lv_iload_n hx hb dX2_slip_45 rfl (lv_at hl 2 rfl) ?_
        refine vp_callSi (va_Run.run (va_runVN (As := [.int (iI (iv)), .int (iI (sv))]) (rest := []) ⟨hx, hb, hml, hown, hts⟩ (c_X1_canBulge l G hn adn r (iv) (sv) (i32_mk (by omega) (by omega)) (i32_mk (by omega) (by omega)) (by assumption) (by exact dirPos hI)) ⟨(va_cnB 2 hts gX2_slip_X1_canBulge_n110 rfl rfl rfl (hN.m 0 rfl) (hts (.initialized RX1) (List.mem_of_getElem? (i := 9) rfl)) (by decide +kernel) ⟨Nat.le_of_ble_eq_true rfl, Nat.le_of_ble_eq_true rfl⟩), (hts (.instanceMethod yX1_canBulge) (List.mem_of_getElem? (i := 13) rfl)), (hts (.selects RX1 yX1_canBulge yX1_canBulge) (List.mem_of_getElem? (i := 14) rfl))⟩ (rdV (wc := RW G hn adn r) hK hP hN [2, 3, 4, 5, 6, 7, 8, 9, 10, 11, 12, 13] rfl (ci := 1) rfl rfl) rfl rfl hl.1 rfl (lv_room (Nat.le_of_ble_eq_true rfl)) dX2_slip_46 ⟨(Nat.zero_le _), (Nat.zero_le _)⟩)) (fun q5 hq5 => ?_)
        subst hq5
        refine mf_bp_ne (tgt := 62) hx hb dX2_slip_49 (by decide) (fun c6 => ?_) (fun c6 => ?_)
        · skip
          refine lv_aload_n hx hb dX2_slip_62 rfl (lv_at hl 0 rfl) ?_
          refine va_get (D := G.1) (ci := 2) (v := .ref hn) (C := RX2) (T := TX2) (N := 4) hx hb hts hinX2 hown hK hP 0 rfl rfl 0 (by decide) (hts (.fieldLink RX2 16 "MeanderFarm" "now" "LMeanderFarm$River;") (List.mem_of_getElem? (i := 7) rfl)) (fun _ h9 => h9) rfl dX2_slip_63 ?_
          refine lv_iload_n hx hb dX2_slip_66 rfl (lv_at hl 1 rfl) ?_
          refine lv_iload_n hx hb dX2_slip_67 rfl (lv_at hl 2 rfl) ?_
          have hFc := va_free (wc := RW G hn adn r) hD hS hA [2, 3, 4, 5, 6, 7, 8, 9, 10, 11, 12, 13] rfl
          refine va_callv (va_runVN (As := [.int (iI (iv)), .int (iI (sv))]) (rest := []) ⟨hx, hb, hml, hown, hts⟩ (c_X1_bulge l G hn adn r (iv) (sv) (i32_mk (by omega) (by omega)) (i32_mk (by omega) (by omega)) (by assumption) (by first | assumption | omega) (by assumption) _) ⟨(va_cnB 2 hts gX2_slip_X1_bulge_n119 rfl rfl rfl (hN.m 1 rfl) (hts (.initialized RX1) (List.mem_of_getElem? (i := 9) rfl)) (by decide +kernel) ⟨Nat.le_of_ble_eq_true rfl, Nat.le_of_ble_eq_true rfl⟩), (hts (.instanceMethod yX1_bulge) (List.mem_of_getElem? (i := 38) rfl)), (hts (.selects RX1 yX1_bulge yX1_bulge) (List.mem_of_getElem? (i := 39) rfl))⟩ (wrV (wc := RW G hn adn r) hK hP hD hN [2, 3, 4, 5, 6, 7, 8, 9, 10, 11, 12, 13] (by decide) rfl rfl (ci := 1) rfl rfl) rfl rfl hl.1 rfl (lv_room (Nat.le_of_ble_eq_true rfl)) dX2_slip_68 ⟨(Nat.zero_le _), (Nat.zero_le _)⟩) hS (fun q _ h => hFc q h) hFc (fun u8 t H1 locs ht hvm hw hB hz1 hk1 hS => ?_)
          obtain ⟨r9, rfl⟩ : ∃ z, z = u8 := ⟨_, rfl⟩
          try dsimp only at hw hB
          obtain ⟨hP, hD⟩ := wrJ2 (ws := OW G ho hn ha hff ae x ++ RW G hn adn r ++ RW G ha ada ra ++ FW G hff adf f) (wc := RW G hn adn r) (wr := OW G ho hn ha hff ae x ++ RW G ha ada ra ++ FW G hff adf f) (w1 := RW G hn adn r9) hP hD [2, 3, 4, 5, 6, 7, 8, 9, 10, 11, 12, 13] [0, 1, 14, 15, 16, 17, 18, 19, 20, 21, 22, 23, 24, 25, 26, 27, 28, 29, 30] rfl rfl (by decide) (by decide) hk1 ht hFc hB
          have hP : va_P G.1 vwCl (OW G ho hn ha hff ae x ++ RW G hn adn r9 ++ RW G ha ada ra ++ FW G hff adf f) H1 := hP.sub [0, 1, 19, 20, 21, 22, 23, 24, 25, 26, 27, 28, 29, 30, 2, 3, 4, 5, 6, 7, 8, 9, 10, 11, 12, 13, 14, 15, 16, 17, 18] rfl
          have hD : va_D A (OW G ho hn ha hff ae x ++ RW G hn adn r9 ++ RW G ha ada ra ++ FW G hff adf f) := hD.sub [0, 1, 19, 20, 21, 22, 23, 24, 25, 26, 27, 28, 29, 30, 2, 3, 4, 5, 6, 7, 8, 9, 10, 11, 12, 13, 14, 15, 16, 17, 18] (by decide) rfl
          have hP : va_P G.1 vwCl (OW G ho hn ha hff ae x ++ RW G hn adn r9 ++ RW G ha ada ra ++ FW G hff adf f) H1 := hP
          have hD : va_D A (OW G ho hn ha hff ae x ++ RW G hn adn r9 ++ RW G ha ada ra ++ FW G hff adf f) := hD
          clear hB hk1 hFc ht hz1 hvm
          generalize H1 = H at hP hS ⊢
          have w10 := hw; clear hw
          have okr9 : rOK rlo rhi r9 := w10.1
          refine lv_aload_n hx hb dX2_slip_71 rfl (lv_at hl 0 rfl) ?_
          refine va_get (D := G.1) (ci := 2) (v := .ref hn) (C := RX2) (T := TX2) (N := 4) hx hb hts hinX2 hown hK hP 0 rfl rfl 0 (by decide) (hts (.fieldLink RX2 16 "MeanderFarm" "now" "LMeanderFarm$River;") (List.mem_of_getElem? (i := 7) rfl)) (fun _ h9 => h9) rfl dX2_slip_72 ?_
          refine va_getN (D := G.1) (ci := 1) (v := .int (iI (r9 7 0))) (C := RX1) (T := TX1) (N := 14) hx hb hts hinX1 hown hK hP 2 rfl rfl 7 (by decide) (va_Nw.use rfl (hN.f 2 rfl)) (fun _ h9 => h9) rfl dX2_slip_75 ?_
          have b11 : (0 : Int) ≤ r9 7 0 ∧ r9 7 0 ≤ 150 := okr9 7 (0)
          have hk9 : kSlip r iv sv = 0 := (mf_if_f (fun z => z (by assumption))).trans ((mf_if_f (fun z => z (by omega))).trans (mf_if_f (fun z => z (by assumption))))
          refine W.widen (k := 1) (n := 6) (Nat.le_of_ble_eq_true rfl) (Nat.le_of_ble_eq_true rfl) ?_
          refine vx_ret ?_
          exact W.iret hx hb hr (fun t ht hW => ⟨⟨_, (x, r9, ra, f), rfl, ⟨_, rfl, by (try dsimp only); exact ⟨hk9, ⟨okx, okr9, okra, okf⟩, w10.2.2, w10.2.1, rfl, rfl⟩⟩, by rw [ht]; exact hP, hD⟩, hS.F ht⟩) hS.2.2 dX2_slip_78
        · skip
          have hk9 : kSlip r iv sv = 3 := (mf_if_f (fun z => z (by assumption))).trans ((mf_if_f (fun z => z (by omega))).trans (mf_if_t (by assumption)))
          exact mf_throw (ik := 114) (is := 116) (ic := 118) (cls := "java/lang/IllegalStateException") hx hb hl9 hown (by decide +kernel) (hts (.classLink RX2 114 "java/lang/IllegalStateException") (List.mem_of_getElem? (i := 5) rfl)) (hts (.initialized "java/lang/IllegalStateException") (List.mem_of_getElem? (i := 6) rfl)) hSX (List.mem_of_getElem? (i := 8) rfl) hat118 xg118 hZ hP hD hS (hl.1.trans hml.symm) dX2_slip_52 dX2_slip_55 dX2_slip_56 dX2_slip_58 dX2_slip_61 hexc (Nat.le_of_ble_eq_true rfl) (Nat.le_of_ble_eq_true rfl) (Nat.le_of_ble_eq_true rfl) (Nat.le_of_ble_eq_true rfl) hlocks (by exact Or.inr (Or.inr (⟨rfl, hk9⟩))) (Nat.le_of_ble_eq_true rfl) (Nat.le_of_ble_eq_true rfl)
      · skip
        have hk9 : kSlip r iv sv = 2 := (mf_if_f (fun z => z (by assumption))).trans (mf_if_t (by omega))
        exact mf_throw (ik := 48) (is := 108) (ic := 52) (cls := "java/lang/IllegalArgumentException") hx hb hl9 hown (by decide +kernel) (hts (.classLink RX2 48 "java/lang/IllegalArgumentException") (List.mem_of_getElem? (i := 3) rfl)) (hts (.initialized "java/lang/IllegalArgumentException") (List.mem_of_getElem? (i := 4) rfl)) hSX (List.mem_of_getElem? (i := 7) rfl) hat52 xg52 hZ hP hD hS (hl.1.trans hml.symm) dX2_slip_30 dX2_slip_33 dX2_slip_34 dX2_slip_36 dX2_slip_39 hexc (Nat.le_of_ble_eq_true rfl) (Nat.le_of_ble_eq_true rfl) (Nat.le_of_ble_eq_true rfl) (Nat.le_of_ble_eq_true rfl) hlocks (by exact Or.inr (Or.inl ⟨rfl, hk9⟩)) (Nat.le_of_ble_eq_true rfl) (Nat.le_of_ble_eq_true rfl)
  · skip
    have c2' := c2; unfold inC at c2'
    have hk9 : kSlip r iv sv = 1 := mf_if_t (by assumption)
    exact mf_throw (ik := 38) (is := 89) (ic := 42) (cls := "java/lang/IndexOutOfBoundsException") hx hb hl9 hown (by decide +kernel) (hts (.classLink RX2 38 "java/lang/IndexOutOfBoundsException") (List.mem_of_getElem? (i := 1) rfl)) (hts (.initialized "java/lang/IndexOutOfBoundsException") (List.mem_of_getElem? (i := 2) rfl)) hSX (List.mem_of_getElem? (i := 5) rfl) hat42 xg42 hZ hP hD hS (hl.1.trans hml.symm) dX2_slip_11 dX2_slip_14 dX2_slip_15 dX2_slip_17 dX2_slip_20 hexc (Nat.le_of_ble_eq_true rfl) (Nat.le_of_ble_eq_true rfl) (Nat.le_of_ble_eq_true rfl) (Nat.le_of_ble_eq_true rfl) hlocks (by exact Or.inl ⟨rfl, hk9⟩) (Nat.le_of_ble_eq_true rfl) (Nat.le_of_ble_eq_true rfl)
set_option maxHeartbeats 4000000 in
set_option maxRecDepth 100000 in
theorem c_X2_dig (l : Launch) (hl9 : l.stackTraces = false) (G : mf_G) (ho hn ha hff : Nat) (ae : Nat) (x : mf_V) (adn : Nat → Nat) (r : mf_V) (ada : Nat → Nat) (ra : mf_V) (adf : Nat → Nat) (f : mf_V)  (iv : Int) (jv : Int) (hiv : i32 iv) (hjv : i32 jv) (okx : rOK xlo xhi x) (ok : rOK rlo rhi r) (okra : rOK rlo rhi ra) (okf : rOK flo fhi f) (hI : RInv r) (hbk : r 9 0 < 100000000) (sz : Nat) : vx_Met l yX2_dig wsX2_dig ({ frames := 6, cells := 1, slots := 6, locals := 92 }) (va_Pc [.ref ho, .int (iI (iv)), .int (iI (jv))] (WrPx G (OW G ho hn ha hff ae x ++ RW G hn adn r ++ RW G ha ada ra ++ FW G hff adf f) sz)) (va_Qi (fun q9 (u : mf_V × mf_V × mf_V × mf_V) => ∃ z : Int, q9 = iI z ∧ kDig r iv jv = 0 ∧ (rOK xlo xhi u.1 ∧ rOK rlo rhi u.2.1 ∧ rOK rlo rhi u.2.2.1 ∧ rOK flo fhi u.2.2.2) ∧ RInv u.2.1 ∧ Brk r iv jv u.2.1 ∧ u.2.2.2 = f ∧ z = u.2.1 7 0) (fun (u : mf_V × mf_V × mf_V × mf_V) t => WrQ G (va_A (OW G ho hn ha hff ae x ++ RW G hn adn r ++ RW G ha ada ra ++ FW G hff adf f) sz) (OW G ho hn ha hff ae (u.1) ++ RW G hn adn (u.2.1) ++ RW G ha ada (u.2.2.1) ++ FW G hff adf (u.2.2.2)) t) (va_A (OW G ho hn ha hff ae x ++ RW G hn adn r ++ RW G ha ada ra ++ FW G hff adf f) sz)) (vx_X (fun _ : Unit => True) (fun E _ t => ((E = xIO ∧ kDig r iv jv = 1) ∨ (E = xIS ∧ kDig r iv jv = 2)) ∧ WrQ G (va_A (OW G ho hn ha hff ae x ++ RW G hn adn r ++ RW G ha ada ra ++ FW G hff adf f) sz) (OW G ho hn ha hff ae x ++ RW G hn adn r ++ RW G ha ada ra ++ FW G hff adf f) t) (va_A (OW G ho hn ha hff ae x ++ RW G hn adn r ++ RW G ha ada ra ++ FW G hff adf f) sz)) 1 6 (va_A (OW G ho hn ha hff ae x ++ RW G hn adn r ++ RW G ha ada ra ++ FW G hff adf f) sz) := by
  refine vx_ofW (cc := cX2_dig) (maxL := 3) (ret := (some .int)) (by decide) rfl ?_
  intro p e s m args below meth c s₁ B hml hexc hv
  obtain ⟨rfl, hsz, hP, hK, hD0, hN, hSX, hCX, hZ⟩ := hv
  have hx := B.exec
  have hb := B.bytes
  have hr := B.returns
  have hts := atoms_spec (ws := wsX2_dig) B.pre
  have hown : s.vm.findClass RX2 = some m.cls := findClass_of_methodNamed B.named
  have hlocks := B.notSynchronized
  have hat42 := vx_hat (fun w h => hts w (List.mem_cons_of_mem _ (List.mem_append_left _ (List.mem_append_right _ h)))) xb42 (vx_c (va_Nw.use rfl hCX.1) vx_n)
  have hat118 := vx_hat (fun w h => hts w (List.mem_cons_of_mem _ (List.mem_append_right _ h))) xb118 (vx_c (va_Nw.use rfl hCX.2.2) vx_n)
  have hinX1 : ∀ w ∈ u_ws RX1 TX1 14, w ∈ wsX2_dig := fun w h => List.mem_cons_of_mem _ (List.mem_append_left _ (List.mem_append_left _ (List.mem_append_right _ h)))
  have hinX2 : ∀ w ∈ u_ws RX2 TX2 4, w ∈ wsX2_dig := fun w h => List.mem_cons_of_mem _ (List.mem_append_left _ (List.mem_append_left _ (List.mem_append_left _ (List.mem_append_right _ h))))
  subst hsz
  have hD := hD0.self (sz := s.heap.size)
  generalize hAe : va_A (OW G ho hn ha hff ae x ++ RW G hn adn r ++ RW G ha ada ra ++ FW G hff adf f) s.heap.size = A at hD hZ ⊢
  have hA : ∀ q : Nat, s.heap.size ≤ q → A q := fun q h => by rw [← hAe]; exact Or.inr h
  have hS : va_S A s.heap s.heap [] := va_S.rf
  have hl := lv_entry ([.ref ho, .int (iI (iv)), .int (iI (jv))]) (n := 3) (Nat.le_of_ble_eq_true rfl)
  rw [lg_entry_eq]
  generalize (lg_sl ([.ref ho, .int (iI (iv)), .int (iI (jv))]) ++ List.replicate (3 - (lg_sl ([.ref ho, .int (iI (iv)), .int (iI (jv))])).length) Slot.unset).toArray = ls at hl ⊢
  have hl : lv_has ls 3 [(0, .ref ho), (1, .int (iI (iv))), (2, .int (iI (jv)))] := hl
  have hiv1 := hiv.1
  have hiv2 := hiv.2
  have hjv1 := hjv.1
  have hjv2 := hjv.2
  have okLr : (0 : Int) ≤ r 7 0 ∧ r 7 0 ≤ 150 := ok 7 0
  have okLra : (0 : Int) ≤ ra 7 0 ∧ ra 7 0 ≤ 150 := okra 7 0
  refine lv_aload_n hx hb dX2_dig_0 rfl (lv_at hl 0 rfl) ?_
  refine va_get (D := G.1) (ci := 2) (v := .ref hn) (C := RX2) (T := TX2) (N := 4) hx hb hts hinX2 hown hK hP 0 rfl rfl 0 (by decide) (hts (.fieldLink RX2 16 "MeanderFarm" "now" "LMeanderFarm$River;") (List.mem_of_getElem? (i := 5) rfl)) (fun _ h9 => h9) rfl dX2_dig_1 ?_
  refine lv_iload_n hx hb dX2_dig_4 rfl (lv_at hl 1 rfl) ?_
  refine vp_callSi (va_Run.run (va_runVN (As := [.int (iI (iv))]) (rest := []) ⟨hx, hb, hml, hown, hts⟩ (c_X1_isInCourse l G hn adn r (iv) (i32_mk (by omega) (by omega)) (by assumption)) ⟨(va_cnB 1 hts gX2_dig_X1_isInCourse_n86 rfl rfl rfl (hN.m 22 rfl) (hts (.initialized RX1) (List.mem_of_getElem? (i := 7) rfl)) (by decide +kernel) ⟨Nat.le_of_ble_eq_true rfl, Nat.le_of_ble_eq_true rfl⟩), (hts (.instanceMethod yX1_isInCourse) (List.mem_of_getElem? (i := 6) rfl)), (hts (.selects RX1 yX1_isInCourse yX1_isInCourse) (List.mem_of_getElem? (i := 8) rfl))⟩ (rdV (wc := RW G hn adn r) hK hP hN [2, 3, 4, 5, 6, 7, 8, 9, 10, 11, 12, 13] rfl (ci := 1) rfl rfl) rfl rfl hl.1 rfl (lv_room (Nat.le_of_ble_eq_true rfl)) dX2_dig_5 ⟨(Nat.zero_le _), (Nat.zero_le _)⟩)) (fun q1 hq1 => ?_)
  subst hq1
  refine mf_bp_eq (tgt := 22) hx hb dX2_dig_8 (by decide) (fun c2 => ?_) (fun c2 => ?_)
  · skip
    have c2' := c2; unfold inC at c2'
    have hk9 : kDig r iv jv = 1 := mf_if_t (fun z => by first | (exact absurd z.1 (by assumption)) | (exact absurd z.2 (by assumption)))
    exact mf_throw (ik := 38) (is := 89) (ic := 42) (cls := "java/lang/IndexOutOfBoundsException") hx hb hl9 hown (by decide +kernel) (hts (.classLink RX2 38 "java/lang/IndexOutOfBoundsException") (List.mem_of_getElem? (i := 1) rfl)) (hts (.initialized "java/lang/IndexOutOfBoundsException") (List.mem_of_getElem? (i := 2) rfl)) hSX (List.mem_of_getElem? (i := 5) rfl) hat42 xg42 hZ hP hD hS (hl.1.trans hml.symm) dX2_dig_22 dX2_dig_25 dX2_dig_26 dX2_dig_28 dX2_dig_31 hexc (Nat.le_of_ble_eq_true rfl) (Nat.le_of_ble_eq_true rfl) (Nat.le_of_ble_eq_true rfl) (Nat.le_of_ble_eq_true rfl) hlocks (by exact Or.inl ⟨rfl, hk9⟩) (Nat.le_of_ble_eq_true rfl) (Nat.le_of_ble_eq_true rfl)
  · skip
    have c2' := c2; unfold inC at c2'
    refine lv_aload_n hx hb dX2_dig_11 rfl (lv_at hl 0 rfl) ?_
    refine va_get (D := G.1) (ci := 2) (v := .ref hn) (C := RX2) (T := TX2) (N := 4) hx hb hts hinX2 hown hK hP 0 rfl rfl 0 (by decide) (hts (.fieldLink RX2 16 "MeanderFarm" "now" "LMeanderFarm$River;") (List.mem_of_getElem? (i := 5) rfl)) (fun _ h9 => h9) rfl dX2_dig_12 ?_
    refine lv_iload_n hx hb dX2_dig_15 rfl (lv_at hl 2 rfl) ?_
    refine vp_callSi (va_Run.run (va_runVN (As := [.int (iI (jv))]) (rest := []) ⟨hx, hb, hml, hown, hts⟩ (c_X1_isInCourse l G hn adn r (jv) (i32_mk (by omega) (by omega)) (by assumption)) ⟨(va_cnB 1 hts gX2_dig_X1_isInCourse_n86 rfl rfl rfl (hN.m 22 rfl) (hts (.initialized RX1) (List.mem_of_getElem? (i := 7) rfl)) (by decide +kernel) ⟨Nat.le_of_ble_eq_true rfl, Nat.le_of_ble_eq_true rfl⟩), (hts (.instanceMethod yX1_isInCourse) (List.mem_of_getElem? (i := 6) rfl)), (hts (.selects RX1 yX1_isInCourse yX1_isInCourse) (List.mem_of_getElem? (i := 8) rfl))⟩ (rdV (wc := RW G hn adn r) hK hP hN [2, 3, 4, 5, 6, 7, 8, 9, 10, 11, 12, 13] rfl (ci := 1) rfl rfl) rfl rfl hl.1 rfl (lv_room (Nat.le_of_ble_eq_true rfl)) dX2_dig_16 ⟨(Nat.zero_le _), (Nat.zero_le _)⟩)) (fun q3 hq3 => ?_)
    subst hq3
    refine mf_bp_ne (tgt := 32) hx hb dX2_dig_19 (by decide) (fun c4 => ?_) (fun c4 => ?_)
    · skip
      have c4' := c4; unfold inC at c4'
      refine lv_aload_n hx hb dX2_dig_32 rfl (lv_at hl 0 rfl) ?_
      refine va_get (D := G.1) (ci := 2) (v := .ref hn) (C := RX2) (T := TX2) (N := 4) hx hb hts hinX2 hown hK hP 0 rfl rfl 0 (by decide) (hts (.fieldLink RX2 16 "MeanderFarm" "now" "LMeanderFarm$River;") (List.mem_of_getElem? (i := 5) rfl)) (fun _ h9 => h9) rfl dX2_dig_33 ?_
      refine lv_iload_n hx hb dX2_dig_36 rfl (lv_at hl 1 rfl) ?_
      refine lv_iload_n hx hb dX2_dig_37 rfl (lv_at hl 2 rfl) ?_
      refine vp_callSi (va_Run.run (va_runVN (As := [.int (iI (iv)), .int (iI (jv))]) (rest := []) ⟨hx, hb, hml, hown, hts⟩ (c_X1_isNeck l G hn adn r (iv) (jv) (i32_mk (by omega) (by omega)) (i32_mk (by omega) (by omega)) (by assumption)) ⟨(va_cnB 2 hts gX2_dig_X1_isNeck_n127 rfl rfl rfl (hN.m 2 rfl) (hts (.initialized RX1) (List.mem_of_getElem? (i := 7) rfl)) (by decide +kernel) ⟨Nat.le_of_ble_eq_true rfl, Nat.le_of_ble_eq_true rfl⟩), (hts (.instanceMethod yX1_isNeck) (List.mem_of_getElem? (i := 11) rfl)), (hts (.selects RX1 yX1_isNeck yX1_isNeck) (List.mem_of_getElem? (i := 12) rfl))⟩ (rdV (wc := RW G hn adn r) hK hP hN [2, 3, 4, 5, 6, 7, 8, 9, 10, 11, 12, 13] rfl (ci := 1) rfl rfl) rfl rfl hl.1 rfl (lv_room (Nat.le_of_ble_eq_true rfl)) dX2_dig_38 ⟨(Nat.zero_le _), (Nat.zero_le _)⟩)) (fun q5 hq5 => ?_)
      subst hq5
      refine mf_bp_ne (tgt := 54) hx hb dX2_dig_41 (by decide) (fun c6 => ?_) (fun c6 => ?_)
      · skip
        refine lv_aload_n hx hb dX2_dig_54 rfl (lv_at hl 0 rfl) ?_
        refine va_get (D := G.1) (ci := 2) (v := .ref hn) (C := RX2) (T := TX2) (N := 4) hx hb hts hinX2 hown hK hP 0 rfl rfl 0 (by decide) (hts (.fieldLink RX2 16 "MeanderFarm" "now" "LMeanderFarm$River;") (List.mem_of_getElem? (i := 5) rfl)) (fun _ h9 => h9) rfl dX2_dig_55 ?_
        refine lv_iload_n hx hb dX2_dig_58 rfl (lv_at hl 1 rfl) ?_
        refine lv_iload_n hx hb dX2_dig_59 rfl (lv_at hl 2 rfl) ?_
        have hFc := va_free (wc := RW G hn adn r) hD hS hA [2, 3, 4, 5, 6, 7, 8, 9, 10, 11, 12, 13] rfl
        refine va_callv (va_runVN (As := [.int (iI (iv)), .int (iI (jv))]) (rest := []) ⟨hx, hb, hml, hown, hts⟩ (c_X1_breakThrough l G hn adn r (iv) (jv) (i32_mk (by omega) (by omega)) (i32_mk (by omega) (by omega)) (by assumption) (by first | assumption | omega) (by assumption) (by first | assumption | omega) _) ⟨(va_cnB 2 hts gX2_dig_X1_breakThrough_n132 rfl rfl rfl (hN.m 3 rfl) (hts (.initialized RX1) (List.mem_of_getElem? (i := 7) rfl)) (by decide +kernel) ⟨Nat.le_of_ble_eq_true rfl, Nat.le_of_ble_eq_true rfl⟩), (hts (.instanceMethod yX1_breakThrough) (List.mem_of_getElem? (i := 22) rfl)), (hts (.selects RX1 yX1_breakThrough yX1_breakThrough) (List.mem_of_getElem? (i := 23) rfl))⟩ (wrV (wc := RW G hn adn r) hK hP hD hN [2, 3, 4, 5, 6, 7, 8, 9, 10, 11, 12, 13] (by decide) rfl rfl (ci := 1) rfl rfl) rfl rfl hl.1 rfl (lv_room (Nat.le_of_ble_eq_true rfl)) dX2_dig_60 ⟨(Nat.zero_le _), (Nat.zero_le _)⟩) hS (fun q _ h => hFc q h) hFc (fun u8 t H1 locs ht hvm hw hB hz1 hk1 hS => ?_)
        obtain ⟨r9, rfl⟩ : ∃ z, z = u8 := ⟨_, rfl⟩
        try dsimp only at hw hB
        obtain ⟨hP, hD⟩ := wrJ2 (ws := OW G ho hn ha hff ae x ++ RW G hn adn r ++ RW G ha ada ra ++ FW G hff adf f) (wc := RW G hn adn r) (wr := OW G ho hn ha hff ae x ++ RW G ha ada ra ++ FW G hff adf f) (w1 := RW G hn adn r9) hP hD [2, 3, 4, 5, 6, 7, 8, 9, 10, 11, 12, 13] [0, 1, 14, 15, 16, 17, 18, 19, 20, 21, 22, 23, 24, 25, 26, 27, 28, 29, 30] rfl rfl (by decide) (by decide) hk1 ht hFc hB
        have hP : va_P G.1 vwCl (OW G ho hn ha hff ae x ++ RW G hn adn r9 ++ RW G ha ada ra ++ FW G hff adf f) H1 := hP.sub [0, 1, 19, 20, 21, 22, 23, 24, 25, 26, 27, 28, 29, 30, 2, 3, 4, 5, 6, 7, 8, 9, 10, 11, 12, 13, 14, 15, 16, 17, 18] rfl
        have hD : va_D A (OW G ho hn ha hff ae x ++ RW G hn adn r9 ++ RW G ha ada ra ++ FW G hff adf f) := hD.sub [0, 1, 19, 20, 21, 22, 23, 24, 25, 26, 27, 28, 29, 30, 2, 3, 4, 5, 6, 7, 8, 9, 10, 11, 12, 13, 14, 15, 16, 17, 18] (by decide) rfl
        have hP : va_P G.1 vwCl (OW G ho hn ha hff ae x ++ RW G hn adn r9 ++ RW G ha ada ra ++ FW G hff adf f) H1 := hP
        have hD : va_D A (OW G ho hn ha hff ae x ++ RW G hn adn r9 ++ RW G ha ada ra ++ FW G hff adf f) := hD
        clear hB hk1 hFc ht hz1 hvm
        generalize H1 = H at hP hS ⊢
        have w10 := hw; clear hw
        have okr9 : rOK rlo rhi r9 := w10.1
        refine lv_aload_n hx hb dX2_dig_63 rfl (lv_at hl 0 rfl) ?_
        refine va_get (D := G.1) (ci := 2) (v := .ref hn) (C := RX2) (T := TX2) (N := 4) hx hb hts hinX2 hown hK hP 0 rfl rfl 0 (by decide) (hts (.fieldLink RX2 16 "MeanderFarm" "now" "LMeanderFarm$River;") (List.mem_of_getElem? (i := 5) rfl)) (fun _ h9 => h9) rfl dX2_dig_64 ?_
        refine va_getN (D := G.1) (ci := 1) (v := .int (iI (r9 7 0))) (C := RX1) (T := TX1) (N := 14) hx hb hts hinX1 hown hK hP 2 rfl rfl 7 (by decide) (va_Nw.use rfl (hN.f 2 rfl)) (fun _ h9 => h9) rfl dX2_dig_67 ?_
        have b11 : (0 : Int) ≤ r9 7 0 ∧ r9 7 0 ≤ 150 := okr9 7 (0)
        have hk9 : kDig r iv jv = 0 := (mf_if_f (fun z => z ⟨by assumption, by assumption⟩)).trans (mf_if_f (fun z => z (by assumption)))
        refine W.widen (k := 1) (n := 6) (Nat.le_of_ble_eq_true rfl) (Nat.le_of_ble_eq_true rfl) ?_
        refine vx_ret ?_
        exact W.iret hx hb hr (fun t ht hW => ⟨⟨_, (x, r9, ra, f), rfl, ⟨_, rfl, by (try dsimp only); exact ⟨hk9, ⟨okx, okr9, okra, okf⟩, w10.2.2, w10.2.1, rfl, rfl⟩⟩, by rw [ht]; exact hP, hD⟩, hS.F ht⟩) hS.2.2 dX2_dig_70
      · skip
        have hk9 : kDig r iv jv = 2 := (mf_if_f (fun z => z ⟨by assumption, by assumption⟩)).trans (mf_if_t (by assumption))
        exact mf_throw (ik := 114) (is := 130) (ic := 118) (cls := "java/lang/IllegalStateException") hx hb hl9 hown (by decide +kernel) (hts (.classLink RX2 114 "java/lang/IllegalStateException") (List.mem_of_getElem? (i := 3) rfl)) (hts (.initialized "java/lang/IllegalStateException") (List.mem_of_getElem? (i := 4) rfl)) hSX (List.mem_of_getElem? (i := 9) rfl) hat118 xg118 hZ hP hD hS (hl.1.trans hml.symm) dX2_dig_44 dX2_dig_47 dX2_dig_48 dX2_dig_50 dX2_dig_53 hexc (Nat.le_of_ble_eq_true rfl) (Nat.le_of_ble_eq_true rfl) (Nat.le_of_ble_eq_true rfl) (Nat.le_of_ble_eq_true rfl) hlocks (by exact Or.inr (⟨rfl, hk9⟩)) (Nat.le_of_ble_eq_true rfl) (Nat.le_of_ble_eq_true rfl)
    · skip
      have c4' := c4; unfold inC at c4'
      have hk9 : kDig r iv jv = 1 := mf_if_t (fun z => by first | (exact absurd z.1 (by assumption)) | (exact absurd z.2 (by assumption)))
      exact mf_throw (ik := 38) (is := 89) (ic := 42) (cls := "java/lang/IndexOutOfBoundsException") hx hb hl9 hown (by decide +kernel) (hts (.classLink RX2 38 "java/lang/IndexOutOfBoundsException") (List.mem_of_getElem? (i := 1) rfl)) (hts (.initialized "java/lang/IndexOutOfBoundsException") (List.mem_of_getElem? (i := 2) rfl)) hSX (List.mem_of_getElem? (i := 5) rfl) hat42 xg42 hZ hP hD hS (hl.1.trans hml.symm) dX2_dig_22 dX2_dig_25 dX2_dig_26 dX2_dig_28 dX2_dig_31 hexc (Nat.le_of_ble_eq_true rfl) (Nat.le_of_ble_eq_true rfl) (Nat.le_of_ble_eq_true rfl) (Nat.le_of_ble_eq_true rfl) hlocks (by exact Or.inl ⟨rfl, hk9⟩) (Nat.le_of_ble_eq_true rfl) (Nat.le_of_ble_eq_true rfl)
set_option maxHeartbeats 4000000 in
set_option maxRecDepth 100000 in
theorem c_X2_addFarm (l : Launch) (hl9 : l.stackTraces = false) (G : mf_G) (ho hn ha hff : Nat) (ae : Nat) (x : mf_V) (adn : Nat → Nat) (r : mf_V) (ada : Nat → Nat) (ra : mf_V) (adf : Nat → Nat) (f : mf_V)  (xv : Int) (yv : Int) (wv : Int) (dv : Int) (hxv : i32 xv) (hyv : i32 yv) (hwv : i32 wv) (hdv : i32 dv) (okx : rOK xlo xhi x) (ok : rOK rlo rhi r) (okra : rOK rlo rhi ra) (okf : rOK flo fhi f) (sz : Nat) : vx_Met l yX2_addFarm wsX2_addFarm ({ frames := 6, cells := 1, slots := 6, locals := 90 }) (va_Pc [.ref ho, .int (iI (xv)), .int (iI (yv)), .int (iI (wv)), .int (iI (dv))] (WrPx G (OW G ho hn ha hff ae x ++ RW G hn adn r ++ RW G ha ada ra ++ FW G hff adf f) sz)) (va_Qi (fun q9 (u : mf_V × mf_V × mf_V × mf_V) => ∃ z : Int, q9 = iI z ∧ kAdd f xv yv wv dv = 0 ∧ (rOK xlo xhi u.1 ∧ rOK rlo rhi u.2.1 ∧ rOK rlo rhi u.2.2.1 ∧ rOK flo fhi u.2.2.2) ∧ AddP f u.2.2.2 xv yv wv dv ∧ u.2.1 = r ∧ z = f 4 0) (fun (u : mf_V × mf_V × mf_V × mf_V) t => WrQ G (va_A (OW G ho hn ha hff ae x ++ RW G hn adn r ++ RW G ha ada ra ++ FW G hff adf f) sz) (OW G ho hn ha hff ae (u.1) ++ RW G hn adn (u.2.1) ++ RW G ha ada (u.2.2.1) ++ FW G hff adf (u.2.2.2)) t) (va_A (OW G ho hn ha hff ae x ++ RW G hn adn r ++ RW G ha ada ra ++ FW G hff adf f) sz)) (vx_X (fun _ : Unit => True) (fun E _ t => ((E = xIA ∧ kAdd f xv yv wv dv = 1) ∨ (E = xIS ∧ kAdd f xv yv wv dv = 2)) ∧ WrQ G (va_A (OW G ho hn ha hff ae x ++ RW G hn adn r ++ RW G ha ada ra ++ FW G hff adf f) sz) (OW G ho hn ha hff ae x ++ RW G hn adn r ++ RW G ha ada ra ++ FW G hff adf f) t) (va_A (OW G ho hn ha hff ae x ++ RW G hn adn r ++ RW G ha ada ra ++ FW G hff adf f) sz)) 1 6 (va_A (OW G ho hn ha hff ae x ++ RW G hn adn r ++ RW G ha ada ra ++ FW G hff adf f) sz) := by
  refine vx_ofW (cc := cX2_addFarm) (maxL := 5) (ret := (some .int)) (by decide) rfl ?_
  intro p e s m args below meth c s₁ B hml hexc hv
  obtain ⟨rfl, hsz, hP, hK, hD0, hN, hSX, hCX, hZ⟩ := hv
  have hx := B.exec
  have hb := B.bytes
  have hr := B.returns
  have hts := atoms_spec (ws := wsX2_addFarm) B.pre
  have hown : s.vm.findClass RX2 = some m.cls := findClass_of_methodNamed B.named
  have hlocks := B.notSynchronized
  have hat52 := vx_hat (fun w h => hts w (List.mem_cons_of_mem _ (List.mem_append_left _ (List.mem_append_right _ h)))) xb52 (vx_c (va_Nw.use rfl hCX.2.1) vx_n)
  have hat118 := vx_hat (fun w h => hts w (List.mem_cons_of_mem _ (List.mem_append_right _ h))) xb118 (vx_c (va_Nw.use rfl hCX.2.2) vx_n)
  have hinX0 : ∀ w ∈ u_ws RX0 TX0 5, w ∈ wsX2_addFarm := fun w h => List.mem_cons_of_mem _ (List.mem_append_left _ (List.mem_append_left _ (List.mem_append_right _ h)))
  have hinX2 : ∀ w ∈ u_ws RX2 TX2 4, w ∈ wsX2_addFarm := fun w h => List.mem_cons_of_mem _ (List.mem_append_left _ (List.mem_append_left _ (List.mem_append_left _ (List.mem_append_right _ h))))
  subst hsz
  have hD := hD0.self (sz := s.heap.size)
  generalize hAe : va_A (OW G ho hn ha hff ae x ++ RW G hn adn r ++ RW G ha ada ra ++ FW G hff adf f) s.heap.size = A at hD hZ ⊢
  have hA : ∀ q : Nat, s.heap.size ≤ q → A q := fun q h => by rw [← hAe]; exact Or.inr h
  have hS : va_S A s.heap s.heap [] := va_S.rf
  have hl := lv_entry ([.ref ho, .int (iI (xv)), .int (iI (yv)), .int (iI (wv)), .int (iI (dv))]) (n := 5) (Nat.le_of_ble_eq_true rfl)
  rw [lg_entry_eq]
  generalize (lg_sl ([.ref ho, .int (iI (xv)), .int (iI (yv)), .int (iI (wv)), .int (iI (dv))]) ++ List.replicate (5 - (lg_sl ([.ref ho, .int (iI (xv)), .int (iI (yv)), .int (iI (wv)), .int (iI (dv))])).length) Slot.unset).toArray = ls at hl ⊢
  have hl : lv_has ls 5 [(0, .ref ho), (1, .int (iI (xv))), (2, .int (iI (yv))), (3, .int (iI (wv))), (4, .int (iI (dv)))] := hl
  have hxv1 := hxv.1
  have hxv2 := hxv.2
  have hyv1 := hyv.1
  have hyv2 := hyv.2
  have hwv1 := hwv.1
  have hwv2 := hwv.2
  have hdv1 := hdv.1
  have hdv2 := hdv.2
  have okLr : (0 : Int) ≤ r 7 0 ∧ r 7 0 ≤ 150 := ok 7 0
  have okLra : (0 : Int) ≤ ra 7 0 ∧ ra 7 0 ≤ 150 := okra 7 0
  have b46 : (0 : Int) ≤ f 4 0 ∧ f 4 0 ≤ 6 := okf 4 0
  refine lv_iload_n hx hb dX2_addFarm_0 rfl (lv_at hl 1 rfl) ?_
  refine lv_iload_n hx hb dX2_addFarm_1 rfl (lv_at hl 3 rfl) ?_
  refine mf_bipush hx hb dX2_addFarm_2 rfl ?_
  refine vp_callSi (va_Run.run (va_runS (As := [.int (iI (xv)), .int (iI (wv)), .int (iI (24))]) (rest := []) ⟨hx, hb, hml, hown, hts⟩ (c_X2_isSpan l (xv) (wv) (24) (i32_mk (by omega) (by omega)) (i32_mk (by omega) (by omega)) (i32_mk (by decide) (by decide)) (by first | assumption | omega)) (va_cwS 3 hts gX2_addFarm_X2_isSpan rfl rfl rfl (by decide +kernel) ⟨Nat.le_of_ble_eq_true rfl, Nat.le_of_ble_eq_true rfl⟩) pureS rfl rfl hl.1 rfl (lv_room (Nat.le_of_ble_eq_true rfl)) dX2_addFarm_4 ⟨(Nat.zero_le _), (Nat.zero_le _)⟩)) (fun q1 hq1 => ?_)
  subst hq1
  refine mf_bp_eq (tgt := 21) hx hb dX2_addFarm_7 (by decide) (fun c2 => ?_) (fun c2 => ?_)
  · skip
    have hk9 : kAdd f xv yv wv dv = 1 := mf_if_t (fun z => by obtain ⟨z1, z2, z3⟩ := z; unfold cellP at z1; omega)
    exact mf_throw (ik := 48) (is := 157) (ic := 52) (cls := "java/lang/IllegalArgumentException") hx hb hl9 hown (by decide +kernel) (hts (.classLink RX2 48 "java/lang/IllegalArgumentException") (List.mem_of_getElem? (i := 1) rfl)) (hts (.initialized "java/lang/IllegalArgumentException") (List.mem_of_getElem? (i := 2) rfl)) hSX (List.mem_of_getElem? (i := 11) rfl) hat52 xg52 hZ hP hD hS (hl.1.trans hml.symm) dX2_addFarm_21 dX2_addFarm_24 dX2_addFarm_25 dX2_addFarm_27 dX2_addFarm_30 hexc (Nat.le_of_ble_eq_true rfl) (Nat.le_of_ble_eq_true rfl) (Nat.le_of_ble_eq_true rfl) (Nat.le_of_ble_eq_true rfl) hlocks (by exact Or.inl ⟨rfl, hk9⟩) (Nat.le_of_ble_eq_true rfl) (Nat.le_of_ble_eq_true rfl)
  · skip
    refine lv_iload_n hx hb dX2_addFarm_10 rfl (lv_at hl 2 rfl) ?_
    refine lv_iload hx hb dX2_addFarm_11 (lv_at hl 4 rfl) ?_
    refine mf_bipush hx hb dX2_addFarm_13 rfl ?_
    refine vp_callSi (va_Run.run (va_runS (As := [.int (iI (yv)), .int (iI (dv)), .int (iI (16))]) (rest := []) ⟨hx, hb, hml, hown, hts⟩ (c_X2_isSpan l (yv) (dv) (16) (i32_mk (by omega) (by omega)) (i32_mk (by omega) (by omega)) (i32_mk (by decide) (by decide)) (by first | assumption | omega)) (va_cwS 3 hts gX2_addFarm_X2_isSpan rfl rfl rfl (by decide +kernel) ⟨Nat.le_of_ble_eq_true rfl, Nat.le_of_ble_eq_true rfl⟩) pureS rfl rfl hl.1 rfl (lv_room (Nat.le_of_ble_eq_true rfl)) dX2_addFarm_15 ⟨(Nat.zero_le _), (Nat.zero_le _)⟩)) (fun q3 hq3 => ?_)
    subst hq3
    refine mf_bp_ne (tgt := 31) hx hb dX2_addFarm_18 (by decide) (fun c4 => ?_) (fun c4 => ?_)
    · skip
      refine lv_aload_n hx hb dX2_addFarm_31 rfl (lv_at hl 0 rfl) ?_
      refine va_get (D := G.1) (ci := 2) (v := .ref hff) (C := RX2) (T := TX2) (N := 4) hx hb hts hinX2 hown hK hP 0 rfl rfl 2 (by decide) (hts (.fieldLink RX2 26 "MeanderFarm" "farms" "LMeanderFarm$Farms;") (List.mem_of_getElem? (i := 5) rfl)) (fun _ h9 => h9) rfl dX2_addFarm_32 ?_
      refine va_getN (D := G.1) (ci := 0) (v := .int (iI (f 4 0))) (C := RX0) (T := TX0) (N := 5) hx hb hts hinX0 hown hK hP 26 rfl rfl 4 (by decide) (va_Nw.use rfl (hN.f 3 rfl)) (fun _ h9 => h9) rfl dX2_addFarm_35 ?_
      have b5 : (0 : Int) ≤ f 4 0 ∧ f 4 0 ≤ 6 := okf 4 (0)
      refine mf_bipush hx hb dX2_addFarm_38 rfl ?_
      refine mf_icmp_lt (tgt := 53) hx hb dX2_addFarm_40 (by decide) (i32_mk (by omega) (by omega)) (i32_mk (by decide) (by decide)) (fun c6 => ?_) (fun c6 => ?_)
      · skip
        refine lv_aload_n hx hb dX2_addFarm_53 rfl (lv_at hl 0 rfl) ?_
        refine va_get (D := G.1) (ci := 2) (v := .ref hff) (C := RX2) (T := TX2) (N := 4) hx hb hts hinX2 hown hK hP 0 rfl rfl 2 (by decide) (hts (.fieldLink RX2 26 "MeanderFarm" "farms" "LMeanderFarm$Farms;") (List.mem_of_getElem? (i := 5) rfl)) (fun _ h9 => h9) rfl dX2_addFarm_54 ?_
        refine lv_iload_n hx hb dX2_addFarm_57 rfl (lv_at hl 1 rfl) ?_
        refine lv_iload_n hx hb dX2_addFarm_58 rfl (lv_at hl 2 rfl) ?_
        refine lv_iload_n hx hb dX2_addFarm_59 rfl (lv_at hl 3 rfl) ?_
        refine lv_iload hx hb dX2_addFarm_60 (lv_at hl 4 rfl) ?_
        have hFc := va_free (wc := FW G hff adf f) hD hS hA [26, 27, 28, 29, 30] rfl
        refine va_calli (va_runVN (As := [.int (iI (xv)), .int (iI (yv)), .int (iI (wv)), .int (iI (dv))]) (rest := []) ⟨hx, hb, hml, hown, hts⟩ (c_X0_append l G hff adf f (xv) (yv) (wv) (dv) (i32_mk (by omega) (by omega)) (i32_mk (by omega) (by omega)) (i32_mk (by omega) (by omega)) (i32_mk (by omega) (by omega)) (by assumption) (by first | assumption | omega) (by first | assumption | omega) (by first | assumption | omega) (by first | assumption | omega) (by first | assumption | omega) _) ⟨(va_cnB 4 hts gX2_addFarm_X0_append_n164 rfl rfl rfl (hN.m 10 rfl) (hts (.initialized RX0) (List.mem_of_getElem? (i := 11) rfl)) (by decide +kernel) ⟨Nat.le_of_ble_eq_true rfl, Nat.le_of_ble_eq_true rfl⟩), (hts (.instanceMethod yX0_append) (List.mem_of_getElem? (i := 10) rfl)), (hts (.selects RX0 yX0_append yX0_append) (List.mem_of_getElem? (i := 12) rfl))⟩ (wrV (wc := FW G hff adf f) hK hP hD hN [26, 27, 28, 29, 30] (by decide) rfl rfl (ci := 0) rfl rfl) rfl rfl hl.1 rfl (lv_room (Nat.le_of_ble_eq_true rfl)) dX2_addFarm_62 ⟨(Nat.zero_le _), (Nat.zero_le _)⟩) hS (fun q _ h => hFc q h) hFc (fun q7 u8 t H1 locs ht hvm hw hB hz1 hk1 hS => ?_)
        obtain ⟨f9, rfl⟩ : ∃ z, z = u8 := ⟨_, rfl⟩
        try dsimp only at hw hB
        obtain ⟨hP, hD⟩ := wrJ2 (ws := OW G ho hn ha hff ae x ++ RW G hn adn r ++ RW G ha ada ra ++ FW G hff adf f) (wc := FW G hff adf f) (wr := OW G ho hn ha hff ae x ++ RW G hn adn r ++ RW G ha ada ra) (w1 := FW G hff adf f9) hP hD [26, 27, 28, 29, 30] [0, 1, 2, 3, 4, 5, 6, 7, 8, 9, 10, 11, 12, 13, 14, 15, 16, 17, 18, 19, 20, 21, 22, 23, 24, 25] rfl rfl (by decide) (by decide) hk1 ht hFc hB
        have hP : va_P G.1 vwCl (OW G ho hn ha hff ae x ++ RW G hn adn r ++ RW G ha ada ra ++ FW G hff adf f9) H1 := hP.sub [0, 1, 2, 3, 4, 5, 6, 7, 8, 9, 10, 11, 12, 13, 14, 15, 16, 17, 18, 19, 20, 21, 22, 23, 24, 25, 26, 27, 28, 29, 30] rfl
        have hD : va_D A (OW G ho hn ha hff ae x ++ RW G hn adn r ++ RW G ha ada ra ++ FW G hff adf f9) := hD.sub [0, 1, 2, 3, 4, 5, 6, 7, 8, 9, 10, 11, 12, 13, 14, 15, 16, 17, 18, 19, 20, 21, 22, 23, 24, 25, 26, 27, 28, 29, 30] (by decide) rfl
        have hP : va_P G.1 vwCl (OW G ho hn ha hff ae x ++ RW G hn adn r ++ RW G ha ada ra ++ FW G hff adf f9) H1 := hP
        have hD : va_D A (OW G ho hn ha hff ae x ++ RW G hn adn r ++ RW G ha ada ra ++ FW G hff adf f9) := hD
        clear hB hk1 hFc ht hz1 hvm
        generalize H1 = H at hP hS ⊢
        obtain ⟨z11, rfl, w10⟩ := hw
        have okf9 : rOK flo fhi f9 := w10.1
        have hk9 : kAdd f xv yv wv dv = 0 := (mf_if_f (fun z => z ⟨by unfold cellP; omega, by omega, by omega⟩)).trans (mf_if_f (by omega))
        refine W.widen (k := 1) (n := 6) (Nat.le_of_ble_eq_true rfl) (Nat.le_of_ble_eq_true rfl) ?_
        refine vx_ret ?_
        exact W.iret hx hb hr (fun t ht hW => ⟨⟨_, (x, r, ra, f9), rfl, ⟨_, rfl, by (try dsimp only); exact ⟨hk9, ⟨okx, ok, okra, okf9⟩, ⟨w10.2.1, w10.2.2.1, w10.2.2.2.1, w10.2.2.2.2.1, w10.2.2.2.2.2.1⟩, rfl, w10.2.2.2.2.2.2⟩⟩, by rw [ht]; exact hP, hD⟩, hS.F ht⟩) hS.2.2 dX2_addFarm_65
      · skip
        have hk9 : kAdd f xv yv wv dv = 2 := (mf_if_f (fun z => z ⟨by unfold cellP; omega, by omega, by omega⟩)).trans (mf_if_t (by omega))
        exact mf_throw (ik := 114) (is := 162) (ic := 118) (cls := "java/lang/IllegalStateException") hx hb hl9 hown (by decide +kernel) (hts (.classLink RX2 114 "java/lang/IllegalStateException") (List.mem_of_getElem? (i := 3) rfl)) (hts (.initialized "java/lang/IllegalStateException") (List.mem_of_getElem? (i := 4) rfl)) hSX (List.mem_of_getElem? (i := 12) rfl) hat118 xg118 hZ hP hD hS (hl.1.trans hml.symm) dX2_addFarm_43 dX2_addFarm_46 dX2_addFarm_47 dX2_addFarm_49 dX2_addFarm_52 hexc (Nat.le_of_ble_eq_true rfl) (Nat.le_of_ble_eq_true rfl) (Nat.le_of_ble_eq_true rfl) (Nat.le_of_ble_eq_true rfl) hlocks (by exact Or.inr (⟨rfl, hk9⟩)) (Nat.le_of_ble_eq_true rfl) (Nat.le_of_ble_eq_true rfl)
    · skip
      have hk9 : kAdd f xv yv wv dv = 1 := mf_if_t (fun z => by obtain ⟨z1, z2, z3⟩ := z; unfold cellP at z1; omega)
      exact mf_throw (ik := 48) (is := 157) (ic := 52) (cls := "java/lang/IllegalArgumentException") hx hb hl9 hown (by decide +kernel) (hts (.classLink RX2 48 "java/lang/IllegalArgumentException") (List.mem_of_getElem? (i := 1) rfl)) (hts (.initialized "java/lang/IllegalArgumentException") (List.mem_of_getElem? (i := 2) rfl)) hSX (List.mem_of_getElem? (i := 11) rfl) hat52 xg52 hZ hP hD hS (hl.1.trans hml.symm) dX2_addFarm_21 dX2_addFarm_24 dX2_addFarm_25 dX2_addFarm_27 dX2_addFarm_30 hexc (Nat.le_of_ble_eq_true rfl) (Nat.le_of_ble_eq_true rfl) (Nat.le_of_ble_eq_true rfl) (Nat.le_of_ble_eq_true rfl) hlocks (by exact Or.inl ⟨rfl, hk9⟩) (Nat.le_of_ble_eq_true rfl) (Nat.le_of_ble_eq_true rfl)
set_option maxHeartbeats 4000000 in
set_option maxRecDepth 100000 in
theorem c_X2_farm (l : Launch) (hl9 : l.stackTraces = false) (G : mf_G) (ho hn ha hff : Nat) (ae : Nat) (x : mf_V) (adn : Nat → Nat) (r : mf_V) (ada : Nat → Nat) (ra : mf_V) (adf : Nat → Nat) (f : mf_V)  (kv : Int) (wv : Int) (hkv : i32 kv) (hwv : i32 wv) (okx : rOK xlo xhi x) (ok : rOK rlo rhi r) (okra : rOK rlo rhi ra) (okf : rOK flo fhi f) (sz : Nat) : vx_Met l yX2_farm wsX2_farm ({ frames := 6, cells := 1, slots := 6, locals := 92 }) (va_Pc [.ref ho, .int (iI (kv)), .int (iI (wv))] (WrPx G (OW G ho hn ha hff ae x ++ RW G hn adn r ++ RW G ha ada ra ++ FW G hff adf f) sz)) (va_Qi (fun q9 (u : mf_V × mf_V × mf_V × mf_V) => ∃ z : Int, q9 = iI z ∧ kFarm f kv wv = 0 ∧ (rOK xlo xhi u.1 ∧ rOK rlo rhi u.2.1 ∧ rOK rlo rhi u.2.2.1 ∧ rOK flo fhi u.2.2.2) ∧ u.2.1 = r ∧ u.2.2.2 = f ∧ z = cof f r kv wv) (fun (u : mf_V × mf_V × mf_V × mf_V) t => WrQ G (va_A (OW G ho hn ha hff ae x ++ RW G hn adn r ++ RW G ha ada ra ++ FW G hff adf f) sz) (OW G ho hn ha hff ae (u.1) ++ RW G hn adn (u.2.1) ++ RW G ha ada (u.2.2.1) ++ FW G hff adf (u.2.2.2)) t) (va_A (OW G ho hn ha hff ae x ++ RW G hn adn r ++ RW G ha ada ra ++ FW G hff adf f) sz)) (vx_X (fun _ : Unit => True) (fun E _ t => (E = xIO ∧ kFarm f kv wv = 1) ∧ WrQ G (va_A (OW G ho hn ha hff ae x ++ RW G hn adn r ++ RW G ha ada ra ++ FW G hff adf f) sz) (OW G ho hn ha hff ae x ++ RW G hn adn r ++ RW G ha ada ra ++ FW G hff adf f) t) (va_A (OW G ho hn ha hff ae x ++ RW G hn adn r ++ RW G ha ada ra ++ FW G hff adf f) sz)) 1 6 (va_A (OW G ho hn ha hff ae x ++ RW G hn adn r ++ RW G ha ada ra ++ FW G hff adf f) sz) := by
  refine vx_ofW (cc := cX2_farm) (maxL := 3) (ret := (some .int)) (by decide) rfl ?_
  intro p e s m args below meth c s₁ B hml hexc hv
  obtain ⟨rfl, hsz, hP, hK, hD0, hN, hSX, hCX, hZ⟩ := hv
  have hx := B.exec
  have hb := B.bytes
  have hr := B.returns
  have hts := atoms_spec (ws := wsX2_farm) B.pre
  have hown : s.vm.findClass RX2 = some m.cls := findClass_of_methodNamed B.named
  have hlocks := B.notSynchronized
  have hat42 := vx_hat (fun w h => hts w (List.mem_cons_of_mem _ (List.mem_append_right _ h))) xb42 (vx_c (va_Nw.use rfl hCX.1) vx_n)
  have hinX2 : ∀ w ∈ u_ws RX2 TX2 4, w ∈ wsX2_farm := fun w h => List.mem_cons_of_mem _ (List.mem_append_left _ (List.mem_append_left _ (List.mem_append_left _ (List.mem_append_right _ h))))
  subst hsz
  have hD := hD0.self (sz := s.heap.size)
  generalize hAe : va_A (OW G ho hn ha hff ae x ++ RW G hn adn r ++ RW G ha ada ra ++ FW G hff adf f) s.heap.size = A at hD hZ ⊢
  have hA : ∀ q : Nat, s.heap.size ≤ q → A q := fun q h => by rw [← hAe]; exact Or.inr h
  have hS : va_S A s.heap s.heap [] := va_S.rf
  have hl := lv_entry ([.ref ho, .int (iI (kv)), .int (iI (wv))]) (n := 3) (Nat.le_of_ble_eq_true rfl)
  rw [lg_entry_eq]
  generalize (lg_sl ([.ref ho, .int (iI (kv)), .int (iI (wv))]) ++ List.replicate (3 - (lg_sl ([.ref ho, .int (iI (kv)), .int (iI (wv))])).length) Slot.unset).toArray = ls at hl ⊢
  have hl : lv_has ls 3 [(0, .ref ho), (1, .int (iI (kv))), (2, .int (iI (wv)))] := hl
  have hkv1 := hkv.1
  have hkv2 := hkv.2
  have hwv1 := hwv.1
  have hwv2 := hwv.2
  have okLr : (0 : Int) ≤ r 7 0 ∧ r 7 0 ≤ 150 := ok 7 0
  have okLra : (0 : Int) ≤ ra 7 0 ∧ ra 7 0 ≤ 150 := okra 7 0
  refine lv_aload_n hx hb dX2_farm_0 rfl (lv_at hl 0 rfl) ?_
  refine va_get (D := G.1) (ci := 2) (v := .ref hff) (C := RX2) (T := TX2) (N := 4) hx hb hts hinX2 hown hK hP 0 rfl rfl 2 (by decide) (hts (.fieldLink RX2 26 "MeanderFarm" "farms" "LMeanderFarm$Farms;") (List.mem_of_getElem? (i := 3) rfl)) (fun _ h9 => h9) rfl dX2_farm_1 ?_
  refine lv_iload_n hx hb dX2_farm_4 rfl (lv_at hl 1 rfl) ?_
  refine vp_callSi (va_Run.run (va_runVN (As := [.int (iI (kv))]) (rest := []) ⟨hx, hb, hml, hown, hts⟩ (c_X0_isFarm l G hff adf f (kv) (i32_mk (by omega) (by omega)) (by assumption)) ⟨(va_cnB 1 hts gX2_farm_X0_isFarm_n168 rfl rfl rfl (hN.m 11 rfl) (hts (.initialized RX0) (List.mem_of_getElem? (i := 6) rfl)) (by decide +kernel) ⟨Nat.le_of_ble_eq_true rfl, Nat.le_of_ble_eq_true rfl⟩), (hts (.instanceMethod yX0_isFarm) (List.mem_of_getElem? (i := 5) rfl)), (hts (.selects RX0 yX0_isFarm yX0_isFarm) (List.mem_of_getElem? (i := 7) rfl))⟩ (rdV (wc := FW G hff adf f) hK hP hN [26, 27, 28, 29, 30] rfl (ci := 0) rfl rfl) rfl rfl hl.1 rfl (lv_room (Nat.le_of_ble_eq_true rfl)) dX2_farm_5 ⟨(Nat.zero_le _), (Nat.zero_le _)⟩)) (fun q1 hq1 => ?_)
  subst hq1
  refine mf_bp_ne (tgt := 21) hx hb dX2_farm_8 (by decide) (fun c2 => ?_) (fun c2 => ?_)
  · skip
    have c2' := c2; unfold isF at c2'
    refine lv_iload_n hx hb dX2_farm_21 rfl (lv_at hl 2 rfl) ?_
    refine mf_if_lt (tgt := 30) hx hb dX2_farm_22 (by decide) (i32_mk (by omega) (by omega)) (fun c3 => ?_) (fun c3 => ?_)
    · skip
      have hk9 : kFarm f kv wv = 1 := mf_if_t (fun z => by have z2 := z.2; omega)
      exact mf_throw (ik := 38) (is := 106) (ic := 42) (cls := "java/lang/IndexOutOfBoundsException") hx hb hl9 hown (by decide +kernel) (hts (.classLink RX2 38 "java/lang/IndexOutOfBoundsException") (List.mem_of_getElem? (i := 1) rfl)) (hts (.initialized "java/lang/IndexOutOfBoundsException") (List.mem_of_getElem? (i := 2) rfl)) hSX (List.mem_of_getElem? (i := 6) rfl) hat42 xg42 hZ hP hD hS (hl.1.trans hml.symm) dX2_farm_30 dX2_farm_33 dX2_farm_34 dX2_farm_36 dX2_farm_39 hexc (Nat.le_of_ble_eq_true rfl) (Nat.le_of_ble_eq_true rfl) (Nat.le_of_ble_eq_true rfl) (Nat.le_of_ble_eq_true rfl) hlocks (by exact ⟨rfl, hk9⟩) (Nat.le_of_ble_eq_true rfl) (Nat.le_of_ble_eq_true rfl)
    · skip
      refine lv_iload_n hx hb dX2_farm_25 rfl (lv_at hl 2 rfl) ?_
      refine mf_iconst hx hb dX2_farm_26 ?_
      refine mf_icmp_lt (tgt := 40) hx hb dX2_farm_27 (by decide) (i32_mk (by omega) (by omega)) (i32_mk (by decide) (by decide)) (fun c4 => ?_) (fun c4 => ?_)
      · skip
        refine lv_aload_n hx hb dX2_farm_40 rfl (lv_at hl 0 rfl) ?_
        refine va_get (D := G.1) (ci := 2) (v := .ref hff) (C := RX2) (T := TX2) (N := 4) hx hb hts hinX2 hown hK hP 0 rfl rfl 2 (by decide) (hts (.fieldLink RX2 26 "MeanderFarm" "farms" "LMeanderFarm$Farms;") (List.mem_of_getElem? (i := 3) rfl)) (fun _ h9 => h9) rfl dX2_farm_41 ?_
        refine lv_iload_n hx hb dX2_farm_44 rfl (lv_at hl 1 rfl) ?_
        refine lv_iload_n hx hb dX2_farm_45 rfl (lv_at hl 2 rfl) ?_
        refine lv_aload_n hx hb dX2_farm_46 rfl (lv_at hl 0 rfl) ?_
        refine va_get (D := G.1) (ci := 2) (v := .ref hn) (C := RX2) (T := TX2) (N := 4) hx hb hts hinX2 hown hK hP 0 rfl rfl 0 (by decide) (hts (.fieldLink RX2 16 "MeanderFarm" "now" "LMeanderFarm$River;") (List.mem_of_getElem? (i := 4) rfl)) (fun _ h9 => h9) rfl dX2_farm_47 ?_
        refine vp_callSi (va_Run.run (va_runVN (As := [.int (iI (kv)), .int (iI (wv)), .ref hn]) (rest := []) ⟨hx, hb, hml, hown, hts⟩ (c_X0_cellsOf l G hff adf f hn adn r (kv) (wv) (i32_mk (by omega) (by omega)) (i32_mk (by omega) (by omega)) (by assumption) (by assumption)) ⟨(va_cnB 3 hts gX2_farm_X0_cellsOf_n173 rfl rfl rfl (hN.m 12 rfl) (hts (.initialized RX0) (List.mem_of_getElem? (i := 6) rfl)) (by decide +kernel) ⟨Nat.le_of_ble_eq_true rfl, Nat.le_of_ble_eq_true rfl⟩), (hts (.instanceMethod yX0_cellsOf) (List.mem_of_getElem? (i := 10) rfl)), (hts (.selects RX0 yX0_cellsOf yX0_cellsOf) (List.mem_of_getElem? (i := 11) rfl))⟩ (rdV (wc := FW G hff adf f ++ RW G hn adn r) hK hP hN [26, 27, 28, 29, 30, 2, 3, 4, 5, 6, 7, 8, 9, 10, 11, 12, 13] rfl (ci := 0) rfl rfl) rfl rfl hl.1 rfl (lv_room (Nat.le_of_ble_eq_true rfl)) dX2_farm_50 ⟨(Nat.zero_le _), (Nat.zero_le _)⟩)) (fun q5 hq5 => ?_)
        subst hq5
        refine mf_nm (fun y6 ey6 => ?_)
        have b7 : 0 ≤ y6 ∧ y6 ≤ 384 := by rw [ey6]; exact cofF_b (by assumption) kv wv
        have hk9 : kFarm f kv wv = 0 := mf_if_f (fun z => z ⟨by assumption, by omega⟩)
        refine W.widen (k := 1) (n := 6) (Nat.le_of_ble_eq_true rfl) (Nat.le_of_ble_eq_true rfl) ?_
        refine vx_ret ?_
        exact W.iret hx hb hr (fun t ht hW => ⟨⟨_, (x, r, ra, f), rfl, ⟨_, rfl, by (try dsimp only); exact ⟨hk9, ⟨okx, ok, okra, okf⟩, rfl, rfl, by first | (exact (mf_if_t (by assumption))) | (rw [ey6]; exact (mf_if_t (by assumption)))⟩⟩, by rw [ht]; exact hP, hD⟩, hS.F ht⟩) hS.2.2 dX2_farm_53
      · skip
        have hk9 : kFarm f kv wv = 1 := mf_if_t (fun z => by have z2 := z.2; omega)
        exact mf_throw (ik := 38) (is := 106) (ic := 42) (cls := "java/lang/IndexOutOfBoundsException") hx hb hl9 hown (by decide +kernel) (hts (.classLink RX2 38 "java/lang/IndexOutOfBoundsException") (List.mem_of_getElem? (i := 1) rfl)) (hts (.initialized "java/lang/IndexOutOfBoundsException") (List.mem_of_getElem? (i := 2) rfl)) hSX (List.mem_of_getElem? (i := 6) rfl) hat42 xg42 hZ hP hD hS (hl.1.trans hml.symm) dX2_farm_30 dX2_farm_33 dX2_farm_34 dX2_farm_36 dX2_farm_39 hexc (Nat.le_of_ble_eq_true rfl) (Nat.le_of_ble_eq_true rfl) (Nat.le_of_ble_eq_true rfl) (Nat.le_of_ble_eq_true rfl) hlocks (by exact ⟨rfl, hk9⟩) (Nat.le_of_ble_eq_true rfl) (Nat.le_of_ble_eq_true rfl)
  · skip
    have c2' := c2; unfold isF at c2'
    have hk9 : kFarm f kv wv = 1 := mf_if_t (fun z => absurd z.1 (by assumption))
    exact mf_throw (ik := 38) (is := 171) (ic := 42) (cls := "java/lang/IndexOutOfBoundsException") hx hb hl9 hown (by decide +kernel) (hts (.classLink RX2 38 "java/lang/IndexOutOfBoundsException") (List.mem_of_getElem? (i := 1) rfl)) (hts (.initialized "java/lang/IndexOutOfBoundsException") (List.mem_of_getElem? (i := 2) rfl)) hSX (List.mem_of_getElem? (i := 13) rfl) hat42 xg42 hZ hP hD hS (hl.1.trans hml.symm) dX2_farm_11 dX2_farm_14 dX2_farm_15 dX2_farm_17 dX2_farm_20 hexc (Nat.le_of_ble_eq_true rfl) (Nat.le_of_ble_eq_true rfl) (Nat.le_of_ble_eq_true rfl) (Nat.le_of_ble_eq_true rfl) hlocks (by exact ⟨rfl, hk9⟩) (Nat.le_of_ble_eq_true rfl) (Nat.le_of_ble_eq_true rfl)
set_option maxHeartbeats 4000000 in
set_option maxRecDepth 100000 in
theorem c_X2_count (l : Launch) (hl9 : l.stackTraces = false) (G : mf_G) (ho hn ha hff : Nat) (ae : Nat) (x : mf_V) (adn : Nat → Nat) (r : mf_V) (ada : Nat → Nat) (ra : mf_V) (adf : Nat → Nat) (f : mf_V)  (wv : Int) (hwv : i32 wv) (okx : rOK xlo xhi x) (ok : rOK rlo rhi r) (okra : rOK rlo rhi ra) (okf : rOK flo fhi f) (hlen : 2 ≤ r 7 0) (sz : Nat) : vx_Met l yX2_count wsX2_count ({ frames := 6, cells := 1, slots := 6, locals := 90 }) (va_Pc [.ref ho, .int (iI (wv))] (WrPx G (OW G ho hn ha hff ae x ++ RW G hn adn r ++ RW G ha ada ra ++ FW G hff adf f) sz)) (va_Qi (fun q9 (u : mf_V × mf_V × mf_V × mf_V) => ∃ z : Int, q9 = iI z ∧ kRng 0 7 wv = 0 ∧ (rOK xlo xhi u.1 ∧ rOK rlo rhi u.2.1 ∧ rOK rlo rhi u.2.2.1 ∧ rOK flo fhi u.2.2.2) ∧ u.2.1 = r ∧ u.2.2.2 = f ∧ z = totF r (f 4 0) wv) (fun (u : mf_V × mf_V × mf_V × mf_V) t => WrQ G (va_A (OW G ho hn ha hff ae x ++ RW G hn adn r ++ RW G ha ada ra ++ FW G hff adf f) sz) (OW G ho hn ha hff ae (u.1) ++ RW G hn adn (u.2.1) ++ RW G ha ada (u.2.2.1) ++ FW G hff adf (u.2.2.2)) t) (va_A (OW G ho hn ha hff ae x ++ RW G hn adn r ++ RW G ha ada ra ++ FW G hff adf f) sz)) (vx_X (fun _ : Unit => True) (fun E _ t => (E = xIO ∧ kRng 0 7 wv = 1) ∧ WrQ G (va_A (OW G ho hn ha hff ae x ++ RW G hn adn r ++ RW G ha ada ra ++ FW G hff adf f) sz) (OW G ho hn ha hff ae x ++ RW G hn adn r ++ RW G ha ada ra ++ FW G hff adf f) t) (va_A (OW G ho hn ha hff ae x ++ RW G hn adn r ++ RW G ha ada ra ++ FW G hff adf f) sz)) 1 6 (va_A (OW G ho hn ha hff ae x ++ RW G hn adn r ++ RW G ha ada ra ++ FW G hff adf f) sz) := by
  refine vx_ofW (cc := cX2_count) (maxL := 2) (ret := (some .int)) (by decide) rfl ?_
  intro p e s m args below meth c s₁ B hml hexc hv
  obtain ⟨rfl, hsz, hP, hK, hD0, hN, hSX, hCX, hZ⟩ := hv
  have hx := B.exec
  have hb := B.bytes
  have hr := B.returns
  have hts := atoms_spec (ws := wsX2_count) B.pre
  have hown : s.vm.findClass RX2 = some m.cls := findClass_of_methodNamed B.named
  have hlocks := B.notSynchronized
  have hat42 := vx_hat (fun w h => hts w (List.mem_cons_of_mem _ (List.mem_append_right _ h))) xb42 (vx_c (va_Nw.use rfl hCX.1) vx_n)
  subst hsz
  have hD := hD0.self (sz := s.heap.size)
  generalize hAe : va_A (OW G ho hn ha hff ae x ++ RW G hn adn r ++ RW G ha ada ra ++ FW G hff adf f) s.heap.size = A at hD hZ ⊢
  have hA : ∀ q : Nat, s.heap.size ≤ q → A q := fun q h => by rw [← hAe]; exact Or.inr h
  have hS : va_S A s.heap s.heap [] := va_S.rf
  have hl := lv_entry ([.ref ho, .int (iI (wv))]) (n := 2) (Nat.le_of_ble_eq_true rfl)
  rw [lg_entry_eq]
  generalize (lg_sl ([.ref ho, .int (iI (wv))]) ++ List.replicate (2 - (lg_sl ([.ref ho, .int (iI (wv))])).length) Slot.unset).toArray = ls at hl ⊢
  have hl : lv_has ls 2 [(0, .ref ho), (1, .int (iI (wv)))] := hl
  have hwv1 := hwv.1
  have hwv2 := hwv.2
  have okLr : (0 : Int) ≤ r 7 0 ∧ r 7 0 ≤ 150 := ok 7 0
  have okLra : (0 : Int) ≤ ra 7 0 ∧ ra 7 0 ≤ 150 := okra 7 0
  refine lv_iload_n hx hb dX2_count_0 rfl (lv_at hl 1 rfl) ?_
  refine mf_if_lt (tgt := 10) hx hb dX2_count_1 (by decide) (i32_mk (by omega) (by omega)) (fun c1 => ?_) (fun c1 => ?_)
  · skip
    have hk9 : kRng 0 7 wv = 1 := mf_if_t (by omega)
    exact mf_throw (ik := 38) (is := 182) (ic := 42) (cls := "java/lang/IndexOutOfBoundsException") hx hb hl9 hown (by decide +kernel) (hts (.classLink RX2 38 "java/lang/IndexOutOfBoundsException") (List.mem_of_getElem? (i := 1) rfl)) (hts (.initialized "java/lang/IndexOutOfBoundsException") (List.mem_of_getElem? (i := 2) rfl)) hSX (List.mem_of_getElem? (i := 15) rfl) hat42 xg42 hZ hP hD hS (hl.1.trans hml.symm) dX2_count_10 dX2_count_13 dX2_count_14 dX2_count_16 dX2_count_19 hexc (Nat.le_of_ble_eq_true rfl) (Nat.le_of_ble_eq_true rfl) (Nat.le_of_ble_eq_true rfl) (Nat.le_of_ble_eq_true rfl) hlocks (by exact ⟨rfl, hk9⟩) (Nat.le_of_ble_eq_true rfl) (Nat.le_of_ble_eq_true rfl)
  · skip
    refine lv_iload_n hx hb dX2_count_4 rfl (lv_at hl 1 rfl) ?_
    refine mf_bipush hx hb dX2_count_5 rfl ?_
    refine mf_icmp_lt (tgt := 20) hx hb dX2_count_7 (by decide) (i32_mk (by omega) (by omega)) (i32_mk (by decide) (by decide)) (fun c2 => ?_) (fun c2 => ?_)
    · skip
      refine lv_aload_n hx hb dX2_count_20 rfl (lv_at hl 0 rfl) ?_
      refine lv_iload_n hx hb dX2_count_21 rfl (lv_at hl 1 rfl) ?_
      refine vp_callSi (va_Run.run (va_runV (As := [.int (iI (wv))]) (rest := []) ⟨hx, hb, hml, hown, hts⟩ (c_X2_total l G ho hn ha hff ae x adn r ada ra adf f (wv) (i32_mk (by omega) (by omega)) (by assumption) (by assumption) (by assumption) (by assumption) (by first | assumption | omega)) (cwV 1 hts gX2_count_X2_total rfl rfl rfl (by decide +kernel) ⟨Nat.le_of_ble_eq_true rfl, Nat.le_of_ble_eq_true rfl⟩) (rdV (wc := OW G ho hn ha hff ae x ++ RW G hn adn r ++ RW G ha ada ra ++ FW G hff adf f) hK hP hN [0, 1, 2, 3, 4, 5, 6, 7, 8, 9, 10, 11, 12, 13, 14, 15, 16, 17, 18, 19, 20, 21, 22, 23, 24, 25, 26, 27, 28, 29, 30] rfl (ci := 2) rfl rfl) rfl rfl hl.1 rfl (lv_room (Nat.le_of_ble_eq_true rfl)) dX2_count_22 ⟨(Nat.zero_le _), (Nat.zero_le _)⟩)) (fun q3 hq3 => ?_)
      subst hq3
      have hk9 : kRng 0 7 wv = 0 := mf_if_f (fun z => z (by omega))
      refine W.widen (k := 1) (n := 6) (Nat.le_of_ble_eq_true rfl) (Nat.le_of_ble_eq_true rfl) ?_
      refine vx_ret ?_
      exact W.iret hx hb hr (fun t ht hW => ⟨⟨_, (x, r, ra, f), rfl, ⟨_, rfl, by (try dsimp only); exact ⟨hk9, ⟨okx, ok, okra, okf⟩, rfl, rfl, rfl⟩⟩, by rw [ht]; exact hP, hD⟩, hS.F ht⟩) hS.2.2 dX2_count_25
    · skip
      have hk9 : kRng 0 7 wv = 1 := mf_if_t (by omega)
      exact mf_throw (ik := 38) (is := 182) (ic := 42) (cls := "java/lang/IndexOutOfBoundsException") hx hb hl9 hown (by decide +kernel) (hts (.classLink RX2 38 "java/lang/IndexOutOfBoundsException") (List.mem_of_getElem? (i := 1) rfl)) (hts (.initialized "java/lang/IndexOutOfBoundsException") (List.mem_of_getElem? (i := 2) rfl)) hSX (List.mem_of_getElem? (i := 15) rfl) hat42 xg42 hZ hP hD hS (hl.1.trans hml.symm) dX2_count_10 dX2_count_13 dX2_count_14 dX2_count_16 dX2_count_19 hexc (Nat.le_of_ble_eq_true rfl) (Nat.le_of_ble_eq_true rfl) (Nat.le_of_ble_eq_true rfl) (Nat.le_of_ble_eq_true rfl) hlocks (by exact ⟨rfl, hk9⟩) (Nat.le_of_ble_eq_true rfl) (Nat.le_of_ble_eq_true rfl)
set_option maxHeartbeats 4000000 in
set_option maxRecDepth 100000 in
theorem c_X2_pass (l : Launch) (hl9 : l.stackTraces = false) (G : mf_G) (ho hn ha hff : Nat) (ae : Nat) (x : mf_V) (adn : Nat → Nat) (r : mf_V) (ada : Nat → Nat) (ra : mf_V) (adf : Nat → Nat) (f : mf_V)  (yv : Int) (Yv : Int) (hyv : i32 yv) (okx : rOK xlo xhi x) (ok : rOK rlo rhi r) (okra : rOK rlo rhi ra) (okf : rOK flo fhi f) (hI : RInv r) (hB : bdP r Yv) (hYv : 0 ≤ Yv ∧ Yv + 100 ≤ 60000) (sz : Nat) : vx_Met l yX2_pass wsX2_pass ({ frames := 6, cells := 1, slots := 6, locals := 143 }) (va_Pc [.ref ho, .int (iI (yv))] (WrPx G (OW G ho hn ha hff ae x ++ RW G hn adn r ++ RW G ha ada ra ++ FW G hff adf f) sz)) (va_Qi (fun q9 (u : mf_V × mf_V × mf_V × mf_V) => ∃ z : Int, q9 = iI z ∧ kRng 1 100 yv = 0 ∧ (rOK xlo xhi u.1 ∧ rOK rlo rhi u.2.1 ∧ rOK rlo rhi u.2.2.1 ∧ rOK flo fhi u.2.2.2) ∧ YearsR yv r u.2.1 z ∧ RInv u.2.1 ∧ bdP u.2.1 (Yv + yv) ∧ u.2.2.2 = f) (fun (u : mf_V × mf_V × mf_V × mf_V) t => WrQ G (va_A (OW G ho hn ha hff ae x ++ RW G hn adn r ++ RW G ha ada ra ++ FW G hff adf f) sz) (OW G ho hn ha hff ae (u.1) ++ RW G hn adn (u.2.1) ++ RW G ha ada (u.2.2.1) ++ FW G hff adf (u.2.2.2)) t) (va_A (OW G ho hn ha hff ae x ++ RW G hn adn r ++ RW G ha ada ra ++ FW G hff adf f) sz)) (vx_X (fun _ : Unit => True) (fun E _ t => (E = xIA ∧ kRng 1 100 yv = 1) ∧ WrQ G (va_A (OW G ho hn ha hff ae x ++ RW G hn adn r ++ RW G ha ada ra ++ FW G hff adf f) sz) (OW G ho hn ha hff ae x ++ RW G hn adn r ++ RW G ha ada ra ++ FW G hff adf f) t) (va_A (OW G ho hn ha hff ae x ++ RW G hn adn r ++ RW G ha ada ra ++ FW G hff adf f) sz)) 1 6 (va_A (OW G ho hn ha hff ae x ++ RW G hn adn r ++ RW G ha ada ra ++ FW G hff adf f) sz) := by
  refine vx_ofW (cc := cX2_pass) (maxL := 2) (ret := (some .int)) (by decide) rfl ?_
  intro p e s m args below meth c s₁ B hml hexc hv
  obtain ⟨rfl, hsz, hP, hK, hD0, hN, hSX, hCX, hZ⟩ := hv
  have hx := B.exec
  have hb := B.bytes
  have hr := B.returns
  have hts := atoms_spec (ws := wsX2_pass) B.pre
  have hown : s.vm.findClass RX2 = some m.cls := findClass_of_methodNamed B.named
  have hlocks := B.notSynchronized
  have hat52 := vx_hat (fun w h => hts w (List.mem_cons_of_mem _ (List.mem_append_right _ h))) xb52 (vx_c (va_Nw.use rfl hCX.2.1) vx_n)
  have hinX2 : ∀ w ∈ u_ws RX2 TX2 4, w ∈ wsX2_pass := fun w h => List.mem_cons_of_mem _ (List.mem_append_left _ (List.mem_append_left _ (List.mem_append_right _ h)))
  subst hsz
  have hD := hD0.self (sz := s.heap.size)
  generalize hAe : va_A (OW G ho hn ha hff ae x ++ RW G hn adn r ++ RW G ha ada ra ++ FW G hff adf f) s.heap.size = A at hD hZ ⊢
  have hA : ∀ q : Nat, s.heap.size ≤ q → A q := fun q h => by rw [← hAe]; exact Or.inr h
  have hS : va_S A s.heap s.heap [] := va_S.rf
  have hl := lv_entry ([.ref ho, .int (iI (yv))]) (n := 2) (Nat.le_of_ble_eq_true rfl)
  rw [lg_entry_eq]
  generalize (lg_sl ([.ref ho, .int (iI (yv))]) ++ List.replicate (2 - (lg_sl ([.ref ho, .int (iI (yv))])).length) Slot.unset).toArray = ls at hl ⊢
  have hl : lv_has ls 2 [(0, .ref ho), (1, .int (iI (yv)))] := hl
  have hyv1 := hyv.1
  have hyv2 := hyv.2
  have okLr : (0 : Int) ≤ r 7 0 ∧ r 7 0 ≤ 150 := ok 7 0
  have okLra : (0 : Int) ≤ ra 7 0 ∧ ra 7 0 ≤ 150 := okra 7 0
  refine lv_iload_n hx hb dX2_pass_0 rfl (lv_at hl 1 rfl) ?_
  refine mf_iconst hx hb dX2_pass_1 ?_
  refine mf_icmp_lt (tgt := 11) hx hb dX2_pass_2 (by decide) (i32_mk (by omega) (by omega)) (i32_mk (by decide) (by decide)) (fun c1 => ?_) (fun c1 => ?_)
  · skip
    have hk9 : kRng 1 100 yv = 1 := mf_if_t (by omega)
    exact mf_throw (ik := 48) (is := 177) (ic := 52) (cls := "java/lang/IllegalArgumentException") hx hb hl9 hown (by decide +kernel) (hts (.classLink RX2 48 "java/lang/IllegalArgumentException") (List.mem_of_getElem? (i := 1) rfl)) (hts (.initialized "java/lang/IllegalArgumentException") (List.mem_of_getElem? (i := 2) rfl)) hSX (List.mem_of_getElem? (i := 14) rfl) hat52 xg52 hZ hP hD hS (hl.1.trans hml.symm) dX2_pass_11 dX2_pass_14 dX2_pass_15 dX2_pass_17 dX2_pass_20 hexc (Nat.le_of_ble_eq_true rfl) (Nat.le_of_ble_eq_true rfl) (Nat.le_of_ble_eq_true rfl) (Nat.le_of_ble_eq_true rfl) hlocks (by exact ⟨rfl, hk9⟩) (Nat.le_of_ble_eq_true rfl) (Nat.le_of_ble_eq_true rfl)
  · skip
    refine lv_iload_n hx hb dX2_pass_5 rfl (lv_at hl 1 rfl) ?_
    refine mf_bipush hx hb dX2_pass_6 rfl ?_
    refine mf_icmp_le (tgt := 21) hx hb dX2_pass_8 (by decide) (i32_mk (by omega) (by omega)) (i32_mk (by decide) (by decide)) (fun c2 => ?_) (fun c2 => ?_)
    · skip
      refine lv_aload_n hx hb dX2_pass_21 rfl (lv_at hl 0 rfl) ?_
      refine va_get (D := G.1) (ci := 2) (v := .ref hn) (C := RX2) (T := TX2) (N := 4) hx hb hts hinX2 hown hK hP 0 rfl rfl 0 (by decide) (hts (.fieldLink RX2 16 "MeanderFarm" "now" "LMeanderFarm$River;") (List.mem_of_getElem? (i := 3) rfl)) (fun _ h9 => h9) rfl dX2_pass_22 ?_
      refine lv_iload_n hx hb dX2_pass_25 rfl (lv_at hl 1 rfl) ?_
      have hFc := va_free (wc := RW G hn adn r) hD hS hA [2, 3, 4, 5, 6, 7, 8, 9, 10, 11, 12, 13] rfl
      refine va_calli (va_runVN (As := [.int (iI (yv))]) (rest := []) ⟨hx, hb, hml, hown, hts⟩ (c_X1_letPass l G hn adn r (yv) (Yv) (i32_mk (by omega) (by omega)) (by assumption) (by first | assumption | omega) (by first | assumption | omega) (by omega) (by omega) _) ⟨(va_cnB 1 hts gX2_pass_X1_letPass_n179 rfl rfl rfl (hN.m 13 rfl) (hts (.initialized RX1) (List.mem_of_getElem? (i := 5) rfl)) (by decide +kernel) ⟨Nat.le_of_ble_eq_true rfl, Nat.le_of_ble_eq_true rfl⟩), (hts (.instanceMethod yX1_letPass) (List.mem_of_getElem? (i := 4) rfl)), (hts (.selects RX1 yX1_letPass yX1_letPass) (List.mem_of_getElem? (i := 6) rfl))⟩ (wrV (wc := RW G hn adn r) hK hP hD hN [2, 3, 4, 5, 6, 7, 8, 9, 10, 11, 12, 13] (by decide) rfl rfl (ci := 1) rfl rfl) rfl rfl hl.1 rfl (lv_room (Nat.le_of_ble_eq_true rfl)) dX2_pass_26 ⟨(Nat.zero_le _), (Nat.zero_le _)⟩) hS (fun q _ h => hFc q h) hFc (fun q3 u4 t H1 locs ht hvm hw hB hz1 hk1 hS => ?_)
      obtain ⟨r5, rfl⟩ : ∃ z, z = u4 := ⟨_, rfl⟩
      try dsimp only at hw hB
      obtain ⟨hP, hD⟩ := wrJ2 (ws := OW G ho hn ha hff ae x ++ RW G hn adn r ++ RW G ha ada ra ++ FW G hff adf f) (wc := RW G hn adn r) (wr := OW G ho hn ha hff ae x ++ RW G ha ada ra ++ FW G hff adf f) (w1 := RW G hn adn r5) hP hD [2, 3, 4, 5, 6, 7, 8, 9, 10, 11, 12, 13] [0, 1, 14, 15, 16, 17, 18, 19, 20, 21, 22, 23, 24, 25, 26, 27, 28, 29, 30] rfl rfl (by decide) (by decide) hk1 ht hFc hB
      have hP : va_P G.1 vwCl (OW G ho hn ha hff ae x ++ RW G hn adn r5 ++ RW G ha ada ra ++ FW G hff adf f) H1 := hP.sub [0, 1, 19, 20, 21, 22, 23, 24, 25, 26, 27, 28, 29, 30, 2, 3, 4, 5, 6, 7, 8, 9, 10, 11, 12, 13, 14, 15, 16, 17, 18] rfl
      have hD : va_D A (OW G ho hn ha hff ae x ++ RW G hn adn r5 ++ RW G ha ada ra ++ FW G hff adf f) := hD.sub [0, 1, 19, 20, 21, 22, 23, 24, 25, 26, 27, 28, 29, 30, 2, 3, 4, 5, 6, 7, 8, 9, 10, 11, 12, 13, 14, 15, 16, 17, 18] (by decide) rfl
      have hP : va_P G.1 vwCl (OW G ho hn ha hff ae x ++ RW G hn adn r5 ++ RW G ha ada ra ++ FW G hff adf f) H1 := hP
      have hD : va_D A (OW G ho hn ha hff ae x ++ RW G hn adn r5 ++ RW G ha ada ra ++ FW G hff adf f) := hD
      clear hB hk1 hFc ht hz1 hvm
      generalize H1 = H at hP hS ⊢
      obtain ⟨z7, rfl, w6⟩ := hw
      have okr5 : rOK rlo rhi r5 := w6.1
      have hk9 : kRng 1 100 yv = 0 := mf_if_f (fun z => z (by omega))
      refine W.widen (k := 1) (n := 6) (Nat.le_of_ble_eq_true rfl) (Nat.le_of_ble_eq_true rfl) ?_
      refine vx_ret ?_
      exact W.iret hx hb hr (fun t ht hW => ⟨⟨_, (x, r5, ra, f), rfl, ⟨_, rfl, by (try dsimp only); exact ⟨hk9, ⟨okx, okr5, okra, okf⟩, w6.2.1, w6.2.2.1, w6.2.2.2.1, rfl⟩⟩, by rw [ht]; exact hP, hD⟩, hS.F ht⟩) hS.2.2 dX2_pass_29
    · skip
      have hk9 : kRng 1 100 yv = 1 := mf_if_t (by omega)
      exact mf_throw (ik := 48) (is := 177) (ic := 52) (cls := "java/lang/IllegalArgumentException") hx hb hl9 hown (by decide +kernel) (hts (.classLink RX2 48 "java/lang/IllegalArgumentException") (List.mem_of_getElem? (i := 1) rfl)) (hts (.initialized "java/lang/IllegalArgumentException") (List.mem_of_getElem? (i := 2) rfl)) hSX (List.mem_of_getElem? (i := 14) rfl) hat52 xg52 hZ hP hD hS (hl.1.trans hml.symm) dX2_pass_11 dX2_pass_14 dX2_pass_15 dX2_pass_17 dX2_pass_20 hexc (Nat.le_of_ble_eq_true rfl) (Nat.le_of_ble_eq_true rfl) (Nat.le_of_ble_eq_true rfl) (Nat.le_of_ble_eq_true rfl) hlocks (by exact ⟨rfl, hk9⟩) (Nat.le_of_ble_eq_true rfl) (Nat.le_of_ble_eq_true rfl)
set_option maxHeartbeats 4000000 in
set_option maxRecDepth 100000 in
theorem c_X2_winding (l : Launch) (G : mf_G) (ho hn ha hff : Nat) (ae : Nat) (x : mf_V) (adn : Nat → Nat) (r : mf_V) (ada : Nat → Nat) (ra : mf_V) (adf : Nat → Nat) (f : mf_V) (okx : rOK xlo xhi x) (ok : rOK rlo rhi r) (okra : rOK rlo rhi ra) (okf : rOK flo fhi f) : Met l yX2_winding wsX2_winding ({ frames := 0, cells := 0, slots := 0, locals := 0 }) (va_Pc [.ref ho] (RdP G (OW G ho hn ha hff ae x ++ RW G hn adn r ++ RW G ha ada ra ++ FW G hff adf f))) (vp_Sd (fun q9 => q9 = FP.ddiv (FP.i2d (iI (r 7 0))) 4627448617123184640)) 0 0 (fun _ => False) := by
  refine Met.ofW (cc := cX2_winding) (maxL := 1) (ret := (some .double)) (by decide) rfl ?_
  intro p e s m args below meth c s₁ B hml hv
  obtain ⟨rfl, hP, hK, hN⟩ := hv
  have hx := B.exec
  have hb := B.bytes
  have hr := B.returns
  have hts := atoms_spec (ws := wsX2_winding) B.pre
  have hown : s.vm.findClass RX2 = some m.cls := findClass_of_methodNamed B.named
  have hlocks := B.notSynchronized
  have hinX1 : ∀ w ∈ u_ws RX1 TX1 14, w ∈ wsX2_winding := fun w h => List.mem_cons_of_mem _ (List.mem_append_right _ h)
  have hinX2 : ∀ w ∈ u_ws RX2 TX2 4, w ∈ wsX2_winding := fun w h => List.mem_cons_of_mem _ (List.mem_append_left _ (List.mem_append_right _ h))
  have hl := lv_entry ([.ref ho]) (n := 1) (Nat.le_of_ble_eq_true rfl)
  rw [lg_entry_eq]
  generalize (lg_sl ([.ref ho]) ++ List.replicate (1 - (lg_sl ([.ref ho])).length) Slot.unset).toArray = ls at hl ⊢
  have hl : lv_has ls 1 [(0, .ref ho)] := hl
  have okLr : (0 : Int) ≤ r 7 0 ∧ r 7 0 ≤ 150 := ok 7 0
  have okLra : (0 : Int) ≤ ra 7 0 ∧ ra 7 0 ≤ 150 := okra 7 0
  have b7 : (0 : Int) ≤ r 7 0 ∧ r 7 0 ≤ 150 := ok 7 0
  refine lv_aload_n hx hb dX2_winding_0 rfl (lv_at hl 0 rfl) ?_
  refine va_get (D := G.1) (ci := 2) (v := .ref hn) (C := RX2) (T := TX2) (N := 4) hx hb hts hinX2 hown hK hP 0 rfl rfl 0 (by decide) (hts (.fieldLink RX2 16 "MeanderFarm" "now" "LMeanderFarm$River;") (List.mem_of_getElem? (i := 1) rfl)) (fun _ h9 => h9) rfl dX2_winding_1 ?_
  refine va_getN (D := G.1) (ci := 1) (v := .int (iI (r 7 0))) (C := RX1) (T := TX1) (N := 14) hx hb hts hinX1 hown hK hP 2 rfl rfl 7 (by decide) (va_Nw.use rfl (hN.f 2 rfl)) (fun _ h9 => h9) rfl dX2_winding_4 ?_
  have b1 : (0 : Int) ≤ r 7 0 ∧ r 7 0 ≤ 150 := ok 7 (0)
  refine lv_i2d hx hb dX2_winding_7 ?_
  refine lv_ldc2d (v := 4627448617123184640) hx hb hown (hts (.constantDouble RX2 207 (4627448617123184640)) (List.mem_of_getElem? (i := 2) rfl)) dX2_winding_8 ?_
  refine lv_ddiv hx hb dX2_winding_11 (by exact mf_nan (by omega) (by omega)) ?_
  exact W.dret hx hb hr (fun t ht hW => ⟨_, rfl, rfl, ht⟩) t_nil dX2_winding_12
set_option maxHeartbeats 4000000 in
set_option maxRecDepth 100000 in
theorem c_X2_digest (l : Launch) (G : mf_G) (ho hn ha hff : Nat) (ae : Nat) (x : mf_V) (adn : Nat → Nat) (r : mf_V) (ada : Nat → Nat) (ra : mf_V) (adf : Nat → Nat) (f : mf_V) (okx : rOK xlo xhi x) (ok : rOK rlo rhi r) (okra : rOK rlo rhi ra) (okf : rOK flo fhi f) (hlen : 2 ≤ r 7 0) : Met l yX2_digest wsX2_digest ({ frames := 4, cells := 0, slots := 0, locals := 92 }) (va_Pc [.ref ho] (RdP G (OW G ho hn ha hff ae x ++ RW G hn adn r ++ RW G ha ada ra ++ FW G hff adf f))) (vp_Sl (fun q9 => q9 = lI (digT r f))) 0 0 (fun _ => False) := by
  refine Met.ofW (cc := cX2_digest) (maxL := 5) (ret := (some .long)) (by decide) rfl ?_
  intro p e s m args below meth c s₁ B hml hv
  obtain ⟨rfl, hP, hK, hN⟩ := hv
  have hx := B.exec
  have hb := B.bytes
  have hr := B.returns
  have hts := atoms_spec (ws := wsX2_digest) B.pre
  have hown : s.vm.findClass RX2 = some m.cls := findClass_of_methodNamed B.named
  have hlocks := B.notSynchronized
  have hinX0 : ∀ w ∈ u_ws RX0 TX0 5, w ∈ wsX2_digest := fun w h => List.mem_cons_of_mem _ (List.mem_append_left _ (List.mem_append_right _ h))
  have hinX2 : ∀ w ∈ u_ws RX2 TX2 4, w ∈ wsX2_digest := fun w h => List.mem_cons_of_mem _ (List.mem_append_left _ (List.mem_append_left _ (List.mem_append_right _ h)))
  have hl := lv_entry ([.ref ho]) (n := 5) (Nat.le_of_ble_eq_true rfl)
  rw [lg_entry_eq]
  generalize (lg_sl ([.ref ho]) ++ List.replicate (5 - (lg_sl ([.ref ho])).length) Slot.unset).toArray = ls at hl ⊢
  have hl : lv_has ls 5 [(0, .ref ho)] := hl
  have okLr : (0 : Int) ≤ r 7 0 ∧ r 7 0 ≤ 150 := ok 7 0
  have okLra : (0 : Int) ≤ ra 7 0 ∧ ra 7 0 ≤ 150 := okra 7 0
  have b46 : (0 : Int) ≤ f 4 0 ∧ f 4 0 ≤ 6 := okf 4 0
  refine mf_ldc2 hx hb 599 hown (hts (.constantLong RX2 209 (599)) (List.mem_of_getElem? (i := 1) rfl)) rfl dX2_digest_0 ?_
  refine lv_lstore_n (lv' := [(1, .long (lI (599))), (0, .ref ho)]) hx hb dX2_digest_3 rfl hl (by decide) rfl (fun ls hl => ?_)
  refine mf_iconst hx hb dX2_digest_4 ?_
  refine lv_istore_n (lv' := [(3, .int (iI (0))), (1, .long (lI (599))), (0, .ref ho)]) hx hb dX2_digest_5 rfl hl (by decide) rfl (fun ls hl => ?_)
  have lp6 : ∀ (n : Nat) (dv : Int) (kv : Int), (8 - kv).toNat < n → (0 ≤ kv ∧ kv ≤ 8) → (dv = ifold (fun k x => x * 31 + wrI (totF r (f 4 0) k)) 599 kv) → ∀ (ls : Array Slot), lv_has ls 5 [(0, .ref ho), (1, .long (lI (dv))), (3, .int (iI (kv)))] → W p l e (headSpec wsX2_digest ({ frames := 4, cells := 0, slots := 0, locals := 92 })).room s m ([.ref ho] : List Value).toArray below meth c s.heap [] 0 0 (MQ below (vp_Sl (fun q9 => q9 = lI (digT r f))) ([.ref ho] : List Value).toArray s 0 0 (fun _ => False)) (F0 m 6 ls []) := by
    intro n
    induction n with
    | zero => intro dv kv hn; exact absurd hn (Nat.not_lt_zero _)
    | succ n ih6 =>
      intro dv kv hn hk hs ls hl
      refine lv_iload_n hx hb dX2_digest_6 rfl (lv_at hl 2 rfl) ?_
      refine mf_bipush hx hb dX2_digest_7 rfl ?_
      refine mf_icmp_ge (tgt := 31) hx hb dX2_digest_9 (by decide) (i32_mk (by omega) (by omega)) (i32_mk (by decide) (by decide)) (fun c1 => ?_) (fun c1 => ?_)
      · skip
        refine lv_aload_n hx hb dX2_digest_31 rfl (lv_at hl 0 rfl) ?_
        refine va_get (D := G.1) (ci := 2) (v := .ref hn) (C := RX2) (T := TX2) (N := 4) hx hb hts hinX2 hown hK hP 0 rfl rfl 0 (by decide) (hts (.fieldLink RX2 16 "MeanderFarm" "now" "LMeanderFarm$River;") (List.mem_of_getElem? (i := 3) rfl)) (fun _ h9 => h9) rfl dX2_digest_32 ?_
        refine lv_lload_n hx hb dX2_digest_35 rfl (lv_at hl 1 rfl) ?_
        refine vp_callSl (va_Run.run (va_runVN (As := [.long (lI (dv))]) (rest := []) ⟨hx, hb, hml, hown, hts⟩ (c_X1_digestFrom l G hn adn r (dv) (by assumption)) ⟨(va_cnB 1 hts gX2_digest_X1_digestFrom_n213 rfl rfl rfl (hN.m 14 rfl) (hts (.initialized RX1) (List.mem_of_getElem? (i := 11) rfl)) (by decide +kernel) ⟨Nat.le_of_ble_eq_true rfl, Nat.le_of_ble_eq_true rfl⟩), (hts (.instanceMethod yX1_digestFrom) (List.mem_of_getElem? (i := 37) rfl)), (hts (.selects RX1 yX1_digestFrom yX1_digestFrom) (List.mem_of_getElem? (i := 38) rfl))⟩ (rdV (wc := RW G hn adn r) hK hP hN [2, 3, 4, 5, 6, 7, 8, 9, 10, 11, 12, 13] rfl (ci := 1) rfl rfl) rfl rfl hl.1 rfl (lv_room (Nat.le_of_ble_eq_true rfl)) dX2_digest_36 ⟨(Nat.zero_le _), (Nat.zero_le _)⟩)) (fun q2 hq2 => ?_)
        subst hq2
        refine lv_lstore_n (lv' := [(1, .long (lI (digF r dv))), (0, .ref ho), (3, .int (iI (kv)))]) hx hb dX2_digest_39 rfl hl (by decide) rfl (fun ls hl => ?_)
        refine mf_iconst hx hb dX2_digest_40 ?_
        refine lv_istore_n (lv' := [(3, .int (iI (0))), (1, .long (lI (digF r dv))), (0, .ref ho)]) hx hb dX2_digest_41 rfl hl (by decide) rfl (fun ls hl => ?_)
        have lp42 : ∀ (n : Nat) (d5 : Int) (k5 : Int), (f 4 0 - k5).toNat < n → (0 ≤ k5 ∧ k5 ≤ f 4 0) → (d5 = ifold (fun k x => ifold (fun w y => y * 31 + cof f r k w) x 5) (digF r (ifold (fun k x => x * 31 + wrI (totF r (f 4 0) k)) 599 8)) k5) → ∀ (ls : Array Slot), lv_has ls 5 [(0, .ref ho), (1, .long (lI (d5))), (3, .int (iI (k5)))] → W p l e (headSpec wsX2_digest ({ frames := 4, cells := 0, slots := 0, locals := 92 })).room s m ([.ref ho] : List Value).toArray below meth c s.heap [] 0 0 (MQ below (vp_Sl (fun q9 => q9 = lI (digT r f))) ([.ref ho] : List Value).toArray s 0 0 (fun _ => False)) (F0 m 42 ls []) := by
          intro n
          induction n with
          | zero => intro d5 k5 hn; exact absurd hn (Nat.not_lt_zero _)
          | succ n ih42 =>
            intro d5 k5 hn hk5 hs5 ls hl
            refine lv_iload_n hx hb dX2_digest_42 rfl (lv_at hl 2 rfl) ?_
            refine lv_aload_n hx hb dX2_digest_43 rfl (lv_at hl 0 rfl) ?_
            refine va_get (D := G.1) (ci := 2) (v := .ref hff) (C := RX2) (T := TX2) (N := 4) hx hb hts hinX2 hown hK hP 0 rfl rfl 2 (by decide) (hts (.fieldLink RX2 26 "MeanderFarm" "farms" "LMeanderFarm$Farms;") (List.mem_of_getElem? (i := 4) rfl)) (fun _ h9 => h9) rfl dX2_digest_44 ?_
            refine va_getN (D := G.1) (ci := 0) (v := .int (iI (f 4 0))) (C := RX0) (T := TX0) (N := 5) hx hb hts hinX0 hown hK hP 26 rfl rfl 4 (by decide) (va_Nw.use rfl (hN.f 3 rfl)) (fun _ h9 => h9) rfl dX2_digest_47 ?_
            have b3 : (0 : Int) ≤ f 4 0 ∧ f 4 0 ≤ 6 := okf 4 (0)
            refine mf_icmp_ge (tgt := 96) hx hb dX2_digest_50 (by decide) (i32_mk (by omega) (by omega)) (i32_mk (by omega) (by omega)) (fun c4 => ?_) (fun c4 => ?_)
            · skip
              refine lv_lload_n hx hb dX2_digest_96 rfl (lv_at hl 1 rfl) ?_
              exact W.lret hx hb hr (fun t ht hW => ⟨_, rfl, congrArg lI (by rw [hs5, show k5 = f 4 0 by omega]; rfl), ht⟩) t_nil dX2_digest_97
            · skip
              refine mf_iconst hx hb dX2_digest_53 ?_
              refine lv_istore (lv' := [(4, .int (iI (0))), (0, .ref ho), (1, .long (lI (d5))), (3, .int (iI (k5)))]) hx hb dX2_digest_54 hl (by decide) rfl (fun ls hl => ?_)
              have lp56 : ∀ (n : Nat) (d6 : Int) (w6 : Int), (5 - w6).toNat < n → (0 ≤ w6 ∧ w6 ≤ 5) → (d6 = ifold (fun w y => y * 31 + cof f r k5 w) (ifold (fun k x => ifold (fun w y => y * 31 + cof f r k w) x 5) (digF r (ifold (fun k x => x * 31 + wrI (totF r (f 4 0) k)) 599 8)) k5) w6) → ∀ (ls : Array Slot), lv_has ls 5 [(0, .ref ho), (1, .long (lI (d6))), (3, .int (iI (k5))), (4, .int (iI (w6)))] → W p l e (headSpec wsX2_digest ({ frames := 4, cells := 0, slots := 0, locals := 92 })).room s m ([.ref ho] : List Value).toArray below meth c s.heap [] 0 0 (MQ below (vp_Sl (fun q9 => q9 = lI (digT r f))) ([.ref ho] : List Value).toArray s 0 0 (fun _ => False)) (F0 m 56 ls []) := by
                intro n
                induction n with
                | zero => intro d6 w6 hn; exact absurd hn (Nat.not_lt_zero _)
                | succ n ih56 =>
                  intro d6 w6 hn hw6 hs6 ls hl
                  refine lv_iload hx hb dX2_digest_56 (lv_at hl 3 rfl) ?_
                  refine mf_iconst hx hb dX2_digest_58 ?_
                  refine mf_icmp_ge (tgt := 90) hx hb dX2_digest_59 (by decide) (i32_mk (by omega) (by omega)) (i32_mk (by decide) (by decide)) (fun c5 => ?_) (fun c5 => ?_)
                  · skip
                    refine lv_iinc (v := iI (k5 + 1)) (lv' := [(3, .int (iI (k5 + 1))), (0, .ref ho), (1, .long (lI (d6))), (4, .int (iI (w6)))]) hx hb dX2_digest_90 hl (k := 2) rfl (iI_add _ _).symm (by decide) rfl (fun ls hl => ?_)
                    refine lv_goto (tgt := 42) hx hb dX2_digest_93 (by decide) ?_
                    exact ih42 d6 (k5 + 1) (by omega) (by first | assumption | omega) (by rw [ifold_s _ _ hk5.1, hs6, show w6 = 5 by omega])  ls (lv_sub hl [1, 2, 0] rfl)
                  · skip
                    refine lv_lload_n hx hb dX2_digest_62 rfl (lv_at hl 1 rfl) ?_
                    refine mf_ldc2 hx hb 31 hown (hts (.constantLong RX2 211 (31)) (List.mem_of_getElem? (i := 2) rfl)) rfl dX2_digest_63 ?_
                    refine mf_lmul hx hb dX2_digest_66 ?_
                    refine lv_aload_n hx hb dX2_digest_67 rfl (lv_at hl 0 rfl) ?_
                    refine va_get (D := G.1) (ci := 2) (v := .ref hff) (C := RX2) (T := TX2) (N := 4) hx hb hts hinX2 hown hK hP 0 rfl rfl 2 (by decide) (hts (.fieldLink RX2 26 "MeanderFarm" "farms" "LMeanderFarm$Farms;") (List.mem_of_getElem? (i := 4) rfl)) (fun _ h9 => h9) rfl dX2_digest_68 ?_
                    refine lv_iload_n hx hb dX2_digest_71 rfl (lv_at hl 2 rfl) ?_
                    refine lv_iload hx hb dX2_digest_72 (lv_at hl 3 rfl) ?_
                    refine lv_aload_n hx hb dX2_digest_74 rfl (lv_at hl 0 rfl) ?_
                    refine va_get (D := G.1) (ci := 2) (v := .ref hn) (C := RX2) (T := TX2) (N := 4) hx hb hts hinX2 hown hK hP 0 rfl rfl 0 (by decide) (hts (.fieldLink RX2 16 "MeanderFarm" "now" "LMeanderFarm$River;") (List.mem_of_getElem? (i := 3) rfl)) (fun _ h9 => h9) rfl dX2_digest_75 ?_
                    refine vp_callSi (va_Run.run (va_runVN (As := [.int (iI (k5)), .int (iI (w6)), .ref hn]) (rest := [.long (lI (d6 * 31))]) ⟨hx, hb, hml, hown, hts⟩ (c_X0_cellsOf l G hff adf f hn adn r (k5) (w6) (i32_mk (by omega) (by omega)) (i32_mk (by omega) (by omega)) (by assumption) (by assumption)) ⟨(va_cnB 3 hts gX2_digest_X0_cellsOf_n173 rfl rfl rfl (hN.m 12 rfl) (hts (.initialized RX0) (List.mem_of_getElem? (i := 55) rfl)) (by decide +kernel) ⟨Nat.le_of_ble_eq_true rfl, Nat.le_of_ble_eq_true rfl⟩), (hts (.instanceMethod yX0_cellsOf) (List.mem_of_getElem? (i := 54) rfl)), (hts (.selects RX0 yX0_cellsOf yX0_cellsOf) (List.mem_of_getElem? (i := 56) rfl))⟩ (rdV (wc := FW G hff adf f ++ RW G hn adn r) hK hP hN [26, 27, 28, 29, 30, 2, 3, 4, 5, 6, 7, 8, 9, 10, 11, 12, 13] rfl (ci := 0) rfl rfl) rfl rfl hl.1 rfl (lv_room (Nat.le_of_ble_eq_true rfl)) dX2_digest_78 ⟨(Nat.zero_le _), (Nat.zero_le _)⟩)) (fun q6 hq6 => ?_)
                    subst hq6
                    refine mf_nm (fun y7 ey7 => ?_)
                    have b8 : 0 ≤ y7 ∧ y7 ≤ 384 := by rw [ey7]; exact cofF_b (by assumption) k5 w6
                    have hc9 : y7 = cof f r k5 w6 := by rw [ey7]; exact mf_if_t ⟨by omega, by omega⟩
                    refine mf_i2l hx hb dX2_digest_81 (i32_mk (by omega) (by omega)) ?_
                    refine mf_ladd hx hb dX2_digest_82 ?_
                    refine lv_lstore_n (lv' := [(1, .long (lI ((d6 * 31) + y7))), (0, .ref ho), (3, .int (iI (k5))), (4, .int (iI (w6)))]) hx hb dX2_digest_83 rfl hl (by decide) rfl (fun ls hl => ?_)
                    refine lv_iinc (v := iI (w6 + 1)) (lv' := [(4, .int (iI (w6 + 1))), (1, .long (lI ((d6 * 31) + y7))), (0, .ref ho), (3, .int (iI (k5)))]) hx hb dX2_digest_84 hl (k := 3) rfl (iI_add _ _).symm (by decide) rfl (fun ls hl => ?_)
                    refine lv_goto (tgt := 56) hx hb dX2_digest_87 (by decide) ?_
                    exact ih56 ((d6 * 31) + y7) (w6 + 1) (by omega) (by first | assumption | omega) (by rw [ifold_s _ _ hw6.1, ← hs6, hc9])  ls (lv_sub hl [2, 1, 3, 0] rfl)
              exact lp56 (_ + 1) d5 0 (Nat.lt_succ_self _) (by first | assumption | omega) (by rw [ifold_0]; exact hs5)  ls (lv_sub hl [1, 2, 3, 0] rfl)
        exact lp42 (_ + 1) (digF r dv) 0 (Nat.lt_succ_self _) (by first | assumption | omega) (by rw [ifold_0, hs, show kv = 8 by omega])  ls (lv_sub hl [2, 1, 0] rfl)
      · skip
        refine lv_lload_n hx hb dX2_digest_12 rfl (lv_at hl 1 rfl) ?_
        refine mf_ldc2 hx hb 31 hown (hts (.constantLong RX2 211 (31)) (List.mem_of_getElem? (i := 2) rfl)) rfl dX2_digest_13 ?_
        refine mf_lmul hx hb dX2_digest_16 ?_
        refine lv_aload_n hx hb dX2_digest_17 rfl (lv_at hl 0 rfl) ?_
        refine lv_iload_n hx hb dX2_digest_18 rfl (lv_at hl 2 rfl) ?_
        refine vp_callSi (va_Run.run (va_runV (As := [.int (iI (kv))]) (rest := [.long (lI (dv * 31))]) ⟨hx, hb, hml, hown, hts⟩ (c_X2_total l G ho hn ha hff ae x adn r ada ra adf f (kv) (i32_mk (by omega) (by omega)) (by assumption) (by assumption) (by assumption) (by assumption) (by first | assumption | omega)) (cwV 1 hts gX2_digest_X2_total rfl rfl rfl (by decide +kernel) ⟨Nat.le_of_ble_eq_true rfl, Nat.le_of_ble_eq_true rfl⟩) (rdV (wc := OW G ho hn ha hff ae x ++ RW G hn adn r ++ RW G ha ada ra ++ FW G hff adf f) hK hP hN [0, 1, 2, 3, 4, 5, 6, 7, 8, 9, 10, 11, 12, 13, 14, 15, 16, 17, 18, 19, 20, 21, 22, 23, 24, 25, 26, 27, 28, 29, 30] rfl (ci := 2) rfl rfl) rfl rfl hl.1 rfl (lv_room (Nat.le_of_ble_eq_true rfl)) dX2_digest_19 ⟨(Nat.zero_le _), (Nat.zero_le _)⟩)) (fun q9 hq9 => ?_)
        subst hq9
        refine mf_i2lw hx hb dX2_digest_22 ?_
        refine mf_ladd hx hb dX2_digest_23 ?_
        refine lv_lstore_n (lv' := [(1, .long (lI ((dv * 31) + (wrI (totF r (f 4 0) kv))))), (0, .ref ho), (3, .int (iI (kv)))]) hx hb dX2_digest_24 rfl hl (by decide) rfl (fun ls hl => ?_)
        refine lv_iinc (v := iI (kv + 1)) (lv' := [(3, .int (iI (kv + 1))), (1, .long (lI ((dv * 31) + (wrI (totF r (f 4 0) kv))))), (0, .ref ho)]) hx hb dX2_digest_25 hl (k := 2) rfl (iI_add _ _).symm (by decide) rfl (fun ls hl => ?_)
        refine lv_goto (tgt := 6) hx hb dX2_digest_28 (by decide) ?_
        exact ih6 ((dv * 31) + (wrI (totF r (f 4 0) kv))) (kv + 1) (by omega) (by first | assumption | omega) (by rw [ifold_s _ _ hk.1, ← hs])  ls (lv_sub hl [2, 1, 0] rfl)
  exact lp6 (_ + 1) 599 0 (Nat.lt_succ_self _) (by first | assumption | omega) (by exact (ifold_0 _ _).symm)  ls (lv_sub hl [2, 1, 0] rfl)
