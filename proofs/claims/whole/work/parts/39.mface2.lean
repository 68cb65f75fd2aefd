/-! 39.mface2: more of the reference's face -/
/-- an int as the long that it becomes -/
def wrI (z : Int) : Int := (iI z).toInt
theorem mf_i2lw {p : Program} {l : Launch} {e : Env} {R : Room} {s : State} {m : MethodId} {args : Array Value} {below : List Frame} {meth : Method} {c : Code} {H : Heap} {locs : List Loc} {cells slots : Nat} {Q : State → Prop} {cc : ByteArray} {pc : Nat} {ls : Array Slot} {rest : List Value} (hx : p.tables.exec = Jvm.exec) (hb : c.code = cc) {x : Int} (hd : decode cc pc = .ok (.i2l, 1)) (k : W p l e R s m args below meth c H locs cells slots Q (F0 m (pc + 1) ls (.long (lI (wrI x)) :: rest))) : W p l e R s m args below meth c H locs cells slots Q (F0 m pc ls (.int (iI x) :: rest)) :=
  lv_i2l hx hb hd (by
    have g := iI_toL (z := (iI x).toInt) (i32_of _)
    rw [iI_of] at g
    exact g) k
theorem mf_nanA : ∀ n : Fin 151, vf_n64 (FP.ddiv (FP.i2d (iI ((n.1 : Nat) : Int))) 4627448617123184640) := by
  unfold vf_n64
  decide +kernel
theorem mf_nan {z : Int} (h0 : 0 ≤ z) (h1 : z ≤ 150) : vf_n64 (FP.ddiv (FP.i2d (iI z)) 4627448617123184640) := by
  obtain ⟨n, rfl⟩ := Int.eq_ofNat_of_zero_le h0
  exact mf_nanA ⟨n, by omega⟩
/-- the whole digest -/
noncomputable def digT (r f : mf_V) : Int := ifold (fun k x => ifold (fun w y => y * 31 + cof f r k w) x 5) (digF r (ifold (fun k x => x * 31 + wrI (totF r (f 4 0) k)) 599 8)) (f 4 0)
set_option maxHeartbeats 4000000 in
set_option maxRecDepth 100000 in
theorem c_X3_setStones (l : Launch) (G : mf_G) (hm : Nat) (adm : Nat → Nat) (u : mf_V)  (xv : Int) (yv : Int) (bv : Int) (r : mf_V) (hxv : i32 xv) (hyv : i32 yv) (hbv : i32 bv) (oku : rOK ulo uhi u) (ok : rOK rlo rhi r) (hI : RInv r) (hrel : relU r u) (hb01 : 0 ≤ bv ∧ bv ≤ 1) (sz : Nat) : Met l yX3_setStones wsX3_setStones ({ frames := 2, cells := 0, slots := 0, locals := 43 }) (va_Pc [.ref hm, .int (iI (xv)), .int (iI (yv)), .int (iI (bv))] (WrP G (MW G hm adm u) sz)) (va_Qi (fun q9 (u' : mf_V) => ∃ z : Int, q9 = iI z ∧ rOK ulo uhi u' ∧ frF u u' ∧ u' 0 0 = kCell xv yv ∧ (kCell xv yv = 0 → relU (mf_sF r 2 (mf_up (r 2) (xv + 24 * yv) bv)) u' ∧ z = stonesF (mf_sF r 2 (mf_up (r 2) (xv + 24 * yv) bv))) ∧ (¬ kCell xv yv = 0 → relU r u')) (fun (u' : mf_V) t => WrQ G (va_A (MW G hm adm u) sz) (MW G hm adm u') t) (va_A (MW G hm adm u) sz)) 0 0 (va_A (MW G hm adm u) sz) := by
  refine Met.ofW (cc := cX3_setStones) (maxL := 4) (ret := (some .int)) (by decide) rfl ?_
  intro p e s m args below meth c s₁ B hml hv
  obtain ⟨rfl, hsz, hP, hK, hD0, hN⟩ := hv
  have hx := B.exec
  have hb := B.bytes
  have hr := B.returns
  have hts := atoms_spec (ws := wsX3_setStones) B.pre
  have hown : s.vm.findClass RX3 = some m.cls := findClass_of_methodNamed B.named
  have hlocks := B.notSynchronized
  have hinX3 : ∀ w ∈ u_ws RX3 TX3 11, w ∈ wsX3_setStones := fun w h => List.mem_cons_of_mem _ (List.mem_append_right _ h)
  subst hsz
  have hD := hD0.self (sz := s.heap.size)
  generalize hAe : va_A (MW G hm adm u) s.heap.size = A at hD ⊢
  have hA : ∀ q : Nat, s.heap.size ≤ q → A q := fun q h => by rw [← hAe]; exact Or.inr h
  have hS : va_S A s.heap s.heap [] := va_S.rf
  have hl := lv_entry ([.ref hm, .int (iI (xv)), .int (iI (yv)), .int (iI (bv))]) (n := 4) (Nat.le_of_ble_eq_true rfl)
  rw [lg_entry_eq]
  generalize (lg_sl ([.ref hm, .int (iI (xv)), .int (iI (yv)), .int (iI (bv))]) ++ List.replicate (4 - (lg_sl ([.ref hm, .int (iI (xv)), .int (iI (yv)), .int (iI (bv))])).length) Slot.unset).toArray = ls at hl ⊢
  have hl : lv_has ls 4 [(0, .ref hm), (1, .int (iI (xv))), (2, .int (iI (yv))), (3, .int (iI (bv)))] := hl
  have hxv1 := hxv.1
  have hxv2 := hxv.2
  have hyv1 := hyv.1
  have hyv2 := hyv.2
  have hbv1 := hbv.1
  have hbv2 := hbv.2
  have okLr : (0 : Int) ≤ r 7 0 ∧ r 7 0 ≤ 150 := ok 7 0
  refine lv_aload_n hx hb dX3_setStones_0 rfl (lv_at hl 0 rfl) ?_
  refine mf_iconst hx hb dX3_setStones_1 ?_
  refine va_put (D := G.1) (ci := 3) (v := .int (iI (0))) (ty := .int) (C := RX3) (T := TX3) (N := 11) hx hb hts hinX3 tyX3 tyX3_ok nmX3 hown hK hP hD hS 0 rfl rfl 0 (by decide) (hts (.fieldLink RX3 41 "MeanderFarmModel" "thrown" "I") (List.mem_of_getElem? (i := 1) rfl)) (fun _ h9 => h9) rfl (by decide +kernel) rfl rfl (Nat.le_of_ble_eq_true rfl) dX3_setStones_2 (fun H locs hP hD hS => ?_)
  obtain ⟨u1, eu1⟩ : ∃ z9 : mf_V, z9 = mf_sF u 0 (fun _ => 0) := ⟨_, rfl⟩
  have hP : va_P G.1 vwCl (MW G hm adm u1) H := by rw [eu1]; exact hP
  have hD : va_D A (MW G hm adm u1) := by rw [eu1]; exact hD
  have oku1 : rOK ulo uhi u1 := by rw [eu1]; exact rOK_set oku 0 _ (show (-1 : Int) ≤ 0 by omega) (show 0 ≤ (9 : Int) by omega)
  have f1_u1 : ∀ y, u1 0 y = 0 := fun y => by rw [eu1, mf_sF_s]
  have f3_u1 : ∀ q, q ≠ 0 → u1 q = u q := fun q hq => by rw [eu1, mf_sF_n hq]
  have hrel1 : relU r u1 := relU_cg f3_u1 hrel
  have hz0 : u1 0 0 = 0 := f1_u1 0
  have hfF : frF u u1 := ⟨f3_u1 4 (by decide), f3_u1 5 (by decide)⟩
  refine lv_iload_n hx hb dX3_setStones_5 rfl (lv_at hl 1 rfl) ?_
  refine lv_iload_n hx hb dX3_setStones_6 rfl (lv_at hl 2 rfl) ?_
  refine vp_callSi (va_Run.run (va_runS (As := [.int (iI (xv)), .int (iI (yv))]) (rest := []) ⟨hx, hb, hml, hown, hts⟩ (c_X3_isCell l (xv) (yv) (i32_mk (by omega) (by omega)) (i32_mk (by omega) (by omega))) (va_cwS 2 hts gX3_setStones_X3_isCell rfl rfl rfl (by decide +kernel) ⟨Nat.le_of_ble_eq_true rfl, Nat.le_of_ble_eq_true rfl⟩) pureS rfl rfl hl.1 rfl (lv_room (Nat.le_of_ble_eq_true rfl)) dX3_setStones_7 ⟨(Nat.zero_le _), (Nat.zero_le _)⟩)) (fun q2 hq2 => ?_)
  subst hq2
  refine mf_bp_ne (tgt := 19) hx hb dX3_setStones_10 (by decide) (fun c3 => ?_) (fun c3 => ?_)
  · skip
    refine lv_aload_n hx hb dX3_setStones_19 rfl (lv_at hl 0 rfl) ?_
    refine va_get (D := G.1) (ci := 3) (v := .ref (adm 2)) (C := RX3) (T := TX3) (N := 11) hx hb hts hinX3 hown hK hP 0 rfl rfl 2 (by decide) (hts (.fieldLink RX3 13 "MeanderFarmModel" "stones" "[Z") (List.mem_of_getElem? (i := 2) rfl)) (fun _ h9 => h9) rfl dX3_setStones_20 ?_
    refine lv_iload_n hx hb dX3_setStones_23 rfl (lv_at hl 1 rfl) ?_
    refine mf_bipush hx hb dX3_setStones_24 rfl ?_
    refine lv_iload_n hx hb dX3_setStones_26 rfl (lv_at hl 2 rfl) ?_
    refine mf_imul hx hb dX3_setStones_27 ?_
    refine mf_iadd hx hb dX3_setStones_28 ?_
    refine lv_iload_n hx hb dX3_setStones_29 rfl (lv_at hl 3 rfl) ?_
    refine mf_zast (n := 384) (f := u1 2) hx hb hK hP hD hS 2 1 rfl rfl (z := xv + (24 * yv)) (x := bv) (by omega) (by omega) (by decide) (by omega) dX3_setStones_30 (fun H locs hP hD hS => ?_)
    obtain ⟨u4, eu4⟩ : ∃ z9 : mf_V, z9 = mf_sF u1 2 (mf_up (u1 2) (xv + (24 * yv)) (bv)) := ⟨_, rfl⟩
    have hP : va_P G.1 vwCl (MW G hm adm u4) H := by rw [eu4]; exact hP
    have hD : va_D A (MW G hm adm u4) := by rw [eu4]; exact hD
    have oku4 : rOK ulo uhi u4 := by rw [eu4]; exact rOK_up oku1 2 _ _ (show (0 : Int) ≤ bv by omega) (show bv ≤ (1 : Int) by omega)
    have f1_u4 : u4 2 (xv + (24 * yv)) = bv := by rw [eu4, mf_sF_s, mf_up_s]
    have f2_u4 : ∀ y, y ≠ (xv + (24 * yv)) → u4 2 y = u1 2 y := fun y hy => by rw [eu4, mf_sF_s, mf_up_n hy]
    have f3_u4 : ∀ q, q ≠ 2 → u4 q = u1 q := fun q hq => by rw [eu4, mf_sF_n hq]
    have hrel9 : relU (mf_sF r 2 (mf_up (r 2) (xv + 24 * yv) bv)) u4 := relU_f2 hrel f1_u4 (fun y hy => by rw [f2_u4 y hy, f3_u1 2 (by decide)]) (fun k h0 h1 => by rw [f3_u4 k h1, f3_u1 k h0])
    have okn : rOK rlo rhi (mf_sF r 2 (mf_up (r 2) (xv + 24 * yv) bv)) := rOK_up ok 2 _ _ (show (0 : Int) ≤ bv by omega) (show bv ≤ (1 : Int) by omega)
    have hIn : RInv (mf_sF r 2 (mf_up (r 2) (xv + 24 * yv) bv)) := RInv_cg (mf_sF_n (by decide)) (mf_sF_n (by decide)) (mf_sF_n (by decide)) (mf_sF_n (by decide)) (mf_sF_n (by decide)) (mf_sF_n (by decide)) hI
    refine lv_aload_n hx hb dX3_setStones_31 rfl (lv_at hl 0 rfl) ?_
    refine vp_callSi (va_Run.run (va_runV (As := []) (rest := []) ⟨hx, hb, hml, hown, hts⟩ (c_X3_allStones l G hm adm u4 (mf_sF r 2 (mf_up (r 2) (xv + 24 * yv) bv)) (by assumption) (by exact okn) (by exact hIn) (by exact hrel9)) (cwV 0 hts gX3_setStones_X3_allStones rfl rfl rfl (by decide +kernel) ⟨Nat.le_of_ble_eq_true rfl, Nat.le_of_ble_eq_true rfl⟩) (rdV (wc := MW G hm adm u4) hK hP hN [0, 1, 2, 3, 4, 5, 6, 7, 8, 9] rfl (ci := 3) rfl rfl) rfl rfl hl.1 rfl (lv_room (Nat.le_of_ble_eq_true rfl)) dX3_setStones_32 ⟨(Nat.zero_le _), (Nat.zero_le _)⟩)) (fun q5 hq5 => ?_)
    subst hq5
    have b6 : 0 ≤ (stonesF (mf_sF r 2 (mf_up (r 2) (xv + 24 * yv) bv))) ∧ (stonesF (mf_sF r 2 (mf_up (r 2) (xv + 24 * yv) bv))) ≤ 384 := stonesF_b (mf_sF r 2 (mf_up (r 2) (xv + 24 * yv) bv))
    have hk9 : kCell xv yv = 0 := mf_if_f (fun z => z (by assumption))
    exact W.iret hx hb hr (fun t ht hW => ⟨⟨_, u4, rfl, ⟨_, rfl, by exact ⟨oku4, ⟨by rw [f3_u4 4 (by decide)]; exact hfF.1, by rw [f3_u4 5 (by decide)]; exact hfF.2⟩, by rw [hk9, f3_u4 0 (by decide)]; exact hz0, fun _ => ⟨hrel9, rfl⟩, fun z9 => absurd hk9 z9⟩⟩, by rw [ht]; exact hP, hD⟩, hS.F ht⟩) hS.2.2 dX3_setStones_35
  · skip
    refine lv_aload_n hx hb dX3_setStones_13 rfl (lv_at hl 0 rfl) ?_
    refine mf_iconst hx hb dX3_setStones_14 ?_
    have hFc := va_free (wc := MW G hm adm u1) hD hS hA [0, 1, 2, 3, 4, 5, 6, 7, 8, 9] rfl
    refine va_calli (va_runV (As := [.int (iI (1))]) (rest := []) ⟨hx, hb, hml, hown, hts⟩ (c_X3_fail l G hm adm u1 (1) (i32_mk (by decide) (by decide)) (by assumption) (by first | assumption | omega) _) (cwV 1 hts gX3_setStones_X3_fail rfl rfl rfl (by decide +kernel) ⟨Nat.le_of_ble_eq_true rfl, Nat.le_of_ble_eq_true rfl⟩) (wrV (wc := MW G hm adm u1) hK hP hD hN [0, 1, 2, 3, 4, 5, 6, 7, 8, 9] (by decide) rfl rfl (ci := 3) rfl rfl) rfl rfl hl.1 rfl (lv_room (Nat.le_of_ble_eq_true rfl)) dX3_setStones_15 ⟨(Nat.zero_le _), (Nat.zero_le _)⟩) hS (fun q _ h => hFc q h) hFc (fun q7 u8 t H1 locs ht hvm hw hB hz1 hk1 hS => ?_)
    obtain ⟨u9, rfl⟩ : ∃ z, z = u8 := ⟨_, rfl⟩
    try dsimp only at hw hB
    obtain ⟨hP, hD⟩ := wrJ (ws := MW G hm adm u1) (w1 := MW G hm adm u9) ht hFc hB
    have hP : va_P G.1 vwCl (MW G hm adm u9) H1 := hP
    have hD : va_D A (MW G hm adm u9) := hD
    clear hB hk1 hFc ht hz1 hvm
    generalize H1 = H at hP hS ⊢
    obtain ⟨z11, rfl, w10⟩ := hw
    have oku9 : rOK ulo uhi u9 := w10.1
    have hk9 : kCell xv yv = 1 := mf_if_t (by assumption)
    exact W.iret hx hb hr (fun t ht hW => ⟨⟨_, u9, rfl, ⟨_, rfl, by exact ⟨w10.1, ⟨(w10.2.1 4 (by decide)).trans hfF.1, (w10.2.1 5 (by decide)).trans hfF.2⟩, by rw [hk9]; exact w10.2.2.1, fun z9 => by rw [hk9] at z9; omega, fun _ => relU_cg w10.2.1 hrel1⟩⟩, by rw [ht]; exact hP, hD⟩, hS.F ht⟩) hS.2.2 dX3_setStones_18
set_option maxHeartbeats 4000000 in
set_option maxRecDepth 100000 in
theorem c_X3_farm (l : Launch) (G : mf_G) (hm : Nat) (adm : Nat → Nat) (u : mf_V)  (kv : Int) (wv : Int) (r : mf_V) (f : mf_V) (hkv : i32 kv) (hwv : i32 wv) (oku : rOK ulo uhi u) (ok : rOK rlo rhi r) (hI : RInv r) (hrel : relU r u) (okf : rOK flo fhi f) (hrf : relF f u) (hFI : FInv f) (sz : Nat) : Met l yX3_farm wsX3_farm ({ frames := 3, cells := 0, slots := 0, locals := 72 }) (va_Pc [.ref hm, .int (iI (kv)), .int (iI (wv))] (WrP G (MW G hm adm u) sz)) (va_Qi (fun q9 (u' : mf_V) => ∃ z : Int, q9 = iI z ∧ rOK ulo uhi u' ∧ frF u u' ∧ u' 0 0 = kFarm f kv wv ∧ (kFarm f kv wv = 0 → relU r u' ∧ z = cof f r kv wv) ∧ (¬ kFarm f kv wv = 0 → relU r u')) (fun (u' : mf_V) t => WrQ G (va_A (MW G hm adm u) sz) (MW G hm adm u') t) (va_A (MW G hm adm u) sz)) 0 0 (va_A (MW G hm adm u) sz) := by
  refine Met.ofW (cc := cX3_farm) (maxL := 3) (ret := (some .int)) (by decide) rfl ?_
  intro p e s m args below meth c s₁ B hml hv
  obtain ⟨rfl, hsz, hP, hK, hD0, hN⟩ := hv
  have hx := B.exec
  have hb := B.bytes
  have hr := B.returns
  have hts := atoms_spec (ws := wsX3_farm) B.pre
  have hown : s.vm.findClass RX3 = some m.cls := findClass_of_methodNamed B.named
  have hlocks := B.notSynchronized
  have hinX3 : ∀ w ∈ u_ws RX3 TX3 11, w ∈ wsX3_farm := fun w h => List.mem_cons_of_mem _ (List.mem_append_right _ h)
  subst hsz
  have hD := hD0.self (sz := s.heap.size)
  generalize hAe : va_A (MW G hm adm u) s.heap.size = A at hD ⊢
  have hA : ∀ q : Nat, s.heap.size ≤ q → A q := fun q h => by rw [← hAe]; exact Or.inr h
  have hS : va_S A s.heap s.heap [] := va_S.rf
  have hl := lv_entry ([.ref hm, .int (iI (kv)), .int (iI (wv))]) (n := 3) (Nat.le_of_ble_eq_true rfl)
  rw [lg_entry_eq]
  generalize (lg_sl ([.ref hm, .int (iI (kv)), .int (iI (wv))]) ++ List.replicate (3 - (lg_sl ([.ref hm, .int (iI (kv)), .int (iI (wv))])).length) Slot.unset).toArray = ls at hl ⊢
  have hl : lv_has ls 3 [(0, .ref hm), (1, .int (iI (kv))), (2, .int (iI (wv)))] := hl
  have hkv1 := hkv.1
  have hkv2 := hkv.2
  have hwv1 := hwv.1
  have hwv2 := hwv.2
  have okLr : (0 : Int) ≤ r 7 0 ∧ r 7 0 ≤ 150 := ok 7 0
  refine lv_aload_n hx hb dX3_farm_0 rfl (lv_at hl 0 rfl) ?_
  refine mf_iconst hx hb dX3_farm_1 ?_
  refine va_put (D := G.1) (ci := 3) (v := .int (iI (0))) (ty := .int) (C := RX3) (T := TX3) (N := 11) hx hb hts hinX3 tyX3 tyX3_ok nmX3 hown hK hP hD hS 0 rfl rfl 0 (by decide) (hts (.fieldLink RX3 41 "MeanderFarmModel" "thrown" "I") (List.mem_of_getElem? (i := 1) rfl)) (fun _ h9 => h9) rfl (by decide +kernel) rfl rfl (Nat.le_of_ble_eq_true rfl) dX3_farm_2 (fun H locs hP hD hS => ?_)
  obtain ⟨u1, eu1⟩ : ∃ z9 : mf_V, z9 = mf_sF u 0 (fun _ => 0) := ⟨_, rfl⟩
  have hP : va_P G.1 vwCl (MW G hm adm u1) H := by rw [eu1]; exact hP
  have hD : va_D A (MW G hm adm u1) := by rw [eu1]; exact hD
  have oku1 : rOK ulo uhi u1 := by rw [eu1]; exact rOK_set oku 0 _ (show (-1 : Int) ≤ 0 by omega) (show 0 ≤ (9 : Int) by omega)
  have f1_u1 : ∀ y, u1 0 y = 0 := fun y => by rw [eu1, mf_sF_s]
  have f3_u1 : ∀ q, q ≠ 0 → u1 q = u q := fun q hq => by rw [eu1, mf_sF_n hq]
  have hrel1 : relU r u1 := relU_cg f3_u1 hrel
  have hz0 : u1 0 0 = 0 := f1_u1 0
  have hfF : frF u u1 := ⟨f3_u1 4 (by decide), f3_u1 5 (by decide)⟩
  have h40 : u1 4 0 = f 4 0 := by rw [f3_u1 4 (by decide)]; exact hrf.1
  refine lv_aload_n hx hb dX3_farm_5 rfl (lv_at hl 0 rfl) ?_
  refine lv_iload_n hx hb dX3_farm_6 rfl (lv_at hl 1 rfl) ?_
  refine vp_callSi (va_Run.run (va_runV (As := [.int (iI (kv))]) (rest := []) ⟨hx, hb, hml, hown, hts⟩ (c_X3_isFarm l G hm adm u1 (kv) (i32_mk (by omega) (by omega)) (by assumption)) (cwV 1 hts gX3_farm_X3_isFarm rfl rfl rfl (by decide +kernel) ⟨Nat.le_of_ble_eq_true rfl, Nat.le_of_ble_eq_true rfl⟩) (rdV (wc := MW G hm adm u1) hK hP hN [0, 1, 2, 3, 4, 5, 6, 7, 8, 9] rfl (ci := 3) rfl rfl) rfl rfl hl.1 rfl (lv_room (Nat.le_of_ble_eq_true rfl)) dX3_farm_7 ⟨(Nat.zero_le _), (Nat.zero_le _)⟩)) (fun q2 hq2 => ?_)
  subst hq2
  refine mf_bp_eq (tgt := 31) hx hb dX3_farm_10 (by decide) (fun c3 => ?_) (fun c3 => ?_)
  · skip
    refine lv_aload_n hx hb dX3_farm_31 rfl (lv_at hl 0 rfl) ?_
    refine mf_iconst hx hb dX3_farm_32 ?_
    have hFc := va_free (wc := MW G hm adm u1) hD hS hA [0, 1, 2, 3, 4, 5, 6, 7, 8, 9] rfl
    refine va_calli (va_runV (As := [.int (iI (1))]) (rest := []) ⟨hx, hb, hml, hown, hts⟩ (c_X3_fail l G hm adm u1 (1) (i32_mk (by decide) (by decide)) (by assumption) (by first | assumption | omega) _) (cwV 1 hts gX3_farm_X3_fail rfl rfl rfl (by decide +kernel) ⟨Nat.le_of_ble_eq_true rfl, Nat.le_of_ble_eq_true rfl⟩) (wrV (wc := MW G hm adm u1) hK hP hD hN [0, 1, 2, 3, 4, 5, 6, 7, 8, 9] (by decide) rfl rfl (ci := 3) rfl rfl) rfl rfl hl.1 rfl (lv_room (Nat.le_of_ble_eq_true rfl)) dX3_farm_33 ⟨(Nat.zero_le _), (Nat.zero_le _)⟩) hS (fun q _ h => hFc q h) hFc (fun q4 u5 t H1 locs ht hvm hw hB hz1 hk1 hS => ?_)
    obtain ⟨u6, rfl⟩ : ∃ z, z = u5 := ⟨_, rfl⟩
    try dsimp only at hw hB
    obtain ⟨hP, hD⟩ := wrJ (ws := MW G hm adm u1) (w1 := MW G hm adm u6) ht hFc hB
    have hP : va_P G.1 vwCl (MW G hm adm u6) H1 := hP
    have hD : va_D A (MW G hm adm u6) := hD
    clear hB hk1 hFc ht hz1 hvm
    generalize H1 = H at hP hS ⊢
    obtain ⟨z8, rfl, w7⟩ := hw
    have oku6 : rOK ulo uhi u6 := w7.1
    have hk9 : kFarm f kv wv = 1 := mf_if_t (fun z => by have z1 := z.1; unfold isF at z1; omega)
    exact W.iret hx hb hr (fun t ht hW => ⟨⟨_, u6, rfl, ⟨_, rfl, by exact ⟨w7.1, ⟨(w7.2.1 4 (by decide)).trans hfF.1, (w7.2.1 5 (by decide)).trans hfF.2⟩, by rw [hk9]; exact w7.2.2.1, fun z9 => by rw [hk9] at z9; omega, fun _ => relU_cg w7.2.1 hrel1⟩⟩, by rw [ht]; exact hP, hD⟩, hS.F ht⟩) hS.2.2 dX3_farm_36
  · skip
    refine lv_iload_n hx hb dX3_farm_13 rfl (lv_at hl 2 rfl) ?_
    refine mf_iconst hx hb dX3_farm_14 ?_
    refine mf_iconst hx hb dX3_farm_15 ?_
    refine vp_callSi (va_Run.run (va_runS (As := [.int (iI (wv)), .int (iI (0)), .int (iI (4))]) (rest := []) ⟨hx, hb, hml, hown, hts⟩ (c_X3_isIn l (wv) (0) (4) (i32_mk (by omega) (by omega)) (i32_mk (by decide) (by decide)) (i32_mk (by decide) (by decide))) (va_cwS 3 hts gX3_farm_X3_isIn rfl rfl rfl (by decide +kernel) ⟨Nat.le_of_ble_eq_true rfl, Nat.le_of_ble_eq_true rfl⟩) pureS rfl rfl hl.1 rfl (lv_room (Nat.le_of_ble_eq_true rfl)) dX3_farm_16 ⟨(Nat.zero_le _), (Nat.zero_le _)⟩)) (fun q9 hq9 => ?_)
    subst hq9
    refine mf_bp_eq (tgt := 31) hx hb dX3_farm_19 (by decide) (fun c10 => ?_) (fun c10 => ?_)
    · skip
      refine lv_aload_n hx hb dX3_farm_31 rfl (lv_at hl 0 rfl) ?_
      refine mf_iconst hx hb dX3_farm_32 ?_
      have hFc := va_free (wc := MW G hm adm u1) hD hS hA [0, 1, 2, 3, 4, 5, 6, 7, 8, 9] rfl
      refine va_calli (va_runV (As := [.int (iI (1))]) (rest := []) ⟨hx, hb, hml, hown, hts⟩ (c_X3_fail l G hm adm u1 (1) (i32_mk (by decide) (by decide)) (by assumption) (by first | assumption | omega) _) (cwV 1 hts gX3_farm_X3_fail rfl rfl rfl (by decide +kernel) ⟨Nat.le_of_ble_eq_true rfl, Nat.le_of_ble_eq_true rfl⟩) (wrV (wc := MW G hm adm u1) hK hP hD hN [0, 1, 2, 3, 4, 5, 6, 7, 8, 9] (by decide) rfl rfl (ci := 3) rfl rfl) rfl rfl hl.1 rfl (lv_room (Nat.le_of_ble_eq_true rfl)) dX3_farm_33 ⟨(Nat.zero_le _), (Nat.zero_le _)⟩) hS (fun q _ h => hFc q h) hFc (fun q11 u12 t H1 locs ht hvm hw hB hz1 hk1 hS => ?_)
      obtain ⟨u13, rfl⟩ : ∃ z, z = u12 := ⟨_, rfl⟩
      try dsimp only at hw hB
      obtain ⟨hP, hD⟩ := wrJ (ws := MW G hm adm u1) (w1 := MW G hm adm u13) ht hFc hB
      have hP : va_P G.1 vwCl (MW G hm adm u13) H1 := hP
      have hD : va_D A (MW G hm adm u13) := hD
      clear hB hk1 hFc ht hz1 hvm
      generalize H1 = H at hP hS ⊢
      obtain ⟨z15, rfl, w14⟩ := hw
      have oku13 : rOK ulo uhi u13 := w14.1
      have hk9 : kFarm f kv wv = 1 := mf_if_t (fun z => by have z1 := z.1; unfold isF at z1; omega)
      exact W.iret hx hb hr (fun t ht hW => ⟨⟨_, u13, rfl, ⟨_, rfl, by exact ⟨w14.1, ⟨(w14.2.1 4 (by decide)).trans hfF.1, (w14.2.1 5 (by decide)).trans hfF.2⟩, by rw [hk9]; exact w14.2.2.1, fun z9 => by rw [hk9] at z9; omega, fun _ => relU_cg w14.2.1 hrel1⟩⟩, by rw [ht]; exact hP, hD⟩, hS.F ht⟩) hS.2.2 dX3_farm_36
    · skip
      refine lv_aload_n hx hb dX3_farm_22 rfl (lv_at hl 0 rfl) ?_
      refine lv_iload_n hx hb dX3_farm_23 rfl (lv_at hl 1 rfl) ?_
      refine lv_iload_n hx hb dX3_farm_24 rfl (lv_at hl 2 rfl) ?_
      refine vp_callSi (va_Run.run (va_runV (As := [.int (iI (kv)), .int (iI (wv))]) (rest := []) ⟨hx, hb, hml, hown, hts⟩ (c_X3_farmTold l G hm adm u1 (kv) (wv) (r) (f) (i32_mk (by omega) (by omega)) (i32_mk (by omega) (by omega)) (by assumption) (by assumption) (by first | assumption | omega) (by first | assumption | omega) (by assumption) (by exact relF_cg hfF hrf) (by first | assumption | omega) (by omega) (by omega)) (cwV 2 hts gX3_farm_X3_farmTold rfl rfl rfl (by decide +kernel) ⟨Nat.le_of_ble_eq_true rfl, Nat.le_of_ble_eq_true rfl⟩) (rdV (wc := MW G hm adm u1) hK hP hN [0, 1, 2, 3, 4, 5, 6, 7, 8, 9] rfl (ci := 3) rfl rfl) rfl rfl hl.1 rfl (lv_room (Nat.le_of_ble_eq_true rfl)) dX3_farm_25 ⟨(Nat.zero_le _), (Nat.zero_le _)⟩)) (fun q16 hq16 => ?_)
      subst hq16
      refine mf_nm (fun y17 ey17 => ?_)
      have b18 : 0 ≤ y17 ∧ y17 ≤ 384 := by rw [ey17]; exact cof_b (show rOK flo fhi (f) by assumption) kv wv
      refine lv_goto (tgt := 36) hx hb dX3_farm_28 (by decide) ?_
      have hk9 : kFarm f kv wv = 0 := mf_if_f (fun z => z ⟨by unfold isF; omega, by omega⟩)
      exact W.iret hx hb hr (fun t ht hW => ⟨⟨_, u1, rfl, ⟨_, rfl, by exact ⟨oku1, hfF, by rw [hk9]; exact hz0, fun _ => ⟨hrel1, by first | rfl | exact ey17⟩, fun z9 => absurd hk9 z9⟩⟩, by rw [ht]; exact hP, hD⟩, hS.F ht⟩) hS.2.2 dX3_farm_36
set_option maxHeartbeats 4000000 in
set_option maxRecDepth 100000 in
theorem c_X3_winding (l : Launch) (G : mf_G) (hm : Nat) (adm : Nat → Nat) (u : mf_V)  (r : mf_V) (oku : rOK ulo uhi u) (ok : rOK rlo rhi r) (hI : RInv r) (hrel : relU r u) (sz : Nat) : Met l yX3_winding wsX3_winding ({ frames := 1, cells := 0, slots := 0, locals := 20 }) (va_Pc [.ref hm] (WrP G (MW G hm adm u) sz)) (va_Qd (fun q9 (u' : mf_V) => q9 = FP.ddiv (FP.i2d (iI (r 7 0))) 4627448617123184640 ∧ rOK ulo uhi u' ∧ frF u u' ∧ u' 0 0 = 0 ∧ relU r u') (fun (u' : mf_V) t => WrQ G (va_A (MW G hm adm u) sz) (MW G hm adm u') t) (va_A (MW G hm adm u) sz)) 0 0 (va_A (MW G hm adm u) sz) := by
  refine Met.ofW (cc := cX3_winding) (maxL := 1) (ret := (some .double)) (by decide) rfl ?_
  intro p e s m args below meth c s₁ B hml hv
  obtain ⟨rfl, hsz, hP, hK, hD0, hN⟩ := hv
  have hx := B.exec
  have hb := B.bytes
  have hr := B.returns
  have hts := atoms_spec (ws := wsX3_winding) B.pre
  have hown : s.vm.findClass RX3 = some m.cls := findClass_of_methodNamed B.named
  have hlocks := B.notSynchronized
  have hinX3 : ∀ w ∈ u_ws RX3 TX3 11, w ∈ wsX3_winding := fun w h => List.mem_cons_of_mem _ (List.mem_append_right _ h)
  subst hsz
  have hD := hD0.self (sz := s.heap.size)
  generalize hAe : va_A (MW G hm adm u) s.heap.size = A at hD ⊢
  have hA : ∀ q : Nat, s.heap.size ≤ q → A q := fun q h => by rw [← hAe]; exact Or.inr h
  have hS : va_S A s.heap s.heap [] := va_S.rf
  have hl := lv_entry ([.ref hm]) (n := 1) (Nat.le_of_ble_eq_true rfl)
  rw [lg_entry_eq]
  generalize (lg_sl ([.ref hm]) ++ List.replicate (1 - (lg_sl ([.ref hm])).length) Slot.unset).toArray = ls at hl ⊢
  have hl : lv_has ls 1 [(0, .ref hm)] := hl
  have okLr : (0 : Int) ≤ r 7 0 ∧ r 7 0 ≤ 150 := ok 7 0
  refine lv_aload_n hx hb dX3_winding_0 rfl (lv_at hl 0 rfl) ?_
  refine mf_iconst hx hb dX3_winding_1 ?_
  refine va_put (D := G.1) (ci := 3) (v := .int (iI (0))) (ty := .int) (C := RX3) (T := TX3) (N := 11) hx hb hts hinX3 tyX3 tyX3_ok nmX3 hown hK hP hD hS 0 rfl rfl 0 (by decide) (hts (.fieldLink RX3 41 "MeanderFarmModel" "thrown" "I") (List.mem_of_getElem? (i := 1) rfl)) (fun _ h9 => h9) rfl (by decide +kernel) rfl rfl (Nat.le_of_ble_eq_true rfl) dX3_winding_2 (fun H locs hP hD hS => ?_)
  obtain ⟨u1, eu1⟩ : ∃ z9 : mf_V, z9 = mf_sF u 0 (fun _ => 0) := ⟨_, rfl⟩
  have hP : va_P G.1 vwCl (MW G hm adm u1) H := by rw [eu1]; exact hP
  have hD : va_D A (MW G hm adm u1) := by rw [eu1]; exact hD
  have oku1 : rOK ulo uhi u1 := by rw [eu1]; exact rOK_set oku 0 _ (show (-1 : Int) ≤ 0 by omega) (show 0 ≤ (9 : Int) by omega)
  have f1_u1 : ∀ y, u1 0 y = 0 := fun y => by rw [eu1, mf_sF_s]
  have f3_u1 : ∀ q, q ≠ 0 → u1 q = u q := fun q hq => by rw [eu1, mf_sF_n hq]
  have hrel1 : relU r u1 := relU_cg f3_u1 hrel
  have hz0 : u1 0 0 = 0 := f1_u1 0
  have hfF : frF u u1 := ⟨f3_u1 4 (by decide), f3_u1 5 (by decide)⟩
  refine lv_aload_n hx hb dX3_winding_5 rfl (lv_at hl 0 rfl) ?_
  refine vp_callSi (va_Run.run (va_runV (As := []) (rest := []) ⟨hx, hb, hml, hown, hts⟩ (c_X3_length l G hm adm u1 (by assumption)) (cwV 0 hts gX3_winding_X3_length rfl rfl rfl (by decide +kernel) ⟨Nat.le_of_ble_eq_true rfl, Nat.le_of_ble_eq_true rfl⟩) (rdV (wc := MW G hm adm u1) hK hP hN [0, 1, 2, 3, 4, 5, 6, 7, 8, 9] rfl (ci := 3) rfl rfl) rfl rfl hl.1 rfl (lv_room (Nat.le_of_ble_eq_true rfl)) dX3_winding_6 ⟨(Nat.zero_le _), (Nat.zero_le _)⟩)) (fun q2 hq2 => ?_)
  subst hq2
  refine mf_top (u1 10 2) (r 7 0) (by rw [f3_u1 10 (by decide), rel10_2 hrel]) ?_
  have b3 : (0 : Int) ≤ r 7 0 ∧ r 7 0 ≤ 150 := ok 7 0
  refine lv_i2d hx hb dX3_winding_9 ?_
  refine lv_ldc2d (v := 4627448617123184640) hx hb hown (hts (.constantDouble RX3 158 (4627448617123184640)) (List.mem_of_getElem? (i := 2) rfl)) dX3_winding_10 ?_
  refine lv_ddiv hx hb dX3_winding_13 (by exact mf_nan (by omega) (by omega)) ?_
  exact W.dret hx hb hr (fun t ht hW => ⟨⟨_, u1, rfl, by exact ⟨rfl, oku1, hfF, hz0, hrel1⟩, by rw [ht]; exact hP, hD⟩, hS.F ht⟩) hS.2.2 dX3_winding_14
set_option maxHeartbeats 4000000 in
set_option maxRecDepth 100000 in
theorem c_X3_digest (l : Launch) (G : mf_G) (hm : Nat) (adm : Nat → Nat) (u : mf_V)  (r : mf_V) (f : mf_V) (oku : rOK ulo uhi u) (ok : rOK rlo rhi r) (hI : RInv r) (hrel : relU r u) (okf : rOK flo fhi f) (hrf : relF f u) (hFI : FInv f) (sz : Nat) : Met l yX3_digest wsX3_digest ({ frames := 3, cells := 0, slots := 0, locals := 72 }) (va_Pc [.ref hm] (WrP G (MW G hm adm u) sz)) (va_Ql (fun q9 (u' : mf_V) => q9 = lI (digT r f) ∧ rOK ulo uhi u' ∧ frF u u' ∧ u' 0 0 = 0 ∧ relU r u') (fun (u' : mf_V) t => WrQ G (va_A (MW G hm adm u) sz) (MW G hm adm u') t) (va_A (MW G hm adm u) sz)) 0 0 (va_A (MW G hm adm u) sz) := by
  refine Met.ofW (cc := cX3_digest) (maxL := 7) (ret := (some .long)) (by decide) rfl ?_
  intro p e s m args below meth c s₁ B hml hv
  obtain ⟨rfl, hsz, hP, hK, hD0, hN⟩ := hv
  have hx := B.exec
  have hb := B.bytes
  have hr := B.returns
  have hts := atoms_spec (ws := wsX3_digest) B.pre
  have hown : s.vm.findClass RX3 = some m.cls := findClass_of_methodNamed B.named
  have hlocks := B.notSynchronized
  have hinX3 : ∀ w ∈ u_ws RX3 TX3 11, w ∈ wsX3_digest := fun w h => List.mem_cons_of_mem _ (List.mem_append_right _ h)
  subst hsz
  have hD := hD0.self (sz := s.heap.size)
  generalize hAe : va_A (MW G hm adm u) s.heap.size = A at hD ⊢
  have hA : ∀ q : Nat, s.heap.size ≤ q → A q := fun q h => by rw [← hAe]; exact Or.inr h
  have hS : va_S A s.heap s.heap [] := va_S.rf
  have hl := lv_entry ([.ref hm]) (n := 7) (Nat.le_of_ble_eq_true rfl)
  rw [lg_entry_eq]
  generalize (lg_sl ([.ref hm]) ++ List.replicate (7 - (lg_sl ([.ref hm])).length) Slot.unset).toArray = ls at hl ⊢
  have hl : lv_has ls 7 [(0, .ref hm)] := hl
  have okLr : (0 : Int) ≤ r 7 0 ∧ r 7 0 ≤ 150 := ok 7 0
  refine lv_aload_n hx hb dX3_digest_0 rfl (lv_at hl 0 rfl) ?_
  refine mf_iconst hx hb dX3_digest_1 ?_
  refine va_put (D := G.1) (ci := 3) (v := .int (iI (0))) (ty := .int) (C := RX3) (T := TX3) (N := 11) hx hb hts hinX3 tyX3 tyX3_ok nmX3 hown hK hP hD hS 0 rfl rfl 0 (by decide) (hts (.fieldLink RX3 41 "MeanderFarmModel" "thrown" "I") (List.mem_of_getElem? (i := 1) rfl)) (fun _ h9 => h9) rfl (by decide +kernel) rfl rfl (Nat.le_of_ble_eq_true rfl) dX3_digest_2 (fun H locs hP hD hS => ?_)
  obtain ⟨u1, eu1⟩ : ∃ z9 : mf_V, z9 = mf_sF u 0 (fun _ => 0) := ⟨_, rfl⟩
  have hP : va_P G.1 vwCl (MW G hm adm u1) H := by rw [eu1]; exact hP
  have hD : va_D A (MW G hm adm u1) := by rw [eu1]; exact hD
  have oku1 : rOK ulo uhi u1 := by rw [eu1]; exact rOK_set oku 0 _ (show (-1 : Int) ≤ 0 by omega) (show 0 ≤ (9 : Int) by omega)
  have f1_u1 : ∀ y, u1 0 y = 0 := fun y => by rw [eu1, mf_sF_s]
  have f3_u1 : ∀ q, q ≠ 0 → u1 q = u q := fun q hq => by rw [eu1, mf_sF_n hq]
  have hrel1 : relU r u1 := relU_cg f3_u1 hrel
  have hz0 : u1 0 0 = 0 := f1_u1 0
  have hfF : frF u u1 := ⟨f3_u1 4 (by decide), f3_u1 5 (by decide)⟩
  have h40 : u1 4 0 = f 4 0 := by rw [f3_u1 4 (by decide)]; exact hrf.1
  have b46 : (0 : Int) ≤ f 4 0 ∧ f 4 0 ≤ 6 := okf 4 0
  have hu4 : u 4 0 = f 4 0 := hrf.1
  refine mf_ldc2 hx hb 599 hown (hts (.constantLong RX3 160 (599)) (List.mem_of_getElem? (i := 2) rfl)) rfl dX3_digest_5 ?_
  refine lv_lstore_n (lv' := [(1, .long (lI (599))), (0, .ref hm)]) hx hb dX3_digest_8 rfl hl (by decide) rfl (fun ls hl => ?_)
  refine mf_iconst hx hb dX3_digest_9 ?_
  refine lv_istore_n (lv' := [(3, .int (iI (0))), (1, .long (lI (599))), (0, .ref hm)]) hx hb dX3_digest_10 rfl hl (by decide) rfl (fun ls hl => ?_)
  have lp11 : ∀ (n : Nat) (dv : Int) (kv : Int), (8 - kv).toNat < n → (0 ≤ kv ∧ kv ≤ 8) → (dv = ifold (fun k x => x * 31 + wrI (totF r (f 4 0) k)) 599 kv) → ∀ (H : Heap) (locs : List Loc), va_P G.1 vwCl (MW G hm adm u1) H → va_D A (MW G hm adm u1) → va_S A s.heap H locs → ∀ (ls : Array Slot), lv_has ls 7 [(0, .ref hm), (1, .long (lI (dv))), (3, .int (iI (kv)))] → W p l e (headSpec wsX3_digest ({ frames := 3, cells := 0, slots := 0, locals := 72 })).room s m ([.ref hm] : List Value).toArray below meth c H locs 0 0 (MQ below (va_Ql (fun q9 (u' : mf_V) => q9 = lI (digT r f) ∧ rOK ulo uhi u' ∧ frF u u' ∧ u' 0 0 = 0 ∧ relU r u') (fun (u' : mf_V) t => WrQ G A (MW G hm adm u') t) A) ([.ref hm] : List Value).toArray s 0 0 A) (F0 m 11 ls []) := by
    intro n
    induction n with
    | zero => intro dv kv hn; exact absurd hn (Nat.not_lt_zero _)
    | succ n ih11 =>
      intro dv kv hn hk hs H locs hP hD hS ls hl
      refine lv_iload_n hx hb dX3_digest_11 rfl (lv_at hl 2 rfl) ?_
      refine mf_bipush hx hb dX3_digest_12 rfl ?_
      refine mf_icmp_ge (tgt := 36) hx hb dX3_digest_14 (by decide) (i32_mk (by omega) (by omega)) (i32_mk (by decide) (by decide)) (fun c2 => ?_) (fun c2 => ?_)
      · skip
        refine lv_aload_n hx hb dX3_digest_36 rfl (lv_at hl 0 rfl) ?_
        refine va_get (D := G.1) (ci := 3) (v := .ref (adm 3)) (C := RX3) (T := TX3) (N := 11) hx hb hts hinX3 hown hK hP 0 rfl rfl 3 (by decide) (hts (.fieldLink RX3 17 "MeanderFarmModel" "flow" "[I") (List.mem_of_getElem? (i := 4) rfl)) (fun _ h9 => h9) rfl dX3_digest_37 ?_
        refine lv_astore_n (lv' := [(3, .ref (adm 3)), (0, .ref hm), (1, .long (lI (dv)))]) hx hb dX3_digest_40 rfl hl (by decide) rfl (fun ls hl => ?_)
        refine lv_aload_n hx hb dX3_digest_41 rfl (lv_at hl 0 rfl) ?_
        refine va_alen hx hb hK hP 3 0 rfl rfl (v := iI 12) rfl dX3_digest_42 ?_
        refine lv_istore (lv' := [(4, .int (iI (12))), (3, .ref (adm 3)), (0, .ref hm), (1, .long (lI (dv)))]) hx hb dX3_digest_43 hl (by decide) rfl (fun ls hl => ?_)
        refine mf_iconst hx hb dX3_digest_45 ?_
        refine lv_istore (lv' := [(5, .int (iI (0))), (4, .int (iI (12))), (3, .ref (adm 3)), (0, .ref hm), (1, .long (lI (dv)))]) hx hb dX3_digest_46 hl (by decide) rfl (fun ls hl => ?_)
        have lp48 : ∀ (n : Nat) (d2 : Int) (k2 : Int), (12 - k2).toNat < n → (0 ≤ k2 ∧ k2 ≤ 12) → (d2 = ifold (fun k x => x * 31 + r 5 k) (ifold (fun k x => x * 31 + wrI (totF r (f 4 0) k)) 599 8) k2) → ∀ (H : Heap) (locs : List Loc), va_P G.1 vwCl (MW G hm adm u1) H → va_D A (MW G hm adm u1) → va_S A s.heap H locs → ∀ (ls : Array Slot), lv_has ls 7 [(0, .ref hm), (1, .long (lI (d2))), (3, .ref (adm 3)), (4, .int (iI (12))), (5, .int (iI (k2)))] → W p l e (headSpec wsX3_digest ({ frames := 3, cells := 0, slots := 0, locals := 72 })).room s m ([.ref hm] : List Value).toArray below meth c H locs 0 0 (MQ below (va_Ql (fun q9 (u' : mf_V) => q9 = lI (digT r f) ∧ rOK ulo uhi u' ∧ frF u u' ∧ u' 0 0 = 0 ∧ relU r u') (fun (u' : mf_V) t => WrQ G A (MW G hm adm u') t) A) ([.ref hm] : List Value).toArray s 0 0 A) (F0 m 48 ls []) := by
          intro n
          induction n with
          | zero => intro d2 k2 hn; exact absurd hn (Nat.not_lt_zero _)
          | succ n ih48 =>
            intro d2 k2 hn hk2 hs2 H locs hP hD hS ls hl
            refine lv_iload hx hb dX3_digest_48 (lv_at hl 4 rfl) ?_
            refine lv_iload hx hb dX3_digest_50 (lv_at hl 3 rfl) ?_
            refine mf_icmp_ge (tgt := 77) hx hb dX3_digest_52 (by decide) (i32_mk (by omega) (by omega)) (i32_mk (by decide) (by decide)) (fun c3 => ?_) (fun c3 => ?_)
            · skip
              refine mf_iconst hx hb dX3_digest_77 ?_
              refine lv_istore_n (lv' := [(3, .int (iI (0))), (0, .ref hm), (1, .long (lI (d2))), (4, .int (iI (12))), (5, .int (iI (k2)))]) hx hb dX3_digest_78 rfl hl (by decide) rfl (fun ls hl => ?_)
              have lp79 : ∀ (n : Nat) (d3 : Int) (k3 : Int), (r 7 0 - k3).toNat < n → (0 ≤ k3 ∧ k3 ≤ r 7 0) → (d3 = ifold (fun k x => x * 31 + r 6 k) (ifold (fun k x => x * 31 + r 5 k) (ifold (fun k x => x * 31 + wrI (totF r (f 4 0) k)) 599 8) 12) k3) → ∀ (H : Heap) (locs : List Loc), va_P G.1 vwCl (MW G hm adm u1) H → va_D A (MW G hm adm u1) → va_S A s.heap H locs → ∀ (ls : Array Slot), lv_has ls 7 [(0, .ref hm), (1, .long (lI (d3))), (3, .int (iI (k3)))] → W p l e (headSpec wsX3_digest ({ frames := 3, cells := 0, slots := 0, locals := 72 })).room s m ([.ref hm] : List Value).toArray below meth c H locs 0 0 (MQ below (va_Ql (fun q9 (u' : mf_V) => q9 = lI (digT r f) ∧ rOK ulo uhi u' ∧ frF u u' ∧ u' 0 0 = 0 ∧ relU r u') (fun (u' : mf_V) t => WrQ G A (MW G hm adm u') t) A) ([.ref hm] : List Value).toArray s 0 0 A) (F0 m 79 ls []) := by
                intro n
                induction n with
                | zero => intro d3 k3 hn; exact absurd hn (Nat.not_lt_zero _)
                | succ n ih79 =>
                  intro d3 k3 hn hk3 hs3 H locs hP hD hS ls hl
                  refine lv_iload_n hx hb dX3_digest_79 rfl (lv_at hl 2 rfl) ?_
                  refine lv_aload_n hx hb dX3_digest_80 rfl (lv_at hl 0 rfl) ?_
                  refine vp_callSi (va_Run.run (va_runV (As := []) (rest := [.int (iI (k3))]) ⟨hx, hb, hml, hown, hts⟩ (c_X3_length l G hm adm u1 (by assumption)) (cwV 0 hts gX3_digest_X3_length rfl rfl rfl (by decide +kernel) ⟨Nat.le_of_ble_eq_true rfl, Nat.le_of_ble_eq_true rfl⟩) (rdV (wc := MW G hm adm u1) hK hP hN [0, 1, 2, 3, 4, 5, 6, 7, 8, 9] rfl (ci := 3) rfl rfl) rfl rfl hl.1 rfl (lv_room (Nat.le_of_ble_eq_true rfl)) dX3_digest_81 ⟨(Nat.zero_le _), (Nat.zero_le _)⟩)) (fun q4 hq4 => ?_)
                  subst hq4
                  refine mf_top (u1 10 2) (r 7 0) (by rw [f3_u1 10 (by decide), rel10_2 hrel]) ?_
                  have b5 : (0 : Int) ≤ r 7 0 ∧ r 7 0 ≤ 150 := ok 7 0
                  refine mf_icmp_ge (tgt := 107) hx hb dX3_digest_84 (by decide) (i32_mk (by omega) (by omega)) (i32_mk (by omega) (by omega)) (fun c6 => ?_) (fun c6 => ?_)
                  · skip
                    refine mf_iconst hx hb dX3_digest_107 ?_
                    refine lv_istore_n (lv' := [(3, .int (iI (0))), (0, .ref hm), (1, .long (lI (d3)))]) hx hb dX3_digest_108 rfl hl (by decide) rfl (fun ls hl => ?_)
                    have lp109 : ∀ (n : Nat) (d4 : Int) (k4 : Int), (384 - k4).toNat < n → (0 ≤ k4 ∧ k4 ≤ 384) → (d4 = ifold (fun k x => (((x * 31 + r 0 k) * 31 + r 1 k) * 31 + bP (¬ r 2 k = 0)) * 31 + lyl r k) (ifold (fun k x => x * 31 + r 6 k) (ifold (fun k x => x * 31 + r 5 k) (ifold (fun k x => x * 31 + wrI (totF r (f 4 0) k)) 599 8) 12) (r 7 0)) k4) → ∀ (H : Heap) (locs : List Loc), va_P G.1 vwCl (MW G hm adm u1) H → va_D A (MW G hm adm u1) → va_S A s.heap H locs → ∀ (ls : Array Slot), lv_has ls 7 [(0, .ref hm), (1, .long (lI (d4))), (3, .int (iI (k4)))] → W p l e (headSpec wsX3_digest ({ frames := 3, cells := 0, slots := 0, locals := 72 })).room s m ([.ref hm] : List Value).toArray below meth c H locs 0 0 (MQ below (va_Ql (fun q9 (u' : mf_V) => q9 = lI (digT r f) ∧ rOK ulo uhi u' ∧ frF u u' ∧ u' 0 0 = 0 ∧ relU r u') (fun (u' : mf_V) t => WrQ G A (MW G hm adm u') t) A) ([.ref hm] : List Value).toArray s 0 0 A) (F0 m 109 ls []) := by
                      intro n
                      induction n with
                      | zero => intro d4 k4 hn; exact absurd hn (Nat.not_lt_zero _)
                      | succ n ih109 =>
                        intro d4 k4 hn hk4 hs4 H locs hP hD hS ls hl
                        refine lv_iload_n hx hb dX3_digest_109 rfl (lv_at hl 2 rfl) ?_
                        refine mf_sipush hx hb dX3_digest_110 rfl ?_
                        refine mf_icmp_ge (tgt := 180) hx hb dX3_digest_113 (by decide) (i32_mk (by omega) (by omega)) (i32_mk (by decide) (by decide)) (fun c7 => ?_) (fun c7 => ?_)
                        · skip
                          refine mf_iconst hx hb dX3_digest_180 ?_
                          refine lv_istore_n (lv' := [(3, .int (iI (0))), (0, .ref hm), (1, .long (lI (d4)))]) hx hb dX3_digest_181 rfl hl (by decide) rfl (fun ls hl => ?_)
                          have lp182 : ∀ (n : Nat) (d5 : Int) (k5 : Int), (f 4 0 - k5).toNat < n → (0 ≤ k5 ∧ k5 ≤ f 4 0) → (d5 = ifold (fun k x => ifold (fun w y => y * 31 + cof f r k w) x 5) (digF r (ifold (fun k x => x * 31 + wrI (totF r (f 4 0) k)) 599 8)) k5) → ∀ (H : Heap) (locs : List Loc), va_P G.1 vwCl (MW G hm adm u1) H → va_D A (MW G hm adm u1) → va_S A s.heap H locs → ∀ (ls : Array Slot), lv_has ls 7 [(0, .ref hm), (1, .long (lI (d5))), (3, .int (iI (k5)))] → W p l e (headSpec wsX3_digest ({ frames := 3, cells := 0, slots := 0, locals := 72 })).room s m ([.ref hm] : List Value).toArray below meth c H locs 0 0 (MQ below (va_Ql (fun q9 (u' : mf_V) => q9 = lI (digT r f) ∧ rOK ulo uhi u' ∧ frF u u' ∧ u' 0 0 = 0 ∧ relU r u') (fun (u' : mf_V) t => WrQ G A (MW G hm adm u') t) A) ([.ref hm] : List Value).toArray s 0 0 A) (F0 m 182 ls []) := by
                            intro n
                            induction n with
                            | zero => intro d5 k5 hn; exact absurd hn (Nat.not_lt_zero _)
                            | succ n ih182 =>
                              intro d5 k5 hn hk5 hs5 H locs hP hD hS ls hl
                              refine lv_iload_n hx hb dX3_digest_182 rfl (lv_at hl 2 rfl) ?_
                              refine lv_aload_n hx hb dX3_digest_183 rfl (lv_at hl 0 rfl) ?_
                              refine va_get (D := G.1) (ci := 3) (v := .int (iI (u1 4 0))) (C := RX3) (T := TX3) (N := 11) hx hb hts hinX3 hown hK hP 0 rfl rfl 4 (by decide) (hts (.fieldLink RX3 64 "MeanderFarmModel" "farms" "I") (List.mem_of_getElem? (i := 10) rfl)) (fun _ h9 => h9) rfl dX3_digest_184 ?_
                              refine mf_top (u1 4 0) (u 4 0) (by rw [f3_u1 4 (by decide)]) ?_
                              have b8 : (0 : Int) ≤ u 4 0 ∧ u 4 0 ≤ 6 := oku 4 (0)
                              refine mf_icmp_ge (tgt := 226) hx hb dX3_digest_187 (by decide) (i32_mk (by omega) (by omega)) (i32_mk (by omega) (by omega)) (fun c9 => ?_) (fun c9 => ?_)
                              · skip
                                refine lv_lload_n hx hb dX3_digest_226 rfl (lv_at hl 1 rfl) ?_
                                exact W.lret hx hb hr (fun t ht hW => ⟨⟨_, u1, rfl, by exact ⟨by rw [hs5, show k5 = f 4 0 by omega]; rfl, oku1, hfF, hz0, hrel1⟩, by rw [ht]; exact hP, hD⟩, hS.F ht⟩) hS.2.2 dX3_digest_227
                              · skip
                                refine mf_iconst hx hb dX3_digest_190 ?_
                                refine lv_istore (lv' := [(4, .int (iI (0))), (0, .ref hm), (1, .long (lI (d5))), (3, .int (iI (k5)))]) hx hb dX3_digest_191 hl (by decide) rfl (fun ls hl => ?_)
                                have lp193 : ∀ (n : Nat) (d6 : Int) (w6 : Int), (5 - w6).toNat < n → (0 ≤ w6 ∧ w6 ≤ 5) → (d6 = ifold (fun w y => y * 31 + cof f r k5 w) (ifold (fun k x => ifold (fun w y => y * 31 + cof f r k w) x 5) (digF r (ifold (fun k x => x * 31 + wrI (totF r (f 4 0) k)) 599 8)) k5) w6) → ∀ (H : Heap) (locs : List Loc), va_P G.1 vwCl (MW G hm adm u1) H → va_D A (MW G hm adm u1) → va_S A s.heap H locs → ∀ (ls : Array Slot), lv_has ls 7 [(0, .ref hm), (1, .long (lI (d6))), (3, .int (iI (k5))), (4, .int (iI (w6)))] → W p l e (headSpec wsX3_digest ({ frames := 3, cells := 0, slots := 0, locals := 72 })).room s m ([.ref hm] : List Value).toArray below meth c H locs 0 0 (MQ below (va_Ql (fun q9 (u' : mf_V) => q9 = lI (digT r f) ∧ rOK ulo uhi u' ∧ frF u u' ∧ u' 0 0 = 0 ∧ relU r u') (fun (u' : mf_V) t => WrQ G A (MW G hm adm u') t) A) ([.ref hm] : List Value).toArray s 0 0 A) (F0 m 193 ls []) := by
                                  intro n
                                  induction n with
                                  | zero => intro d6 w6 hn; exact absurd hn (Nat.not_lt_zero _)
                                  | succ n ih193 =>
                                    intro d6 w6 hn hw6 hs6 H locs hP hD hS ls hl
                                    refine lv_iload hx hb dX3_digest_193 (lv_at hl 3 rfl) ?_
                                    refine mf_iconst hx hb dX3_digest_195 ?_
                                    refine mf_icmp_ge (tgt := 220) hx hb dX3_digest_196 (by decide) (i32_mk (by omega) (by omega)) (i32_mk (by decide) (by decide)) (fun c10 => ?_) (fun c10 => ?_)
                                    · skip
                                      refine lv_iinc (v := iI (k5 + 1)) (lv' := [(3, .int (iI (k5 + 1))), (0, .ref hm), (1, .long (lI (d6))), (4, .int (iI (w6)))]) hx hb dX3_digest_220 hl (k := 2) rfl (iI_add _ _).symm (by decide) rfl (fun ls hl => ?_)
                                      refine lv_goto (tgt := 182) hx hb dX3_digest_223 (by decide) ?_
                                      exact ih182 d6 (k5 + 1) (by omega) (by first | assumption | omega) (by rw [ifold_s _ _ hk5.1, hs6, show w6 = 5 by omega]) _ _ hP hD hS ls (lv_sub hl [1, 2, 0] rfl)
                                    · skip
                                      refine lv_lload_n hx hb dX3_digest_199 rfl (lv_at hl 1 rfl) ?_
                                      refine mf_ldc2 hx hb 31 hown (hts (.constantLong RX3 162 (31)) (List.mem_of_getElem? (i := 3) rfl)) rfl dX3_digest_200 ?_
                                      refine mf_lmul hx hb dX3_digest_203 ?_
                                      refine lv_aload_n hx hb dX3_digest_204 rfl (lv_at hl 0 rfl) ?_
                                      refine lv_iload_n hx hb dX3_digest_205 rfl (lv_at hl 2 rfl) ?_
                                      refine lv_iload hx hb dX3_digest_206 (lv_at hl 3 rfl) ?_
                                      refine vp_callSi (va_Run.run (va_runV (As := [.int (iI (k5)), .int (iI (w6))]) (rest := [.long (lI (d6 * 31))]) ⟨hx, hb, hml, hown, hts⟩ (c_X3_farmTold l G hm adm u1 (k5) (w6) (r) (f) (i32_mk (by omega) (by omega)) (i32_mk (by omega) (by omega)) (by assumption) (by assumption) (by first | assumption | omega) (by first | assumption | omega) (by assumption) (by exact relF_cg hfF hrf) (by first | assumption | omega) (by omega) (by omega)) (cwV 2 hts gX3_digest_X3_farmTold rfl rfl rfl (by decide +kernel) ⟨Nat.le_of_ble_eq_true rfl, Nat.le_of_ble_eq_true rfl⟩) (rdV (wc := MW G hm adm u1) hK hP hN [0, 1, 2, 3, 4, 5, 6, 7, 8, 9] rfl (ci := 3) rfl rfl) rfl rfl hl.1 rfl (lv_room (Nat.le_of_ble_eq_true rfl)) dX3_digest_208 ⟨(Nat.zero_le _), (Nat.zero_le _)⟩)) (fun q11 hq11 => ?_)
                                      subst hq11
                                      refine mf_nm (fun y12 ey12 => ?_)
                                      have b13 : 0 ≤ y12 ∧ y12 ≤ 384 := by rw [ey12]; exact cof_b (show rOK flo fhi (f) by assumption) k5 w6
                                      refine mf_i2l hx hb dX3_digest_211 (i32_mk (by omega) (by omega)) ?_
                                      refine mf_ladd hx hb dX3_digest_212 ?_
                                      refine lv_lstore_n (lv' := [(1, .long (lI ((d6 * 31) + y12))), (0, .ref hm), (3, .int (iI (k5))), (4, .int (iI (w6)))]) hx hb dX3_digest_213 rfl hl (by decide) rfl (fun ls hl => ?_)
                                      refine lv_iinc (v := iI (w6 + 1)) (lv' := [(4, .int (iI (w6 + 1))), (1, .long (lI ((d6 * 31) + y12))), (0, .ref hm), (3, .int (iI (k5)))]) hx hb dX3_digest_214 hl (k := 3) rfl (iI_add _ _).symm (by decide) rfl (fun ls hl => ?_)
                                      refine lv_goto (tgt := 193) hx hb dX3_digest_217 (by decide) ?_
                                      exact ih193 ((d6 * 31) + y12) (w6 + 1) (by omega) (by first | assumption | omega) (by rw [ifold_s _ _ hw6.1, ← hs6]; first | rfl | (rw [ey12])) _ _ hP hD hS ls (lv_sub hl [2, 1, 3, 0] rfl)
                                exact lp193 (_ + 1) d5 0 (Nat.lt_succ_self _) (by first | assumption | omega) (by rw [ifold_0]; exact hs5) _ _ hP hD hS ls (lv_sub hl [1, 2, 3, 0] rfl)
                          exact lp182 (_ + 1) d4 0 (Nat.lt_succ_self _) (by first | assumption | omega) (by rw [ifold_0, hs4, show k4 = 384 by omega]; rfl) _ _ hP hD hS ls (lv_sub hl [1, 2, 0] rfl)
                        · skip
                          refine lv_lload_n hx hb dX3_digest_116 rfl (lv_at hl 1 rfl) ?_
                          refine mf_ldc2 hx hb 31 hown (hts (.constantLong RX3 162 (31)) (List.mem_of_getElem? (i := 3) rfl)) rfl dX3_digest_117 ?_
                          refine mf_lmul hx hb dX3_digest_120 ?_
                          refine lv_aload_n hx hb dX3_digest_121 rfl (lv_at hl 0 rfl) ?_
                          refine va_get (D := G.1) (ci := 3) (v := .ref (adm 1)) (C := RX3) (T := TX3) (N := 11) hx hb hts hinX3 hown hK hP 0 rfl rfl 1 (by decide) (hts (.fieldLink RX3 9 "MeanderFarmModel" "hardness" "[I") (List.mem_of_getElem? (i := 6) rfl)) (fun _ h9 => h9) rfl dX3_digest_122 ?_
                          refine lv_iload_n hx hb dX3_digest_125 rfl (lv_at hl 2 rfl) ?_
                          refine mf_iald (n := 384) (f := u1 1) hx hb hK hP 1 0 rfl rfl (z := k4) (by omega) (by omega) (by decide) dX3_digest_126 ?_
                          refine mf_top (u1 1 k4) (r 0 k4) (by rw [f3_u1 1 (by decide), (rel1 hrel (z := k4) (by omega) (by omega))]) ?_
                          have b14 : (0 : Int) ≤ r 0 k4 ∧ r 0 k4 ≤ 9 := ok 0 (k4)
                          refine mf_i2l hx hb dX3_digest_127 (i32_mk (by omega) (by omega)) ?_
                          refine mf_ladd hx hb dX3_digest_128 ?_
                          refine mf_ldc2 hx hb 31 hown (hts (.constantLong RX3 162 (31)) (List.mem_of_getElem? (i := 3) rfl)) rfl dX3_digest_129 ?_
                          refine mf_lmul hx hb dX3_digest_132 ?_
                          refine lv_aload_n hx hb dX3_digest_133 rfl (lv_at hl 0 rfl) ?_
                          refine va_get (D := G.1) (ci := 3) (v := .ref (adm 8)) (C := RX3) (T := TX3) (N := 11) hx hb hts hinX3 hown hK hP 0 rfl rfl 8 (by decide) (hts (.fieldLink RX3 29 "MeanderFarmModel" "wear" "[I") (List.mem_of_getElem? (i := 7) rfl)) (fun _ h9 => h9) rfl dX3_digest_134 ?_
                          refine lv_iload_n hx hb dX3_digest_137 rfl (lv_at hl 2 rfl) ?_
                          refine mf_iald (n := 384) (f := u1 8) hx hb hK hP 7 0 rfl rfl (z := k4) (by omega) (by omega) (by decide) dX3_digest_138 ?_
                          refine mf_top (u1 8 k4) (r 1 k4) (by rw [f3_u1 8 (by decide), (rel8 hrel (z := k4) (by omega) (by omega))]) ?_
                          have b15 : (0 : Int) ≤ r 1 k4 ∧ r 1 k4 ≤ 200000000 := ok 1 (k4)
                          refine mf_i2l hx hb dX3_digest_139 (i32_mk (by omega) (by omega)) ?_
                          refine mf_ladd hx hb dX3_digest_140 ?_
                          refine mf_ldc2 hx hb 31 hown (hts (.constantLong RX3 162 (31)) (List.mem_of_getElem? (i := 3) rfl)) rfl dX3_digest_141 ?_
                          refine mf_lmul hx hb dX3_digest_144 ?_
                          refine lv_aload_n hx hb dX3_digest_145 rfl (lv_at hl 0 rfl) ?_
                          refine va_get (D := G.1) (ci := 3) (v := .ref (adm 2)) (C := RX3) (T := TX3) (N := 11) hx hb hts hinX3 hown hK hP 0 rfl rfl 2 (by decide) (hts (.fieldLink RX3 13 "MeanderFarmModel" "stones" "[Z") (List.mem_of_getElem? (i := 8) rfl)) (fun _ h9 => h9) rfl dX3_digest_146 ?_
                          refine lv_iload_n hx hb dX3_digest_149 rfl (lv_at hl 2 rfl) ?_
                          refine mf_zald (n := 384) (f := u1 2) hx hb hK hP 2 1 rfl rfl (z := k4) (by omega) (by omega) (by decide) dX3_digest_150 ?_
                          refine mf_top (u1 2 k4) (r 2 k4) (by rw [f3_u1 2 (by decide), (rel2 hrel (z := k4) (by omega) (by omega))]) ?_
                          have b16 : (0 : Int) ≤ r 2 k4 ∧ r 2 k4 ≤ 1 := ok 2 (k4)
                          refine mf_if_eq (tgt := 158) hx hb dX3_digest_151 (by decide) (i32_mk (by omega) (by omega)) (fun c17 => ?_) (fun c17 => ?_)
                          · skip
                            refine mf_iconst hx hb dX3_digest_158 ?_
                            refine mf_i2l hx hb dX3_digest_159 (i32_mk (by decide) (by decide)) ?_
                            refine mf_ladd hx hb dX3_digest_160 ?_
                            refine mf_ldc2 hx hb 31 hown (hts (.constantLong RX3 162 (31)) (List.mem_of_getElem? (i := 3) rfl)) rfl dX3_digest_161 ?_
                            refine mf_lmul hx hb dX3_digest_164 ?_
                            refine lv_aload_n hx hb dX3_digest_165 rfl (lv_at hl 0 rfl) ?_
                            refine va_get (D := G.1) (ci := 3) (v := .ref (adm 9)) (C := RX3) (T := TX3) (N := 11) hx hb hts hinX3 hown hK hP 0 rfl rfl 9 (by decide) (hts (.fieldLink RX3 32 "MeanderFarmModel" "lake" "[I") (List.mem_of_getElem? (i := 9) rfl)) (fun _ h9 => h9) rfl dX3_digest_166 ?_
                            refine lv_iload_n hx hb dX3_digest_169 rfl (lv_at hl 2 rfl) ?_
                            refine mf_iald (n := 384) (f := u1 9) hx hb hK hP 8 0 rfl rfl (z := k4) (by omega) (by omega) (by decide) dX3_digest_170 ?_
                            refine mf_top (u1 9 k4) (lyl r k4) (by rw [f3_u1 9 (by decide), (rel9 hrel (z := k4) (by omega) (by omega))]) ?_
                            have b18 := lyl_b ok (k4)
                            refine mf_i2l hx hb dX3_digest_171 (i32_mk (by omega) (by omega)) ?_
                            refine mf_ladd hx hb dX3_digest_172 ?_
                            refine lv_lstore_n (lv' := [(1, .long (lI ((((((((d4 * 31) + (r 0 k4)) * 31) + (r 1 k4)) * 31) + 0) * 31) + (lyl r k4)))), (0, .ref hm), (3, .int (iI (k4)))]) hx hb dX3_digest_173 rfl hl (by decide) rfl (fun ls hl => ?_)
                            refine lv_iinc (v := iI (k4 + 1)) (lv' := [(3, .int (iI (k4 + 1))), (1, .long (lI ((((((((d4 * 31) + (r 0 k4)) * 31) + (r 1 k4)) * 31) + 0) * 31) + (lyl r k4)))), (0, .ref hm)]) hx hb dX3_digest_174 hl (k := 2) rfl (iI_add _ _).symm (by decide) rfl (fun ls hl => ?_)
                            refine lv_goto (tgt := 109) hx hb dX3_digest_177 (by decide) ?_
                            exact ih109 ((((((((d4 * 31) + (r 0 k4)) * 31) + (r 1 k4)) * 31) + 0) * 31) + (lyl r k4)) (k4 + 1) (by omega) (by first | assumption | omega) (by rw [ifold_s _ _ hk4.1, ← hs4]; first | (rw [bP_t (by assumption)]; done) | (rw [bP_f (by omega)]; done)) _ _ hP hD hS ls (lv_sub hl [2, 1, 0] rfl)
                          · skip
                            refine mf_iconst hx hb dX3_digest_154 ?_
                            refine lv_goto (tgt := 159) hx hb dX3_digest_155 (by decide) ?_
                            refine mf_i2l hx hb dX3_digest_159 (i32_mk (by decide) (by decide)) ?_
                            refine mf_ladd hx hb dX3_digest_160 ?_
                            refine mf_ldc2 hx hb 31 hown (hts (.constantLong RX3 162 (31)) (List.mem_of_getElem? (i := 3) rfl)) rfl dX3_digest_161 ?_
                            refine mf_lmul hx hb dX3_digest_164 ?_
                            refine lv_aload_n hx hb dX3_digest_165 rfl (lv_at hl 0 rfl) ?_
                            refine va_get (D := G.1) (ci := 3) (v := .ref (adm 9)) (C := RX3) (T := TX3) (N := 11) hx hb hts hinX3 hown hK hP 0 rfl rfl 9 (by decide) (hts (.fieldLink RX3 32 "MeanderFarmModel" "lake" "[I") (List.mem_of_getElem? (i := 9) rfl)) (fun _ h9 => h9) rfl dX3_digest_166 ?_
                            refine lv_iload_n hx hb dX3_digest_169 rfl (lv_at hl 2 rfl) ?_
                            refine mf_iald (n := 384) (f := u1 9) hx hb hK hP 8 0 rfl rfl (z := k4) (by omega) (by omega) (by decide) dX3_digest_170 ?_
                            refine mf_top (u1 9 k4) (lyl r k4) (by rw [f3_u1 9 (by decide), (rel9 hrel (z := k4) (by omega) (by omega))]) ?_
                            have b19 := lyl_b ok (k4)
                            refine mf_i2l hx hb dX3_digest_171 (i32_mk (by omega) (by omega)) ?_
                            refine mf_ladd hx hb dX3_digest_172 ?_
                            refine lv_lstore_n (lv' := [(1, .long (lI ((((((((d4 * 31) + (r 0 k4)) * 31) + (r 1 k4)) * 31) + 1) * 31) + (lyl r k4)))), (0, .ref hm), (3, .int (iI (k4)))]) hx hb dX3_digest_173 rfl hl (by decide) rfl (fun ls hl => ?_)
                            refine lv_iinc (v := iI (k4 + 1)) (lv' := [(3, .int (iI (k4 + 1))), (1, .long (lI ((((((((d4 * 31) + (r 0 k4)) * 31) + (r 1 k4)) * 31) + 1) * 31) + (lyl r k4)))), (0, .ref hm)]) hx hb dX3_digest_174 hl (k := 2) rfl (iI_add _ _).symm (by decide) rfl (fun ls hl => ?_)
                            refine lv_goto (tgt := 109) hx hb dX3_digest_177 (by decide) ?_
                            exact ih109 ((((((((d4 * 31) + (r 0 k4)) * 31) + (r 1 k4)) * 31) + 1) * 31) + (lyl r k4)) (k4 + 1) (by omega) (by first | assumption | omega) (by rw [ifold_s _ _ hk4.1, ← hs4]; first | (rw [bP_t (by assumption)]; done) | (rw [bP_f (by omega)]; done)) _ _ hP hD hS ls (lv_sub hl [2, 1, 0] rfl)
                    exact lp109 (_ + 1) d3 0 (Nat.lt_succ_self _) (by first | assumption | omega) (by rw [ifold_0, hs3, show k3 = r 7 0 by omega]) _ _ hP hD hS ls (lv_sub hl [1, 2, 0] rfl)
                  · skip
                    refine lv_lload_n hx hb dX3_digest_87 rfl (lv_at hl 1 rfl) ?_
                    refine mf_ldc2 hx hb 31 hown (hts (.constantLong RX3 162 (31)) (List.mem_of_getElem? (i := 3) rfl)) rfl dX3_digest_88 ?_
                    refine mf_lmul hx hb dX3_digest_91 ?_
                    refine lv_aload_n hx hb dX3_digest_92 rfl (lv_at hl 0 rfl) ?_
                    refine va_get (D := G.1) (ci := 3) (v := .ref (adm 6)) (C := RX3) (T := TX3) (N := 11) hx hb hts hinX3 hown hK hP 0 rfl rfl 6 (by decide) (hts (.fieldLink RX3 23 "MeanderFarmModel" "course" "[I") (List.mem_of_getElem? (i := 5) rfl)) (fun _ h9 => h9) rfl dX3_digest_93 ?_
                    refine lv_iload_n hx hb dX3_digest_96 rfl (lv_at hl 2 rfl) ?_
                    refine mf_iald (n := 152) (f := u1 6) hx hb hK hP 5 0 rfl rfl (z := k3) (by omega) (by omega) (by decide) dX3_digest_97 ?_
                    refine mf_top (u1 6 k3) (r 6 k3) (by rw [f3_u1 6 (by decide), (rel6 hrel (z := k3) (by omega) (by omega))]) ?_
                    have b20 : (0 : Int) ≤ r 6 k3 ∧ r 6 k3 ≤ 383 := ok 6 (k3)
                    refine mf_i2l hx hb dX3_digest_98 (i32_mk (by omega) (by omega)) ?_
                    refine mf_ladd hx hb dX3_digest_99 ?_
                    refine lv_lstore_n (lv' := [(1, .long (lI ((d3 * 31) + (r 6 k3)))), (0, .ref hm), (3, .int (iI (k3)))]) hx hb dX3_digest_100 rfl hl (by decide) rfl (fun ls hl => ?_)
                    refine lv_iinc (v := iI (k3 + 1)) (lv' := [(3, .int (iI (k3 + 1))), (1, .long (lI ((d3 * 31) + (r 6 k3)))), (0, .ref hm)]) hx hb dX3_digest_101 hl (k := 2) rfl (iI_add _ _).symm (by decide) rfl (fun ls hl => ?_)
                    refine lv_goto (tgt := 79) hx hb dX3_digest_104 (by decide) ?_
                    exact ih79 ((d3 * 31) + (r 6 k3)) (k3 + 1) (by omega) (by first | assumption | omega) (by rw [ifold_s _ _ hk3.1, ← hs3]) _ _ hP hD hS ls (lv_sub hl [2, 1, 0] rfl)
              exact lp79 (_ + 1) d2 0 (Nat.lt_succ_self _) (by first | assumption | omega) (by rw [ifold_0, hs2, show k2 = 12 by omega]) _ _ hP hD hS ls (lv_sub hl [1, 2, 0] rfl)
            · skip
              refine lv_aload_n hx hb dX3_digest_55 rfl (lv_at hl 2 rfl) ?_
              refine lv_iload hx hb dX3_digest_56 (lv_at hl 4 rfl) ?_
              refine mf_iald (n := 12) (f := u1 3) hx hb hK hP 3 0 rfl rfl (z := k2) (by omega) (by omega) (by decide) dX3_digest_58 ?_
              refine mf_top (u1 3 k2) (r 5 k2) (by rw [f3_u1 3 (by decide), (rel3 hrel (z := k2) (by omega) (by omega))]) ?_
              have b21 : (0 : Int) ≤ r 5 k2 ∧ r 5 k2 ≤ 9 := ok 5 (k2)
              refine lv_istore (lv' := [(6, .int (iI (r 5 k2))), (0, .ref hm), (1, .long (lI (d2))), (3, .ref (adm 3)), (4, .int (iI (12))), (5, .int (iI (k2)))]) hx hb dX3_digest_59 hl (by decide) rfl (fun ls hl => ?_)
              refine lv_lload_n hx hb dX3_digest_61 rfl (lv_at hl 2 rfl) ?_
              refine mf_ldc2 hx hb 31 hown (hts (.constantLong RX3 162 (31)) (List.mem_of_getElem? (i := 3) rfl)) rfl dX3_digest_62 ?_
              refine mf_lmul hx hb dX3_digest_65 ?_
              refine lv_iload hx hb dX3_digest_66 (lv_at hl 0 rfl) ?_
              refine mf_i2l hx hb dX3_digest_68 (i32_mk (by omega) (by omega)) ?_
              refine mf_ladd hx hb dX3_digest_69 ?_
              refine lv_lstore_n (lv' := [(1, .long (lI ((d2 * 31) + (r 5 k2)))), (6, .int (iI (r 5 k2))), (0, .ref hm), (3, .ref (adm 3)), (4, .int (iI (12))), (5, .int (iI (k2)))]) hx hb dX3_digest_70 rfl hl (by decide) rfl (fun ls hl => ?_)
              refine lv_iinc (v := iI (k2 + 1)) (lv' := [(5, .int (iI (k2 + 1))), (1, .long (lI ((d2 * 31) + (r 5 k2)))), (6, .int (iI (r 5 k2))), (0, .ref hm), (3, .ref (adm 3)), (4, .int (iI (12)))]) hx hb dX3_digest_71 hl (k := 5) rfl (iI_add _ _).symm (by decide) rfl (fun ls hl => ?_)
              refine lv_goto (tgt := 48) hx hb dX3_digest_74 (by decide) ?_
              exact ih48 ((d2 * 31) + (r 5 k2)) (k2 + 1) (by omega) (by first | assumption | omega) (by rw [ifold_s _ _ hk2.1, ← hs2]) _ _ hP hD hS ls (lv_sub hl [3, 1, 4, 5, 0] rfl)
        exact lp48 (_ + 1) dv 0 (Nat.lt_succ_self _) (by first | assumption | omega) (by rw [ifold_0, hs, show kv = 8 by omega]) _ _ hP hD hS ls (lv_sub hl [3, 4, 2, 1, 0] rfl)
      · skip
        refine lv_lload_n hx hb dX3_digest_17 rfl (lv_at hl 1 rfl) ?_
        refine mf_ldc2 hx hb 31 hown (hts (.constantLong RX3 162 (31)) (List.mem_of_getElem? (i := 3) rfl)) rfl dX3_digest_18 ?_
        refine mf_lmul hx hb dX3_digest_21 ?_
        refine lv_aload_n hx hb dX3_digest_22 rfl (lv_at hl 0 rfl) ?_
        refine lv_iload_n hx hb dX3_digest_23 rfl (lv_at hl 2 rfl) ?_
        refine vp_callSi (va_Run.run (va_runV (As := [.int (iI (kv))]) (rest := [.long (lI (dv * 31))]) ⟨hx, hb, hml, hown, hts⟩ (c_X3_counted l G hm adm u1 (kv) (r) (i32_mk (by omega) (by omega)) (by assumption) (by assumption) (by first | assumption | omega) (by first | assumption | omega) (by omega)) (cwV 1 hts gX3_digest_X3_counted rfl rfl rfl (by decide +kernel) ⟨Nat.le_of_ble_eq_true rfl, Nat.le_of_ble_eq_true rfl⟩) (rdV (wc := MW G hm adm u1) hK hP hN [0, 1, 2, 3, 4, 5, 6, 7, 8, 9] rfl (ci := 3) rfl rfl) rfl rfl hl.1 rfl (lv_room (Nat.le_of_ble_eq_true rfl)) dX3_digest_24 ⟨(Nat.zero_le _), (Nat.zero_le _)⟩)) (fun q22 hq22 => ?_)
        subst hq22
        refine mf_top (totF (r) (u1 4 0) kv) (totF r (f 4 0) kv) (by rw [h40]) ?_
        skip
        refine mf_i2lw hx hb dX3_digest_27 ?_
        refine mf_ladd hx hb dX3_digest_28 ?_
        refine lv_lstore_n (lv' := [(1, .long (lI ((dv * 31) + (wrI (totF r (f 4 0) kv))))), (0, .ref hm), (3, .int (iI (kv)))]) hx hb dX3_digest_29 rfl hl (by decide) rfl (fun ls hl => ?_)
        refine lv_iinc (v := iI (kv + 1)) (lv' := [(3, .int (iI (kv + 1))), (1, .long (lI ((dv * 31) + (wrI (totF r (f 4 0) kv))))), (0, .ref hm)]) hx hb dX3_digest_30 hl (k := 2) rfl (iI_add _ _).symm (by decide) rfl (fun ls hl => ?_)
        refine lv_goto (tgt := 11) hx hb dX3_digest_33 (by decide) ?_
        exact ih11 ((dv * 31) + (wrI (totF r (f 4 0) kv))) (kv + 1) (by omega) (by first | assumption | omega) (by rw [ifold_s _ _ hk.1, ← hs]) _ _ hP hD hS ls (lv_sub hl [2, 1, 0] rfl)
  exact lp11 (_ + 1) 599 0 (Nat.lt_succ_self _) (by first | assumption | omega) (by exact (ifold_0 _ _).symm) _ _ hP hD hS ls (lv_sub hl [2, 1, 0] rfl)
