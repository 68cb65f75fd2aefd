/-! 40.mface3: the reference's calls that make rows of ints -/
def AW (G : mf_G) (h n : Nat) (v : mf_V) : va_W := [(h, .inl (G.2.1, n, .inl (ia (v 0))))]
def CW (h ci : Nat) (vs : List Value) : va_W := [(h, .inr (ci, vs))]
section MFN
variable {p : Program} {l : Launch} {e : Env} {R : Room} {s : State} {m : MethodId} {args : Array Value} {below : List Frame} {meth : Method} {c : Code} {H : Heap} {locs : List Loc} {cells slots : Nat} {Q : State → Prop}
variable {cc : ByteArray} {pc : Nat} {ls : Array Slot} {rest : List Value} {G : mf_G} {cl : List vw_C} {ws : va_W} {A : Nat → Prop} {H0 : Heap}
theorem mf_newi (hx : p.tables.exec = Jvm.exec) (hb : c.code = cc) (harr : (Cond.arrayClass .int).before args s = true) (hK : va_K G.1 cl (mf_ty G) s) (hP : va_P G.1 cl ws H) (hD : va_D A ws) (hS : va_S A H0 H locs) (hA : ∀ q, H0.size ≤ q → A q)
    {n : Int} {N : Nat} (hn : n = N) (hN : N ≤ 100000) (hcells : cells + 1 ≤ R.cells) (hslots : slots + N ≤ R.slots) (hdg : decode cc pc = .ok (.newarray .int, 2))
    (kk : ∀ (q : Nat) (H1 : Heap), va_P G.1 cl (ws ++ [(q, .inl (G.2.1, N, .inl (ia (fun _ => 0))))]) H1 → va_D A (ws ++ [(q, .inl (G.2.1, N, .inl (ia (fun _ => 0))))]) → va_S A H0 H1 locs →
      W p l e R s m args below meth c H1 locs (cells + 1) (slots + N) Q (F0 m (pc + 2) ls (.ref q :: rest))) : W p l e R s m args below meth c H locs cells slots Q (F0 m pc ls (.int (iI n) :: rest)) := by
  subst hn
  refine va_newa (atype := .int) (ty := .int) (N' := N) (a0 := (N, .inl (ia (fun _ => 0)))) hx hb harr rfl hK hP hD hS hA (fun cA => rfl) ?_ ?_ (by show N * 4 ≤ 536870912; omega) hcells hslots hdg (fun q cA H1 hK1 hP1 hD1 hS1 => ?_)
  · exact fun z => absurd z (by rw [show (0 : Int32) = iI 0 from rfl, iI_lt (i32_mk (by omega) (by omega)) i32_0]; omega)
  · rw [iI_cl (by omega) (by omega)]; exact Int.toNat_natCast N
  · have a := (hK1.2 2 (cA, .int) rfl).2
    have b := (hK.2 0 (G.2.1, .int) rfl).2
    have e : cA = G.2.1 := Option.some.inj (a.symm.trans b)
    subst e
    exact kk q H1 hP1 hD1 hS1
theorem mf_newz (hx : p.tables.exec = Jvm.exec) (hb : c.code = cc) (harr : (Cond.arrayClass .boolean).before args s = true) (hK : va_K G.1 cl (mf_ty G) s) (hP : va_P G.1 cl ws H) (hD : va_D A ws) (hS : va_S A H0 H locs) (hA : ∀ q, H0.size ≤ q → A q)
    {n : Int} {N : Nat} (hn : n = N) (hN : N ≤ 100000) (hcells : cells + 1 ≤ R.cells) (hslots : slots + N ≤ R.slots) (hdg : decode cc pc = .ok (.newarray .boolean, 2))
    (kk : ∀ (q : Nat) (H1 : Heap), va_P G.1 cl (ws ++ [(q, .inl (G.2.2, N, .inl (ia (fun _ => 0))))]) H1 → va_D A (ws ++ [(q, .inl (G.2.2, N, .inl (ia (fun _ => 0))))]) → va_S A H0 H1 locs →
      W p l e R s m args below meth c H1 locs (cells + 1) (slots + N) Q (F0 m (pc + 2) ls (.ref q :: rest))) : W p l e R s m args below meth c H locs cells slots Q (F0 m pc ls (.int (iI n) :: rest)) := by
  subst hn
  refine va_newa (atype := .boolean) (ty := .boolean) (N' := N) (a0 := (N, .inl (ia (fun _ => 0)))) hx hb harr rfl hK hP hD hS hA (fun cA => rfl) ?_ ?_ (by show N * 1 ≤ 536870912; omega) hcells hslots hdg (fun q cA H1 hK1 hP1 hD1 hS1 => ?_)
  · exact fun z => absurd z (by rw [show (0 : Int32) = iI 0 from rfl, iI_lt (i32_mk (by omega) (by omega)) i32_0]; omega)
  · rw [iI_cl (by omega) (by omega)]; exact Int.toNat_natCast N
  · have a := (hK1.2 2 (cA, .boolean) rfl).2
    have b := (hK.2 1 (G.2.2, .boolean) rfl).2
    have e : cA = G.2.2 := Option.some.inj (a.symm.trans b)
    subst e
    exact kk q H1 hP1 hD1 hS1
theorem mf_topw {x : Int32} (k : W p l e R s m args below meth c H locs cells slots Q (F0 m pc ls (.int (iI x.toInt) :: rest))) : W p l e R s m args below meth c H locs cells slots Q (F0 m pc ls (.int x :: rest)) := by rw [iI_of] at k; exact k
end MFN
theorem mf_or0 (x : Int32) : x ||| (iI 0) = x := by rw [show iI 0 = (0 : Int32) from rfl]; exact Int32.or_zero
/-- what cell() tells -/
noncomputable def vCell (r f : mf_V) (x y w : Int) : Int := if w = 0 then r 0 (x + 24 * y) else if w = 1 then r 1 (x + 24 * y) else if w = 2 then r 2 (x + 24 * y) else if w = 3 then r 10 (x + 24 * y) else if w = 4 then lyl r (x + 24 * y) else (faG f x y (f 4 0)).toInt
noncomputable def kCell2 (x y w : Int) : Int := mf_if (¬ (cellP x y ∧ 0 ≤ w ∧ w ≤ 5)) 1 0
noncomputable def kAdd (f : mf_V) (x y w d : Int) : Int := mf_if (¬ (cellP x y ∧ (1 ≤ w ∧ w ≤ 24 - x) ∧ 1 ≤ d ∧ d ≤ 16 - y)) 1 (mf_if (f 4 0 = 6) 2 0)
/-- the farms with one more -/
def addF (f : mf_V) (x y w d : Int) : mf_V := mf_sF (mf_sF (mf_sF (mf_sF (mf_sF f 0 (mf_up (f 0) (f 4 0) x)) 1 (mf_up (f 1) (f 4 0) y)) 2 (mf_up (f 2) (f 4 0) w)) 3 (mf_up (f 3) (f 4 0) d)) 4 (fun _ => f 4 0 + 1)
theorem addRel {f u w : mf_V} {x y wv d : Int} (okf : rOK flo fhi f) (h : relF f u) (h4 : w 4 0 = f 4 0 + 1) (lo : ∀ z, z < 4 * f 4 0 → w 5 z = u 5 z) (e0 : w 5 (4 * f 4 0) = x) (e1 : w 5 (4 * f 4 0 + 1) = y) (e2 : w 5 (4 * f 4 0 + 2) = wv) (e3 : w 5 (4 * f 4 0 + 3) = d) : relF (addF f x y wv d) w := by
  have a4 : addF f x y wv d 4 = fun _ => f 4 0 + 1 := mf_sF_s
  have a0 : addF f x y wv d 0 = mf_up (f 0) (f 4 0) x := by unfold addF; rw [mf_sF_n (by decide), mf_sF_n (by decide), mf_sF_n (by decide), mf_sF_n (by decide), mf_sF_s]
  have a1 : addF f x y wv d 1 = mf_up (f 1) (f 4 0) y := by unfold addF; rw [mf_sF_n (by decide), mf_sF_n (by decide), mf_sF_n (by decide), mf_sF_s]
  have a2 : addF f x y wv d 2 = mf_up (f 2) (f 4 0) wv := by unfold addF; rw [mf_sF_n (by decide), mf_sF_n (by decide), mf_sF_s]
  have a3 : addF f x y wv d 3 = mf_up (f 3) (f 4 0) d := by unfold addF; rw [mf_sF_n (by decide), mf_sF_s]
  refine ⟨by rw [a4, h4], fun k k0 k1 => ?_⟩
  rw [a4] at k1
  rw [a0, a1, a2, a3]
  by_cases q : k = f 4 0
  · rw [q, mf_up_s, mf_up_s, mf_up_s, mf_up_s]; exact ⟨e0, e1, e2, e3⟩
  · have k2 : k < f 4 0 := by have k3 : k < f 4 0 + 1 := k1; omega
    rw [mf_up_n q, mf_up_n q, mf_up_n q, mf_up_n q, lo _ (by omega), lo _ (by omega), lo _ (by omega), lo _ (by omega)]
    exact h.2 k k0 k2
theorem relU_f45 {r u w : mf_V} (f : ∀ k, k ≠ 0 → k ≠ 4 → k ≠ 5 → w k = u k) (h : relU r u) : relU r w := by
  obtain ⟨e1, e2, e3, e6, e7, e8, e9, m0, m1, m2⟩ := h
  refine ⟨?_, ?_, ?_, ?_, ?_, ?_, ?_, ?_, ?_, ?_⟩
  · rw [f 1 (by decide) (by decide) (by decide)]; exact e1
  · rw [f 2 (by decide) (by decide) (by decide)]; exact e2
  · rw [f 3 (by decide) (by decide) (by decide)]; exact e3
  · rw [f 6 (by decide) (by decide) (by decide)]; exact e6
  · rw [f 7 (by decide) (by decide) (by decide)]; exact e7
  · rw [f 8 (by decide) (by decide) (by decide)]; exact e8
  · rw [f 9 (by decide) (by decide) (by decide)]; exact e9
  · rw [f 10 (by decide) (by decide) (by decide)]; exact m0
  · rw [f 10 (by decide) (by decide) (by decide)]; exact m1
  · rw [f 10 (by decide) (by decide) (by decide)]; exact m2
set_option maxHeartbeats 4000000 in
set_option maxRecDepth 100000 in
theorem c_X3_cell (l : Launch) (G : mf_G) (hm : Nat) (adm : Nat → Nat) (u : mf_V)  (xv : Int) (yv : Int) (wv : Int) (r : mf_V) (f : mf_V) (hxv : i32 xv) (hyv : i32 yv) (hwv : i32 wv) (oku : rOK ulo uhi u) (ok : rOK rlo rhi r) (hI : RInv r) (hrel : relU r u) (okf : rOK flo fhi f) (hrf : relF f u) (hFI : FInv f) (sz : Nat) : Met l yX3_cell wsX3_cell ({ frames := 2, cells := 1, slots := 6, locals := 45 }) (va_Pc [.ref hm, .int (iI (xv)), .int (iI (yv)), .int (iI (wv))] (WrP G (MW G hm adm u) sz)) (va_Qi (fun q9 (u' : mf_V) => ∃ z : Int, q9 = iI z ∧ rOK ulo uhi u' ∧ frF u u' ∧ u' 0 0 = kCell2 xv yv wv ∧ (kCell2 xv yv wv = 0 → relU r u' ∧ z = vCell r f xv yv wv) ∧ (¬ kCell2 xv yv wv = 0 → relU r u')) (fun (u' : mf_V) t => WrQ G (va_A (MW G hm adm u) sz) (MW G hm adm u') t) (va_A (MW G hm adm u) sz)) 1 6 (va_A (MW G hm adm u) sz) := by
  refine Met.ofW (cc := cX3_cell) (maxL := 7) (ret := (some .int)) (by decide) rfl ?_
  intro p e s m args below meth c s₁ B hml hv
  obtain ⟨rfl, hsz, hP, hK, hD0, hN⟩ := hv
  have hx := B.exec
  have hb := B.bytes
  have hr := B.returns
  have hts := atoms_spec (ws := wsX3_cell) B.pre
  have hown : s.vm.findClass RX3 = some m.cls := findClass_of_methodNamed B.named
  have hlocks := B.notSynchronized
  have hinX3 : ∀ w ∈ u_ws RX3 TX3 11, w ∈ wsX3_cell := fun w h => List.mem_cons_of_mem _ (List.mem_append_right _ h)
  subst hsz
  have hD := hD0.self (sz := s.heap.size)
  generalize hAe : va_A (MW G hm adm u) s.heap.size = A at hD ⊢
  have hA : ∀ q : Nat, s.heap.size ≤ q → A q := fun q h => by rw [← hAe]; exact Or.inr h
  have hS : va_S A s.heap s.heap [] := va_S.rf
  have hl := lv_entry ([.ref hm, .int (iI (xv)), .int (iI (yv)), .int (iI (wv))]) (n := 7) (Nat.le_of_ble_eq_true rfl)
  rw [lg_entry_eq]
  generalize (lg_sl ([.ref hm, .int (iI (xv)), .int (iI (yv)), .int (iI (wv))]) ++ List.replicate (7 - (lg_sl ([.ref hm, .int (iI (xv)), .int (iI (yv)), .int (iI (wv))])).length) Slot.unset).toArray = ls at hl ⊢
  have hl : lv_has ls 7 [(0, .ref hm), (1, .int (iI (xv))), (2, .int (iI (yv))), (3, .int (iI (wv)))] := hl
  have hxv1 := hxv.1
  have hxv2 := hxv.2
  have hyv1 := hyv.1
  have hyv2 := hyv.2
  have hwv1 := hwv.1
  have hwv2 := hwv.2
  have okLr : (0 : Int) ≤ r 7 0 ∧ r 7 0 ≤ 150 := ok 7 0
  refine lv_aload_n hx hb dX3_cell_0 rfl (lv_at hl 0 rfl) ?_
  refine mf_iconst hx hb dX3_cell_1 ?_
  refine va_put (D := G.1) (ci := 3) (v := .int (iI (0))) (ty := .int) (C := RX3) (T := TX3) (N := 11) hx hb hts hinX3 tyX3 tyX3_ok nmX3 hown hK hP hD hS 0 rfl rfl 0 (by decide) (hts (.fieldLink RX3 41 "MeanderFarmModel" "thrown" "I") (List.mem_of_getElem? (i := 1) rfl)) (fun _ h9 => h9) rfl (by decide +kernel) rfl rfl (Nat.le_of_ble_eq_true rfl) dX3_cell_2 (fun H locs hP hD hS => ?_)
  obtain ⟨u1, eu1⟩ : ∃ z9 : mf_V, z9 = mf_sF u 0 (fun _ => 0) := ⟨_, rfl⟩
  have hP : va_P G.1 vwCl (MW G hm adm u1) H := by rw [eu1]; exact hP
  have hD : va_D A (MW G hm adm u1) := by rw [eu1]; exact hD
  have oku1 : rOK ulo uhi u1 := by rw [eu1]; exact rOK_set oku 0 _ (show (-1 : Int) ≤ 0 by omega) (show 0 ≤ (9 : Int) by omega)
  have f1_u1 : ∀ y, u1 0 y = 0 := fun y => by rw [eu1, mf_sF_s]
  have f3_u1 : ∀ q, q ≠ 0 → u1 q = u q := fun q hq => by rw [eu1, mf_sF_n hq]
  have hrel1 : relU r u1 := relU_cg f3_u1 hrel
  have hz0 : u1 0 0 = 0 := f1_u1 0
  have hfF : frF u u1 := ⟨f3_u1 4 (by decide), f3_u1 5 (by decide)⟩
  have h40 : u1 4 0 = f 4 0 := by rw [f3_u1 4 (by decide)]; exact hrf.1
  have hu4 : u 4 0 = f 4 0 := hrf.1
  have b46 : (0 : Int) ≤ f 4 0 ∧ f 4 0 ≤ 6 := okf 4 0
  refine lv_iload_n hx hb dX3_cell_5 rfl (lv_at hl 1 rfl) ?_
  refine lv_iload_n hx hb dX3_cell_6 rfl (lv_at hl 2 rfl) ?_
  refine vp_callSi (va_Run.run (va_runS (As := [.int (iI (xv)), .int (iI (yv))]) (rest := []) ⟨hx, hb, hml, hown, hts⟩ (c_X3_isCell l (xv) (yv) (i32_mk (by omega) (by omega)) (i32_mk (by omega) (by omega))) (va_cwS 2 hts gX3_cell_X3_isCell rfl rfl rfl (by decide +kernel) ⟨Nat.le_of_ble_eq_true rfl, Nat.le_of_ble_eq_true rfl⟩) pureS rfl rfl hl.1 rfl (lv_room (Nat.le_of_ble_eq_true rfl)) dX3_cell_7 ⟨(Nat.zero_le _), (Nat.zero_le _)⟩)) (fun q2 hq2 => ?_)
  subst hq2
  refine mf_bp_eq (tgt := 22) hx hb dX3_cell_10 (by decide) (fun c3 => ?_) (fun c3 => ?_)
  · skip
    refine lv_aload_n hx hb dX3_cell_22 rfl (lv_at hl 0 rfl) ?_
    refine mf_iconst hx hb dX3_cell_23 ?_
    have hFc := va_free (wc := MW G hm adm u1) hD hS hA [0, 1, 2, 3, 4, 5, 6, 7, 8, 9] rfl
    refine va_calli (va_runV (As := [.int (iI (1))]) (rest := []) ⟨hx, hb, hml, hown, hts⟩ (c_X3_fail l G hm adm u1 (1) (i32_mk (by decide) (by decide)) (by assumption) (by first | assumption | omega) _) (cwV 1 hts gX3_cell_X3_fail rfl rfl rfl (by decide +kernel) ⟨Nat.le_of_ble_eq_true rfl, Nat.le_of_ble_eq_true rfl⟩) (wrV (wc := MW G hm adm u1) hK hP hD hN [0, 1, 2, 3, 4, 5, 6, 7, 8, 9] (by decide) rfl rfl (ci := 3) rfl rfl) rfl rfl hl.1 rfl (lv_room (Nat.le_of_ble_eq_true rfl)) dX3_cell_24 ⟨(Nat.zero_le _), (Nat.zero_le _)⟩) hS (fun q _ h => hFc q h) hFc (fun q4 u5 t H1 locs ht hvm hw hB hz1 hk1 hS => ?_)
    obtain ⟨u6, rfl⟩ : ∃ z, z = u5 := ⟨_, rfl⟩
    try dsimp only at hw hB
    obtain ⟨hP, hD⟩ := wrJ (ws := MW G hm adm u1) (w1 := MW G hm adm u6) ht hFc hB
    have hP : va_P G.1 vwCl (MW G hm adm u6) H1 := hP
    have hD : va_D A (MW G hm adm u6) := hD
    clear hB hk1 hFc ht hz1 hvm
    generalize H1 = H at hP hS ⊢
    obtain ⟨z8, rfl, w7⟩ := hw
    have oku6 : rOK ulo uhi u6 := w7.1
    have hk9 : kCell2 xv yv wv = 1 := mf_if_t (fun z => by first | (exact absurd z.1 (by assumption)) | omega)
    refine W.widen (k := 1) (n := 6) (Nat.le_of_ble_eq_true rfl) (Nat.le_of_ble_eq_true rfl) ?_
    exact W.iret hx hb hr (fun t ht hW => ⟨⟨_, u6, rfl, ⟨_, rfl, by exact ⟨w7.1, ⟨(w7.2.1 4 (by decide)).trans hfF.1, (w7.2.1 5 (by decide)).trans hfF.2⟩, by rw [hk9]; exact w7.2.2.1, fun z9 => by rw [hk9] at z9; omega, fun _ => relU_cg w7.2.1 hrel1⟩⟩, by rw [ht]; exact hP, hD⟩, hS.F ht⟩) hS.2.2 dX3_cell_27
  · skip
    refine lv_iload_n hx hb dX3_cell_13 rfl (lv_at hl 3 rfl) ?_
    refine mf_iconst hx hb dX3_cell_14 ?_
    refine mf_iconst hx hb dX3_cell_15 ?_
    refine vp_callSi (va_Run.run (va_runS (As := [.int (iI (wv)), .int (iI (0)), .int (iI (5))]) (rest := []) ⟨hx, hb, hml, hown, hts⟩ (c_X3_isIn l (wv) (0) (5) (i32_mk (by omega) (by omega)) (i32_mk (by decide) (by decide)) (i32_mk (by decide) (by decide))) (va_cwS 3 hts gX3_cell_X3_isIn rfl rfl rfl (by decide +kernel) ⟨Nat.le_of_ble_eq_true rfl, Nat.le_of_ble_eq_true rfl⟩) pureS rfl rfl hl.1 rfl (lv_room (Nat.le_of_ble_eq_true rfl)) dX3_cell_16 ⟨(Nat.zero_le _), (Nat.zero_le _)⟩)) (fun q9 hq9 => ?_)
    subst hq9
    refine mf_bp_ne (tgt := 28) hx hb dX3_cell_19 (by decide) (fun c10 => ?_) (fun c10 => ?_)
    · skip
      refine lv_iload_n hx hb dX3_cell_28 rfl (lv_at hl 1 rfl) ?_
      refine mf_bipush hx hb dX3_cell_29 rfl ?_
      refine lv_iload_n hx hb dX3_cell_31 rfl (lv_at hl 2 rfl) ?_
      refine mf_imul hx hb dX3_cell_32 ?_
      refine mf_iadd hx hb dX3_cell_33 ?_
      refine lv_istore (lv' := [(4, .int (iI (xv + (24 * yv)))), (0, .ref hm), (1, .int (iI (xv))), (2, .int (iI (yv))), (3, .int (iI (wv)))]) hx hb dX3_cell_34 hl (by decide) rfl (fun ls hl => ?_)
      refine mf_iconst hx hb dX3_cell_36 ?_
      refine lv_istore (lv' := [(5, .int (iI (0))), (4, .int (iI (xv + (24 * yv)))), (0, .ref hm), (1, .int (iI (xv))), (2, .int (iI (yv))), (3, .int (iI (wv)))]) hx hb dX3_cell_37 hl (by decide) rfl (fun ls hl => ?_)
      refine mf_iconst hx hb dX3_cell_39 ?_
      refine lv_istore (lv' := [(6, .int (iI (0))), (5, .int (iI (0))), (4, .int (iI (xv + (24 * yv)))), (0, .ref hm), (1, .int (iI (xv))), (2, .int (iI (yv))), (3, .int (iI (wv)))]) hx hb dX3_cell_40 hl (by decide) rfl (fun ls hl => ?_)
      have lp42 : ∀ (n : Nat) (sv : Int32) (kv : Int), (f 4 0 - kv).toNat < n → (0 ≤ kv ∧ kv ≤ f 4 0) → (sv = faG f xv yv kv) → ∀ (H : Heap) (locs : List Loc), va_P G.1 vwCl (MW G hm adm u1) H → va_D A (MW G hm adm u1) → va_S A s.heap H locs → ∀ (ls : Array Slot), lv_has ls 7 [(0, .ref hm), (1, .int (iI (xv))), (2, .int (iI (yv))), (3, .int (iI (wv))), (4, .int (iI (xv + (24 * yv)))), (5, .int (sv)), (6, .int (iI (kv)))] → W p l e (headSpec wsX3_cell ({ frames := 2, cells := 1, slots := 6, locals := 45 })).room s m ([.ref hm, .int (iI (xv)), .int (iI (yv)), .int (iI (wv))] : List Value).toArray below meth c H locs 0 0 (MQ below (va_Qi (fun q9 (u' : mf_V) => ∃ z : Int, q9 = iI z ∧ rOK ulo uhi u' ∧ frF u u' ∧ u' 0 0 = kCell2 xv yv wv ∧ (kCell2 xv yv wv = 0 → relU r u' ∧ z = vCell r f xv yv wv) ∧ (¬ kCell2 xv yv wv = 0 → relU r u')) (fun (u' : mf_V) t => WrQ G A (MW G hm adm u') t) A) ([.ref hm, .int (iI (xv)), .int (iI (yv)), .int (iI (wv))] : List Value).toArray s 1 6 A) (F0 m 42 ls []) := by
        intro n
        induction n with
        | zero => intro sv kv hn; exact absurd hn (Nat.not_lt_zero _)
        | succ n ih42 =>
          intro sv kv hn hk hs H locs hP hD hS ls hl
          have m1 : (xv + 24 * yv) % 24 = xv := by omega
          have m2 : (xv + 24 * yv) / 24 = yv := by omega
          refine lv_iload hx hb dX3_cell_42 (lv_at hl 6 rfl) ?_
          refine lv_aload_n hx hb dX3_cell_44 rfl (lv_at hl 0 rfl) ?_
          refine va_get (D := G.1) (ci := 3) (v := .int (iI (u1 4 0))) (C := RX3) (T := TX3) (N := 11) hx hb hts hinX3 hown hK hP 0 rfl rfl 4 (by decide) (hts (.fieldLink RX3 64 "MeanderFarmModel" "farms" "I") (List.mem_of_getElem? (i := 2) rfl)) (fun _ h9 => h9) rfl dX3_cell_45 ?_
          refine mf_top (u1 4 0) (u 4 0) (by rw [f3_u1 4 (by decide)]) ?_
          have b11 : (0 : Int) ≤ u 4 0 ∧ u 4 0 ≤ 6 := oku 4 (0)
          refine mf_icmp_ge (tgt := 81) hx hb dX3_cell_48 (by decide) (i32_mk (by omega) (by omega)) (i32_mk (by omega) (by omega)) (fun c12 => ?_) (fun c12 => ?_)
          · skip
            refine mf_bipush hx hb dX3_cell_81 rfl ?_
            refine mf_newi hx hb (hts (.arrayClass .int) (List.mem_of_getElem? (i := 3) rfl)) hK hP hD hS hA (n := 6) (N := 6) rfl (Nat.le_of_ble_eq_true rfl) (Nat.le_of_ble_eq_true rfl) (Nat.le_of_ble_eq_true rfl) dX3_cell_83 (fun na13 H hP hD hS => ?_)
            obtain ⟨av14, eav14⟩ : ∃ z9 : mf_V, z9 = fun _ _ => 0 := ⟨_, rfl⟩
            have hP : va_P G.1 vwCl (MW G hm adm u1 ++ AW G na13 6 av14) H := by rw [eav14]; exact hP
            have hD : va_D A (MW G hm adm u1 ++ AW G na13 6 av14) := by rw [eav14]; exact hD
            refine lv_dup hx hb dX3_cell_85 rfl ?_
            refine mf_iconst hx hb dX3_cell_86 ?_
            refine lv_aload_n hx hb dX3_cell_87 rfl (lv_at hl 0 rfl) ?_
            refine va_get (D := G.1) (ci := 3) (v := .ref (adm 1)) (C := RX3) (T := TX3) (N := 11) hx hb hts hinX3 hown hK hP 0 rfl rfl 1 (by decide) (hts (.fieldLink RX3 9 "MeanderFarmModel" "hardness" "[I") (List.mem_of_getElem? (i := 4) rfl)) (fun _ h9 => h9) rfl dX3_cell_88 ?_
            refine lv_iload hx hb dX3_cell_91 (lv_at hl 4 rfl) ?_
            refine mf_iald (n := 384) (f := u1 1) hx hb hK hP 1 0 rfl rfl (z := xv + (24 * yv)) (by omega) (by omega) (by decide) dX3_cell_93 ?_
            refine mf_top (u1 1 (xv + (24 * yv))) (r 0 (xv + (24 * yv))) (by rw [f3_u1 1 (by decide), (rel1 hrel (z := xv + (24 * yv)) (by omega) (by omega))]) ?_
            have b15 : (0 : Int) ≤ r 0 (xv + (24 * yv)) ∧ r 0 (xv + (24 * yv)) ≤ 9 := ok 0 (xv + (24 * yv))
            refine mf_iast (n := 6) (f := av14 0) hx hb hK hP hD hS 10 0 rfl rfl (z := 0) (x := r 0 (xv + (24 * yv))) (by omega) (by omega) (by decide) dX3_cell_94 (fun H locs hP hD hS => ?_)
            obtain ⟨av16, eav16⟩ : ∃ z9 : mf_V, z9 = mf_sF av14 0 (mf_up (av14 0) (0) (r 0 (xv + (24 * yv)))) := ⟨_, rfl⟩
            have hP : va_P G.1 vwCl (MW G hm adm u1 ++ AW G na13 6 av16) H := by rw [eav16]; exact hP
            have hD : va_D A (MW G hm adm u1 ++ AW G na13 6 av16) := by rw [eav16]; exact hD
            have f1_av16 : av16 0 (0) = r 0 (xv + (24 * yv)) := by rw [eav16, mf_sF_s, mf_up_s]
            have f2_av16 : ∀ y, y ≠ (0) → av16 0 y = av14 0 y := fun y hy => by rw [eav16, mf_sF_s, mf_up_n hy]
            have f3_av16 : ∀ q, q ≠ 0 → av16 q = av14 q := fun q hq => by rw [eav16, mf_sF_n hq]
            refine lv_dup hx hb dX3_cell_95 rfl ?_
            refine mf_iconst hx hb dX3_cell_96 ?_
            refine lv_aload_n hx hb dX3_cell_97 rfl (lv_at hl 0 rfl) ?_
            refine va_get (D := G.1) (ci := 3) (v := .ref (adm 8)) (C := RX3) (T := TX3) (N := 11) hx hb hts hinX3 hown hK hP 0 rfl rfl 8 (by decide) (hts (.fieldLink RX3 29 "MeanderFarmModel" "wear" "[I") (List.mem_of_getElem? (i := 5) rfl)) (fun _ h9 => h9) rfl dX3_cell_98 ?_
            refine lv_iload hx hb dX3_cell_101 (lv_at hl 4 rfl) ?_
            refine mf_iald (n := 384) (f := u1 8) hx hb hK hP 7 0 rfl rfl (z := xv + (24 * yv)) (by omega) (by omega) (by decide) dX3_cell_103 ?_
            refine mf_top (u1 8 (xv + (24 * yv))) (r 1 (xv + (24 * yv))) (by rw [f3_u1 8 (by decide), (rel8 hrel (z := xv + (24 * yv)) (by omega) (by omega))]) ?_
            have b17 : (0 : Int) ≤ r 1 (xv + (24 * yv)) ∧ r 1 (xv + (24 * yv)) ≤ 200000000 := ok 1 (xv + (24 * yv))
            refine mf_iast (n := 6) (f := av16 0) hx hb hK hP hD hS 10 0 rfl rfl (z := 1) (x := r 1 (xv + (24 * yv))) (by omega) (by omega) (by decide) dX3_cell_104 (fun H locs hP hD hS => ?_)
            obtain ⟨av18, eav18⟩ : ∃ z9 : mf_V, z9 = mf_sF av16 0 (mf_up (av16 0) (1) (r 1 (xv + (24 * yv)))) := ⟨_, rfl⟩
            have hP : va_P G.1 vwCl (MW G hm adm u1 ++ AW G na13 6 av18) H := by rw [eav18]; exact hP
            have hD : va_D A (MW G hm adm u1 ++ AW G na13 6 av18) := by rw [eav18]; exact hD
            have f1_av18 : av18 0 (1) = r 1 (xv + (24 * yv)) := by rw [eav18, mf_sF_s, mf_up_s]
            have f2_av18 : ∀ y, y ≠ (1) → av18 0 y = av16 0 y := fun y hy => by rw [eav18, mf_sF_s, mf_up_n hy]
            have f3_av18 : ∀ q, q ≠ 0 → av18 q = av16 q := fun q hq => by rw [eav18, mf_sF_n hq]
            refine lv_dup hx hb dX3_cell_105 rfl ?_
            refine mf_iconst hx hb dX3_cell_106 ?_
            refine lv_aload_n hx hb dX3_cell_107 rfl (lv_at hl 0 rfl) ?_
            refine va_get (D := G.1) (ci := 3) (v := .ref (adm 2)) (C := RX3) (T := TX3) (N := 11) hx hb hts hinX3 hown hK hP 0 rfl rfl 2 (by decide) (hts (.fieldLink RX3 13 "MeanderFarmModel" "stones" "[Z") (List.mem_of_getElem? (i := 6) rfl)) (fun _ h9 => h9) rfl dX3_cell_108 ?_
            refine lv_iload hx hb dX3_cell_111 (lv_at hl 4 rfl) ?_
            refine mf_zald (n := 384) (f := u1 2) hx hb hK hP 2 1 rfl rfl (z := xv + (24 * yv)) (by omega) (by omega) (by decide) dX3_cell_113 ?_
            refine mf_top (u1 2 (xv + (24 * yv))) (r 2 (xv + (24 * yv))) (by rw [f3_u1 2 (by decide), (rel2 hrel (z := xv + (24 * yv)) (by omega) (by omega))]) ?_
            have b19 : (0 : Int) ≤ r 2 (xv + (24 * yv)) ∧ r 2 (xv + (24 * yv)) ≤ 1 := ok 2 (xv + (24 * yv))
            refine mf_if_eq (tgt := 121) hx hb dX3_cell_114 (by decide) (i32_mk (by omega) (by omega)) (fun c20 => ?_) (fun c20 => ?_)
            · skip
              refine mf_iconst hx hb dX3_cell_121 ?_
              refine mf_iast (n := 6) (f := av18 0) hx hb hK hP hD hS 10 0 rfl rfl (z := 2) (x := 0) (by omega) (by omega) (by decide) dX3_cell_122 (fun H locs hP hD hS => ?_)
              obtain ⟨av21, eav21⟩ : ∃ z9 : mf_V, z9 = mf_sF av18 0 (mf_up (av18 0) (2) (0)) := ⟨_, rfl⟩
              have hP : va_P G.1 vwCl (MW G hm adm u1 ++ AW G na13 6 av21) H := by rw [eav21]; exact hP
              have hD : va_D A (MW G hm adm u1 ++ AW G na13 6 av21) := by rw [eav21]; exact hD
              have f1_av21 : av21 0 (2) = 0 := by rw [eav21, mf_sF_s, mf_up_s]
              have f2_av21 : ∀ y, y ≠ (2) → av21 0 y = av18 0 y := fun y hy => by rw [eav21, mf_sF_s, mf_up_n hy]
              have f3_av21 : ∀ q, q ≠ 0 → av21 q = av18 q := fun q hq => by rw [eav21, mf_sF_n hq]
              refine lv_dup hx hb dX3_cell_123 rfl ?_
              refine mf_iconst hx hb dX3_cell_124 ?_
              refine lv_aload_n hx hb dX3_cell_125 rfl (lv_at hl 0 rfl) ?_
              refine va_get (D := G.1) (ci := 3) (v := .ref (adm 7)) (C := RX3) (T := TX3) (N := 11) hx hb hts hinX3 hown hK hP 0 rfl rfl 7 (by decide) (hts (.fieldLink RX3 26 "MeanderFarmModel" "where" "[I") (List.mem_of_getElem? (i := 7) rfl)) (fun _ h9 => h9) rfl dX3_cell_126 ?_
              refine lv_iload hx hb dX3_cell_129 (lv_at hl 4 rfl) ?_
              refine mf_iald (n := 384) (f := u1 7) hx hb hK hP 6 0 rfl rfl (z := xv + (24 * yv)) (by omega) (by omega) (by decide) dX3_cell_131 ?_
              refine mf_top (u1 7 (xv + (24 * yv))) (r 10 (xv + (24 * yv))) (by rw [f3_u1 7 (by decide), (rel7 hrel (z := xv + (24 * yv)) (by omega) (by omega))]) ?_
              have b22 : (-1 : Int) ≤ r 10 (xv + (24 * yv)) ∧ r 10 (xv + (24 * yv)) ≤ 149 := ok 10 (xv + (24 * yv))
              refine mf_iast (n := 6) (f := av21 0) hx hb hK hP hD hS 10 0 rfl rfl (z := 3) (x := r 10 (xv + (24 * yv))) (by omega) (by omega) (by decide) dX3_cell_132 (fun H locs hP hD hS => ?_)
              obtain ⟨av23, eav23⟩ : ∃ z9 : mf_V, z9 = mf_sF av21 0 (mf_up (av21 0) (3) (r 10 (xv + (24 * yv)))) := ⟨_, rfl⟩
              have hP : va_P G.1 vwCl (MW G hm adm u1 ++ AW G na13 6 av23) H := by rw [eav23]; exact hP
              have hD : va_D A (MW G hm adm u1 ++ AW G na13 6 av23) := by rw [eav23]; exact hD
              have f1_av23 : av23 0 (3) = r 10 (xv + (24 * yv)) := by rw [eav23, mf_sF_s, mf_up_s]
              have f2_av23 : ∀ y, y ≠ (3) → av23 0 y = av21 0 y := fun y hy => by rw [eav23, mf_sF_s, mf_up_n hy]
              have f3_av23 : ∀ q, q ≠ 0 → av23 q = av21 q := fun q hq => by rw [eav23, mf_sF_n hq]
              refine lv_dup hx hb dX3_cell_133 rfl ?_
              refine mf_iconst hx hb dX3_cell_134 ?_
              refine lv_aload_n hx hb dX3_cell_135 rfl (lv_at hl 0 rfl) ?_
              refine va_get (D := G.1) (ci := 3) (v := .ref (adm 9)) (C := RX3) (T := TX3) (N := 11) hx hb hts hinX3 hown hK hP 0 rfl rfl 9 (by decide) (hts (.fieldLink RX3 32 "MeanderFarmModel" "lake" "[I") (List.mem_of_getElem? (i := 8) rfl)) (fun _ h9 => h9) rfl dX3_cell_136 ?_
              refine lv_iload hx hb dX3_cell_139 (lv_at hl 4 rfl) ?_
              refine mf_iald (n := 384) (f := u1 9) hx hb hK hP 8 0 rfl rfl (z := xv + (24 * yv)) (by omega) (by omega) (by decide) dX3_cell_141 ?_
              refine mf_top (u1 9 (xv + (24 * yv))) (lyl r (xv + (24 * yv))) (by rw [f3_u1 9 (by decide), (rel9 hrel (z := xv + (24 * yv)) (by omega) (by omega))]) ?_
              have b24 := lyl_b ok (xv + (24 * yv))
              refine mf_iast (n := 6) (f := av23 0) hx hb hK hP hD hS 10 0 rfl rfl (z := 4) (x := lyl r (xv + (24 * yv))) (by omega) (by omega) (by decide) dX3_cell_142 (fun H locs hP hD hS => ?_)
              obtain ⟨av25, eav25⟩ : ∃ z9 : mf_V, z9 = mf_sF av23 0 (mf_up (av23 0) (4) (lyl r (xv + (24 * yv)))) := ⟨_, rfl⟩
              have hP : va_P G.1 vwCl (MW G hm adm u1 ++ AW G na13 6 av25) H := by rw [eav25]; exact hP
              have hD : va_D A (MW G hm adm u1 ++ AW G na13 6 av25) := by rw [eav25]; exact hD
              have f1_av25 : av25 0 (4) = lyl r (xv + (24 * yv)) := by rw [eav25, mf_sF_s, mf_up_s]
              have f2_av25 : ∀ y, y ≠ (4) → av25 0 y = av23 0 y := fun y hy => by rw [eav25, mf_sF_s, mf_up_n hy]
              have f3_av25 : ∀ q, q ≠ 0 → av25 q = av23 q := fun q hq => by rw [eav25, mf_sF_n hq]
              refine lv_dup hx hb dX3_cell_143 rfl ?_
              refine mf_iconst hx hb dX3_cell_144 ?_
              skip
              refine lv_iload hx hb dX3_cell_145 (lv_at hl 5 rfl) ?_
              refine mf_topw ?_
              skip
              refine mf_iast (n := 6) (f := av25 0) hx hb hK hP hD hS 10 0 rfl rfl (z := 5) (x := (sv).toInt) (by omega) (by omega) (by decide) dX3_cell_147 (fun H locs hP hD hS => ?_)
              obtain ⟨av26, eav26⟩ : ∃ z9 : mf_V, z9 = mf_sF av25 0 (mf_up (av25 0) (5) ((sv).toInt)) := ⟨_, rfl⟩
              have hP : va_P G.1 vwCl (MW G hm adm u1 ++ AW G na13 6 av26) H := by rw [eav26]; exact hP
              have hD : va_D A (MW G hm adm u1 ++ AW G na13 6 av26) := by rw [eav26]; exact hD
              have f1_av26 : av26 0 (5) = (sv).toInt := by rw [eav26, mf_sF_s, mf_up_s]
              have f2_av26 : ∀ y, y ≠ (5) → av26 0 y = av25 0 y := fun y hy => by rw [eav26, mf_sF_s, mf_up_n hy]
              have f3_av26 : ∀ q, q ≠ 0 → av26 q = av25 q := fun q hq => by rw [eav26, mf_sF_n hq]
              refine lv_astore (lv' := [(6, .ref na13), (0, .ref hm), (1, .int (iI (xv))), (2, .int (iI (yv))), (3, .int (iI (wv))), (4, .int (iI (xv + (24 * yv)))), (5, .int (sv))]) hx hb dX3_cell_148 hl (by decide) rfl (fun ls hl => ?_)
              refine lv_aload hx hb dX3_cell_150 (lv_at hl 0 rfl) ?_
              refine lv_iload_n hx hb dX3_cell_152 rfl (lv_at hl 4 rfl) ?_
              refine mf_iald (n := 6) (f := av26 0) hx hb hK hP 10 0 rfl rfl (z := wv) (by omega) (by omega) (by decide) dX3_cell_153 ?_
              have hin9 : cellP xv yv := by assumption
              have hk9 : kCell2 xv yv wv = 0 := mf_if_f (fun z => z ⟨hin9, by omega⟩)
              have hs9 : sv = faG f xv yv (f 4 0) := by rw [hs, show kv = f 4 0 by omega]
              have b2 : (0 : Int) ≤ r 2 (xv + 24 * yv) ∧ r 2 (xv + 24 * yv) ≤ 1 := ok 2 _
              have hv9 : av26 0 wv = vCell r f xv yv wv := by
                unfold vCell
                rcases (show wv = 0 ∨ wv = 1 ∨ wv = 2 ∨ wv = 3 ∨ wv = 4 ∨ wv = 5 by omega) with z | z | z | z | z | z
                · rw [z, f2_av26 0 (by decide), f2_av25 0 (by decide), f2_av23 0 (by decide), f2_av21 0 (by decide), f2_av18 0 (by decide), f1_av16, if_pos rfl]
                · rw [z, f2_av26 1 (by decide), f2_av25 1 (by decide), f2_av23 1 (by decide), f2_av21 1 (by decide), f1_av18, if_neg (by decide), if_pos rfl]
                · rw [z, f2_av26 2 (by decide), f2_av25 2 (by decide), f2_av23 2 (by decide), f1_av21, if_neg (by decide), if_neg (by decide), if_pos rfl]; omega
                · rw [z, f2_av26 3 (by decide), f2_av25 3 (by decide), f1_av23, if_neg (by decide), if_neg (by decide), if_neg (by decide), if_pos rfl]
                · rw [z, f2_av26 4 (by decide), f1_av25, if_neg (by decide), if_neg (by decide), if_neg (by decide), if_neg (by decide), if_pos rfl]
                · rw [z, f1_av26, if_neg (by decide), if_neg (by decide), if_neg (by decide), if_neg (by decide), if_neg (by decide)]; rw [hs9]
              have hP := hP.sub (ws' := MW G hm adm u1) [0, 1, 2, 3, 4, 5, 6, 7, 8, 9] rfl
              have hD := hD.sub (ws' := MW G hm adm u1) [0, 1, 2, 3, 4, 5, 6, 7, 8, 9] (by decide) rfl
              exact W.iret hx hb hr (fun t ht hW => ⟨⟨_, u1, rfl, ⟨_, rfl, by exact ⟨oku1, hfF, by rw [hk9]; exact hz0, fun _ => ⟨hrel1, hv9⟩, fun z9 => absurd hk9 z9⟩⟩, by rw [ht]; exact hP, hD⟩, hS.F ht⟩) hS.2.2 dX3_cell_154
            · skip
              refine mf_iconst hx hb dX3_cell_117 ?_
              refine lv_goto (tgt := 122) hx hb dX3_cell_118 (by decide) ?_
              refine mf_iast (n := 6) (f := av18 0) hx hb hK hP hD hS 10 0 rfl rfl (z := 2) (x := 1) (by omega) (by omega) (by decide) dX3_cell_122 (fun H locs hP hD hS => ?_)
              obtain ⟨av27, eav27⟩ : ∃ z9 : mf_V, z9 = mf_sF av18 0 (mf_up (av18 0) (2) (1)) := ⟨_, rfl⟩
              have hP : va_P G.1 vwCl (MW G hm adm u1 ++ AW G na13 6 av27) H := by rw [eav27]; exact hP
              have hD : va_D A (MW G hm adm u1 ++ AW G na13 6 av27) := by rw [eav27]; exact hD
              have f1_av27 : av27 0 (2) = 1 := by rw [eav27, mf_sF_s, mf_up_s]
              have f2_av27 : ∀ y, y ≠ (2) → av27 0 y = av18 0 y := fun y hy => by rw [eav27, mf_sF_s, mf_up_n hy]
              have f3_av27 : ∀ q, q ≠ 0 → av27 q = av18 q := fun q hq => by rw [eav27, mf_sF_n hq]
              refine lv_dup hx hb dX3_cell_123 rfl ?_
              refine mf_iconst hx hb dX3_cell_124 ?_
              refine lv_aload_n hx hb dX3_cell_125 rfl (lv_at hl 0 rfl) ?_
              refine va_get (D := G.1) (ci := 3) (v := .ref (adm 7)) (C := RX3) (T := TX3) (N := 11) hx hb hts hinX3 hown hK hP 0 rfl rfl 7 (by decide) (hts (.fieldLink RX3 26 "MeanderFarmModel" "where" "[I") (List.mem_of_getElem? (i := 7) rfl)) (fun _ h9 => h9) rfl dX3_cell_126 ?_
              refine lv_iload hx hb dX3_cell_129 (lv_at hl 4 rfl) ?_
              refine mf_iald (n := 384) (f := u1 7) hx hb hK hP 6 0 rfl rfl (z := xv + (24 * yv)) (by omega) (by omega) (by decide) dX3_cell_131 ?_
              refine mf_top (u1 7 (xv + (24 * yv))) (r 10 (xv + (24 * yv))) (by rw [f3_u1 7 (by decide), (rel7 hrel (z := xv + (24 * yv)) (by omega) (by omega))]) ?_
              have b28 : (-1 : Int) ≤ r 10 (xv + (24 * yv)) ∧ r 10 (xv + (24 * yv)) ≤ 149 := ok 10 (xv + (24 * yv))
              refine mf_iast (n := 6) (f := av27 0) hx hb hK hP hD hS 10 0 rfl rfl (z := 3) (x := r 10 (xv + (24 * yv))) (by omega) (by omega) (by decide) dX3_cell_132 (fun H locs hP hD hS => ?_)
              obtain ⟨av29, eav29⟩ : ∃ z9 : mf_V, z9 = mf_sF av27 0 (mf_up (av27 0) (3) (r 10 (xv + (24 * yv)))) := ⟨_, rfl⟩
              have hP : va_P G.1 vwCl (MW G hm adm u1 ++ AW G na13 6 av29) H := by rw [eav29]; exact hP
              have hD : va_D A (MW G hm adm u1 ++ AW G na13 6 av29) := by rw [eav29]; exact hD
              have f1_av29 : av29 0 (3) = r 10 (xv + (24 * yv)) := by rw [eav29, mf_sF_s, mf_up_s]
              have f2_av29 : ∀ y, y ≠ (3) → av29 0 y = av27 0 y := fun y hy => by rw [eav29, mf_sF_s, mf_up_n hy]
              have f3_av29 : ∀ q, q ≠ 0 → av29 q = av27 q := fun q hq => by rw [eav29, mf_sF_n hq]
              refine lv_dup hx hb dX3_cell_133 rfl ?_
              refine mf_iconst hx hb dX3_cell_134 ?_
              refine lv_aload_n hx hb dX3_cell_135 rfl (lv_at hl 0 rfl) ?_
              refine va_get (D := G.1) (ci := 3) (v := .ref (adm 9)) (C := RX3) (T := TX3) (N := 11) hx hb hts hinX3 hown hK hP 0 rfl rfl 9 (by decide) (hts (.fieldLink RX3 32 "MeanderFarmModel" "lake" "[I") (List.mem_of_getElem? (i := 8) rfl)) (fun _ h9 => h9) rfl dX3_cell_136 ?_
              refine lv_iload hx hb dX3_cell_139 (lv_at hl 4 rfl) ?_
              refine mf_iald (n := 384) (f := u1 9) hx hb hK hP 8 0 rfl rfl (z := xv + (24 * yv)) (by omega) (by omega) (by decide) dX3_cell_141 ?_
              refine mf_top (u1 9 (xv + (24 * yv))) (lyl r (xv + (24 * yv))) (by rw [f3_u1 9 (by decide), (rel9 hrel (z := xv + (24 * yv)) (by omega) (by omega))]) ?_
              have b30 := lyl_b ok (xv + (24 * yv))
              refine mf_iast (n := 6) (f := av29 0) hx hb hK hP hD hS 10 0 rfl rfl (z := 4) (x := lyl r (xv + (24 * yv))) (by omega) (by omega) (by decide) dX3_cell_142 (fun H locs hP hD hS => ?_)
              obtain ⟨av31, eav31⟩ : ∃ z9 : mf_V, z9 = mf_sF av29 0 (mf_up (av29 0) (4) (lyl r (xv + (24 * yv)))) := ⟨_, rfl⟩
              have hP : va_P G.1 vwCl (MW G hm adm u1 ++ AW G na13 6 av31) H := by rw [eav31]; exact hP
              have hD : va_D A (MW G hm adm u1 ++ AW G na13 6 av31) := by rw [eav31]; exact hD
              have f1_av31 : av31 0 (4) = lyl r (xv + (24 * yv)) := by rw [eav31, mf_sF_s, mf_up_s]
              have f2_av31 : ∀ y, y ≠ (4) → av31 0 y = av29 0 y := fun y hy => by rw [eav31, mf_sF_s, mf_up_n hy]
              have f3_av31 : ∀ q, q ≠ 0 → av31 q = av29 q := fun q hq => by rw [eav31, mf_sF_n hq]
              refine lv_dup hx hb dX3_cell_143 rfl ?_
              refine mf_iconst hx hb dX3_cell_144 ?_
              skip
              refine lv_iload hx hb dX3_cell_145 (lv_at hl 5 rfl) ?_
              refine mf_topw ?_
              skip
              refine mf_iast (n := 6) (f := av31 0) hx hb hK hP hD hS 10 0 rfl rfl (z := 5) (x := (sv).toInt) (by omega) (by omega) (by decide) dX3_cell_147 (fun H locs hP hD hS => ?_)
              obtain ⟨av32, eav32⟩ : ∃ z9 : mf_V, z9 = mf_sF av31 0 (mf_up (av31 0) (5) ((sv).toInt)) := ⟨_, rfl⟩
              have hP : va_P G.1 vwCl (MW G hm adm u1 ++ AW G na13 6 av32) H := by rw [eav32]; exact hP
              have hD : va_D A (MW G hm adm u1 ++ AW G na13 6 av32) := by rw [eav32]; exact hD
              have f1_av32 : av32 0 (5) = (sv).toInt := by rw [eav32, mf_sF_s, mf_up_s]
              have f2_av32 : ∀ y, y ≠ (5) → av32 0 y = av31 0 y := fun y hy => by rw [eav32, mf_sF_s, mf_up_n hy]
              have f3_av32 : ∀ q, q ≠ 0 → av32 q = av31 q := fun q hq => by rw [eav32, mf_sF_n hq]
              refine lv_astore (lv' := [(6, .ref na13), (0, .ref hm), (1, .int (iI (xv))), (2, .int (iI (yv))), (3, .int (iI (wv))), (4, .int (iI (xv + (24 * yv)))), (5, .int (sv))]) hx hb dX3_cell_148 hl (by decide) rfl (fun ls hl => ?_)
              refine lv_aload hx hb dX3_cell_150 (lv_at hl 0 rfl) ?_
              refine lv_iload_n hx hb dX3_cell_152 rfl (lv_at hl 4 rfl) ?_
              refine mf_iald (n := 6) (f := av32 0) hx hb hK hP 10 0 rfl rfl (z := wv) (by omega) (by omega) (by decide) dX3_cell_153 ?_
              have hin9 : cellP xv yv := by assumption
              have hk9 : kCell2 xv yv wv = 0 := mf_if_f (fun z => z ⟨hin9, by omega⟩)
              have hs9 : sv = faG f xv yv (f 4 0) := by rw [hs, show kv = f 4 0 by omega]
              have b2 : (0 : Int) ≤ r 2 (xv + 24 * yv) ∧ r 2 (xv + 24 * yv) ≤ 1 := ok 2 _
              have hv9 : av32 0 wv = vCell r f xv yv wv := by
                unfold vCell
                rcases (show wv = 0 ∨ wv = 1 ∨ wv = 2 ∨ wv = 3 ∨ wv = 4 ∨ wv = 5 by omega) with z | z | z | z | z | z
                · rw [z, f2_av32 0 (by decide), f2_av31 0 (by decide), f2_av29 0 (by decide), f2_av27 0 (by decide), f2_av18 0 (by decide), f1_av16, if_pos rfl]
                · rw [z, f2_av32 1 (by decide), f2_av31 1 (by decide), f2_av29 1 (by decide), f2_av27 1 (by decide), f1_av18, if_neg (by decide), if_pos rfl]
                · rw [z, f2_av32 2 (by decide), f2_av31 2 (by decide), f2_av29 2 (by decide), f1_av27, if_neg (by decide), if_neg (by decide), if_pos rfl]; omega
                · rw [z, f2_av32 3 (by decide), f2_av31 3 (by decide), f1_av29, if_neg (by decide), if_neg (by decide), if_neg (by decide), if_pos rfl]
                · rw [z, f2_av32 4 (by decide), f1_av31, if_neg (by decide), if_neg (by decide), if_neg (by decide), if_neg (by decide), if_pos rfl]
                · rw [z, f1_av32, if_neg (by decide), if_neg (by decide), if_neg (by decide), if_neg (by decide), if_neg (by decide)]; rw [hs9]
              have hP := hP.sub (ws' := MW G hm adm u1) [0, 1, 2, 3, 4, 5, 6, 7, 8, 9] rfl
              have hD := hD.sub (ws' := MW G hm adm u1) [0, 1, 2, 3, 4, 5, 6, 7, 8, 9] (by decide) rfl
              exact W.iret hx hb hr (fun t ht hW => ⟨⟨_, u1, rfl, ⟨_, rfl, by exact ⟨oku1, hfF, by rw [hk9]; exact hz0, fun _ => ⟨hrel1, hv9⟩, fun z9 => absurd hk9 z9⟩⟩, by rw [ht]; exact hP, hD⟩, hS.F ht⟩) hS.2.2 dX3_cell_154
          · skip
            refine lv_iload hx hb dX3_cell_51 (lv_at hl 5 rfl) ?_
            refine lv_aload_n hx hb dX3_cell_53 rfl (lv_at hl 0 rfl) ?_
            refine lv_iload hx hb dX3_cell_54 (lv_at hl 6 rfl) ?_
            refine lv_iload hx hb dX3_cell_56 (lv_at hl 4 rfl) ?_
            refine vp_callSi (va_Run.run (va_runV (As := [.int (iI (kv)), .int (iI (xv + (24 * yv)))]) (rest := [.int (sv)]) ⟨hx, hb, hml, hown, hts⟩ (c_X3_isOf l G hm adm u1 (kv) (xv + (24 * yv)) (f) (i32_mk (by omega) (by omega)) (i32_mk (by omega) (by omega)) (by assumption) (by assumption) (by exact relF_cg hfF hrf) (by omega) (by omega)) (cwV 2 hts gX3_cell_X3_isOf rfl rfl rfl (by decide +kernel) ⟨Nat.le_of_ble_eq_true rfl, Nat.le_of_ble_eq_true rfl⟩) (rdV (wc := MW G hm adm u1) hK hP hN [0, 1, 2, 3, 4, 5, 6, 7, 8, 9] rfl (ci := 3) rfl rfl) rfl rfl hl.1 rfl (lv_room (Nat.le_of_ble_eq_true rfl)) dX3_cell_58 ⟨(Nat.zero_le _), (Nat.zero_le _)⟩)) (fun q33 hq33 => ?_)
            subst hq33
            refine mf_bp_eq (tgt := 71) hx hb dX3_cell_61 (by decide) (fun c34 => ?_) (fun c34 => ?_)
            · skip
              rw [m1, m2] at c34
              refine mf_iconst hx hb dX3_cell_71 ?_
              refine lv_ior hx hb dX3_cell_72 ?_
              refine lv_istore (lv' := [(5, .int ((sv) ||| (iI (0)))), (0, .ref hm), (1, .int (iI (xv))), (2, .int (iI (yv))), (3, .int (iI (wv))), (4, .int (iI (xv + (24 * yv)))), (6, .int (iI (kv)))]) hx hb dX3_cell_73 hl (by decide) rfl (fun ls hl => ?_)
              refine lv_iinc (v := iI (kv + 1)) (lv' := [(6, .int (iI (kv + 1))), (5, .int ((sv) ||| (iI (0)))), (0, .ref hm), (1, .int (iI (xv))), (2, .int (iI (yv))), (3, .int (iI (wv))), (4, .int (iI (xv + (24 * yv))))]) hx hb dX3_cell_75 hl (k := 6) rfl (iI_add _ _).symm (by decide) rfl (fun ls hl => ?_)
              refine lv_goto (tgt := 42) hx hb dX3_cell_78 (by decide) ?_
              exact ih42 ((sv) ||| (iI (0))) (kv + 1) (by omega) (by first | assumption | omega) (by subst hs; first | (rw [faG_t f xv yv (by omega) (by assumption)]; done) | (rw [faG_f f xv yv (by omega) (by assumption)]; exact mf_or0 _)) _ _ hP hD hS ls (lv_sub hl [2, 3, 4, 5, 6, 1, 0] rfl)
            · skip
              rw [m1, m2] at c34
              refine mf_iconst hx hb dX3_cell_64 ?_
              refine lv_iload hx hb dX3_cell_65 (lv_at hl 6 rfl) ?_
              refine lv_ishl hx hb dX3_cell_67 ?_
              refine lv_goto (tgt := 72) hx hb dX3_cell_68 (by decide) ?_
              refine lv_ior hx hb dX3_cell_72 ?_
              refine lv_istore (lv' := [(5, .int ((sv) ||| ((iI (1)) <<< ((iI (kv)) &&& 31)))), (0, .ref hm), (1, .int (iI (xv))), (2, .int (iI (yv))), (3, .int (iI (wv))), (4, .int (iI (xv + (24 * yv)))), (6, .int (iI (kv)))]) hx hb dX3_cell_73 hl (by decide) rfl (fun ls hl => ?_)
              refine lv_iinc (v := iI (kv + 1)) (lv' := [(6, .int (iI (kv + 1))), (5, .int ((sv) ||| ((iI (1)) <<< ((iI (kv)) &&& 31)))), (0, .ref hm), (1, .int (iI (xv))), (2, .int (iI (yv))), (3, .int (iI (wv))), (4, .int (iI (xv + (24 * yv))))]) hx hb dX3_cell_75 hl (k := 6) rfl (iI_add _ _).symm (by decide) rfl (fun ls hl => ?_)
              refine lv_goto (tgt := 42) hx hb dX3_cell_78 (by decide) ?_
              exact ih42 ((sv) ||| ((iI (1)) <<< ((iI (kv)) &&& 31))) (kv + 1) (by omega) (by first | assumption | omega) (by subst hs; first | (rw [faG_t f xv yv (by omega) (by assumption)]; done) | (rw [faG_f f xv yv (by omega) (by assumption)]; exact mf_or0 _)) _ _ hP hD hS ls (lv_sub hl [2, 3, 4, 5, 6, 1, 0] rfl)
      exact lp42 (_ + 1) 0 0 (Nat.lt_succ_self _) (by first | assumption | omega) (by rfl) _ _ hP hD hS ls (lv_sub hl [3, 4, 5, 6, 2, 1, 0] rfl)
    · skip
      refine lv_aload_n hx hb dX3_cell_22 rfl (lv_at hl 0 rfl) ?_
      refine mf_iconst hx hb dX3_cell_23 ?_
      have hFc := va_free (wc := MW G hm adm u1) hD hS hA [0, 1, 2, 3, 4, 5, 6, 7, 8, 9] rfl
      refine va_calli (va_runV (As := [.int (iI (1))]) (rest := []) ⟨hx, hb, hml, hown, hts⟩ (c_X3_fail l G hm adm u1 (1) (i32_mk (by decide) (by decide)) (by assumption) (by first | assumption | omega) _) (cwV 1 hts gX3_cell_X3_fail rfl rfl rfl (by decide +kernel) ⟨Nat.le_of_ble_eq_true rfl, Nat.le_of_ble_eq_true rfl⟩) (wrV (wc := MW G hm adm u1) hK hP hD hN [0, 1, 2, 3, 4, 5, 6, 7, 8, 9] (by decide) rfl rfl (ci := 3) rfl rfl) rfl rfl hl.1 rfl (lv_room (Nat.le_of_ble_eq_true rfl)) dX3_cell_24 ⟨(Nat.zero_le _), (Nat.zero_le _)⟩) hS (fun q _ h => hFc q h) hFc (fun q35 u36 t H1 locs ht hvm hw hB hz1 hk1 hS => ?_)
      obtain ⟨u37, rfl⟩ : ∃ z, z = u36 := ⟨_, rfl⟩
      try dsimp only at hw hB
      obtain ⟨hP, hD⟩ := wrJ (ws := MW G hm adm u1) (w1 := MW G hm adm u37) ht hFc hB
      have hP : va_P G.1 vwCl (MW G hm adm u37) H1 := hP
      have hD : va_D A (MW G hm adm u37) := hD
      clear hB hk1 hFc ht hz1 hvm
      generalize H1 = H at hP hS ⊢
      obtain ⟨z39, rfl, w38⟩ := hw
      have oku37 : rOK ulo uhi u37 := w38.1
      have hk9 : kCell2 xv yv wv = 1 := mf_if_t (fun z => by first | (exact absurd z.1 (by assumption)) | omega)
      refine W.widen (k := 1) (n := 6) (Nat.le_of_ble_eq_true rfl) (Nat.le_of_ble_eq_true rfl) ?_
      exact W.iret hx hb hr (fun t ht hW => ⟨⟨_, u37, rfl, ⟨_, rfl, by exact ⟨w38.1, ⟨(w38.2.1 4 (by decide)).trans hfF.1, (w38.2.1 5 (by decide)).trans hfF.2⟩, by rw [hk9]; exact w38.2.2.1, fun z9 => by rw [hk9] at z9; omega, fun _ => relU_cg w38.2.1 hrel1⟩⟩, by rw [ht]; exact hP, hD⟩, hS.F ht⟩) hS.2.2 dX3_cell_27
set_option maxHeartbeats 4000000 in
set_option maxRecDepth 100000 in
theorem c_X3_addFarm (l : Launch) (G : mf_G) (hm : Nat) (adm : Nat → Nat) (u : mf_V)  (xv : Int) (yv : Int) (wv : Int) (dv : Int) (r : mf_V) (f : mf_V) (hxv : i32 xv) (hyv : i32 yv) (hwv : i32 wv) (hdv : i32 dv) (oku : rOK ulo uhi u) (ok : rOK rlo rhi r) (hI : RInv r) (hrel : relU r u) (okf : rOK flo fhi f) (hrf : relF f u) (hFI : FInv f) (sz : Nat) : Met l yX3_addFarm wsX3_addFarm ({ frames := 2, cells := 1, slots := 4, locals := 43 }) (va_Pc [.ref hm, .int (iI (xv)), .int (iI (yv)), .int (iI (wv)), .int (iI (dv))] (WrP G (MW G hm adm u) sz)) (va_Qi (fun q9 (u' : mf_V) => ∃ z : Int, q9 = iI z ∧ rOK ulo uhi u' ∧ u' 0 0 = kAdd f xv yv wv dv ∧ (kAdd f xv yv wv dv = 0 → relU r u' ∧ relF (addF f xv yv wv dv) u' ∧ z = f 4 0) ∧ (¬ kAdd f xv yv wv dv = 0 → frF u u' ∧ relU r u')) (fun (u' : mf_V) t => WrQ G (va_A (MW G hm adm u) sz) (MW G hm adm u') t) (va_A (MW G hm adm u) sz)) 1 4 (va_A (MW G hm adm u) sz) := by
  refine Met.ofW (cc := cX3_addFarm) (maxL := 6) (ret := (some .int)) (by decide) rfl ?_
  intro p e s m args below meth c s₁ B hml hv
  obtain ⟨rfl, hsz, hP, hK, hD0, hN⟩ := hv
  have hx := B.exec
  have hb := B.bytes
  have hr := B.returns
  have hts := atoms_spec (ws := wsX3_addFarm) B.pre
  have hown : s.vm.findClass RX3 = some m.cls := findClass_of_methodNamed B.named
  have hlocks := B.notSynchronized
  have hinX3 : ∀ w ∈ u_ws RX3 TX3 11, w ∈ wsX3_addFarm := fun w h => List.mem_cons_of_mem _ (List.mem_append_right _ h)
  subst hsz
  have hD := hD0.self (sz := s.heap.size)
  generalize hAe : va_A (MW G hm adm u) s.heap.size = A at hD ⊢
  have hA : ∀ q : Nat, s.heap.size ≤ q → A q := fun q h => by rw [← hAe]; exact Or.inr h
  have hS : va_S A s.heap s.heap [] := va_S.rf
  have hl := lv_entry ([.ref hm, .int (iI (xv)), .int (iI (yv)), .int (iI (wv)), .int (iI (dv))]) (n := 6) (Nat.le_of_ble_eq_true rfl)
  rw [lg_entry_eq]
  generalize (lg_sl ([.ref hm, .int (iI (xv)), .int (iI (yv)), .int (iI (wv)), .int (iI (dv))]) ++ List.replicate (6 - (lg_sl ([.ref hm, .int (iI (xv)), .int (iI (yv)), .int (iI (wv)), .int (iI (dv))])).length) Slot.unset).toArray = ls at hl ⊢
  have hl : lv_has ls 6 [(0, .ref hm), (1, .int (iI (xv))), (2, .int (iI (yv))), (3, .int (iI (wv))), (4, .int (iI (dv)))] := hl
  have hxv1 := hxv.1
  have hxv2 := hxv.2
  have hyv1 := hyv.1
  have hyv2 := hyv.2
  have hwv1 := hwv.1
  have hwv2 := hwv.2
  have hdv1 := hdv.1
  have hdv2 := hdv.2
  have okLr : (0 : Int) ≤ r 7 0 ∧ r 7 0 ≤ 150 := ok 7 0
  refine lv_aload_n hx hb dX3_addFarm_0 rfl (lv_at hl 0 rfl) ?_
  refine mf_iconst hx hb dX3_addFarm_1 ?_
  refine va_put (D := G.1) (ci := 3) (v := .int (iI (0))) (ty := .int) (C := RX3) (T := TX3) (N := 11) hx hb hts hinX3 tyX3 tyX3_ok nmX3 hown hK hP hD hS 0 rfl rfl 0 (by decide) (hts (.fieldLink RX3 41 "MeanderFarmModel" "thrown" "I") (List.mem_of_getElem? (i := 1) rfl)) (fun _ h9 => h9) rfl (by decide +kernel) rfl rfl (Nat.le_of_ble_eq_true rfl) dX3_addFarm_2 (fun H locs hP hD hS => ?_)
  obtain ⟨u1, eu1⟩ : ∃ z9 : mf_V, z9 = mf_sF u 0 (fun _ => 0) := ⟨_, rfl⟩
  have hP : va_P G.1 vwCl (MW G hm adm u1) H := by rw [eu1]; exact hP
  have hD : va_D A (MW G hm adm u1) := by rw [eu1]; exact hD
  have oku1 : rOK ulo uhi u1 := by rw [eu1]; exact rOK_set oku 0 _ (show (-1 : Int) ≤ 0 by omega) (show 0 ≤ (9 : Int) by omega)
  have f1_u1 : ∀ y, u1 0 y = 0 := fun y => by rw [eu1, mf_sF_s]
  have f3_u1 : ∀ q, q ≠ 0 → u1 q = u q := fun q hq => by rw [eu1, mf_sF_n hq]
  have hrel1 : relU r u1 := relU_cg f3_u1 hrel
  have hz0 : u1 0 0 = 0 := f1_u1 0
  have hfF : frF u u1 := ⟨f3_u1 4 (by decide), f3_u1 5 (by decide)⟩
  have h40 : u1 4 0 = f 4 0 := by rw [f3_u1 4 (by decide)]; exact hrf.1
  have hu4 : u 4 0 = f 4 0 := hrf.1
  have b46 : (0 : Int) ≤ f 4 0 ∧ f 4 0 ≤ 6 := okf 4 0
  refine lv_iload_n hx hb dX3_addFarm_5 rfl (lv_at hl 1 rfl) ?_
  refine lv_iload_n hx hb dX3_addFarm_6 rfl (lv_at hl 2 rfl) ?_
  refine vp_callSi (va_Run.run (va_runS (As := [.int (iI (xv)), .int (iI (yv))]) (rest := []) ⟨hx, hb, hml, hown, hts⟩ (c_X3_isCell l (xv) (yv) (i32_mk (by omega) (by omega)) (i32_mk (by omega) (by omega))) (va_cwS 2 hts gX3_addFarm_X3_isCell rfl rfl rfl (by decide +kernel) ⟨Nat.le_of_ble_eq_true rfl, Nat.le_of_ble_eq_true rfl⟩) pureS rfl rfl hl.1 rfl (lv_room (Nat.le_of_ble_eq_true rfl)) dX3_addFarm_7 ⟨(Nat.zero_le _), (Nat.zero_le _)⟩)) (fun q2 hq2 => ?_)
  subst hq2
  refine mf_bp_eq (tgt := 38) hx hb dX3_addFarm_10 (by decide) (fun c3 => ?_) (fun c3 => ?_)
  · skip
    refine lv_aload_n hx hb dX3_addFarm_38 rfl (lv_at hl 0 rfl) ?_
    refine mf_iconst hx hb dX3_addFarm_39 ?_
    have hFc := va_free (wc := MW G hm adm u1) hD hS hA [0, 1, 2, 3, 4, 5, 6, 7, 8, 9] rfl
    refine va_calli (va_runV (As := [.int (iI (1))]) (rest := []) ⟨hx, hb, hml, hown, hts⟩ (c_X3_fail l G hm adm u1 (1) (i32_mk (by decide) (by decide)) (by assumption) (by first | assumption | omega) _) (cwV 1 hts gX3_addFarm_X3_fail rfl rfl rfl (by decide +kernel) ⟨Nat.le_of_ble_eq_true rfl, Nat.le_of_ble_eq_true rfl⟩) (wrV (wc := MW G hm adm u1) hK hP hD hN [0, 1, 2, 3, 4, 5, 6, 7, 8, 9] (by decide) rfl rfl (ci := 3) rfl rfl) rfl rfl hl.1 rfl (lv_room (Nat.le_of_ble_eq_true rfl)) dX3_addFarm_40 ⟨(Nat.zero_le _), (Nat.zero_le _)⟩) hS (fun q _ h => hFc q h) hFc (fun q4 u5 t H1 locs ht hvm hw hB hz1 hk1 hS => ?_)
    obtain ⟨u6, rfl⟩ : ∃ z, z = u5 := ⟨_, rfl⟩
    try dsimp only at hw hB
    obtain ⟨hP, hD⟩ := wrJ (ws := MW G hm adm u1) (w1 := MW G hm adm u6) ht hFc hB
    have hP : va_P G.1 vwCl (MW G hm adm u6) H1 := hP
    have hD : va_D A (MW G hm adm u6) := hD
    clear hB hk1 hFc ht hz1 hvm
    generalize H1 = H at hP hS ⊢
    obtain ⟨z8, rfl, w7⟩ := hw
    have oku6 : rOK ulo uhi u6 := w7.1
    have hk9 : kAdd f xv yv wv dv = 1 := mf_if_t (fun z => by first | (exact absurd z.1 (by assumption)) | omega)
    refine W.widen (k := 1) (n := 4) (Nat.le_of_ble_eq_true rfl) (Nat.le_of_ble_eq_true rfl) ?_
    exact W.iret hx hb hr (fun t ht hW => ⟨⟨_, u6, rfl, ⟨_, rfl, by exact ⟨w7.1, by rw [hk9]; exact w7.2.2.1, fun z9 => by rw [hk9] at z9; omega, fun _ => ⟨⟨(w7.2.1 4 (by decide)).trans hfF.1, (w7.2.1 5 (by decide)).trans hfF.2⟩, relU_cg w7.2.1 hrel1⟩⟩⟩, by rw [ht]; exact hP, hD⟩, hS.F ht⟩) hS.2.2 dX3_addFarm_43
  · skip
    have hc24 : cellP xv yv := by assumption
    have hc23 := hc24
    unfold cellP at hc23
    refine lv_iload_n hx hb dX3_addFarm_13 rfl (lv_at hl 3 rfl) ?_
    refine mf_iconst hx hb dX3_addFarm_14 ?_
    refine mf_bipush hx hb dX3_addFarm_15 rfl ?_
    refine lv_iload_n hx hb dX3_addFarm_17 rfl (lv_at hl 1 rfl) ?_
    refine mf_isub hx hb dX3_addFarm_18 ?_
    refine vp_callSi (va_Run.run (va_runS (As := [.int (iI (wv)), .int (iI (1)), .int (iI (24 - xv))]) (rest := []) ⟨hx, hb, hml, hown, hts⟩ (c_X3_isIn l (wv) (1) (24 - xv) (i32_mk (by omega) (by omega)) (i32_mk (by decide) (by decide)) (i32_mk (by omega) (by omega))) (va_cwS 3 hts gX3_addFarm_X3_isIn rfl rfl rfl (by decide +kernel) ⟨Nat.le_of_ble_eq_true rfl, Nat.le_of_ble_eq_true rfl⟩) pureS rfl rfl hl.1 rfl (lv_room (Nat.le_of_ble_eq_true rfl)) dX3_addFarm_19 ⟨(Nat.zero_le _), (Nat.zero_le _)⟩)) (fun q9 hq9 => ?_)
    subst hq9
    refine mf_bp_eq (tgt := 38) hx hb dX3_addFarm_22 (by decide) (fun c10 => ?_) (fun c10 => ?_)
    · skip
      refine lv_aload_n hx hb dX3_addFarm_38 rfl (lv_at hl 0 rfl) ?_
      refine mf_iconst hx hb dX3_addFarm_39 ?_
      have hFc := va_free (wc := MW G hm adm u1) hD hS hA [0, 1, 2, 3, 4, 5, 6, 7, 8, 9] rfl
      refine va_calli (va_runV (As := [.int (iI (1))]) (rest := []) ⟨hx, hb, hml, hown, hts⟩ (c_X3_fail l G hm adm u1 (1) (i32_mk (by decide) (by decide)) (by assumption) (by first | assumption | omega) _) (cwV 1 hts gX3_addFarm_X3_fail rfl rfl rfl (by decide +kernel) ⟨Nat.le_of_ble_eq_true rfl, Nat.le_of_ble_eq_true rfl⟩) (wrV (wc := MW G hm adm u1) hK hP hD hN [0, 1, 2, 3, 4, 5, 6, 7, 8, 9] (by decide) rfl rfl (ci := 3) rfl rfl) rfl rfl hl.1 rfl (lv_room (Nat.le_of_ble_eq_true rfl)) dX3_addFarm_40 ⟨(Nat.zero_le _), (Nat.zero_le _)⟩) hS (fun q _ h => hFc q h) hFc (fun q11 u12 t H1 locs ht hvm hw hB hz1 hk1 hS => ?_)
      obtain ⟨u13, rfl⟩ : ∃ z, z = u12 := ⟨_, rfl⟩
      try dsimp only at hw hB
      obtain ⟨hP, hD⟩ := wrJ (ws := MW G hm adm u1) (w1 := MW G hm adm u13) ht hFc hB
      have hP : va_P G.1 vwCl (MW G hm adm u13) H1 := hP
      have hD : va_D A (MW G hm adm u13) := hD
      clear hB hk1 hFc ht hz1 hvm
      generalize H1 = H at hP hS ⊢
      obtain ⟨z15, rfl, w14⟩ := hw
      have oku13 : rOK ulo uhi u13 := w14.1
      have hk9 : kAdd f xv yv wv dv = 1 := mf_if_t (fun z => by first | (exact absurd z.1 (by assumption)) | omega)
      refine W.widen (k := 1) (n := 4) (Nat.le_of_ble_eq_true rfl) (Nat.le_of_ble_eq_true rfl) ?_
      exact W.iret hx hb hr (fun t ht hW => ⟨⟨_, u13, rfl, ⟨_, rfl, by exact ⟨w14.1, by rw [hk9]; exact w14.2.2.1, fun z9 => by rw [hk9] at z9; omega, fun _ => ⟨⟨(w14.2.1 4 (by decide)).trans hfF.1, (w14.2.1 5 (by decide)).trans hfF.2⟩, relU_cg w14.2.1 hrel1⟩⟩⟩, by rw [ht]; exact hP, hD⟩, hS.F ht⟩) hS.2.2 dX3_addFarm_43
    · skip
      refine lv_iload hx hb dX3_addFarm_25 (lv_at hl 4 rfl) ?_
      refine mf_iconst hx hb dX3_addFarm_27 ?_
      refine mf_bipush hx hb dX3_addFarm_28 rfl ?_
      refine lv_iload_n hx hb dX3_addFarm_30 rfl (lv_at hl 2 rfl) ?_
      refine mf_isub hx hb dX3_addFarm_31 ?_
      refine vp_callSi (va_Run.run (va_runS (As := [.int (iI (dv)), .int (iI (1)), .int (iI (16 - yv))]) (rest := []) ⟨hx, hb, hml, hown, hts⟩ (c_X3_isIn l (dv) (1) (16 - yv) (i32_mk (by omega) (by omega)) (i32_mk (by decide) (by decide)) (i32_mk (by omega) (by omega))) (va_cwS 3 hts gX3_addFarm_X3_isIn rfl rfl rfl (by decide +kernel) ⟨Nat.le_of_ble_eq_true rfl, Nat.le_of_ble_eq_true rfl⟩) pureS rfl rfl hl.1 rfl (lv_room (Nat.le_of_ble_eq_true rfl)) dX3_addFarm_32 ⟨(Nat.zero_le _), (Nat.zero_le _)⟩)) (fun q16 hq16 => ?_)
      subst hq16
      refine mf_bp_ne (tgt := 44) hx hb dX3_addFarm_35 (by decide) (fun c17 => ?_) (fun c17 => ?_)
      · skip
        refine lv_aload_n hx hb dX3_addFarm_44 rfl (lv_at hl 0 rfl) ?_
        refine va_get (D := G.1) (ci := 3) (v := .int (iI (u1 4 0))) (C := RX3) (T := TX3) (N := 11) hx hb hts hinX3 hown hK hP 0 rfl rfl 4 (by decide) (hts (.fieldLink RX3 64 "MeanderFarmModel" "farms" "I") (List.mem_of_getElem? (i := 2) rfl)) (fun _ h9 => h9) rfl dX3_addFarm_45 ?_
        refine mf_top (u1 4 0) (u 4 0) (by rw [f3_u1 4 (by decide)]) ?_
        have b18 : (0 : Int) ≤ u 4 0 ∧ u 4 0 ≤ 6 := oku 4 (0)
        refine mf_bipush hx hb dX3_addFarm_48 rfl ?_
        refine mf_icmp_ne (tgt := 59) hx hb dX3_addFarm_50 (by decide) (i32_mk (by omega) (by omega)) (i32_mk (by decide) (by decide)) (fun c19 => ?_) (fun c19 => ?_)
        · skip
          refine mf_iconst hx hb dX3_addFarm_59 ?_
          refine mf_newi hx hb (hts (.arrayClass .int) (List.mem_of_getElem? (i := 3) rfl)) hK hP hD hS hA (n := 4) (N := 4) rfl (Nat.le_of_ble_eq_true rfl) (Nat.le_of_ble_eq_true rfl) (Nat.le_of_ble_eq_true rfl) dX3_addFarm_60 (fun na20 H hP hD hS => ?_)
          obtain ⟨av21, eav21⟩ : ∃ z9 : mf_V, z9 = fun _ _ => 0 := ⟨_, rfl⟩
          have hP : va_P G.1 vwCl (MW G hm adm u1 ++ AW G na20 4 av21) H := by rw [eav21]; exact hP
          have hD : va_D A (MW G hm adm u1 ++ AW G na20 4 av21) := by rw [eav21]; exact hD
          refine lv_dup hx hb dX3_addFarm_62 rfl ?_
          refine mf_iconst hx hb dX3_addFarm_63 ?_
          refine lv_iload_n hx hb dX3_addFarm_64 rfl (lv_at hl 1 rfl) ?_
          refine mf_iast (n := 4) (f := av21 0) hx hb hK hP hD hS 10 0 rfl rfl (z := 0) (x := xv) (by omega) (by omega) (by decide) dX3_addFarm_65 (fun H locs hP hD hS => ?_)
          obtain ⟨av22, eav22⟩ : ∃ z9 : mf_V, z9 = mf_sF av21 0 (mf_up (av21 0) (0) (xv)) := ⟨_, rfl⟩
          have hP : va_P G.1 vwCl (MW G hm adm u1 ++ AW G na20 4 av22) H := by rw [eav22]; exact hP
          have hD : va_D A (MW G hm adm u1 ++ AW G na20 4 av22) := by rw [eav22]; exact hD
          have f1_av22 : av22 0 (0) = xv := by rw [eav22, mf_sF_s, mf_up_s]
          have f2_av22 : ∀ y, y ≠ (0) → av22 0 y = av21 0 y := fun y hy => by rw [eav22, mf_sF_s, mf_up_n hy]
          have f3_av22 : ∀ q, q ≠ 0 → av22 q = av21 q := fun q hq => by rw [eav22, mf_sF_n hq]
          refine lv_dup hx hb dX3_addFarm_66 rfl ?_
          refine mf_iconst hx hb dX3_addFarm_67 ?_
          refine lv_iload_n hx hb dX3_addFarm_68 rfl (lv_at hl 2 rfl) ?_
          refine mf_iast (n := 4) (f := av22 0) hx hb hK hP hD hS 10 0 rfl rfl (z := 1) (x := yv) (by omega) (by omega) (by decide) dX3_addFarm_69 (fun H locs hP hD hS => ?_)
          obtain ⟨av23, eav23⟩ : ∃ z9 : mf_V, z9 = mf_sF av22 0 (mf_up (av22 0) (1) (yv)) := ⟨_, rfl⟩
          have hP : va_P G.1 vwCl (MW G hm adm u1 ++ AW G na20 4 av23) H := by rw [eav23]; exact hP
          have hD : va_D A (MW G hm adm u1 ++ AW G na20 4 av23) := by rw [eav23]; exact hD
          have f1_av23 : av23 0 (1) = yv := by rw [eav23, mf_sF_s, mf_up_s]
          have f2_av23 : ∀ y, y ≠ (1) → av23 0 y = av22 0 y := fun y hy => by rw [eav23, mf_sF_s, mf_up_n hy]
          have f3_av23 : ∀ q, q ≠ 0 → av23 q = av22 q := fun q hq => by rw [eav23, mf_sF_n hq]
          refine lv_dup hx hb dX3_addFarm_70 rfl ?_
          refine mf_iconst hx hb dX3_addFarm_71 ?_
          refine lv_iload_n hx hb dX3_addFarm_72 rfl (lv_at hl 3 rfl) ?_
          refine mf_iast (n := 4) (f := av23 0) hx hb hK hP hD hS 10 0 rfl rfl (z := 2) (x := wv) (by omega) (by omega) (by decide) dX3_addFarm_73 (fun H locs hP hD hS => ?_)
          obtain ⟨av24, eav24⟩ : ∃ z9 : mf_V, z9 = mf_sF av23 0 (mf_up (av23 0) (2) (wv)) := ⟨_, rfl⟩
          have hP : va_P G.1 vwCl (MW G hm adm u1 ++ AW G na20 4 av24) H := by rw [eav24]; exact hP
          have hD : va_D A (MW G hm adm u1 ++ AW G na20 4 av24) := by rw [eav24]; exact hD
          have f1_av24 : av24 0 (2) = wv := by rw [eav24, mf_sF_s, mf_up_s]
          have f2_av24 : ∀ y, y ≠ (2) → av24 0 y = av23 0 y := fun y hy => by rw [eav24, mf_sF_s, mf_up_n hy]
          have f3_av24 : ∀ q, q ≠ 0 → av24 q = av23 q := fun q hq => by rw [eav24, mf_sF_n hq]
          refine lv_dup hx hb dX3_addFarm_74 rfl ?_
          refine mf_iconst hx hb dX3_addFarm_75 ?_
          refine lv_iload hx hb dX3_addFarm_76 (lv_at hl 4 rfl) ?_
          refine mf_iast (n := 4) (f := av24 0) hx hb hK hP hD hS 10 0 rfl rfl (z := 3) (x := dv) (by omega) (by omega) (by decide) dX3_addFarm_78 (fun H locs hP hD hS => ?_)
          obtain ⟨av25, eav25⟩ : ∃ z9 : mf_V, z9 = mf_sF av24 0 (mf_up (av24 0) (3) (dv)) := ⟨_, rfl⟩
          have hP : va_P G.1 vwCl (MW G hm adm u1 ++ AW G na20 4 av25) H := by rw [eav25]; exact hP
          have hD : va_D A (MW G hm adm u1 ++ AW G na20 4 av25) := by rw [eav25]; exact hD
          have f1_av25 : av25 0 (3) = dv := by rw [eav25, mf_sF_s, mf_up_s]
          have f2_av25 : ∀ y, y ≠ (3) → av25 0 y = av24 0 y := fun y hy => by rw [eav25, mf_sF_s, mf_up_n hy]
          have f3_av25 : ∀ q, q ≠ 0 → av25 q = av24 q := fun q hq => by rw [eav25, mf_sF_n hq]
          refine lv_astore (lv' := [(5, .ref na20), (0, .ref hm), (1, .int (iI (xv))), (2, .int (iI (yv))), (3, .int (iI (wv))), (4, .int (iI (dv)))]) hx hb dX3_addFarm_79 hl (by decide) rfl (fun ls hl => ?_)
          refine lv_aload hx hb dX3_addFarm_81 (lv_at hl 0 rfl) ?_
          refine mf_iconst hx hb dX3_addFarm_83 ?_
          refine lv_aload_n hx hb dX3_addFarm_84 rfl (lv_at hl 1 rfl) ?_
          refine va_get (D := G.1) (ci := 3) (v := .ref (adm 5)) (C := RX3) (T := TX3) (N := 11) hx hb hts hinX3 hown hK hP 0 rfl rfl 5 (by decide) (hts (.fieldLink RX3 20 "MeanderFarmModel" "farmTable" "[I") (List.mem_of_getElem? (i := 4) rfl)) (fun _ h9 => h9) rfl dX3_addFarm_85 ?_
          refine mf_iconst hx hb dX3_addFarm_88 ?_
          refine lv_aload_n hx hb dX3_addFarm_89 rfl (lv_at hl 1 rfl) ?_
          refine va_get (D := G.1) (ci := 3) (v := .int (iI (u1 4 0))) (C := RX3) (T := TX3) (N := 11) hx hb hts hinX3 hown hK hP 0 rfl rfl 4 (by decide) (hts (.fieldLink RX3 64 "MeanderFarmModel" "farms" "I") (List.mem_of_getElem? (i := 2) rfl)) (fun _ h9 => h9) rfl dX3_addFarm_90 ?_
          refine mf_top (u1 4 0) (u 4 0) (by rw [f3_u1 4 (by decide)]) ?_
          have b26 : (0 : Int) ≤ u 4 0 ∧ u 4 0 ≤ 6 := oku 4 (0)
          refine mf_imul hx hb dX3_addFarm_93 ?_
          refine mf_iconst hx hb dX3_addFarm_94 ?_
          refine mf_copy (f := av25 0) (g := u1 5) (n0 := 4) (n1 := 24) hx hb (hml.trans hl.1.symm) hown (hts (.methodLink RX3 131 arraycopyName) (List.mem_of_getElem? (i := 5) rfl)) (hts (.native arraycopyName) (List.mem_of_getElem? (i := 6) rfl)) (hts (.static arraycopyName) (List.mem_of_getElem? (i := 7) rfl)) (hts (.initialized "java/lang/System") (List.mem_of_getElem? (i := 8) rfl)) hK hP hD hS 10 4 0 0 rfl rfl rfl rfl rfl (sp := 0) (dp := 4 * (u 4 0)) (n := 4) (by omega) (by omega) (by omega) (by omega) (by omega) (by decide) (by decide) (fun _ => rfl) (Nat.le_of_ble_eq_true rfl) (Nat.le_of_ble_eq_true rfl) dX3_addFarm_95 (fun H locs hP hD hS => ?_)
          obtain ⟨u27, eu27⟩ : ∃ z9 : mf_V, z9 = mf_sF u1 5 (mf_cpy (av25 0) (u1 5) (0) (4 * (u 4 0)) (4)) := ⟨_, rfl⟩
          have hP : va_P G.1 vwCl (MW G hm adm u27 ++ AW G na20 4 av25) H := by rw [eu27]; exact hP
          have hD : va_D A (MW G hm adm u27 ++ AW G na20 4 av25) := by rw [eu27]; exact hD
          have f1_u27 : u27 5 = mf_cpy (av25 0) (u1 5) (0) (4 * (u 4 0)) (4) := by rw [eu27, mf_sF_s]
          have f3_u27 : ∀ q, q ≠ 5 → u27 q = u1 q := fun q hq => by rw [eu27, mf_sF_n hq]
          have aa0 : av25 0 0 = xv := by rw [f2_av25 0 (by decide), f2_av24 0 (by decide), f2_av23 0 (by decide), f1_av22]
          have aa1 : av25 0 1 = yv := by rw [f2_av25 1 (by decide), f2_av24 1 (by decide), f1_av23]
          have aa2 : av25 0 2 = wv := by rw [f2_av25 2 (by decide), f1_av24]
          have aa3 : av25 0 3 = dv := by rw [f1_av25]
          have hu5 : ∀ z, u27 5 z = if 4 * f 4 0 ≤ z ∧ z < 4 * f 4 0 + 4 then av25 0 (0 + (z - 4 * f 4 0)) else u 5 z := fun z => by rw [f1_u27, hu4, f3_u1 5 (by decide)]; rfl
          have oku27 : rOK ulo uhi u27 := by
            intro k z
            by_cases q : k = 5
            · subst q
              have b5 : (0 : Int) ≤ u 5 z ∧ u 5 z ≤ 24 := oku 5 z
              show (0 : Int) ≤ u27 5 z ∧ u27 5 z ≤ 24
              rw [hu5]
              split
              · rename_i h9
                rcases (show z - 4 * f 4 0 = 0 ∨ z - 4 * f 4 0 = 1 ∨ z - 4 * f 4 0 = 2 ∨ z - 4 * f 4 0 = 3 by omega) with y | y | y | y <;> rw [y]
                · rw [show (0 : Int) + 0 = 0 from rfl, aa0]; omega
                · rw [show (0 : Int) + 1 = 1 from rfl, aa1]; omega
                · rw [show (0 : Int) + 2 = 2 from rfl, aa2]; omega
                · rw [show (0 : Int) + 3 = 3 from rfl, aa3]; omega
              · exact b5
            · rw [f3_u27 k q]; exact oku1 k z
          skip
          refine lv_aload_n hx hb dX3_addFarm_98 rfl (lv_at hl 1 rfl) ?_
          refine lv_dup hx hb dX3_addFarm_99 rfl ?_
          refine va_get (D := G.1) (ci := 3) (v := .int (iI (u27 4 0))) (C := RX3) (T := TX3) (N := 11) hx hb hts hinX3 hown hK hP 0 rfl rfl 4 (by decide) (hts (.fieldLink RX3 64 "MeanderFarmModel" "farms" "I") (List.mem_of_getElem? (i := 2) rfl)) (fun _ h9 => h9) rfl dX3_addFarm_100 ?_
          refine mf_top (u27 4 0) (u 4 0) (by rw [f3_u27 4 (by decide), f3_u1 4 (by decide)]) ?_
          have b28 : (0 : Int) ≤ u 4 0 ∧ u 4 0 ≤ 6 := oku 4 (0)
          refine mf_iconst hx hb dX3_addFarm_103 ?_
          refine mf_iadd hx hb dX3_addFarm_104 ?_
          refine va_put (D := G.1) (ci := 3) (v := .int (iI ((u 4 0) + 1))) (ty := .int) (C := RX3) (T := TX3) (N := 11) hx hb hts hinX3 tyX3 tyX3_ok nmX3 hown hK hP hD hS 0 rfl rfl 4 (by decide) (hts (.fieldLink RX3 64 "MeanderFarmModel" "farms" "I") (List.mem_of_getElem? (i := 2) rfl)) (fun _ h9 => h9) rfl (by decide +kernel) rfl rfl (Nat.le_of_ble_eq_true rfl) dX3_addFarm_105 (fun H locs hP hD hS => ?_)
          obtain ⟨u29, eu29⟩ : ∃ z9 : mf_V, z9 = mf_sF u27 4 (fun _ => (u 4 0) + 1) := ⟨_, rfl⟩
          have hP : va_P G.1 vwCl (MW G hm adm u29 ++ AW G na20 4 av25) H := by rw [eu29]; exact hP
          have hD : va_D A (MW G hm adm u29 ++ AW G na20 4 av25) := by rw [eu29]; exact hD
          have oku29 : rOK ulo uhi u29 := by rw [eu29]; exact rOK_set oku27 4 _ (show (0 : Int) ≤ (u 4 0) + 1 by omega) (show (u 4 0) + 1 ≤ (6 : Int) by omega)
          have f1_u29 : ∀ y, u29 4 y = (u 4 0) + 1 := fun y => by rw [eu29, mf_sF_s]
          have f3_u29 : ∀ q, q ≠ 4 → u29 q = u27 q := fun q hq => by rw [eu29, mf_sF_n hq]
          refine lv_aload_n hx hb dX3_addFarm_108 rfl (lv_at hl 1 rfl) ?_
          refine va_get (D := G.1) (ci := 3) (v := .int (iI (u29 4 0))) (C := RX3) (T := TX3) (N := 11) hx hb hts hinX3 hown hK hP 0 rfl rfl 4 (by decide) (hts (.fieldLink RX3 64 "MeanderFarmModel" "farms" "I") (List.mem_of_getElem? (i := 2) rfl)) (fun _ h9 => h9) rfl dX3_addFarm_109 ?_
          refine mf_top (u29 4 0) ((u 4 0) + 1) (by rw [f1_u29]) ?_
          refine mf_iconst hx hb dX3_addFarm_112 ?_
          refine mf_isub hx hb dX3_addFarm_113 ?_
          have hk9 : kAdd f xv yv wv dv = 0 := (mf_if_f (fun z => z ⟨by assumption, by omega, by omega⟩)).trans (mf_if_f (by omega))
          have g5 : ∀ z, u29 5 z = if 4 * f 4 0 ≤ z ∧ z < 4 * f 4 0 + 4 then av25 0 (0 + (z - 4 * f 4 0)) else u 5 z := fun z => by rw [f3_u29 5 (by decide)]; exact hu5 z
          have hrl : relF (addF f xv yv wv dv) u29 := addRel okf hrf (by rw [f1_u29, hu4]) (fun z hz => by rw [g5, if_neg (by omega)]) (by rw [g5, if_pos (by omega), show 0 + (4 * f 4 0 - 4 * f 4 0) = 0 by omega, aa0]) (by rw [g5, if_pos (by omega), show 0 + (4 * f 4 0 + 1 - 4 * f 4 0) = 1 by omega, aa1]) (by rw [g5, if_pos (by omega), show 0 + (4 * f 4 0 + 2 - 4 * f 4 0) = 2 by omega, aa2]) (by rw [g5, if_pos (by omega), show 0 + (4 * f 4 0 + 3 - 4 * f 4 0) = 3 by omega, aa3])
          have hru : relU r u29 := relU_f45 (fun k h0 h4 h5 => by rw [f3_u29 k h4, f3_u27 k h5, f3_u1 k h0]) hrel
          have hP := hP.sub (ws' := MW G hm adm u29) [0, 1, 2, 3, 4, 5, 6, 7, 8, 9] rfl
          have hD := hD.sub (ws' := MW G hm adm u29) [0, 1, 2, 3, 4, 5, 6, 7, 8, 9] (by decide) rfl
          exact W.iret hx hb hr (fun t ht hW => ⟨⟨_, u29, rfl, ⟨_, rfl, by exact ⟨oku29, by rw [hk9, f3_u29 0 (by decide), f3_u27 0 (by decide)]; exact hz0, fun _ => ⟨hru, hrl, by omega⟩, fun z9 => absurd hk9 z9⟩⟩, by rw [ht]; exact hP, hD⟩, hS.F ht⟩) hS.2.2 dX3_addFarm_114
        · skip
          refine lv_aload_n hx hb dX3_addFarm_53 rfl (lv_at hl 0 rfl) ?_
          refine mf_iconst hx hb dX3_addFarm_54 ?_
          have hFc := va_free (wc := MW G hm adm u1) hD hS hA [0, 1, 2, 3, 4, 5, 6, 7, 8, 9] rfl
          refine va_calli (va_runV (As := [.int (iI (2))]) (rest := []) ⟨hx, hb, hml, hown, hts⟩ (c_X3_fail l G hm adm u1 (2) (i32_mk (by decide) (by decide)) (by assumption) (by first | assumption | omega) _) (cwV 1 hts gX3_addFarm_X3_fail rfl rfl rfl (by decide +kernel) ⟨Nat.le_of_ble_eq_true rfl, Nat.le_of_ble_eq_true rfl⟩) (wrV (wc := MW G hm adm u1) hK hP hD hN [0, 1, 2, 3, 4, 5, 6, 7, 8, 9] (by decide) rfl rfl (ci := 3) rfl rfl) rfl rfl hl.1 rfl (lv_room (Nat.le_of_ble_eq_true rfl)) dX3_addFarm_55 ⟨(Nat.zero_le _), (Nat.zero_le _)⟩) hS (fun q _ h => hFc q h) hFc (fun q30 u31 t H1 locs ht hvm hw hB hz1 hk1 hS => ?_)
          obtain ⟨u32, rfl⟩ : ∃ z, z = u31 := ⟨_, rfl⟩
          try dsimp only at hw hB
          obtain ⟨hP, hD⟩ := wrJ (ws := MW G hm adm u1) (w1 := MW G hm adm u32) ht hFc hB
          have hP : va_P G.1 vwCl (MW G hm adm u32) H1 := hP
          have hD : va_D A (MW G hm adm u32) := hD
          clear hB hk1 hFc ht hz1 hvm
          generalize H1 = H at hP hS ⊢
          obtain ⟨z34, rfl, w33⟩ := hw
          have oku32 : rOK ulo uhi u32 := w33.1
          have hk9 : kAdd f xv yv wv dv = 2 := (mf_if_f (fun z => z ⟨by assumption, by omega, by omega⟩)).trans (mf_if_t (by omega))
          refine W.widen (k := 1) (n := 4) (Nat.le_of_ble_eq_true rfl) (Nat.le_of_ble_eq_true rfl) ?_
          exact W.iret hx hb hr (fun t ht hW => ⟨⟨_, u32, rfl, ⟨_, rfl, by exact ⟨w33.1, by rw [hk9]; exact w33.2.2.1, fun z9 => by rw [hk9] at z9; omega, fun _ => ⟨⟨(w33.2.1 4 (by decide)).trans hfF.1, (w33.2.1 5 (by decide)).trans hfF.2⟩, relU_cg w33.2.1 hrel1⟩⟩⟩, by rw [ht]; exact hP, hD⟩, hS.F ht⟩) hS.2.2 dX3_addFarm_58
      · skip
        refine lv_aload_n hx hb dX3_addFarm_38 rfl (lv_at hl 0 rfl) ?_
        refine mf_iconst hx hb dX3_addFarm_39 ?_
        have hFc := va_free (wc := MW G hm adm u1) hD hS hA [0, 1, 2, 3, 4, 5, 6, 7, 8, 9] rfl
        refine va_calli (va_runV (As := [.int (iI (1))]) (rest := []) ⟨hx, hb, hml, hown, hts⟩ (c_X3_fail l G hm adm u1 (1) (i32_mk (by decide) (by decide)) (by assumption) (by first | assumption | omega) _) (cwV 1 hts gX3_addFarm_X3_fail rfl rfl rfl (by decide +kernel) ⟨Nat.le_of_ble_eq_true rfl, Nat.le_of_ble_eq_true rfl⟩) (wrV (wc := MW G hm adm u1) hK hP hD hN [0, 1, 2, 3, 4, 5, 6, 7, 8, 9] (by decide) rfl rfl (ci := 3) rfl rfl) rfl rfl hl.1 rfl (lv_room (Nat.le_of_ble_eq_true rfl)) dX3_addFarm_40 ⟨(Nat.zero_le _), (Nat.zero_le _)⟩) hS (fun q _ h => hFc q h) hFc (fun q35 u36 t H1 locs ht hvm hw hB hz1 hk1 hS => ?_)
        obtain ⟨u37, rfl⟩ : ∃ z, z = u36 := ⟨_, rfl⟩
        try dsimp only at hw hB
        obtain ⟨hP, hD⟩ := wrJ (ws := MW G hm adm u1) (w1 := MW G hm adm u37) ht hFc hB
        have hP : va_P G.1 vwCl (MW G hm adm u37) H1 := hP
        have hD : va_D A (MW G hm adm u37) := hD
        clear hB hk1 hFc ht hz1 hvm
        generalize H1 = H at hP hS ⊢
        obtain ⟨z39, rfl, w38⟩ := hw
        have oku37 : rOK ulo uhi u37 := w38.1
        have hk9 : kAdd f xv yv wv dv = 1 := mf_if_t (fun z => by first | (exact absurd z.1 (by assumption)) | omega)
        refine W.widen (k := 1) (n := 4) (Nat.le_of_ble_eq_true rfl) (Nat.le_of_ble_eq_true rfl) ?_
        exact W.iret hx hb hr (fun t ht hW => ⟨⟨_, u37, rfl, ⟨_, rfl, by exact ⟨w38.1, by rw [hk9]; exact w38.2.2.1, fun z9 => by rw [hk9] at z9; omega, fun _ => ⟨⟨(w38.2.1 4 (by decide)).trans hfF.1, (w38.2.1 5 (by decide)).trans hfF.2⟩, relU_cg w38.2.1 hrel1⟩⟩⟩, by rw [ht]; exact hP, hD⟩, hS.F ht⟩) hS.2.2 dX3_addFarm_43
