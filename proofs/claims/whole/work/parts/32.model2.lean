/-! 32.model2: what the reference tells -/
theorem nbr_dm1 (x : Int) : nbr x (-1) = -1 := by
  unfold nbr
  rw [if_neg (show ¬ (-1 : Int) = 0 by decide), if_neg (show ¬ (-1 : Int) = 1 by decide), if_neg (show ¬ (-1 : Int) = 2 by decide), if_neg (show ¬ (-1 : Int) = 3 by decide)]
  repeat' split
  all_goals rfl
theorem adj_iff {x y : Int} (x0 : 0 ≤ x) (x1 : x < 384) (y0 : 0 ≤ y) (y1 : y < 384) : ¬ dirTo x y = -1 ↔ (x % 24 = y % 24 ∧ (x / 24 - y / 24 = 1 ∨ x / 24 - y / 24 = -1)) ∨ (x / 24 = y / 24 ∧ (x % 24 - y % 24 = 1 ∨ x % 24 - y % 24 = -1)) := by
  have n0 := nbr0 x0 x1
  have n1 := nbr1 x0 x1
  have n2 := nbr2 x0 x1
  have n3 := nbr3 x0 x1
  constructor
  · intro h
    obtain ⟨a, b, e, f⟩ := dirTo_nbr h
    rcases d4 a b with z | z | z | z <;> rw [z] at e <;> omega
  · intro h
    rcases h with ⟨h1, h2 | h2⟩ | ⟨h1, h2 | h2⟩
    · exact adj_of (d := 0) (by omega) (by omega)
    · exact adj_of (d := 2) (by omega) (by omega)
    · exact adj_of (d := 3) (by omega) (by omega)
    · exact adj_of (d := 1) (by omega) (by omega)
theorem farF_ge (r : mf_V) (i : Int) : farF r i = -1 ∨ i + 3 ≤ farF r i := by
  rcases farG_mem r i 4 with z | ⟨d, -, z2⟩
  · exact Or.inl z
  · have : 3 ≤ farF r i - i := z2
    exact Or.inr (by omega)
theorem widG_m1 (r : mf_V) : ∀ n : Nat, (widG r n).1 = -1 → (widG r n).2 = 0 := by
  intro n
  induction n with
  | zero => intro _; rfl
  | succ n ih =>
    rw [show ((n + 1 : Nat) : Int) = (n : Int) + 1 from rfl]
    by_cases q : (widG r n).2 < farF r n - n
    · rw [widG_t r (by omega) q]; intro h; exact absurd h (by show ¬ ((n : Int) = -1); omega)
    · rw [widG_f r (by omega) q]; exact ih
theorem widG_memI (r : mf_V) {k : Int} (h : 0 ≤ k) : ((widG r k).1 = -1 ∧ (widG r k).2 = 0) ∨ (0 ≤ (widG r k).1 ∧ (widG r k).1 < k ∧ farF r (widG r k).1 - (widG r k).1 = (widG r k).2 ∧ 0 < (widG r k).2) := by
  obtain ⟨n, rfl⟩ := Int.eq_ofNat_of_zero_le h
  rcases widG_mem r n with z | z
  · exact Or.inl ⟨z, widG_m1 r n z⟩
  · exact Or.inr z
/-- the farms f and the table of the reference u -/
def relF (f u : mf_V) : Prop := u 4 0 = f 4 0 ∧ ∀ k, 0 ≤ k → k < f 4 0 → u 5 (4 * k) = f 0 k ∧ u 5 (4 * k + 1) = f 1 k ∧ u 5 (4 * k + 2) = f 2 k ∧ u 5 (4 * k + 3) = f 3 k
set_option maxHeartbeats 4000000 in
set_option maxRecDepth 100000 in
theorem c_X3_isFarm (l : Launch) (G : mf_G) (hm : Nat) (adm : Nat → Nat) (u : mf_V) (kv : Int) (hkv : i32 kv) (oku : rOK ulo uhi u) : Met l yX3_isFarm wsX3_isFarm ({ frames := 1, cells := 0, slots := 0, locals := 22 }) (va_Pc [.ref hm, .int (iI (kv))] (RdP G (MW G hm adm u))) (vp_Si (fun q => q = iI (bP (0 ≤ kv ∧ kv < u 4 0)))) 0 0 (fun _ => False) := by
  refine Met.ofW (cc := cX3_isFarm) (maxL := 2) (ret := (some .boolean)) (by decide) rfl ?_
  intro p e s m args below meth c s₁ B hml hv
  obtain ⟨rfl, hP, hK, hN⟩ := hv
  have hx := B.exec
  have hb := B.bytes
  have hr := B.returns
  have hts := atoms_spec (ws := wsX3_isFarm) B.pre
  have hown : s.vm.findClass RX3 = some m.cls := findClass_of_methodNamed B.named
  have hlocks := B.notSynchronized
  have hinX3 : ∀ w ∈ u_ws RX3 TX3 11, w ∈ wsX3_isFarm := fun w h => List.mem_cons_of_mem _ (List.mem_append_right _ h)
  have hl := lv_entry ([.ref hm, .int (iI (kv))]) (n := 2) (Nat.le_of_ble_eq_true rfl)
  rw [lg_entry_eq]
  generalize (lg_sl ([.ref hm, .int (iI (kv))]) ++ List.replicate (2 - (lg_sl ([.ref hm, .int (iI (kv))])).length) Slot.unset).toArray = ls at hl ⊢
  have hl : lv_has ls 2 [(0, .ref hm), (1, .int (iI (kv)))] := hl
  have hkv1 := hkv.1
  have hkv2 := hkv.2
  refine lv_iload_n hx hb dX3_isFarm_0 rfl (lv_at hl 1 rfl) ?_
  refine mf_iconst hx hb dX3_isFarm_1 ?_
  refine lv_aload_n hx hb dX3_isFarm_2 rfl (lv_at hl 0 rfl) ?_
  refine va_get (D := G.1) (ci := 3) (v := .int (iI (u 4 0))) (C := RX3) (T := TX3) (N := 11) hx hb hts hinX3 hown hK hP 0 rfl rfl 4 (by decide) (hts (.fieldLink RX3 64 "MeanderFarmModel" "farms" "I") (List.mem_of_getElem? (i := 1) rfl)) (fun _ h9 => h9) rfl dX3_isFarm_3 ?_
  have b1 : (0 : Int) ≤ u 4 0 ∧ u 4 0 ≤ 6 := oku 4 (0)
  refine mf_iconst hx hb dX3_isFarm_6 ?_
  refine mf_isub hx hb dX3_isFarm_7 ?_
  refine vp_callSi (va_Run.run (va_runS (As := [.int (iI (kv)), .int (iI (0)), .int (iI ((u 4 0) - 1))]) (rest := []) ⟨hx, hb, hml, hown, hts⟩ (c_X3_isIn l (kv) (0) ((u 4 0) - 1) (i32_mk (by omega) (by omega)) (i32_mk (by decide) (by decide)) (i32_mk (by omega) (by omega))) (va_cwS 3 hts gX3_isFarm_X3_isIn rfl rfl rfl (by decide +kernel) ⟨Nat.le_of_ble_eq_true rfl, Nat.le_of_ble_eq_true rfl⟩) pureS rfl rfl hl.1 rfl (lv_room (Nat.le_of_ble_eq_true rfl)) dX3_isFarm_8 ⟨(Nat.zero_le _), (Nat.zero_le _)⟩)) (fun q2 hq2 => ?_)
  subst hq2
  exact W.zret hx hb hr (mf_nar01 (by have := bP_01 ((0 ≤ kv ∧ kv ≤ ((u 4 0) - 1))); omega)) (fun t ht hW => ⟨_, rfl, (congrArg iI (by exact bP_cg (by omega))), ht⟩) t_nil dX3_isFarm_11
set_option maxHeartbeats 4000000 in
set_option maxRecDepth 100000 in
theorem c_X3_isNeck (l : Launch) (G : mf_G) (hm : Nat) (adm : Nat → Nat) (u : mf_V) (iv : Int) (jv : Int) (r : mf_V) (hiv : i32 iv) (hjv : i32 jv) (oku : rOK ulo uhi u) (ok : rOK rlo rhi r) (hI : RInv r) (hrel : relU r u) (hi9 : 0 ≤ iv ∧ iv < r 7 0) (hj9 : 0 ≤ jv ∧ jv < r 7 0) : Met l yX3_isNeck wsX3_isNeck ({ frames := 1, cells := 0, slots := 0, locals := 21 }) (va_Pc [.ref hm, .int (iI (iv)), .int (iI (jv))] (RdP G (MW G hm adm u))) (vp_Si (fun q => q = iI (bP (neckP r iv jv)))) 0 0 (fun _ => False) := by
  refine Met.ofW (cc := cX3_isNeck) (maxL := 5) (ret := (some .boolean)) (by decide) rfl ?_
  intro p e s m args below meth c s₁ B hml hv
  obtain ⟨rfl, hP, hK, hN⟩ := hv
  have hx := B.exec
  have hb := B.bytes
  have hr := B.returns
  have hts := atoms_spec (ws := wsX3_isNeck) B.pre
  have hown : s.vm.findClass RX3 = some m.cls := findClass_of_methodNamed B.named
  have hlocks := B.notSynchronized
  have hinX3 : ∀ w ∈ u_ws RX3 TX3 11, w ∈ wsX3_isNeck := fun w h => List.mem_cons_of_mem _ (List.mem_append_right _ h)
  have hl := lv_entry ([.ref hm, .int (iI (iv)), .int (iI (jv))]) (n := 5) (Nat.le_of_ble_eq_true rfl)
  rw [lg_entry_eq]
  generalize (lg_sl ([.ref hm, .int (iI (iv)), .int (iI (jv))]) ++ List.replicate (5 - (lg_sl ([.ref hm, .int (iI (iv)), .int (iI (jv))])).length) Slot.unset).toArray = ls at hl ⊢
  have hl : lv_has ls 5 [(0, .ref hm), (1, .int (iI (iv))), (2, .int (iI (jv)))] := hl
  have hiv1 := hiv.1
  have hiv2 := hiv.2
  have hjv1 := hjv.1
  have hjv2 := hjv.2
  have okLr : (0 : Int) ≤ r 7 0 ∧ r 7 0 ≤ 150 := ok 7 0
  have ba : (0 : Int) ≤ r 6 iv ∧ r 6 iv ≤ 383 := ok 6 iv
  have bb : (0 : Int) ≤ r 6 jv ∧ r 6 jv ≤ 383 := ok 6 jv
  have hadj := adj_iff ba.1 (show r 6 iv < 384 by omega) bb.1 (show r 6 jv < 384 by omega)
  refine lv_iload_n hx hb dX3_isNeck_0 rfl (lv_at hl 2 rfl) ?_
  refine lv_iload_n hx hb dX3_isNeck_1 rfl (lv_at hl 1 rfl) ?_
  refine mf_iconst hx hb dX3_isNeck_2 ?_
  refine mf_iadd hx hb dX3_isNeck_3 ?_
  refine mf_icmp_ge (tgt := 9) hx hb dX3_isNeck_4 (by decide) (i32_mk (by omega) (by omega)) (i32_mk (by omega) (by omega)) (fun c1 => ?_) (fun c1 => ?_)
  · skip
    refine lv_aload_n hx hb dX3_isNeck_9 rfl (lv_at hl 0 rfl) ?_
    refine va_get (D := G.1) (ci := 3) (v := .ref (adm 6)) (C := RX3) (T := TX3) (N := 11) hx hb hts hinX3 hown hK hP 0 rfl rfl 6 (by decide) (hts (.fieldLink RX3 23 "MeanderFarmModel" "course" "[I") (List.mem_of_getElem? (i := 1) rfl)) (fun _ h9 => h9) rfl dX3_isNeck_10 ?_
    refine lv_iload_n hx hb dX3_isNeck_13 rfl (lv_at hl 1 rfl) ?_
    refine mf_iald (n := 152) (f := u 6) hx hb hK hP 5 0 rfl rfl (z := iv) (by omega) (by omega) (by decide) dX3_isNeck_14 ?_
    refine mf_top (u 6 iv) (r 6 iv) (by rw [(rel6 hrel (z := iv) (by omega) (by omega))]) ?_
    have b2 : (0 : Int) ≤ r 6 iv ∧ r 6 iv ≤ 383 := ok 6 (iv)
    refine mf_bipush hx hb dX3_isNeck_15 rfl ?_
    refine mf_irem hx hb dX3_isNeck_17 (i32_mk (by omega) (by omega)) (by omega) (i32_mk (by decide) (by decide)) (by omega) ?_
    refine lv_aload_n hx hb dX3_isNeck_18 rfl (lv_at hl 0 rfl) ?_
    refine va_get (D := G.1) (ci := 3) (v := .ref (adm 6)) (C := RX3) (T := TX3) (N := 11) hx hb hts hinX3 hown hK hP 0 rfl rfl 6 (by decide) (hts (.fieldLink RX3 23 "MeanderFarmModel" "course" "[I") (List.mem_of_getElem? (i := 1) rfl)) (fun _ h9 => h9) rfl dX3_isNeck_19 ?_
    refine lv_iload_n hx hb dX3_isNeck_22 rfl (lv_at hl 2 rfl) ?_
    refine mf_iald (n := 152) (f := u 6) hx hb hK hP 5 0 rfl rfl (z := jv) (by omega) (by omega) (by decide) dX3_isNeck_23 ?_
    refine mf_top (u 6 jv) (r 6 jv) (by rw [(rel6 hrel (z := jv) (by omega) (by omega))]) ?_
    have b3 : (0 : Int) ≤ r 6 jv ∧ r 6 jv ≤ 383 := ok 6 (jv)
    refine mf_bipush hx hb dX3_isNeck_24 rfl ?_
    refine mf_irem hx hb dX3_isNeck_26 (i32_mk (by omega) (by omega)) (by omega) (i32_mk (by decide) (by decide)) (by omega) ?_
    refine mf_isub hx hb dX3_isNeck_27 ?_
    refine mf_abs hx hb (hml.trans hl.1.symm) hown (hts (.methodLink RX3 97 Lib.Math.abs.name) (List.mem_of_getElem? (i := 2) rfl)) (hts (.static Lib.Math.abs.name) (List.mem_of_getElem? (i := 3) rfl)) (hts (.initialized "java/lang/Math") (List.mem_of_getElem? (i := 4) rfl)) (hts (.code Lib.Math.abs.name Lib.Math.abs.code 1 (some .int)) (List.mem_of_getElem? (i := 5) rfl)) (by decide) (Nat.le_of_ble_eq_true rfl) (Nat.zero_le _) (Nat.zero_le _) (i32_mk (by omega) (by omega)) dX3_isNeck_28 ?_
    refine mf_nm (fun y4 ey4 => ?_)
    have by4 := mf_absI_s (((r 6 iv) % 24) - ((r 6 jv) % 24))
    rw [← ey4] at by4
    refine lv_istore_n (lv' := [(3, .int (iI (y4))), (0, .ref hm), (1, .int (iI (iv))), (2, .int (iI (jv)))]) hx hb dX3_isNeck_31 rfl hl (by decide) rfl (fun ls hl => ?_)
    refine lv_aload_n hx hb dX3_isNeck_32 rfl (lv_at hl 1 rfl) ?_
    refine va_get (D := G.1) (ci := 3) (v := .ref (adm 6)) (C := RX3) (T := TX3) (N := 11) hx hb hts hinX3 hown hK hP 0 rfl rfl 6 (by decide) (hts (.fieldLink RX3 23 "MeanderFarmModel" "course" "[I") (List.mem_of_getElem? (i := 1) rfl)) (fun _ h9 => h9) rfl dX3_isNeck_33 ?_
    refine lv_iload_n hx hb dX3_isNeck_36 rfl (lv_at hl 2 rfl) ?_
    refine mf_iald (n := 152) (f := u 6) hx hb hK hP 5 0 rfl rfl (z := iv) (by omega) (by omega) (by decide) dX3_isNeck_37 ?_
    refine mf_top (u 6 iv) (r 6 iv) (by rw [(rel6 hrel (z := iv) (by omega) (by omega))]) ?_
    have b5 : (0 : Int) ≤ r 6 iv ∧ r 6 iv ≤ 383 := ok 6 (iv)
    refine mf_bipush hx hb dX3_isNeck_38 rfl ?_
    refine mf_idiv hx hb dX3_isNeck_40 (i32_mk (by omega) (by omega)) (by omega) (i32_mk (by decide) (by decide)) (by omega) ?_
    refine lv_aload_n hx hb dX3_isNeck_41 rfl (lv_at hl 1 rfl) ?_
    refine va_get (D := G.1) (ci := 3) (v := .ref (adm 6)) (C := RX3) (T := TX3) (N := 11) hx hb hts hinX3 hown hK hP 0 rfl rfl 6 (by decide) (hts (.fieldLink RX3 23 "MeanderFarmModel" "course" "[I") (List.mem_of_getElem? (i := 1) rfl)) (fun _ h9 => h9) rfl dX3_isNeck_42 ?_
    refine lv_iload_n hx hb dX3_isNeck_45 rfl (lv_at hl 3 rfl) ?_
    refine mf_iald (n := 152) (f := u 6) hx hb hK hP 5 0 rfl rfl (z := jv) (by omega) (by omega) (by decide) dX3_isNeck_46 ?_
    refine mf_top (u 6 jv) (r 6 jv) (by rw [(rel6 hrel (z := jv) (by omega) (by omega))]) ?_
    have b6 : (0 : Int) ≤ r 6 jv ∧ r 6 jv ≤ 383 := ok 6 (jv)
    refine mf_bipush hx hb dX3_isNeck_47 rfl ?_
    refine mf_idiv hx hb dX3_isNeck_49 (i32_mk (by omega) (by omega)) (by omega) (i32_mk (by decide) (by decide)) (by omega) ?_
    refine mf_isub hx hb dX3_isNeck_50 ?_
    refine mf_abs hx hb (hml.trans hl.1.symm) hown (hts (.methodLink RX3 97 Lib.Math.abs.name) (List.mem_of_getElem? (i := 2) rfl)) (hts (.static Lib.Math.abs.name) (List.mem_of_getElem? (i := 3) rfl)) (hts (.initialized "java/lang/Math") (List.mem_of_getElem? (i := 4) rfl)) (hts (.code Lib.Math.abs.name Lib.Math.abs.code 1 (some .int)) (List.mem_of_getElem? (i := 5) rfl)) (by decide) (Nat.le_of_ble_eq_true rfl) (Nat.zero_le _) (Nat.zero_le _) (i32_mk (by omega) (by omega)) dX3_isNeck_51 ?_
    refine mf_nm (fun y7 ey7 => ?_)
    have by7 := mf_absI_s (((r 6 iv) / 24) - ((r 6 jv) / 24))
    rw [← ey7] at by7
    refine lv_istore (lv' := [(4, .int (iI (y7))), (3, .int (iI (y4))), (0, .ref hm), (1, .int (iI (iv))), (2, .int (iI (jv)))]) hx hb dX3_isNeck_54 hl (by decide) rfl (fun ls hl => ?_)
    refine lv_iload_n hx hb dX3_isNeck_56 rfl (lv_at hl 1 rfl) ?_
    refine lv_iload hx hb dX3_isNeck_57 (lv_at hl 0 rfl) ?_
    refine mf_iadd hx hb dX3_isNeck_59 ?_
    refine mf_iconst hx hb dX3_isNeck_60 ?_
    refine mf_icmp_ne (tgt := 68) hx hb dX3_isNeck_61 (by decide) (i32_mk (by omega) (by omega)) (i32_mk (by decide) (by decide)) (fun c8 => ?_) (fun c8 => ?_)
    · skip
      refine mf_iconst hx hb dX3_isNeck_68 ?_
      exact W.zret hx hb hr (mf_nar01 (by omega)) (fun t ht hW => ⟨_, rfl, (congrArg iI (bP_f (by intro z; have z4 := z.2.2.2; have z3 := z.2.2.1; have g := hadj.mp z4; omega)).symm), ht⟩) t_nil dX3_isNeck_69
    · skip
      refine mf_iconst hx hb dX3_isNeck_64 ?_
      refine lv_goto (tgt := 69) hx hb dX3_isNeck_65 (by decide) ?_
      exact W.zret hx hb hr (mf_nar01 (by omega)) (fun t ht hW => ⟨_, rfl, (congrArg iI (bP_t (by exact ⟨inC_mk hi9.1 hi9.2, inC_mk hj9.1 hj9.2, by omega, hadj.mpr (by omega)⟩)).symm), ht⟩) t_nil dX3_isNeck_69
  · skip
    refine mf_iconst hx hb dX3_isNeck_7 ?_
    exact W.zret hx hb hr (mf_nar01 (by omega)) (fun t ht hW => ⟨_, rfl, (congrArg iI (bP_f (by intro z; have z4 := z.2.2.2; have z3 := z.2.2.1; have g := hadj.mp z4; omega)).symm), ht⟩) t_nil dX3_isNeck_8
set_option maxHeartbeats 4000000 in
set_option maxRecDepth 100000 in
theorem c_X3_side (l : Launch) (G : mf_G) (hm : Nat) (adm : Nat → Nat) (u : mf_V) (iv : Int) (r : mf_V) (hiv : i32 iv) (oku : rOK ulo uhi u) (ok : rOK rlo rhi r) (hI : RInv r) (hrel : relU r u) (hi9 : 0 ≤ iv ∧ iv < r 7 0) : Met l yX3_side wsX3_side ({ frames := 2, cells := 0, slots := 0, locals := 43 }) (va_Pc [.ref hm, .int (iI (iv))] (RdP G (MW G hm adm u))) (vp_Si (fun q => q = iI (r 12 iv))) 0 0 (fun _ => False) := by
  refine Met.ofW (cc := cX3_side) (maxL := 3) (ret := (some .int)) (by decide) rfl ?_
  intro p e s m args below meth c s₁ B hml hv
  obtain ⟨rfl, hP, hK, hN⟩ := hv
  have hx := B.exec
  have hb := B.bytes
  have hr := B.returns
  have hts := atoms_spec (ws := wsX3_side) B.pre
  have hown : s.vm.findClass RX3 = some m.cls := findClass_of_methodNamed B.named
  have hlocks := B.notSynchronized
  have hl := lv_entry ([.ref hm, .int (iI (iv))]) (n := 3) (Nat.le_of_ble_eq_true rfl)
  rw [lg_entry_eq]
  generalize (lg_sl ([.ref hm, .int (iI (iv))]) ++ List.replicate (3 - (lg_sl ([.ref hm, .int (iI (iv))])).length) Slot.unset).toArray = ls at hl ⊢
  have hl : lv_has ls 3 [(0, .ref hm), (1, .int (iI (iv)))] := hl
  have hiv1 := hiv.1
  have hiv2 := hiv.2
  have okLr : (0 : Int) ≤ r 7 0 ∧ r 7 0 ≤ 150 := ok 7 0
  have hT := (hI.2.2.2 iv hi9.1 hi9.2).1
  refine lv_aload_n hx hb dX3_side_0 rfl (lv_at hl 0 rfl) ?_
  refine lv_iload_n hx hb dX3_side_1 rfl (lv_at hl 1 rfl) ?_
  refine vp_callSi (va_Run.run (va_runV (As := [.int (iI (iv))]) (rest := []) ⟨hx, hb, hml, hown, hts⟩ (c_X3_isStraight l G hm adm u (iv) (_) (i32_mk (by omega) (by omega)) (by assumption) (by assumption) (by first | assumption | omega) (by first | assumption | omega)) (cwV 1 hts gX3_side_X3_isStraight rfl rfl rfl (by decide +kernel) ⟨Nat.le_of_ble_eq_true rfl, Nat.le_of_ble_eq_true rfl⟩) (rdV (wc := MW G hm adm u) hK hP hN [0, 1, 2, 3, 4, 5, 6, 7, 8, 9] rfl (ci := 3) rfl rfl) rfl rfl hl.1 rfl (lv_room (Nat.le_of_ble_eq_true rfl)) dX3_side_2 ⟨(Nat.zero_le _), (Nat.zero_le _)⟩)) (fun q1 hq1 => ?_)
  subst hq1
  refine mf_bp_ne (tgt := 10) hx hb dX3_side_5 (by decide) (fun c2 => ?_) (fun c2 => ?_)
  · skip
    have c2' := c2; unfold strP at c2'
    have hsp : strP r iv := by assumption
    have hsp2 := hsp
    unfold strP at hsp2
    refine lv_iload_n hx hb dX3_side_10 rfl (lv_at hl 1 rfl) ?_
    refine mf_iconst hx hb dX3_side_11 ?_
    refine mf_isub hx hb dX3_side_12 ?_
    refine lv_istore_n (lv' := [(2, .int (iI (iv - 1))), (0, .ref hm), (1, .int (iI (iv)))]) hx hb dX3_side_13 rfl hl (by decide) rfl (fun ls hl => ?_)
    have lp14 : ∀ (n : Nat) (jv : Int), jv.toNat < n → (0 ≤ jv ∧ jv < iv) → (iv - jv ≤ 5) → (∀ q, jv < q → q ≤ iv → r 11 q = r 11 (q - 1)) → ∀ (ls : Array Slot), lv_has ls 3 [(0, .ref hm), (1, .int (iI (iv))), (2, .int (iI (jv)))] → W p l e (headSpec wsX3_side ({ frames := 2, cells := 0, slots := 0, locals := 43 })).room s m ([.ref hm, .int (iI (iv))] : List Value).toArray below meth c s.heap [] 0 0 (MQ below (vp_Si (fun q => q = iI (r 12 iv))) ([.ref hm, .int (iI (iv))] : List Value).toArray s 0 0 (fun _ => False)) (F0 m 14 ls []) := by
      intro n
      induction n with
      | zero => intro jv hn; exact absurd hn (Nat.not_lt_zero _)
      | succ n ih14 =>
        intro jv hn hj hj5 hq ls hl
        refine lv_iload_n hx hb dX3_side_14 rfl (lv_at hl 2 rfl) ?_
        refine mf_if_le (tgt := 54) hx hb dX3_side_15 (by decide) (i32_mk (by omega) (by omega)) (fun c3 => ?_) (fun c3 => ?_)
        · skip
          refine mf_iconst hx hb dX3_side_54 ?_
          exact W.iret hx hb hr (fun t ht hW => ⟨_, rfl, (congrArg iI (by exact thrS_uniq (Or.inr (Or.inr ⟨hsp, fun q h0 h1 h2 => hq q (by omega) h1, rfl⟩)) hT)), ht⟩) t_nil dX3_side_55
        · skip
          refine lv_iload_n hx hb dX3_side_18 rfl (lv_at hl 1 rfl) ?_
          refine lv_iload_n hx hb dX3_side_19 rfl (lv_at hl 2 rfl) ?_
          refine mf_isub hx hb dX3_side_20 ?_
          refine mf_iconst hx hb dX3_side_21 ?_
          refine mf_icmp_gt (tgt := 54) hx hb dX3_side_22 (by decide) (i32_mk (by omega) (by omega)) (i32_mk (by decide) (by decide)) (fun c4 => ?_) (fun c4 => ?_)
          · skip
            refine mf_iconst hx hb dX3_side_54 ?_
            exact W.iret hx hb hr (fun t ht hW => ⟨_, rfl, (congrArg iI (by exact thrS_uniq (Or.inr (Or.inr ⟨hsp, fun q h0 h1 h2 => hq q (by omega) h1, rfl⟩)) hT)), ht⟩) t_nil dX3_side_55
          · skip
            refine lv_aload_n hx hb dX3_side_25 rfl (lv_at hl 0 rfl) ?_
            refine lv_iload_n hx hb dX3_side_26 rfl (lv_at hl 2 rfl) ?_
            refine vp_callSi (va_Run.run (va_runV (As := [.int (iI (jv))]) (rest := []) ⟨hx, hb, hml, hown, hts⟩ (c_X3_direction l G hm adm u (jv) (_) (i32_mk (by omega) (by omega)) (by assumption) (by assumption) (by first | assumption | omega) (by first | assumption | omega) (by first | assumption | omega)) (cwV 1 hts gX3_side_X3_direction rfl rfl rfl (by decide +kernel) ⟨Nat.le_of_ble_eq_true rfl, Nat.le_of_ble_eq_true rfl⟩) (rdV (wc := MW G hm adm u) hK hP hN [0, 1, 2, 3, 4, 5, 6, 7, 8, 9] rfl (ci := 3) rfl rfl) rfl rfl hl.1 rfl (lv_room (Nat.le_of_ble_eq_true rfl)) dX3_side_27 ⟨(Nat.zero_le _), (Nat.zero_le _)⟩)) (fun q5 hq5 => ?_)
            subst hq5
            have b6 : (-1 : Int) ≤ (r 11 jv) ∧ (r 11 jv) ≤ 3 := (show rOK rlo rhi r by assumption) 11 jv
            refine lv_aload_n hx hb dX3_side_30 rfl (lv_at hl 0 rfl) ?_
            refine lv_iload_n hx hb dX3_side_31 rfl (lv_at hl 2 rfl) ?_
            refine mf_iconst hx hb dX3_side_32 ?_
            refine mf_isub hx hb dX3_side_33 ?_
            refine vp_callSi (va_Run.run (va_runV (As := [.int (iI (jv - 1))]) (rest := [.int (iI (r 11 jv))]) ⟨hx, hb, hml, hown, hts⟩ (c_X3_direction l G hm adm u (jv - 1) (_) (i32_mk (by omega) (by omega)) (by assumption) (by assumption) (by first | assumption | omega) (by first | assumption | omega) (by first | assumption | omega)) (cwV 1 hts gX3_side_X3_direction rfl rfl rfl (by decide +kernel) ⟨Nat.le_of_ble_eq_true rfl, Nat.le_of_ble_eq_true rfl⟩) (rdV (wc := MW G hm adm u) hK hP hN [0, 1, 2, 3, 4, 5, 6, 7, 8, 9] rfl (ci := 3) rfl rfl) rfl rfl hl.1 rfl (lv_room (Nat.le_of_ble_eq_true rfl)) dX3_side_34 ⟨(Nat.zero_le _), (Nat.zero_le _)⟩)) (fun q7 hq7 => ?_)
            subst hq7
            have b8 : (-1 : Int) ≤ (r 11 (jv - 1)) ∧ (r 11 (jv - 1)) ≤ 3 := (show rOK rlo rhi r by assumption) 11 (jv - 1)
            refine mf_icmp_eq (tgt := 48) hx hb dX3_side_37 (by decide) (i32_mk (by omega) (by omega)) (i32_mk (by omega) (by omega)) (fun c9 => ?_) (fun c9 => ?_)
            · skip
              refine lv_iinc (v := iI (jv + (-1))) (lv' := [(2, .int (iI (jv + (-1)))), (0, .ref hm), (1, .int (iI (iv)))]) hx hb dX3_side_48 hl (k := 2) rfl (iI_add _ _).symm (by decide) rfl (fun ls hl => ?_)
              refine lv_goto (tgt := 14) hx hb dX3_side_51 (by decide) ?_
              exact ih14 (jv + (-1)) (by omega) (by first | assumption | omega) (by first | assumption | omega) (by intro q h0 h1; rcases (show jv < q ∨ q = jv by omega) with z | z; (exact hq q z h1); (rw [z]; assumption))  ls (lv_sub hl [1, 2, 0] rfl)
            · skip
              refine lv_aload_n hx hb dX3_side_40 rfl (lv_at hl 0 rfl) ?_
              refine lv_iload_n hx hb dX3_side_41 rfl (lv_at hl 2 rfl) ?_
              refine mf_iconst hx hb dX3_side_42 ?_
              refine mf_isub hx hb dX3_side_43 ?_
              refine vp_callSi (va_Run.run (va_runV (As := [.int (iI (jv - 1))]) (rest := []) ⟨hx, hb, hml, hown, hts⟩ (c_X3_direction l G hm adm u (jv - 1) (_) (i32_mk (by omega) (by omega)) (by assumption) (by assumption) (by first | assumption | omega) (by first | assumption | omega) (by first | assumption | omega)) (cwV 1 hts gX3_side_X3_direction rfl rfl rfl (by decide +kernel) ⟨Nat.le_of_ble_eq_true rfl, Nat.le_of_ble_eq_true rfl⟩) (rdV (wc := MW G hm adm u) hK hP hN [0, 1, 2, 3, 4, 5, 6, 7, 8, 9] rfl (ci := 3) rfl rfl) rfl rfl hl.1 rfl (lv_room (Nat.le_of_ble_eq_true rfl)) dX3_side_44 ⟨(Nat.zero_le _), (Nat.zero_le _)⟩)) (fun q10 hq10 => ?_)
              subst hq10
              have b11 : (-1 : Int) ≤ (r 11 (jv - 1)) ∧ (r 11 (jv - 1)) ≤ 3 := (show rOK rlo rhi r by assumption) 11 (jv - 1)
              exact W.iret hx hb hr (fun t ht hW => ⟨_, rfl, (congrArg iI (by exact thrS_uniq (Or.inr (Or.inl ⟨hsp, jv, by omega, by omega, by omega, by assumption, hq, rfl⟩)) hT)), ht⟩) t_nil dX3_side_47
    exact lp14 (_ + 1) (iv - 1) (Nat.lt_succ_self _) (by first | assumption | omega) (by first | assumption | omega) (by intro q h0 h1; rw [show q = iv by omega]; exact hsp2.2.2.symm)  ls (lv_sub hl [1, 2, 0] rfl)
  · skip
    have c2' := c2; unfold strP at c2'
    refine mf_iconst hx hb dX3_side_8 ?_
    exact W.iret hx hb hr (fun t ht hW => ⟨_, rfl, (congrArg iI (by exact thrS_uniq (Or.inl ⟨(show ¬ strP r iv by assumption), rfl⟩) hT)), ht⟩) t_nil dX3_side_9
set_option maxHeartbeats 4000000 in
set_option maxRecDepth 100000 in
theorem c_X3_bank (l : Launch) (G : mf_G) (hm : Nat) (adm : Nat → Nat) (u : mf_V) (iv : Int) (r : mf_V) (hiv : i32 iv) (oku : rOK ulo uhi u) (ok : rOK rlo rhi r) (hI : RInv r) (hrel : relU r u) (hi9 : 0 ≤ iv ∧ iv < r 7 0) : Met l yX3_bank wsX3_bank ({ frames := 3, cells := 0, slots := 0, locals := 66 }) (va_Pc [.ref hm, .int (iI (iv))] (RdP G (MW G hm adm u))) (vp_Si (fun q => q = iI (r 13 iv))) 0 0 (fun _ => False) := by
  refine Met.ofW (cc := cX3_bank) (maxL := 2) (ret := (some .int)) (by decide) rfl ?_
  intro p e s m args below meth c s₁ B hml hv
  obtain ⟨rfl, hP, hK, hN⟩ := hv
  have hx := B.exec
  have hb := B.bytes
  have hr := B.returns
  have hts := atoms_spec (ws := wsX3_bank) B.pre
  have hown : s.vm.findClass RX3 = some m.cls := findClass_of_methodNamed B.named
  have hlocks := B.notSynchronized
  have hinX3 : ∀ w ∈ u_ws RX3 TX3 11, w ∈ wsX3_bank := fun w h => List.mem_cons_of_mem _ (List.mem_append_right _ h)
  have hl := lv_entry ([.ref hm, .int (iI (iv))]) (n := 2) (Nat.le_of_ble_eq_true rfl)
  rw [lg_entry_eq]
  generalize (lg_sl ([.ref hm, .int (iI (iv))]) ++ List.replicate (2 - (lg_sl ([.ref hm, .int (iI (iv))])).length) Slot.unset).toArray = ls at hl ⊢
  have hl : lv_has ls 2 [(0, .ref hm), (1, .int (iI (iv)))] := hl
  have hiv1 := hiv.1
  have hiv2 := hiv.2
  have okLr : (0 : Int) ≤ r 7 0 ∧ r 7 0 ≤ 150 := ok 7 0
  refine lv_aload_n hx hb dX3_bank_0 rfl (lv_at hl 0 rfl) ?_
  refine lv_iload_n hx hb dX3_bank_1 rfl (lv_at hl 1 rfl) ?_
  refine vp_callSi (va_Run.run (va_runV (As := [.int (iI (iv))]) (rest := []) ⟨hx, hb, hml, hown, hts⟩ (c_X3_side l G hm adm u (iv) (_) (i32_mk (by omega) (by omega)) (by assumption) (by assumption) (by first | assumption | omega) (by first | assumption | omega) (by first | assumption | omega)) (cwV 1 hts gX3_bank_X3_side rfl rfl rfl (by decide +kernel) ⟨Nat.le_of_ble_eq_true rfl, Nat.le_of_ble_eq_true rfl⟩) (rdV (wc := MW G hm adm u) hK hP hN [0, 1, 2, 3, 4, 5, 6, 7, 8, 9] rfl (ci := 3) rfl rfl) rfl rfl hl.1 rfl (lv_room (Nat.le_of_ble_eq_true rfl)) dX3_bank_2 ⟨(Nat.zero_le _), (Nat.zero_le _)⟩)) (fun q1 hq1 => ?_)
  subst hq1
  have b2 : (-1 : Int) ≤ (r 12 iv) ∧ (r 12 iv) ≤ 3 := (show rOK rlo rhi r by assumption) 12 iv
  refine mf_iconst hx hb dX3_bank_5 ?_
  refine mf_icmp_ne (tgt := 13) hx hb dX3_bank_6 (by decide) (i32_mk (by omega) (by omega)) (i32_mk (by decide) (by decide)) (fun c3 => ?_) (fun c3 => ?_)
  · skip
    refine lv_aload_n hx hb dX3_bank_13 rfl (lv_at hl 0 rfl) ?_
    refine va_get (D := G.1) (ci := 3) (v := .ref (adm 6)) (C := RX3) (T := TX3) (N := 11) hx hb hts hinX3 hown hK hP 0 rfl rfl 6 (by decide) (hts (.fieldLink RX3 23 "MeanderFarmModel" "course" "[I") (List.mem_of_getElem? (i := 1) rfl)) (fun _ h9 => h9) rfl dX3_bank_14 ?_
    refine lv_iload_n hx hb dX3_bank_17 rfl (lv_at hl 1 rfl) ?_
    refine mf_iald (n := 152) (f := u 6) hx hb hK hP 5 0 rfl rfl (z := iv) (by omega) (by omega) (by decide) dX3_bank_18 ?_
    refine mf_top (u 6 iv) (r 6 iv) (by rw [(rel6 hrel (z := iv) (by omega) (by omega))]) ?_
    have b4 : (0 : Int) ≤ r 6 iv ∧ r 6 iv ≤ 383 := ok 6 (iv)
    refine lv_aload_n hx hb dX3_bank_19 rfl (lv_at hl 0 rfl) ?_
    refine lv_iload_n hx hb dX3_bank_20 rfl (lv_at hl 1 rfl) ?_
    refine vp_callSi (va_Run.run (va_runV (As := [.int (iI (iv))]) (rest := [.int (iI (r 6 iv))]) ⟨hx, hb, hml, hown, hts⟩ (c_X3_side l G hm adm u (iv) (_) (i32_mk (by omega) (by omega)) (by assumption) (by assumption) (by first | assumption | omega) (by first | assumption | omega) (by first | assumption | omega)) (cwV 1 hts gX3_bank_X3_side rfl rfl rfl (by decide +kernel) ⟨Nat.le_of_ble_eq_true rfl, Nat.le_of_ble_eq_true rfl⟩) (rdV (wc := MW G hm adm u) hK hP hN [0, 1, 2, 3, 4, 5, 6, 7, 8, 9] rfl (ci := 3) rfl rfl) rfl rfl hl.1 rfl (lv_room (Nat.le_of_ble_eq_true rfl)) dX3_bank_21 ⟨(Nat.zero_le _), (Nat.zero_le _)⟩)) (fun q5 hq5 => ?_)
    subst hq5
    have b6 : (-1 : Int) ≤ (r 12 iv) ∧ (r 12 iv) ≤ 3 := (show rOK rlo rhi r by assumption) 12 iv
    refine vp_callSi (va_Run.run (va_runS (As := [.int (iI (r 6 iv)), .int (iI (r 12 iv))]) (rest := []) ⟨hx, hb, hml, hown, hts⟩ (c_X3_beside l (r 6 iv) (r 12 iv) (i32_mk (by omega) (by omega)) (i32_mk (by omega) (by omega)) (by first | assumption | omega) (by first | assumption | omega)) (va_cwS 2 hts gX3_bank_X3_beside rfl rfl rfl (by decide +kernel) ⟨Nat.le_of_ble_eq_true rfl, Nat.le_of_ble_eq_true rfl⟩) pureS rfl rfl hl.1 rfl (lv_room (Nat.le_of_ble_eq_true rfl)) dX3_bank_24 ⟨(Nat.zero_le _), (Nat.zero_le _)⟩)) (fun q7 hq7 => ?_)
    subst hq7
    refine mf_nm (fun y8 ey8 => ?_)
    have b9 : -1 ≤ y8 ∧ y8 ≤ 383 := by rw [ey8]; exact nbr_b (r 6 iv) (r 12 iv)
    exact W.iret hx hb hr (fun t ht hW => ⟨_, rfl, (congrArg iI (by rw [(hI.2.2.2 iv hi9.1 hi9.2).2]; exact ey8)), ht⟩) t_nil dX3_bank_27
  · skip
    refine mf_iconst hx hb dX3_bank_9 ?_
    refine lv_goto (tgt := 27) hx hb dX3_bank_10 (by decide) ?_
    exact W.iret hx hb hr (fun t ht hW => ⟨_, rfl, (congrArg iI (by rw [(hI.2.2.2 iv hi9.1 hi9.2).2, show r 12 iv = -1 by omega]; exact (nbr_dm1 _).symm)), ht⟩) t_nil dX3_bank_27
set_option maxHeartbeats 4000000 in
set_option maxRecDepth 100000 in
theorem c_X3_canBulge (l : Launch) (G : mf_G) (hm : Nat) (adm : Nat → Nat) (u : mf_V) (iv : Int) (sv : Int) (r : mf_V) (hiv : i32 iv) (hsv : i32 sv) (oku : rOK ulo uhi u) (ok : rOK rlo rhi r) (hI : RInv r) (hrel : relU r u) (hs9 : 0 ≤ sv ∧ sv ≤ 3) : Met l yX3_canBulge wsX3_canBulge ({ frames := 3, cells := 0, slots := 0, locals := 66 }) (va_Pc [.ref hm, .int (iI (iv)), .int (iI (sv))] (RdP G (MW G hm adm u))) (vp_Si (fun q => q = iI (bP (canB r iv sv)))) 0 0 (fun _ => False) := by
  refine Met.ofW (cc := cX3_canBulge) (maxL := 5) (ret := (some .boolean)) (by decide) rfl ?_
  intro p e s m args below meth c s₁ B hml hv
  obtain ⟨rfl, hP, hK, hN⟩ := hv
  have hx := B.exec
  have hb := B.bytes
  have hr := B.returns
  have hts := atoms_spec (ws := wsX3_canBulge) B.pre
  have hown : s.vm.findClass RX3 = some m.cls := findClass_of_methodNamed B.named
  have hlocks := B.notSynchronized
  have hinX3 : ∀ w ∈ u_ws RX3 TX3 11, w ∈ wsX3_canBulge := fun w h => List.mem_cons_of_mem _ (List.mem_append_right _ h)
  have hl := lv_entry ([.ref hm, .int (iI (iv)), .int (iI (sv))]) (n := 5) (Nat.le_of_ble_eq_true rfl)
  rw [lg_entry_eq]
  generalize (lg_sl ([.ref hm, .int (iI (iv)), .int (iI (sv))]) ++ List.replicate (5 - (lg_sl ([.ref hm, .int (iI (iv)), .int (iI (sv))])).length) Slot.unset).toArray = ls at hl ⊢
  have hl : lv_has ls 5 [(0, .ref hm), (1, .int (iI (iv))), (2, .int (iI (sv)))] := hl
  have hiv1 := hiv.1
  have hiv2 := hiv.2
  have hsv1 := hsv.1
  have hsv2 := hsv.2
  have okLr : (0 : Int) ≤ r 7 0 ∧ r 7 0 ≤ 150 := ok 7 0
  refine lv_aload_n hx hb dX3_canBulge_0 rfl (lv_at hl 0 rfl) ?_
  refine lv_iload_n hx hb dX3_canBulge_1 rfl (lv_at hl 1 rfl) ?_
  refine vp_callSi (va_Run.run (va_runV (As := [.int (iI (iv))]) (rest := []) ⟨hx, hb, hml, hown, hts⟩ (c_X3_isStraight l G hm adm u (iv) (_) (i32_mk (by omega) (by omega)) (by assumption) (by assumption) (by first | assumption | omega) (by first | assumption | omega)) (cwV 1 hts gX3_canBulge_X3_isStraight rfl rfl rfl (by decide +kernel) ⟨Nat.le_of_ble_eq_true rfl, Nat.le_of_ble_eq_true rfl⟩) (rdV (wc := MW G hm adm u) hK hP hN [0, 1, 2, 3, 4, 5, 6, 7, 8, 9] rfl (ci := 3) rfl rfl) rfl rfl hl.1 rfl (lv_room (Nat.le_of_ble_eq_true rfl)) dX3_canBulge_2 ⟨(Nat.zero_le _), (Nat.zero_le _)⟩)) (fun q1 hq1 => ?_)
  subst hq1
  refine mf_bp_eq (tgt := 33) hx hb dX3_canBulge_5 (by decide) (fun c2 => ?_) (fun c2 => ?_)
  · skip
    have c2' := c2; unfold strP at c2'
    refine mf_iconst hx hb dX3_canBulge_33 ?_
    exact W.zret hx hb hr (mf_nar01 (by omega)) (fun t ht hW => ⟨_, rfl, (congrArg iI (by exact (bP_f (fun z => by unfold canB at z; obtain ⟨z1, z2, z3, z4, z5, -⟩ := z; first | contradiction | omega)).symm)), ht⟩) t_nil dX3_canBulge_34
  · skip
    have c2' := c2; unfold strP at c2'
    have hsp : strP r iv := by assumption
    have hsp2 := hsp
    unfold strP at hsp2
    have hd8 := dirW hI (i := iv) (by omega) (by omega)
    refine lv_iload_n hx hb dX3_canBulge_8 rfl (lv_at hl 2 rfl) ?_
    refine mf_iconst hx hb dX3_canBulge_9 ?_
    refine mf_irem hx hb dX3_canBulge_10 (i32_mk (by omega) (by omega)) (by omega) (i32_mk (by decide) (by decide)) (by omega) ?_
    refine lv_aload_n hx hb dX3_canBulge_11 rfl (lv_at hl 0 rfl) ?_
    refine lv_iload_n hx hb dX3_canBulge_12 rfl (lv_at hl 1 rfl) ?_
    refine vp_callSi (va_Run.run (va_runV (As := [.int (iI (iv))]) (rest := [.int (iI (sv % 2))]) ⟨hx, hb, hml, hown, hts⟩ (c_X3_direction l G hm adm u (iv) (_) (i32_mk (by omega) (by omega)) (by assumption) (by assumption) (by first | assumption | omega) (by first | assumption | omega) (by first | assumption | omega)) (cwV 1 hts gX3_canBulge_X3_direction rfl rfl rfl (by decide +kernel) ⟨Nat.le_of_ble_eq_true rfl, Nat.le_of_ble_eq_true rfl⟩) (rdV (wc := MW G hm adm u) hK hP hN [0, 1, 2, 3, 4, 5, 6, 7, 8, 9] rfl (ci := 3) rfl rfl) rfl rfl hl.1 rfl (lv_room (Nat.le_of_ble_eq_true rfl)) dX3_canBulge_13 ⟨(Nat.zero_le _), (Nat.zero_le _)⟩)) (fun q3 hq3 => ?_)
    subst hq3
    have b4 : (-1 : Int) ≤ (r 11 iv) ∧ (r 11 iv) ≤ 3 := (show rOK rlo rhi r by assumption) 11 iv
    refine mf_iconst hx hb dX3_canBulge_16 ?_
    refine mf_irem hx hb dX3_canBulge_17 (i32_mk (by omega) (by omega)) (by omega) (i32_mk (by decide) (by decide)) (by omega) ?_
    refine mf_icmp_eq (tgt := 33) hx hb dX3_canBulge_18 (by decide) (i32_mk (by omega) (by omega)) (i32_mk (by omega) (by omega)) (fun c5 => ?_) (fun c5 => ?_)
    · skip
      refine mf_iconst hx hb dX3_canBulge_33 ?_
      exact W.zret hx hb hr (mf_nar01 (by omega)) (fun t ht hW => ⟨_, rfl, (congrArg iI (by exact (bP_f (fun z => by unfold canB at z; obtain ⟨z1, z2, z3, z4, z5, -⟩ := z; first | contradiction | omega)).symm)), ht⟩) t_nil dX3_canBulge_34
    · skip
      refine lv_aload_n hx hb dX3_canBulge_21 rfl (lv_at hl 0 rfl) ?_
      refine vp_callSi (va_Run.run (va_runV (As := []) (rest := []) ⟨hx, hb, hml, hown, hts⟩ (c_X3_length l G hm adm u (by assumption)) (cwV 0 hts gX3_canBulge_X3_length rfl rfl rfl (by decide +kernel) ⟨Nat.le_of_ble_eq_true rfl, Nat.le_of_ble_eq_true rfl⟩) (rdV (wc := MW G hm adm u) hK hP hN [0, 1, 2, 3, 4, 5, 6, 7, 8, 9] rfl (ci := 3) rfl rfl) rfl rfl hl.1 rfl (lv_room (Nat.le_of_ble_eq_true rfl)) dX3_canBulge_22 ⟨(Nat.zero_le _), (Nat.zero_le _)⟩)) (fun q6 hq6 => ?_)
      subst hq6
      refine mf_top (u 10 2) (r 7 0) (by rw [rel10_2 hrel]) ?_
      have b7 : (0 : Int) ≤ r 7 0 ∧ r 7 0 ≤ 150 := ok 7 0
      refine mf_iconst hx hb dX3_canBulge_25 ?_
      refine mf_iadd hx hb dX3_canBulge_26 ?_
      refine mf_sipush hx hb dX3_canBulge_27 rfl ?_
      refine mf_icmp_le (tgt := 35) hx hb dX3_canBulge_30 (by decide) (i32_mk (by omega) (by omega)) (i32_mk (by decide) (by decide)) (fun c8 => ?_) (fun c8 => ?_)
      · skip
        refine mf_iconst hx hb dX3_canBulge_35 ?_
        refine lv_istore_n (lv' := [(3, .int (iI ((-1)))), (0, .ref hm), (1, .int (iI (iv))), (2, .int (iI (sv)))]) hx hb dX3_canBulge_36 rfl hl (by decide) rfl (fun ls hl => ?_)
        have lp37 : ∀ (n : Nat) (kv : Int), (2 - kv).toNat < n → (-1 ≤ kv ∧ kv ≤ 2) → (∀ q, iv - 1 ≤ q → q < iv + kv → openP r (nbr (r 6 q) sv)) → ∀ (ls : Array Slot), lv_has ls 5 [(0, .ref hm), (1, .int (iI (iv))), (2, .int (iI (sv))), (3, .int (iI (kv)))] → W p l e (headSpec wsX3_canBulge ({ frames := 3, cells := 0, slots := 0, locals := 66 })).room s m ([.ref hm, .int (iI (iv)), .int (iI (sv))] : List Value).toArray below meth c s.heap [] 0 0 (MQ below (vp_Si (fun q => q = iI (bP (canB r iv sv)))) ([.ref hm, .int (iI (iv)), .int (iI (sv))] : List Value).toArray s 0 0 (fun _ => False)) (F0 m 37 ls []) := by
          intro n
          induction n with
          | zero => intro kv hn; exact absurd hn (Nat.not_lt_zero _)
          | succ n ih37 =>
            intro kv hn hk hq ls hl
            refine lv_iload_n hx hb dX3_canBulge_37 rfl (lv_at hl 3 rfl) ?_
            refine mf_iconst hx hb dX3_canBulge_38 ?_
            refine mf_icmp_ge (tgt := 91) hx hb dX3_canBulge_39 (by decide) (i32_mk (by omega) (by omega)) (i32_mk (by decide) (by decide)) (fun c9 => ?_) (fun c9 => ?_)
            · skip
              refine mf_iconst hx hb dX3_canBulge_91 ?_
              exact W.zret hx hb hr (mf_nar01 (by omega)) (fun t ht hW => ⟨_, rfl, (congrArg iI (by exact (bP_t (by unfold canB; rw [cellAtF_in (by omega) (by omega), cellAtF_in (by omega) (by omega), cellAtF_in (by omega) (by omega)]; exact ⟨by assumption, by omega, by omega, by omega, by assumption, hq _ (by omega) (by omega), hq _ (by omega) (by omega), hq _ (by omega) (by omega)⟩)).symm)), ht⟩) t_nil dX3_canBulge_92
            · skip
              refine lv_aload_n hx hb dX3_canBulge_42 rfl (lv_at hl 0 rfl) ?_
              refine va_get (D := G.1) (ci := 3) (v := .ref (adm 6)) (C := RX3) (T := TX3) (N := 11) hx hb hts hinX3 hown hK hP 0 rfl rfl 6 (by decide) (hts (.fieldLink RX3 23 "MeanderFarmModel" "course" "[I") (List.mem_of_getElem? (i := 1) rfl)) (fun _ h9 => h9) rfl dX3_canBulge_43 ?_
              refine lv_iload_n hx hb dX3_canBulge_46 rfl (lv_at hl 1 rfl) ?_
              refine lv_iload_n hx hb dX3_canBulge_47 rfl (lv_at hl 3 rfl) ?_
              refine mf_iadd hx hb dX3_canBulge_48 ?_
              refine mf_iald (n := 152) (f := u 6) hx hb hK hP 5 0 rfl rfl (z := iv + kv) (by omega) (by omega) (by decide) dX3_canBulge_49 ?_
              refine mf_top (u 6 (iv + kv)) (r 6 (iv + kv)) (by rw [(rel6 hrel (z := iv + kv) (by omega) (by omega))]) ?_
              have b10 : (0 : Int) ≤ r 6 (iv + kv) ∧ r 6 (iv + kv) ≤ 383 := ok 6 (iv + kv)
              refine lv_iload_n hx hb dX3_canBulge_50 rfl (lv_at hl 2 rfl) ?_
              refine vp_callSi (va_Run.run (va_runS (As := [.int (iI (r 6 (iv + kv))), .int (iI (sv))]) (rest := []) ⟨hx, hb, hml, hown, hts⟩ (c_X3_beside l (r 6 (iv + kv)) (sv) (i32_mk (by omega) (by omega)) (i32_mk (by omega) (by omega)) (by first | assumption | omega) (by first | assumption | omega)) (va_cwS 2 hts gX3_canBulge_X3_beside rfl rfl rfl (by decide +kernel) ⟨Nat.le_of_ble_eq_true rfl, Nat.le_of_ble_eq_true rfl⟩) pureS rfl rfl hl.1 rfl (lv_room (Nat.le_of_ble_eq_true rfl)) dX3_canBulge_51 ⟨(Nat.zero_le _), (Nat.zero_le _)⟩)) (fun q11 hq11 => ?_)
              subst hq11
              refine mf_nm (fun y12 ey12 => ?_)
              have b13 : -1 ≤ y12 ∧ y12 ≤ 383 := by rw [ey12]; exact nbr_b (r 6 (iv + kv)) sv
              refine lv_istore (lv' := [(4, .int (iI (y12))), (0, .ref hm), (1, .int (iI (iv))), (2, .int (iI (sv))), (3, .int (iI (kv)))]) hx hb dX3_canBulge_54 hl (by decide) rfl (fun ls hl => ?_)
              refine lv_iload hx hb dX3_canBulge_56 (lv_at hl 0 rfl) ?_
              refine mf_iconst hx hb dX3_canBulge_58 ?_
              refine mf_icmp_eq (tgt := 83) hx hb dX3_canBulge_59 (by decide) (i32_mk (by omega) (by omega)) (i32_mk (by decide) (by decide)) (fun c14 => ?_) (fun c14 => ?_)
              · skip
                refine mf_iconst hx hb dX3_canBulge_83 ?_
                exact W.zret hx hb hr (mf_nar01 (by omega)) (fun t ht hW => ⟨_, rfl, (congrArg iI (by exact (bP_f (fun z => by have g := (canB_w okLr.2 z).2.2.2 (iv + kv) (by omega) (by omega); rw [← ey12] at g; omega)).symm)), ht⟩) t_nil dX3_canBulge_84
              · skip
                refine lv_aload_n hx hb dX3_canBulge_62 rfl (lv_at hl 1 rfl) ?_
                refine va_get (D := G.1) (ci := 3) (v := .ref (adm 7)) (C := RX3) (T := TX3) (N := 11) hx hb hts hinX3 hown hK hP 0 rfl rfl 7 (by decide) (hts (.fieldLink RX3 26 "MeanderFarmModel" "where" "[I") (List.mem_of_getElem? (i := 2) rfl)) (fun _ h9 => h9) rfl dX3_canBulge_63 ?_
                refine lv_iload hx hb dX3_canBulge_66 (lv_at hl 0 rfl) ?_
                refine mf_iald (n := 384) (f := u 7) hx hb hK hP 6 0 rfl rfl (z := y12) (by omega) (by omega) (by decide) dX3_canBulge_68 ?_
                refine mf_top (u 7 y12) (r 10 y12) (by rw [(rel7 hrel (z := y12) (by omega) (by omega))]) ?_
                have b15 : (-1 : Int) ≤ r 10 y12 ∧ r 10 y12 ≤ 149 := ok 10 (y12)
                refine mf_iconst hx hb dX3_canBulge_69 ?_
                refine mf_icmp_ne (tgt := 83) hx hb dX3_canBulge_70 (by decide) (i32_mk (by omega) (by omega)) (i32_mk (by decide) (by decide)) (fun c16 => ?_) (fun c16 => ?_)
                · skip
                  refine mf_iconst hx hb dX3_canBulge_83 ?_
                  exact W.zret hx hb hr (mf_nar01 (by omega)) (fun t ht hW => ⟨_, rfl, (congrArg iI (by exact (bP_f (fun z => by have g := (canB_w okLr.2 z).2.2.2 (iv + kv) (by omega) (by omega); rw [← ey12] at g; omega)).symm)), ht⟩) t_nil dX3_canBulge_84
                · skip
                  refine lv_aload_n hx hb dX3_canBulge_73 rfl (lv_at hl 1 rfl) ?_
                  refine va_get (D := G.1) (ci := 3) (v := .ref (adm 2)) (C := RX3) (T := TX3) (N := 11) hx hb hts hinX3 hown hK hP 0 rfl rfl 2 (by decide) (hts (.fieldLink RX3 13 "MeanderFarmModel" "stones" "[Z") (List.mem_of_getElem? (i := 3) rfl)) (fun _ h9 => h9) rfl dX3_canBulge_74 ?_
                  refine lv_iload hx hb dX3_canBulge_77 (lv_at hl 0 rfl) ?_
                  refine mf_zald (n := 384) (f := u 2) hx hb hK hP 2 1 rfl rfl (z := y12) (by omega) (by omega) (by decide) dX3_canBulge_79 ?_
                  refine mf_top (u 2 y12) (r 2 y12) (by rw [(rel2 hrel (z := y12) (by omega) (by omega))]) ?_
                  have b17 : (0 : Int) ≤ r 2 y12 ∧ r 2 y12 ≤ 1 := ok 2 (y12)
                  refine mf_if_eq (tgt := 85) hx hb dX3_canBulge_80 (by decide) (i32_mk (by omega) (by omega)) (fun c18 => ?_) (fun c18 => ?_)
                  · skip
                    refine lv_iinc (v := iI (kv + 1)) (lv' := [(3, .int (iI (kv + 1))), (4, .int (iI (y12))), (0, .ref hm), (1, .int (iI (iv))), (2, .int (iI (sv)))]) hx hb dX3_canBulge_85 hl (k := 4) rfl (iI_add _ _).symm (by decide) rfl (fun ls hl => ?_)
                    refine lv_goto (tgt := 37) hx hb dX3_canBulge_88 (by decide) ?_
                    exact ih37 (kv + 1) (by omega) (by first | assumption | omega) (by intro q h0 h1; rcases (show q < iv + kv ∨ q = iv + kv by omega) with z | z; (exact hq q h0 z); (rw [z, ← ey12]; exact ⟨by omega, by omega, by omega, by omega⟩))  ls (lv_sub hl [2, 3, 4, 0] rfl)
                  · skip
                    refine mf_iconst hx hb dX3_canBulge_83 ?_
                    exact W.zret hx hb hr (mf_nar01 (by omega)) (fun t ht hW => ⟨_, rfl, (congrArg iI (by exact (bP_f (fun z => by have g := (canB_w okLr.2 z).2.2.2 (iv + kv) (by omega) (by omega); rw [← ey12] at g; omega)).symm)), ht⟩) t_nil dX3_canBulge_84
        exact lp37 (_ + 1) (-1) (Nat.lt_succ_self _) (by first | assumption | omega) (by intro q h0 h1; omega)  ls (lv_sub hl [1, 2, 3, 0] rfl)
      · skip
        refine mf_iconst hx hb dX3_canBulge_33 ?_
        exact W.zret hx hb hr (mf_nar01 (by omega)) (fun t ht hW => ⟨_, rfl, (congrArg iI (by exact (bP_f (fun z => by unfold canB at z; obtain ⟨z1, z2, z3, z4, z5, -⟩ := z; first | contradiction | omega)).symm)), ht⟩) t_nil dX3_canBulge_34
set_option maxHeartbeats 4000000 in
set_option maxRecDepth 100000 in
theorem c_X3_far (l : Launch) (G : mf_G) (hm : Nat) (adm : Nat → Nat) (u : mf_V) (iv : Int) (r : mf_V) (hiv : i32 iv) (oku : rOK ulo uhi u) (ok : rOK rlo rhi r) (hI : RInv r) (hrel : relU r u) (hi9 : 0 ≤ iv ∧ iv < r 7 0) : Met l yX3_far wsX3_far ({ frames := 3, cells := 0, slots := 0, locals := 66 }) (va_Pc [.ref hm, .int (iI (iv))] (RdP G (MW G hm adm u))) (vp_Si (fun q => q = iI (farF r iv))) 0 0 (fun _ => False) := by
  refine Met.ofW (cc := cX3_far) (maxL := 5) (ret := (some .int)) (by decide) rfl ?_
  intro p e s m args below meth c s₁ B hml hv
  obtain ⟨rfl, hP, hK, hN⟩ := hv
  have hx := B.exec
  have hb := B.bytes
  have hr := B.returns
  have hts := atoms_spec (ws := wsX3_far) B.pre
  have hown : s.vm.findClass RX3 = some m.cls := findClass_of_methodNamed B.named
  have hlocks := B.notSynchronized
  have hinX3 : ∀ w ∈ u_ws RX3 TX3 11, w ∈ wsX3_far := fun w h => List.mem_cons_of_mem _ (List.mem_append_right _ h)
  have hl := lv_entry ([.ref hm, .int (iI (iv))]) (n := 5) (Nat.le_of_ble_eq_true rfl)
  rw [lg_entry_eq]
  generalize (lg_sl ([.ref hm, .int (iI (iv))]) ++ List.replicate (5 - (lg_sl ([.ref hm, .int (iI (iv))])).length) Slot.unset).toArray = ls at hl ⊢
  have hl : lv_has ls 5 [(0, .ref hm), (1, .int (iI (iv)))] := hl
  have hiv1 := hiv.1
  have hiv2 := hiv.2
  have okLr : (0 : Int) ≤ r 7 0 ∧ r 7 0 ≤ 150 := ok 7 0
  refine mf_iconst hx hb dX3_far_0 ?_
  refine lv_istore_n (lv' := [(2, .int (iI ((-1)))), (0, .ref hm), (1, .int (iI (iv)))]) hx hb dX3_far_1 rfl hl (by decide) rfl (fun ls hl => ?_)
  refine mf_iconst hx hb dX3_far_2 ?_
  refine lv_istore_n (lv' := [(3, .int (iI (0))), (2, .int (iI ((-1)))), (0, .ref hm), (1, .int (iI (iv)))]) hx hb dX3_far_3 rfl hl (by decide) rfl (fun ls hl => ?_)
  have lp4 : ∀ (n : Nat) (xv : Int) (kv : Int), (4 - kv).toNat < n → (0 ≤ kv ∧ kv ≤ 4) → (-1 ≤ xv ∧ xv ≤ 149) → (xv = farG r iv kv) → ∀ (ls : Array Slot), lv_has ls 5 [(0, .ref hm), (1, .int (iI (iv))), (2, .int (iI (xv))), (3, .int (iI (kv)))] → W p l e (headSpec wsX3_far ({ frames := 3, cells := 0, slots := 0, locals := 66 })).room s m ([.ref hm, .int (iI (iv))] : List Value).toArray below meth c s.heap [] 0 0 (MQ below (vp_Si (fun q => q = iI (farF r iv))) ([.ref hm, .int (iI (iv))] : List Value).toArray s 0 0 (fun _ => False)) (F0 m 4 ls []) := by
    intro n
    induction n with
    | zero => intro xv kv hn; exact absurd hn (Nat.not_lt_zero _)
    | succ n ih4 =>
      intro xv kv hn hk hxb hs ls hl
      refine lv_iload_n hx hb dX3_far_4 rfl (lv_at hl 3 rfl) ?_
      refine mf_iconst hx hb dX3_far_5 ?_
      refine mf_icmp_ge (tgt := 58) hx hb dX3_far_6 (by decide) (i32_mk (by omega) (by omega)) (i32_mk (by decide) (by decide)) (fun c1 => ?_) (fun c1 => ?_)
      · skip
        refine lv_iload_n hx hb dX3_far_58 rfl (lv_at hl 2 rfl) ?_
        exact W.iret hx hb hr (fun t ht hW => ⟨_, rfl, (congrArg iI (by rw [show kv = 4 by omega] at hs; exact hs)), ht⟩) t_nil dX3_far_59
      · skip
        refine lv_aload_n hx hb dX3_far_9 rfl (lv_at hl 0 rfl) ?_
        refine va_get (D := G.1) (ci := 3) (v := .ref (adm 6)) (C := RX3) (T := TX3) (N := 11) hx hb hts hinX3 hown hK hP 0 rfl rfl 6 (by decide) (hts (.fieldLink RX3 23 "MeanderFarmModel" "course" "[I") (List.mem_of_getElem? (i := 1) rfl)) (fun _ h9 => h9) rfl dX3_far_10 ?_
        refine lv_iload_n hx hb dX3_far_13 rfl (lv_at hl 1 rfl) ?_
        refine mf_iald (n := 152) (f := u 6) hx hb hK hP 5 0 rfl rfl (z := iv) (by omega) (by omega) (by decide) dX3_far_14 ?_
        refine mf_top (u 6 iv) (r 6 iv) (by rw [(rel6 hrel (z := iv) (by omega) (by omega))]) ?_
        have b2 : (0 : Int) ≤ r 6 iv ∧ r 6 iv ≤ 383 := ok 6 (iv)
        refine lv_iload_n hx hb dX3_far_15 rfl (lv_at hl 3 rfl) ?_
        refine vp_callSi (va_Run.run (va_runS (As := [.int (iI (r 6 iv)), .int (iI (kv))]) (rest := []) ⟨hx, hb, hml, hown, hts⟩ (c_X3_beside l (r 6 iv) (kv) (i32_mk (by omega) (by omega)) (i32_mk (by omega) (by omega)) (by first | assumption | omega) (by first | assumption | omega)) (va_cwS 2 hts gX3_far_X3_beside rfl rfl rfl (by decide +kernel) ⟨Nat.le_of_ble_eq_true rfl, Nat.le_of_ble_eq_true rfl⟩) pureS rfl rfl hl.1 rfl (lv_room (Nat.le_of_ble_eq_true rfl)) dX3_far_16 ⟨(Nat.zero_le _), (Nat.zero_le _)⟩)) (fun q3 hq3 => ?_)
        subst hq3
        refine mf_nm (fun y4 ey4 => ?_)
        have b5 : -1 ≤ y4 ∧ y4 ≤ 383 := by rw [ey4]; exact nbr_b (r 6 iv) kv
        refine lv_istore (lv' := [(4, .int (iI (y4))), (0, .ref hm), (1, .int (iI (iv))), (2, .int (iI (xv))), (3, .int (iI (kv)))]) hx hb dX3_far_19 hl (by decide) rfl (fun ls hl => ?_)
        refine lv_iload hx hb dX3_far_21 (lv_at hl 0 rfl) ?_
        refine mf_iconst hx hb dX3_far_23 ?_
        refine mf_icmp_eq (tgt := 52) hx hb dX3_far_24 (by decide) (i32_mk (by omega) (by omega)) (i32_mk (by decide) (by decide)) (fun c6 => ?_) (fun c6 => ?_)
        · skip
          refine lv_iinc (v := iI (kv + 1)) (lv' := [(3, .int (iI (kv + 1))), (4, .int (iI (y4))), (0, .ref hm), (1, .int (iI (iv))), (2, .int (iI (xv)))]) hx hb dX3_far_52 hl (k := 4) rfl (iI_add _ _).symm (by decide) rfl (fun ls hl => ?_)
          refine lv_goto (tgt := 4) hx hb dX3_far_55 (by decide) ?_
          exact ih4 xv (kv + 1) (by omega) (by first | assumption | omega) (by first | assumption | omega) (by rw [farG_s _ _ (by omega), cellAtF_in (by omega) (by omega), ← ey4]; rw [show placeOfF r y4 = -1 from mf_if_f (by omega), mf_if_f (by omega)]; exact hs)  ls (lv_sub hl [2, 3, 4, 0] rfl)
        · skip
          refine lv_aload_n hx hb dX3_far_27 rfl (lv_at hl 1 rfl) ?_
          refine va_get (D := G.1) (ci := 3) (v := .ref (adm 7)) (C := RX3) (T := TX3) (N := 11) hx hb hts hinX3 hown hK hP 0 rfl rfl 7 (by decide) (hts (.fieldLink RX3 26 "MeanderFarmModel" "where" "[I") (List.mem_of_getElem? (i := 2) rfl)) (fun _ h9 => h9) rfl dX3_far_28 ?_
          refine lv_iload hx hb dX3_far_31 (lv_at hl 0 rfl) ?_
          refine mf_iald (n := 384) (f := u 7) hx hb hK hP 6 0 rfl rfl (z := y4) (by omega) (by omega) (by decide) dX3_far_33 ?_
          refine mf_top (u 7 y4) (r 10 y4) (by rw [(rel7 hrel (z := y4) (by omega) (by omega))]) ?_
          have b7 : (-1 : Int) ≤ r 10 y4 ∧ r 10 y4 ≤ 149 := ok 10 (y4)
          refine lv_iload_n hx hb dX3_far_34 rfl (lv_at hl 2 rfl) ?_
          refine mf_iconst hx hb dX3_far_35 ?_
          refine mf_iadd hx hb dX3_far_36 ?_
          refine mf_icmp_lt (tgt := 52) hx hb dX3_far_37 (by decide) (i32_mk (by omega) (by omega)) (i32_mk (by omega) (by omega)) (fun c8 => ?_) (fun c8 => ?_)
          · skip
            refine lv_iinc (v := iI (kv + 1)) (lv' := [(3, .int (iI (kv + 1))), (4, .int (iI (y4))), (0, .ref hm), (1, .int (iI (iv))), (2, .int (iI (xv)))]) hx hb dX3_far_52 hl (k := 4) rfl (iI_add _ _).symm (by decide) rfl (fun ls hl => ?_)
            refine lv_goto (tgt := 4) hx hb dX3_far_55 (by decide) ?_
            exact ih4 xv (kv + 1) (by omega) (by first | assumption | omega) (by first | assumption | omega) (by rw [farG_s _ _ (by omega), cellAtF_in (by omega) (by omega), ← ey4]; rw [show placeOfF r y4 = r 10 y4 from mf_if_t ⟨by omega, by omega⟩]; rw [mf_if_f (by omega)]; exact hs)  ls (lv_sub hl [2, 3, 4, 0] rfl)
          · skip
            refine lv_iload_n hx hb dX3_far_40 rfl (lv_at hl 3 rfl) ?_
            refine lv_aload_n hx hb dX3_far_41 rfl (lv_at hl 1 rfl) ?_
            refine va_get (D := G.1) (ci := 3) (v := .ref (adm 7)) (C := RX3) (T := TX3) (N := 11) hx hb hts hinX3 hown hK hP 0 rfl rfl 7 (by decide) (hts (.fieldLink RX3 26 "MeanderFarmModel" "where" "[I") (List.mem_of_getElem? (i := 2) rfl)) (fun _ h9 => h9) rfl dX3_far_42 ?_
            refine lv_iload hx hb dX3_far_45 (lv_at hl 0 rfl) ?_
            refine mf_iald (n := 384) (f := u 7) hx hb hK hP 6 0 rfl rfl (z := y4) (by omega) (by omega) (by decide) dX3_far_47 ?_
            refine mf_top (u 7 y4) (r 10 y4) (by rw [(rel7 hrel (z := y4) (by omega) (by omega))]) ?_
            have b9 : (-1 : Int) ≤ r 10 y4 ∧ r 10 y4 ≤ 149 := ok 10 (y4)
            refine mf_mmax hx hb (hml.trans hl.1.symm) hown (hts (.methodLink RX3 108 Lib.Math.max.name) (List.mem_of_getElem? (i := 3) rfl)) (hts (.static Lib.Math.max.name) (List.mem_of_getElem? (i := 4) rfl)) (hts (.initialized "java/lang/Math") (List.mem_of_getElem? (i := 5) rfl)) (hts (.code Lib.Math.max.name Lib.Math.max.code 2 (some .int)) (List.mem_of_getElem? (i := 6) rfl)) (by decide) (Nat.le_of_ble_eq_true rfl) (Nat.zero_le _) (Nat.zero_le _) (i32_mk (by omega) (by omega)) (i32_mk (by omega) (by omega)) dX3_far_48 ?_
            refine mf_nm (fun y10 ey10 => ?_)
            refine lv_istore_n (lv' := [(2, .int (iI (y10))), (4, .int (iI (y4))), (0, .ref hm), (1, .int (iI (iv))), (3, .int (iI (kv)))]) hx hb dX3_far_51 rfl hl (by decide) rfl (fun ls hl => ?_)
            refine lv_iinc (v := iI (kv + 1)) (lv' := [(3, .int (iI (kv + 1))), (2, .int (iI (y10))), (4, .int (iI (y4))), (0, .ref hm), (1, .int (iI (iv)))]) hx hb dX3_far_52 hl (k := 4) rfl (iI_add _ _).symm (by decide) rfl (fun ls hl => ?_)
            refine lv_goto (tgt := 4) hx hb dX3_far_55 (by decide) ?_
            exact ih4 y10 (kv + 1) (by omega) (by first | assumption | omega) (by first | assumption | omega) (by rw [farG_s _ _ (by omega), cellAtF_in (by omega) (by omega), ← ey4]; rw [show placeOfF r y4 = r 10 y4 from mf_if_t ⟨by omega, by omega⟩]; rw [← hs]; by_cases q : xv < r 10 y4; (rw [mf_if_t ⟨by omega, q⟩]; omega); (rw [mf_if_f (fun z => q z.2)]; omega))  ls (lv_sub hl [3, 4, 1, 0] rfl)
  exact lp4 (_ + 1) (-1) 0 (Nat.lt_succ_self _) (by first | assumption | omega) (by first | assumption | omega) (by rfl)  ls (lv_sub hl [2, 3, 1, 0] rfl)
set_option maxHeartbeats 4000000 in
set_option maxRecDepth 100000 in
theorem c_X3_first (l : Launch) (G : mf_G) (hm : Nat) (adm : Nat → Nat) (u : mf_V) (r : mf_V) (oku : rOK ulo uhi u) (ok : rOK rlo rhi r) (hI : RInv r) (hrel : relU r u) : Met l yX3_first wsX3_first ({ frames := 4, cells := 0, slots := 0, locals := 90 }) (va_Pc [.ref hm] (RdP G (MW G hm adm u))) (vp_Si (fun q => q = iI (widF r))) 0 0 (fun _ => False) := by
  refine Met.ofW (cc := cX3_first) (maxL := 3) (ret := (some .int)) (by decide) rfl ?_
  intro p e s m args below meth c s₁ B hml hv
  obtain ⟨rfl, hP, hK, hN⟩ := hv
  have hx := B.exec
  have hb := B.bytes
  have hr := B.returns
  have hts := atoms_spec (ws := wsX3_first) B.pre
  have hown : s.vm.findClass RX3 = some m.cls := findClass_of_methodNamed B.named
  have hlocks := B.notSynchronized
  have hl := lv_entry ([.ref hm]) (n := 3) (Nat.le_of_ble_eq_true rfl)
  rw [lg_entry_eq]
  generalize (lg_sl ([.ref hm]) ++ List.replicate (3 - (lg_sl ([.ref hm])).length) Slot.unset).toArray = ls at hl ⊢
  have hl : lv_has ls 3 [(0, .ref hm)] := hl
  have okLr : (0 : Int) ≤ r 7 0 ∧ r 7 0 ≤ 150 := ok 7 0
  refine mf_iconst hx hb dX3_first_0 ?_
  refine lv_istore_n (lv' := [(1, .int (iI ((-1)))), (0, .ref hm)]) hx hb dX3_first_1 rfl hl (by decide) rfl (fun ls hl => ?_)
  refine mf_iconst hx hb dX3_first_2 ?_
  refine lv_istore_n (lv' := [(2, .int (iI (0))), (1, .int (iI ((-1)))), (0, .ref hm)]) hx hb dX3_first_3 rfl hl (by decide) rfl (fun ls hl => ?_)
  have lp4 : ∀ (n : Nat) (bv : Int) (kv : Int), (r 7 0 - kv).toNat < n → (0 ≤ kv ∧ kv ≤ r 7 0) → (-1 ≤ bv ∧ (bv < kv ∨ bv = -1)) → (bv = (widG r kv).1) → ∀ (ls : Array Slot), lv_has ls 3 [(0, .ref hm), (1, .int (iI (bv))), (2, .int (iI (kv)))] → W p l e (headSpec wsX3_first ({ frames := 4, cells := 0, slots := 0, locals := 90 })).room s m ([.ref hm] : List Value).toArray below meth c s.heap [] 0 0 (MQ below (vp_Si (fun q => q = iI (widF r))) ([.ref hm] : List Value).toArray s 0 0 (fun _ => False)) (F0 m 4 ls []) := by
    intro n
    induction n with
    | zero => intro bv kv hn; exact absurd hn (Nat.not_lt_zero _)
    | succ n ih4 =>
      intro bv kv hn hk hbb hbx ls hl
      have hmm := widG_memI r hk.1
      rw [← hbx] at hmm
      have hge := farF_ge r kv
      refine lv_iload_n hx hb dX3_first_4 rfl (lv_at hl 2 rfl) ?_
      refine lv_aload_n hx hb dX3_first_5 rfl (lv_at hl 0 rfl) ?_
      refine vp_callSi (va_Run.run (va_runV (As := []) (rest := [.int (iI (kv))]) ⟨hx, hb, hml, hown, hts⟩ (c_X3_length l G hm adm u (by assumption)) (cwV 0 hts gX3_first_X3_length rfl rfl rfl (by decide +kernel) ⟨Nat.le_of_ble_eq_true rfl, Nat.le_of_ble_eq_true rfl⟩) (rdV (wc := MW G hm adm u) hK hP hN [0, 1, 2, 3, 4, 5, 6, 7, 8, 9] rfl (ci := 3) rfl rfl) rfl rfl hl.1 rfl (lv_room (Nat.le_of_ble_eq_true rfl)) dX3_first_6 ⟨(Nat.zero_le _), (Nat.zero_le _)⟩)) (fun q1 hq1 => ?_)
      subst hq1
      refine mf_top (u 10 2) (r 7 0) (by rw [rel10_2 hrel]) ?_
      have b2 : (0 : Int) ≤ r 7 0 ∧ r 7 0 ≤ 150 := ok 7 0
      refine mf_icmp_ge (tgt := 51) hx hb dX3_first_9 (by decide) (i32_mk (by omega) (by omega)) (i32_mk (by omega) (by omega)) (fun c3 => ?_) (fun c3 => ?_)
      · skip
        refine lv_iload_n hx hb dX3_first_51 rfl (lv_at hl 1 rfl) ?_
        exact W.iret hx hb hr (fun t ht hW => ⟨_, rfl, (congrArg iI (by unfold widF; rw [← show kv = r 7 0 by omega]; exact hbx)), ht⟩) t_nil dX3_first_52
      · skip
        refine lv_aload_n hx hb dX3_first_12 rfl (lv_at hl 0 rfl) ?_
        refine lv_iload_n hx hb dX3_first_13 rfl (lv_at hl 2 rfl) ?_
        refine vp_callSi (va_Run.run (va_runV (As := [.int (iI (kv))]) (rest := []) ⟨hx, hb, hml, hown, hts⟩ (c_X3_far l G hm adm u (kv) (_) (i32_mk (by omega) (by omega)) (by assumption) (by assumption) (by first | assumption | omega) (by first | assumption | omega) (by first | assumption | omega)) (cwV 1 hts gX3_first_X3_far rfl rfl rfl (by decide +kernel) ⟨Nat.le_of_ble_eq_true rfl, Nat.le_of_ble_eq_true rfl⟩) (rdV (wc := MW G hm adm u) hK hP hN [0, 1, 2, 3, 4, 5, 6, 7, 8, 9] rfl (ci := 3) rfl rfl) rfl rfl hl.1 rfl (lv_room (Nat.le_of_ble_eq_true rfl)) dX3_first_14 ⟨(Nat.zero_le _), (Nat.zero_le _)⟩)) (fun q4 hq4 => ?_)
        subst hq4
        refine mf_nm (fun y5 ey5 => ?_)
        have b6 : -1 ≤ y5 ∧ y5 ≤ 149 := by rw [ey5]; exact farF_b (by assumption) kv
        refine mf_iconst hx hb dX3_first_17 ?_
        refine mf_icmp_eq (tgt := 45) hx hb dX3_first_18 (by decide) (i32_mk (by omega) (by omega)) (i32_mk (by decide) (by decide)) (fun c7 => ?_) (fun c7 => ?_)
        · skip
          refine lv_iinc (v := iI (kv + 1)) (lv' := [(2, .int (iI (kv + 1))), (0, .ref hm), (1, .int (iI (bv)))]) hx hb dX3_first_45 hl (k := 2) rfl (iI_add _ _).symm (by decide) rfl (fun ls hl => ?_)
          refine lv_goto (tgt := 4) hx hb dX3_first_48 (by decide) ?_
          exact ih4 bv (kv + 1) (by omega) (by first | assumption | omega) (by first | assumption | omega) (by rw [widG_f r hk.1 (by omega)]; exact hbx)  ls (lv_sub hl [1, 2, 0] rfl)
        · skip
          refine lv_iload_n hx hb dX3_first_21 rfl (lv_at hl 1 rfl) ?_
          refine mf_iconst hx hb dX3_first_22 ?_
          refine mf_icmp_eq (tgt := 43) hx hb dX3_first_23 (by decide) (i32_mk (by omega) (by omega)) (i32_mk (by decide) (by decide)) (fun c8 => ?_) (fun c8 => ?_)
          · skip
            refine lv_iload_n hx hb dX3_first_43 rfl (lv_at hl 2 rfl) ?_
            refine lv_istore_n (lv' := [(1, .int (iI (kv))), (0, .ref hm), (2, .int (iI (kv)))]) hx hb dX3_first_44 rfl hl (by decide) rfl (fun ls hl => ?_)
            refine lv_iinc (v := iI (kv + 1)) (lv' := [(2, .int (iI (kv + 1))), (1, .int (iI (kv))), (0, .ref hm)]) hx hb dX3_first_45 hl (k := 2) rfl (iI_add _ _).symm (by decide) rfl (fun ls hl => ?_)
            refine lv_goto (tgt := 4) hx hb dX3_first_48 (by decide) ?_
            exact ih4 kv (kv + 1) (by omega) (by first | assumption | omega) (by first | assumption | omega) (by rw [widG_t r hk.1 (by omega)])  ls (lv_sub hl [2, 1, 0] rfl)
          · skip
            refine lv_aload_n hx hb dX3_first_26 rfl (lv_at hl 0 rfl) ?_
            refine lv_iload_n hx hb dX3_first_27 rfl (lv_at hl 2 rfl) ?_
            refine vp_callSi (va_Run.run (va_runV (As := [.int (iI (kv))]) (rest := []) ⟨hx, hb, hml, hown, hts⟩ (c_X3_far l G hm adm u (kv) (_) (i32_mk (by omega) (by omega)) (by assumption) (by assumption) (by first | assumption | omega) (by first | assumption | omega) (by first | assumption | omega)) (cwV 1 hts gX3_first_X3_far rfl rfl rfl (by decide +kernel) ⟨Nat.le_of_ble_eq_true rfl, Nat.le_of_ble_eq_true rfl⟩) (rdV (wc := MW G hm adm u) hK hP hN [0, 1, 2, 3, 4, 5, 6, 7, 8, 9] rfl (ci := 3) rfl rfl) rfl rfl hl.1 rfl (lv_room (Nat.le_of_ble_eq_true rfl)) dX3_first_28 ⟨(Nat.zero_le _), (Nat.zero_le _)⟩)) (fun q9 hq9 => ?_)
            subst hq9
            refine mf_nm (fun y10 ey10 => ?_)
            have b11 : -1 ≤ y10 ∧ y10 ≤ 149 := by rw [ey10]; exact farF_b (by assumption) kv
            refine lv_iload_n hx hb dX3_first_31 rfl (lv_at hl 2 rfl) ?_
            refine mf_isub hx hb dX3_first_32 ?_
            refine lv_aload_n hx hb dX3_first_33 rfl (lv_at hl 0 rfl) ?_
            refine lv_iload_n hx hb dX3_first_34 rfl (lv_at hl 1 rfl) ?_
            refine vp_callSi (va_Run.run (va_runV (As := [.int (iI (bv))]) (rest := [.int (iI (y10 - kv))]) ⟨hx, hb, hml, hown, hts⟩ (c_X3_far l G hm adm u (bv) (_) (i32_mk (by omega) (by omega)) (by assumption) (by assumption) (by first | assumption | omega) (by first | assumption | omega) (by first | assumption | omega)) (cwV 1 hts gX3_first_X3_far rfl rfl rfl (by decide +kernel) ⟨Nat.le_of_ble_eq_true rfl, Nat.le_of_ble_eq_true rfl⟩) (rdV (wc := MW G hm adm u) hK hP hN [0, 1, 2, 3, 4, 5, 6, 7, 8, 9] rfl (ci := 3) rfl rfl) rfl rfl hl.1 rfl (lv_room (Nat.le_of_ble_eq_true rfl)) dX3_first_35 ⟨(Nat.zero_le _), (Nat.zero_le _)⟩)) (fun q12 hq12 => ?_)
            subst hq12
            refine mf_nm (fun y13 ey13 => ?_)
            have b14 : -1 ≤ y13 ∧ y13 ≤ 149 := by rw [ey13]; exact farF_b (by assumption) bv
            refine lv_iload_n hx hb dX3_first_38 rfl (lv_at hl 1 rfl) ?_
            refine mf_isub hx hb dX3_first_39 ?_
            refine mf_icmp_le (tgt := 45) hx hb dX3_first_40 (by decide) (i32_mk (by omega) (by omega)) (i32_mk (by omega) (by omega)) (fun c15 => ?_) (fun c15 => ?_)
            · skip
              refine lv_iinc (v := iI (kv + 1)) (lv' := [(2, .int (iI (kv + 1))), (0, .ref hm), (1, .int (iI (bv)))]) hx hb dX3_first_45 hl (k := 2) rfl (iI_add _ _).symm (by decide) rfl (fun ls hl => ?_)
              refine lv_goto (tgt := 4) hx hb dX3_first_48 (by decide) ?_
              exact ih4 bv (kv + 1) (by omega) (by first | assumption | omega) (by first | assumption | omega) (by rw [widG_f r hk.1 (by omega)]; exact hbx)  ls (lv_sub hl [1, 2, 0] rfl)
            · skip
              refine lv_iload_n hx hb dX3_first_43 rfl (lv_at hl 2 rfl) ?_
              refine lv_istore_n (lv' := [(1, .int (iI (kv))), (0, .ref hm), (2, .int (iI (kv)))]) hx hb dX3_first_44 rfl hl (by decide) rfl (fun ls hl => ?_)
              refine lv_iinc (v := iI (kv + 1)) (lv' := [(2, .int (iI (kv + 1))), (1, .int (iI (kv))), (0, .ref hm)]) hx hb dX3_first_45 hl (k := 2) rfl (iI_add _ _).symm (by decide) rfl (fun ls hl => ?_)
              refine lv_goto (tgt := 4) hx hb dX3_first_48 (by decide) ?_
              exact ih4 kv (kv + 1) (by omega) (by first | assumption | omega) (by first | assumption | omega) (by rw [widG_t r hk.1 (by omega)])  ls (lv_sub hl [2, 1, 0] rfl)
  exact lp4 (_ + 1) (-1) 0 (Nat.lt_succ_self _) (by first | assumption | omega) (by first | assumption | omega) (by rfl)  ls (lv_sub hl [2, 1, 0] rfl)
set_option maxHeartbeats 4000000 in
set_option maxRecDepth 100000 in
theorem c_X3_allStones (l : Launch) (G : mf_G) (hm : Nat) (adm : Nat → Nat) (u : mf_V) (r : mf_V) (oku : rOK ulo uhi u) (ok : rOK rlo rhi r) (hI : RInv r) (hrel : relU r u) : Met l yX3_allStones wsX3_allStones ({ frames := 0, cells := 0, slots := 0, locals := 0 }) (va_Pc [.ref hm] (RdP G (MW G hm adm u))) (vp_Si (fun q => q = iI (stonesF r))) 0 0 (fun _ => False) := by
  refine Met.ofW (cc := cX3_allStones) (maxL := 6) (ret := (some .int)) (by decide) rfl ?_
  intro p e s m args below meth c s₁ B hml hv
  obtain ⟨rfl, hP, hK, hN⟩ := hv
  have hx := B.exec
  have hb := B.bytes
  have hr := B.returns
  have hts := atoms_spec (ws := wsX3_allStones) B.pre
  have hown : s.vm.findClass RX3 = some m.cls := findClass_of_methodNamed B.named
  have hlocks := B.notSynchronized
  have hinX3 : ∀ w ∈ u_ws RX3 TX3 11, w ∈ wsX3_allStones := fun w h => List.mem_cons_of_mem _ (List.mem_append_right _ h)
  have hl := lv_entry ([.ref hm]) (n := 6) (Nat.le_of_ble_eq_true rfl)
  rw [lg_entry_eq]
  generalize (lg_sl ([.ref hm]) ++ List.replicate (6 - (lg_sl ([.ref hm])).length) Slot.unset).toArray = ls at hl ⊢
  have hl : lv_has ls 6 [(0, .ref hm)] := hl
  have okLr : (0 : Int) ≤ r 7 0 ∧ r 7 0 ≤ 150 := ok 7 0
  refine mf_iconst hx hb dX3_allStones_0 ?_
  refine lv_istore_n (lv' := [(1, .int (iI (0))), (0, .ref hm)]) hx hb dX3_allStones_1 rfl hl (by decide) rfl (fun ls hl => ?_)
  refine lv_aload_n hx hb dX3_allStones_2 rfl (lv_at hl 1 rfl) ?_
  refine va_get (D := G.1) (ci := 3) (v := .ref (adm 2)) (C := RX3) (T := TX3) (N := 11) hx hb hts hinX3 hown hK hP 0 rfl rfl 2 (by decide) (hts (.fieldLink RX3 13 "MeanderFarmModel" "stones" "[Z") (List.mem_of_getElem? (i := 1) rfl)) (fun _ h9 => h9) rfl dX3_allStones_3 ?_
  refine lv_astore_n (lv' := [(2, .ref (adm 2)), (1, .int (iI (0))), (0, .ref hm)]) hx hb dX3_allStones_6 rfl hl (by decide) rfl (fun ls hl => ?_)
  refine lv_aload_n hx hb dX3_allStones_7 rfl (lv_at hl 0 rfl) ?_
  refine va_alen hx hb hK hP 2 1 rfl rfl (v := iI 384) rfl dX3_allStones_8 ?_
  refine lv_istore_n (lv' := [(3, .int (iI (384))), (2, .ref (adm 2)), (1, .int (iI (0))), (0, .ref hm)]) hx hb dX3_allStones_9 rfl hl (by decide) rfl (fun ls hl => ?_)
  refine mf_iconst hx hb dX3_allStones_10 ?_
  refine lv_istore (lv' := [(4, .int (iI (0))), (3, .int (iI (384))), (2, .ref (adm 2)), (1, .int (iI (0))), (0, .ref hm)]) hx hb dX3_allStones_11 hl (by decide) rfl (fun ls hl => ?_)
  have lp13 : ∀ (n : Nat) (xv : Int) (kv : Int), (384 - kv).toNat < n → (0 ≤ kv ∧ kv ≤ 384) → (xv = msum (fun c => bP (¬ r 2 c = 0)) kv) → ∀ (ls : Array Slot), lv_has ls 6 [(0, .ref hm), (1, .int (iI (xv))), (2, .ref (adm 2)), (3, .int (iI (384))), (4, .int (iI (kv)))] → W p l e (headSpec wsX3_allStones ({ frames := 0, cells := 0, slots := 0, locals := 0 })).room s m ([.ref hm] : List Value).toArray below meth c s.heap [] 0 0 (MQ below (vp_Si (fun q => q = iI (stonesF r))) ([.ref hm] : List Value).toArray s 0 0 (fun _ => False)) (F0 m 13 ls []) := by
    intro n
    induction n with
    | zero => intro xv kv hn; exact absurd hn (Nat.not_lt_zero _)
    | succ n ih13 =>
      intro xv kv hn hk hs ls hl
      refine lv_iload hx hb dX3_allStones_13 (lv_at hl 4 rfl) ?_
      refine lv_iload_n hx hb dX3_allStones_15 rfl (lv_at hl 3 rfl) ?_
      refine mf_icmp_ge (tgt := 44) hx hb dX3_allStones_16 (by decide) (i32_mk (by omega) (by omega)) (i32_mk (by decide) (by decide)) (fun c1 => ?_) (fun c1 => ?_)
      · skip
        refine lv_iload_n hx hb dX3_allStones_44 rfl (lv_at hl 1 rfl) ?_
        exact W.iret hx hb hr (fun t ht hW => ⟨_, rfl, (congrArg iI (by rw [show kv = 384 by omega] at hs; exact hs)), ht⟩) t_nil dX3_allStones_45
      · skip
        refine lv_aload_n hx hb dX3_allStones_19 rfl (lv_at hl 2 rfl) ?_
        refine lv_iload hx hb dX3_allStones_20 (lv_at hl 4 rfl) ?_
        refine mf_zald (n := 384) (f := u 2) hx hb hK hP 2 1 rfl rfl (z := kv) (by omega) (by omega) (by decide) dX3_allStones_22 ?_
        refine mf_top (u 2 kv) (r 2 kv) (by rw [(rel2 hrel (z := kv) (by omega) (by omega))]) ?_
        have b2 : (0 : Int) ≤ r 2 kv ∧ r 2 kv ≤ 1 := ok 2 (kv)
        refine lv_istore (lv' := [(5, .int (iI (r 2 kv))), (0, .ref hm), (1, .int (iI (xv))), (2, .ref (adm 2)), (3, .int (iI (384))), (4, .int (iI (kv)))]) hx hb dX3_allStones_23 hl (by decide) rfl (fun ls hl => ?_)
        refine lv_iload_n hx hb dX3_allStones_25 rfl (lv_at hl 2 rfl) ?_
        refine lv_iload hx hb dX3_allStones_26 (lv_at hl 0 rfl) ?_
        refine mf_if_eq (tgt := 35) hx hb dX3_allStones_28 (by decide) (i32_mk (by omega) (by omega)) (fun c3 => ?_) (fun c3 => ?_)
        · skip
          refine mf_iconst hx hb dX3_allStones_35 ?_
          refine mf_iadd hx hb dX3_allStones_36 ?_
          refine lv_istore_n (lv' := [(1, .int (iI (xv + 0))), (5, .int (iI (r 2 kv))), (0, .ref hm), (2, .ref (adm 2)), (3, .int (iI (384))), (4, .int (iI (kv)))]) hx hb dX3_allStones_37 rfl hl (by decide) rfl (fun ls hl => ?_)
          refine lv_iinc (v := iI (kv + 1)) (lv' := [(4, .int (iI (kv + 1))), (1, .int (iI (xv + 0))), (5, .int (iI (r 2 kv))), (0, .ref hm), (2, .ref (adm 2)), (3, .int (iI (384)))]) hx hb dX3_allStones_38 hl (k := 5) rfl (iI_add _ _).symm (by decide) rfl (fun ls hl => ?_)
          refine lv_goto (tgt := 13) hx hb dX3_allStones_41 (by decide) ?_
          exact ih13 (xv + 0) (kv + 1) (by omega) (by first | assumption | omega) (by rw [msum_s _ (by omega)]; first | (rw [bP_t (by assumption)]; omega) | (rw [bP_f (by omega)]; omega))  ls (lv_sub hl [3, 1, 4, 5, 0] rfl)
        · skip
          refine mf_iconst hx hb dX3_allStones_31 ?_
          refine lv_goto (tgt := 36) hx hb dX3_allStones_32 (by decide) ?_
          refine mf_iadd hx hb dX3_allStones_36 ?_
          refine lv_istore_n (lv' := [(1, .int (iI (xv + 1))), (5, .int (iI (r 2 kv))), (0, .ref hm), (2, .ref (adm 2)), (3, .int (iI (384))), (4, .int (iI (kv)))]) hx hb dX3_allStones_37 rfl hl (by decide) rfl (fun ls hl => ?_)
          refine lv_iinc (v := iI (kv + 1)) (lv' := [(4, .int (iI (kv + 1))), (1, .int (iI (xv + 1))), (5, .int (iI (r 2 kv))), (0, .ref hm), (2, .ref (adm 2)), (3, .int (iI (384)))]) hx hb dX3_allStones_38 hl (k := 5) rfl (iI_add _ _).symm (by decide) rfl (fun ls hl => ?_)
          refine lv_goto (tgt := 13) hx hb dX3_allStones_41 (by decide) ?_
          exact ih13 (xv + 1) (kv + 1) (by omega) (by first | assumption | omega) (by rw [msum_s _ (by omega)]; first | (rw [bP_t (by assumption)]; omega) | (rw [bP_f (by omega)]; omega))  ls (lv_sub hl [3, 1, 4, 5, 0] rfl)
  exact lp13 (_ + 1) 0 0 (Nat.lt_succ_self _) (by first | assumption | omega) (by exact (msum_0 _).symm)  ls (lv_sub hl [4, 3, 2, 1, 0] rfl)
set_option maxHeartbeats 4000000 in
set_option maxRecDepth 100000 in
theorem c_X3_isOf (l : Launch) (G : mf_G) (hm : Nat) (adm : Nat → Nat) (u : mf_V) (kv : Int) (cv : Int) (f : mf_V) (hkv : i32 kv) (hcv : i32 cv) (oku : rOK ulo uhi u) (okf : rOK flo fhi f) (hrf : relF f u) (hk9 : 0 ≤ kv ∧ kv < f 4 0) (hc9 : 0 ≤ cv ∧ cv < 384) : Met l yX3_isOf wsX3_isOf ({ frames := 1, cells := 0, slots := 0, locals := 22 }) (va_Pc [.ref hm, .int (iI (kv)), .int (iI (cv))] (RdP G (MW G hm adm u))) (vp_Si (fun q => q = iI (bP (inF f (cv % 24) (cv / 24) kv)))) 0 0 (fun _ => False) := by
  refine Met.ofW (cc := cX3_isOf) (maxL := 4) (ret := (some .boolean)) (by decide) rfl ?_
  intro p e s m args below meth c s₁ B hml hv
  obtain ⟨rfl, hP, hK, hN⟩ := hv
  have hx := B.exec
  have hb := B.bytes
  have hr := B.returns
  have hts := atoms_spec (ws := wsX3_isOf) B.pre
  have hown : s.vm.findClass RX3 = some m.cls := findClass_of_methodNamed B.named
  have hlocks := B.notSynchronized
  have hinX3 : ∀ w ∈ u_ws RX3 TX3 11, w ∈ wsX3_isOf := fun w h => List.mem_cons_of_mem _ (List.mem_append_right _ h)
  have hl := lv_entry ([.ref hm, .int (iI (kv)), .int (iI (cv))]) (n := 4) (Nat.le_of_ble_eq_true rfl)
  rw [lg_entry_eq]
  generalize (lg_sl ([.ref hm, .int (iI (kv)), .int (iI (cv))]) ++ List.replicate (4 - (lg_sl ([.ref hm, .int (iI (kv)), .int (iI (cv))])).length) Slot.unset).toArray = ls at hl ⊢
  have hl : lv_has ls 4 [(0, .ref hm), (1, .int (iI (kv))), (2, .int (iI (cv)))] := hl
  have hkv1 := hkv.1
  have hkv2 := hkv.2
  have hcv1 := hcv.1
  have hcv2 := hcv.2
  have b4 : (0 : Int) ≤ f 4 0 ∧ f 4 0 ≤ 6 := okf 4 0
  obtain ⟨q0, q1, q2, q3⟩ := hrf.2 kv hk9.1 hk9.2
  refine mf_iconst hx hb dX3_isOf_0 ?_
  refine lv_iload_n hx hb dX3_isOf_1 rfl (lv_at hl 1 rfl) ?_
  refine mf_imul hx hb dX3_isOf_2 ?_
  refine lv_istore_n (lv' := [(3, .int (iI (4 * kv))), (0, .ref hm), (1, .int (iI (kv))), (2, .int (iI (cv)))]) hx hb dX3_isOf_3 rfl hl (by decide) rfl (fun ls hl => ?_)
  refine lv_iload_n hx hb dX3_isOf_4 rfl (lv_at hl 3 rfl) ?_
  refine mf_bipush hx hb dX3_isOf_5 rfl ?_
  refine mf_irem hx hb dX3_isOf_7 (i32_mk (by omega) (by omega)) (by omega) (i32_mk (by decide) (by decide)) (by omega) ?_
  refine lv_aload_n hx hb dX3_isOf_8 rfl (lv_at hl 1 rfl) ?_
  refine va_get (D := G.1) (ci := 3) (v := .ref (adm 5)) (C := RX3) (T := TX3) (N := 11) hx hb hts hinX3 hown hK hP 0 rfl rfl 5 (by decide) (hts (.fieldLink RX3 20 "MeanderFarmModel" "farmTable" "[I") (List.mem_of_getElem? (i := 1) rfl)) (fun _ h9 => h9) rfl dX3_isOf_9 ?_
  refine lv_iload_n hx hb dX3_isOf_12 rfl (lv_at hl 0 rfl) ?_
  refine mf_iald (n := 24) (f := u 5) hx hb hK hP 4 0 rfl rfl (z := 4 * kv) (by omega) (by omega) (by decide) dX3_isOf_13 ?_
  have b1 : (0 : Int) ≤ u 5 (4 * kv) ∧ u 5 (4 * kv) ≤ 24 := oku 5 (4 * kv)
  refine mf_isub hx hb dX3_isOf_14 ?_
  refine mf_iconst hx hb dX3_isOf_15 ?_
  refine lv_aload_n hx hb dX3_isOf_16 rfl (lv_at hl 1 rfl) ?_
  refine va_get (D := G.1) (ci := 3) (v := .ref (adm 5)) (C := RX3) (T := TX3) (N := 11) hx hb hts hinX3 hown hK hP 0 rfl rfl 5 (by decide) (hts (.fieldLink RX3 20 "MeanderFarmModel" "farmTable" "[I") (List.mem_of_getElem? (i := 1) rfl)) (fun _ h9 => h9) rfl dX3_isOf_17 ?_
  refine lv_iload_n hx hb dX3_isOf_20 rfl (lv_at hl 0 rfl) ?_
  refine mf_iconst hx hb dX3_isOf_21 ?_
  refine mf_iadd hx hb dX3_isOf_22 ?_
  refine mf_iald (n := 24) (f := u 5) hx hb hK hP 4 0 rfl rfl (z := (4 * kv) + 2) (by omega) (by omega) (by decide) dX3_isOf_23 ?_
  have b2 : (0 : Int) ≤ u 5 ((4 * kv) + 2) ∧ u 5 ((4 * kv) + 2) ≤ 24 := oku 5 ((4 * kv) + 2)
  refine mf_iconst hx hb dX3_isOf_24 ?_
  refine mf_isub hx hb dX3_isOf_25 ?_
  refine vp_callSi (va_Run.run (va_runS (As := [.int (iI ((cv % 24) - (u 5 (4 * kv)))), .int (iI (0)), .int (iI ((u 5 ((4 * kv) + 2)) - 1))]) (rest := []) ⟨hx, hb, hml, hown, hts⟩ (c_X3_isIn l ((cv % 24) - (u 5 (4 * kv))) (0) ((u 5 ((4 * kv) + 2)) - 1) (i32_mk (by omega) (by omega)) (i32_mk (by decide) (by decide)) (i32_mk (by omega) (by omega))) (va_cwS 3 hts gX3_isOf_X3_isIn rfl rfl rfl (by decide +kernel) ⟨Nat.le_of_ble_eq_true rfl, Nat.le_of_ble_eq_true rfl⟩) pureS rfl rfl hl.1 rfl (lv_room (Nat.le_of_ble_eq_true rfl)) dX3_isOf_26 ⟨(Nat.zero_le _), (Nat.zero_le _)⟩)) (fun q3 hq3 => ?_)
  subst hq3
  refine mf_bp_eq (tgt := 66) hx hb dX3_isOf_29 (by decide) (fun c4 => ?_) (fun c4 => ?_)
  · skip
    refine mf_iconst hx hb dX3_isOf_66 ?_
    exact W.zret hx hb hr (mf_nar01 (by omega)) (fun t ht hW => ⟨_, rfl, (congrArg iI (bP_f (by unfold inF; omega)).symm), ht⟩) t_nil dX3_isOf_67
  · skip
    refine lv_iload_n hx hb dX3_isOf_32 rfl (lv_at hl 3 rfl) ?_
    refine mf_bipush hx hb dX3_isOf_33 rfl ?_
    refine mf_idiv hx hb dX3_isOf_35 (i32_mk (by omega) (by omega)) (by omega) (i32_mk (by decide) (by decide)) (by omega) ?_
    refine lv_aload_n hx hb dX3_isOf_36 rfl (lv_at hl 1 rfl) ?_
    refine va_get (D := G.1) (ci := 3) (v := .ref (adm 5)) (C := RX3) (T := TX3) (N := 11) hx hb hts hinX3 hown hK hP 0 rfl rfl 5 (by decide) (hts (.fieldLink RX3 20 "MeanderFarmModel" "farmTable" "[I") (List.mem_of_getElem? (i := 1) rfl)) (fun _ h9 => h9) rfl dX3_isOf_37 ?_
    refine lv_iload_n hx hb dX3_isOf_40 rfl (lv_at hl 0 rfl) ?_
    refine mf_iconst hx hb dX3_isOf_41 ?_
    refine mf_iadd hx hb dX3_isOf_42 ?_
    refine mf_iald (n := 24) (f := u 5) hx hb hK hP 4 0 rfl rfl (z := (4 * kv) + 1) (by omega) (by omega) (by decide) dX3_isOf_43 ?_
    have b5 : (0 : Int) ≤ u 5 ((4 * kv) + 1) ∧ u 5 ((4 * kv) + 1) ≤ 24 := oku 5 ((4 * kv) + 1)
    refine mf_isub hx hb dX3_isOf_44 ?_
    refine mf_iconst hx hb dX3_isOf_45 ?_
    refine lv_aload_n hx hb dX3_isOf_46 rfl (lv_at hl 1 rfl) ?_
    refine va_get (D := G.1) (ci := 3) (v := .ref (adm 5)) (C := RX3) (T := TX3) (N := 11) hx hb hts hinX3 hown hK hP 0 rfl rfl 5 (by decide) (hts (.fieldLink RX3 20 "MeanderFarmModel" "farmTable" "[I") (List.mem_of_getElem? (i := 1) rfl)) (fun _ h9 => h9) rfl dX3_isOf_47 ?_
    refine lv_iload_n hx hb dX3_isOf_50 rfl (lv_at hl 0 rfl) ?_
    refine mf_iconst hx hb dX3_isOf_51 ?_
    refine mf_iadd hx hb dX3_isOf_52 ?_
    refine mf_iald (n := 24) (f := u 5) hx hb hK hP 4 0 rfl rfl (z := (4 * kv) + 3) (by omega) (by omega) (by decide) dX3_isOf_53 ?_
    have b6 : (0 : Int) ≤ u 5 ((4 * kv) + 3) ∧ u 5 ((4 * kv) + 3) ≤ 24 := oku 5 ((4 * kv) + 3)
    refine mf_iconst hx hb dX3_isOf_54 ?_
    refine mf_isub hx hb dX3_isOf_55 ?_
    refine vp_callSi (va_Run.run (va_runS (As := [.int (iI ((cv / 24) - (u 5 ((4 * kv) + 1)))), .int (iI (0)), .int (iI ((u 5 ((4 * kv) + 3)) - 1))]) (rest := []) ⟨hx, hb, hml, hown, hts⟩ (c_X3_isIn l ((cv / 24) - (u 5 ((4 * kv) + 1))) (0) ((u 5 ((4 * kv) + 3)) - 1) (i32_mk (by omega) (by omega)) (i32_mk (by decide) (by decide)) (i32_mk (by omega) (by omega))) (va_cwS 3 hts gX3_isOf_X3_isIn rfl rfl rfl (by decide +kernel) ⟨Nat.le_of_ble_eq_true rfl, Nat.le_of_ble_eq_true rfl⟩) pureS rfl rfl hl.1 rfl (lv_room (Nat.le_of_ble_eq_true rfl)) dX3_isOf_56 ⟨(Nat.zero_le _), (Nat.zero_le _)⟩)) (fun q7 hq7 => ?_)
    subst hq7
    refine mf_bp_eq (tgt := 66) hx hb dX3_isOf_59 (by decide) (fun c8 => ?_) (fun c8 => ?_)
    · skip
      refine mf_iconst hx hb dX3_isOf_66 ?_
      exact W.zret hx hb hr (mf_nar01 (by omega)) (fun t ht hW => ⟨_, rfl, (congrArg iI (bP_f (by unfold inF; omega)).symm), ht⟩) t_nil dX3_isOf_67
    · skip
      refine mf_iconst hx hb dX3_isOf_62 ?_
      refine lv_goto (tgt := 67) hx hb dX3_isOf_63 (by decide) ?_
      exact W.zret hx hb hr (mf_nar01 (by omega)) (fun t ht hW => ⟨_, rfl, (congrArg iI (bP_t (by unfold inF; omega)).symm), ht⟩) t_nil dX3_isOf_67
