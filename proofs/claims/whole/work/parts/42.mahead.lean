/-! 42.mahead: the reference looks ahead -/
theorem YearR_fr {r q : mf_V} {b : Int} (h : YearR r q b) : q 0 = r 0 ∧ q 2 = r 2 ∧ q 5 = r 5 := by
  obtain ⟨r1, r2, r3, h1f, -, -, -, hrip, -, -, hfl, -, -, hqf, -⟩ := h
  have a : r2 0 = r 0 ∧ r2 2 = r 2 ∧ r2 5 = r 5 := by
    rcases hrip with ⟨-, z, -⟩ | ⟨-, z, -⟩
    · rw [z]; exact ⟨h1f 0 (by decide), h1f 2 (by decide), h1f 5 (by decide)⟩
    · exact ⟨by rw [z.2.2.2.1]; exact h1f 0 (by decide), by rw [z.2.2.2.2.1]; exact h1f 2 (by decide), by rw [z.2.2.2.2.2.1]; exact h1f 5 (by decide)⟩
  have b : r3 0 = r2 0 ∧ r3 2 = r2 2 ∧ r3 5 = r2 5 := by
    rcases hfl with ⟨-, n, z⟩ | ⟨-, z⟩
    · have g := FloodN_fr6 n z; exact ⟨g.1, g.2.2.1, g.2.2.2.2.1⟩
    · rw [z]; exact ⟨rfl, rfl, rfl⟩
  exact ⟨by rw [hqf 0 (by decide), b.1, a.1], by rw [hqf 2 (by decide), b.2.1, a.2.1], by rw [hqf 5 (by decide), b.2.2, a.2.2]⟩
theorem YearsN_fr : ∀ (n : Nat) {r q : mf_V} {b : Int}, YearsN n r q b → q 0 = r 0 ∧ q 2 = r 2 ∧ q 5 = r 5
  | 0, r, q, b, h => by obtain ⟨rfl, -⟩ := h; exact ⟨rfl, rfl, rfl⟩
  | n + 1, r, q, b, h => by
    obtain ⟨r1, b1, b2, h1, -, -, h3, -⟩ := h
    have a := YearsN_fr n h1
    have c := YearR_fr h3
    exact ⟨c.1.trans a.1, c.2.1.trans a.2.1, c.2.2.trans a.2.2⟩
theorem Flood_fr {r q : mf_V} (h : Flood r q) : q 0 = r 0 ∧ q 2 = r 2 ∧ q 5 = r 5 := by
  obtain ⟨n, z⟩ := h
  have g := FloodN_fr6 n z
  exact ⟨g.1, g.2.2.1, g.2.2.2.2.1⟩
theorem farF_m1 (r : mf_V) : farF r (-1) = -1 := by
  rcases farG_mem r (-1) 4 with z | ⟨d, z1, z2⟩
  · exact z
  · have e : farF r (-1) = placeOfF r (nbr (cellAtF r (-1)) d) := z1
    have e2 : 3 ≤ farF r (-1) - (-1) := z2
    rw [cellAtF_out (by omega), nbr_m1, show placeOfF r (-1) = -1 from mf_if_f (by omega)] at e
    omega
noncomputable def vNeck (r q : mf_V) (w : Int) : Int := if w = 0 then neckF r else if w = 1 then widF r else if w = 2 then farF r (widF r) else r 7 0 - q 7 0
noncomputable def kFore (y w : Int) : Int := mf_if (¬ (1 ≤ y ∧ y ≤ 100)) 1 (mf_if (¬ (0 ≤ w ∧ w ≤ 2)) 2 0)
def vFore (r q : mf_V) (b w : Int) : Int := if w = 0 then q 7 0 else if w = 1 then q 9 0 - r 9 0 else b
noncomputable def kLose (f : mf_V) (k : Int) : Int := mf_if (¬ isF f k) 1 0
def LoseP (f r : mf_V) (k : Int) (ch : Int → mf_V) (n : Int) : Prop := ch 0 = r ∧ (0 ≤ n ∧ n ≤ 60) ∧ (∀ i, 0 ≤ i → i ≤ n → rOK rlo rhi (ch i) ∧ RInv (ch i)) ∧ (∀ i, 0 ≤ i → i < n → ∃ b, YearR (ch i) (ch (i + 1)) b) ∧ (∀ i, 0 < i → i < n → ¬ cof f (ch i) k 1 < cof f r k 1) ∧ ((0 < n ∧ cof f (ch n) k 1 < cof f r k 1) ∨ (n = 60 ∧ ¬ cof f (ch 60) k 1 < cof f r k 1))
noncomputable def vLose (f r : mf_V) (k : Int) (ch : Int → mf_V) (n : Int) : Int := mf_if (cof f (ch n) k 1 < cof f r k 1) n (-1)
noncomputable def kAdv (f : mf_V) (k y : Int) : Int := mf_if (¬ isF f k) 1 (mf_if (¬ (1 ≤ y ∧ y ≤ 30)) 2 0)
/-- stones laid on a cell -/
def stR (r : mf_V) (c : Int) : mf_V := mf_sF r 2 (mf_up (r 2) c 1)
def advP (f r : mf_V) (k : Int) (Qf : Int → mf_V) (c m : Int) : Prop := ¬ r 1 c = 0 ∧ r 2 c = 0 ∧ m < cof f (Qf c) k 1
noncomputable def advG (f r : mf_V) (k : Int) (q0 : mf_V) (Qf : Int → mf_V) (n : Int) : Int × Int := Nat.rec (motive := fun _ => Int × Int) (cof f q0 k 1, -1) (fun i x => @ite _ (advP f r k Qf i x.1) (Classical.propDecidable _) (cof f (Qf i) k 1, (i : Int)) x) n.toNat
theorem advG_0 (f r : mf_V) (k : Int) (q0 : mf_V) (Qf : Int → mf_V) : advG f r k q0 Qf 0 = (cof f q0 k 1, -1) := rfl
theorem advG_s (f r : mf_V) (k : Int) (q0 : mf_V) (Qf : Int → mf_V) {n : Int} (h : 0 ≤ n) : advG f r k q0 Qf (n + 1) = @ite _ (advP f r k Qf n (advG f r k q0 Qf n).1) (Classical.propDecidable _) (cof f (Qf n) k 1, n) (advG f r k q0 Qf n) := by
  obtain ⟨i, rfl⟩ := Int.eq_ofNat_of_zero_le h
  unfold advG
  rw [show ((i : Int) + 1).toNat = i + 1 by omega, show ((i : Int)).toNat = i by omega]
theorem advG_t (f r : mf_V) (k : Int) (q0 : mf_V) (Qf : Int → mf_V) {n : Int} (h : 0 ≤ n) (q : advP f r k Qf n (advG f r k q0 Qf n).1) : advG f r k q0 Qf (n + 1) = (cof f (Qf n) k 1, n) := by rw [advG_s f r k q0 Qf h]; exact if_pos q
theorem advG_f (f r : mf_V) (k : Int) (q0 : mf_V) (Qf : Int → mf_V) {n : Int} (h : 0 ≤ n) (q : ¬ advP f r k Qf n (advG f r k q0 Qf n).1) : advG f r k q0 Qf (n + 1) = advG f r k q0 Qf n := by rw [advG_s f r k q0 Qf h]; exact if_neg q
theorem stR_ok {r : mf_V} (ok : rOK rlo rhi r) (c : Int) : rOK rlo rhi (stR r c) := rOK_up ok 2 _ _ (show (0 : Int) ≤ 1 by decide) (show (1 : Int) ≤ 1 by decide)
theorem stR_I {r : mf_V} (hI : RInv r) (c : Int) : RInv (stR r c) := RInv_cg (mf_sF_n (by decide)) (mf_sF_n (by decide)) (mf_sF_n (by decide)) (mf_sF_n (by decide)) (mf_sF_n (by decide)) (mf_sF_n (by decide)) hI
theorem stR_b {r : mf_V} {Y : Int} (h : bdP r Y) (c : Int) : bdP (stR r c) Y := h
set_option maxHeartbeats 4000000 in
set_option maxRecDepth 100000 in
theorem c_X3_neck (l : Launch) (G : mf_G) (gK : ClassId) (hm : Nat) (adm : Nat → Nat) (u : mf_V)  (wv : Int) (r : mf_V) (q : mf_V) (hwv : i32 wv) (oku : rOK ulo uhi u) (ok : rOK rlo rhi r) (hI : RInv r) (hrel : relU r u) (hFl : wv = 3 → Flood r q ∧ rOK rlo rhi q ∧ RInv q) (hbk : r 9 0 + 150 ≤ 100000000) (sz : Nat) : Met l yX3_neck wsX3_neck ({ frames := 6, cells := 5, slots := 927, locals := 133 }) (va_Pc [.ref hm, .int (iI (wv))] (WrPk G gK (MW G hm adm u) sz)) (va_Qi (fun q9 (u' : mf_V) => ∃ z : Int, q9 = iI z ∧ rOK ulo uhi u' ∧ frF u u' ∧ u' 0 0 = kRng 0 3 wv ∧ (kRng 0 3 wv = 0 → relU r u' ∧ z = vNeck r q wv) ∧ (¬ kRng 0 3 wv = 0 → relU r u')) (fun (u' : mf_V) t => WrQ G (va_A (MW G hm adm u) sz) (MW G hm adm u') t) (va_A (MW G hm adm u) sz)) 5 927 (va_A (MW G hm adm u) sz) := by
  refine Met.ofW (cc := cX3_neck) (maxL := 6) (ret := (some .int)) (by decide) rfl ?_
  intro p e s m args below meth c s₁ B hml hv
  obtain ⟨rfl, hsz, hP, hK, hD0, hN, hX⟩ := hv
  have hx := B.exec
  have hb := B.bytes
  have hr := B.returns
  have hts := atoms_spec (ws := wsX3_neck) B.pre
  have hown : s.vm.findClass RX3 = some m.cls := findClass_of_methodNamed B.named
  have hlocks := B.notSynchronized
  have hinX3 : ∀ w ∈ u_ws RX3 TX3 11, w ∈ wsX3_neck := fun w h => List.mem_cons_of_mem _ (List.mem_append_right _ h)
  subst hsz
  have hD := hD0.self (sz := s.heap.size)
  generalize hAe : va_A (MW G hm adm u) s.heap.size = A at hD ⊢
  have hA : ∀ q : Nat, s.heap.size ≤ q → A q := fun q h => by rw [← hAe]; exact Or.inr h
  have hS : va_S A s.heap s.heap [] := va_S.rf
  have hl := lv_entry ([.ref hm, .int (iI (wv))]) (n := 6) (Nat.le_of_ble_eq_true rfl)
  rw [lg_entry_eq]
  generalize (lg_sl ([.ref hm, .int (iI (wv))]) ++ List.replicate (6 - (lg_sl ([.ref hm, .int (iI (wv))])).length) Slot.unset).toArray = ls at hl ⊢
  have hl : lv_has ls 6 [(0, .ref hm), (1, .int (iI (wv)))] := hl
  have hwv1 := hwv.1
  have hwv2 := hwv.2
  have okLr : (0 : Int) ≤ r 7 0 ∧ r 7 0 ≤ 150 := ok 7 0
  refine lv_aload_n hx hb dX3_neck_0 rfl (lv_at hl 0 rfl) ?_
  refine mf_iconst hx hb dX3_neck_1 ?_
  refine va_put (D := G.1) (ci := 3) (v := .int (iI (0))) (ty := .int) (C := RX3) (T := TX3) (N := 11) hx hb hts hinX3 tyX3 tyX3_ok nmX3 hown hK hP hD hS 0 rfl rfl 0 (by decide) (hts (.fieldLink RX3 41 "MeanderFarmModel" "thrown" "I") (List.mem_of_getElem? (i := 1) rfl)) (fun _ h9 => h9) rfl (by decide +kernel) rfl rfl (Nat.le_of_ble_eq_true rfl) dX3_neck_2 (fun H locs hP hD hS => ?_)
  obtain ⟨u1, eu1⟩ : ∃ z9 : mf_V, z9 = mf_sF u 0 (fun _ => 0) := ⟨_, rfl⟩
  have hP : va_P G.1 vwCl (MW G hm adm u1) H := by rw [eu1]; exact hP
  have hD : va_D A (MW G hm adm u1) := by rw [eu1]; exact hD
  have oku1 : rOK ulo uhi u1 := by rw [eu1]; exact rOK_set oku 0 _ (show (-1 : Int) ≤ 0 by omega) (show 0 ≤ (9 : Int) by omega)
  have f1_u1 : ∀ y, u1 0 y = 0 := fun y => by rw [eu1, mf_sF_s]
  have f3_u1 : ∀ q, q ≠ 0 → u1 q = u q := fun q hq => by rw [eu1, mf_sF_n hq]
  have hrel1 : relU r u1 := relU_cg f3_u1 hrel
  have hz0 : u1 0 0 = 0 := f1_u1 0
  have hfF : frF u u1 := ⟨f3_u1 4 (by decide), f3_u1 5 (by decide)⟩
  refine lv_iload_n hx hb dX3_neck_5 rfl (lv_at hl 1 rfl) ?_
  refine mf_iconst hx hb dX3_neck_6 ?_
  refine mf_iconst hx hb dX3_neck_7 ?_
  refine vp_callSi (va_Run.run (va_runS (As := [.int (iI (wv)), .int (iI (0)), .int (iI (3))]) (rest := []) ⟨hx, hb, hml, hown, hts⟩ (c_X3_isIn l (wv) (0) (3) (i32_mk (by omega) (by omega)) (i32_mk (by decide) (by decide)) (i32_mk (by decide) (by decide))) (va_cwS 3 hts gX3_neck_X3_isIn rfl rfl rfl (by decide +kernel) ⟨Nat.le_of_ble_eq_true rfl, Nat.le_of_ble_eq_true rfl⟩) pureS rfl rfl hl.1 rfl (lv_room (Nat.le_of_ble_eq_true rfl)) dX3_neck_8 ⟨(Nat.zero_le _), (Nat.zero_le _)⟩)) (fun q2 hq2 => ?_)
  subst hq2
  refine mf_bp_ne (tgt := 20) hx hb dX3_neck_11 (by decide) (fun c3 => ?_) (fun c3 => ?_)
  · skip
    refine lv_aload_n hx hb dX3_neck_20 rfl (lv_at hl 0 rfl) ?_
    refine vp_callSi (va_Run.run (va_runV (As := []) (rest := []) ⟨hx, hb, hml, hown, hts⟩ (c_X3_first l G hm adm u1 (r) (by assumption) (by assumption) (by first | assumption | omega) (by first | assumption | omega)) (cwV 0 hts gX3_neck_X3_first rfl rfl rfl (by decide +kernel) ⟨Nat.le_of_ble_eq_true rfl, Nat.le_of_ble_eq_true rfl⟩) (rdV (wc := MW G hm adm u1) hK hP hN [0, 1, 2, 3, 4, 5, 6, 7, 8, 9] rfl (ci := 3) rfl rfl) rfl rfl hl.1 rfl (lv_room (Nat.le_of_ble_eq_true rfl)) dX3_neck_21 ⟨(Nat.zero_le _), (Nat.zero_le _)⟩)) (fun q4 hq4 => ?_)
    subst hq4
    refine mf_nm (fun y5 ey5 => ?_)
    have b6 : -1 ≤ y5 ∧ y5 ≤ 149 := by rw [ey5]; exact widF_b (by assumption)
    refine lv_istore_n (lv' := [(2, .int (iI (y5))), (0, .ref hm), (1, .int (iI (wv)))]) hx hb dX3_neck_24 rfl hl (by decide) rfl (fun ls hl => ?_)
    refine lv_iload_n hx hb dX3_neck_25 rfl (lv_at hl 2 rfl) ?_
    refine mf_if_ne (tgt := 34) hx hb dX3_neck_26 (by decide) (i32_mk (by omega) (by omega)) (fun c7 => ?_) (fun c7 => ?_)
    · skip
      refine lv_iload_n hx hb dX3_neck_34 rfl (lv_at hl 2 rfl) ?_
      refine mf_iconst hx hb dX3_neck_35 ?_
      refine mf_icmp_ge (tgt := 63) hx hb dX3_neck_36 (by decide) (i32_mk (by omega) (by omega)) (i32_mk (by decide) (by decide)) (fun c8 => ?_) (fun c8 => ?_)
      · skip
        refine lv_aload_n hx hb dX3_neck_63 rfl (lv_at hl 1 rfl) ?_
        skip
        have hFc := va_free (wc := MW G hm adm u1) hD hS hA [0, 1, 2, 3, 4, 5, 6, 7, 8, 9] rfl
        refine va_callr (va_runV (As := []) (rest := []) ⟨hx, hb, hml, hown, hts⟩ (c_X3_kept l G gK hm adm u1 (by assumption) _) (cwV 0 hts gX3_neck_X3_kept rfl rfl rfl (by decide +kernel) ⟨Nat.le_of_ble_eq_true rfl, Nat.le_of_ble_eq_true rfl⟩) (wrVk (wc := MW G hm adm u1) hX hK hP hD hN [0, 1, 2, 3, 4, 5, 6, 7, 8, 9] (by decide) rfl rfl (ci := 3) rfl rfl) rfl rfl hl.1 rfl (lv_room (Nat.le_of_ble_eq_true rfl)) dX3_neck_64 ⟨(Nat.le_of_ble_eq_true rfl), (Nat.le_of_ble_eq_true rfl)⟩) hS (fun q _ h => hFc q h) hFc (fun u10 q9 t H1 locs ht hvm hw hB hz1 hk1 hS => ?_)
        obtain ⟨hP, hD⟩ := wrJ (ws := MW G hm adm u1) (w1 := MW G hm adm u1 ++ KW G gK q9 u10.1 u10.2) ht hFc hB
        have hP : va_P G.1 vwCl (MW G hm adm u1 ++ KW G gK q9 u10.1 u10.2) H1 := hP
        have hD : va_D A (MW G hm adm u1 ++ KW G gK q9 u10.1 u10.2) := hD
        clear hB hk1 hFc ht hz1 hvm
        generalize H1 = H at hP hS ⊢
        have w11 := hw; clear hw
        refine lv_astore_n (lv' := [(3, .ref q9), (2, .int (iI (y5))), (0, .ref hm), (1, .int (iI (wv)))]) hx hb dX3_neck_67 rfl hl (by decide) rfl (fun ls hl => ?_)
        refine lv_aload_n hx hb dX3_neck_68 rfl (lv_at hl 2 rfl) ?_
        refine vp_callSi (va_Run.run (va_runV (As := []) (rest := []) ⟨hx, hb, hml, hown, hts⟩ (c_X3_length l G hm adm u1 (by assumption)) (cwV 0 hts gX3_neck_X3_length rfl rfl rfl (by decide +kernel) ⟨Nat.le_of_ble_eq_true rfl, Nat.le_of_ble_eq_true rfl⟩) (rdV (wc := MW G hm adm u1) hK hP hN [0, 1, 2, 3, 4, 5, 6, 7, 8, 9] rfl (ci := 3) rfl rfl) rfl rfl hl.1 rfl (lv_room (Nat.le_of_ble_eq_true rfl)) dX3_neck_69 ⟨(Nat.le_of_ble_eq_true rfl), (Nat.le_of_ble_eq_true rfl)⟩)) (fun q12 hq12 => ?_)
        subst hq12
        refine mf_top (u1 10 2) (r 7 0) (by rw [f3_u1 10 (by decide), rel10_2 hrel]) ?_
        have b13 : (0 : Int) ≤ r 7 0 ∧ r 7 0 ≤ 150 := ok 7 0
        refine lv_istore (lv' := [(4, .int (iI (r 7 0))), (3, .ref q9), (2, .int (iI (y5))), (0, .ref hm), (1, .int (iI (wv)))]) hx hb dX3_neck_72 hl (by decide) rfl (fun ls hl => ?_)
        refine lv_aload_n hx hb dX3_neck_74 rfl (lv_at hl 3 rfl) ?_
        have hFc := va_free (wc := MW G hm adm u1) hD hS hA [0, 1, 2, 3, 4, 5, 6, 7, 8, 9] rfl
        refine va_callv (va_runV (As := []) (rest := []) ⟨hx, hb, hml, hown, hts⟩ (c_X3_flood l G hm adm u1 (r) (q) (by assumption) (by assumption) (by first | assumption | omega) (by first | assumption | omega) (by exact (hFl (by omega)).1) (by first | assumption | omega) _) (cwV 0 hts gX3_neck_X3_flood rfl rfl rfl (by decide +kernel) ⟨Nat.le_of_ble_eq_true rfl, Nat.le_of_ble_eq_true rfl⟩) (wrV (wc := MW G hm adm u1) hK hP hD hN [0, 1, 2, 3, 4, 5, 6, 7, 8, 9] (by decide) rfl rfl (ci := 3) rfl rfl) rfl rfl hl.1 rfl (lv_room (Nat.le_of_ble_eq_true rfl)) dX3_neck_75 ⟨(Nat.le_of_ble_eq_true rfl), (Nat.le_of_ble_eq_true rfl)⟩) hS (fun q _ h => hFc q h) hFc (fun u15 t H1 locs ht hvm hw hB hz1 hk1 hS => ?_)
        obtain ⟨u16, rfl⟩ : ∃ z, z = u15 := ⟨_, rfl⟩
        try dsimp only at hw hB
        obtain ⟨hP, hD⟩ := wrJ2 (ws := MW G hm adm u1 ++ KW G gK q9 u10.1 u10.2) (wc := MW G hm adm u1) (wr := KW G gK q9 u10.1 u10.2) (w1 := MW G hm adm u16) hP hD [0, 1, 2, 3, 4, 5, 6, 7, 8, 9] [10, 11, 12, 13, 14] rfl rfl (by decide) (by decide) hk1 ht hFc hB
        have hP : va_P G.1 vwCl (MW G hm adm u16 ++ KW G gK q9 u10.1 u10.2) H1 := hP.sub [5, 6, 7, 8, 9, 10, 11, 12, 13, 14, 0, 1, 2, 3, 4] rfl
        have hD : va_D A (MW G hm adm u16 ++ KW G gK q9 u10.1 u10.2) := hD.sub [5, 6, 7, 8, 9, 10, 11, 12, 13, 14, 0, 1, 2, 3, 4] (by decide) rfl
        have hP : va_P G.1 vwCl (MW G hm adm u16 ++ KW G gK q9 u10.1 u10.2) H1 := hP
        have hD : va_D A (MW G hm adm u16 ++ KW G gK q9 u10.1 u10.2) := hD
        clear hB hk1 hFc ht hz1 hvm
        generalize H1 = H at hP hS ⊢
        have w17 := hw; clear hw
        have oku16 : rOK ulo uhi u16 := w17.1
        have ok_q := (hFl (by omega)).2.1
        skip
        refine lv_iload hx hb dX3_neck_78 (lv_at hl 0 rfl) ?_
        refine lv_aload_n hx hb dX3_neck_80 rfl (lv_at hl 3 rfl) ?_
        refine vp_callSi (va_Run.run (va_runV (As := []) (rest := [.int (iI (r 7 0))]) ⟨hx, hb, hml, hown, hts⟩ (c_X3_length l G hm adm u16 (by assumption)) (cwV 0 hts gX3_neck_X3_length rfl rfl rfl (by decide +kernel) ⟨Nat.le_of_ble_eq_true rfl, Nat.le_of_ble_eq_true rfl⟩) (rdV (wc := MW G hm adm u16) hK hP hN [0, 1, 2, 3, 4, 5, 6, 7, 8, 9] rfl (ci := 3) rfl rfl) rfl rfl hl.1 rfl (lv_room (Nat.le_of_ble_eq_true rfl)) dX3_neck_81 ⟨(Nat.le_of_ble_eq_true rfl), (Nat.le_of_ble_eq_true rfl)⟩)) (fun q18 hq18 => ?_)
        subst hq18
        refine mf_top (u16 10 2) (q 7 0) (by rw [rel10_2 w17.2.1]) ?_
        have b19 : (0 : Int) ≤ q 7 0 ∧ q 7 0 ≤ 150 := ok_q 7 0
        refine mf_isub hx hb dX3_neck_84 ?_
        refine lv_istore (lv' := [(5, .int (iI ((r 7 0) - (q 7 0)))), (4, .int (iI (r 7 0))), (3, .ref q9), (2, .int (iI (y5))), (0, .ref hm), (1, .int (iI (wv)))]) hx hb dX3_neck_85 hl (by decide) rfl (fun ls hl => ?_)
        refine lv_aload_n hx hb dX3_neck_87 rfl (lv_at hl 4 rfl) ?_
        refine lv_aload_n hx hb dX3_neck_88 rfl (lv_at hl 2 rfl) ?_
        have hFc := va_free (wc := MW G hm adm u16 ++ KW G gK q9 u10.1 u10.2) hD hS hA [0, 1, 2, 3, 4, 5, 6, 7, 8, 9, 10, 11, 12, 13, 14] rfl
        refine va_callv (va_runV (As := [.ref q9]) (rest := []) ⟨hx, hb, hml, hown, hts⟩ (c_X3_bringBack l G gK hm adm u16 q9 u10.1 u10.2 (r) (u1) (by assumption) (by exact oku1) (by exact ok) (by exact hI) (by exact hrel1) (by exact w11.1) (by exact w11.2.1) (by exact w11.2.2.1) (by exact w11.2.2.2) (by rw [← (Flood_fr (hFl (by omega)).1).1]; exact (w17.2.1).1) (by rw [← (Flood_fr (hFl (by omega)).1).2.1]; exact (w17.2.1).2.1) (by rw [← (Flood_fr (hFl (by omega)).1).2.2]; exact (w17.2.1).2.2.1) _) (cwV 1 hts gX3_neck_X3_bringBack rfl rfl rfl (by decide +kernel) ⟨Nat.le_of_ble_eq_true rfl, Nat.le_of_ble_eq_true rfl⟩) (wrVk (wc := MW G hm adm u16 ++ KW G gK q9 u10.1 u10.2) hX hK hP hD hN [0, 1, 2, 3, 4, 5, 6, 7, 8, 9, 10, 11, 12, 13, 14] (by decide) rfl rfl (ci := 3) rfl rfl) rfl rfl hl.1 rfl (lv_room (Nat.le_of_ble_eq_true rfl)) dX3_neck_89 ⟨(Nat.le_of_ble_eq_true rfl), (Nat.le_of_ble_eq_true rfl)⟩) hS (fun q _ h => hFc q h) hFc (fun u21 t H1 locs ht hvm hw hB hz1 hk1 hS => ?_)
        obtain ⟨u22, rfl⟩ : ∃ z, z = u21 := ⟨_, rfl⟩
        try dsimp only at hw hB
        obtain ⟨hP, hD⟩ := wrJ (ws := MW G hm adm u16 ++ KW G gK q9 u10.1 u10.2) (w1 := MW G hm adm u22 ++ KW G gK q9 u10.1 u10.2) ht hFc hB
        have hP : va_P G.1 vwCl (MW G hm adm u22 ++ KW G gK q9 u10.1 u10.2) H1 := hP
        have hD : va_D A (MW G hm adm u22 ++ KW G gK q9 u10.1 u10.2) := hD
        clear hB hk1 hFc ht hz1 hvm
        generalize H1 = H at hP hS ⊢
        have w23 := hw; clear hw
        have oku22 : rOK ulo uhi u22 := w23.1
        refine lv_iload hx hb dX3_neck_92 (lv_at hl 0 rfl) ?_
        have hk9 : kRng 0 3 wv = 0 := mf_if_f (fun z => z (by assumption))
        have hP := hP.sub (ws' := MW G hm adm u22) [0, 1, 2, 3, 4, 5, 6, 7, 8, 9] rfl
        have hD := hD.sub (ws' := MW G hm adm u22) [0, 1, 2, 3, 4, 5, 6, 7, 8, 9] (by decide) rfl
        exact W.iret hx hb hr (fun t ht hW => ⟨⟨_, u22, rfl, ⟨_, rfl, by exact ⟨oku22, ⟨w23.2.2.2.1.trans ((w17.2.2).2.1.trans hfF.1), w23.2.2.2.2.trans ((w17.2.2).2.2.trans hfF.2)⟩, by rw [hk9, w23.2.2.1, (w17.2.2).1]; exact hz0, fun _ => ⟨w23.2.1, by unfold vNeck; rw [if_neg (by omega), if_neg (by omega), if_neg (by omega)]⟩, fun z9 => absurd hk9 z9⟩⟩, by rw [ht]; exact hP, hD⟩, hS.F ht⟩) hS.2.2 dX3_neck_94
      · skip
        refine lv_iload_n hx hb dX3_neck_39 rfl (lv_at hl 0 rfl) ?_
        refine mf_iconst hx hb dX3_neck_40 ?_
        refine mf_icmp_ne (tgt := 48) hx hb dX3_neck_41 (by decide) (i32_mk (by omega) (by omega)) (i32_mk (by decide) (by decide)) (fun c24 => ?_) (fun c24 => ?_)
        · skip
          refine lv_iload_n hx hb dX3_neck_48 rfl (lv_at hl 2 rfl) ?_
          refine mf_iconst hx hb dX3_neck_49 ?_
          refine mf_icmp_ne (tgt := 57) hx hb dX3_neck_50 (by decide) (i32_mk (by omega) (by omega)) (i32_mk (by decide) (by decide)) (fun c25 => ?_) (fun c25 => ?_)
          · skip
            have hw9 : ¬ widF r = -1 := by (rw [← ey5]; assumption)
            have hw8 := (widF_neck hI hw9).1
            rw [← ey5] at hw8
            refine lv_aload_n hx hb dX3_neck_57 rfl (lv_at hl 1 rfl) ?_
            refine lv_iload_n hx hb dX3_neck_58 rfl (lv_at hl 0 rfl) ?_
            refine vp_callSi (va_Run.run (va_runV (As := [.int (iI (y5))]) (rest := []) ⟨hx, hb, hml, hown, hts⟩ (c_X3_far l G hm adm u1 (y5) (r) (i32_mk (by omega) (by omega)) (by assumption) (by assumption) (by first | assumption | omega) (by first | assumption | omega) (by omega)) (cwV 1 hts gX3_neck_X3_far rfl rfl rfl (by decide +kernel) ⟨Nat.le_of_ble_eq_true rfl, Nat.le_of_ble_eq_true rfl⟩) (rdV (wc := MW G hm adm u1) hK hP hN [0, 1, 2, 3, 4, 5, 6, 7, 8, 9] rfl (ci := 3) rfl rfl) rfl rfl hl.1 rfl (lv_room (Nat.le_of_ble_eq_true rfl)) dX3_neck_59 ⟨(Nat.zero_le _), (Nat.zero_le _)⟩)) (fun q26 hq26 => ?_)
            subst hq26
            refine mf_nm (fun y27 ey27 => ?_)
            have b28 : -1 ≤ y27 ∧ y27 ≤ 149 := by rw [ey27]; exact farF_b (by assumption) y5
            have hk9 : kRng 0 3 wv = 0 := mf_if_f (fun z => z (by assumption))
            refine W.widen (k := 5) (n := 927) (Nat.le_of_ble_eq_true rfl) (Nat.le_of_ble_eq_true rfl) ?_
            exact W.iret hx hb hr (fun t ht hW => ⟨⟨_, u1, rfl, ⟨_, rfl, by exact ⟨oku1, hfF, by rw [hk9]; exact hz0, fun _ => ⟨hrel1, by unfold vNeck; rw [if_neg (by omega), if_neg (by omega), if_pos (by omega)]; exact ey27.trans (by rw [ey5])⟩, fun z9 => absurd hk9 z9⟩⟩, by rw [ht]; exact hP, hD⟩, hS.F ht⟩) hS.2.2 dX3_neck_62
          · skip
            refine lv_iload_n hx hb dX3_neck_53 rfl (lv_at hl 0 rfl) ?_
            refine lv_goto (tgt := 62) hx hb dX3_neck_54 (by decide) ?_
            have hk9 : kRng 0 3 wv = 0 := mf_if_f (fun z => z (by assumption))
            refine W.widen (k := 5) (n := 927) (Nat.le_of_ble_eq_true rfl) (Nat.le_of_ble_eq_true rfl) ?_
            exact W.iret hx hb hr (fun t ht hW => ⟨⟨_, u1, rfl, ⟨_, rfl, by exact ⟨oku1, hfF, by rw [hk9]; exact hz0, fun _ => ⟨hrel1, by unfold vNeck; rw [if_neg (by omega), if_pos (by omega)]; exact ey5⟩, fun z9 => absurd hk9 z9⟩⟩, by rw [ht]; exact hP, hD⟩, hS.F ht⟩) hS.2.2 dX3_neck_62
        · skip
          refine mf_iconst hx hb dX3_neck_44 ?_
          refine lv_goto (tgt := 62) hx hb dX3_neck_45 (by decide) ?_
          have hk9 : kRng 0 3 wv = 0 := mf_if_f (fun z => z (by assumption))
          refine W.widen (k := 5) (n := 927) (Nat.le_of_ble_eq_true rfl) (Nat.le_of_ble_eq_true rfl) ?_
          exact W.iret hx hb hr (fun t ht hW => ⟨⟨_, u1, rfl, ⟨_, rfl, by exact ⟨oku1, hfF, by rw [hk9]; exact hz0, fun _ => ⟨hrel1, by unfold vNeck; rw [if_neg (by omega)]; by_cases w1 : wv = 1; (rw [if_pos w1, ← ey5]; omega); (rw [if_neg w1, if_pos (by omega), ← ey5, show y5 = -1 by omega]; exact (farF_m1 r).symm)⟩, fun z9 => absurd hk9 z9⟩⟩, by rw [ht]; exact hP, hD⟩, hS.F ht⟩) hS.2.2 dX3_neck_62
    · skip
      refine lv_aload_n hx hb dX3_neck_29 rfl (lv_at hl 1 rfl) ?_
      refine vp_callSi (va_Run.run (va_runV (As := []) (rest := []) ⟨hx, hb, hml, hown, hts⟩ (c_X3_necks l G hm adm u1 (r) (by assumption) (by assumption) (by first | assumption | omega) (by first | assumption | omega)) (cwV 0 hts gX3_neck_X3_necks rfl rfl rfl (by decide +kernel) ⟨Nat.le_of_ble_eq_true rfl, Nat.le_of_ble_eq_true rfl⟩) (rdV (wc := MW G hm adm u1) hK hP hN [0, 1, 2, 3, 4, 5, 6, 7, 8, 9] rfl (ci := 3) rfl rfl) rfl rfl hl.1 rfl (lv_room (Nat.le_of_ble_eq_true rfl)) dX3_neck_30 ⟨(Nat.zero_le _), (Nat.zero_le _)⟩)) (fun q29 hq29 => ?_)
      subst hq29
      have hk9 : kRng 0 3 wv = 0 := mf_if_f (fun z => z (by assumption))
      refine W.widen (k := 5) (n := 927) (Nat.le_of_ble_eq_true rfl) (Nat.le_of_ble_eq_true rfl) ?_
      exact W.iret hx hb hr (fun t ht hW => ⟨⟨_, u1, rfl, ⟨_, rfl, by exact ⟨oku1, hfF, by rw [hk9]; exact hz0, fun _ => ⟨hrel1, by unfold vNeck; rw [if_pos (by omega)]⟩, fun z9 => absurd hk9 z9⟩⟩, by rw [ht]; exact hP, hD⟩, hS.F ht⟩) hS.2.2 dX3_neck_33
  · skip
    refine lv_aload_n hx hb dX3_neck_14 rfl (lv_at hl 0 rfl) ?_
    refine mf_iconst hx hb dX3_neck_15 ?_
    have hFc := va_free (wc := MW G hm adm u1) hD hS hA [0, 1, 2, 3, 4, 5, 6, 7, 8, 9] rfl
    refine va_calli (va_runV (As := [.int (iI (1))]) (rest := []) ⟨hx, hb, hml, hown, hts⟩ (c_X3_fail l G hm adm u1 (1) (i32_mk (by decide) (by decide)) (by assumption) (by first | assumption | omega) _) (cwV 1 hts gX3_neck_X3_fail rfl rfl rfl (by decide +kernel) ⟨Nat.le_of_ble_eq_true rfl, Nat.le_of_ble_eq_true rfl⟩) (wrV (wc := MW G hm adm u1) hK hP hD hN [0, 1, 2, 3, 4, 5, 6, 7, 8, 9] (by decide) rfl rfl (ci := 3) rfl rfl) rfl rfl hl.1 rfl (lv_room (Nat.le_of_ble_eq_true rfl)) dX3_neck_16 ⟨(Nat.zero_le _), (Nat.zero_le _)⟩) hS (fun q _ h => hFc q h) hFc (fun q30 u31 t H1 locs ht hvm hw hB hz1 hk1 hS => ?_)
    obtain ⟨u32, rfl⟩ : ∃ z, z = u31 := ⟨_, rfl⟩
    try dsimp only at hw hB
    obtain ⟨hP, hD⟩ := wrJ (ws := MW G hm adm u1) (w1 := MW G hm adm u32) ht hFc hB
    have hP : va_P G.1 vwCl (MW G hm adm u32) H1 := hP
    have hD : va_D A (MW G hm adm u32) := hD
    clear hB hk1 hFc ht hz1 hvm
    generalize H1 = H at hP hS ⊢
    obtain ⟨z34, rfl, w33⟩ := hw
    have oku32 : rOK ulo uhi u32 := w33.1
    have hk9 : kRng 0 3 wv = 1 := mf_if_t (by assumption)
    refine W.widen (k := 5) (n := 927) (Nat.le_of_ble_eq_true rfl) (Nat.le_of_ble_eq_true rfl) ?_
    exact W.iret hx hb hr (fun t ht hW => ⟨⟨_, u32, rfl, ⟨_, rfl, by exact ⟨w33.1, ⟨(w33.2.1 4 (by decide)).trans hfF.1, (w33.2.1 5 (by decide)).trans hfF.2⟩, by rw [hk9]; exact w33.2.2.1, fun z9 => by rw [hk9] at z9; omega, fun _ => relU_cg w33.2.1 hrel1⟩⟩, by rw [ht]; exact hP, hD⟩, hS.F ht⟩) hS.2.2 dX3_neck_19
set_option maxHeartbeats 4000000 in
set_option maxRecDepth 100000 in
theorem c_X3_foresee (l : Launch) (G : mf_G) (gK : ClassId) (hm : Nat) (adm : Nat → Nat) (u : mf_V)  (yv : Int) (wv : Int) (r : mf_V) (q : mf_V) (b : Int) (Yv : Int) (hyv : i32 yv) (hwv : i32 wv) (oku : rOK ulo uhi u) (ok : rOK rlo rhi r) (hI : RInv r) (hrel : relU r u) (hB : bdP r Yv) (hYv : 0 ≤ Yv ∧ Yv + 100 ≤ 60000) (hY : kFore yv wv = 0 → YearsR yv r q b ∧ rOK rlo rhi q ∧ RInv q) (sz : Nat) : Met l yX3_foresee wsX3_foresee ({ frames := 8, cells := 5, slots := 927, locals := 181 }) (va_Pc [.ref hm, .int (iI (yv)), .int (iI (wv))] (WrPk G gK (MW G hm adm u) sz)) (va_Qi (fun q9 (u' : mf_V) => ∃ z : Int, q9 = iI z ∧ rOK ulo uhi u' ∧ frF u u' ∧ u' 0 0 = kFore yv wv ∧ (kFore yv wv = 0 → relU r u' ∧ z = vFore r q b wv) ∧ (¬ kFore yv wv = 0 → relU r u')) (fun (u' : mf_V) t => WrQ G (va_A (MW G hm adm u) sz) (MW G hm adm u') t) (va_A (MW G hm adm u) sz)) 5 927 (va_A (MW G hm adm u) sz) := by
  refine Met.ofW (cc := cX3_foresee) (maxL := 6) (ret := (some .int)) (by decide) rfl ?_
  intro p e s m args below meth c s₁ B hml hv
  obtain ⟨rfl, hsz, hP, hK, hD0, hN, hX⟩ := hv
  have hx := B.exec
  have hb := B.bytes
  have hr := B.returns
  have hts := atoms_spec (ws := wsX3_foresee) B.pre
  have hown : s.vm.findClass RX3 = some m.cls := findClass_of_methodNamed B.named
  have hlocks := B.notSynchronized
  have hinX3 : ∀ w ∈ u_ws RX3 TX3 11, w ∈ wsX3_foresee := fun w h => List.mem_cons_of_mem _ (List.mem_append_right _ h)
  subst hsz
  have hD := hD0.self (sz := s.heap.size)
  generalize hAe : va_A (MW G hm adm u) s.heap.size = A at hD ⊢
  have hA : ∀ q : Nat, s.heap.size ≤ q → A q := fun q h => by rw [← hAe]; exact Or.inr h
  have hS : va_S A s.heap s.heap [] := va_S.rf
  have hl := lv_entry ([.ref hm, .int (iI (yv)), .int (iI (wv))]) (n := 6) (Nat.le_of_ble_eq_true rfl)
  rw [lg_entry_eq]
  generalize (lg_sl ([.ref hm, .int (iI (yv)), .int (iI (wv))]) ++ List.replicate (6 - (lg_sl ([.ref hm, .int (iI (yv)), .int (iI (wv))])).length) Slot.unset).toArray = ls at hl ⊢
  have hl : lv_has ls 6 [(0, .ref hm), (1, .int (iI (yv))), (2, .int (iI (wv)))] := hl
  have hyv1 := hyv.1
  have hyv2 := hyv.2
  have hwv1 := hwv.1
  have hwv2 := hwv.2
  have okLr : (0 : Int) ≤ r 7 0 ∧ r 7 0 ≤ 150 := ok 7 0
  refine lv_aload_n hx hb dX3_foresee_0 rfl (lv_at hl 0 rfl) ?_
  refine mf_iconst hx hb dX3_foresee_1 ?_
  refine va_put (D := G.1) (ci := 3) (v := .int (iI (0))) (ty := .int) (C := RX3) (T := TX3) (N := 11) hx hb hts hinX3 tyX3 tyX3_ok nmX3 hown hK hP hD hS 0 rfl rfl 0 (by decide) (hts (.fieldLink RX3 41 "MeanderFarmModel" "thrown" "I") (List.mem_of_getElem? (i := 1) rfl)) (fun _ h9 => h9) rfl (by decide +kernel) rfl rfl (Nat.le_of_ble_eq_true rfl) dX3_foresee_2 (fun H locs hP hD hS => ?_)
  obtain ⟨u1, eu1⟩ : ∃ z9 : mf_V, z9 = mf_sF u 0 (fun _ => 0) := ⟨_, rfl⟩
  have hP : va_P G.1 vwCl (MW G hm adm u1) H := by rw [eu1]; exact hP
  have hD : va_D A (MW G hm adm u1) := by rw [eu1]; exact hD
  have oku1 : rOK ulo uhi u1 := by rw [eu1]; exact rOK_set oku 0 _ (show (-1 : Int) ≤ 0 by omega) (show 0 ≤ (9 : Int) by omega)
  have f1_u1 : ∀ y, u1 0 y = 0 := fun y => by rw [eu1, mf_sF_s]
  have f3_u1 : ∀ q, q ≠ 0 → u1 q = u q := fun q hq => by rw [eu1, mf_sF_n hq]
  have hrel1 : relU r u1 := relU_cg f3_u1 hrel
  have hz0 : u1 0 0 = 0 := f1_u1 0
  have hfF : frF u u1 := ⟨f3_u1 4 (by decide), f3_u1 5 (by decide)⟩
  refine lv_iload_n hx hb dX3_foresee_5 rfl (lv_at hl 1 rfl) ?_
  refine mf_iconst hx hb dX3_foresee_6 ?_
  refine mf_bipush hx hb dX3_foresee_7 rfl ?_
  refine vp_callSi (va_Run.run (va_runS (As := [.int (iI (yv)), .int (iI (1)), .int (iI (100))]) (rest := []) ⟨hx, hb, hml, hown, hts⟩ (c_X3_isIn l (yv) (1) (100) (i32_mk (by omega) (by omega)) (i32_mk (by decide) (by decide)) (i32_mk (by decide) (by decide))) (va_cwS 3 hts gX3_foresee_X3_isIn rfl rfl rfl (by decide +kernel) ⟨Nat.le_of_ble_eq_true rfl, Nat.le_of_ble_eq_true rfl⟩) pureS rfl rfl hl.1 rfl (lv_room (Nat.le_of_ble_eq_true rfl)) dX3_foresee_9 ⟨(Nat.zero_le _), (Nat.zero_le _)⟩)) (fun q2 hq2 => ?_)
  subst hq2
  refine mf_bp_ne (tgt := 21) hx hb dX3_foresee_12 (by decide) (fun c3 => ?_) (fun c3 => ?_)
  · skip
    refine lv_iload_n hx hb dX3_foresee_21 rfl (lv_at hl 2 rfl) ?_
    refine mf_iconst hx hb dX3_foresee_22 ?_
    refine mf_iconst hx hb dX3_foresee_23 ?_
    refine vp_callSi (va_Run.run (va_runS (As := [.int (iI (wv)), .int (iI (0)), .int (iI (2))]) (rest := []) ⟨hx, hb, hml, hown, hts⟩ (c_X3_isIn l (wv) (0) (2) (i32_mk (by omega) (by omega)) (i32_mk (by decide) (by decide)) (i32_mk (by decide) (by decide))) (va_cwS 3 hts gX3_foresee_X3_isIn rfl rfl rfl (by decide +kernel) ⟨Nat.le_of_ble_eq_true rfl, Nat.le_of_ble_eq_true rfl⟩) pureS rfl rfl hl.1 rfl (lv_room (Nat.le_of_ble_eq_true rfl)) dX3_foresee_24 ⟨(Nat.zero_le _), (Nat.zero_le _)⟩)) (fun q4 hq4 => ?_)
    subst hq4
    refine mf_bp_ne (tgt := 36) hx hb dX3_foresee_27 (by decide) (fun c5 => ?_) (fun c5 => ?_)
    · skip
      refine lv_aload_n hx hb dX3_foresee_36 rfl (lv_at hl 0 rfl) ?_
      skip
      have hFc := va_free (wc := MW G hm adm u1) hD hS hA [0, 1, 2, 3, 4, 5, 6, 7, 8, 9] rfl
      refine va_callr (va_runV (As := []) (rest := []) ⟨hx, hb, hml, hown, hts⟩ (c_X3_kept l G gK hm adm u1 (by assumption) _) (cwV 0 hts gX3_foresee_X3_kept rfl rfl rfl (by decide +kernel) ⟨Nat.le_of_ble_eq_true rfl, Nat.le_of_ble_eq_true rfl⟩) (wrVk (wc := MW G hm adm u1) hX hK hP hD hN [0, 1, 2, 3, 4, 5, 6, 7, 8, 9] (by decide) rfl rfl (ci := 3) rfl rfl) rfl rfl hl.1 rfl (lv_room (Nat.le_of_ble_eq_true rfl)) dX3_foresee_37 ⟨(Nat.le_of_ble_eq_true rfl), (Nat.le_of_ble_eq_true rfl)⟩) hS (fun q _ h => hFc q h) hFc (fun u7 q6 t H1 locs ht hvm hw hB hz1 hk1 hS => ?_)
      obtain ⟨hP, hD⟩ := wrJ (ws := MW G hm adm u1) (w1 := MW G hm adm u1 ++ KW G gK q6 u7.1 u7.2) ht hFc hB
      have hP : va_P G.1 vwCl (MW G hm adm u1 ++ KW G gK q6 u7.1 u7.2) H1 := hP
      have hD : va_D A (MW G hm adm u1 ++ KW G gK q6 u7.1 u7.2) := hD
      clear hB hk1 hFc ht hz1 hvm
      generalize H1 = H at hP hS ⊢
      have w8 := hw; clear hw
      refine lv_astore_n (lv' := [(3, .ref q6), (0, .ref hm), (1, .int (iI (yv))), (2, .int (iI (wv)))]) hx hb dX3_foresee_40 rfl hl (by decide) rfl (fun ls hl => ?_)
      have hk8 : kFore yv wv = 0 := (mf_if_f (fun z => z (by assumption))).trans (mf_if_f (fun z => z (by assumption)))
      obtain ⟨hY1, ok_q, hIq⟩ := hY hk8
      refine lv_aload_n hx hb dX3_foresee_41 rfl (lv_at hl 1 rfl) ?_
      refine lv_iload_n hx hb dX3_foresee_42 rfl (lv_at hl 2 rfl) ?_
      have hFc := va_free (wc := MW G hm adm u1) hD hS hA [0, 1, 2, 3, 4, 5, 6, 7, 8, 9] rfl
      refine va_calli (va_runV (As := [.int (iI (yv))]) (rest := []) ⟨hx, hb, hml, hown, hts⟩ (c_X3_yearsOn l G hm adm u1 (yv) (r) (q) (b) (Yv) (i32_mk (by omega) (by omega)) (by assumption) (by assumption) (by first | assumption | omega) (by first | assumption | omega) (by exact hY1) (by omega) (by first | assumption | omega) (by omega) _) (cwV 1 hts gX3_foresee_X3_yearsOn rfl rfl rfl (by decide +kernel) ⟨Nat.le_of_ble_eq_true rfl, Nat.le_of_ble_eq_true rfl⟩) (wrV (wc := MW G hm adm u1) hK hP hD hN [0, 1, 2, 3, 4, 5, 6, 7, 8, 9] (by decide) rfl rfl (ci := 3) rfl rfl) rfl rfl hl.1 rfl (lv_room (Nat.le_of_ble_eq_true rfl)) dX3_foresee_43 ⟨(Nat.le_of_ble_eq_true rfl), (Nat.le_of_ble_eq_true rfl)⟩) hS (fun q _ h => hFc q h) hFc (fun q9 u10 t H1 locs ht hvm hw hB hz1 hk1 hS => ?_)
      obtain ⟨u11, rfl⟩ : ∃ z, z = u10 := ⟨_, rfl⟩
      try dsimp only at hw hB
      obtain ⟨hP, hD⟩ := wrJ2 (ws := MW G hm adm u1 ++ KW G gK q6 u7.1 u7.2) (wc := MW G hm adm u1) (wr := KW G gK q6 u7.1 u7.2) (w1 := MW G hm adm u11) hP hD [0, 1, 2, 3, 4, 5, 6, 7, 8, 9] [10, 11, 12, 13, 14] rfl rfl (by decide) (by decide) hk1 ht hFc hB
      have hP : va_P G.1 vwCl (MW G hm adm u11 ++ KW G gK q6 u7.1 u7.2) H1 := hP.sub [5, 6, 7, 8, 9, 10, 11, 12, 13, 14, 0, 1, 2, 3, 4] rfl
      have hD : va_D A (MW G hm adm u11 ++ KW G gK q6 u7.1 u7.2) := hD.sub [5, 6, 7, 8, 9, 10, 11, 12, 13, 14, 0, 1, 2, 3, 4] (by decide) rfl
      have hP : va_P G.1 vwCl (MW G hm adm u11 ++ KW G gK q6 u7.1 u7.2) H1 := hP
      have hD : va_D A (MW G hm adm u11 ++ KW G gK q6 u7.1 u7.2) := hD
      clear hB hk1 hFc ht hz1 hvm
      generalize H1 = H at hP hS ⊢
      obtain ⟨z13, rfl, w12⟩ := hw
      have oku11 : rOK ulo uhi u11 := w12.1
      skip
      refine lv_istore (lv' := [(4, .int (iI (z13))), (3, .ref q6), (0, .ref hm), (1, .int (iI (yv))), (2, .int (iI (wv)))]) hx hb dX3_foresee_46 hl (by decide) rfl (fun ls hl => ?_)
      refine lv_iload_n hx hb dX3_foresee_48 rfl (lv_at hl 4 rfl) ?_
      refine mf_if_ne (tgt := 59) hx hb dX3_foresee_49 (by decide) (i32_mk (by omega) (by omega)) (fun c14 => ?_) (fun c14 => ?_)
      · skip
        refine lv_iload_n hx hb dX3_foresee_59 rfl (lv_at hl 4 rfl) ?_
        refine mf_iconst hx hb dX3_foresee_60 ?_
        refine mf_icmp_ne (tgt := 79) hx hb dX3_foresee_61 (by decide) (i32_mk (by omega) (by omega)) (i32_mk (by decide) (by decide)) (fun c15 => ?_) (fun c15 => ?_)
        · skip
          refine lv_iload hx hb dX3_foresee_79 (lv_at hl 0 rfl) ?_
          refine lv_istore (lv' := [(5, .int (iI (z13))), (4, .int (iI (z13))), (3, .ref q6), (0, .ref hm), (1, .int (iI (yv))), (2, .int (iI (wv)))]) hx hb dX3_foresee_81 hl (by decide) rfl (fun ls hl => ?_)
          refine lv_aload_n hx hb dX3_foresee_83 rfl (lv_at hl 3 rfl) ?_
          refine lv_aload_n hx hb dX3_foresee_84 rfl (lv_at hl 2 rfl) ?_
          have hFc := va_free (wc := MW G hm adm u11 ++ KW G gK q6 u7.1 u7.2) hD hS hA [0, 1, 2, 3, 4, 5, 6, 7, 8, 9, 10, 11, 12, 13, 14] rfl
          refine va_callv (va_runV (As := [.ref q6]) (rest := []) ⟨hx, hb, hml, hown, hts⟩ (c_X3_bringBack l G gK hm adm u11 q6 u7.1 u7.2 (r) (u1) (by assumption) (by exact oku1) (by exact ok) (by exact hI) (by exact hrel1) (by exact w8.1) (by exact w8.2.1) (by exact w8.2.2.1) (by exact w8.2.2.2) (by rw [← (YearsN_fr _ hY1).1]; exact (w12.2.1).1) (by rw [← (YearsN_fr _ hY1).2.1]; exact (w12.2.1).2.1) (by rw [← (YearsN_fr _ hY1).2.2]; exact (w12.2.1).2.2.1) _) (cwV 1 hts gX3_foresee_X3_bringBack rfl rfl rfl (by decide +kernel) ⟨Nat.le_of_ble_eq_true rfl, Nat.le_of_ble_eq_true rfl⟩) (wrVk (wc := MW G hm adm u11 ++ KW G gK q6 u7.1 u7.2) hX hK hP hD hN [0, 1, 2, 3, 4, 5, 6, 7, 8, 9, 10, 11, 12, 13, 14] (by decide) rfl rfl (ci := 3) rfl rfl) rfl rfl hl.1 rfl (lv_room (Nat.le_of_ble_eq_true rfl)) dX3_foresee_85 ⟨(Nat.le_of_ble_eq_true rfl), (Nat.le_of_ble_eq_true rfl)⟩) hS (fun q _ h => hFc q h) hFc (fun u17 t H1 locs ht hvm hw hB hz1 hk1 hS => ?_)
          obtain ⟨u18, rfl⟩ : ∃ z, z = u17 := ⟨_, rfl⟩
          try dsimp only at hw hB
          obtain ⟨hP, hD⟩ := wrJ (ws := MW G hm adm u11 ++ KW G gK q6 u7.1 u7.2) (w1 := MW G hm adm u18 ++ KW G gK q6 u7.1 u7.2) ht hFc hB
          have hP : va_P G.1 vwCl (MW G hm adm u18 ++ KW G gK q6 u7.1 u7.2) H1 := hP
          have hD : va_D A (MW G hm adm u18 ++ KW G gK q6 u7.1 u7.2) := hD
          clear hB hk1 hFc ht hz1 hvm
          generalize H1 = H at hP hS ⊢
          have w19 := hw; clear hw
          have oku18 : rOK ulo uhi u18 := w19.1
          refine lv_iload hx hb dX3_foresee_88 (lv_at hl 0 rfl) ?_
          have hk9 : kFore yv wv = 0 := hk8
          have hP := hP.sub (ws' := MW G hm adm u18) [0, 1, 2, 3, 4, 5, 6, 7, 8, 9] rfl
          have hD := hD.sub (ws' := MW G hm adm u18) [0, 1, 2, 3, 4, 5, 6, 7, 8, 9] (by decide) rfl
          exact W.iret hx hb hr (fun t ht hW => ⟨⟨_, u18, rfl, ⟨_, rfl, by exact ⟨oku18, ⟨w19.2.2.2.1.trans ((w12.2.2.1).2.1.trans hfF.1), w19.2.2.2.2.trans ((w12.2.2.1).2.2.trans hfF.2)⟩, by rw [hk9, w19.2.2.1, (w12.2.2.1).1]; exact hz0, fun _ => ⟨w19.2.1, by unfold vFore; first | (rw [if_pos (by omega)]; done) | (rw [if_neg (by omega), if_pos (by omega), w8.2.2.2]; rw [rel10_1 hrel1]) | (rw [if_neg (by omega), if_neg (by omega)]; exact w12.2.2.2)⟩, fun z9 => absurd hk9 z9⟩⟩, by rw [ht]; exact hP, hD⟩, hS.F ht⟩) hS.2.2 dX3_foresee_90
        · skip
          refine lv_aload_n hx hb dX3_foresee_64 rfl (lv_at hl 2 rfl) ?_
          refine va_get (D := G.1) (ci := 3) (v := .ref (adm 10)) (C := RX3) (T := TX3) (N := 11) hx hb hts hinX3 hown hK hP 0 rfl rfl 10 (by decide) (hts (.fieldLink RX3 35 "MeanderFarmModel" "numbers" "[I") (List.mem_of_getElem? (i := 2) rfl)) (fun _ h9 => h9) rfl dX3_foresee_65 ?_
          refine mf_iconst hx hb dX3_foresee_68 ?_
          refine mf_iald (n := 3) (f := u11 10) hx hb hK hP 9 0 rfl rfl (z := 1) (by omega) (by omega) (by decide) dX3_foresee_69 ?_
          refine mf_top (u11 10 1) (q 9 0) (by rw [rel10_1 w12.2.1]) ?_
          have b20 : (0 : Int) ≤ q 9 0 ∧ q 9 0 ≤ 100000000 := ok_q 9 0
          refine lv_aload_n hx hb dX3_foresee_70 rfl (lv_at hl 1 rfl) ?_
          refine mf_iconst hx hb dX3_foresee_71 ?_
          refine mf_aldA hx hb hX hP 10 rfl (z := 3) (k := 3) (b := u7.1 3) (by decide +kernel) (by decide +kernel) (by decide) rfl dX3_foresee_72 ?_
          refine mf_iconst hx hb dX3_foresee_73 ?_
          refine mf_iald (n := 3) (f := u7.2 3) hx hb hK hP 14 0 rfl rfl (z := 1) (by omega) (by omega) (by decide) dX3_foresee_74 ?_
          refine mf_isub hx hb dX3_foresee_75 ?_
          refine lv_goto (tgt := 81) hx hb dX3_foresee_76 (by decide) ?_
          refine lv_istore (lv' := [(5, .int (iI ((q 9 0) - (u7.2 3 1)))), (4, .int (iI (z13))), (3, .ref q6), (0, .ref hm), (1, .int (iI (yv))), (2, .int (iI (wv)))]) hx hb dX3_foresee_81 hl (by decide) rfl (fun ls hl => ?_)
          refine lv_aload_n hx hb dX3_foresee_83 rfl (lv_at hl 3 rfl) ?_
          refine lv_aload_n hx hb dX3_foresee_84 rfl (lv_at hl 2 rfl) ?_
          have hFc := va_free (wc := MW G hm adm u11 ++ KW G gK q6 u7.1 u7.2) hD hS hA [0, 1, 2, 3, 4, 5, 6, 7, 8, 9, 10, 11, 12, 13, 14] rfl
          refine va_callv (va_runV (As := [.ref q6]) (rest := []) ⟨hx, hb, hml, hown, hts⟩ (c_X3_bringBack l G gK hm adm u11 q6 u7.1 u7.2 (r) (u1) (by assumption) (by exact oku1) (by exact ok) (by exact hI) (by exact hrel1) (by exact w8.1) (by exact w8.2.1) (by exact w8.2.2.1) (by exact w8.2.2.2) (by rw [← (YearsN_fr _ hY1).1]; exact (w12.2.1).1) (by rw [← (YearsN_fr _ hY1).2.1]; exact (w12.2.1).2.1) (by rw [← (YearsN_fr _ hY1).2.2]; exact (w12.2.1).2.2.1) _) (cwV 1 hts gX3_foresee_X3_bringBack rfl rfl rfl (by decide +kernel) ⟨Nat.le_of_ble_eq_true rfl, Nat.le_of_ble_eq_true rfl⟩) (wrVk (wc := MW G hm adm u11 ++ KW G gK q6 u7.1 u7.2) hX hK hP hD hN [0, 1, 2, 3, 4, 5, 6, 7, 8, 9, 10, 11, 12, 13, 14] (by decide) rfl rfl (ci := 3) rfl rfl) rfl rfl hl.1 rfl (lv_room (Nat.le_of_ble_eq_true rfl)) dX3_foresee_85 ⟨(Nat.le_of_ble_eq_true rfl), (Nat.le_of_ble_eq_true rfl)⟩) hS (fun q _ h => hFc q h) hFc (fun u22 t H1 locs ht hvm hw hB hz1 hk1 hS => ?_)
          obtain ⟨u23, rfl⟩ : ∃ z, z = u22 := ⟨_, rfl⟩
          try dsimp only at hw hB
          obtain ⟨hP, hD⟩ := wrJ (ws := MW G hm adm u11 ++ KW G gK q6 u7.1 u7.2) (w1 := MW G hm adm u23 ++ KW G gK q6 u7.1 u7.2) ht hFc hB
          have hP : va_P G.1 vwCl (MW G hm adm u23 ++ KW G gK q6 u7.1 u7.2) H1 := hP
          have hD : va_D A (MW G hm adm u23 ++ KW G gK q6 u7.1 u7.2) := hD
          clear hB hk1 hFc ht hz1 hvm
          generalize H1 = H at hP hS ⊢
          have w24 := hw; clear hw
          have oku23 : rOK ulo uhi u23 := w24.1
          refine lv_iload hx hb dX3_foresee_88 (lv_at hl 0 rfl) ?_
          have hk9 : kFore yv wv = 0 := hk8
          have hP := hP.sub (ws' := MW G hm adm u23) [0, 1, 2, 3, 4, 5, 6, 7, 8, 9] rfl
          have hD := hD.sub (ws' := MW G hm adm u23) [0, 1, 2, 3, 4, 5, 6, 7, 8, 9] (by decide) rfl
          exact W.iret hx hb hr (fun t ht hW => ⟨⟨_, u23, rfl, ⟨_, rfl, by exact ⟨oku23, ⟨w24.2.2.2.1.trans ((w12.2.2.1).2.1.trans hfF.1), w24.2.2.2.2.trans ((w12.2.2.1).2.2.trans hfF.2)⟩, by rw [hk9, w24.2.2.1, (w12.2.2.1).1]; exact hz0, fun _ => ⟨w24.2.1, by unfold vFore; first | (rw [if_pos (by omega)]; done) | (rw [if_neg (by omega), if_pos (by omega), w8.2.2.2]; rw [rel10_1 hrel1]) | (rw [if_neg (by omega), if_neg (by omega)]; exact w12.2.2.2)⟩, fun z9 => absurd hk9 z9⟩⟩, by rw [ht]; exact hP, hD⟩, hS.F ht⟩) hS.2.2 dX3_foresee_90
      · skip
        refine lv_aload_n hx hb dX3_foresee_52 rfl (lv_at hl 2 rfl) ?_
        refine vp_callSi (va_Run.run (va_runV (As := []) (rest := []) ⟨hx, hb, hml, hown, hts⟩ (c_X3_length l G hm adm u11 (by assumption)) (cwV 0 hts gX3_foresee_X3_length rfl rfl rfl (by decide +kernel) ⟨Nat.le_of_ble_eq_true rfl, Nat.le_of_ble_eq_true rfl⟩) (rdV (wc := MW G hm adm u11) hK hP hN [0, 1, 2, 3, 4, 5, 6, 7, 8, 9] rfl (ci := 3) rfl rfl) rfl rfl hl.1 rfl (lv_room (Nat.le_of_ble_eq_true rfl)) dX3_foresee_53 ⟨(Nat.le_of_ble_eq_true rfl), (Nat.le_of_ble_eq_true rfl)⟩)) (fun q25 hq25 => ?_)
        subst hq25
        refine mf_top (u11 10 2) (q 7 0) (by rw [rel10_2 w12.2.1]) ?_
        have b26 : (0 : Int) ≤ q 7 0 ∧ q 7 0 ≤ 150 := ok_q 7 0
        refine lv_goto (tgt := 81) hx hb dX3_foresee_56 (by decide) ?_
        refine lv_istore (lv' := [(5, .int (iI (q 7 0))), (4, .int (iI (z13))), (3, .ref q6), (0, .ref hm), (1, .int (iI (yv))), (2, .int (iI (wv)))]) hx hb dX3_foresee_81 hl (by decide) rfl (fun ls hl => ?_)
        refine lv_aload_n hx hb dX3_foresee_83 rfl (lv_at hl 3 rfl) ?_
        refine lv_aload_n hx hb dX3_foresee_84 rfl (lv_at hl 2 rfl) ?_
        have hFc := va_free (wc := MW G hm adm u11 ++ KW G gK q6 u7.1 u7.2) hD hS hA [0, 1, 2, 3, 4, 5, 6, 7, 8, 9, 10, 11, 12, 13, 14] rfl
        refine va_callv (va_runV (As := [.ref q6]) (rest := []) ⟨hx, hb, hml, hown, hts⟩ (c_X3_bringBack l G gK hm adm u11 q6 u7.1 u7.2 (r) (u1) (by assumption) (by exact oku1) (by exact ok) (by exact hI) (by exact hrel1) (by exact w8.1) (by exact w8.2.1) (by exact w8.2.2.1) (by exact w8.2.2.2) (by rw [← (YearsN_fr _ hY1).1]; exact (w12.2.1).1) (by rw [← (YearsN_fr _ hY1).2.1]; exact (w12.2.1).2.1) (by rw [← (YearsN_fr _ hY1).2.2]; exact (w12.2.1).2.2.1) _) (cwV 1 hts gX3_foresee_X3_bringBack rfl rfl rfl (by decide +kernel) ⟨Nat.le_of_ble_eq_true rfl, Nat.le_of_ble_eq_true rfl⟩) (wrVk (wc := MW G hm adm u11 ++ KW G gK q6 u7.1 u7.2) hX hK hP hD hN [0, 1, 2, 3, 4, 5, 6, 7, 8, 9, 10, 11, 12, 13, 14] (by decide) rfl rfl (ci := 3) rfl rfl) rfl rfl hl.1 rfl (lv_room (Nat.le_of_ble_eq_true rfl)) dX3_foresee_85 ⟨(Nat.le_of_ble_eq_true rfl), (Nat.le_of_ble_eq_true rfl)⟩) hS (fun q _ h => hFc q h) hFc (fun u28 t H1 locs ht hvm hw hB hz1 hk1 hS => ?_)
        obtain ⟨u29, rfl⟩ : ∃ z, z = u28 := ⟨_, rfl⟩
        try dsimp only at hw hB
        obtain ⟨hP, hD⟩ := wrJ (ws := MW G hm adm u11 ++ KW G gK q6 u7.1 u7.2) (w1 := MW G hm adm u29 ++ KW G gK q6 u7.1 u7.2) ht hFc hB
        have hP : va_P G.1 vwCl (MW G hm adm u29 ++ KW G gK q6 u7.1 u7.2) H1 := hP
        have hD : va_D A (MW G hm adm u29 ++ KW G gK q6 u7.1 u7.2) := hD
        clear hB hk1 hFc ht hz1 hvm
        generalize H1 = H at hP hS ⊢
        have w30 := hw; clear hw
        have oku29 : rOK ulo uhi u29 := w30.1
        refine lv_iload hx hb dX3_foresee_88 (lv_at hl 0 rfl) ?_
        have hk9 : kFore yv wv = 0 := hk8
        have hP := hP.sub (ws' := MW G hm adm u29) [0, 1, 2, 3, 4, 5, 6, 7, 8, 9] rfl
        have hD := hD.sub (ws' := MW G hm adm u29) [0, 1, 2, 3, 4, 5, 6, 7, 8, 9] (by decide) rfl
        exact W.iret hx hb hr (fun t ht hW => ⟨⟨_, u29, rfl, ⟨_, rfl, by exact ⟨oku29, ⟨w30.2.2.2.1.trans ((w12.2.2.1).2.1.trans hfF.1), w30.2.2.2.2.trans ((w12.2.2.1).2.2.trans hfF.2)⟩, by rw [hk9, w30.2.2.1, (w12.2.2.1).1]; exact hz0, fun _ => ⟨w30.2.1, by unfold vFore; first | (rw [if_pos (by omega)]; done) | (rw [if_neg (by omega), if_pos (by omega), w8.2.2.2]; rw [rel10_1 hrel1]) | (rw [if_neg (by omega), if_neg (by omega)]; exact w12.2.2.2)⟩, fun z9 => absurd hk9 z9⟩⟩, by rw [ht]; exact hP, hD⟩, hS.F ht⟩) hS.2.2 dX3_foresee_90
    · skip
      refine lv_aload_n hx hb dX3_foresee_30 rfl (lv_at hl 0 rfl) ?_
      refine mf_iconst hx hb dX3_foresee_31 ?_
      have hFc := va_free (wc := MW G hm adm u1) hD hS hA [0, 1, 2, 3, 4, 5, 6, 7, 8, 9] rfl
      refine va_calli (va_runV (As := [.int (iI (2))]) (rest := []) ⟨hx, hb, hml, hown, hts⟩ (c_X3_fail l G hm adm u1 (2) (i32_mk (by decide) (by decide)) (by assumption) (by first | assumption | omega) _) (cwV 1 hts gX3_foresee_X3_fail rfl rfl rfl (by decide +kernel) ⟨Nat.le_of_ble_eq_true rfl, Nat.le_of_ble_eq_true rfl⟩) (wrV (wc := MW G hm adm u1) hK hP hD hN [0, 1, 2, 3, 4, 5, 6, 7, 8, 9] (by decide) rfl rfl (ci := 3) rfl rfl) rfl rfl hl.1 rfl (lv_room (Nat.le_of_ble_eq_true rfl)) dX3_foresee_32 ⟨(Nat.zero_le _), (Nat.zero_le _)⟩) hS (fun q _ h => hFc q h) hFc (fun q31 u32 t H1 locs ht hvm hw hB hz1 hk1 hS => ?_)
      obtain ⟨u33, rfl⟩ : ∃ z, z = u32 := ⟨_, rfl⟩
      try dsimp only at hw hB
      obtain ⟨hP, hD⟩ := wrJ (ws := MW G hm adm u1) (w1 := MW G hm adm u33) ht hFc hB
      have hP : va_P G.1 vwCl (MW G hm adm u33) H1 := hP
      have hD : va_D A (MW G hm adm u33) := hD
      clear hB hk1 hFc ht hz1 hvm
      generalize H1 = H at hP hS ⊢
      obtain ⟨z35, rfl, w34⟩ := hw
      have oku33 : rOK ulo uhi u33 := w34.1
      have hk9 : kFore yv wv = 2 := (mf_if_f (fun z => z (by assumption))).trans (mf_if_t (by assumption))
      refine W.widen (k := 5) (n := 927) (Nat.le_of_ble_eq_true rfl) (Nat.le_of_ble_eq_true rfl) ?_
      exact W.iret hx hb hr (fun t ht hW => ⟨⟨_, u33, rfl, ⟨_, rfl, by exact ⟨w34.1, ⟨(w34.2.1 4 (by decide)).trans hfF.1, (w34.2.1 5 (by decide)).trans hfF.2⟩, by rw [hk9]; exact w34.2.2.1, fun z9 => by rw [hk9] at z9; omega, fun _ => relU_cg w34.2.1 hrel1⟩⟩, by rw [ht]; exact hP, hD⟩, hS.F ht⟩) hS.2.2 dX3_foresee_35
  · skip
    refine lv_aload_n hx hb dX3_foresee_15 rfl (lv_at hl 0 rfl) ?_
    refine mf_iconst hx hb dX3_foresee_16 ?_
    have hFc := va_free (wc := MW G hm adm u1) hD hS hA [0, 1, 2, 3, 4, 5, 6, 7, 8, 9] rfl
    refine va_calli (va_runV (As := [.int (iI (1))]) (rest := []) ⟨hx, hb, hml, hown, hts⟩ (c_X3_fail l G hm adm u1 (1) (i32_mk (by decide) (by decide)) (by assumption) (by first | assumption | omega) _) (cwV 1 hts gX3_foresee_X3_fail rfl rfl rfl (by decide +kernel) ⟨Nat.le_of_ble_eq_true rfl, Nat.le_of_ble_eq_true rfl⟩) (wrV (wc := MW G hm adm u1) hK hP hD hN [0, 1, 2, 3, 4, 5, 6, 7, 8, 9] (by decide) rfl rfl (ci := 3) rfl rfl) rfl rfl hl.1 rfl (lv_room (Nat.le_of_ble_eq_true rfl)) dX3_foresee_17 ⟨(Nat.zero_le _), (Nat.zero_le _)⟩) hS (fun q _ h => hFc q h) hFc (fun q36 u37 t H1 locs ht hvm hw hB hz1 hk1 hS => ?_)
    obtain ⟨u38, rfl⟩ : ∃ z, z = u37 := ⟨_, rfl⟩
    try dsimp only at hw hB
    obtain ⟨hP, hD⟩ := wrJ (ws := MW G hm adm u1) (w1 := MW G hm adm u38) ht hFc hB
    have hP : va_P G.1 vwCl (MW G hm adm u38) H1 := hP
    have hD : va_D A (MW G hm adm u38) := hD
    clear hB hk1 hFc ht hz1 hvm
    generalize H1 = H at hP hS ⊢
    obtain ⟨z40, rfl, w39⟩ := hw
    have oku38 : rOK ulo uhi u38 := w39.1
    have hk9 : kFore yv wv = 1 := mf_if_t (by assumption)
    refine W.widen (k := 5) (n := 927) (Nat.le_of_ble_eq_true rfl) (Nat.le_of_ble_eq_true rfl) ?_
    exact W.iret hx hb hr (fun t ht hW => ⟨⟨_, u38, rfl, ⟨_, rfl, by exact ⟨w39.1, ⟨(w39.2.1 4 (by decide)).trans hfF.1, (w39.2.1 5 (by decide)).trans hfF.2⟩, by rw [hk9]; exact w39.2.2.1, fun z9 => by rw [hk9] at z9; omega, fun _ => relU_cg w39.2.1 hrel1⟩⟩, by rw [ht]; exact hP, hD⟩, hS.F ht⟩) hS.2.2 dX3_foresee_20
set_option maxHeartbeats 4000000 in
set_option maxRecDepth 100000 in
theorem c_X3_loses (l : Launch) (G : mf_G) (gK : ClassId) (hm : Nat) (adm : Nat → Nat) (u : mf_V)  (kv : Int) (r : mf_V) (f : mf_V) (ch : Int → mf_V) (nv : Int) (Yv : Int) (hkv : i32 kv) (oku : rOK ulo uhi u) (ok : rOK rlo rhi r) (hI : RInv r) (hrel : relU r u) (okf : rOK flo fhi f) (hrf : relF f u) (hFI : FInv f) (hB : bdP r Yv) (hYv : 0 ≤ Yv ∧ Yv + 100 ≤ 60000) (hL : kLose f kv = 0 → LoseP f r kv ch nv) (sz : Nat) : Met l yX3_loses wsX3_loses ({ frames := 7, cells := 5, slots := 927, locals := 158 }) (va_Pc [.ref hm, .int (iI (kv))] (WrPk G gK (MW G hm adm u) sz)) (va_Qi (fun q9 (u' : mf_V) => ∃ z : Int, q9 = iI z ∧ rOK ulo uhi u' ∧ frF u u' ∧ u' 0 0 = kLose f kv ∧ (kLose f kv = 0 → relU r u' ∧ z = vLose f r kv ch nv) ∧ (¬ kLose f kv = 0 → relU r u')) (fun (u' : mf_V) t => WrQ G (va_A (MW G hm adm u) sz) (MW G hm adm u') t) (va_A (MW G hm adm u) sz)) 5 927 (va_A (MW G hm adm u) sz) := by
  refine Met.ofW (cc := cX3_loses) (maxL := 6) (ret := (some .int)) (by decide) rfl ?_
  intro p e s m args below meth c s₁ B hml hv
  obtain ⟨rfl, hsz, hP, hK, hD0, hN, hX⟩ := hv
  have hx := B.exec
  have hb := B.bytes
  have hr := B.returns
  have hts := atoms_spec (ws := wsX3_loses) B.pre
  have hown : s.vm.findClass RX3 = some m.cls := findClass_of_methodNamed B.named
  have hlocks := B.notSynchronized
  have hinX3 : ∀ w ∈ u_ws RX3 TX3 11, w ∈ wsX3_loses := fun w h => List.mem_cons_of_mem _ (List.mem_append_right _ h)
  subst hsz
  have hD := hD0.self (sz := s.heap.size)
  generalize hAe : va_A (MW G hm adm u) s.heap.size = A at hD ⊢
  have hA : ∀ q : Nat, s.heap.size ≤ q → A q := fun q h => by rw [← hAe]; exact Or.inr h
  have hS : va_S A s.heap s.heap [] := va_S.rf
  have hl := lv_entry ([.ref hm, .int (iI (kv))]) (n := 6) (Nat.le_of_ble_eq_true rfl)
  rw [lg_entry_eq]
  generalize (lg_sl ([.ref hm, .int (iI (kv))]) ++ List.replicate (6 - (lg_sl ([.ref hm, .int (iI (kv))])).length) Slot.unset).toArray = ls at hl ⊢
  have hl : lv_has ls 6 [(0, .ref hm), (1, .int (iI (kv)))] := hl
  have hkv1 := hkv.1
  have hkv2 := hkv.2
  have okLr : (0 : Int) ≤ r 7 0 ∧ r 7 0 ≤ 150 := ok 7 0
  refine lv_aload_n hx hb dX3_loses_0 rfl (lv_at hl 0 rfl) ?_
  refine mf_iconst hx hb dX3_loses_1 ?_
  refine va_put (D := G.1) (ci := 3) (v := .int (iI (0))) (ty := .int) (C := RX3) (T := TX3) (N := 11) hx hb hts hinX3 tyX3 tyX3_ok nmX3 hown hK hP hD hS 0 rfl rfl 0 (by decide) (hts (.fieldLink RX3 41 "MeanderFarmModel" "thrown" "I") (List.mem_of_getElem? (i := 1) rfl)) (fun _ h9 => h9) rfl (by decide +kernel) rfl rfl (Nat.le_of_ble_eq_true rfl) dX3_loses_2 (fun H locs hP hD hS => ?_)
  obtain ⟨u1, eu1⟩ : ∃ z9 : mf_V, z9 = mf_sF u 0 (fun _ => 0) := ⟨_, rfl⟩
  have hP : va_P G.1 vwCl (MW G hm adm u1) H := by rw [eu1]; exact hP
  have hD : va_D A (MW G hm adm u1) := by rw [eu1]; exact hD
  have oku1 : rOK ulo uhi u1 := by rw [eu1]; exact rOK_set oku 0 _ (show (-1 : Int) ≤ 0 by omega) (show 0 ≤ (9 : Int) by omega)
  have f1_u1 : ∀ y, u1 0 y = 0 := fun y => by rw [eu1, mf_sF_s]
  have f3_u1 : ∀ q, q ≠ 0 → u1 q = u q := fun q hq => by rw [eu1, mf_sF_n hq]
  have hrel1 : relU r u1 := relU_cg f3_u1 hrel
  have hz0 : u1 0 0 = 0 := f1_u1 0
  have hfF : frF u u1 := ⟨f3_u1 4 (by decide), f3_u1 5 (by decide)⟩
  have h40 : u1 4 0 = f 4 0 := by rw [f3_u1 4 (by decide)]; exact hrf.1
  have hu4 : u 4 0 = f 4 0 := hrf.1
  have b46 : (0 : Int) ≤ f 4 0 ∧ f 4 0 ≤ 6 := okf 4 0
  refine lv_aload_n hx hb dX3_loses_5 rfl (lv_at hl 0 rfl) ?_
  refine lv_iload_n hx hb dX3_loses_6 rfl (lv_at hl 1 rfl) ?_
  refine vp_callSi (va_Run.run (va_runV (As := [.int (iI (kv))]) (rest := []) ⟨hx, hb, hml, hown, hts⟩ (c_X3_isFarm l G hm adm u1 (kv) (i32_mk (by omega) (by omega)) (by assumption)) (cwV 1 hts gX3_loses_X3_isFarm rfl rfl rfl (by decide +kernel) ⟨Nat.le_of_ble_eq_true rfl, Nat.le_of_ble_eq_true rfl⟩) (rdV (wc := MW G hm adm u1) hK hP hN [0, 1, 2, 3, 4, 5, 6, 7, 8, 9] rfl (ci := 3) rfl rfl) rfl rfl hl.1 rfl (lv_room (Nat.le_of_ble_eq_true rfl)) dX3_loses_7 ⟨(Nat.zero_le _), (Nat.zero_le _)⟩)) (fun q2 hq2 => ?_)
  subst hq2
  refine mf_bp_ne (tgt := 19) hx hb dX3_loses_10 (by decide) (fun c3 => ?_) (fun c3 => ?_)
  · skip
    refine lv_aload_n hx hb dX3_loses_19 rfl (lv_at hl 0 rfl) ?_
    have hk8 : kLose f kv = 0 := mf_if_f (fun z => z (by unfold isF; omega))
    obtain ⟨hc0, hn0, hcI, hcY, hcl, hce⟩ := hL hk8
    have hfr : frU u1 u1 := frU_r _
    skip
    have hFc := va_free (wc := MW G hm adm u1) hD hS hA [0, 1, 2, 3, 4, 5, 6, 7, 8, 9] rfl
    refine va_callr (va_runV (As := []) (rest := []) ⟨hx, hb, hml, hown, hts⟩ (c_X3_kept l G gK hm adm u1 (by assumption) _) (cwV 0 hts gX3_loses_X3_kept rfl rfl rfl (by decide +kernel) ⟨Nat.le_of_ble_eq_true rfl, Nat.le_of_ble_eq_true rfl⟩) (wrVk (wc := MW G hm adm u1) hX hK hP hD hN [0, 1, 2, 3, 4, 5, 6, 7, 8, 9] (by decide) rfl rfl (ci := 3) rfl rfl) rfl rfl hl.1 rfl (lv_room (Nat.le_of_ble_eq_true rfl)) dX3_loses_20 ⟨(Nat.le_of_ble_eq_true rfl), (Nat.le_of_ble_eq_true rfl)⟩) hS (fun q _ h => hFc q h) hFc (fun u5 q4 t H1 locs ht hvm hw hB hz1 hk1 hS => ?_)
    obtain ⟨hP, hD⟩ := wrJ (ws := MW G hm adm u1) (w1 := MW G hm adm u1 ++ KW G gK q4 u5.1 u5.2) ht hFc hB
    have hP : va_P G.1 vwCl (MW G hm adm u1 ++ KW G gK q4 u5.1 u5.2) H1 := hP
    have hD : va_D A (MW G hm adm u1 ++ KW G gK q4 u5.1 u5.2) := hD
    clear hB hk1 hFc ht hz1 hvm
    generalize H1 = H at hP hS ⊢
    have w6 := hw; clear hw
    refine lv_astore_n (lv' := [(2, .ref q4), (0, .ref hm), (1, .int (iI (kv)))]) hx hb dX3_loses_23 rfl hl (by decide) rfl (fun ls hl => ?_)
    refine lv_aload_n hx hb dX3_loses_24 rfl (lv_at hl 1 rfl) ?_
    refine lv_iload_n hx hb dX3_loses_25 rfl (lv_at hl 2 rfl) ?_
    refine mf_iconst hx hb dX3_loses_26 ?_
    refine vp_callSi (va_Run.run (va_runV (As := [.int (iI (kv)), .int (iI (1))]) (rest := []) ⟨hx, hb, hml, hown, hts⟩ (c_X3_farmTold l G hm adm u1 (kv) (1) (r) (f) (i32_mk (by omega) (by omega)) (i32_mk (by decide) (by decide)) (by assumption) (by assumption) (by first | assumption | omega) (by first | assumption | omega) (by assumption) (by exact relF_cg hfF hrf) (by first | assumption | omega) (by omega) (by omega)) (cwV 2 hts gX3_loses_X3_farmTold rfl rfl rfl (by decide +kernel) ⟨Nat.le_of_ble_eq_true rfl, Nat.le_of_ble_eq_true rfl⟩) (rdV (wc := MW G hm adm u1) hK hP hN [0, 1, 2, 3, 4, 5, 6, 7, 8, 9] rfl (ci := 3) rfl rfl) rfl rfl hl.1 rfl (lv_room (Nat.le_of_ble_eq_true rfl)) dX3_loses_27 ⟨(Nat.le_of_ble_eq_true rfl), (Nat.le_of_ble_eq_true rfl)⟩)) (fun q7 hq7 => ?_)
    subst hq7
    refine mf_nm (fun y8 ey8 => ?_)
    have b9 : 0 ≤ y8 ∧ y8 ≤ 384 := by rw [ey8]; exact cof_b (show rOK flo fhi (f) by assumption) kv 1
    skip
    refine lv_istore_n (lv' := [(3, .int (iI (y8))), (2, .ref q4), (0, .ref hm), (1, .int (iI (kv)))]) hx hb dX3_loses_30 rfl hl (by decide) rfl (fun ls hl => ?_)
    refine mf_iconst hx hb dX3_loses_31 ?_
    refine lv_istore (lv' := [(4, .int (iI ((-1)))), (3, .int (iI (y8))), (2, .ref q4), (0, .ref hm), (1, .int (iI (kv)))]) hx hb dX3_loses_32 hl (by decide) rfl (fun ls hl => ?_)
    refine mf_iconst hx hb dX3_loses_34 ?_
    refine lv_istore (lv' := [(5, .int (iI (1))), (4, .int (iI ((-1)))), (3, .int (iI (y8))), (2, .ref q4), (0, .ref hm), (1, .int (iI (kv)))]) hx hb dX3_loses_35 hl (by decide) rfl (fun ls hl => ?_)
    have lp37 : ∀ (n : Nat) (tv : Int) (jv : Int) (ua : mf_V), (61 - jv).toNat < n → (1 ≤ jv ∧ jv ≤ 61) → (jv - 1 ≤ nv) → (-1 ≤ tv ∧ tv ≤ 60) → (rOK ulo uhi ua) → (relU (ch (jv - 1)) ua) → (frU u1 ua) → (bdP (ch (jv - 1)) (Yv + (jv - 1))) → (ch (jv - 1) 0 = r 0 ∧ ch (jv - 1) 2 = r 2 ∧ ch (jv - 1) 5 = r 5) → ((tv = -1 ∧ ∀ i, 0 < i → i < jv → ¬ cof f (ch i) kv 1 < cof f r kv 1) ∨ (¬ tv = -1 ∧ tv = jv - 1 ∧ jv - 1 = nv ∧ cof f (ch nv) kv 1 < cof f r kv 1)) → ∀ (H : Heap) (locs : List Loc), va_P G.1 vwCl (MW G hm adm ua ++ KW G gK q4 u5.1 u5.2) H → va_D A (MW G hm adm ua ++ KW G gK q4 u5.1 u5.2) → va_S A s.heap H locs → ∀ (ls : Array Slot), lv_has ls 6 [(0, .ref hm), (1, .int (iI (kv))), (2, .ref q4), (3, .int (iI (y8))), (4, .int (iI (tv))), (5, .int (iI (jv)))] → W p l e (headSpec wsX3_loses ({ frames := 7, cells := 5, slots := 927, locals := 158 })).room s m ([.ref hm, .int (iI (kv))] : List Value).toArray below meth c H locs 5 927 (MQ below (va_Qi (fun q9 (u' : mf_V) => ∃ z : Int, q9 = iI z ∧ rOK ulo uhi u' ∧ frF u u' ∧ u' 0 0 = kLose f kv ∧ (kLose f kv = 0 → relU r u' ∧ z = vLose f r kv ch nv) ∧ (¬ kLose f kv = 0 → relU r u')) (fun (u' : mf_V) t => WrQ G A (MW G hm adm u') t) A) ([.ref hm, .int (iI (kv))] : List Value).toArray s 5 927 A) (F0 m 37 ls []) := by
      intro n
      induction n with
      | zero => intro tv jv ua hn; exact absurd hn (Nat.not_lt_zero _)
      | succ n ih37 =>
        intro tv jv ua hn hj hjn htb okua hrel2 hfr1 hB1 h025 hst H locs hP hD hS ls hl
        refine lv_iload hx hb dX3_loses_37 (lv_at hl 5 rfl) ?_
        refine mf_bipush hx hb dX3_loses_39 rfl ?_
        refine mf_icmp_gt (tgt := 75) hx hb dX3_loses_41 (by decide) (i32_mk (by omega) (by omega)) (i32_mk (by decide) (by decide)) (fun c10 => ?_) (fun c10 => ?_)
        · skip
          refine lv_aload_n hx hb dX3_loses_75 rfl (lv_at hl 0 rfl) ?_
          refine lv_aload_n hx hb dX3_loses_76 rfl (lv_at hl 2 rfl) ?_
          have hFc := va_free (wc := MW G hm adm ua ++ KW G gK q4 u5.1 u5.2) hD hS hA [0, 1, 2, 3, 4, 5, 6, 7, 8, 9, 10, 11, 12, 13, 14] rfl
          refine va_callv (va_runV (As := [.ref q4]) (rest := []) ⟨hx, hb, hml, hown, hts⟩ (c_X3_bringBack l G gK hm adm ua q4 u5.1 u5.2 (r) (u1) (by assumption) (by exact oku1) (by exact ok) (by exact hI) (by exact hrel1) (by exact w6.1) (by exact w6.2.1) (by exact w6.2.2.1) (by exact w6.2.2.2) (by rw [← (h025).1]; exact (hrel2).1) (by rw [← (h025).2.1]; exact (hrel2).2.1) (by rw [← (h025).2.2]; exact (hrel2).2.2.1) _) (cwV 1 hts gX3_loses_X3_bringBack rfl rfl rfl (by decide +kernel) ⟨Nat.le_of_ble_eq_true rfl, Nat.le_of_ble_eq_true rfl⟩) (wrVk (wc := MW G hm adm ua ++ KW G gK q4 u5.1 u5.2) hX hK hP hD hN [0, 1, 2, 3, 4, 5, 6, 7, 8, 9, 10, 11, 12, 13, 14] (by decide) rfl rfl (ci := 3) rfl rfl) rfl rfl hl.1 rfl (lv_room (Nat.le_of_ble_eq_true rfl)) dX3_loses_77 ⟨(Nat.le_of_ble_eq_true rfl), (Nat.le_of_ble_eq_true rfl)⟩) hS (fun q _ h => hFc q h) hFc (fun u12 t H1 locs ht hvm hw hB hz1 hk1 hS => ?_)
          obtain ⟨ua13, rfl⟩ : ∃ z, z = u12 := ⟨_, rfl⟩
          try dsimp only at hw hB
          obtain ⟨hP, hD⟩ := wrJ (ws := MW G hm adm ua ++ KW G gK q4 u5.1 u5.2) (w1 := MW G hm adm ua13 ++ KW G gK q4 u5.1 u5.2) ht hFc hB
          have hP : va_P G.1 vwCl (MW G hm adm ua13 ++ KW G gK q4 u5.1 u5.2) H1 := hP
          have hD : va_D A (MW G hm adm ua13 ++ KW G gK q4 u5.1 u5.2) := hD
          clear hB hk1 hFc ht hz1 hvm
          generalize H1 = H at hP hS ⊢
          have w14 := hw; clear hw
          have okua13 : rOK ulo uhi ua13 := w14.1
          refine lv_iload hx hb dX3_loses_80 (lv_at hl 4 rfl) ?_
          have hP := hP.sub (ws' := MW G hm adm ua13) [0, 1, 2, 3, 4, 5, 6, 7, 8, 9] rfl
          have hD := hD.sub (ws' := MW G hm adm ua13) [0, 1, 2, 3, 4, 5, 6, 7, 8, 9] (by decide) rfl
          exact W.iret hx hb hr (fun t ht hW => ⟨⟨_, ua13, rfl, ⟨_, rfl, by exact ⟨okua13, ⟨w14.2.2.2.1.trans (hfr1.2.1.trans hfF.1), w14.2.2.2.2.trans (hfr1.2.2.trans hfF.2)⟩, by rw [hk8, w14.2.2.1, hfr1.1]; exact hz0, fun _ => ⟨w14.2.1, by unfold vLose; rcases hst with z | z; (rw [mf_if_f (by rcases hce with y | y; (rcases (show nv < jv ∨ jv ≤ nv by omega) with x | x; (exact z.2 nv y.1 x); (omega)); (rw [y.1]; exact y.2))]; exact z.1); (rw [mf_if_t z.2.2.2]; omega)⟩, fun z9 => absurd hk8 z9⟩⟩, by rw [ht]; exact hP, hD⟩, hS.F ht⟩) hS.2.2 dX3_loses_82
        · skip
          refine lv_iload hx hb dX3_loses_44 (lv_at hl 4 rfl) ?_
          refine mf_iconst hx hb dX3_loses_46 ?_
          refine mf_icmp_ne (tgt := 75) hx hb dX3_loses_47 (by decide) (i32_mk (by omega) (by omega)) (i32_mk (by decide) (by decide)) (fun c15 => ?_) (fun c15 => ?_)
          · skip
            refine lv_aload_n hx hb dX3_loses_75 rfl (lv_at hl 0 rfl) ?_
            refine lv_aload_n hx hb dX3_loses_76 rfl (lv_at hl 2 rfl) ?_
            have hFc := va_free (wc := MW G hm adm ua ++ KW G gK q4 u5.1 u5.2) hD hS hA [0, 1, 2, 3, 4, 5, 6, 7, 8, 9, 10, 11, 12, 13, 14] rfl
            refine va_callv (va_runV (As := [.ref q4]) (rest := []) ⟨hx, hb, hml, hown, hts⟩ (c_X3_bringBack l G gK hm adm ua q4 u5.1 u5.2 (r) (u1) (by assumption) (by exact oku1) (by exact ok) (by exact hI) (by exact hrel1) (by exact w6.1) (by exact w6.2.1) (by exact w6.2.2.1) (by exact w6.2.2.2) (by rw [← (h025).1]; exact (hrel2).1) (by rw [← (h025).2.1]; exact (hrel2).2.1) (by rw [← (h025).2.2]; exact (hrel2).2.2.1) _) (cwV 1 hts gX3_loses_X3_bringBack rfl rfl rfl (by decide +kernel) ⟨Nat.le_of_ble_eq_true rfl, Nat.le_of_ble_eq_true rfl⟩) (wrVk (wc := MW G hm adm ua ++ KW G gK q4 u5.1 u5.2) hX hK hP hD hN [0, 1, 2, 3, 4, 5, 6, 7, 8, 9, 10, 11, 12, 13, 14] (by decide) rfl rfl (ci := 3) rfl rfl) rfl rfl hl.1 rfl (lv_room (Nat.le_of_ble_eq_true rfl)) dX3_loses_77 ⟨(Nat.le_of_ble_eq_true rfl), (Nat.le_of_ble_eq_true rfl)⟩) hS (fun q _ h => hFc q h) hFc (fun u17 t H1 locs ht hvm hw hB hz1 hk1 hS => ?_)
            obtain ⟨ua18, rfl⟩ : ∃ z, z = u17 := ⟨_, rfl⟩
            try dsimp only at hw hB
            obtain ⟨hP, hD⟩ := wrJ (ws := MW G hm adm ua ++ KW G gK q4 u5.1 u5.2) (w1 := MW G hm adm ua18 ++ KW G gK q4 u5.1 u5.2) ht hFc hB
            have hP : va_P G.1 vwCl (MW G hm adm ua18 ++ KW G gK q4 u5.1 u5.2) H1 := hP
            have hD : va_D A (MW G hm adm ua18 ++ KW G gK q4 u5.1 u5.2) := hD
            clear hB hk1 hFc ht hz1 hvm
            generalize H1 = H at hP hS ⊢
            have w19 := hw; clear hw
            have okua18 : rOK ulo uhi ua18 := w19.1
            refine lv_iload hx hb dX3_loses_80 (lv_at hl 4 rfl) ?_
            have hP := hP.sub (ws' := MW G hm adm ua18) [0, 1, 2, 3, 4, 5, 6, 7, 8, 9] rfl
            have hD := hD.sub (ws' := MW G hm adm ua18) [0, 1, 2, 3, 4, 5, 6, 7, 8, 9] (by decide) rfl
            exact W.iret hx hb hr (fun t ht hW => ⟨⟨_, ua18, rfl, ⟨_, rfl, by exact ⟨okua18, ⟨w19.2.2.2.1.trans (hfr1.2.1.trans hfF.1), w19.2.2.2.2.trans (hfr1.2.2.trans hfF.2)⟩, by rw [hk8, w19.2.2.1, hfr1.1]; exact hz0, fun _ => ⟨w19.2.1, by unfold vLose; rcases hst with z | z; (rw [mf_if_f (by rcases hce with y | y; (rcases (show nv < jv ∨ jv ≤ nv by omega) with x | x; (exact z.2 nv y.1 x); (omega)); (rw [y.1]; exact y.2))]; exact z.1); (rw [mf_if_t z.2.2.2]; omega)⟩, fun z9 => absurd hk8 z9⟩⟩, by rw [ht]; exact hP, hD⟩, hS.F ht⟩) hS.2.2 dX3_loses_82
          · skip
            have hlt : jv - 1 < nv := by rcases hst with z | z <;> (rcases hce with y | y) <;> (by_cases x : jv - 1 = nv) <;> first | omega | (exact absurd y.2 (by rw [← x]; exact z.2 _ (by omega) (by omega))) | (exact absurd y.2 (by have z3 := z.2 nv (by omega) (by omega); exact z3))
            obtain ⟨b9, hy9⟩ := hcY (jv - 1) (by omega) hlt
            rw [show jv - 1 + 1 = jv by omega] at hy9
            have hbd9 := YearR_bd (hcI (jv - 1) (by omega) (by omega)).1 hy9 hB1
            have hB19 := hB1.2.1
            have hB18 := hB1.1
            have hcIj := hcI jv (by omega) (by omega)
            refine lv_aload_n hx hb dX3_loses_50 rfl (lv_at hl 0 rfl) ?_
            have hFc := va_free (wc := MW G hm adm ua) hD hS hA [0, 1, 2, 3, 4, 5, 6, 7, 8, 9] rfl
            refine va_calli (va_runV (As := []) (rest := []) ⟨hx, hb, hml, hown, hts⟩ (c_X3_yearOn l G hm adm ua (ch (jv - 1)) (ch jv) (b9) (by assumption) (by exact (hcI (jv - 1) (by omega) (by omega)).1) (by exact (hcI (jv - 1) (by omega) (by omega)).2) (by exact hrel2) (by exact hy9) (by intro c; have := hB1.2.2 c; omega) (by omega) _) (cwV 0 hts gX3_loses_X3_yearOn rfl rfl rfl (by decide +kernel) ⟨Nat.le_of_ble_eq_true rfl, Nat.le_of_ble_eq_true rfl⟩) (wrV (wc := MW G hm adm ua) hK hP hD hN [0, 1, 2, 3, 4, 5, 6, 7, 8, 9] (by decide) rfl rfl (ci := 3) rfl rfl) rfl rfl hl.1 rfl (lv_room (Nat.le_of_ble_eq_true rfl)) dX3_loses_51 ⟨(Nat.le_of_ble_eq_true rfl), (Nat.le_of_ble_eq_true rfl)⟩) hS (fun q _ h => hFc q h) hFc (fun q20 u21 t H1 locs ht hvm hw hB hz1 hk1 hS => ?_)
            obtain ⟨ua22, rfl⟩ : ∃ z, z = u21 := ⟨_, rfl⟩
            try dsimp only at hw hB
            obtain ⟨hP, hD⟩ := wrJ2 (ws := MW G hm adm ua ++ KW G gK q4 u5.1 u5.2) (wc := MW G hm adm ua) (wr := KW G gK q4 u5.1 u5.2) (w1 := MW G hm adm ua22) hP hD [0, 1, 2, 3, 4, 5, 6, 7, 8, 9] [10, 11, 12, 13, 14] rfl rfl (by decide) (by decide) hk1 ht hFc hB
            have hP : va_P G.1 vwCl (MW G hm adm ua22 ++ KW G gK q4 u5.1 u5.2) H1 := hP.sub [5, 6, 7, 8, 9, 10, 11, 12, 13, 14, 0, 1, 2, 3, 4] rfl
            have hD : va_D A (MW G hm adm ua22 ++ KW G gK q4 u5.1 u5.2) := hD.sub [5, 6, 7, 8, 9, 10, 11, 12, 13, 14, 0, 1, 2, 3, 4] (by decide) rfl
            have hP : va_P G.1 vwCl (MW G hm adm ua22 ++ KW G gK q4 u5.1 u5.2) H1 := hP
            have hD : va_D A (MW G hm adm ua22 ++ KW G gK q4 u5.1 u5.2) := hD
            clear hB hk1 hFc ht hz1 hvm
            generalize H1 = H at hP hS ⊢
            obtain ⟨z24, rfl, w23⟩ := hw
            have okua22 : rOK ulo uhi ua22 := w23.1
            skip
            refine lv_pop hx hb dX3_loses_54 rfl ?_
            refine lv_aload_n hx hb dX3_loses_55 rfl (lv_at hl 0 rfl) ?_
            refine lv_iload_n hx hb dX3_loses_56 rfl (lv_at hl 1 rfl) ?_
            refine mf_iconst hx hb dX3_loses_57 ?_
            refine vp_callSi (va_Run.run (va_runV (As := [.int (iI (kv)), .int (iI (1))]) (rest := []) ⟨hx, hb, hml, hown, hts⟩ (c_X3_farmTold l G hm adm ua22 (kv) (1) (ch jv) (f) (i32_mk (by omega) (by omega)) (i32_mk (by decide) (by decide)) (by assumption) (by exact hcIj.1) (by exact hcIj.2) (by exact w23.2.1) (by assumption) (by exact relF_cg ⟨w23.2.2.1.2.1.trans (hfr1.2.1.trans hfF.1), w23.2.2.1.2.2.trans (hfr1.2.2.trans hfF.2)⟩ hrf) (by first | assumption | omega) (by omega) (by omega)) (cwV 2 hts gX3_loses_X3_farmTold rfl rfl rfl (by decide +kernel) ⟨Nat.le_of_ble_eq_true rfl, Nat.le_of_ble_eq_true rfl⟩) (rdV (wc := MW G hm adm ua22) hK hP hN [0, 1, 2, 3, 4, 5, 6, 7, 8, 9] rfl (ci := 3) rfl rfl) rfl rfl hl.1 rfl (lv_room (Nat.le_of_ble_eq_true rfl)) dX3_loses_58 ⟨(Nat.le_of_ble_eq_true rfl), (Nat.le_of_ble_eq_true rfl)⟩)) (fun q25 hq25 => ?_)
            subst hq25
            refine mf_nm (fun y26 ey26 => ?_)
            have b27 : 0 ≤ y26 ∧ y26 ≤ 384 := by rw [ey26]; exact cof_b (show rOK flo fhi (f) by assumption) kv 1
            refine lv_iload_n hx hb dX3_loses_61 rfl (lv_at hl 3 rfl) ?_
            refine mf_icmp_ge (tgt := 69) hx hb dX3_loses_62 (by decide) (i32_mk (by omega) (by omega)) (i32_mk (by omega) (by omega)) (fun c28 => ?_) (fun c28 => ?_)
            · skip
              refine lv_iinc (v := iI (jv + 1)) (lv' := [(5, .int (iI (jv + 1))), (0, .ref hm), (1, .int (iI (kv))), (2, .ref q4), (3, .int (iI (y8))), (4, .int (iI (tv)))]) hx hb dX3_loses_69 hl (k := 5) rfl (iI_add _ _).symm (by decide) rfl (fun ls hl => ?_)
              refine lv_goto (tgt := 37) hx hb dX3_loses_72 (by decide) ?_
              exact ih37 tv (jv + 1) ua22 (by omega) (by first | assumption | omega) (by first | assumption | omega) (by first | assumption | omega) (by first | assumption | omega) (by rw [show jv + 1 - 1 = jv by omega]; exact w23.2.1) (by exact frU_t hfr1 w23.2.2.1) (by rw [show Yv + (jv + 1 - 1) = Yv + (jv - 1) + 1 by omega, show jv + 1 - 1 = jv by omega]; exact hbd9.1) (by rw [show jv + 1 - 1 = jv by omega]; have g9 := YearR_fr hy9; exact ⟨g9.1.trans h025.1, g9.2.1.trans h025.2.1, g9.2.2.trans h025.2.2⟩) (by have el9 := ey8; have el8 := ey26; exact Or.inl ⟨by omega, fun i h0 h1 => by (rcases (show i < jv ∨ i = jv by omega) with x | x; (rcases hst with z | z; (exact z.2 i h0 x); (omega)); (rw [x]; omega))⟩) _ _ hP hD hS ls (lv_sub hl [1, 2, 3, 4, 5, 0] rfl)
            · skip
              refine lv_iload hx hb dX3_loses_65 (lv_at hl 5 rfl) ?_
              refine lv_istore (lv' := [(4, .int (iI (jv))), (0, .ref hm), (1, .int (iI (kv))), (2, .ref q4), (3, .int (iI (y8))), (5, .int (iI (jv)))]) hx hb dX3_loses_67 hl (by decide) rfl (fun ls hl => ?_)
              refine lv_iinc (v := iI (jv + 1)) (lv' := [(5, .int (iI (jv + 1))), (4, .int (iI (jv))), (0, .ref hm), (1, .int (iI (kv))), (2, .ref q4), (3, .int (iI (y8)))]) hx hb dX3_loses_69 hl (k := 5) rfl (iI_add _ _).symm (by decide) rfl (fun ls hl => ?_)
              refine lv_goto (tgt := 37) hx hb dX3_loses_72 (by decide) ?_
              exact ih37 jv (jv + 1) ua22 (by omega) (by first | assumption | omega) (by first | assumption | omega) (by first | assumption | omega) (by first | assumption | omega) (by rw [show jv + 1 - 1 = jv by omega]; exact w23.2.1) (by exact frU_t hfr1 w23.2.2.1) (by rw [show Yv + (jv + 1 - 1) = Yv + (jv - 1) + 1 by omega, show jv + 1 - 1 = jv by omega]; exact hbd9.1) (by rw [show jv + 1 - 1 = jv by omega]; have g9 := YearR_fr hy9; exact ⟨g9.1.trans h025.1, g9.2.1.trans h025.2.1, g9.2.2.trans h025.2.2⟩) (by have el9 := ey8; have el8 := ey26; exact Or.inr ⟨by omega, by omega, by (rcases (show jv < nv ∨ jv = nv by omega) with x | x; (exact absurd (show cof f (ch jv) kv 1 < cof f r kv 1 by omega) (hcl jv (by omega) x)); (omega)), by (rcases (show jv < nv ∨ jv = nv by omega) with x | x; (exact absurd (show cof f (ch jv) kv 1 < cof f r kv 1 by omega) (hcl jv (by omega) x)); (rw [← x]; omega))⟩) _ _ hP hD hS ls (lv_sub hl [2, 3, 4, 5, 1, 0] rfl)
    exact lp37 (_ + 1) (-1) 1 u1 (Nat.lt_succ_self _) (by first | assumption | omega) (by first | assumption | omega) (by first | assumption | omega) (by first | assumption | omega) (by rw [Int.sub_self, hc0]; exact hrel1) (by exact frU_r _) (by rw [Int.sub_self, hc0, Int.add_zero]; exact hB) (by rw [Int.sub_self, hc0]; exact ⟨rfl, rfl, rfl⟩) (by exact Or.inl ⟨rfl, fun i h0 h1 => by omega⟩) _ _ hP hD hS ls (lv_sub hl [4, 5, 3, 2, 1, 0] rfl)
  · skip
    refine lv_aload_n hx hb dX3_loses_13 rfl (lv_at hl 0 rfl) ?_
    refine mf_iconst hx hb dX3_loses_14 ?_
    have hFc := va_free (wc := MW G hm adm u1) hD hS hA [0, 1, 2, 3, 4, 5, 6, 7, 8, 9] rfl
    refine va_calli (va_runV (As := [.int (iI (1))]) (rest := []) ⟨hx, hb, hml, hown, hts⟩ (c_X3_fail l G hm adm u1 (1) (i32_mk (by decide) (by decide)) (by assumption) (by first | assumption | omega) _) (cwV 1 hts gX3_loses_X3_fail rfl rfl rfl (by decide +kernel) ⟨Nat.le_of_ble_eq_true rfl, Nat.le_of_ble_eq_true rfl⟩) (wrV (wc := MW G hm adm u1) hK hP hD hN [0, 1, 2, 3, 4, 5, 6, 7, 8, 9] (by decide) rfl rfl (ci := 3) rfl rfl) rfl rfl hl.1 rfl (lv_room (Nat.le_of_ble_eq_true rfl)) dX3_loses_15 ⟨(Nat.zero_le _), (Nat.zero_le _)⟩) hS (fun q _ h => hFc q h) hFc (fun q29 u30 t H1 locs ht hvm hw hB hz1 hk1 hS => ?_)
    obtain ⟨u31, rfl⟩ : ∃ z, z = u30 := ⟨_, rfl⟩
    try dsimp only at hw hB
    obtain ⟨hP, hD⟩ := wrJ (ws := MW G hm adm u1) (w1 := MW G hm adm u31) ht hFc hB
    have hP : va_P G.1 vwCl (MW G hm adm u31) H1 := hP
    have hD : va_D A (MW G hm adm u31) := hD
    clear hB hk1 hFc ht hz1 hvm
    generalize H1 = H at hP hS ⊢
    obtain ⟨z33, rfl, w32⟩ := hw
    have oku31 : rOK ulo uhi u31 := w32.1
    have hk9 : kLose f kv = 1 := mf_if_t (fun z => by unfold isF at z; omega)
    refine W.widen (k := 5) (n := 927) (Nat.le_of_ble_eq_true rfl) (Nat.le_of_ble_eq_true rfl) ?_
    exact W.iret hx hb hr (fun t ht hW => ⟨⟨_, u31, rfl, ⟨_, rfl, by exact ⟨w32.1, ⟨(w32.2.1 4 (by decide)).trans hfF.1, (w32.2.1 5 (by decide)).trans hfF.2⟩, by rw [hk9]; exact w32.2.2.1, fun z9 => by rw [hk9] at z9; omega, fun _ => relU_cg w32.2.1 hrel1⟩⟩, by rw [ht]; exact hP, hD⟩, hS.F ht⟩) hS.2.2 dX3_loses_18
set_option maxHeartbeats 4000000 in
set_option maxRecDepth 100000 in
theorem c_X3_advise (l : Launch) (G : mf_G) (gK : ClassId) (hm : Nat) (adm : Nat → Nat) (u : mf_V)  (kv : Int) (yv : Int) (r : mf_V) (f : mf_V) (q0 : mf_V) (b0 : Int) (Qf : Int → mf_V) (bf : Int → Int) (Yv : Int) (hkv : i32 kv) (hyv : i32 yv) (oku : rOK ulo uhi u) (ok : rOK rlo rhi r) (hI : RInv r) (hrel : relU r u) (okf : rOK flo fhi f) (hrf : relF f u) (hFI : FInv f) (hB : bdP r Yv) (hYv : 0 ≤ Yv ∧ Yv + 100 ≤ 60000) (hAd : kAdv f kv yv = 0 → (YearsR yv r q0 b0 ∧ rOK rlo rhi q0 ∧ RInv q0) ∧ ∀ c, 0 ≤ c → c < 384 → ¬ r 1 c = 0 → r 2 c = 0 → YearsR yv (stR r c) (Qf c) (bf c) ∧ rOK rlo rhi (Qf c) ∧ RInv (Qf c)) (sz : Nat) : Met l yX3_advise wsX3_advise ({ frames := 8, cells := 5, slots := 927, locals := 181 }) (va_Pc [.ref hm, .int (iI (kv)), .int (iI (yv))] (WrPk G gK (MW G hm adm u) sz)) (va_Qi (fun q9 (u' : mf_V) => ∃ z : Int, q9 = iI z ∧ rOK ulo uhi u' ∧ frF u u' ∧ u' 0 0 = kAdv f kv yv ∧ (kAdv f kv yv = 0 → relU r u' ∧ z = (advG f r kv q0 Qf 384).2) ∧ (¬ kAdv f kv yv = 0 → relU r u')) (fun (u' : mf_V) t => WrQ G (va_A (MW G hm adm u) sz) (MW G hm adm u') t) (va_A (MW G hm adm u) sz)) 5 927 (va_A (MW G hm adm u) sz) := by
  refine Met.ofW (cc := cX3_advise) (maxL := 8) (ret := (some .int)) (by decide) rfl ?_
  intro p e s m args below meth c s₁ B hml hv
  obtain ⟨rfl, hsz, hP, hK, hD0, hN, hX⟩ := hv
  have hx := B.exec
  have hb := B.bytes
  have hr := B.returns
  have hts := atoms_spec (ws := wsX3_advise) B.pre
  have hown : s.vm.findClass RX3 = some m.cls := findClass_of_methodNamed B.named
  have hlocks := B.notSynchronized
  have hinX3 : ∀ w ∈ u_ws RX3 TX3 11, w ∈ wsX3_advise := fun w h => List.mem_cons_of_mem _ (List.mem_append_right _ h)
  subst hsz
  have hD := hD0.self (sz := s.heap.size)
  generalize hAe : va_A (MW G hm adm u) s.heap.size = A at hD ⊢
  have hA : ∀ q : Nat, s.heap.size ≤ q → A q := fun q h => by rw [← hAe]; exact Or.inr h
  have hS : va_S A s.heap s.heap [] := va_S.rf
  have hl := lv_entry ([.ref hm, .int (iI (kv)), .int (iI (yv))]) (n := 8) (Nat.le_of_ble_eq_true rfl)
  rw [lg_entry_eq]
  generalize (lg_sl ([.ref hm, .int (iI (kv)), .int (iI (yv))]) ++ List.replicate (8 - (lg_sl ([.ref hm, .int (iI (kv)), .int (iI (yv))])).length) Slot.unset).toArray = ls at hl ⊢
  have hl : lv_has ls 8 [(0, .ref hm), (1, .int (iI (kv))), (2, .int (iI (yv)))] := hl
  have hkv1 := hkv.1
  have hkv2 := hkv.2
  have hyv1 := hyv.1
  have hyv2 := hyv.2
  have okLr : (0 : Int) ≤ r 7 0 ∧ r 7 0 ≤ 150 := ok 7 0
  refine lv_aload_n hx hb dX3_advise_0 rfl (lv_at hl 0 rfl) ?_
  refine mf_iconst hx hb dX3_advise_1 ?_
  refine va_put (D := G.1) (ci := 3) (v := .int (iI (0))) (ty := .int) (C := RX3) (T := TX3) (N := 11) hx hb hts hinX3 tyX3 tyX3_ok nmX3 hown hK hP hD hS 0 rfl rfl 0 (by decide) (hts (.fieldLink RX3 41 "MeanderFarmModel" "thrown" "I") (List.mem_of_getElem? (i := 1) rfl)) (fun _ h9 => h9) rfl (by decide +kernel) rfl rfl (Nat.le_of_ble_eq_true rfl) dX3_advise_2 (fun H locs hP hD hS => ?_)
  obtain ⟨u1, eu1⟩ : ∃ z9 : mf_V, z9 = mf_sF u 0 (fun _ => 0) := ⟨_, rfl⟩
  have hP : va_P G.1 vwCl (MW G hm adm u1) H := by rw [eu1]; exact hP
  have hD : va_D A (MW G hm adm u1) := by rw [eu1]; exact hD
  have oku1 : rOK ulo uhi u1 := by rw [eu1]; exact rOK_set oku 0 _ (show (-1 : Int) ≤ 0 by omega) (show 0 ≤ (9 : Int) by omega)
  have f1_u1 : ∀ y, u1 0 y = 0 := fun y => by rw [eu1, mf_sF_s]
  have f3_u1 : ∀ q, q ≠ 0 → u1 q = u q := fun q hq => by rw [eu1, mf_sF_n hq]
  have hrel1 : relU r u1 := relU_cg f3_u1 hrel
  have hz0 : u1 0 0 = 0 := f1_u1 0
  have hfF : frF u u1 := ⟨f3_u1 4 (by decide), f3_u1 5 (by decide)⟩
  have h40 : u1 4 0 = f 4 0 := by rw [f3_u1 4 (by decide)]; exact hrf.1
  have hu4 : u 4 0 = f 4 0 := hrf.1
  have b46 : (0 : Int) ≤ f 4 0 ∧ f 4 0 ≤ 6 := okf 4 0
  refine lv_aload_n hx hb dX3_advise_5 rfl (lv_at hl 0 rfl) ?_
  refine lv_iload_n hx hb dX3_advise_6 rfl (lv_at hl 1 rfl) ?_
  refine vp_callSi (va_Run.run (va_runV (As := [.int (iI (kv))]) (rest := []) ⟨hx, hb, hml, hown, hts⟩ (c_X3_isFarm l G hm adm u1 (kv) (i32_mk (by omega) (by omega)) (by assumption)) (cwV 1 hts gX3_advise_X3_isFarm rfl rfl rfl (by decide +kernel) ⟨Nat.le_of_ble_eq_true rfl, Nat.le_of_ble_eq_true rfl⟩) (rdV (wc := MW G hm adm u1) hK hP hN [0, 1, 2, 3, 4, 5, 6, 7, 8, 9] rfl (ci := 3) rfl rfl) rfl rfl hl.1 rfl (lv_room (Nat.le_of_ble_eq_true rfl)) dX3_advise_7 ⟨(Nat.zero_le _), (Nat.zero_le _)⟩)) (fun q2 hq2 => ?_)
  subst hq2
  refine mf_bp_ne (tgt := 19) hx hb dX3_advise_10 (by decide) (fun c3 => ?_) (fun c3 => ?_)
  · skip
    refine lv_iload_n hx hb dX3_advise_19 rfl (lv_at hl 2 rfl) ?_
    refine mf_iconst hx hb dX3_advise_20 ?_
    refine mf_bipush hx hb dX3_advise_21 rfl ?_
    refine vp_callSi (va_Run.run (va_runS (As := [.int (iI (yv)), .int (iI (1)), .int (iI (30))]) (rest := []) ⟨hx, hb, hml, hown, hts⟩ (c_X3_isIn l (yv) (1) (30) (i32_mk (by omega) (by omega)) (i32_mk (by decide) (by decide)) (i32_mk (by decide) (by decide))) (va_cwS 3 hts gX3_advise_X3_isIn rfl rfl rfl (by decide +kernel) ⟨Nat.le_of_ble_eq_true rfl, Nat.le_of_ble_eq_true rfl⟩) pureS rfl rfl hl.1 rfl (lv_room (Nat.le_of_ble_eq_true rfl)) dX3_advise_23 ⟨(Nat.zero_le _), (Nat.zero_le _)⟩)) (fun q4 hq4 => ?_)
    subst hq4
    refine mf_bp_ne (tgt := 35) hx hb dX3_advise_26 (by decide) (fun c5 => ?_) (fun c5 => ?_)
    · skip
      refine lv_aload_n hx hb dX3_advise_35 rfl (lv_at hl 0 rfl) ?_
      have hk8 : kAdv f kv yv = 0 := (mf_if_f (fun z => z (by unfold isF; omega))).trans (mf_if_f (fun z => z (by assumption)))
      obtain ⟨⟨hY0, okq0, hIq0⟩, hA2⟩ := hAd hk8
      skip
      have hFc := va_free (wc := MW G hm adm u1) hD hS hA [0, 1, 2, 3, 4, 5, 6, 7, 8, 9] rfl
      refine va_callr (va_runV (As := []) (rest := []) ⟨hx, hb, hml, hown, hts⟩ (c_X3_kept l G gK hm adm u1 (by assumption) _) (cwV 0 hts gX3_advise_X3_kept rfl rfl rfl (by decide +kernel) ⟨Nat.le_of_ble_eq_true rfl, Nat.le_of_ble_eq_true rfl⟩) (wrVk (wc := MW G hm adm u1) hX hK hP hD hN [0, 1, 2, 3, 4, 5, 6, 7, 8, 9] (by decide) rfl rfl (ci := 3) rfl rfl) rfl rfl hl.1 rfl (lv_room (Nat.le_of_ble_eq_true rfl)) dX3_advise_36 ⟨(Nat.le_of_ble_eq_true rfl), (Nat.le_of_ble_eq_true rfl)⟩) hS (fun q _ h => hFc q h) hFc (fun u7 q6 t H1 locs ht hvm hw hB hz1 hk1 hS => ?_)
      obtain ⟨hP, hD⟩ := wrJ (ws := MW G hm adm u1) (w1 := MW G hm adm u1 ++ KW G gK q6 u7.1 u7.2) ht hFc hB
      have hP : va_P G.1 vwCl (MW G hm adm u1 ++ KW G gK q6 u7.1 u7.2) H1 := hP
      have hD : va_D A (MW G hm adm u1 ++ KW G gK q6 u7.1 u7.2) := hD
      clear hB hk1 hFc ht hz1 hvm
      generalize H1 = H at hP hS ⊢
      have w8 := hw; clear hw
      refine lv_astore_n (lv' := [(3, .ref q6), (0, .ref hm), (1, .int (iI (kv))), (2, .int (iI (yv)))]) hx hb dX3_advise_39 rfl hl (by decide) rfl (fun ls hl => ?_)
      refine lv_aload_n hx hb dX3_advise_40 rfl (lv_at hl 1 rfl) ?_
      refine lv_iload_n hx hb dX3_advise_41 rfl (lv_at hl 3 rfl) ?_
      have hFc := va_free (wc := MW G hm adm u1) hD hS hA [0, 1, 2, 3, 4, 5, 6, 7, 8, 9] rfl
      refine va_calli (va_runV (As := [.int (iI (yv))]) (rest := []) ⟨hx, hb, hml, hown, hts⟩ (c_X3_yearsOn l G hm adm u1 (yv) (r) (q0) (b0) (Yv) (i32_mk (by omega) (by omega)) (by assumption) (by assumption) (by first | assumption | omega) (by first | assumption | omega) (by exact hY0) (by omega) (by first | assumption | omega) (by omega) _) (cwV 1 hts gX3_advise_X3_yearsOn rfl rfl rfl (by decide +kernel) ⟨Nat.le_of_ble_eq_true rfl, Nat.le_of_ble_eq_true rfl⟩) (wrV (wc := MW G hm adm u1) hK hP hD hN [0, 1, 2, 3, 4, 5, 6, 7, 8, 9] (by decide) rfl rfl (ci := 3) rfl rfl) rfl rfl hl.1 rfl (lv_room (Nat.le_of_ble_eq_true rfl)) dX3_advise_42 ⟨(Nat.le_of_ble_eq_true rfl), (Nat.le_of_ble_eq_true rfl)⟩) hS (fun q _ h => hFc q h) hFc (fun q9 u10 t H1 locs ht hvm hw hB hz1 hk1 hS => ?_)
      obtain ⟨u11, rfl⟩ : ∃ z, z = u10 := ⟨_, rfl⟩
      try dsimp only at hw hB
      obtain ⟨hP, hD⟩ := wrJ2 (ws := MW G hm adm u1 ++ KW G gK q6 u7.1 u7.2) (wc := MW G hm adm u1) (wr := KW G gK q6 u7.1 u7.2) (w1 := MW G hm adm u11) hP hD [0, 1, 2, 3, 4, 5, 6, 7, 8, 9] [10, 11, 12, 13, 14] rfl rfl (by decide) (by decide) hk1 ht hFc hB
      have hP : va_P G.1 vwCl (MW G hm adm u11 ++ KW G gK q6 u7.1 u7.2) H1 := hP.sub [5, 6, 7, 8, 9, 10, 11, 12, 13, 14, 0, 1, 2, 3, 4] rfl
      have hD : va_D A (MW G hm adm u11 ++ KW G gK q6 u7.1 u7.2) := hD.sub [5, 6, 7, 8, 9, 10, 11, 12, 13, 14, 0, 1, 2, 3, 4] (by decide) rfl
      have hP : va_P G.1 vwCl (MW G hm adm u11 ++ KW G gK q6 u7.1 u7.2) H1 := hP
      have hD : va_D A (MW G hm adm u11 ++ KW G gK q6 u7.1 u7.2) := hD
      clear hB hk1 hFc ht hz1 hvm
      generalize H1 = H at hP hS ⊢
      obtain ⟨z13, rfl, w12⟩ := hw
      have oku11 : rOK ulo uhi u11 := w12.1
      skip
      refine lv_pop hx hb dX3_advise_45 rfl ?_
      refine lv_aload_n hx hb dX3_advise_46 rfl (lv_at hl 1 rfl) ?_
      refine lv_iload_n hx hb dX3_advise_47 rfl (lv_at hl 2 rfl) ?_
      refine mf_iconst hx hb dX3_advise_48 ?_
      refine vp_callSi (va_Run.run (va_runV (As := [.int (iI (kv)), .int (iI (1))]) (rest := []) ⟨hx, hb, hml, hown, hts⟩ (c_X3_farmTold l G hm adm u11 (kv) (1) (q0) (f) (i32_mk (by omega) (by omega)) (i32_mk (by decide) (by decide)) (by assumption) (by exact okq0) (by exact hIq0) (by exact w12.2.1) (by assumption) (by exact relF_cg ⟨w12.2.2.1.2.1.trans hfF.1, w12.2.2.1.2.2.trans hfF.2⟩ hrf) (by first | assumption | omega) (by omega) (by omega)) (cwV 2 hts gX3_advise_X3_farmTold rfl rfl rfl (by decide +kernel) ⟨Nat.le_of_ble_eq_true rfl, Nat.le_of_ble_eq_true rfl⟩) (rdV (wc := MW G hm adm u11) hK hP hN [0, 1, 2, 3, 4, 5, 6, 7, 8, 9] rfl (ci := 3) rfl rfl) rfl rfl hl.1 rfl (lv_room (Nat.le_of_ble_eq_true rfl)) dX3_advise_49 ⟨(Nat.le_of_ble_eq_true rfl), (Nat.le_of_ble_eq_true rfl)⟩)) (fun q14 hq14 => ?_)
      subst hq14
      refine mf_nm (fun y15 ey15 => ?_)
      have b16 : 0 ≤ y15 ∧ y15 ≤ 384 := by rw [ey15]; exact cof_b (show rOK flo fhi (f) by assumption) kv 1
      skip
      refine lv_istore (lv' := [(4, .int (iI (y15))), (3, .ref q6), (0, .ref hm), (1, .int (iI (kv))), (2, .int (iI (yv)))]) hx hb dX3_advise_52 hl (by decide) rfl (fun ls hl => ?_)
      refine lv_aload_n hx hb dX3_advise_54 rfl (lv_at hl 2 rfl) ?_
      refine lv_aload_n hx hb dX3_advise_55 rfl (lv_at hl 1 rfl) ?_
      have hFc := va_free (wc := MW G hm adm u11 ++ KW G gK q6 u7.1 u7.2) hD hS hA [0, 1, 2, 3, 4, 5, 6, 7, 8, 9, 10, 11, 12, 13, 14] rfl
      refine va_callv (va_runV (As := [.ref q6]) (rest := []) ⟨hx, hb, hml, hown, hts⟩ (c_X3_bringBack l G gK hm adm u11 q6 u7.1 u7.2 (r) (u1) (by assumption) (by exact oku1) (by exact ok) (by exact hI) (by exact hrel1) (by exact w8.1) (by exact w8.2.1) (by exact w8.2.2.1) (by exact w8.2.2.2) (by rw [← (YearsN_fr _ hY0).1]; exact (w12.2.1).1) (by rw [← (YearsN_fr _ hY0).2.1]; exact (w12.2.1).2.1) (by rw [← (YearsN_fr _ hY0).2.2]; exact (w12.2.1).2.2.1) _) (cwV 1 hts gX3_advise_X3_bringBack rfl rfl rfl (by decide +kernel) ⟨Nat.le_of_ble_eq_true rfl, Nat.le_of_ble_eq_true rfl⟩) (wrVk (wc := MW G hm adm u11 ++ KW G gK q6 u7.1 u7.2) hX hK hP hD hN [0, 1, 2, 3, 4, 5, 6, 7, 8, 9, 10, 11, 12, 13, 14] (by decide) rfl rfl (ci := 3) rfl rfl) rfl rfl hl.1 rfl (lv_room (Nat.le_of_ble_eq_true rfl)) dX3_advise_56 ⟨(Nat.le_of_ble_eq_true rfl), (Nat.le_of_ble_eq_true rfl)⟩) hS (fun q _ h => hFc q h) hFc (fun u18 t H1 locs ht hvm hw hB hz1 hk1 hS => ?_)
      obtain ⟨u19, rfl⟩ : ∃ z, z = u18 := ⟨_, rfl⟩
      try dsimp only at hw hB
      obtain ⟨hP, hD⟩ := wrJ (ws := MW G hm adm u11 ++ KW G gK q6 u7.1 u7.2) (w1 := MW G hm adm u19 ++ KW G gK q6 u7.1 u7.2) ht hFc hB
      have hP : va_P G.1 vwCl (MW G hm adm u19 ++ KW G gK q6 u7.1 u7.2) H1 := hP
      have hD : va_D A (MW G hm adm u19 ++ KW G gK q6 u7.1 u7.2) := hD
      clear hB hk1 hFc ht hz1 hvm
      generalize H1 = H at hP hS ⊢
      have w20 := hw; clear hw
      have oku19 : rOK ulo uhi u19 := w20.1
      skip
      refine mf_iconst hx hb dX3_advise_59 ?_
      refine lv_istore (lv' := [(5, .int (iI ((-1)))), (4, .int (iI (y15))), (3, .ref q6), (0, .ref hm), (1, .int (iI (kv))), (2, .int (iI (yv)))]) hx hb dX3_advise_60 hl (by decide) rfl (fun ls hl => ?_)
      refine mf_iconst hx hb dX3_advise_62 ?_
      refine lv_istore (lv' := [(6, .int (iI (0))), (5, .int (iI ((-1)))), (4, .int (iI (y15))), (3, .ref q6), (0, .ref hm), (1, .int (iI (kv))), (2, .int (iI (yv)))]) hx hb dX3_advise_63 hl (by decide) rfl (fun ls hl => ?_)
      have lp65 : ∀ (n : Nat) (mv : Int) (bv : Int) (cv : Int) (ua : mf_V), (384 - cv).toNat < n → (0 ≤ cv ∧ cv ≤ 384) → (0 ≤ mv ∧ mv ≤ 384) → (-1 ≤ bv ∧ bv ≤ 384) → (rOK ulo uhi ua) → (relU r ua) → (frU u1 ua) → (mv = (advG f r kv q0 Qf cv).1) → (bv = (advG f r kv q0 Qf cv).2) → ∀ (H : Heap) (locs : List Loc), va_P G.1 vwCl (MW G hm adm ua ++ KW G gK q6 u7.1 u7.2) H → va_D A (MW G hm adm ua ++ KW G gK q6 u7.1 u7.2) → va_S A s.heap H locs → ∀ (ls : Array Slot), lv_has ls 8 [(0, .ref hm), (1, .int (iI (kv))), (2, .int (iI (yv))), (3, .ref q6), (4, .int (iI (mv))), (5, .int (iI (bv))), (6, .int (iI (cv)))] → W p l e (headSpec wsX3_advise ({ frames := 8, cells := 5, slots := 927, locals := 181 })).room s m ([.ref hm, .int (iI (kv)), .int (iI (yv))] : List Value).toArray below meth c H locs 5 927 (MQ below (va_Qi (fun q9 (u' : mf_V) => ∃ z : Int, q9 = iI z ∧ rOK ulo uhi u' ∧ frF u u' ∧ u' 0 0 = kAdv f kv yv ∧ (kAdv f kv yv = 0 → relU r u' ∧ z = (advG f r kv q0 Qf 384).2) ∧ (¬ kAdv f kv yv = 0 → relU r u')) (fun (u' : mf_V) t => WrQ G A (MW G hm adm u') t) A) ([.ref hm, .int (iI (kv)), .int (iI (yv))] : List Value).toArray s 5 927 A) (F0 m 65 ls []) := by
        intro n
        induction n with
        | zero => intro mv bv cv ua hn; exact absurd hn (Nat.not_lt_zero _)
        | succ n ih65 =>
          intro mv bv cv ua hn hc9 hmb hbb okua hrelk hfr1 hmx hbx H locs hP hD hS ls hl
          refine lv_iload hx hb dX3_advise_65 (lv_at hl 6 rfl) ?_
          refine mf_sipush hx hb dX3_advise_67 rfl ?_
          refine mf_icmp_ge (tgt := 155) hx hb dX3_advise_70 (by decide) (i32_mk (by omega) (by omega)) (i32_mk (by decide) (by decide)) (fun c21 => ?_) (fun c21 => ?_)
          · skip
            refine lv_iload hx hb dX3_advise_155 (lv_at hl 5 rfl) ?_
            have hP := hP.sub (ws' := MW G hm adm ua) [0, 1, 2, 3, 4, 5, 6, 7, 8, 9] rfl
            have hD := hD.sub (ws' := MW G hm adm ua) [0, 1, 2, 3, 4, 5, 6, 7, 8, 9] (by decide) rfl
            exact W.iret hx hb hr (fun t ht hW => ⟨⟨_, ua, rfl, ⟨_, rfl, by exact ⟨okua, ⟨hfr1.2.1.trans hfF.1, hfr1.2.2.trans hfF.2⟩, by rw [hk8, hfr1.1]; exact hz0, fun _ => ⟨hrelk, by rw [← show cv = 384 by omega]; exact hbx⟩, fun z9 => absurd hk8 z9⟩⟩, by rw [ht]; exact hP, hD⟩, hS.F ht⟩) hS.2.2 dX3_advise_157
          · skip
            refine lv_aload_n hx hb dX3_advise_73 rfl (lv_at hl 0 rfl) ?_
            refine va_get (D := G.1) (ci := 3) (v := .ref (adm 8)) (C := RX3) (T := TX3) (N := 11) hx hb hts hinX3 hown hK hP 0 rfl rfl 8 (by decide) (hts (.fieldLink RX3 29 "MeanderFarmModel" "wear" "[I") (List.mem_of_getElem? (i := 2) rfl)) (fun _ h9 => h9) rfl dX3_advise_74 ?_
            refine lv_iload hx hb dX3_advise_77 (lv_at hl 6 rfl) ?_
            refine mf_iald (n := 384) (f := ua 8) hx hb hK hP 7 0 rfl rfl (z := cv) (by omega) (by omega) (by decide) dX3_advise_79 ?_
            refine mf_top (ua 8 cv) (r 1 cv) (by rw [(rel8 hrelk (z := cv) (by omega) (by omega))]) ?_
            have b22 : (0 : Int) ≤ r 1 cv ∧ r 1 cv ≤ 200000000 := ok 1 (cv)
            refine mf_if_eq (tgt := 149) hx hb dX3_advise_80 (by decide) (i32_mk (by omega) (by omega)) (fun c23 => ?_) (fun c23 => ?_)
            · skip
              refine lv_iinc (v := iI (cv + 1)) (lv' := [(6, .int (iI (cv + 1))), (0, .ref hm), (1, .int (iI (kv))), (2, .int (iI (yv))), (3, .ref q6), (4, .int (iI (mv))), (5, .int (iI (bv)))]) hx hb dX3_advise_149 hl (k := 6) rfl (iI_add _ _).symm (by decide) rfl (fun ls hl => ?_)
              refine lv_goto (tgt := 65) hx hb dX3_advise_152 (by decide) ?_
              exact ih65 mv bv (cv + 1) ua (by omega) (by first | assumption | omega) (by first | assumption | omega) (by first | assumption | omega) (by first | assumption | omega) (by exact hrelk) (by exact hfr1) (by rw [advG_f f r kv q0 Qf hc9.1 (fun z => z.1 (by assumption))]; exact hmx) (by rw [advG_f f r kv q0 Qf hc9.1 (fun z => z.1 (by assumption))]; exact hbx) _ _ hP hD hS ls (lv_sub hl [1, 2, 3, 4, 5, 6, 0] rfl)
            · skip
              refine lv_aload_n hx hb dX3_advise_83 rfl (lv_at hl 0 rfl) ?_
              refine va_get (D := G.1) (ci := 3) (v := .ref (adm 2)) (C := RX3) (T := TX3) (N := 11) hx hb hts hinX3 hown hK hP 0 rfl rfl 2 (by decide) (hts (.fieldLink RX3 13 "MeanderFarmModel" "stones" "[Z") (List.mem_of_getElem? (i := 3) rfl)) (fun _ h9 => h9) rfl dX3_advise_84 ?_
              refine lv_iload hx hb dX3_advise_87 (lv_at hl 6 rfl) ?_
              refine mf_zald (n := 384) (f := ua 2) hx hb hK hP 2 1 rfl rfl (z := cv) (by omega) (by omega) (by decide) dX3_advise_89 ?_
              refine mf_top (ua 2 cv) (r 2 cv) (by rw [(rel2 hrelk (z := cv) (by omega) (by omega))]) ?_
              have b24 : (0 : Int) ≤ r 2 cv ∧ r 2 cv ≤ 1 := ok 2 (cv)
              refine mf_if_eq (tgt := 96) hx hb dX3_advise_90 (by decide) (i32_mk (by omega) (by omega)) (fun c25 => ?_) (fun c25 => ?_)
              · skip
                refine lv_aload_n hx hb dX3_advise_96 rfl (lv_at hl 0 rfl) ?_
                refine va_get (D := G.1) (ci := 3) (v := .ref (adm 2)) (C := RX3) (T := TX3) (N := 11) hx hb hts hinX3 hown hK hP 0 rfl rfl 2 (by decide) (hts (.fieldLink RX3 13 "MeanderFarmModel" "stones" "[Z") (List.mem_of_getElem? (i := 3) rfl)) (fun _ h9 => h9) rfl dX3_advise_97 ?_
                refine lv_iload hx hb dX3_advise_100 (lv_at hl 6 rfl) ?_
                refine mf_iconst hx hb dX3_advise_102 ?_
                refine mf_zast (n := 384) (f := ua 2) hx hb hK hP hD hS 2 1 rfl rfl (z := cv) (x := 1) (by omega) (by omega) (by decide) (by omega) dX3_advise_103 (fun H locs hP hD hS => ?_)
                obtain ⟨ua26, eua26⟩ : ∃ z9 : mf_V, z9 = mf_sF ua 2 (mf_up (ua 2) (cv) (1)) := ⟨_, rfl⟩
                have hP : va_P G.1 vwCl (MW G hm adm ua26 ++ KW G gK q6 u7.1 u7.2) H := by rw [eua26]; exact hP
                have hD : va_D A (MW G hm adm ua26 ++ KW G gK q6 u7.1 u7.2) := by rw [eua26]; exact hD
                have okua26 : rOK ulo uhi ua26 := by rw [eua26]; exact rOK_up okua 2 _ _ (show (0 : Int) ≤ 1 by omega) (show 1 ≤ (1 : Int) by omega)
                have f1_ua26 : ua26 2 (cv) = 1 := by rw [eua26, mf_sF_s, mf_up_s]
                have f2_ua26 : ∀ y, y ≠ (cv) → ua26 2 y = ua 2 y := fun y hy => by rw [eua26, mf_sF_s, mf_up_n hy]
                have f3_ua26 : ∀ q, q ≠ 2 → ua26 q = ua q := fun q hq => by rw [eua26, mf_sF_n hq]
                have hrs9 : relU (stR r cv) ua26 := relU_f2 hrelk f1_ua26 f2_ua26 (fun k _ h2 => f3_ua26 k h2)
                have hYc := hA2 cv (by omega) (by omega) (by omega) (by omega)
                skip
                refine lv_aload_n hx hb dX3_advise_104 rfl (lv_at hl 0 rfl) ?_
                refine lv_iload_n hx hb dX3_advise_105 rfl (lv_at hl 2 rfl) ?_
                have hFc := va_free (wc := MW G hm adm ua26) hD hS hA [0, 1, 2, 3, 4, 5, 6, 7, 8, 9] rfl
                refine va_calli (va_runV (As := [.int (iI (yv))]) (rest := []) ⟨hx, hb, hml, hown, hts⟩ (c_X3_yearsOn l G hm adm ua26 (yv) (stR r cv) (Qf cv) (bf cv) (Yv) (i32_mk (by omega) (by omega)) (by assumption) (by exact stR_ok ok cv) (by exact stR_I hI cv) (by exact hrs9) (by exact hYc.1) (by omega) (by exact stR_b hB cv) (by omega) _) (cwV 1 hts gX3_advise_X3_yearsOn rfl rfl rfl (by decide +kernel) ⟨Nat.le_of_ble_eq_true rfl, Nat.le_of_ble_eq_true rfl⟩) (wrV (wc := MW G hm adm ua26) hK hP hD hN [0, 1, 2, 3, 4, 5, 6, 7, 8, 9] (by decide) rfl rfl (ci := 3) rfl rfl) rfl rfl hl.1 rfl (lv_room (Nat.le_of_ble_eq_true rfl)) dX3_advise_106 ⟨(Nat.le_of_ble_eq_true rfl), (Nat.le_of_ble_eq_true rfl)⟩) hS (fun q _ h => hFc q h) hFc (fun q27 u28 t H1 locs ht hvm hw hB hz1 hk1 hS => ?_)
                obtain ⟨ua29, rfl⟩ : ∃ z, z = u28 := ⟨_, rfl⟩
                try dsimp only at hw hB
                obtain ⟨hP, hD⟩ := wrJ2 (ws := MW G hm adm ua26 ++ KW G gK q6 u7.1 u7.2) (wc := MW G hm adm ua26) (wr := KW G gK q6 u7.1 u7.2) (w1 := MW G hm adm ua29) hP hD [0, 1, 2, 3, 4, 5, 6, 7, 8, 9] [10, 11, 12, 13, 14] rfl rfl (by decide) (by decide) hk1 ht hFc hB
                have hP : va_P G.1 vwCl (MW G hm adm ua29 ++ KW G gK q6 u7.1 u7.2) H1 := hP.sub [5, 6, 7, 8, 9, 10, 11, 12, 13, 14, 0, 1, 2, 3, 4] rfl
                have hD : va_D A (MW G hm adm ua29 ++ KW G gK q6 u7.1 u7.2) := hD.sub [5, 6, 7, 8, 9, 10, 11, 12, 13, 14, 0, 1, 2, 3, 4] (by decide) rfl
                have hP : va_P G.1 vwCl (MW G hm adm ua29 ++ KW G gK q6 u7.1 u7.2) H1 := hP
                have hD : va_D A (MW G hm adm ua29 ++ KW G gK q6 u7.1 u7.2) := hD
                clear hB hk1 hFc ht hz1 hvm
                generalize H1 = H at hP hS ⊢
                obtain ⟨z31, rfl, w30⟩ := hw
                have okua29 : rOK ulo uhi ua29 := w30.1
                skip
                refine lv_pop hx hb dX3_advise_109 rfl ?_
                refine lv_aload_n hx hb dX3_advise_110 rfl (lv_at hl 0 rfl) ?_
                refine lv_iload_n hx hb dX3_advise_111 rfl (lv_at hl 1 rfl) ?_
                refine mf_iconst hx hb dX3_advise_112 ?_
                refine vp_callSi (va_Run.run (va_runV (As := [.int (iI (kv)), .int (iI (1))]) (rest := []) ⟨hx, hb, hml, hown, hts⟩ (c_X3_farmTold l G hm adm ua29 (kv) (1) (Qf cv) (f) (i32_mk (by omega) (by omega)) (i32_mk (by decide) (by decide)) (by assumption) (by exact hYc.2.1) (by exact hYc.2.2) (by exact w30.2.1) (by assumption) (by exact relF_cg ⟨by rw [w30.2.2.1.2.1, f3_ua26 4 (by decide)]; exact hfr1.2.1.trans hfF.1, by rw [w30.2.2.1.2.2, f3_ua26 5 (by decide)]; exact hfr1.2.2.trans hfF.2⟩ hrf) (by first | assumption | omega) (by omega) (by omega)) (cwV 2 hts gX3_advise_X3_farmTold rfl rfl rfl (by decide +kernel) ⟨Nat.le_of_ble_eq_true rfl, Nat.le_of_ble_eq_true rfl⟩) (rdV (wc := MW G hm adm ua29) hK hP hN [0, 1, 2, 3, 4, 5, 6, 7, 8, 9] rfl (ci := 3) rfl rfl) rfl rfl hl.1 rfl (lv_room (Nat.le_of_ble_eq_true rfl)) dX3_advise_113 ⟨(Nat.le_of_ble_eq_true rfl), (Nat.le_of_ble_eq_true rfl)⟩)) (fun q32 hq32 => ?_)
                subst hq32
                refine mf_nm (fun y33 ey33 => ?_)
                have b34 : 0 ≤ y33 ∧ y33 ≤ 384 := by rw [ey33]; exact cof_b (show rOK flo fhi (f) by assumption) kv 1
                refine lv_istore (lv' := [(7, .int (iI (y33))), (0, .ref hm), (1, .int (iI (kv))), (2, .int (iI (yv))), (3, .ref q6), (4, .int (iI (mv))), (5, .int (iI (bv))), (6, .int (iI (cv)))]) hx hb dX3_advise_116 hl (by decide) rfl (fun ls hl => ?_)
                refine lv_aload_n hx hb dX3_advise_118 rfl (lv_at hl 1 rfl) ?_
                refine va_get (D := G.1) (ci := 3) (v := .ref (adm 2)) (C := RX3) (T := TX3) (N := 11) hx hb hts hinX3 hown hK hP 0 rfl rfl 2 (by decide) (hts (.fieldLink RX3 13 "MeanderFarmModel" "stones" "[Z") (List.mem_of_getElem? (i := 3) rfl)) (fun _ h9 => h9) rfl dX3_advise_119 ?_
                refine lv_iload hx hb dX3_advise_122 (lv_at hl 7 rfl) ?_
                refine mf_iconst hx hb dX3_advise_124 ?_
                refine mf_zast (n := 384) (f := ua29 2) hx hb hK hP hD hS 2 1 rfl rfl (z := cv) (x := 0) (by omega) (by omega) (by decide) (by omega) dX3_advise_125 (fun H locs hP hD hS => ?_)
                obtain ⟨ua35, eua35⟩ : ∃ z9 : mf_V, z9 = mf_sF ua29 2 (mf_up (ua29 2) (cv) (0)) := ⟨_, rfl⟩
                have hP : va_P G.1 vwCl (MW G hm adm ua35 ++ KW G gK q6 u7.1 u7.2) H := by rw [eua35]; exact hP
                have hD : va_D A (MW G hm adm ua35 ++ KW G gK q6 u7.1 u7.2) := by rw [eua35]; exact hD
                have okua35 : rOK ulo uhi ua35 := by rw [eua35]; exact rOK_up okua29 2 _ _ (show (0 : Int) ≤ 0 by omega) (show 0 ≤ (1 : Int) by omega)
                have f1_ua35 : ua35 2 (cv) = 0 := by rw [eua35, mf_sF_s, mf_up_s]
                have f2_ua35 : ∀ y, y ≠ (cv) → ua35 2 y = ua29 2 y := fun y hy => by rw [eua35, mf_sF_s, mf_up_n hy]
                have f3_ua35 : ∀ q, q ≠ 2 → ua35 q = ua29 q := fun q hq => by rw [eua35, mf_sF_n hq]
                skip
                refine lv_aload_n hx hb dX3_advise_126 rfl (lv_at hl 1 rfl) ?_
                refine lv_aload_n hx hb dX3_advise_127 rfl (lv_at hl 4 rfl) ?_
                have hFc := va_free (wc := MW G hm adm ua35 ++ KW G gK q6 u7.1 u7.2) hD hS hA [0, 1, 2, 3, 4, 5, 6, 7, 8, 9, 10, 11, 12, 13, 14] rfl
                refine va_callv (va_runV (As := [.ref q6]) (rest := []) ⟨hx, hb, hml, hown, hts⟩ (c_X3_bringBack l G gK hm adm ua35 q6 u7.1 u7.2 (r) (u1) (by assumption) (by exact oku1) (by exact ok) (by exact hI) (by exact hrel1) (by exact w8.1) (by exact w8.2.1) (by exact w8.2.2.1) (by exact w8.2.2.2) (by rw [f3_ua35 1 (by decide)]; intro z z0 z1; rw [w30.2.1.1 z z0 z1, (YearsN_fr _ hYc.1).1]; rfl) (by intro z z0 z1; by_cases y9 : z = cv; (rw [y9, f1_ua35]; omega); (rw [f2_ua35 z y9, w30.2.1.2.1 z z0 z1, (YearsN_fr _ hYc.1).2.1]; show mf_sF r 2 _ 2 z = _; rw [mf_sF_s, mf_up_n y9])) (by rw [f3_ua35 3 (by decide)]; intro z z0 z1; rw [w30.2.1.2.2.1 z z0 z1, (YearsN_fr _ hYc.1).2.2]; rfl) _) (cwV 1 hts gX3_advise_X3_bringBack rfl rfl rfl (by decide +kernel) ⟨Nat.le_of_ble_eq_true rfl, Nat.le_of_ble_eq_true rfl⟩) (wrVk (wc := MW G hm adm ua35 ++ KW G gK q6 u7.1 u7.2) hX hK hP hD hN [0, 1, 2, 3, 4, 5, 6, 7, 8, 9, 10, 11, 12, 13, 14] (by decide) rfl rfl (ci := 3) rfl rfl) rfl rfl hl.1 rfl (lv_room (Nat.le_of_ble_eq_true rfl)) dX3_advise_128 ⟨(Nat.le_of_ble_eq_true rfl), (Nat.le_of_ble_eq_true rfl)⟩) hS (fun q _ h => hFc q h) hFc (fun u37 t H1 locs ht hvm hw hB hz1 hk1 hS => ?_)
                obtain ⟨ua38, rfl⟩ : ∃ z, z = u37 := ⟨_, rfl⟩
                try dsimp only at hw hB
                obtain ⟨hP, hD⟩ := wrJ (ws := MW G hm adm ua35 ++ KW G gK q6 u7.1 u7.2) (w1 := MW G hm adm ua38 ++ KW G gK q6 u7.1 u7.2) ht hFc hB
                have hP : va_P G.1 vwCl (MW G hm adm ua38 ++ KW G gK q6 u7.1 u7.2) H1 := hP
                have hD : va_D A (MW G hm adm ua38 ++ KW G gK q6 u7.1 u7.2) := hD
                clear hB hk1 hFc ht hz1 hvm
                generalize H1 = H at hP hS ⊢
                have w39 := hw; clear hw
                have okua38 : rOK ulo uhi ua38 := w39.1
                refine lv_iload hx hb dX3_advise_131 (lv_at hl 0 rfl) ?_
                refine lv_iload hx hb dX3_advise_133 (lv_at hl 5 rfl) ?_
                refine mf_icmp_gt (tgt := 141) hx hb dX3_advise_135 (by decide) (i32_mk (by omega) (by omega)) (i32_mk (by omega) (by omega)) (fun c40 => ?_) (fun c40 => ?_)
                · skip
                  refine lv_iload hx hb dX3_advise_141 (lv_at hl 7 rfl) ?_
                  refine lv_istore (lv' := [(5, .int (iI (cv))), (7, .int (iI (y33))), (0, .ref hm), (1, .int (iI (kv))), (2, .int (iI (yv))), (3, .ref q6), (4, .int (iI (mv))), (6, .int (iI (cv)))]) hx hb dX3_advise_143 hl (by decide) rfl (fun ls hl => ?_)
                  refine lv_iload hx hb dX3_advise_145 (lv_at hl 1 rfl) ?_
                  refine lv_istore (lv' := [(4, .int (iI (y33))), (5, .int (iI (cv))), (7, .int (iI (y33))), (0, .ref hm), (1, .int (iI (kv))), (2, .int (iI (yv))), (3, .ref q6), (6, .int (iI (cv)))]) hx hb dX3_advise_147 hl (by decide) rfl (fun ls hl => ?_)
                  refine lv_iinc (v := iI (cv + 1)) (lv' := [(6, .int (iI (cv + 1))), (4, .int (iI (y33))), (5, .int (iI (cv))), (7, .int (iI (y33))), (0, .ref hm), (1, .int (iI (kv))), (2, .int (iI (yv))), (3, .ref q6)]) hx hb dX3_advise_149 hl (k := 7) rfl (iI_add _ _).symm (by decide) rfl (fun ls hl => ?_)
                  refine lv_goto (tgt := 65) hx hb dX3_advise_152 (by decide) ?_
                  exact ih65 y33 cv (cv + 1) ua38 (by omega) (by first | assumption | omega) (by first | assumption | omega) (by first | assumption | omega) (by first | assumption | omega) (by exact w39.2.1) (by exact ⟨by rw [w39.2.2.1, f3_ua35 0 (by decide), w30.2.2.1.1, f3_ua26 0 (by decide)]; exact hfr1.1, by rw [w39.2.2.2.1, f3_ua35 4 (by decide), w30.2.2.1.2.1, f3_ua26 4 (by decide)]; exact hfr1.2.1, by rw [w39.2.2.2.2, f3_ua35 5 (by decide), w30.2.2.1.2.2, f3_ua26 5 (by decide)]; exact hfr1.2.2⟩) (by rw [advG_t f r kv q0 Qf hc9.1 ⟨by omega, by omega, by rw [← hmx, ← ey33]; omega⟩]; exact ey33) (by rw [advG_t f r kv q0 Qf hc9.1 ⟨by omega, by omega, by rw [← hmx, ← ey33]; omega⟩]) _ _ hP hD hS ls (lv_sub hl [4, 5, 6, 7, 1, 2, 0] rfl)
                · skip
                  refine lv_goto (tgt := 149) hx hb dX3_advise_138 (by decide) ?_
                  refine lv_iinc (v := iI (cv + 1)) (lv' := [(6, .int (iI (cv + 1))), (7, .int (iI (y33))), (0, .ref hm), (1, .int (iI (kv))), (2, .int (iI (yv))), (3, .ref q6), (4, .int (iI (mv))), (5, .int (iI (bv)))]) hx hb dX3_advise_149 hl (k := 7) rfl (iI_add _ _).symm (by decide) rfl (fun ls hl => ?_)
                  refine lv_goto (tgt := 65) hx hb dX3_advise_152 (by decide) ?_
                  exact ih65 mv bv (cv + 1) ua38 (by omega) (by first | assumption | omega) (by first | assumption | omega) (by first | assumption | omega) (by first | assumption | omega) (by exact w39.2.1) (by exact ⟨by rw [w39.2.2.1, f3_ua35 0 (by decide), w30.2.2.1.1, f3_ua26 0 (by decide)]; exact hfr1.1, by rw [w39.2.2.2.1, f3_ua35 4 (by decide), w30.2.2.1.2.1, f3_ua26 4 (by decide)]; exact hfr1.2.1, by rw [w39.2.2.2.2, f3_ua35 5 (by decide), w30.2.2.1.2.2, f3_ua26 5 (by decide)]; exact hfr1.2.2⟩) (by rw [advG_f f r kv q0 Qf hc9.1 (fun z => by have z2 := z.2.2; rw [← hmx, ← ey33] at z2; omega)]; exact hmx) (by rw [advG_f f r kv q0 Qf hc9.1 (fun z => by have z2 := z.2.2; rw [← hmx, ← ey33] at z2; omega)]; exact hbx) _ _ hP hD hS ls (lv_sub hl [2, 3, 4, 5, 6, 7, 0] rfl)
              · skip
                refine lv_goto (tgt := 149) hx hb dX3_advise_93 (by decide) ?_
                refine lv_iinc (v := iI (cv + 1)) (lv' := [(6, .int (iI (cv + 1))), (0, .ref hm), (1, .int (iI (kv))), (2, .int (iI (yv))), (3, .ref q6), (4, .int (iI (mv))), (5, .int (iI (bv)))]) hx hb dX3_advise_149 hl (k := 6) rfl (iI_add _ _).symm (by decide) rfl (fun ls hl => ?_)
                refine lv_goto (tgt := 65) hx hb dX3_advise_152 (by decide) ?_
                exact ih65 mv bv (cv + 1) ua (by omega) (by first | assumption | omega) (by first | assumption | omega) (by first | assumption | omega) (by first | assumption | omega) (by exact hrelk) (by exact hfr1) (by rw [advG_f f r kv q0 Qf hc9.1 (fun z => by have z2 := z.2.1; omega)]; exact hmx) (by rw [advG_f f r kv q0 Qf hc9.1 (fun z => by have z2 := z.2.1; omega)]; exact hbx) _ _ hP hD hS ls (lv_sub hl [1, 2, 3, 4, 5, 6, 0] rfl)
      exact lp65 (_ + 1) y15 (-1) 0 u19 (Nat.lt_succ_self _) (by first | assumption | omega) (by first | assumption | omega) (by first | assumption | omega) (by first | assumption | omega) (by exact w20.2.1) (by exact frU_t w12.2.2.1 w20.2.2) (by exact ey15) (by rfl) _ _ hP hD hS ls (lv_sub hl [4, 5, 6, 3, 2, 1, 0] rfl)
    · skip
      refine lv_aload_n hx hb dX3_advise_29 rfl (lv_at hl 0 rfl) ?_
      refine mf_iconst hx hb dX3_advise_30 ?_
      have hFc := va_free (wc := MW G hm adm u1) hD hS hA [0, 1, 2, 3, 4, 5, 6, 7, 8, 9] rfl
      refine va_calli (va_runV (As := [.int (iI (2))]) (rest := []) ⟨hx, hb, hml, hown, hts⟩ (c_X3_fail l G hm adm u1 (2) (i32_mk (by decide) (by decide)) (by assumption) (by first | assumption | omega) _) (cwV 1 hts gX3_advise_X3_fail rfl rfl rfl (by decide +kernel) ⟨Nat.le_of_ble_eq_true rfl, Nat.le_of_ble_eq_true rfl⟩) (wrV (wc := MW G hm adm u1) hK hP hD hN [0, 1, 2, 3, 4, 5, 6, 7, 8, 9] (by decide) rfl rfl (ci := 3) rfl rfl) rfl rfl hl.1 rfl (lv_room (Nat.le_of_ble_eq_true rfl)) dX3_advise_31 ⟨(Nat.zero_le _), (Nat.zero_le _)⟩) hS (fun q _ h => hFc q h) hFc (fun q41 u42 t H1 locs ht hvm hw hB hz1 hk1 hS => ?_)
      obtain ⟨u43, rfl⟩ : ∃ z, z = u42 := ⟨_, rfl⟩
      try dsimp only at hw hB
      obtain ⟨hP, hD⟩ := wrJ (ws := MW G hm adm u1) (w1 := MW G hm adm u43) ht hFc hB
      have hP : va_P G.1 vwCl (MW G hm adm u43) H1 := hP
      have hD : va_D A (MW G hm adm u43) := hD
      clear hB hk1 hFc ht hz1 hvm
      generalize H1 = H at hP hS ⊢
      obtain ⟨z45, rfl, w44⟩ := hw
      have oku43 : rOK ulo uhi u43 := w44.1
      have hk9 : kAdv f kv yv = 2 := (mf_if_f (fun z => z (by unfold isF; omega))).trans (mf_if_t (by assumption))
      refine W.widen (k := 5) (n := 927) (Nat.le_of_ble_eq_true rfl) (Nat.le_of_ble_eq_true rfl) ?_
      exact W.iret hx hb hr (fun t ht hW => ⟨⟨_, u43, rfl, ⟨_, rfl, by exact ⟨w44.1, ⟨(w44.2.1 4 (by decide)).trans hfF.1, (w44.2.1 5 (by decide)).trans hfF.2⟩, by rw [hk9]; exact w44.2.2.1, fun z9 => by rw [hk9] at z9; omega, fun _ => relU_cg w44.2.1 hrel1⟩⟩, by rw [ht]; exact hP, hD⟩, hS.F ht⟩) hS.2.2 dX3_advise_34
  · skip
    refine lv_aload_n hx hb dX3_advise_13 rfl (lv_at hl 0 rfl) ?_
    refine mf_iconst hx hb dX3_advise_14 ?_
    have hFc := va_free (wc := MW G hm adm u1) hD hS hA [0, 1, 2, 3, 4, 5, 6, 7, 8, 9] rfl
    refine va_calli (va_runV (As := [.int (iI (1))]) (rest := []) ⟨hx, hb, hml, hown, hts⟩ (c_X3_fail l G hm adm u1 (1) (i32_mk (by decide) (by decide)) (by assumption) (by first | assumption | omega) _) (cwV 1 hts gX3_advise_X3_fail rfl rfl rfl (by decide +kernel) ⟨Nat.le_of_ble_eq_true rfl, Nat.le_of_ble_eq_true rfl⟩) (wrV (wc := MW G hm adm u1) hK hP hD hN [0, 1, 2, 3, 4, 5, 6, 7, 8, 9] (by decide) rfl rfl (ci := 3) rfl rfl) rfl rfl hl.1 rfl (lv_room (Nat.le_of_ble_eq_true rfl)) dX3_advise_15 ⟨(Nat.zero_le _), (Nat.zero_le _)⟩) hS (fun q _ h => hFc q h) hFc (fun q46 u47 t H1 locs ht hvm hw hB hz1 hk1 hS => ?_)
    obtain ⟨u48, rfl⟩ : ∃ z, z = u47 := ⟨_, rfl⟩
    try dsimp only at hw hB
    obtain ⟨hP, hD⟩ := wrJ (ws := MW G hm adm u1) (w1 := MW G hm adm u48) ht hFc hB
    have hP : va_P G.1 vwCl (MW G hm adm u48) H1 := hP
    have hD : va_D A (MW G hm adm u48) := hD
    clear hB hk1 hFc ht hz1 hvm
    generalize H1 = H at hP hS ⊢
    obtain ⟨z50, rfl, w49⟩ := hw
    have oku48 : rOK ulo uhi u48 := w49.1
    have hk9 : kAdv f kv yv = 1 := mf_if_t (fun z => by unfold isF at z; omega)
    refine W.widen (k := 5) (n := 927) (Nat.le_of_ble_eq_true rfl) (Nat.le_of_ble_eq_true rfl) ?_
    exact W.iret hx hb hr (fun t ht hW => ⟨⟨_, u48, rfl, ⟨_, rfl, by exact ⟨w49.1, ⟨(w49.2.1 4 (by decide)).trans hfF.1, (w49.2.1 5 (by decide)).trans hfF.2⟩, by rw [hk9]; exact w49.2.2.1, fun z9 => by rw [hk9] at z9; omega, fun _ => relU_cg w49.2.1 hrel1⟩⟩, by rw [ht]; exact hP, hD⟩, hS.F ht⟩) hS.2.2 dX3_advise_18
