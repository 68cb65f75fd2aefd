/-! 35.mwrite: how the reference changes -/
def frU (u q : mf_V) : Prop := q 0 = u 0 ∧ q 4 = u 4 ∧ q 5 = u 5
theorem placeEnd {q u : mf_V} (hq : RInv q) (hpl : ∀ i, 0 ≤ i → i < q 7 0 → u 7 (q 6 i) = i) (hpn : ∀ c, 0 ≤ c → c < 384 → (∀ i, 0 ≤ i → i < q 7 0 → ¬ q 6 i = c) → u 7 c = -1) : rgA 384 (u 7) (q 10) := fun c c0 c1 => by
  rcases hq.2.2.1.2 c c0 c1 with y | ⟨y1, y2, y3⟩
  · rw [y]; exact hpn c c0 c1 (fun i i0 i1 z => by have g := hq.2.2.1.1 i i0 i1; rw [z, y] at g; omega)
  · have g := hpl _ y1 y2
    rw [y3] at g; exact g
theorem lyl_in {r : mf_V} {c : Int} (h0 : 0 ≤ c) (h1 : c < 384) : lyl r c = max 0 (r 3 c - r 8 0) := mf_if_t ⟨h0, h1⟩
/-- the reference behind a bulge -/
theorem bulRel {r u q w : mf_V} {i t : Int} (ok : rOK rlo rhi r) (hrel : relU r u) (hB : Bul r i t q) (h1 : w 1 = u 1) (h2 : w 2 = u 2) (h3 : w 3 = u 3) (h6 : rgA (r 7 0 + 2) (w 6) (q 6)) (h7 : rgA 384 (w 7) (q 10)) (h89 : ∀ c, (hitB r i t c → w 8 c = 0 ∧ w 9 c = 0) ∧ (¬ hitB r i t c → w 8 c = u 8 c ∧ w 9 c = u 9 c)) (n0 : w 10 0 = u 10 0) (n1 : w 10 1 = u 10 1) (n2 : w 10 2 = r 7 0 + 2) : relU q w := by
  obtain ⟨b7, b6, bc, b0, b2, b5, b8, b9⟩ := hB
  obtain ⟨e1, e2, e3, e6, e7, e8, e9, m0, m1, m2⟩ := hrel
  refine ⟨fun z z0 z1 => by rw [h1, b0]; exact e1 z z0 z1, fun z z0 z1 => by rw [h2, b2]; exact e2 z z0 z1, fun z z0 z1 => by rw [h3, b5]; exact e3 z z0 z1, fun z z0 z1 => by rw [b7] at z1; exact h6 z z0 z1, h7, fun z z0 z1 => ?_, fun z z0 z1 => ?_, by rw [n0, b8]; exact m0, by rw [n1, b9]; exact m1, by rw [n2, b7]⟩
  · by_cases y : hitB r i t z
    · rw [((h89 z).1 y).1, ((bc z).1 y).1]
    · rw [((h89 z).2 y).1, ((bc z).2 y).1]; exact e8 z z0 z1
  · rw [lyl_in z0 z1, b8]
    by_cases y : hitB r i t z
    · rw [((h89 z).1 y).2, ((bc z).1 y).2.1]
      have g : (0 : Int) ≤ r 8 0 ∧ r 8 0 ≤ 90000 := ok 8 0
      omega
    · rw [((h89 z).2 y).2, ((bc z).2 y).2.1, e9 z z0 z1, lyl_in z0 z1]
/-- the reference behind a break -/
theorem brkRel {r u q w : mf_V} {i j : Int} (hI : RInv r) (hn : neckP r i j) (hrel : relU r u) (hB : Brk r i j q) (h1 : w 1 = u 1) (h2 : w 2 = u 2) (h3 : w 3 = u 3) (h8 : w 8 = u 8) (h6 : rgA (r 7 0 - (j - i - 1)) (w 6) (q 6)) (h7 : rgA 384 (w 7) (q 10)) (hl : ∀ c, (∃ k, i < k ∧ k < j ∧ r 6 k = c) → w 9 c = 10) (hl2 : ∀ c, (∀ k, i < k → k < j → ¬ r 6 k = c) → w 9 c = u 9 c) (n0 : w 10 0 = u 10 0) (n1 : w 10 1 = r 9 0 + 1) (n2 : w 10 2 = r 7 0 - (j - i - 1)) : relU q w := by
  obtain ⟨b7, b6, bc, b9, b0, b1, b2, b4, b5, b8⟩ := hB
  obtain ⟨e1, e2, e3, e6, e7, e8, e9, m0, m1, m2⟩ := hrel
  obtain ⟨i0, j1, ij, -⟩ := neckP_w hn
  refine ⟨fun z z0 z1 => by rw [h1, b0]; exact e1 z z0 z1, fun z z0 z1 => by rw [h2, b2]; exact e2 z z0 z1, fun z z0 z1 => by rw [h3, b5]; exact e3 z z0 z1, fun z z0 z1 => by rw [b7] at z1; exact h6 z z0 z1, h7, fun z z0 z1 => by rw [h8, b1]; exact e8 z z0 z1, fun z z0 z1 => ?_, by rw [n0, b8]; exact m0, by rw [n1, b9], by rw [n2, b7]⟩
  rw [lyl_in z0 z1, b8]
  by_cases y : i < r 10 z ∧ r 10 z < j
  · rw [((bc z z0 z1).1 y)]
    rcases hI.2.2.1.2 z z0 z1 with x | ⟨x1, x2, x3⟩
    · omega
    · rw [hl z ⟨r 10 z, y.1, y.2, x3⟩]; omega
  · rw [((bc z z0 z1).2 y), hl2 z (fun k k0 k1 x => y (by have g := hI.2.2.1.1 k (by omega) (by omega); rw [x] at g; rw [g]; exact ⟨k0, k1⟩)), e9 z z0 z1, lyl_in z0 z1]
set_option maxHeartbeats 4000000 in
set_option maxRecDepth 100000 in
theorem c_X3_place (l : Launch) (G : mf_G) (hm : Nat) (adm : Nat → Nat) (u : mf_V)  (q : mf_V) (oku : rOK ulo uhi u) (okq : rOK rlo rhi q) (hq : RInv q) (hcrs : rgA (q 7 0) (u 6) (q 6)) (hlen : u 10 2 = q 7 0) (sz : Nat) : Met l yX3_place wsX3_place ({ frames := 1, cells := 0, slots := 0, locals := 20 }) (va_Pc [.ref hm] (WrP G (MW G hm adm u) sz)) (va_Qv (fun (u' : mf_V) => rOK ulo uhi u' ∧ (∀ k, k ≠ 7 → u' k = u k) ∧ rgA 384 (u' 7) (q 10)) (fun (u' : mf_V) t => WrQ G (va_A (MW G hm adm u) sz) (MW G hm adm u') t) (va_A (MW G hm adm u) sz)) 0 0 (va_A (MW G hm adm u) sz) := by
  refine Met.ofW (cc := cX3_place) (maxL := 2) (ret := none) (by decide) rfl ?_
  intro p e s m args below meth c s₁ B hml hv
  obtain ⟨rfl, hsz, hP, hK, hD0, hN⟩ := hv
  have hx := B.exec
  have hb := B.bytes
  have hr := B.returns
  have hts := atoms_spec (ws := wsX3_place) B.pre
  have hown : s.vm.findClass RX3 = some m.cls := findClass_of_methodNamed B.named
  have hlocks := B.notSynchronized
  have hinX3 : ∀ w ∈ u_ws RX3 TX3 11, w ∈ wsX3_place := fun w h => List.mem_cons_of_mem _ (List.mem_append_right _ h)
  subst hsz
  have hD := hD0.self (sz := s.heap.size)
  generalize hAe : va_A (MW G hm adm u) s.heap.size = A at hD ⊢
  have hA : ∀ q : Nat, s.heap.size ≤ q → A q := fun q h => by rw [← hAe]; exact Or.inr h
  have hS : va_S A s.heap s.heap [] := va_S.rf
  have hl := lv_entry ([.ref hm]) (n := 2) (Nat.le_of_ble_eq_true rfl)
  rw [lg_entry_eq]
  generalize (lg_sl ([.ref hm]) ++ List.replicate (2 - (lg_sl ([.ref hm])).length) Slot.unset).toArray = ls at hl ⊢
  have hl : lv_has ls 2 [(0, .ref hm)] := hl
  have okLq : (0 : Int) ≤ q 7 0 ∧ q 7 0 ≤ 150 := okq 7 0
  refine mf_iconst hx hb dX3_place_0 ?_
  refine lv_istore_n (lv' := [(1, .int (iI (0))), (0, .ref hm)]) hx hb dX3_place_1 rfl hl (by decide) rfl (fun ls hl => ?_)
  have lp2 : ∀ (n : Nat) (kv : Int) (u1 : mf_V), (384 - kv).toNat < n → (0 ≤ kv ∧ kv ≤ 384) → (rOK ulo uhi u1) → (∀ k, k ≠ 7 → u1 k = u k) → (∀ z, 0 ≤ z → z < kv → u1 7 z = -1) → ∀ (H : Heap) (locs : List Loc), va_P G.1 vwCl (MW G hm adm u1) H → va_D A (MW G hm adm u1) → va_S A s.heap H locs → ∀ (ls : Array Slot), lv_has ls 2 [(0, .ref hm), (1, .int (iI (kv)))] → W p l e (headSpec wsX3_place ({ frames := 1, cells := 0, slots := 0, locals := 20 })).room s m ([.ref hm] : List Value).toArray below meth c H locs 0 0 (MQ below (va_Qv (fun (u' : mf_V) => rOK ulo uhi u' ∧ (∀ k, k ≠ 7 → u' k = u k) ∧ rgA 384 (u' 7) (q 10)) (fun (u' : mf_V) t => WrQ G A (MW G hm adm u') t) A) ([.ref hm] : List Value).toArray s 0 0 A) (F0 m 2 ls []) := by
    intro n
    induction n with
    | zero => intro kv u1 hn; exact absurd hn (Nat.not_lt_zero _)
    | succ n ih2 =>
      intro kv u1 hn hk oku1 hfr hz H locs hP hD hS ls hl
      refine lv_iload_n hx hb dX3_place_2 rfl (lv_at hl 1 rfl) ?_
      refine mf_sipush hx hb dX3_place_3 rfl ?_
      refine mf_icmp_ge (tgt := 22) hx hb dX3_place_6 (by decide) (i32_mk (by omega) (by omega)) (i32_mk (by decide) (by decide)) (fun c1 => ?_) (fun c1 => ?_)
      · skip
        refine mf_iconst hx hb dX3_place_22 ?_
        refine lv_istore_n (lv' := [(1, .int (iI (0))), (0, .ref hm)]) hx hb dX3_place_23 rfl hl (by decide) rfl (fun ls hl => ?_)
        have lp24 : ∀ (n : Nat) (k2 : Int) (u2 : mf_V), (q 7 0 - k2).toNat < n → (0 ≤ k2 ∧ k2 ≤ q 7 0) → (rOK ulo uhi u2) → (∀ k, k ≠ 7 → u2 k = u k) → (∀ i, 0 ≤ i → i < k2 → u2 7 (q 6 i) = i) → (∀ c, 0 ≤ c → c < 384 → (∀ i, 0 ≤ i → i < k2 → ¬ q 6 i = c) → u2 7 c = -1) → ∀ (H : Heap) (locs : List Loc), va_P G.1 vwCl (MW G hm adm u2) H → va_D A (MW G hm adm u2) → va_S A s.heap H locs → ∀ (ls : Array Slot), lv_has ls 2 [(0, .ref hm), (1, .int (iI (k2)))] → W p l e (headSpec wsX3_place ({ frames := 1, cells := 0, slots := 0, locals := 20 })).room s m ([.ref hm] : List Value).toArray below meth c H locs 0 0 (MQ below (va_Qv (fun (u' : mf_V) => rOK ulo uhi u' ∧ (∀ k, k ≠ 7 → u' k = u k) ∧ rgA 384 (u' 7) (q 10)) (fun (u' : mf_V) t => WrQ G A (MW G hm adm u') t) A) ([.ref hm] : List Value).toArray s 0 0 A) (F0 m 24 ls []) := by
          intro n
          induction n with
          | zero => intro k2 u2 hn; exact absurd hn (Nat.not_lt_zero _)
          | succ n ih24 =>
            intro k2 u2 hn hk2 oku2 hfr2 hpl hpn H locs hP hD hS ls hl
            refine lv_iload_n hx hb dX3_place_24 rfl (lv_at hl 1 rfl) ?_
            refine lv_aload_n hx hb dX3_place_25 rfl (lv_at hl 0 rfl) ?_
            refine vp_callSi (va_Run.run (va_runV (As := []) (rest := [.int (iI (k2))]) ⟨hx, hb, hml, hown, hts⟩ (c_X3_length l G hm adm u2 (by assumption)) (cwV 0 hts gX3_place_X3_length rfl rfl rfl (by decide +kernel) ⟨Nat.le_of_ble_eq_true rfl, Nat.le_of_ble_eq_true rfl⟩) (rdV (wc := MW G hm adm u2) hK hP hN [0, 1, 2, 3, 4, 5, 6, 7, 8, 9] rfl (ci := 3) rfl rfl) rfl rfl hl.1 rfl (lv_room (Nat.le_of_ble_eq_true rfl)) dX3_place_26 ⟨(Nat.zero_le _), (Nat.zero_le _)⟩)) (fun q2 hq2 => ?_)
            subst hq2
            refine mf_top (u2 10 2) (q 7 0) (by rw [hfr2 10 (by decide), hlen]) ?_
            have b3 : (0 : Int) ≤ q 7 0 ∧ q 7 0 ≤ 150 := okq 7 0
            refine mf_icmp_ge (tgt := 50) hx hb dX3_place_29 (by decide) (i32_mk (by omega) (by omega)) (i32_mk (by omega) (by omega)) (fun c4 => ?_) (fun c4 => ?_)
            · skip
              exact W.vret hx hb hr (fun t ht hW => ⟨⟨u2, rfl, by exact ⟨oku2, hfr2, placeEnd hq (by rw [show k2 = q 7 0 by omega] at hpl; exact hpl) (by rw [show k2 = q 7 0 by omega] at hpn; exact hpn)⟩, by rw [ht]; exact hP, hD⟩, hS.F ht⟩) hS.2.2 dX3_place_50
            · skip
              refine lv_aload_n hx hb dX3_place_32 rfl (lv_at hl 0 rfl) ?_
              refine va_get (D := G.1) (ci := 3) (v := .ref (adm 7)) (C := RX3) (T := TX3) (N := 11) hx hb hts hinX3 hown hK hP 0 rfl rfl 7 (by decide) (hts (.fieldLink RX3 26 "MeanderFarmModel" "where" "[I") (List.mem_of_getElem? (i := 1) rfl)) (fun _ h9 => h9) rfl dX3_place_33 ?_
              refine lv_aload_n hx hb dX3_place_36 rfl (lv_at hl 0 rfl) ?_
              refine va_get (D := G.1) (ci := 3) (v := .ref (adm 6)) (C := RX3) (T := TX3) (N := 11) hx hb hts hinX3 hown hK hP 0 rfl rfl 6 (by decide) (hts (.fieldLink RX3 23 "MeanderFarmModel" "course" "[I") (List.mem_of_getElem? (i := 2) rfl)) (fun _ h9 => h9) rfl dX3_place_37 ?_
              refine lv_iload_n hx hb dX3_place_40 rfl (lv_at hl 1 rfl) ?_
              refine mf_iald (n := 152) (f := u2 6) hx hb hK hP 5 0 rfl rfl (z := k2) (by omega) (by omega) (by decide) dX3_place_41 ?_
              refine mf_top (u2 6 k2) (q 6 k2) (by rw [hfr2 6 (by decide), (hcrs (k2) (by omega) (by omega))]) ?_
              have b5 : (0 : Int) ≤ q 6 k2 ∧ q 6 k2 ≤ 383 := okq 6 (k2)
              refine lv_iload_n hx hb dX3_place_42 rfl (lv_at hl 1 rfl) ?_
              refine mf_iast (n := 384) (f := u2 7) hx hb hK hP hD hS 6 0 rfl rfl (z := q 6 k2) (x := k2) (by omega) (by omega) (by decide) dX3_place_43 (fun H locs hP hD hS => ?_)
              obtain ⟨u6, eu6⟩ : ∃ z9 : mf_V, z9 = mf_sF u2 7 (mf_up (u2 7) (q 6 k2) (k2)) := ⟨_, rfl⟩
              have hP : va_P G.1 vwCl (MW G hm adm u6) H := by rw [eu6]; exact hP
              have hD : va_D A (MW G hm adm u6) := by rw [eu6]; exact hD
              have oku6 : rOK ulo uhi u6 := by rw [eu6]; exact rOK_up oku2 7 _ _ (show (-1 : Int) ≤ k2 by omega) (show k2 ≤ (149 : Int) by omega)
              have f1_u6 : u6 7 (q 6 k2) = k2 := by rw [eu6, mf_sF_s, mf_up_s]
              have f2_u6 : ∀ y, y ≠ (q 6 k2) → u6 7 y = u2 7 y := fun y hy => by rw [eu6, mf_sF_s, mf_up_n hy]
              have f3_u6 : ∀ q, q ≠ 7 → u6 q = u2 q := fun q hq => by rw [eu6, mf_sF_n hq]
              refine lv_iinc (v := iI (k2 + 1)) (lv' := [(1, .int (iI (k2 + 1))), (0, .ref hm)]) hx hb dX3_place_44 hl (k := 1) rfl (iI_add _ _).symm (by decide) rfl (fun ls hl => ?_)
              refine lv_goto (tgt := 24) hx hb dX3_place_47 (by decide) ?_
              exact ih24 (k2 + 1) u6 (by omega) (by first | assumption | omega) (by first | assumption | omega) (by intro k hk; rw [f3_u6 k hk]; exact hfr2 k hk) (by intro i h0 h1; rcases (show i < k2 ∨ i = k2 by omega) with z | z; (rw [f2_u6 _ (fun y => absurd (hq.1.2.2 i k2 (by omega) (by omega) (by omega) (by omega) y) (by omega))]; exact hpl i h0 z); (rw [z]; exact f1_u6)) (by intro c c0 c1 hc; rw [f2_u6 _ (fun y => hc k2 (by omega) (by omega) y.symm)]; exact hpn c c0 c1 (fun i h0 h1 => hc i h0 (by omega))) _ _ hP hD hS ls (lv_sub hl [1, 0] rfl)
        exact lp24 (_ + 1) 0 u1 (Nat.lt_succ_self _) (by first | assumption | omega) (by first | assumption | omega) (by exact hfr) (by intro i h0 h1; omega) (by intro c c0 c1 _; exact hz c c0 (by omega)) _ _ hP hD hS ls (lv_sub hl [1, 0] rfl)
      · skip
        refine lv_aload_n hx hb dX3_place_9 rfl (lv_at hl 0 rfl) ?_
        refine va_get (D := G.1) (ci := 3) (v := .ref (adm 7)) (C := RX3) (T := TX3) (N := 11) hx hb hts hinX3 hown hK hP 0 rfl rfl 7 (by decide) (hts (.fieldLink RX3 26 "MeanderFarmModel" "where" "[I") (List.mem_of_getElem? (i := 1) rfl)) (fun _ h9 => h9) rfl dX3_place_10 ?_
        refine lv_iload_n hx hb dX3_place_13 rfl (lv_at hl 1 rfl) ?_
        refine mf_iconst hx hb dX3_place_14 ?_
        refine mf_iast (n := 384) (f := u1 7) hx hb hK hP hD hS 6 0 rfl rfl (z := kv) (x := (-1)) (by omega) (by omega) (by decide) dX3_place_15 (fun H locs hP hD hS => ?_)
        obtain ⟨u7, eu7⟩ : ∃ z9 : mf_V, z9 = mf_sF u1 7 (mf_up (u1 7) (kv) ((-1))) := ⟨_, rfl⟩
        have hP : va_P G.1 vwCl (MW G hm adm u7) H := by rw [eu7]; exact hP
        have hD : va_D A (MW G hm adm u7) := by rw [eu7]; exact hD
        have oku7 : rOK ulo uhi u7 := by rw [eu7]; exact rOK_up oku1 7 _ _ (show (-1 : Int) ≤ (-1) by omega) (show (-1) ≤ (149 : Int) by omega)
        have f1_u7 : u7 7 (kv) = (-1) := by rw [eu7, mf_sF_s, mf_up_s]
        have f2_u7 : ∀ y, y ≠ (kv) → u7 7 y = u1 7 y := fun y hy => by rw [eu7, mf_sF_s, mf_up_n hy]
        have f3_u7 : ∀ q, q ≠ 7 → u7 q = u1 q := fun q hq => by rw [eu7, mf_sF_n hq]
        refine lv_iinc (v := iI (kv + 1)) (lv' := [(1, .int (iI (kv + 1))), (0, .ref hm)]) hx hb dX3_place_16 hl (k := 1) rfl (iI_add _ _).symm (by decide) rfl (fun ls hl => ?_)
        refine lv_goto (tgt := 2) hx hb dX3_place_19 (by decide) ?_
        exact ih2 (kv + 1) u7 (by omega) (by first | assumption | omega) (by first | assumption | omega) (by intro k hk; rw [f3_u7 k hk]; exact hfr k hk) (by intro z h0 h1; rcases (show z < kv ∨ z = kv by omega) with y | y; (rw [f2_u7 z (by omega)]; exact hz z h0 y); (rw [y]; exact f1_u7)) _ _ hP hD hS ls (lv_sub hl [1, 0] rfl)
  exact lp2 (_ + 1) 0 u (Nat.lt_succ_self _) (by first | assumption | omega) (by first | assumption | omega) (by intro k _; rfl) (by intro z _ _; omega) _ _ hP hD hS ls (lv_sub hl [1, 0] rfl)
set_option maxHeartbeats 4000000 in
set_option maxRecDepth 100000 in
theorem c_X3_bulge (l : Launch) (G : mf_G) (hm : Nat) (adm : Nat → Nat) (u : mf_V)  (iv : Int) (sv : Int) (r : mf_V) (q : mf_V) (hiv : i32 iv) (hsv : i32 sv) (oku : rOK ulo uhi u) (ok : rOK rlo rhi r) (hI : RInv r) (hrel : relU r u) (okq : rOK rlo rhi q) (hq : RInv q) (hcan : canB r iv sv) (hBul : Bul r iv sv q) (sz : Nat) : Met l yX3_bulge wsX3_bulge ({ frames := 3, cells := 0, slots := 0, locals := 66 }) (va_Pc [.ref hm, .int (iI (iv)), .int (iI (sv))] (WrP G (MW G hm adm u) sz)) (va_Qv (fun (u' : mf_V) => rOK ulo uhi u' ∧ relU q u' ∧ frU u u') (fun (u' : mf_V) t => WrQ G (va_A (MW G hm adm u) sz) (MW G hm adm u') t) (va_A (MW G hm adm u) sz)) 0 0 (va_A (MW G hm adm u) sz) := by
  refine Met.ofW (cc := cX3_bulge) (maxL := 7) (ret := none) (by decide) rfl ?_
  intro p e s m args below meth c s₁ B hml hv
  obtain ⟨rfl, hsz, hP, hK, hD0, hN⟩ := hv
  have hx := B.exec
  have hb := B.bytes
  have hr := B.returns
  have hts := atoms_spec (ws := wsX3_bulge) B.pre
  have hown : s.vm.findClass RX3 = some m.cls := findClass_of_methodNamed B.named
  have hlocks := B.notSynchronized
  have hinX3 : ∀ w ∈ u_ws RX3 TX3 11, w ∈ wsX3_bulge := fun w h => List.mem_cons_of_mem _ (List.mem_append_right _ h)
  subst hsz
  have hD := hD0.self (sz := s.heap.size)
  generalize hAe : va_A (MW G hm adm u) s.heap.size = A at hD ⊢
  have hA : ∀ q : Nat, s.heap.size ≤ q → A q := fun q h => by rw [← hAe]; exact Or.inr h
  have hS : va_S A s.heap s.heap [] := va_S.rf
  have hl := lv_entry ([.ref hm, .int (iI (iv)), .int (iI (sv))]) (n := 7) (Nat.le_of_ble_eq_true rfl)
  rw [lg_entry_eq]
  generalize (lg_sl ([.ref hm, .int (iI (iv)), .int (iI (sv))]) ++ List.replicate (7 - (lg_sl ([.ref hm, .int (iI (iv)), .int (iI (sv))])).length) Slot.unset).toArray = ls at hl ⊢
  have hl : lv_has ls 7 [(0, .ref hm), (1, .int (iI (iv))), (2, .int (iI (sv)))] := hl
  have hiv1 := hiv.1
  have hiv2 := hiv.2
  have hsv1 := hsv.1
  have hsv2 := hsv.2
  have okLr : (0 : Int) ≤ r 7 0 ∧ r 7 0 ≤ 150 := ok 7 0
  obtain ⟨⟨i0, i1, i2⟩, hl2, ⟨t0, t1⟩, hop⟩ := canB_w okLr.2 hcan
  have ho1 := hop (iv - 1) (by omega) (by omega)
  have ho2 := hop iv (by omega) (by omega)
  have ho3 := hop (iv + 1) (by omega) (by omega)
  refine lv_aload_n hx hb dX3_bulge_0 rfl (lv_at hl 0 rfl) ?_
  refine va_get (D := G.1) (ci := 3) (v := .ref (adm 6)) (C := RX3) (T := TX3) (N := 11) hx hb hts hinX3 hown hK hP 0 rfl rfl 6 (by decide) (hts (.fieldLink RX3 23 "MeanderFarmModel" "course" "[I") (List.mem_of_getElem? (i := 1) rfl)) (fun _ h9 => h9) rfl dX3_bulge_1 ?_
  refine lv_iload_n hx hb dX3_bulge_4 rfl (lv_at hl 1 rfl) ?_
  refine mf_iconst hx hb dX3_bulge_5 ?_
  refine mf_isub hx hb dX3_bulge_6 ?_
  refine mf_iald (n := 152) (f := u 6) hx hb hK hP 5 0 rfl rfl (z := iv - 1) (by omega) (by omega) (by decide) dX3_bulge_7 ?_
  refine mf_top (u 6 (iv - 1)) (r 6 (iv - 1)) (by rw [(rel6 hrel (z := iv - 1) (by omega) (by omega))]) ?_
  have b1 : (0 : Int) ≤ r 6 (iv - 1) ∧ r 6 (iv - 1) ≤ 383 := ok 6 (iv - 1)
  refine lv_iload_n hx hb dX3_bulge_8 rfl (lv_at hl 2 rfl) ?_
  refine vp_callSi (va_Run.run (va_runS (As := [.int (iI (r 6 (iv - 1))), .int (iI (sv))]) (rest := []) ⟨hx, hb, hml, hown, hts⟩ (c_X3_beside l (r 6 (iv - 1)) (sv) (i32_mk (by omega) (by omega)) (i32_mk (by omega) (by omega)) (by first | assumption | omega) (by first | assumption | omega)) (va_cwS 2 hts gX3_bulge_X3_beside rfl rfl rfl (by decide +kernel) ⟨Nat.le_of_ble_eq_true rfl, Nat.le_of_ble_eq_true rfl⟩) pureS rfl rfl hl.1 rfl (lv_room (Nat.le_of_ble_eq_true rfl)) dX3_bulge_9 ⟨(Nat.zero_le _), (Nat.zero_le _)⟩)) (fun q2 hq2 => ?_)
  subst hq2
  refine mf_nm (fun y3 ey3 => ?_)
  have b4 : -1 ≤ y3 ∧ y3 ≤ 383 := by rw [ey3]; exact nbr_b (r 6 (iv - 1)) sv
  have gy3 : y3 = nbr (r 6 (iv - 1)) sv := ey3
  refine lv_istore_n (lv' := [(3, .int (iI (y3))), (0, .ref hm), (1, .int (iI (iv))), (2, .int (iI (sv)))]) hx hb dX3_bulge_12 rfl hl (by decide) rfl (fun ls hl => ?_)
  refine lv_aload_n hx hb dX3_bulge_13 rfl (lv_at hl 1 rfl) ?_
  refine va_get (D := G.1) (ci := 3) (v := .ref (adm 6)) (C := RX3) (T := TX3) (N := 11) hx hb hts hinX3 hown hK hP 0 rfl rfl 6 (by decide) (hts (.fieldLink RX3 23 "MeanderFarmModel" "course" "[I") (List.mem_of_getElem? (i := 1) rfl)) (fun _ h9 => h9) rfl dX3_bulge_14 ?_
  refine lv_iload_n hx hb dX3_bulge_17 rfl (lv_at hl 2 rfl) ?_
  refine mf_iald (n := 152) (f := u 6) hx hb hK hP 5 0 rfl rfl (z := iv) (by omega) (by omega) (by decide) dX3_bulge_18 ?_
  refine mf_top (u 6 iv) (r 6 iv) (by rw [(rel6 hrel (z := iv) (by omega) (by omega))]) ?_
  have b5 : (0 : Int) ≤ r 6 iv ∧ r 6 iv ≤ 383 := ok 6 (iv)
  refine lv_iload_n hx hb dX3_bulge_19 rfl (lv_at hl 3 rfl) ?_
  refine vp_callSi (va_Run.run (va_runS (As := [.int (iI (r 6 iv)), .int (iI (sv))]) (rest := []) ⟨hx, hb, hml, hown, hts⟩ (c_X3_beside l (r 6 iv) (sv) (i32_mk (by omega) (by omega)) (i32_mk (by omega) (by omega)) (by first | assumption | omega) (by first | assumption | omega)) (va_cwS 2 hts gX3_bulge_X3_beside rfl rfl rfl (by decide +kernel) ⟨Nat.le_of_ble_eq_true rfl, Nat.le_of_ble_eq_true rfl⟩) pureS rfl rfl hl.1 rfl (lv_room (Nat.le_of_ble_eq_true rfl)) dX3_bulge_20 ⟨(Nat.zero_le _), (Nat.zero_le _)⟩)) (fun q6 hq6 => ?_)
  subst hq6
  refine mf_nm (fun y7 ey7 => ?_)
  have b8 : -1 ≤ y7 ∧ y7 ≤ 383 := by rw [ey7]; exact nbr_b (r 6 iv) sv
  have gy7 : y7 = nbr (r 6 iv) sv := ey7
  refine lv_istore (lv' := [(4, .int (iI (y7))), (3, .int (iI (y3))), (0, .ref hm), (1, .int (iI (iv))), (2, .int (iI (sv)))]) hx hb dX3_bulge_23 hl (by decide) rfl (fun ls hl => ?_)
  refine lv_aload_n hx hb dX3_bulge_25 rfl (lv_at hl 2 rfl) ?_
  refine va_get (D := G.1) (ci := 3) (v := .ref (adm 6)) (C := RX3) (T := TX3) (N := 11) hx hb hts hinX3 hown hK hP 0 rfl rfl 6 (by decide) (hts (.fieldLink RX3 23 "MeanderFarmModel" "course" "[I") (List.mem_of_getElem? (i := 1) rfl)) (fun _ h9 => h9) rfl dX3_bulge_26 ?_
  refine lv_iload_n hx hb dX3_bulge_29 rfl (lv_at hl 3 rfl) ?_
  refine mf_iconst hx hb dX3_bulge_30 ?_
  refine mf_iadd hx hb dX3_bulge_31 ?_
  refine mf_iald (n := 152) (f := u 6) hx hb hK hP 5 0 rfl rfl (z := iv + 1) (by omega) (by omega) (by decide) dX3_bulge_32 ?_
  refine mf_top (u 6 (iv + 1)) (r 6 (iv + 1)) (by rw [(rel6 hrel (z := iv + 1) (by omega) (by omega))]) ?_
  have b9 : (0 : Int) ≤ r 6 (iv + 1) ∧ r 6 (iv + 1) ≤ 383 := ok 6 (iv + 1)
  refine lv_iload_n hx hb dX3_bulge_33 rfl (lv_at hl 4 rfl) ?_
  refine vp_callSi (va_Run.run (va_runS (As := [.int (iI (r 6 (iv + 1))), .int (iI (sv))]) (rest := []) ⟨hx, hb, hml, hown, hts⟩ (c_X3_beside l (r 6 (iv + 1)) (sv) (i32_mk (by omega) (by omega)) (i32_mk (by omega) (by omega)) (by first | assumption | omega) (by first | assumption | omega)) (va_cwS 2 hts gX3_bulge_X3_beside rfl rfl rfl (by decide +kernel) ⟨Nat.le_of_ble_eq_true rfl, Nat.le_of_ble_eq_true rfl⟩) pureS rfl rfl hl.1 rfl (lv_room (Nat.le_of_ble_eq_true rfl)) dX3_bulge_34 ⟨(Nat.zero_le _), (Nat.zero_le _)⟩)) (fun q10 hq10 => ?_)
  subst hq10
  refine mf_nm (fun y11 ey11 => ?_)
  have b12 : -1 ≤ y11 ∧ y11 ≤ 383 := by rw [ey11]; exact nbr_b (r 6 (iv + 1)) sv
  have gy11 : y11 = nbr (r 6 (iv + 1)) sv := ey11
  refine lv_istore (lv' := [(5, .int (iI (y11))), (4, .int (iI (y7))), (3, .int (iI (y3))), (0, .ref hm), (1, .int (iI (iv))), (2, .int (iI (sv)))]) hx hb dX3_bulge_37 hl (by decide) rfl (fun ls hl => ?_)
  refine lv_aload_n hx hb dX3_bulge_39 rfl (lv_at hl 3 rfl) ?_
  refine vp_callSi (va_Run.run (va_runV (As := []) (rest := []) ⟨hx, hb, hml, hown, hts⟩ (c_X3_length l G hm adm u (by assumption)) (cwV 0 hts gX3_bulge_X3_length rfl rfl rfl (by decide +kernel) ⟨Nat.le_of_ble_eq_true rfl, Nat.le_of_ble_eq_true rfl⟩) (rdV (wc := MW G hm adm u) hK hP hN [0, 1, 2, 3, 4, 5, 6, 7, 8, 9] rfl (ci := 3) rfl rfl) rfl rfl hl.1 rfl (lv_room (Nat.le_of_ble_eq_true rfl)) dX3_bulge_40 ⟨(Nat.zero_le _), (Nat.zero_le _)⟩)) (fun q13 hq13 => ?_)
  subst hq13
  refine mf_top (u 10 2) (r 7 0) (by rw [rel10_2 hrel]) ?_
  have b14 : (0 : Int) ≤ r 7 0 ∧ r 7 0 ≤ 150 := ok 7 0
  refine mf_iconst hx hb dX3_bulge_43 ?_
  refine mf_isub hx hb dX3_bulge_44 ?_
  refine lv_istore (lv' := [(6, .int (iI ((r 7 0) - 1))), (5, .int (iI (y11))), (4, .int (iI (y7))), (3, .int (iI (y3))), (0, .ref hm), (1, .int (iI (iv))), (2, .int (iI (sv)))]) hx hb dX3_bulge_45 hl (by decide) rfl (fun ls hl => ?_)
  have lp47 : ∀ (n : Nat) (kv : Int) (u1 : mf_V), (kv - iv).toNat < n → (iv ≤ kv ∧ kv < r 7 0) → (rOK ulo uhi u1) → (∀ k, k ≠ 6 → u1 k = u k) → (∀ j, j ≤ kv + 2 → u1 6 j = u 6 j) → (∀ j, kv + 2 < j → j < r 7 0 + 2 → u1 6 j = r 6 (j - 2)) → ∀ (H : Heap) (locs : List Loc), va_P G.1 vwCl (MW G hm adm u1) H → va_D A (MW G hm adm u1) → va_S A s.heap H locs → ∀ (ls : Array Slot), lv_has ls 7 [(0, .ref hm), (1, .int (iI (iv))), (2, .int (iI (sv))), (3, .int (iI (y3))), (4, .int (iI (y7))), (5, .int (iI (y11))), (6, .int (iI (kv)))] → W p l e (headSpec wsX3_bulge ({ frames := 3, cells := 0, slots := 0, locals := 66 })).room s m ([.ref hm, .int (iI (iv)), .int (iI (sv))] : List Value).toArray below meth c H locs 0 0 (MQ below (va_Qv (fun (u' : mf_V) => rOK ulo uhi u' ∧ relU q u' ∧ frU u u') (fun (u' : mf_V) t => WrQ G A (MW G hm adm u') t) A) ([.ref hm, .int (iI (iv)), .int (iI (sv))] : List Value).toArray s 0 0 A) (F0 m 47 ls []) := by
    intro n
    induction n with
    | zero => intro kv u1 hn; exact absurd hn (Nat.not_lt_zero _)
    | succ n ih47 =>
      intro kv u1 hn hk oku1 hfr hlo hhi H locs hP hD hS ls hl
      refine lv_iload hx hb dX3_bulge_47 (lv_at hl 6 rfl) ?_
      refine lv_iload_n hx hb dX3_bulge_49 rfl (lv_at hl 1 rfl) ?_
      refine mf_icmp_le (tgt := 75) hx hb dX3_bulge_50 (by decide) (i32_mk (by omega) (by omega)) (i32_mk (by omega) (by omega)) (fun c15 => ?_) (fun c15 => ?_)
      · skip
        refine lv_aload_n hx hb dX3_bulge_75 rfl (lv_at hl 0 rfl) ?_
        refine va_get (D := G.1) (ci := 3) (v := .ref (adm 6)) (C := RX3) (T := TX3) (N := 11) hx hb hts hinX3 hown hK hP 0 rfl rfl 6 (by decide) (hts (.fieldLink RX3 23 "MeanderFarmModel" "course" "[I") (List.mem_of_getElem? (i := 1) rfl)) (fun _ h9 => h9) rfl dX3_bulge_76 ?_
        refine lv_iload_n hx hb dX3_bulge_79 rfl (lv_at hl 1 rfl) ?_
        refine lv_iload_n hx hb dX3_bulge_80 rfl (lv_at hl 3 rfl) ?_
        refine mf_iast (n := 152) (f := u1 6) hx hb hK hP hD hS 5 0 rfl rfl (z := iv) (x := y3) (by omega) (by omega) (by decide) dX3_bulge_81 (fun H locs hP hD hS => ?_)
        obtain ⟨u16, eu16⟩ : ∃ z9 : mf_V, z9 = mf_sF u1 6 (mf_up (u1 6) (iv) (y3)) := ⟨_, rfl⟩
        have hP : va_P G.1 vwCl (MW G hm adm u16) H := by rw [eu16]; exact hP
        have hD : va_D A (MW G hm adm u16) := by rw [eu16]; exact hD
        have oku16 : rOK ulo uhi u16 := by rw [eu16]; exact rOK_up oku1 6 _ _ (show (0 : Int) ≤ y3 by omega) (show y3 ≤ (383 : Int) by omega)
        have f1_u16 : u16 6 (iv) = y3 := by rw [eu16, mf_sF_s, mf_up_s]
        have f2_u16 : ∀ y, y ≠ (iv) → u16 6 y = u1 6 y := fun y hy => by rw [eu16, mf_sF_s, mf_up_n hy]
        have f3_u16 : ∀ q, q ≠ 6 → u16 q = u1 q := fun q hq => by rw [eu16, mf_sF_n hq]
        refine lv_aload_n hx hb dX3_bulge_82 rfl (lv_at hl 0 rfl) ?_
        refine va_get (D := G.1) (ci := 3) (v := .ref (adm 6)) (C := RX3) (T := TX3) (N := 11) hx hb hts hinX3 hown hK hP 0 rfl rfl 6 (by decide) (hts (.fieldLink RX3 23 "MeanderFarmModel" "course" "[I") (List.mem_of_getElem? (i := 1) rfl)) (fun _ h9 => h9) rfl dX3_bulge_83 ?_
        refine lv_iload_n hx hb dX3_bulge_86 rfl (lv_at hl 1 rfl) ?_
        refine mf_iconst hx hb dX3_bulge_87 ?_
        refine mf_iadd hx hb dX3_bulge_88 ?_
        refine lv_iload hx hb dX3_bulge_89 (lv_at hl 4 rfl) ?_
        refine mf_iast (n := 152) (f := u16 6) hx hb hK hP hD hS 5 0 rfl rfl (z := iv + 1) (x := y7) (by omega) (by omega) (by decide) dX3_bulge_91 (fun H locs hP hD hS => ?_)
        obtain ⟨u17, eu17⟩ : ∃ z9 : mf_V, z9 = mf_sF u16 6 (mf_up (u16 6) (iv + 1) (y7)) := ⟨_, rfl⟩
        have hP : va_P G.1 vwCl (MW G hm adm u17) H := by rw [eu17]; exact hP
        have hD : va_D A (MW G hm adm u17) := by rw [eu17]; exact hD
        have oku17 : rOK ulo uhi u17 := by rw [eu17]; exact rOK_up oku16 6 _ _ (show (0 : Int) ≤ y7 by omega) (show y7 ≤ (383 : Int) by omega)
        have f1_u17 : u17 6 (iv + 1) = y7 := by rw [eu17, mf_sF_s, mf_up_s]
        have f2_u17 : ∀ y, y ≠ (iv + 1) → u17 6 y = u16 6 y := fun y hy => by rw [eu17, mf_sF_s, mf_up_n hy]
        have f3_u17 : ∀ q, q ≠ 6 → u17 q = u16 q := fun q hq => by rw [eu17, mf_sF_n hq]
        refine lv_aload_n hx hb dX3_bulge_92 rfl (lv_at hl 0 rfl) ?_
        refine va_get (D := G.1) (ci := 3) (v := .ref (adm 6)) (C := RX3) (T := TX3) (N := 11) hx hb hts hinX3 hown hK hP 0 rfl rfl 6 (by decide) (hts (.fieldLink RX3 23 "MeanderFarmModel" "course" "[I") (List.mem_of_getElem? (i := 1) rfl)) (fun _ h9 => h9) rfl dX3_bulge_93 ?_
        refine lv_iload_n hx hb dX3_bulge_96 rfl (lv_at hl 1 rfl) ?_
        refine mf_iconst hx hb dX3_bulge_97 ?_
        refine mf_iadd hx hb dX3_bulge_98 ?_
        refine lv_iload hx hb dX3_bulge_99 (lv_at hl 5 rfl) ?_
        refine mf_iast (n := 152) (f := u17 6) hx hb hK hP hD hS 5 0 rfl rfl (z := iv + 2) (x := y11) (by omega) (by omega) (by decide) dX3_bulge_101 (fun H locs hP hD hS => ?_)
        obtain ⟨u18, eu18⟩ : ∃ z9 : mf_V, z9 = mf_sF u17 6 (mf_up (u17 6) (iv + 2) (y11)) := ⟨_, rfl⟩
        have hP : va_P G.1 vwCl (MW G hm adm u18) H := by rw [eu18]; exact hP
        have hD : va_D A (MW G hm adm u18) := by rw [eu18]; exact hD
        have oku18 : rOK ulo uhi u18 := by rw [eu18]; exact rOK_up oku17 6 _ _ (show (0 : Int) ≤ y11 by omega) (show y11 ≤ (383 : Int) by omega)
        have f1_u18 : u18 6 (iv + 2) = y11 := by rw [eu18, mf_sF_s, mf_up_s]
        have f2_u18 : ∀ y, y ≠ (iv + 2) → u18 6 y = u17 6 y := fun y hy => by rw [eu18, mf_sF_s, mf_up_n hy]
        have f3_u18 : ∀ q, q ≠ 6 → u18 q = u17 q := fun q hq => by rw [eu18, mf_sF_n hq]
        have hcc : ∀ j, 0 ≤ j → j < r 7 0 + 2 → u18 6 j = bulC r iv sv j := fun j j0 j1 => by
          by_cases z2 : j = iv + 2
          · rw [z2, f1_u18, bulC_new (by omega), show iv + 2 - 1 = iv + 1 by omega]; assumption
          by_cases z1 : j = iv + 1
          · rw [z1, f2_u18 _ (by omega), f1_u17, bulC_new (by omega), show iv + 1 - 1 = iv by omega]; assumption
          by_cases z0 : j = iv
          · rw [z0, f2_u18 _ (by omega), f2_u17 _ (by omega), f1_u16, bulC_new (by omega)]; assumption
          rw [f2_u18 _ (by omega), f2_u17 _ (by omega), f2_u16 _ (by omega)]
          by_cases z : j < iv
          · rw [hlo j (by omega), bulC_lo z, rel6 hrel (by omega) (by omega)]
          · rw [hhi j (by omega) j1, bulC_hi (by omega)]
        have hn3 : ∀ k, k ≠ 6 → u18 k = u k := fun k hk => by rw [f3_u18 k hk, f3_u17 k hk, f3_u16 k hk]; exact hfr k hk
        skip
        refine mf_iconst hx hb dX3_bulge_102 ?_
        refine lv_istore (lv' := [(6, .int (iI (0))), (0, .ref hm), (1, .int (iI (iv))), (2, .int (iI (sv))), (3, .int (iI (y3))), (4, .int (iI (y7))), (5, .int (iI (y11)))]) hx hb dX3_bulge_103 hl (by decide) rfl (fun ls hl => ?_)
        have lp105 : ∀ (n : Nat) (k2 : Int) (u2 : mf_V), (3 - k2).toNat < n → (0 ≤ k2 ∧ k2 ≤ 3) → (rOK ulo uhi u2) → (∀ k, k ≠ 8 → k ≠ 9 → u2 k = u18 k) → (∀ cv, ((∃ t, 0 ≤ t ∧ t < k2 ∧ cv = nbr (r 6 (iv - 1 + t)) sv) → u2 8 cv = 0 ∧ u2 9 cv = 0) ∧ (¬ (∃ t, 0 ≤ t ∧ t < k2 ∧ cv = nbr (r 6 (iv - 1 + t)) sv) → u2 8 cv = u 8 cv ∧ u2 9 cv = u 9 cv)) → ∀ (H : Heap) (locs : List Loc), va_P G.1 vwCl (MW G hm adm u2) H → va_D A (MW G hm adm u2) → va_S A s.heap H locs → ∀ (ls : Array Slot), lv_has ls 7 [(0, .ref hm), (1, .int (iI (iv))), (2, .int (iI (sv))), (6, .int (iI (k2)))] → W p l e (headSpec wsX3_bulge ({ frames := 3, cells := 0, slots := 0, locals := 66 })).room s m ([.ref hm, .int (iI (iv)), .int (iI (sv))] : List Value).toArray below meth c H locs 0 0 (MQ below (va_Qv (fun (u' : mf_V) => rOK ulo uhi u' ∧ relU q u' ∧ frU u u') (fun (u' : mf_V) t => WrQ G A (MW G hm adm u') t) A) ([.ref hm, .int (iI (iv)), .int (iI (sv))] : List Value).toArray s 0 0 A) (F0 m 105 ls []) := by
          intro n
          induction n with
          | zero => intro k2 u2 hn; exact absurd hn (Nat.not_lt_zero _)
          | succ n ih105 =>
            intro k2 u2 hn hk2 oku2 hfr2 h89 H locs hP hD hS ls hl
            refine lv_iload hx hb dX3_bulge_105 (lv_at hl 3 rfl) ?_
            refine mf_iconst hx hb dX3_bulge_107 ?_
            refine mf_icmp_ge (tgt := 147) hx hb dX3_bulge_108 (by decide) (i32_mk (by omega) (by omega)) (i32_mk (by decide) (by decide)) (fun c19 => ?_) (fun c19 => ?_)
            · skip
              refine lv_aload_n hx hb dX3_bulge_147 rfl (lv_at hl 0 rfl) ?_
              refine va_get (D := G.1) (ci := 3) (v := .ref (adm 10)) (C := RX3) (T := TX3) (N := 11) hx hb hts hinX3 hown hK hP 0 rfl rfl 10 (by decide) (hts (.fieldLink RX3 35 "MeanderFarmModel" "numbers" "[I") (List.mem_of_getElem? (i := 4) rfl)) (fun _ h9 => h9) rfl dX3_bulge_148 ?_
              refine mf_iconst hx hb dX3_bulge_151 ?_
              refine lv_dup2_11 hx hb dX3_bulge_152 rfl rfl ?_
              refine mf_iald (n := 3) (f := u2 10) hx hb hK hP 9 0 rfl rfl (z := 2) (by omega) (by omega) (by decide) dX3_bulge_153 ?_
              refine mf_top (u2 10 2) (r 7 0) (by rw [hfr2 10 (by decide) (by decide), f3_u18 10 (by decide), f3_u17 10 (by decide), f3_u16 10 (by decide), hfr 10 (by decide), rel10_2 hrel]) ?_
              have b20 : (0 : Int) ≤ r 7 0 ∧ r 7 0 ≤ 150 := ok 7 0
              refine mf_iconst hx hb dX3_bulge_154 ?_
              refine mf_iadd hx hb dX3_bulge_155 ?_
              refine mf_iast (n := 3) (f := u2 10) hx hb hK hP hD hS 9 0 rfl rfl (z := 2) (x := (r 7 0) + 2) (by omega) (by omega) (by decide) dX3_bulge_156 (fun H locs hP hD hS => ?_)
              obtain ⟨u21, eu21⟩ : ∃ z9 : mf_V, z9 = mf_sF u2 10 (mf_up (u2 10) (2) ((r 7 0) + 2)) := ⟨_, rfl⟩
              have hP : va_P G.1 vwCl (MW G hm adm u21) H := by rw [eu21]; exact hP
              have hD : va_D A (MW G hm adm u21) := by rw [eu21]; exact hD
              have oku21 : rOK ulo uhi u21 := by rw [eu21]; exact rOK_up oku2 10 _ _ (show (0 : Int) ≤ (r 7 0) + 2 by omega) (show (r 7 0) + 2 ≤ (100000000 : Int) by omega)
              have f1_u21 : u21 10 (2) = (r 7 0) + 2 := by rw [eu21, mf_sF_s, mf_up_s]
              have f2_u21 : ∀ y, y ≠ (2) → u21 10 y = u2 10 y := fun y hy => by rw [eu21, mf_sF_s, mf_up_n hy]
              have f3_u21 : ∀ q, q ≠ 10 → u21 q = u2 q := fun q hq => by rw [eu21, mf_sF_n hq]
              have l10 : u21 10 2 = r 7 0 + 2 := f1_u21
              have hq6 : rgA (q 7 0) (u21 6) (q 6) := fun j j0 j1 => by rw [f3_u21 6 (by decide), hfr2 6 (by decide) (by decide), hcc j j0 (by rw [hBul.1] at j1; omega), hBul.2.1 j j0 (by rw [hBul.1] at j1; omega)]
              skip
              refine lv_aload_n hx hb dX3_bulge_157 rfl (lv_at hl 0 rfl) ?_
              have hFc := va_free (wc := MW G hm adm u21) hD hS hA [0, 1, 2, 3, 4, 5, 6, 7, 8, 9] rfl
              refine va_callv (va_runV (As := []) (rest := []) ⟨hx, hb, hml, hown, hts⟩ (c_X3_place l G hm adm u21 (q) (by assumption) (by assumption) (by assumption) (by exact hq6) (by rw [hBul.1]; exact l10) _) (cwV 0 hts gX3_bulge_X3_place rfl rfl rfl (by decide +kernel) ⟨Nat.le_of_ble_eq_true rfl, Nat.le_of_ble_eq_true rfl⟩) (wrV (wc := MW G hm adm u21) hK hP hD hN [0, 1, 2, 3, 4, 5, 6, 7, 8, 9] (by decide) rfl rfl (ci := 3) rfl rfl) rfl rfl hl.1 rfl (lv_room (Nat.le_of_ble_eq_true rfl)) dX3_bulge_158 ⟨(Nat.zero_le _), (Nat.zero_le _)⟩) hS (fun q _ h => hFc q h) hFc (fun u23 t H1 locs ht hvm hw hB hz1 hk1 hS => ?_)
              obtain ⟨u24, rfl⟩ : ∃ z, z = u23 := ⟨_, rfl⟩
              try dsimp only at hw hB
              obtain ⟨hP, hD⟩ := wrJ (ws := MW G hm adm u21) (w1 := MW G hm adm u24) ht hFc hB
              have hP : va_P G.1 vwCl (MW G hm adm u24) H1 := hP
              have hD : va_D A (MW G hm adm u24) := hD
              clear hB hk1 hFc ht hz1 hvm
              generalize H1 = H at hP hS ⊢
              have w25 := hw; clear hw
              have oku24 : rOK ulo uhi u24 := w25.1
              have hh9 : ∀ cv, (hitB r iv sv cv → u24 8 cv = 0 ∧ u24 9 cv = 0) ∧ (¬ hitB r iv sv cv → u24 8 cv = u 8 cv ∧ u24 9 cv = u 9 cv) := fun cv => by
                rw [w25.2.1 8 (by decide), w25.2.1 9 (by decide), f3_u21 8 (by decide), f3_u21 9 (by decide)]
                have g := h89 cv
                refine ⟨fun hh => g.1 ?_, fun hh => g.2 (fun z => hh ?_)⟩
                · rcases hh with y | y | y
                  · exact ⟨0, by omega, by omega, by rw [y, show iv - 1 + 0 = iv - 1 by omega]⟩
                  · exact ⟨1, by omega, by omega, by rw [y, show iv - 1 + 1 = iv by omega]⟩
                  · exact ⟨2, by omega, by omega, by rw [y, show iv - 1 + 2 = iv + 1 by omega]⟩
                · obtain ⟨t, t0, t1, t2⟩ := z
                  rcases (show t = 0 ∨ t = 1 ∨ t = 2 by omega) with y | y | y
                  · rw [y, show iv - 1 + 0 = iv - 1 by omega] at t2; exact Or.inl t2
                  · rw [y, show iv - 1 + 1 = iv by omega] at t2; exact Or.inr (Or.inl t2)
                  · rw [y, show iv - 1 + 2 = iv + 1 by omega] at t2; exact Or.inr (Or.inr t2)
              exact W.vret hx hb hr (fun t ht hW => ⟨⟨u24, rfl, by exact ⟨oku24, bulRel ok hrel hBul (by rw [w25.2.1 1 (by decide), f3_u21 1 (by decide), hfr2 1 (by decide) (by decide), hn3 1 (by decide)]) (by rw [w25.2.1 2 (by decide), f3_u21 2 (by decide), hfr2 2 (by decide) (by decide), hn3 2 (by decide)]) (by rw [w25.2.1 3 (by decide), f3_u21 3 (by decide), hfr2 3 (by decide) (by decide), hn3 3 (by decide)]) (fun j j0 j1 => by rw [w25.2.1 6 (by decide)]; exact hq6 j j0 (by rw [hBul.1]; exact j1)) w25.2.2 hh9 (by rw [w25.2.1 10 (by decide), f2_u21 0 (by omega), hfr2 10 (by decide) (by decide), hn3 10 (by decide)]) (by rw [w25.2.1 10 (by decide), f2_u21 1 (by omega), hfr2 10 (by decide) (by decide), hn3 10 (by decide)]) (by rw [w25.2.1 10 (by decide)]; exact l10), by rw [w25.2.1 0 (by decide), f3_u21 0 (by decide), hfr2 0 (by decide) (by decide), hn3 0 (by decide)], by rw [w25.2.1 4 (by decide), f3_u21 4 (by decide), hfr2 4 (by decide) (by decide), hn3 4 (by decide)], by rw [w25.2.1 5 (by decide), f3_u21 5 (by decide), hfr2 5 (by decide) (by decide), hn3 5 (by decide)]⟩, by rw [ht]; exact hP, hD⟩, hS.F ht⟩) hS.2.2 dX3_bulge_161
            · skip
              refine lv_aload_n hx hb dX3_bulge_111 rfl (lv_at hl 0 rfl) ?_
              refine va_get (D := G.1) (ci := 3) (v := .ref (adm 8)) (C := RX3) (T := TX3) (N := 11) hx hb hts hinX3 hown hK hP 0 rfl rfl 8 (by decide) (hts (.fieldLink RX3 29 "MeanderFarmModel" "wear" "[I") (List.mem_of_getElem? (i := 2) rfl)) (fun _ h9 => h9) rfl dX3_bulge_112 ?_
              refine lv_aload_n hx hb dX3_bulge_115 rfl (lv_at hl 0 rfl) ?_
              refine va_get (D := G.1) (ci := 3) (v := .ref (adm 6)) (C := RX3) (T := TX3) (N := 11) hx hb hts hinX3 hown hK hP 0 rfl rfl 6 (by decide) (hts (.fieldLink RX3 23 "MeanderFarmModel" "course" "[I") (List.mem_of_getElem? (i := 1) rfl)) (fun _ h9 => h9) rfl dX3_bulge_116 ?_
              refine lv_iload_n hx hb dX3_bulge_119 rfl (lv_at hl 1 rfl) ?_
              refine lv_iload hx hb dX3_bulge_120 (lv_at hl 3 rfl) ?_
              refine mf_iadd hx hb dX3_bulge_122 ?_
              refine mf_iald (n := 152) (f := u2 6) hx hb hK hP 5 0 rfl rfl (z := iv + k2) (by omega) (by omega) (by decide) dX3_bulge_123 ?_
              refine mf_top (u2 6 (iv + k2)) (u18 6 (iv + k2)) (by rw [hfr2 6 (by decide) (by decide)]) ?_
              have b26 : (0 : Int) ≤ u18 6 (iv + k2) ∧ u18 6 (iv + k2) ≤ 383 := oku18 6 (iv + k2)
              refine mf_top (u18 6 (iv + k2)) (nbr (r 6 (iv - 1 + k2)) sv) (by rw [hcc _ (by omega) (by omega), bulC_new (by omega), show iv + k2 - 1 = iv - 1 + k2 by omega]) ?_
              have bn := hop (iv - 1 + k2) (by omega) (by omega)
              skip
              refine mf_iconst hx hb dX3_bulge_124 ?_
              refine mf_iast (n := 384) (f := u2 8) hx hb hK hP hD hS 7 0 rfl rfl (z := nbr (r 6 (iv - 1 + k2)) sv) (x := 0) (by omega) (by omega) (by decide) dX3_bulge_125 (fun H locs hP hD hS => ?_)
              obtain ⟨u27, eu27⟩ : ∃ z9 : mf_V, z9 = mf_sF u2 8 (mf_up (u2 8) (nbr (r 6 (iv - 1 + k2)) sv) (0)) := ⟨_, rfl⟩
              have hP : va_P G.1 vwCl (MW G hm adm u27) H := by rw [eu27]; exact hP
              have hD : va_D A (MW G hm adm u27) := by rw [eu27]; exact hD
              have oku27 : rOK ulo uhi u27 := by rw [eu27]; exact rOK_up oku2 8 _ _ (show (0 : Int) ≤ 0 by omega) (show 0 ≤ (200000000 : Int) by omega)
              have f1_u27 : u27 8 (nbr (r 6 (iv - 1 + k2)) sv) = 0 := by rw [eu27, mf_sF_s, mf_up_s]
              have f2_u27 : ∀ y, y ≠ (nbr (r 6 (iv - 1 + k2)) sv) → u27 8 y = u2 8 y := fun y hy => by rw [eu27, mf_sF_s, mf_up_n hy]
              have f3_u27 : ∀ q, q ≠ 8 → u27 q = u2 q := fun q hq => by rw [eu27, mf_sF_n hq]
              refine lv_aload_n hx hb dX3_bulge_126 rfl (lv_at hl 0 rfl) ?_
              refine va_get (D := G.1) (ci := 3) (v := .ref (adm 9)) (C := RX3) (T := TX3) (N := 11) hx hb hts hinX3 hown hK hP 0 rfl rfl 9 (by decide) (hts (.fieldLink RX3 32 "MeanderFarmModel" "lake" "[I") (List.mem_of_getElem? (i := 3) rfl)) (fun _ h9 => h9) rfl dX3_bulge_127 ?_
              refine lv_aload_n hx hb dX3_bulge_130 rfl (lv_at hl 0 rfl) ?_
              refine va_get (D := G.1) (ci := 3) (v := .ref (adm 6)) (C := RX3) (T := TX3) (N := 11) hx hb hts hinX3 hown hK hP 0 rfl rfl 6 (by decide) (hts (.fieldLink RX3 23 "MeanderFarmModel" "course" "[I") (List.mem_of_getElem? (i := 1) rfl)) (fun _ h9 => h9) rfl dX3_bulge_131 ?_
              refine lv_iload_n hx hb dX3_bulge_134 rfl (lv_at hl 1 rfl) ?_
              refine lv_iload hx hb dX3_bulge_135 (lv_at hl 3 rfl) ?_
              refine mf_iadd hx hb dX3_bulge_137 ?_
              refine mf_iald (n := 152) (f := u27 6) hx hb hK hP 5 0 rfl rfl (z := iv + k2) (by omega) (by omega) (by decide) dX3_bulge_138 ?_
              refine mf_top (u27 6 (iv + k2)) (u18 6 (iv + k2)) (by rw [f3_u27 6 (by decide), hfr2 6 (by decide) (by decide)]) ?_
              have b28 : (0 : Int) ≤ u18 6 (iv + k2) ∧ u18 6 (iv + k2) ≤ 383 := oku18 6 (iv + k2)
              refine mf_top (u18 6 (iv + k2)) (nbr (r 6 (iv - 1 + k2)) sv) (by rw [hcc _ (by omega) (by omega), bulC_new (by omega), show iv + k2 - 1 = iv - 1 + k2 by omega]) ?_
              have bn := hop (iv - 1 + k2) (by omega) (by omega)
              skip
              refine mf_iconst hx hb dX3_bulge_139 ?_
              refine mf_iast (n := 384) (f := u27 9) hx hb hK hP hD hS 8 0 rfl rfl (z := nbr (r 6 (iv - 1 + k2)) sv) (x := 0) (by omega) (by omega) (by decide) dX3_bulge_140 (fun H locs hP hD hS => ?_)
              obtain ⟨u29, eu29⟩ : ∃ z9 : mf_V, z9 = mf_sF u27 9 (mf_up (u27 9) (nbr (r 6 (iv - 1 + k2)) sv) (0)) := ⟨_, rfl⟩
              have hP : va_P G.1 vwCl (MW G hm adm u29) H := by rw [eu29]; exact hP
              have hD : va_D A (MW G hm adm u29) := by rw [eu29]; exact hD
              have oku29 : rOK ulo uhi u29 := by rw [eu29]; exact rOK_up oku27 9 _ _ (show (0 : Int) ≤ 0 by omega) (show 0 ≤ (10 : Int) by omega)
              have f1_u29 : u29 9 (nbr (r 6 (iv - 1 + k2)) sv) = 0 := by rw [eu29, mf_sF_s, mf_up_s]
              have f2_u29 : ∀ y, y ≠ (nbr (r 6 (iv - 1 + k2)) sv) → u29 9 y = u27 9 y := fun y hy => by rw [eu29, mf_sF_s, mf_up_n hy]
              have f3_u29 : ∀ q, q ≠ 9 → u29 q = u27 q := fun q hq => by rw [eu29, mf_sF_n hq]
              refine lv_iinc (v := iI (k2 + 1)) (lv' := [(6, .int (iI (k2 + 1))), (0, .ref hm), (1, .int (iI (iv))), (2, .int (iI (sv)))]) hx hb dX3_bulge_141 hl (k := 3) rfl (iI_add _ _).symm (by decide) rfl (fun ls hl => ?_)
              refine lv_goto (tgt := 105) hx hb dX3_bulge_144 (by decide) ?_
              exact ih105 (k2 + 1) u29 (by omega) (by first | assumption | omega) (by first | assumption | omega) (by intro k h8 h9; rw [f3_u29 k h9, f3_u27 k h8]; exact hfr2 k h8 h9) (by intro cv; refine ⟨fun hh => ?_, fun hh => ?_⟩; (obtain ⟨t, t0, t1, t2⟩ := hh; by_cases z : cv = nbr (r 6 (iv - 1 + k2)) sv; (rw [z]; exact ⟨by rw [f3_u29 8 (by decide)]; exact f1_u27, f1_u29⟩); (rw [f3_u29 8 (by decide), f2_u27 cv z, f2_u29 cv z, f3_u27 9 (by decide)]; exact (h89 cv).1 ⟨t, t0, by rcases (show t < k2 ∨ t = k2 by omega) with y | y; (exact y); (rw [y] at t2; exact absurd t2 z), t2⟩)); (have z : ¬ cv = nbr (r 6 (iv - 1 + k2)) sv := fun y => hh ⟨k2, by omega, by omega, y⟩; rw [f3_u29 8 (by decide), f2_u27 cv z, f2_u29 cv z, f3_u27 9 (by decide)]; exact (h89 cv).2 (fun ⟨t, t0, t1, t2⟩ => hh ⟨t, t0, by omega, t2⟩))) _ _ hP hD hS ls (lv_sub hl [1, 2, 3, 0] rfl)
        exact lp105 (_ + 1) 0 u18 (Nat.lt_succ_self _) (by first | assumption | omega) (by first | assumption | omega) (by intro k _ _; rfl) (by intro cv; exact ⟨fun ⟨t, t0, t1, _⟩ => by omega, fun _ => by rw [hn3 8 (by decide), hn3 9 (by decide)]; exact ⟨rfl, rfl⟩⟩) _ _ hP hD hS ls (lv_sub hl [1, 2, 3, 0] rfl)
      · skip
        refine lv_aload_n hx hb dX3_bulge_53 rfl (lv_at hl 0 rfl) ?_
        refine va_get (D := G.1) (ci := 3) (v := .ref (adm 6)) (C := RX3) (T := TX3) (N := 11) hx hb hts hinX3 hown hK hP 0 rfl rfl 6 (by decide) (hts (.fieldLink RX3 23 "MeanderFarmModel" "course" "[I") (List.mem_of_getElem? (i := 1) rfl)) (fun _ h9 => h9) rfl dX3_bulge_54 ?_
        refine lv_iload hx hb dX3_bulge_57 (lv_at hl 6 rfl) ?_
        refine mf_iconst hx hb dX3_bulge_59 ?_
        refine mf_iadd hx hb dX3_bulge_60 ?_
        refine lv_aload_n hx hb dX3_bulge_61 rfl (lv_at hl 0 rfl) ?_
        refine va_get (D := G.1) (ci := 3) (v := .ref (adm 6)) (C := RX3) (T := TX3) (N := 11) hx hb hts hinX3 hown hK hP 0 rfl rfl 6 (by decide) (hts (.fieldLink RX3 23 "MeanderFarmModel" "course" "[I") (List.mem_of_getElem? (i := 1) rfl)) (fun _ h9 => h9) rfl dX3_bulge_62 ?_
        refine lv_iload hx hb dX3_bulge_65 (lv_at hl 6 rfl) ?_
        refine mf_iald (n := 152) (f := u1 6) hx hb hK hP 5 0 rfl rfl (z := kv) (by omega) (by omega) (by decide) dX3_bulge_67 ?_
        have b30 : (0 : Int) ≤ u1 6 kv ∧ u1 6 kv ≤ 383 := oku1 6 (kv)
        refine mf_top (u1 6 kv) (r 6 kv) (by rw [hlo kv (by omega), rel6 hrel (by omega) (by omega)]) ?_
        have bk : (0 : Int) ≤ r 6 kv ∧ r 6 kv ≤ 383 := ok 6 kv
        skip
        refine mf_iast (n := 152) (f := u1 6) hx hb hK hP hD hS 5 0 rfl rfl (z := kv + 2) (x := r 6 kv) (by omega) (by omega) (by decide) dX3_bulge_68 (fun H locs hP hD hS => ?_)
        obtain ⟨u31, eu31⟩ : ∃ z9 : mf_V, z9 = mf_sF u1 6 (mf_up (u1 6) (kv + 2) (r 6 kv)) := ⟨_, rfl⟩
        have hP : va_P G.1 vwCl (MW G hm adm u31) H := by rw [eu31]; exact hP
        have hD : va_D A (MW G hm adm u31) := by rw [eu31]; exact hD
        have oku31 : rOK ulo uhi u31 := by rw [eu31]; exact rOK_up oku1 6 _ _ (show (0 : Int) ≤ r 6 kv by omega) (show r 6 kv ≤ (383 : Int) by omega)
        have f1_u31 : u31 6 (kv + 2) = r 6 kv := by rw [eu31, mf_sF_s, mf_up_s]
        have f2_u31 : ∀ y, y ≠ (kv + 2) → u31 6 y = u1 6 y := fun y hy => by rw [eu31, mf_sF_s, mf_up_n hy]
        have f3_u31 : ∀ q, q ≠ 6 → u31 q = u1 q := fun q hq => by rw [eu31, mf_sF_n hq]
        refine lv_iinc (v := iI (kv + (-1))) (lv' := [(6, .int (iI (kv + (-1)))), (0, .ref hm), (1, .int (iI (iv))), (2, .int (iI (sv))), (3, .int (iI (y3))), (4, .int (iI (y7))), (5, .int (iI (y11)))]) hx hb dX3_bulge_69 hl (k := 6) rfl (iI_add _ _).symm (by decide) rfl (fun ls hl => ?_)
        refine lv_goto (tgt := 47) hx hb dX3_bulge_72 (by decide) ?_
        exact ih47 (kv + (-1)) u31 (by omega) (by first | assumption | omega) (by first | assumption | omega) (by intro k hk; rw [f3_u31 k hk]; exact hfr k hk) (by intro j hj; rw [f2_u31 j (by omega)]; exact hlo j (by omega)) (by intro j h0 h1; rcases (show kv + 2 < j ∨ j = kv + 2 by omega) with z | z; (rw [f2_u31 j (by omega)]; exact hhi j z h1); (rw [z, f1_u31]; congr 1; omega)) _ _ hP hD hS ls (lv_sub hl [1, 2, 3, 4, 5, 6, 0] rfl)
  exact lp47 (_ + 1) ((r 7 0) - 1) u (Nat.lt_succ_self _) (by first | assumption | omega) (by first | assumption | omega) (by intro k _; rfl) (by intro j _; rfl) (by intro j h0 h1; omega) _ _ hP hD hS ls (lv_sub hl [4, 5, 6, 3, 2, 1, 0] rfl)
set_option maxHeartbeats 4000000 in
set_option maxRecDepth 100000 in
theorem c_X3_breakThrough (l : Launch) (G : mf_G) (hm : Nat) (adm : Nat → Nat) (u : mf_V)  (iv : Int) (jv : Int) (r : mf_V) (q : mf_V) (hiv : i32 iv) (hjv : i32 jv) (oku : rOK ulo uhi u) (ok : rOK rlo rhi r) (hI : RInv r) (hrel : relU r u) (okq : rOK rlo rhi q) (hq : RInv q) (hnk : neckP r iv jv) (hBrk : Brk r iv jv q) (hbk : r 9 0 < 100000000) (sz : Nat) : Met l yX3_breakThrough wsX3_breakThrough ({ frames := 2, cells := 0, slots := 0, locals := 41 }) (va_Pc [.ref hm, .int (iI (iv)), .int (iI (jv))] (WrP G (MW G hm adm u) sz)) (va_Qv (fun (u' : mf_V) => rOK ulo uhi u' ∧ relU q u' ∧ frU u u') (fun (u' : mf_V) t => WrQ G (va_A (MW G hm adm u) sz) (MW G hm adm u') t) (va_A (MW G hm adm u) sz)) 0 0 (va_A (MW G hm adm u) sz) := by
  refine Met.ofW (cc := cX3_breakThrough) (maxL := 4) (ret := none) (by decide) rfl ?_
  intro p e s m args below meth c s₁ B hml hv
  obtain ⟨rfl, hsz, hP, hK, hD0, hN⟩ := hv
  have hx := B.exec
  have hb := B.bytes
  have hr := B.returns
  have hts := atoms_spec (ws := wsX3_breakThrough) B.pre
  have hown : s.vm.findClass RX3 = some m.cls := findClass_of_methodNamed B.named
  have hlocks := B.notSynchronized
  have hinX3 : ∀ w ∈ u_ws RX3 TX3 11, w ∈ wsX3_breakThrough := fun w h => List.mem_cons_of_mem _ (List.mem_append_right _ h)
  subst hsz
  have hD := hD0.self (sz := s.heap.size)
  generalize hAe : va_A (MW G hm adm u) s.heap.size = A at hD ⊢
  have hA : ∀ q : Nat, s.heap.size ≤ q → A q := fun q h => by rw [← hAe]; exact Or.inr h
  have hS : va_S A s.heap s.heap [] := va_S.rf
  have hl := lv_entry ([.ref hm, .int (iI (iv)), .int (iI (jv))]) (n := 4) (Nat.le_of_ble_eq_true rfl)
  rw [lg_entry_eq]
  generalize (lg_sl ([.ref hm, .int (iI (iv)), .int (iI (jv))]) ++ List.replicate (4 - (lg_sl ([.ref hm, .int (iI (iv)), .int (iI (jv))])).length) Slot.unset).toArray = ls at hl ⊢
  have hl : lv_has ls 4 [(0, .ref hm), (1, .int (iI (iv))), (2, .int (iI (jv)))] := hl
  have hiv1 := hiv.1
  have hiv2 := hiv.2
  have hjv1 := hjv.1
  have hjv2 := hjv.2
  have okLr : (0 : Int) ≤ r 7 0 ∧ r 7 0 ≤ 150 := ok 7 0
  obtain ⟨i0, j1, ij, hdn⟩ := neckP_w hnk
  refine lv_iload_n hx hb dX3_breakThrough_0 rfl (lv_at hl 1 rfl) ?_
  refine mf_iconst hx hb dX3_breakThrough_1 ?_
  refine mf_iadd hx hb dX3_breakThrough_2 ?_
  refine lv_istore_n (lv' := [(3, .int (iI (iv + 1))), (0, .ref hm), (1, .int (iI (iv))), (2, .int (iI (jv)))]) hx hb dX3_breakThrough_3 rfl hl (by decide) rfl (fun ls hl => ?_)
  have lp4 : ∀ (n : Nat) (kv : Int) (u1 : mf_V), (jv - kv).toNat < n → (iv + 1 ≤ kv ∧ kv ≤ jv) → (rOK ulo uhi u1) → (∀ k, k ≠ 9 → u1 k = u k) → (∀ c, (∃ k, iv < k ∧ k < kv ∧ r 6 k = c) → u1 9 c = 10) → (∀ c, (∀ k, iv < k → k < kv → ¬ r 6 k = c) → u1 9 c = u 9 c) → ∀ (H : Heap) (locs : List Loc), va_P G.1 vwCl (MW G hm adm u1) H → va_D A (MW G hm adm u1) → va_S A s.heap H locs → ∀ (ls : Array Slot), lv_has ls 4 [(0, .ref hm), (1, .int (iI (iv))), (2, .int (iI (jv))), (3, .int (iI (kv)))] → W p l e (headSpec wsX3_breakThrough ({ frames := 2, cells := 0, slots := 0, locals := 41 })).room s m ([.ref hm, .int (iI (iv)), .int (iI (jv))] : List Value).toArray below meth c H locs 0 0 (MQ below (va_Qv (fun (u' : mf_V) => rOK ulo uhi u' ∧ relU q u' ∧ frU u u') (fun (u' : mf_V) t => WrQ G A (MW G hm adm u') t) A) ([.ref hm, .int (iI (iv)), .int (iI (jv))] : List Value).toArray s 0 0 A) (F0 m 4 ls []) := by
    intro n
    induction n with
    | zero => intro kv u1 hn; exact absurd hn (Nat.not_lt_zero _)
    | succ n ih4 =>
      intro kv u1 hn hk oku1 hfr hla hl2 H locs hP hD hS ls hl
      refine lv_iload_n hx hb dX3_breakThrough_4 rfl (lv_at hl 3 rfl) ?_
      refine lv_iload_n hx hb dX3_breakThrough_5 rfl (lv_at hl 2 rfl) ?_
      refine mf_icmp_ge (tgt := 28) hx hb dX3_breakThrough_6 (by decide) (i32_mk (by omega) (by omega)) (i32_mk (by omega) (by omega)) (fun c1 => ?_) (fun c1 => ?_)
      · skip
        have hkj : kv = jv := by omega
        rw [hkj] at hla hl2
        refine lv_iload_n hx hb dX3_breakThrough_28 rfl (lv_at hl 2 rfl) ?_
        refine lv_istore_n (lv' := [(3, .int (iI (jv))), (0, .ref hm), (1, .int (iI (iv))), (2, .int (iI (jv)))]) hx hb dX3_breakThrough_29 rfl hl (by decide) rfl (fun ls hl => ?_)
        have lp30 : ∀ (n : Nat) (k2 : Int) (u2 : mf_V), (r 7 0 - k2).toNat < n → (jv ≤ k2 ∧ k2 ≤ r 7 0) → (rOK ulo uhi u2) → (∀ k, k ≠ 6 → u2 k = u1 k) → (∀ t, iv < t → t < k2 - (jv - iv - 1) → u2 6 t = r 6 (t + (jv - iv - 1))) → (∀ t, (t ≤ iv ∨ k2 - (jv - iv - 1) ≤ t) → u2 6 t = u 6 t) → ∀ (H : Heap) (locs : List Loc), va_P G.1 vwCl (MW G hm adm u2) H → va_D A (MW G hm adm u2) → va_S A s.heap H locs → ∀ (ls : Array Slot), lv_has ls 4 [(0, .ref hm), (1, .int (iI (iv))), (2, .int (iI (jv))), (3, .int (iI (k2)))] → W p l e (headSpec wsX3_breakThrough ({ frames := 2, cells := 0, slots := 0, locals := 41 })).room s m ([.ref hm, .int (iI (iv)), .int (iI (jv))] : List Value).toArray below meth c H locs 0 0 (MQ below (va_Qv (fun (u' : mf_V) => rOK ulo uhi u' ∧ relU q u' ∧ frU u u') (fun (u' : mf_V) t => WrQ G A (MW G hm adm u') t) A) ([.ref hm, .int (iI (iv)), .int (iI (jv))] : List Value).toArray s 0 0 A) (F0 m 30 ls []) := by
          intro n
          induction n with
          | zero => intro k2 u2 hn; exact absurd hn (Nat.not_lt_zero _)
          | succ n ih30 =>
            intro k2 u2 hn hk2 oku2 hfr2 hsh hhi H locs hP hD hS ls hl
            refine lv_iload_n hx hb dX3_breakThrough_30 rfl (lv_at hl 3 rfl) ?_
            refine lv_aload_n hx hb dX3_breakThrough_31 rfl (lv_at hl 0 rfl) ?_
            refine vp_callSi (va_Run.run (va_runV (As := []) (rest := [.int (iI (k2))]) ⟨hx, hb, hml, hown, hts⟩ (c_X3_length l G hm adm u2 (by assumption)) (cwV 0 hts gX3_breakThrough_X3_length rfl rfl rfl (by decide +kernel) ⟨Nat.le_of_ble_eq_true rfl, Nat.le_of_ble_eq_true rfl⟩) (rdV (wc := MW G hm adm u2) hK hP hN [0, 1, 2, 3, 4, 5, 6, 7, 8, 9] rfl (ci := 3) rfl rfl) rfl rfl hl.1 rfl (lv_room (Nat.le_of_ble_eq_true rfl)) dX3_breakThrough_32 ⟨(Nat.zero_le _), (Nat.zero_le _)⟩)) (fun q2 hq2 => ?_)
            subst hq2
            refine mf_top (u2 10 2) (r 7 0) (by rw [hfr2 10 (by decide), hfr 10 (by decide), rel10_2 hrel]) ?_
            have b3 : (0 : Int) ≤ r 7 0 ∧ r 7 0 ≤ 150 := ok 7 0
            refine mf_icmp_ge (tgt := 62) hx hb dX3_breakThrough_35 (by decide) (i32_mk (by omega) (by omega)) (i32_mk (by omega) (by omega)) (fun c4 => ?_) (fun c4 => ?_)
            · skip
              refine lv_aload_n hx hb dX3_breakThrough_62 rfl (lv_at hl 0 rfl) ?_
              refine va_get (D := G.1) (ci := 3) (v := .ref (adm 10)) (C := RX3) (T := TX3) (N := 11) hx hb hts hinX3 hown hK hP 0 rfl rfl 10 (by decide) (hts (.fieldLink RX3 35 "MeanderFarmModel" "numbers" "[I") (List.mem_of_getElem? (i := 3) rfl)) (fun _ h9 => h9) rfl dX3_breakThrough_63 ?_
              refine mf_iconst hx hb dX3_breakThrough_66 ?_
              refine lv_dup2_11 hx hb dX3_breakThrough_67 rfl rfl ?_
              refine mf_iald (n := 3) (f := u2 10) hx hb hK hP 9 0 rfl rfl (z := 2) (by omega) (by omega) (by decide) dX3_breakThrough_68 ?_
              refine mf_top (u2 10 2) (r 7 0) (by rw [hfr2 10 (by decide), hfr 10 (by decide), rel10_2 hrel]) ?_
              have b5 : (0 : Int) ≤ r 7 0 ∧ r 7 0 ≤ 150 := ok 7 0
              refine lv_iload_n hx hb dX3_breakThrough_69 rfl (lv_at hl 2 rfl) ?_
              refine lv_iload_n hx hb dX3_breakThrough_70 rfl (lv_at hl 1 rfl) ?_
              refine mf_isub hx hb dX3_breakThrough_71 ?_
              refine mf_iconst hx hb dX3_breakThrough_72 ?_
              refine mf_isub hx hb dX3_breakThrough_73 ?_
              refine mf_isub hx hb dX3_breakThrough_74 ?_
              refine mf_iast (n := 3) (f := u2 10) hx hb hK hP hD hS 9 0 rfl rfl (z := 2) (x := (r 7 0) - ((jv - iv) - 1)) (by omega) (by omega) (by decide) dX3_breakThrough_75 (fun H locs hP hD hS => ?_)
              obtain ⟨u6, eu6⟩ : ∃ z9 : mf_V, z9 = mf_sF u2 10 (mf_up (u2 10) (2) ((r 7 0) - ((jv - iv) - 1))) := ⟨_, rfl⟩
              have hP : va_P G.1 vwCl (MW G hm adm u6) H := by rw [eu6]; exact hP
              have hD : va_D A (MW G hm adm u6) := by rw [eu6]; exact hD
              have oku6 : rOK ulo uhi u6 := by rw [eu6]; exact rOK_up oku2 10 _ _ (show (0 : Int) ≤ (r 7 0) - ((jv - iv) - 1) by omega) (show (r 7 0) - ((jv - iv) - 1) ≤ (100000000 : Int) by omega)
              have f1_u6 : u6 10 (2) = (r 7 0) - ((jv - iv) - 1) := by rw [eu6, mf_sF_s, mf_up_s]
              have f2_u6 : ∀ y, y ≠ (2) → u6 10 y = u2 10 y := fun y hy => by rw [eu6, mf_sF_s, mf_up_n hy]
              have f3_u6 : ∀ q, q ≠ 10 → u6 q = u2 q := fun q hq => by rw [eu6, mf_sF_n hq]
              refine lv_aload_n hx hb dX3_breakThrough_76 rfl (lv_at hl 0 rfl) ?_
              refine va_get (D := G.1) (ci := 3) (v := .ref (adm 10)) (C := RX3) (T := TX3) (N := 11) hx hb hts hinX3 hown hK hP 0 rfl rfl 10 (by decide) (hts (.fieldLink RX3 35 "MeanderFarmModel" "numbers" "[I") (List.mem_of_getElem? (i := 3) rfl)) (fun _ h9 => h9) rfl dX3_breakThrough_77 ?_
              refine mf_iconst hx hb dX3_breakThrough_80 ?_
              refine lv_dup2_11 hx hb dX3_breakThrough_81 rfl rfl ?_
              refine mf_iald (n := 3) (f := u6 10) hx hb hK hP 9 0 rfl rfl (z := 1) (by omega) (by omega) (by decide) dX3_breakThrough_82 ?_
              refine mf_top (u6 10 1) (r 9 0) (by rw [f2_u6 1 (by decide), hfr2 10 (by decide), hfr 10 (by decide), rel10_1 hrel]) ?_
              have b7 : (0 : Int) ≤ r 9 0 ∧ r 9 0 ≤ 100000000 := ok 9 0
              refine mf_iconst hx hb dX3_breakThrough_83 ?_
              refine mf_iadd hx hb dX3_breakThrough_84 ?_
              refine mf_iast (n := 3) (f := u6 10) hx hb hK hP hD hS 9 0 rfl rfl (z := 1) (x := (r 9 0) + 1) (by omega) (by omega) (by decide) dX3_breakThrough_85 (fun H locs hP hD hS => ?_)
              obtain ⟨u8, eu8⟩ : ∃ z9 : mf_V, z9 = mf_sF u6 10 (mf_up (u6 10) (1) ((r 9 0) + 1)) := ⟨_, rfl⟩
              have hP : va_P G.1 vwCl (MW G hm adm u8) H := by rw [eu8]; exact hP
              have hD : va_D A (MW G hm adm u8) := by rw [eu8]; exact hD
              have oku8 : rOK ulo uhi u8 := by rw [eu8]; exact rOK_up oku6 10 _ _ (show (0 : Int) ≤ (r 9 0) + 1 by omega) (show (r 9 0) + 1 ≤ (100000000 : Int) by omega)
              have f1_u8 : u8 10 (1) = (r 9 0) + 1 := by rw [eu8, mf_sF_s, mf_up_s]
              have f2_u8 : ∀ y, y ≠ (1) → u8 10 y = u6 10 y := fun y hy => by rw [eu8, mf_sF_s, mf_up_n hy]
              have f3_u8 : ∀ q, q ≠ 10 → u8 q = u6 q := fun q hq => by rw [eu8, mf_sF_n hq]
              have l10 : u8 10 2 = r 7 0 - (jv - iv - 1) := by rw [f2_u8 2 (by omega)]; exact f1_u6
              have l11 : u8 10 1 = r 9 0 + 1 := f1_u8
              have l12 : u8 10 0 = u 10 0 := by rw [f2_u8 0 (by omega), f2_u6 0 (by omega), hfr2 10 (by decide), hfr 10 (by decide)]
              have hq6 : rgA (q 7 0) (u8 6) (q 6) := fun j j0 j1 => by
                rw [hBrk.1] at j1
                rw [f3_u8 6 (by decide), f3_u6 6 (by decide), hBrk.2.1 j j0 j1]
                by_cases z : j ≤ iv
                · rw [brkC_lo z, hhi j (Or.inl z)]; exact rel6 hrel (by omega) (by omega)
                · rw [brkC_hi (by omega)]; exact hsh j (by omega) (by omega)
              have hyq : ∀ k, k ≠ 10 → k ≠ 6 → k ≠ 9 → u8 k = u k := fun k h1 h2 h3 => by rw [f3_u8 k h1, f3_u6 k h1, hfr2 k h2, hfr k h3]
              have hy9 : u8 9 = u1 9 := by rw [f3_u8 9 (by decide), f3_u6 9 (by decide), hfr2 9 (by decide)]
              skip
              refine lv_aload_n hx hb dX3_breakThrough_86 rfl (lv_at hl 0 rfl) ?_
              have hFc := va_free (wc := MW G hm adm u8) hD hS hA [0, 1, 2, 3, 4, 5, 6, 7, 8, 9] rfl
              refine va_callv (va_runV (As := []) (rest := []) ⟨hx, hb, hml, hown, hts⟩ (c_X3_place l G hm adm u8 (q) (by assumption) (by assumption) (by first | assumption | omega) (by exact hq6) (by rw [hBrk.1]; exact l10) _) (cwV 0 hts gX3_breakThrough_X3_place rfl rfl rfl (by decide +kernel) ⟨Nat.le_of_ble_eq_true rfl, Nat.le_of_ble_eq_true rfl⟩) (wrV (wc := MW G hm adm u8) hK hP hD hN [0, 1, 2, 3, 4, 5, 6, 7, 8, 9] (by decide) rfl rfl (ci := 3) rfl rfl) rfl rfl hl.1 rfl (lv_room (Nat.le_of_ble_eq_true rfl)) dX3_breakThrough_87 ⟨(Nat.zero_le _), (Nat.zero_le _)⟩) hS (fun q _ h => hFc q h) hFc (fun u10 t H1 locs ht hvm hw hB hz1 hk1 hS => ?_)
              obtain ⟨u11, rfl⟩ : ∃ z, z = u10 := ⟨_, rfl⟩
              try dsimp only at hw hB
              obtain ⟨hP, hD⟩ := wrJ (ws := MW G hm adm u8) (w1 := MW G hm adm u11) ht hFc hB
              have hP : va_P G.1 vwCl (MW G hm adm u11) H1 := hP
              have hD : va_D A (MW G hm adm u11) := hD
              clear hB hk1 hFc ht hz1 hvm
              generalize H1 = H at hP hS ⊢
              have w12 := hw; clear hw
              have oku11 : rOK ulo uhi u11 := w12.1
              exact W.vret hx hb hr (fun t ht hW => ⟨⟨u11, rfl, by exact ⟨oku11, brkRel hI hnk hrel hBrk (by rw [w12.2.1 1 (by decide), hyq 1 (by decide) (by decide) (by decide)]) (by rw [w12.2.1 2 (by decide), hyq 2 (by decide) (by decide) (by decide)]) (by rw [w12.2.1 3 (by decide), hyq 3 (by decide) (by decide) (by decide)]) (by rw [w12.2.1 8 (by decide), hyq 8 (by decide) (by decide) (by decide)]) (fun j j0 j1 => by rw [w12.2.1 6 (by decide)]; exact hq6 j j0 (by rw [hBrk.1]; exact j1)) w12.2.2 (by rw [w12.2.1 9 (by decide), hy9]; exact hla) (by rw [w12.2.1 9 (by decide), hy9]; exact hl2) (by rw [w12.2.1 10 (by decide)]; exact l12) (by rw [w12.2.1 10 (by decide)]; exact l11) (by rw [w12.2.1 10 (by decide)]; exact l10), by rw [w12.2.1 0 (by decide), hyq 0 (by decide) (by decide) (by decide)], by rw [w12.2.1 4 (by decide), hyq 4 (by decide) (by decide) (by decide)], by rw [w12.2.1 5 (by decide), hyq 5 (by decide) (by decide) (by decide)]⟩, by rw [ht]; exact hP, hD⟩, hS.F ht⟩) hS.2.2 dX3_breakThrough_90
            · skip
              refine lv_aload_n hx hb dX3_breakThrough_38 rfl (lv_at hl 0 rfl) ?_
              refine va_get (D := G.1) (ci := 3) (v := .ref (adm 6)) (C := RX3) (T := TX3) (N := 11) hx hb hts hinX3 hown hK hP 0 rfl rfl 6 (by decide) (hts (.fieldLink RX3 23 "MeanderFarmModel" "course" "[I") (List.mem_of_getElem? (i := 2) rfl)) (fun _ h9 => h9) rfl dX3_breakThrough_39 ?_
              refine lv_iload_n hx hb dX3_breakThrough_42 rfl (lv_at hl 3 rfl) ?_
              refine lv_iload_n hx hb dX3_breakThrough_43 rfl (lv_at hl 2 rfl) ?_
              refine mf_isub hx hb dX3_breakThrough_44 ?_
              refine lv_iload_n hx hb dX3_breakThrough_45 rfl (lv_at hl 1 rfl) ?_
              refine mf_iadd hx hb dX3_breakThrough_46 ?_
              refine mf_iconst hx hb dX3_breakThrough_47 ?_
              refine mf_iadd hx hb dX3_breakThrough_48 ?_
              refine lv_aload_n hx hb dX3_breakThrough_49 rfl (lv_at hl 0 rfl) ?_
              refine va_get (D := G.1) (ci := 3) (v := .ref (adm 6)) (C := RX3) (T := TX3) (N := 11) hx hb hts hinX3 hown hK hP 0 rfl rfl 6 (by decide) (hts (.fieldLink RX3 23 "MeanderFarmModel" "course" "[I") (List.mem_of_getElem? (i := 2) rfl)) (fun _ h9 => h9) rfl dX3_breakThrough_50 ?_
              refine lv_iload_n hx hb dX3_breakThrough_53 rfl (lv_at hl 3 rfl) ?_
              refine mf_iald (n := 152) (f := u2 6) hx hb hK hP 5 0 rfl rfl (z := k2) (by omega) (by omega) (by decide) dX3_breakThrough_54 ?_
              have b13 : (0 : Int) ≤ u2 6 k2 ∧ u2 6 k2 ≤ 383 := oku2 6 (k2)
              refine mf_top (u2 6 k2) (r 6 k2) (by rw [hhi k2 (Or.inr (by omega))]; exact rel6 hrel (by omega) (by omega)) ?_
              have bk : (0 : Int) ≤ r 6 k2 ∧ r 6 k2 ≤ 383 := ok 6 k2
              skip
              refine mf_iast (n := 152) (f := u2 6) hx hb hK hP hD hS 5 0 rfl rfl (z := ((k2 - jv) + iv) + 1) (x := r 6 k2) (by omega) (by omega) (by decide) dX3_breakThrough_55 (fun H locs hP hD hS => ?_)
              obtain ⟨u14, eu14⟩ : ∃ z9 : mf_V, z9 = mf_sF u2 6 (mf_up (u2 6) (((k2 - jv) + iv) + 1) (r 6 k2)) := ⟨_, rfl⟩
              have hP : va_P G.1 vwCl (MW G hm adm u14) H := by rw [eu14]; exact hP
              have hD : va_D A (MW G hm adm u14) := by rw [eu14]; exact hD
              have oku14 : rOK ulo uhi u14 := by rw [eu14]; exact rOK_up oku2 6 _ _ (show (0 : Int) ≤ r 6 k2 by omega) (show r 6 k2 ≤ (383 : Int) by omega)
              have f1_u14 : u14 6 (((k2 - jv) + iv) + 1) = r 6 k2 := by rw [eu14, mf_sF_s, mf_up_s]
              have f2_u14 : ∀ y, y ≠ (((k2 - jv) + iv) + 1) → u14 6 y = u2 6 y := fun y hy => by rw [eu14, mf_sF_s, mf_up_n hy]
              have f3_u14 : ∀ q, q ≠ 6 → u14 q = u2 q := fun q hq => by rw [eu14, mf_sF_n hq]
              refine lv_iinc (v := iI (k2 + 1)) (lv' := [(3, .int (iI (k2 + 1))), (0, .ref hm), (1, .int (iI (iv))), (2, .int (iI (jv)))]) hx hb dX3_breakThrough_56 hl (k := 3) rfl (iI_add _ _).symm (by decide) rfl (fun ls hl => ?_)
              refine lv_goto (tgt := 30) hx hb dX3_breakThrough_59 (by decide) ?_
              exact ih30 (k2 + 1) u14 (by omega) (by first | assumption | omega) (by first | assumption | omega) (by intro k hk; rw [f3_u14 k hk]; exact hfr2 k hk) (by intro t h0 h1; rcases (show t < k2 - (jv - iv - 1) ∨ t = k2 - (jv - iv - 1) by omega) with z | z; (rw [f2_u14 t (by omega)]; exact hsh t h0 z); (rw [show t = (((k2 - jv) + iv) + 1) by omega, f1_u14]; congr 1; omega)) (by intro t ht; rw [f2_u14 t (by omega)]; exact hhi t (by omega)) _ _ hP hD hS ls (lv_sub hl [1, 2, 3, 0] rfl)
        exact lp30 (_ + 1) jv u1 (Nat.lt_succ_self _) (by first | assumption | omega) (by first | assumption | omega) (by intro k _; rfl) (by intro t h0 h1; omega) (by intro t _; rw [hfr 6 (by decide)]) _ _ hP hD hS ls (lv_sub hl [1, 2, 3, 0] rfl)
      · skip
        refine lv_aload_n hx hb dX3_breakThrough_9 rfl (lv_at hl 0 rfl) ?_
        refine va_get (D := G.1) (ci := 3) (v := .ref (adm 9)) (C := RX3) (T := TX3) (N := 11) hx hb hts hinX3 hown hK hP 0 rfl rfl 9 (by decide) (hts (.fieldLink RX3 32 "MeanderFarmModel" "lake" "[I") (List.mem_of_getElem? (i := 1) rfl)) (fun _ h9 => h9) rfl dX3_breakThrough_10 ?_
        refine lv_aload_n hx hb dX3_breakThrough_13 rfl (lv_at hl 0 rfl) ?_
        refine va_get (D := G.1) (ci := 3) (v := .ref (adm 6)) (C := RX3) (T := TX3) (N := 11) hx hb hts hinX3 hown hK hP 0 rfl rfl 6 (by decide) (hts (.fieldLink RX3 23 "MeanderFarmModel" "course" "[I") (List.mem_of_getElem? (i := 2) rfl)) (fun _ h9 => h9) rfl dX3_breakThrough_14 ?_
        refine lv_iload_n hx hb dX3_breakThrough_17 rfl (lv_at hl 3 rfl) ?_
        refine mf_iald (n := 152) (f := u1 6) hx hb hK hP 5 0 rfl rfl (z := kv) (by omega) (by omega) (by decide) dX3_breakThrough_18 ?_
        refine mf_top (u1 6 kv) (r 6 kv) (by rw [hfr 6 (by decide), (rel6 hrel (z := kv) (by omega) (by omega))]) ?_
        have b15 : (0 : Int) ≤ r 6 kv ∧ r 6 kv ≤ 383 := ok 6 (kv)
        refine mf_bipush hx hb dX3_breakThrough_19 rfl ?_
        refine mf_iast (n := 384) (f := u1 9) hx hb hK hP hD hS 8 0 rfl rfl (z := r 6 kv) (x := 10) (by omega) (by omega) (by decide) dX3_breakThrough_21 (fun H locs hP hD hS => ?_)
        obtain ⟨u16, eu16⟩ : ∃ z9 : mf_V, z9 = mf_sF u1 9 (mf_up (u1 9) (r 6 kv) (10)) := ⟨_, rfl⟩
        have hP : va_P G.1 vwCl (MW G hm adm u16) H := by rw [eu16]; exact hP
        have hD : va_D A (MW G hm adm u16) := by rw [eu16]; exact hD
        have oku16 : rOK ulo uhi u16 := by rw [eu16]; exact rOK_up oku1 9 _ _ (show (0 : Int) ≤ 10 by omega) (show 10 ≤ (10 : Int) by omega)
        have f1_u16 : u16 9 (r 6 kv) = 10 := by rw [eu16, mf_sF_s, mf_up_s]
        have f2_u16 : ∀ y, y ≠ (r 6 kv) → u16 9 y = u1 9 y := fun y hy => by rw [eu16, mf_sF_s, mf_up_n hy]
        have f3_u16 : ∀ q, q ≠ 9 → u16 q = u1 q := fun q hq => by rw [eu16, mf_sF_n hq]
        refine lv_iinc (v := iI (kv + 1)) (lv' := [(3, .int (iI (kv + 1))), (0, .ref hm), (1, .int (iI (iv))), (2, .int (iI (jv)))]) hx hb dX3_breakThrough_22 hl (k := 3) rfl (iI_add _ _).symm (by decide) rfl (fun ls hl => ?_)
        refine lv_goto (tgt := 4) hx hb dX3_breakThrough_25 (by decide) ?_
        exact ih4 (kv + 1) u16 (by omega) (by first | assumption | omega) (by first | assumption | omega) (by intro k hk; rw [f3_u16 k hk]; exact hfr k hk) (by intro cv hcv; obtain ⟨k, k0, k1, k2⟩ := hcv; by_cases z : cv = r 6 kv; (rw [z]; exact f1_u16); (rw [f2_u16 cv z]; exact hla cv ⟨k, k0, by rcases (show k < kv ∨ k = kv by omega) with y | y; (exact y); (rw [y] at k2; exact absurd k2.symm z), k2⟩)) (by intro cv hcv; rw [f2_u16 cv (fun y => hcv kv (by omega) (by omega) y.symm)]; exact hl2 cv (fun k x y => hcv k x (by omega))) _ _ hP hD hS ls (lv_sub hl [1, 2, 3, 0] rfl)
  exact lp4 (_ + 1) (iv + 1) u (Nat.lt_succ_self _) (by first | assumption | omega) (by first | assumption | omega) (by intro k _; rfl) (by intro c ⟨k, k0, k1, _⟩; omega) (by intro c _; rfl) _ _ hP hD hS ls (lv_sub hl [1, 2, 3, 0] rfl)
