/-! 62.simwrite: how the Sim changes -/
/-- where holds the places of the course of q -/
def plS (q u : mf_V) : Prop := (∀ i, 0 ≤ i → i < q 7 0 → u 8 (q 6 i) = i + 1) ∧ ∀ c, 0 ≤ c → c < 384 → (∀ i, 0 ≤ i → i < q 7 0 → ¬ q 6 i = c) → u 8 c = 0
theorem placeEndS {q u : mf_V} (hq : RInv q) (hpl : ∀ i, 0 ≤ i → i < q 7 0 → u 8 (q 6 i) = i + 1) (hpn : ∀ c, 0 ≤ c → c < 384 → (∀ i, 0 ≤ i → i < q 7 0 → ¬ q 6 i = c) → u 8 c = 0) : rgA 384 (u 8) (fun c => q 10 c + 1) := fun c c0 c1 => by
  show u 8 c = q 10 c + 1
  rcases hq.2.2.1.2 c c0 c1 with y | ⟨y1, y2, y3⟩
  · rw [y, hpn c c0 c1 (fun i i0 i1 z => by have g := hq.2.2.1.1 i i0 i1; rw [z, y] at g; omega)]; rfl
  · have g := hpl _ y1 y2
    rw [y3] at g; exact g
theorem bulRelS {r u q w : mf_V} {i t : Int} {n n2 : Nat} (hrel : relS r n u) (hB : Bul r i t q) (hn : (n2 : Int) = r 7 0 + 2) (h0 : w 0 = u 0) (h1 : w 1 = u 1) (h3 : w 3 = u 3) (h4 : w 4 = u 4) (h7 : w 7 = u 7) (h2 : rgA (r 7 0 + 2) (w 2) (q 6)) (h8 : rgA 384 (w 8) (fun c => q 10 c + 1)) (h5 : ∀ c, (hitB r i t c → w 5 c = 0) ∧ (¬ hitB r i t c → w 5 c = u 5 c)) : relS q n2 w := by
  obtain ⟨b7, b6, bc, b0, b2, b5, b8, b9⟩ := hB
  obtain ⟨e9, e0, e1, e2, e3, e4, e5, e7, e8⟩ := hrel
  refine ⟨by rw [hn, b7], by rw [h0, e0, b8], by rw [h1, e1, b9], fun z z0 z1 => by rw [b7] at z1; exact h2 z z0 z1, fun z z0 z1 => by rw [h3, b0]; exact e3 z z0 z1, fun z z0 z1 => by rw [h4, b2]; exact e4 z z0 z1, fun z z0 z1 => ?_, fun z z0 z1 => by rw [h7, b5]; exact e7 z z0 z1, h8⟩
  by_cases y : hitB r i t z
  · rw [(h5 z).1 y, ((bc z).1 y).1]
  · rw [(h5 z).2 y, ((bc z).2 y).1]; exact e5 z z0 z1
theorem brkRelS {r u q w : mf_V} {i j : Int} {n n2 : Nat} (hrel : relS r n u) (hB : Brk r i j q) (hn : (n2 : Int) = r 7 0 - (j - i - 1)) (h0 : w 0 = u 0) (h1 : w 1 0 = r 9 0 + 1) (h3 : w 3 = u 3) (h4 : w 4 = u 4) (h5 : w 5 = u 5) (h7 : w 7 = u 7) (h2 : rgA (r 7 0 - (j - i - 1)) (w 2) (q 6)) (h8 : rgA 384 (w 8) (fun c => q 10 c + 1)) : relS q n2 w := by
  obtain ⟨b7, b6, bc, b9, b0, b1, b2, b4, b5, b8⟩ := hB
  obtain ⟨e9, e0, e1, e2, e3, e4, e5, e7, e8⟩ := hrel
  exact ⟨by rw [hn, b7], by rw [h0, e0, b8], by rw [h1, b9], fun z z0 z1 => by rw [b7] at z1; exact h2 z z0 z1, fun z z0 z1 => by rw [h3, b0]; exact e3 z z0 z1, fun z z0 z1 => by rw [h4, b2]; exact e4 z z0 z1, fun z z0 z1 => by rw [h5, b1]; exact e5 z z0 z1, fun z z0 z1 => by rw [h7, b5]; exact e7 z z0 z1, h8⟩
/-- the best neck so far: rows ahead of k, and d directions of row k -/
def nbS (r : mf_V) (k d : Int) (v : mf_V) : Prop := ((¬ farG r k d = -1 ∧ (widG r k).2 < farG r k d - k) ∧ v 0 0 = k ∧ v 0 1 = farG r k d) ∨ (¬ (¬ farG r k d = -1 ∧ (widG r k).2 < farG r k d - k) ∧ v 0 0 = (widG r k).1 ∧ ((widG r k).1 = -1 ∨ v 0 1 = farF r (widG r k).1))
theorem nbS_s {r v w : mf_V} {k d j : Int} (hk : 0 ≤ k) (hd : 0 ≤ d) (hj : j = placeOfF r (nbr (cellAtF r k) d)) (h : nbS r k d v)
    (hc : (w 0 0 = v 0 0 ∧ w 0 1 = v 0 1 ∧ (j < k + 3 ∨ (0 ≤ v 0 0 ∧ j - k ≤ v 0 1 - v 0 0))) ∨ (w 0 0 = k ∧ w 0 1 = j ∧ k + 3 ≤ j ∧ (v 0 0 < 0 ∨ v 0 1 - v 0 0 < j - k))) : nbS r k (d + 1) w := by
  have hm := widG_memI r hk
  have hs := farG_s r k hd
  rw [← hj] at hs
  unfold nbS at h ⊢
  by_cases q : 3 ≤ j - k ∧ farG r k d < j
  · rw [mf_if_t q] at hs
    rw [hs]
    omega
  · rw [mf_if_f q] at hs
    rw [hs]
    omega
theorem nbS_0 {r v : mf_V} {k : Int} (h : v 0 0 = (widG r k).1 ∧ ((widG r k).1 = -1 ∨ v 0 1 = farF r (widG r k).1)) : nbS r k 0 v := by
  unfold nbS
  rw [farG_0]
  exact Or.inr ⟨fun z => z.1 rfl, h⟩
theorem nbS_4 {r v : mf_V} {k : Int} (hk : 0 ≤ k) (h : nbS r k 4 v) : v 0 0 = (widG r (k + 1)).1 ∧ ((widG r (k + 1)).1 = -1 ∨ v 0 1 = farF r (widG r (k + 1)).1) := by
  have hm := widG_memI r hk
  unfold nbS at h
  rw [show farG r k 4 = farF r k from rfl] at h
  rcases h with ⟨⟨h1, h2⟩, h3, h4⟩ | ⟨h1, h3, h4⟩
  · rw [widG_t r hk h2]; exact ⟨h3, Or.inr h4⟩
  · have hn : ¬ (widG r k).2 < farF r k - k := fun z => h1 ⟨fun y => by rw [y] at z; omega, z⟩
    rw [widG_f r hk hn]; exact ⟨h3, h4⟩
set_option maxHeartbeats 4000000 in
set_option maxRecDepth 100000 in
theorem c_X3_place (l : Launch) (G : mf_G) (hm : Nat) (adm : Nat → Nat) (ca nn : Nat) (u : mf_V)  (q : mf_V) (oku : rOK slo shi u) (hcq : crsOK q) (hcb : ∀ i, 0 ≤ i → i < q 7 0 → 0 ≤ q 6 i ∧ q 6 i ≤ 383) (hlb : 0 ≤ q 7 0 ∧ q 7 0 ≤ 150) (hcrs : rgA (q 7 0) (u 2) (q 6)) (hlen : (nn : Int) = q 7 0) (sz : Nat) : Met l yX3_place wsX3_place ({ frames := 0, cells := 0, slots := 0, locals := 0 }) (va_Pc [.ref hm] (WrP G (SW G hm adm ca nn u) sz)) (va_Qv (fun (u' : mf_V) => rOK slo shi u' ∧ (∀ k, k ≠ 8 → u' k = u k) ∧ plS q u') (fun (u' : mf_V) t => WrQ G (va_A (SW G hm adm ca nn u) sz) (SW G hm adm ca nn u') t) (va_A (SW G hm adm ca nn u) sz)) 0 0 (va_A (SW G hm adm ca nn u) sz) := by
  refine Met.ofW (cc := cX3_place) (maxL := 2) (ret := none) (by decide) rfl ?_
  intro p e s m args below meth c s₁ B hml hv
  obtain ⟨rfl, hsz, hP, hK, hD0, hN⟩ := hv
  have hx := B.exec
  have hb := B.bytes
  have hr := B.returns
  have hts := atoms_spec (ws := wsX3_place) B.pre
  have hown : s.vm.findClass RX3 = some m.cls := findClass_of_methodNamed B.named
  have hlocks := B.notSynchronized
  have hinX3 : ∀ w ∈ u_ws RX3 TX3 9, w ∈ wsX3_place := fun w h => List.mem_cons_of_mem _ (List.mem_append_right _ h)
  subst hsz
  have hD := hD0.self (sz := s.heap.size)
  generalize hAe : va_A (SW G hm adm ca nn u) s.heap.size = A at hD ⊢
  have hA : ∀ q : Nat, s.heap.size ≤ q → A q := fun q h => by rw [← hAe]; exact Or.inr h
  have hS : va_S A s.heap s.heap [] := va_S.rf
  have hl := lv_entry ([.ref hm]) (n := 2) (Nat.le_of_ble_eq_true rfl)
  rw [lg_entry_eq]
  generalize (lg_sl ([.ref hm]) ++ List.replicate (2 - (lg_sl ([.ref hm])).length) Slot.unset).toArray = ls at hl ⊢
  have hl : lv_has ls 2 [(0, .ref hm)] := hl
  refine mf_iconst hx hb dX3_place_0 ?_
  refine lv_istore_n (lv' := [(1, .int (iI (0))), (0, .ref hm)]) hx hb dX3_place_1 rfl hl (by decide) rfl (fun ls hl => ?_)
  have lp2 : ∀ (n : Nat) (kv : Int) (u1 : mf_V), (384 - kv).toNat < n → (0 ≤ kv ∧ kv ≤ 384) → (rOK slo shi u1) → (∀ k, k ≠ 8 → u1 k = u k) → (∀ z, 0 ≤ z → z < kv → u1 8 z = 0) → ∀ (H : Heap) (locs : List Loc), va_P G.1 vwCl (SW G hm adm ca nn u1) H → va_D A (SW G hm adm ca nn u1) → va_S A s.heap H locs → ∀ (ls : Array Slot), lv_has ls 2 [(0, .ref hm), (1, .int (iI (kv)))] → W p l e (headSpec wsX3_place ({ frames := 0, cells := 0, slots := 0, locals := 0 })).room s m ([.ref hm] : List Value).toArray below meth c H locs 0 0 (MQ below (va_Qv (fun (u' : mf_V) => rOK slo shi u' ∧ (∀ k, k ≠ 8 → u' k = u k) ∧ plS q u') (fun (u' : mf_V) t => WrQ G A (SW G hm adm ca nn u') t) A) ([.ref hm] : List Value).toArray s 0 0 A) (F0 m 2 ls []) := by
    intro n
    induction n with
    | zero => intro kv u1 hn; exact absurd hn (Nat.not_lt_zero _)
    | succ n ih2 =>
      intro kv u1 hn hk oku1 hfr hz H locs hP hD hS ls hl
      refine lv_iload_n hx hb dX3_place_2 rfl (lv_at hl 1 rfl) ?_
      refine mf_sipush hx hb dX3_place_3 rfl ?_
      refine mf_icmp_ge (tgt := 22) hx hb dX3_place_6 (by decide) (i32_mk (by omega) (by omega)) (i32_mk (by decide) (by decide)) (fun c1 => ?_) (fun c1 => ?_)
      · skip
        refine mf_iconst hx hb dX3_place_22 ?_
        refine lv_istore_n (lv' := [(1, .int (iI (0))), (0, .ref hm)]) hx hb dX3_place_23 rfl hl (by decide) rfl (fun ls hl => ?_)
        have lp24 : ∀ (n : Nat) (k2 : Int) (u2 : mf_V), (q 7 0 - k2).toNat < n → (0 ≤ k2 ∧ k2 ≤ q 7 0) → (rOK slo shi u2) → (∀ k, k ≠ 8 → u2 k = u k) → (∀ i, 0 ≤ i → i < k2 → u2 8 (q 6 i) = i + 1) → (∀ c, 0 ≤ c → c < 384 → (∀ i, 0 ≤ i → i < k2 → ¬ q 6 i = c) → u2 8 c = 0) → ∀ (H : Heap) (locs : List Loc), va_P G.1 vwCl (SW G hm adm ca nn u2) H → va_D A (SW G hm adm ca nn u2) → va_S A s.heap H locs → ∀ (ls : Array Slot), lv_has ls 2 [(0, .ref hm), (1, .int (iI (k2)))] → W p l e (headSpec wsX3_place ({ frames := 0, cells := 0, slots := 0, locals := 0 })).room s m ([.ref hm] : List Value).toArray below meth c H locs 0 0 (MQ below (va_Qv (fun (u' : mf_V) => rOK slo shi u' ∧ (∀ k, k ≠ 8 → u' k = u k) ∧ plS q u') (fun (u' : mf_V) t => WrQ G A (SW G hm adm ca nn u') t) A) ([.ref hm] : List Value).toArray s 0 0 A) (F0 m 24 ls []) := by
          intro n
          induction n with
          | zero => intro k2 u2 hn; exact absurd hn (Nat.not_lt_zero _)
          | succ n ih24 =>
            intro k2 u2 hn hk2 oku2 hfr2 hpl hpn H locs hP hD hS ls hl
            refine lv_iload_n hx hb dX3_place_24 rfl (lv_at hl 1 rfl) ?_
            refine lv_aload_n hx hb dX3_place_25 rfl (lv_at hl 0 rfl) ?_
            refine va_get (D := G.1) (ci := 3) (v := .ref ca) (C := RX3) (T := TX3) (N := 9) hx hb hts hinX3 hown hK hP 0 rfl rfl 2 (by decide) (hts (.fieldLink RX3 29 "MeanderFarmLaw$Sim" "course" "[I") (List.mem_of_getElem? (i := 2) rfl)) (fun _ h9 => h9) rfl dX3_place_26 ?_
            refine va_alen hx hb hK hP 1 0 rfl rfl (v := iI ((nn : Nat) : Int)) (nI_iI _) dX3_place_29 ?_
            refine mf_top (((nn : Nat) : Int)) (q 7 0) (hlen) ?_
            refine mf_icmp_ge (tgt := 53) hx hb dX3_place_30 (by decide) (i32_mk (by omega) (by omega)) (i32_mk (by omega) (by omega)) (fun c2 => ?_) (fun c2 => ?_)
            · skip
              exact W.vret hx hb hr (fun t ht hW => ⟨⟨u2, rfl, by exact ⟨oku2, hfr2, ⟨by rw [show k2 = q 7 0 by omega] at hpl; exact hpl, by rw [show k2 = q 7 0 by omega] at hpn; exact hpn⟩⟩, by rw [ht]; exact hP, hD⟩, hS.F ht⟩) hS.2.2 dX3_place_53
            · skip
              refine lv_aload_n hx hb dX3_place_33 rfl (lv_at hl 0 rfl) ?_
              refine va_get (D := G.1) (ci := 3) (v := .ref (adm 8)) (C := RX3) (T := TX3) (N := 9) hx hb hts hinX3 hown hK hP 0 rfl rfl 8 (by decide) (hts (.fieldLink RX3 26 "MeanderFarmLaw$Sim" "where" "[I") (List.mem_of_getElem? (i := 1) rfl)) (fun _ h9 => h9) rfl dX3_place_34 ?_
              refine lv_aload_n hx hb dX3_place_37 rfl (lv_at hl 0 rfl) ?_
              refine va_get (D := G.1) (ci := 3) (v := .ref ca) (C := RX3) (T := TX3) (N := 9) hx hb hts hinX3 hown hK hP 0 rfl rfl 2 (by decide) (hts (.fieldLink RX3 29 "MeanderFarmLaw$Sim" "course" "[I") (List.mem_of_getElem? (i := 2) rfl)) (fun _ h9 => h9) rfl dX3_place_38 ?_
              refine lv_iload_n hx hb dX3_place_41 rfl (lv_at hl 1 rfl) ?_
              refine mf_iald (n := nn) (f := u2 2) hx hb hK hP 1 0 rfl rfl (z := k2) (by omega) (by omega) (by first | decide | omega) dX3_place_42 ?_
              refine mf_top (u2 2 k2) (q 6 k2) (by rw [hfr2 2 (by decide), (hcrs (k2) (by omega) (by omega))]) ?_
              have bq := hcb k2 (by omega) (by omega)
              refine lv_iload_n hx hb dX3_place_43 rfl (lv_at hl 1 rfl) ?_
              refine mf_iconst hx hb dX3_place_44 ?_
              refine mf_iadd hx hb dX3_place_45 ?_
              refine mf_iast (n := 384) (f := u2 8) hx hb hK hP hD hS 7 0 rfl rfl (z := q 6 k2) (x := k2 + 1) (by omega) (by omega) (by first | decide | omega) dX3_place_46 (fun H locs hP hD hS => ?_)
              obtain ⟨u3, eu3⟩ : ∃ z9 : mf_V, z9 = mf_sF u2 8 (mf_up (u2 8) (q 6 k2) (k2 + 1)) := ⟨_, rfl⟩
              have hP : va_P G.1 vwCl (SW G hm adm ca nn u3) H := by rw [eu3]; exact hP
              have hD : va_D A (SW G hm adm ca nn u3) := by rw [eu3]; exact hD
              have oku3 : rOK slo shi u3 := by rw [eu3]; exact rOK_up oku2 8 _ _ (show (0 : Int) ≤ k2 + 1 by omega) (show k2 + 1 ≤ (150 : Int) by omega)
              have f1_u3 : u3 8 (q 6 k2) = k2 + 1 := by rw [eu3, mf_sF_s, mf_up_s]
              have f2_u3 : ∀ y, y ≠ (q 6 k2) → u3 8 y = u2 8 y := fun y hy => by rw [eu3, mf_sF_s, mf_up_n hy]
              have f3_u3 : ∀ q, q ≠ 8 → u3 q = u2 q := fun q hq => by rw [eu3, mf_sF_n hq]
              refine lv_iinc (v := iI (k2 + 1)) (lv' := [(1, .int (iI (k2 + 1))), (0, .ref hm)]) hx hb dX3_place_47 hl (k := 1) rfl (iI_add _ _).symm (by decide) rfl (fun ls hl => ?_)
              refine lv_goto (tgt := 24) hx hb dX3_place_50 (by decide) ?_
              exact ih24 (k2 + 1) u3 (by omega) (by first | assumption | omega) (by first | assumption | omega) (by intro k hk; rw [f3_u3 k hk]; exact hfr2 k hk) (by intro i h0 h1; rcases (show i < k2 ∨ i = k2 by omega) with z | z; (rw [f2_u3 _ (fun y => absurd (hcq.2.2 i k2 (by omega) (by omega) (by omega) (by omega) y) (by omega))]; exact hpl i h0 z); (rw [z]; exact f1_u3)) (by intro c c0 c1 hc; rw [f2_u3 _ (fun y => hc k2 (by omega) (by omega) y.symm)]; exact hpn c c0 c1 (fun i h0 h1 => hc i h0 (by omega))) _ _ hP hD hS ls (lv_sub hl [1, 0] rfl)
        exact lp24 (_ + 1) 0 u1 (Nat.lt_succ_self _) (by first | assumption | omega) (by first | assumption | omega) (by exact hfr) (by intro i h0 h1; omega) (by intro c c0 c1 _; exact hz c c0 (by omega)) _ _ hP hD hS ls (lv_sub hl [1, 0] rfl)
      · skip
        refine lv_aload_n hx hb dX3_place_9 rfl (lv_at hl 0 rfl) ?_
        refine va_get (D := G.1) (ci := 3) (v := .ref (adm 8)) (C := RX3) (T := TX3) (N := 9) hx hb hts hinX3 hown hK hP 0 rfl rfl 8 (by decide) (hts (.fieldLink RX3 26 "MeanderFarmLaw$Sim" "where" "[I") (List.mem_of_getElem? (i := 1) rfl)) (fun _ h9 => h9) rfl dX3_place_10 ?_
        refine lv_iload_n hx hb dX3_place_13 rfl (lv_at hl 1 rfl) ?_
        refine mf_iconst hx hb dX3_place_14 ?_
        refine mf_iast (n := 384) (f := u1 8) hx hb hK hP hD hS 7 0 rfl rfl (z := kv) (x := 0) (by omega) (by omega) (by first | decide | omega) dX3_place_15 (fun H locs hP hD hS => ?_)
        obtain ⟨u4, eu4⟩ : ∃ z9 : mf_V, z9 = mf_sF u1 8 (mf_up (u1 8) (kv) (0)) := ⟨_, rfl⟩
        have hP : va_P G.1 vwCl (SW G hm adm ca nn u4) H := by rw [eu4]; exact hP
        have hD : va_D A (SW G hm adm ca nn u4) := by rw [eu4]; exact hD
        have oku4 : rOK slo shi u4 := by rw [eu4]; exact rOK_up oku1 8 _ _ (show (0 : Int) ≤ 0 by omega) (show 0 ≤ (150 : Int) by omega)
        have f1_u4 : u4 8 (kv) = 0 := by rw [eu4, mf_sF_s, mf_up_s]
        have f2_u4 : ∀ y, y ≠ (kv) → u4 8 y = u1 8 y := fun y hy => by rw [eu4, mf_sF_s, mf_up_n hy]
        have f3_u4 : ∀ q, q ≠ 8 → u4 q = u1 q := fun q hq => by rw [eu4, mf_sF_n hq]
        refine lv_iinc (v := iI (kv + 1)) (lv' := [(1, .int (iI (kv + 1))), (0, .ref hm)]) hx hb dX3_place_16 hl (k := 1) rfl (iI_add _ _).symm (by decide) rfl (fun ls hl => ?_)
        refine lv_goto (tgt := 2) hx hb dX3_place_19 (by decide) ?_
        exact ih2 (kv + 1) u4 (by omega) (by first | assumption | omega) (by first | assumption | omega) (by intro k hk; rw [f3_u4 k hk]; exact hfr k hk) (by intro z h0 h1; rcases (show z < kv ∨ z = kv by omega) with y | y; (rw [f2_u4 z (by omega)]; exact hz z h0 y); (rw [y]; exact f1_u4)) _ _ hP hD hS ls (lv_sub hl [1, 0] rfl)
  exact lp2 (_ + 1) 0 u (Nat.lt_succ_self _) (by first | assumption | omega) (by first | assumption | omega) (by intro k _; rfl) (by intro z _ _; omega) _ _ hP hD hS ls (lv_sub hl [1, 0] rfl)
set_option maxHeartbeats 4000000 in
set_option maxRecDepth 100000 in
theorem c_X3_bulge (l : Launch) (G : mf_G) (hm : Nat) (adm : Nat → Nat) (ca nn : Nat) (u : mf_V)  (iv : Int) (sv : Int) (r : mf_V) (hiv : i32 iv) (hsv : i32 sv) (oku : rOK slo shi u) (ok : rOK rlo rhi r) (hI : RInv r) (hrel : relS r nn u) (hcan : canB r iv sv) (sz : Nat) : Met l yX3_bulge wsX3_bulge ({ frames := 1, cells := 1, slots := 152, locals := 22 }) (va_Pc [.ref hm, .int (iI (iv)), .int (iI (sv))] (WrP G (SW G hm adm ca nn u) sz)) (va_Qv (fun (uZ : mf_V × Nat × Nat) => rOK slo shi uZ.1 ∧ (uZ.2.2 : Int) = r 7 0 + 2 ∧ ∀ q, RInv q → Bul r iv sv q → relS q uZ.2.2 uZ.1) (fun (uZ : mf_V × Nat × Nat) t => WrQ G (va_A (SW G hm adm ca nn u) sz) (SW G hm adm (uZ.2.1) (uZ.2.2) (uZ.1)) t) (va_A (SW G hm adm ca nn u) sz)) 1 152 (va_A (SW G hm adm ca nn u) sz) := by
  refine Met.ofW (cc := cX3_bulge) (maxL := 5) (ret := none) (by decide) rfl ?_
  intro p e s m args below meth c s₁ B hml hv
  obtain ⟨rfl, hsz, hP, hK, hD0, hN⟩ := hv
  have hx := B.exec
  have hb := B.bytes
  have hr := B.returns
  have hts := atoms_spec (ws := wsX3_bulge) B.pre
  have hown : s.vm.findClass RX3 = some m.cls := findClass_of_methodNamed B.named
  have hlocks := B.notSynchronized
  have hinX3 : ∀ w ∈ u_ws RX3 TX3 9, w ∈ wsX3_bulge := fun w h => List.mem_cons_of_mem _ (List.mem_append_right _ h)
  subst hsz
  have hD := hD0.self (sz := s.heap.size)
  generalize hAe : va_A (SW G hm adm ca nn u) s.heap.size = A at hD ⊢
  have hA : ∀ q : Nat, s.heap.size ≤ q → A q := fun q h => by rw [← hAe]; exact Or.inr h
  have hS : va_S A s.heap s.heap [] := va_S.rf
  have hl := lv_entry ([.ref hm, .int (iI (iv)), .int (iI (sv))]) (n := 5) (Nat.le_of_ble_eq_true rfl)
  rw [lg_entry_eq]
  generalize (lg_sl ([.ref hm, .int (iI (iv)), .int (iI (sv))]) ++ List.replicate (5 - (lg_sl ([.ref hm, .int (iI (iv)), .int (iI (sv))])).length) Slot.unset).toArray = ls at hl ⊢
  have hl : lv_has ls 5 [(0, .ref hm), (1, .int (iI (iv))), (2, .int (iI (sv)))] := hl
  have hiv1 := hiv.1
  have hiv2 := hiv.2
  have hsv1 := hsv.1
  have hsv2 := hsv.2
  have okLr : (0 : Int) ≤ r 7 0 ∧ r 7 0 ≤ 150 := ok 7 0
  have hN9 : (nn : Int) = r 7 0 := rel9 hrel
  obtain ⟨⟨i0, i1, i2⟩, hl2, ⟨t0, t1⟩, hop⟩ := canB_w okLr.2 hcan
  refine lv_aload_n hx hb dX3_bulge_0 rfl (lv_at hl 0 rfl) ?_
  refine va_get (D := G.1) (ci := 3) (v := .ref ca) (C := RX3) (T := TX3) (N := 9) hx hb hts hinX3 hown hK hP 0 rfl rfl 2 (by decide) (hts (.fieldLink RX3 29 "MeanderFarmLaw$Sim" "course" "[I") (List.mem_of_getElem? (i := 1) rfl)) (fun _ h9 => h9) rfl dX3_bulge_1 ?_
  refine va_alen hx hb hK hP 1 0 rfl rfl (v := iI ((nn : Nat) : Int)) (nI_iI _) dX3_bulge_4 ?_
  refine mf_top (((nn : Nat) : Int)) (r 7 0) (rel9 hrel) ?_
  refine mf_iconst hx hb dX3_bulge_5 ?_
  refine mf_iadd hx hb dX3_bulge_6 ?_
  obtain ⟨nv3, hnv3⟩ : ∃ z9 : Nat, (z9 : Int) = (r 7 0) + 2 := ⟨((r 7 0) + 2).toNat, Int.toNat_of_nonneg (by omega)⟩
  refine mf_newv (M := 152) hx hb (hts (.arrayClass .int) (List.mem_of_getElem? (i := 2) rfl)) hK hP hD hS hA (n := (r 7 0) + 2) (N := nv3) hnv3.symm (by omega) (by omega) (Nat.le_of_ble_eq_true rfl) (Nat.le_of_ble_eq_true rfl) dX3_bulge_7 (fun na1 H hP hD hS => ?_)
  obtain ⟨av2, eav2⟩ : ∃ z9 : mf_V, z9 = fun _ _ => 0 := ⟨_, rfl⟩
  have hP : va_P G.1 vwCl (SW G hm adm ca nn u ++ AW G na1 nv3 av2) H := by rw [eav2]; exact hP
  have hD : va_D A (SW G hm adm ca nn u ++ AW G na1 nv3 av2) := by rw [eav2]; exact hD
  refine lv_astore_n (lv' := [(3, .ref na1), (0, .ref hm), (1, .int (iI (iv))), (2, .int (iI (sv)))]) hx hb dX3_bulge_9 rfl hl (by decide) rfl (fun ls hl => ?_)
  refine mf_iconst hx hb dX3_bulge_10 ?_
  refine lv_istore (lv' := [(4, .int (iI (0))), (3, .ref na1), (0, .ref hm), (1, .int (iI (iv))), (2, .int (iI (sv)))]) hx hb dX3_bulge_11 hl (by decide) rfl (fun ls hl => ?_)
  have lp13 : ∀ (n : Nat) (kv : Int) (u1 : mf_V) (v1 : mf_V), (r 7 0 + 2 - kv).toNat < n → (0 ≤ kv ∧ kv ≤ r 7 0 + 2) → (rOK slo shi u1) → (∀ k, k ≠ 5 → k ≠ 6 → u1 k = u k) → (∀ j, 0 ≤ j → j < kv → v1 0 j = bulC r iv sv j) → (∀ z, 0 ≤ v1 0 z ∧ v1 0 z ≤ 383) → (∀ c, ((∃ t, iv - 1 ≤ t ∧ t ≤ iv + 1 ∧ t + 1 < kv ∧ c = nbr (r 6 t) sv) → u1 5 c = 0) ∧ (¬ (∃ t, iv - 1 ≤ t ∧ t ≤ iv + 1 ∧ t + 1 < kv ∧ c = nbr (r 6 t) sv) → u1 5 c = u 5 c)) → ∀ (H : Heap) (locs : List Loc), va_P G.1 vwCl (SW G hm adm ca nn u1 ++ AW G na1 nv3 v1) H → va_D A (SW G hm adm ca nn u1 ++ AW G na1 nv3 v1) → va_S A s.heap H locs → ∀ (ls : Array Slot), lv_has ls 5 [(0, .ref hm), (1, .int (iI (iv))), (2, .int (iI (sv))), (3, .ref na1), (4, .int (iI (kv)))] → W p l e (headSpec wsX3_bulge ({ frames := 1, cells := 1, slots := 152, locals := 22 })).room s m ([.ref hm, .int (iI (iv)), .int (iI (sv))] : List Value).toArray below meth c H locs 1 152 (MQ below (va_Qv (fun (uZ : mf_V × Nat × Nat) => rOK slo shi uZ.1 ∧ (uZ.2.2 : Int) = r 7 0 + 2 ∧ ∀ q, RInv q → Bul r iv sv q → relS q uZ.2.2 uZ.1) (fun (uZ : mf_V × Nat × Nat) t => WrQ G A (SW G hm adm (uZ.2.1) (uZ.2.2) (uZ.1)) t) A) ([.ref hm, .int (iI (iv)), .int (iI (sv))] : List Value).toArray s 1 152 A) (F0 m 13 ls []) := by
    intro n
    induction n with
    | zero => intro kv u1 v1 hn; exact absurd hn (Nat.not_lt_zero _)
    | succ n ih13 =>
      intro kv u1 v1 hn hk oku1 hfr hv hv0 h5 H locs hP hD hS ls hl
      refine lv_iload hx hb dX3_bulge_13 (lv_at hl 4 rfl) ?_
      refine lv_aload_n hx hb dX3_bulge_15 rfl (lv_at hl 3 rfl) ?_
      refine va_alen hx hb hK hP 8 0 rfl rfl (v := iI ((nv3 : Nat) : Int)) (nI_iI _) dX3_bulge_16 ?_
      refine mf_top (((nv3 : Nat) : Int)) ((r 7 0) + 2) (hnv3) ?_
      refine mf_icmp_ge (tgt := 107) hx hb dX3_bulge_17 (by decide) (i32_mk (by omega) (by omega)) (i32_mk (by omega) (by omega)) (fun c4 => ?_) (fun c4 => ?_)
      · skip
        refine lv_aload_n hx hb dX3_bulge_107 rfl (lv_at hl 0 rfl) ?_
        refine lv_aload_n hx hb dX3_bulge_108 rfl (lv_at hl 3 rfl) ?_
        refine va_put (D := G.1) (ci := 3) (v := .ref na1) (ty := .array .int) (C := RX3) (T := TX3) (N := 9) hx hb hts hinX3 tyX3 tyX3_ok nmX3 hown hK hP hD hS 0 rfl rfl 2 (by decide) (hts (.fieldLink RX3 29 "MeanderFarmLaw$Sim" "course" "[I") (List.mem_of_getElem? (i := 1) rfl)) (fun _ h9 => h9) rfl (by decide +kernel) rfl rfl (Nat.le_of_ble_eq_true rfl) dX3_bulge_109 (fun H locs hP hD hS => ?_)
        obtain ⟨u5, eu5⟩ : ∃ z9 : mf_V, z9 = mf_sF u1 2 (v1 0) := ⟨_, rfl⟩
        have hP : va_P G.1 vwCl (SW G hm adm na1 nv3 u5) H := by rw [eu5]; exact hP.sub [0, 8, 2, 3, 4, 5, 6, 7] rfl
        have hD : va_D A (SW G hm adm na1 nv3 u5) := by rw [eu5]; exact hD.sub [0, 8, 2, 3, 4, 5, 6, 7] (by decide) rfl
        have f1_u5 : u5 2 = v1 0 := by rw [eu5, mf_sF_s]
        have f3_u5 : ∀ q, q ≠ 2 → u5 q = u1 q := fun q hq => by rw [eu5, mf_sF_n hq]
        have oku5 : rOK slo shi u5 := by rw [eu5]; exact rOK_put2 oku1 hv0
        refine lv_aload_n hx hb dX3_bulge_112 rfl (lv_at hl 0 rfl) ?_
        have hkv : kv = r 7 0 + 2 := by omega
        obtain ⟨q0, eq0⟩ : ∃ z9 : mf_V, z9 = mf_sF (mf_sF r 7 (fun _ => r 7 0 + 2)) 6 (bulC r iv sv) := ⟨_, rfl⟩
        have g7 : q0 7 0 = r 7 0 + 2 := by rw [eq0, mf_sF_n (by decide), mf_sF_s]
        have g6 : ∀ j, q0 6 j = bulC r iv sv j := fun j => by rw [eq0, mf_sF_s]
        have hq6 : rgA (q0 7 0) (u5 2) (q0 6) := fun j j0 j1 => by rw [g7] at j1; rw [f1_u5, hv j j0 (by omega), g6]
        skip
        have hFc := va_free (wc := SW G hm adm na1 nv3 u5) hD hS hA [0, 1, 2, 3, 4, 5, 6, 7] rfl
        refine va_callv (va_runV (As := []) (rest := []) ⟨hx, hb, hml, hown, hts⟩ (c_X3_place l G hm adm na1 nv3 u5 (q0) (by assumption) (by exact bulCrs ok hI hcan g7 (fun j _ _ => g6 j)) (by intro i h0 h1; rw [g6, ← hv i h0 (by omega)]; exact hv0 i) (by omega) (by exact hq6) (by omega) _) (cwV 0 hts gX3_bulge_X3_place rfl rfl rfl (by decide +kernel) ⟨Nat.le_of_ble_eq_true rfl, Nat.le_of_ble_eq_true rfl⟩) (wrV (wc := SW G hm adm na1 nv3 u5) hK hP hD hN [0, 1, 2, 3, 4, 5, 6, 7] (by decide) rfl rfl (ci := 3) rfl rfl) rfl rfl hl.1 rfl (lv_room (Nat.le_of_ble_eq_true rfl)) dX3_bulge_113 ⟨(Nat.le_of_ble_eq_true rfl), (Nat.le_of_ble_eq_true rfl)⟩) hS (fun q _ h => hFc q h) hFc (fun u7 t H1 locs ht hvm hw hB hz1 hk1 hS => ?_)
        obtain ⟨u8, rfl⟩ : ∃ z, z = u7 := ⟨_, rfl⟩
        try dsimp only at hw hB
        obtain ⟨hP, hD⟩ := wrJ (ws := SW G hm adm na1 nv3 u5) (w1 := SW G hm adm na1 nv3 u8) ht hFc hB
        have hP : va_P G.1 vwCl (SW G hm adm na1 nv3 u8) H1 := hP
        have hD : va_D A (SW G hm adm na1 nv3 u8) := hD
        clear hB hk1 hFc ht hz1 hvm
        generalize H1 = H at hP hS ⊢
        have w9 := hw; clear hw
        have oku8 : rOK slo shi u8 := w9.1
        have hh9 : ∀ c, (hitB r iv sv c → u8 5 c = 0) ∧ (¬ hitB r iv sv c → u8 5 c = u 5 c) := fun c => by
          rw [w9.2.1 5 (by decide), f3_u5 5 (by decide)]
          have g := h5 c
          refine ⟨fun hh => g.1 ?_, fun hh => g.2 (fun z => hh ?_)⟩
          · rcases hh with y | y | y
            · exact ⟨iv - 1, by omega, by omega, by omega, y⟩
            · exact ⟨iv, by omega, by omega, by omega, y⟩
            · exact ⟨iv + 1, by omega, by omega, by omega, y⟩
          · obtain ⟨t, t0, t1, t2, t3⟩ := z
            rcases (show t = iv - 1 ∨ t = iv ∨ t = iv + 1 by omega) with y | y | y
            · rw [y] at t3; exact Or.inl t3
            · rw [y] at t3; exact Or.inr (Or.inl t3)
            · rw [y] at t3; exact Or.inr (Or.inr t3)
        exact W.vret hx hb hr (fun t ht hW => ⟨⟨(u8, na1, nv3), rfl, by (try dsimp only); exact ⟨oku8, by omega, fun q hq hB => bulRelS hrel hB (by omega) (by rw [w9.2.1 0 (by decide), f3_u5 0 (by decide), hfr 0 (by decide) (by decide)]) (by rw [w9.2.1 1 (by decide), f3_u5 1 (by decide), hfr 1 (by decide) (by decide)]) (by rw [w9.2.1 3 (by decide), f3_u5 3 (by decide), hfr 3 (by decide) (by decide)]) (by rw [w9.2.1 4 (by decide), f3_u5 4 (by decide), hfr 4 (by decide) (by decide)]) (by rw [w9.2.1 7 (by decide), f3_u5 7 (by decide), hfr 7 (by decide) (by decide)]) (fun j j0 j1 => by rw [w9.2.1 2 (by decide), hB.2.1 j j0 j1, ← g6]; exact hq6 j j0 (by rw [g7]; exact j1)) (placeEndS hq (fun i h0 h1 => by rw [hB.1] at h1; rw [hB.2.1 i h0 h1, ← g6]; exact w9.2.2.1 i h0 (by rw [g7]; exact h1)) (fun c c0 c1 hc => w9.2.2.2 c c0 c1 (fun i h0 h1 => by rw [g7] at h1; rw [g6, ← hB.2.1 i h0 h1]; exact hc i h0 (by rw [hB.1]; exact h1)))) hh9⟩, by rw [ht]; exact hP, hD⟩, hS.F ht⟩) hS.2.2 dX3_bulge_116
      · skip
        refine lv_iload hx hb dX3_bulge_20 (lv_at hl 4 rfl) ?_
        refine lv_iload_n hx hb dX3_bulge_22 rfl (lv_at hl 1 rfl) ?_
        refine mf_icmp_ge (tgt := 40) hx hb dX3_bulge_23 (by decide) (i32_mk (by omega) (by omega)) (i32_mk (by omega) (by omega)) (fun c10 => ?_) (fun c10 => ?_)
        · skip
          refine lv_iload hx hb dX3_bulge_40 (lv_at hl 4 rfl) ?_
          refine lv_iload_n hx hb dX3_bulge_42 rfl (lv_at hl 1 rfl) ?_
          refine mf_iconst hx hb dX3_bulge_43 ?_
          refine mf_iadd hx hb dX3_bulge_44 ?_
          refine mf_icmp_le (tgt := 64) hx hb dX3_bulge_45 (by decide) (i32_mk (by omega) (by omega)) (i32_mk (by omega) (by omega)) (fun c11 => ?_) (fun c11 => ?_)
          · skip
            refine lv_aload_n hx hb dX3_bulge_64 rfl (lv_at hl 3 rfl) ?_
            refine lv_iload hx hb dX3_bulge_65 (lv_at hl 4 rfl) ?_
            refine lv_aload_n hx hb dX3_bulge_67 rfl (lv_at hl 0 rfl) ?_
            refine va_get (D := G.1) (ci := 3) (v := .ref ca) (C := RX3) (T := TX3) (N := 9) hx hb hts hinX3 hown hK hP 0 rfl rfl 2 (by decide) (hts (.fieldLink RX3 29 "MeanderFarmLaw$Sim" "course" "[I") (List.mem_of_getElem? (i := 1) rfl)) (fun _ h9 => h9) rfl dX3_bulge_68 ?_
            refine lv_iload hx hb dX3_bulge_71 (lv_at hl 4 rfl) ?_
            refine mf_iconst hx hb dX3_bulge_73 ?_
            refine mf_isub hx hb dX3_bulge_74 ?_
            refine mf_iald (n := nn) (f := u1 2) hx hb hK hP 1 0 rfl rfl (z := kv - 1) (by omega) (by omega) (by first | decide | omega) dX3_bulge_75 ?_
            refine mf_top (u1 2 (kv - 1)) (r 6 (kv - 1)) (by rw [hfr 2 (by decide) (by decide), (rel2 hrel (z := kv - 1) (by omega) (by omega))]) ?_
            have b12 : (0 : Int) ≤ r 6 (kv - 1) ∧ r 6 (kv - 1) ≤ 383 := ok 6 (kv - 1)
            refine lv_iload_n hx hb dX3_bulge_76 rfl (lv_at hl 2 rfl) ?_
            refine vp_callSi (va_Run.run (va_runS (As := [.int (iI (r 6 (kv - 1))), .int (iI (sv))]) (rest := [.int (iI (kv)), .ref na1]) ⟨hx, hb, hml, hown, hts⟩ (c_X3_to l (r 6 (kv - 1)) (sv) (i32_mk (by omega) (by omega)) (i32_mk (by omega) (by omega)) (by first | assumption | omega) (by first | assumption | omega)) (va_cwS 2 hts gX3_bulge_X3_to rfl rfl rfl (by decide +kernel) ⟨Nat.le_of_ble_eq_true rfl, Nat.le_of_ble_eq_true rfl⟩) pureS rfl rfl hl.1 rfl (lv_room (Nat.le_of_ble_eq_true rfl)) dX3_bulge_77 ⟨(Nat.le_of_ble_eq_true rfl), (Nat.le_of_ble_eq_true rfl)⟩)) (fun q13 hq13 => ?_)
            subst hq13
            refine mf_nm (fun y14 ey14 => ?_)
            have b15 : -1 ≤ y14 ∧ y14 ≤ 383 := by rw [ey14]; exact nbr_b (r 6 (kv - 1)) sv
            refine mf_iast (n := nv3) (f := v1 0) hx hb hK hP hD hS 8 0 rfl rfl (z := kv) (x := y14) (by omega) (by omega) (by first | decide | omega) dX3_bulge_80 (fun H locs hP hD hS => ?_)
            obtain ⟨v16, ev16⟩ : ∃ z9 : mf_V, z9 = mf_sF v1 0 (mf_up (v1 0) (kv) (y14)) := ⟨_, rfl⟩
            have hP : va_P G.1 vwCl (SW G hm adm ca nn u1 ++ AW G na1 nv3 v16) H := by rw [ev16]; exact hP
            have hD : va_D A (SW G hm adm ca nn u1 ++ AW G na1 nv3 v16) := by rw [ev16]; exact hD
            have f1_v16 : v16 0 (kv) = y14 := by rw [ev16, mf_sF_s, mf_up_s]
            have f2_v16 : ∀ y, y ≠ (kv) → v16 0 y = v1 0 y := fun y hy => by rw [ev16, mf_sF_s, mf_up_n hy]
            have f3_v16 : ∀ q, q ≠ 0 → v16 q = v1 q := fun q hq => by rw [ev16, mf_sF_n hq]
            have ho9 := hop (kv - 1) (by omega) (by omega)
            rw [← ey14] at ho9
            refine lv_aload_n hx hb dX3_bulge_81 rfl (lv_at hl 0 rfl) ?_
            refine va_get (D := G.1) (ci := 3) (v := .ref (adm 5)) (C := RX3) (T := TX3) (N := 9) hx hb hts hinX3 hown hK hP 0 rfl rfl 5 (by decide) (hts (.fieldLink RX3 17 "MeanderFarmLaw$Sim" "wear" "[I") (List.mem_of_getElem? (i := 3) rfl)) (fun _ h9 => h9) rfl dX3_bulge_82 ?_
            refine lv_aload_n hx hb dX3_bulge_85 rfl (lv_at hl 3 rfl) ?_
            refine lv_iload hx hb dX3_bulge_86 (lv_at hl 4 rfl) ?_
            refine mf_iald (n := nv3) (f := v16 0) hx hb hK hP 8 0 rfl rfl (z := kv) (by omega) (by omega) (by first | decide | omega) dX3_bulge_88 ?_
            refine mf_top (v16 0 kv) (y14) (by rw [f1_v16]) ?_
            refine mf_iconst hx hb dX3_bulge_89 ?_
            refine mf_iast (n := 384) (f := u1 5) hx hb hK hP hD hS 4 0 rfl rfl (z := y14) (x := 0) (by omega) (by omega) (by first | decide | omega) dX3_bulge_90 (fun H locs hP hD hS => ?_)
            obtain ⟨u17, eu17⟩ : ∃ z9 : mf_V, z9 = mf_sF u1 5 (mf_up (u1 5) (y14) (0)) := ⟨_, rfl⟩
            have hP : va_P G.1 vwCl (SW G hm adm ca nn u17 ++ AW G na1 nv3 v16) H := by rw [eu17]; exact hP
            have hD : va_D A (SW G hm adm ca nn u17 ++ AW G na1 nv3 v16) := by rw [eu17]; exact hD
            have oku17 : rOK slo shi u17 := by rw [eu17]; exact rOK_up oku1 5 _ _ (show (0 : Int) ≤ 0 by omega) (show 0 ≤ (200000000 : Int) by omega)
            have f1_u17 : u17 5 (y14) = 0 := by rw [eu17, mf_sF_s, mf_up_s]
            have f2_u17 : ∀ y, y ≠ (y14) → u17 5 y = u1 5 y := fun y hy => by rw [eu17, mf_sF_s, mf_up_n hy]
            have f3_u17 : ∀ q, q ≠ 5 → u17 q = u1 q := fun q hq => by rw [eu17, mf_sF_n hq]
            refine lv_aload_n hx hb dX3_bulge_91 rfl (lv_at hl 0 rfl) ?_
            refine va_get (D := G.1) (ci := 3) (v := .ref (adm 6)) (C := RX3) (T := TX3) (N := 9) hx hb hts hinX3 hown hK hP 0 rfl rfl 6 (by decide) (hts (.fieldLink RX3 20 "MeanderFarmLaw$Sim" "lake" "[I") (List.mem_of_getElem? (i := 4) rfl)) (fun _ h9 => h9) rfl dX3_bulge_92 ?_
            refine lv_aload_n hx hb dX3_bulge_95 rfl (lv_at hl 3 rfl) ?_
            refine lv_iload hx hb dX3_bulge_96 (lv_at hl 4 rfl) ?_
            refine mf_iald (n := nv3) (f := v16 0) hx hb hK hP 8 0 rfl rfl (z := kv) (by omega) (by omega) (by first | decide | omega) dX3_bulge_98 ?_
            refine mf_top (v16 0 kv) (y14) (by rw [f1_v16]) ?_
            refine mf_iconst hx hb dX3_bulge_99 ?_
            refine mf_iast (n := 384) (f := u17 6) hx hb hK hP hD hS 5 0 rfl rfl (z := y14) (x := 0) (by omega) (by omega) (by first | decide | omega) dX3_bulge_100 (fun H locs hP hD hS => ?_)
            obtain ⟨u18, eu18⟩ : ∃ z9 : mf_V, z9 = mf_sF u17 6 (mf_up (u17 6) (y14) (0)) := ⟨_, rfl⟩
            have hP : va_P G.1 vwCl (SW G hm adm ca nn u18 ++ AW G na1 nv3 v16) H := by rw [eu18]; exact hP
            have hD : va_D A (SW G hm adm ca nn u18 ++ AW G na1 nv3 v16) := by rw [eu18]; exact hD
            have oku18 : rOK slo shi u18 := by rw [eu18]; exact rOK_up oku17 6 _ _ (show (0 : Int) ≤ 0 by omega) (show 0 ≤ (10 : Int) by omega)
            have f1_u18 : u18 6 (y14) = 0 := by rw [eu18, mf_sF_s, mf_up_s]
            have f2_u18 : ∀ y, y ≠ (y14) → u18 6 y = u17 6 y := fun y hy => by rw [eu18, mf_sF_s, mf_up_n hy]
            have f3_u18 : ∀ q, q ≠ 6 → u18 q = u17 q := fun q hq => by rw [eu18, mf_sF_n hq]
            refine lv_iinc (v := iI (kv + 1)) (lv' := [(4, .int (iI (kv + 1))), (0, .ref hm), (1, .int (iI (iv))), (2, .int (iI (sv))), (3, .ref na1)]) hx hb dX3_bulge_101 hl (k := 4) rfl (iI_add _ _).symm (by decide) rfl (fun ls hl => ?_)
            refine lv_goto (tgt := 13) hx hb dX3_bulge_104 (by decide) ?_
            exact ih13 (kv + 1) u18 v16 (by omega) (by first | assumption | omega) (by first | assumption | omega) (by intro k h5 h6; rw [f3_u18 k h6, f3_u17 k h5]; exact hfr k h5 h6) (by intro j j0 j1; rcases (show j < kv ∨ j = kv by omega) with z | z; (rw [f2_v16 j (by omega)]; exact hv j j0 z); (rw [z, f1_v16, bulC_new (by omega)]; exact ey14)) (by intro z; by_cases y9 : z = kv; (rw [y9, f1_v16]; omega); (rw [f2_v16 z y9]; exact hv0 z)) (by intro c; rw [f3_u18 5 (by decide)]; by_cases z : c = y14; (exact ⟨fun _ => by rw [z]; exact f1_u17, fun h => absurd ⟨kv - 1, by omega, by omega, by omega, by rw [z]; exact ey14⟩ h⟩); (rw [f2_u17 c z]; exact ⟨fun ⟨t, x1, x2, x3, x4⟩ => (h5 c).1 ⟨t, x1, x2, by (rcases (show t + 1 < kv ∨ t = kv - 1 by omega) with q9 | q9; (exact q9); (exact absurd (x4.trans (by rw [q9]; exact ey14.symm)) z)), x4⟩, fun h => (h5 c).2 (fun ⟨t, x1, x2, x3, x4⟩ => h ⟨t, x1, x2, by omega, x4⟩)⟩)) _ _ hP hD hS ls (lv_sub hl [1, 2, 3, 4, 0] rfl)
          · skip
            refine lv_aload_n hx hb dX3_bulge_48 rfl (lv_at hl 3 rfl) ?_
            refine lv_iload hx hb dX3_bulge_49 (lv_at hl 4 rfl) ?_
            refine lv_aload_n hx hb dX3_bulge_51 rfl (lv_at hl 0 rfl) ?_
            refine va_get (D := G.1) (ci := 3) (v := .ref ca) (C := RX3) (T := TX3) (N := 9) hx hb hts hinX3 hown hK hP 0 rfl rfl 2 (by decide) (hts (.fieldLink RX3 29 "MeanderFarmLaw$Sim" "course" "[I") (List.mem_of_getElem? (i := 1) rfl)) (fun _ h9 => h9) rfl dX3_bulge_52 ?_
            refine lv_iload hx hb dX3_bulge_55 (lv_at hl 4 rfl) ?_
            refine mf_iconst hx hb dX3_bulge_57 ?_
            refine mf_isub hx hb dX3_bulge_58 ?_
            refine mf_iald (n := nn) (f := u1 2) hx hb hK hP 1 0 rfl rfl (z := kv - 2) (by omega) (by omega) (by first | decide | omega) dX3_bulge_59 ?_
            refine mf_top (u1 2 (kv - 2)) (r 6 (kv - 2)) (by rw [hfr 2 (by decide) (by decide), (rel2 hrel (z := kv - 2) (by omega) (by omega))]) ?_
            have b19 : (0 : Int) ≤ r 6 (kv - 2) ∧ r 6 (kv - 2) ≤ 383 := ok 6 (kv - 2)
            refine mf_iast (n := nv3) (f := v1 0) hx hb hK hP hD hS 8 0 rfl rfl (z := kv) (x := r 6 (kv - 2)) (by omega) (by omega) (by first | decide | omega) dX3_bulge_60 (fun H locs hP hD hS => ?_)
            obtain ⟨v20, ev20⟩ : ∃ z9 : mf_V, z9 = mf_sF v1 0 (mf_up (v1 0) (kv) (r 6 (kv - 2))) := ⟨_, rfl⟩
            have hP : va_P G.1 vwCl (SW G hm adm ca nn u1 ++ AW G na1 nv3 v20) H := by rw [ev20]; exact hP
            have hD : va_D A (SW G hm adm ca nn u1 ++ AW G na1 nv3 v20) := by rw [ev20]; exact hD
            have f1_v20 : v20 0 (kv) = r 6 (kv - 2) := by rw [ev20, mf_sF_s, mf_up_s]
            have f2_v20 : ∀ y, y ≠ (kv) → v20 0 y = v1 0 y := fun y hy => by rw [ev20, mf_sF_s, mf_up_n hy]
            have f3_v20 : ∀ q, q ≠ 0 → v20 q = v1 q := fun q hq => by rw [ev20, mf_sF_n hq]
            refine lv_goto (tgt := 101) hx hb dX3_bulge_61 (by decide) ?_
            refine lv_iinc (v := iI (kv + 1)) (lv' := [(4, .int (iI (kv + 1))), (0, .ref hm), (1, .int (iI (iv))), (2, .int (iI (sv))), (3, .ref na1)]) hx hb dX3_bulge_101 hl (k := 4) rfl (iI_add _ _).symm (by decide) rfl (fun ls hl => ?_)
            refine lv_goto (tgt := 13) hx hb dX3_bulge_104 (by decide) ?_
            exact ih13 (kv + 1) u1 v20 (by omega) (by first | assumption | omega) (by first | assumption | omega) (by exact hfr) (by intro j j0 j1; rcases (show j < kv ∨ j = kv by omega) with z | z; (rw [f2_v20 j (by omega)]; exact hv j j0 z); (rw [z, f1_v20, bulC_hi (by omega)])) (by intro z; by_cases y9 : z = kv; (rw [y9, f1_v20]; omega); (rw [f2_v20 z y9]; exact hv0 z)) (by intro c; exact ⟨fun ⟨t, a9, b9, d9, e9⟩ => (h5 c).1 ⟨t, a9, b9, by omega, e9⟩, fun h => (h5 c).2 (fun ⟨t, a9, b9, d9, e9⟩ => h ⟨t, a9, b9, by omega, e9⟩)⟩) _ _ hP hD hS ls (lv_sub hl [1, 2, 3, 4, 0] rfl)
        · skip
          refine lv_aload_n hx hb dX3_bulge_26 rfl (lv_at hl 3 rfl) ?_
          refine lv_iload hx hb dX3_bulge_27 (lv_at hl 4 rfl) ?_
          refine lv_aload_n hx hb dX3_bulge_29 rfl (lv_at hl 0 rfl) ?_
          refine va_get (D := G.1) (ci := 3) (v := .ref ca) (C := RX3) (T := TX3) (N := 9) hx hb hts hinX3 hown hK hP 0 rfl rfl 2 (by decide) (hts (.fieldLink RX3 29 "MeanderFarmLaw$Sim" "course" "[I") (List.mem_of_getElem? (i := 1) rfl)) (fun _ h9 => h9) rfl dX3_bulge_30 ?_
          refine lv_iload hx hb dX3_bulge_33 (lv_at hl 4 rfl) ?_
          refine mf_iald (n := nn) (f := u1 2) hx hb hK hP 1 0 rfl rfl (z := kv) (by omega) (by omega) (by first | decide | omega) dX3_bulge_35 ?_
          refine mf_top (u1 2 kv) (r 6 kv) (by rw [hfr 2 (by decide) (by decide), (rel2 hrel (z := kv) (by omega) (by omega))]) ?_
          have b21 : (0 : Int) ≤ r 6 kv ∧ r 6 kv ≤ 383 := ok 6 (kv)
          refine mf_iast (n := nv3) (f := v1 0) hx hb hK hP hD hS 8 0 rfl rfl (z := kv) (x := r 6 kv) (by omega) (by omega) (by first | decide | omega) dX3_bulge_36 (fun H locs hP hD hS => ?_)
          obtain ⟨v22, ev22⟩ : ∃ z9 : mf_V, z9 = mf_sF v1 0 (mf_up (v1 0) (kv) (r 6 kv)) := ⟨_, rfl⟩
          have hP : va_P G.1 vwCl (SW G hm adm ca nn u1 ++ AW G na1 nv3 v22) H := by rw [ev22]; exact hP
          have hD : va_D A (SW G hm adm ca nn u1 ++ AW G na1 nv3 v22) := by rw [ev22]; exact hD
          have f1_v22 : v22 0 (kv) = r 6 kv := by rw [ev22, mf_sF_s, mf_up_s]
          have f2_v22 : ∀ y, y ≠ (kv) → v22 0 y = v1 0 y := fun y hy => by rw [ev22, mf_sF_s, mf_up_n hy]
          have f3_v22 : ∀ q, q ≠ 0 → v22 q = v1 q := fun q hq => by rw [ev22, mf_sF_n hq]
          refine lv_goto (tgt := 101) hx hb dX3_bulge_37 (by decide) ?_
          refine lv_iinc (v := iI (kv + 1)) (lv' := [(4, .int (iI (kv + 1))), (0, .ref hm), (1, .int (iI (iv))), (2, .int (iI (sv))), (3, .ref na1)]) hx hb dX3_bulge_101 hl (k := 4) rfl (iI_add _ _).symm (by decide) rfl (fun ls hl => ?_)
          refine lv_goto (tgt := 13) hx hb dX3_bulge_104 (by decide) ?_
          exact ih13 (kv + 1) u1 v22 (by omega) (by first | assumption | omega) (by first | assumption | omega) (by exact hfr) (by intro j j0 j1; rcases (show j < kv ∨ j = kv by omega) with z | z; (rw [f2_v22 j (by omega)]; exact hv j j0 z); (rw [z, f1_v22, bulC_lo (by omega)])) (by intro z; by_cases y9 : z = kv; (rw [y9, f1_v22]; omega); (rw [f2_v22 z y9]; exact hv0 z)) (by intro c; exact ⟨fun ⟨t, a9, b9, d9, e9⟩ => (h5 c).1 ⟨t, a9, b9, by omega, e9⟩, fun h => (h5 c).2 (fun ⟨t, a9, b9, d9, e9⟩ => h ⟨t, a9, b9, by omega, e9⟩)⟩) _ _ hP hD hS ls (lv_sub hl [1, 2, 3, 4, 0] rfl)
  exact lp13 (_ + 1) 0 u av2 (Nat.lt_succ_self _) (by first | assumption | omega) (by first | assumption | omega) (by intro k _ _; rfl) (by intro j j0 j1; omega) (by intro z; rw [eav2]; exact ⟨Int.le_refl 0, (by decide : (0 : Int) ≤ 383)⟩) (by intro c; exact ⟨fun ⟨t, _, _, _, _⟩ => by omega, fun _ => rfl⟩) _ _ hP hD hS ls (lv_sub hl [2, 3, 4, 1, 0] rfl)
set_option maxHeartbeats 4000000 in
set_option maxRecDepth 100000 in
theorem c_X3_through (l : Launch) (G : mf_G) (hm : Nat) (adm : Nat → Nat) (ca nn : Nat) (u : mf_V)  (iv : Int) (jv : Int) (r : mf_V) (hiv : i32 iv) (hjv : i32 jv) (oku : rOK slo shi u) (ok : rOK rlo rhi r) (hI : RInv r) (hrel : relS r nn u) (hnk : neckP r iv jv) (hbk : r 9 0 < 100000000) (sz : Nat) : Met l yX3_through wsX3_through ({ frames := 1, cells := 1, slots := 150, locals := 21 }) (va_Pc [.ref hm, .int (iI (iv)), .int (iI (jv))] (WrP G (SW G hm adm ca nn u) sz)) (va_Qv (fun (uZ : mf_V × Nat × Nat) => rOK slo shi uZ.1 ∧ (uZ.2.2 : Int) = r 7 0 - (jv - iv - 1) ∧ ∀ q, RInv q → Brk r iv jv q → relS q uZ.2.2 uZ.1) (fun (uZ : mf_V × Nat × Nat) t => WrQ G (va_A (SW G hm adm ca nn u) sz) (SW G hm adm (uZ.2.1) (uZ.2.2) (uZ.1)) t) (va_A (SW G hm adm ca nn u) sz)) 1 150 (va_A (SW G hm adm ca nn u) sz) := by
  refine Met.ofW (cc := cX3_through) (maxL := 5) (ret := none) (by decide) rfl ?_
  intro p e s m args below meth c s₁ B hml hv
  obtain ⟨rfl, hsz, hP, hK, hD0, hN⟩ := hv
  have hx := B.exec
  have hb := B.bytes
  have hr := B.returns
  have hts := atoms_spec (ws := wsX3_through) B.pre
  have hown : s.vm.findClass RX3 = some m.cls := findClass_of_methodNamed B.named
  have hlocks := B.notSynchronized
  have hinX3 : ∀ w ∈ u_ws RX3 TX3 9, w ∈ wsX3_through := fun w h => List.mem_cons_of_mem _ (List.mem_append_right _ h)
  subst hsz
  have hD := hD0.self (sz := s.heap.size)
  generalize hAe : va_A (SW G hm adm ca nn u) s.heap.size = A at hD ⊢
  have hA : ∀ q : Nat, s.heap.size ≤ q → A q := fun q h => by rw [← hAe]; exact Or.inr h
  have hS : va_S A s.heap s.heap [] := va_S.rf
  have hl := lv_entry ([.ref hm, .int (iI (iv)), .int (iI (jv))]) (n := 5) (Nat.le_of_ble_eq_true rfl)
  rw [lg_entry_eq]
  generalize (lg_sl ([.ref hm, .int (iI (iv)), .int (iI (jv))]) ++ List.replicate (5 - (lg_sl ([.ref hm, .int (iI (iv)), .int (iI (jv))])).length) Slot.unset).toArray = ls at hl ⊢
  have hl : lv_has ls 5 [(0, .ref hm), (1, .int (iI (iv))), (2, .int (iI (jv)))] := hl
  have hiv1 := hiv.1
  have hiv2 := hiv.2
  have hjv1 := hjv.1
  have hjv2 := hjv.2
  have okLr : (0 : Int) ≤ r 7 0 ∧ r 7 0 ≤ 150 := ok 7 0
  have hN9 : (nn : Int) = r 7 0 := rel9 hrel
  obtain ⟨i0, j1, ij, hdn⟩ := neckP_w hnk
  refine lv_aload_n hx hb dX3_through_0 rfl (lv_at hl 0 rfl) ?_
  refine va_get (D := G.1) (ci := 3) (v := .ref ca) (C := RX3) (T := TX3) (N := 9) hx hb hts hinX3 hown hK hP 0 rfl rfl 2 (by decide) (hts (.fieldLink RX3 29 "MeanderFarmLaw$Sim" "course" "[I") (List.mem_of_getElem? (i := 1) rfl)) (fun _ h9 => h9) rfl dX3_through_1 ?_
  refine va_alen hx hb hK hP 1 0 rfl rfl (v := iI ((nn : Nat) : Int)) (nI_iI _) dX3_through_4 ?_
  refine mf_top (((nn : Nat) : Int)) (r 7 0) (rel9 hrel) ?_
  refine lv_iload_n hx hb dX3_through_5 rfl (lv_at hl 2 rfl) ?_
  refine lv_iload_n hx hb dX3_through_6 rfl (lv_at hl 1 rfl) ?_
  refine mf_isub hx hb dX3_through_7 ?_
  refine mf_iconst hx hb dX3_through_8 ?_
  refine mf_isub hx hb dX3_through_9 ?_
  refine mf_isub hx hb dX3_through_10 ?_
  obtain ⟨nv3, hnv3⟩ : ∃ z9 : Nat, (z9 : Int) = (r 7 0) - ((jv - iv) - 1) := ⟨((r 7 0) - ((jv - iv) - 1)).toNat, Int.toNat_of_nonneg (by omega)⟩
  refine mf_newv (M := 150) hx hb (hts (.arrayClass .int) (List.mem_of_getElem? (i := 2) rfl)) hK hP hD hS hA (n := (r 7 0) - ((jv - iv) - 1)) (N := nv3) hnv3.symm (by omega) (by omega) (Nat.le_of_ble_eq_true rfl) (Nat.le_of_ble_eq_true rfl) dX3_through_11 (fun na1 H hP hD hS => ?_)
  obtain ⟨av2, eav2⟩ : ∃ z9 : mf_V, z9 = fun _ _ => 0 := ⟨_, rfl⟩
  have hP : va_P G.1 vwCl (SW G hm adm ca nn u ++ AW G na1 nv3 av2) H := by rw [eav2]; exact hP
  have hD : va_D A (SW G hm adm ca nn u ++ AW G na1 nv3 av2) := by rw [eav2]; exact hD
  refine lv_astore_n (lv' := [(3, .ref na1), (0, .ref hm), (1, .int (iI (iv))), (2, .int (iI (jv)))]) hx hb dX3_through_13 rfl hl (by decide) rfl (fun ls hl => ?_)
  refine mf_iconst hx hb dX3_through_14 ?_
  refine lv_istore (lv' := [(4, .int (iI (0))), (3, .ref na1), (0, .ref hm), (1, .int (iI (iv))), (2, .int (iI (jv)))]) hx hb dX3_through_15 hl (by decide) rfl (fun ls hl => ?_)
  have lp17 : ∀ (n : Nat) (kv : Int) (u1 : mf_V) (v1 : mf_V), (r 7 0 - kv).toNat < n → (0 ≤ kv ∧ kv ≤ r 7 0) → (rOK slo shi u1) → (∀ k, k ≠ 6 → u1 k = u k) → (∀ j, 0 ≤ j → j < kv → j ≤ iv → v1 0 j = r 6 j) → (∀ t, jv ≤ t → t < kv → v1 0 (t - (jv - iv - 1)) = r 6 t) → (∀ z, 0 ≤ v1 0 z ∧ v1 0 z ≤ 383) → ∀ (H : Heap) (locs : List Loc), va_P G.1 vwCl (SW G hm adm ca nn u1 ++ AW G na1 nv3 v1) H → va_D A (SW G hm adm ca nn u1 ++ AW G na1 nv3 v1) → va_S A s.heap H locs → ∀ (ls : Array Slot), lv_has ls 5 [(0, .ref hm), (1, .int (iI (iv))), (2, .int (iI (jv))), (3, .ref na1), (4, .int (iI (kv)))] → W p l e (headSpec wsX3_through ({ frames := 1, cells := 1, slots := 150, locals := 21 })).room s m ([.ref hm, .int (iI (iv)), .int (iI (jv))] : List Value).toArray below meth c H locs 1 150 (MQ below (va_Qv (fun (uZ : mf_V × Nat × Nat) => rOK slo shi uZ.1 ∧ (uZ.2.2 : Int) = r 7 0 - (jv - iv - 1) ∧ ∀ q, RInv q → Brk r iv jv q → relS q uZ.2.2 uZ.1) (fun (uZ : mf_V × Nat × Nat) t => WrQ G A (SW G hm adm (uZ.2.1) (uZ.2.2) (uZ.1)) t) A) ([.ref hm, .int (iI (iv)), .int (iI (jv))] : List Value).toArray s 1 150 A) (F0 m 17 ls []) := by
    intro n
    induction n with
    | zero => intro kv u1 v1 hn; exact absurd hn (Nat.not_lt_zero _)
    | succ n ih17 =>
      intro kv u1 v1 hn hk oku1 hfr hlo hhi hv0 H locs hP hD hS ls hl
      refine lv_iload hx hb dX3_through_17 (lv_at hl 4 rfl) ?_
      refine lv_aload_n hx hb dX3_through_19 rfl (lv_at hl 0 rfl) ?_
      refine va_get (D := G.1) (ci := 3) (v := .ref ca) (C := RX3) (T := TX3) (N := 9) hx hb hts hinX3 hown hK hP 0 rfl rfl 2 (by decide) (hts (.fieldLink RX3 29 "MeanderFarmLaw$Sim" "course" "[I") (List.mem_of_getElem? (i := 1) rfl)) (fun _ h9 => h9) rfl dX3_through_20 ?_
      refine va_alen hx hb hK hP 1 0 rfl rfl (v := iI ((nn : Nat) : Int)) (nI_iI _) dX3_through_23 ?_
      refine mf_top (((nn : Nat) : Int)) (r 7 0) (rel9 hrel) ?_
      refine mf_icmp_ge (tgt := 93) hx hb dX3_through_24 (by decide) (i32_mk (by omega) (by omega)) (i32_mk (by omega) (by omega)) (fun c4 => ?_) (fun c4 => ?_)
      · skip
        refine lv_aload_n hx hb dX3_through_93 rfl (lv_at hl 0 rfl) ?_
        refine lv_aload_n hx hb dX3_through_94 rfl (lv_at hl 3 rfl) ?_
        refine va_put (D := G.1) (ci := 3) (v := .ref na1) (ty := .array .int) (C := RX3) (T := TX3) (N := 9) hx hb hts hinX3 tyX3 tyX3_ok nmX3 hown hK hP hD hS 0 rfl rfl 2 (by decide) (hts (.fieldLink RX3 29 "MeanderFarmLaw$Sim" "course" "[I") (List.mem_of_getElem? (i := 1) rfl)) (fun _ h9 => h9) rfl (by decide +kernel) rfl rfl (Nat.le_of_ble_eq_true rfl) dX3_through_95 (fun H locs hP hD hS => ?_)
        obtain ⟨u5, eu5⟩ : ∃ z9 : mf_V, z9 = mf_sF u1 2 (v1 0) := ⟨_, rfl⟩
        have hP : va_P G.1 vwCl (SW G hm adm na1 nv3 u5) H := by rw [eu5]; exact hP.sub [0, 8, 2, 3, 4, 5, 6, 7] rfl
        have hD : va_D A (SW G hm adm na1 nv3 u5) := by rw [eu5]; exact hD.sub [0, 8, 2, 3, 4, 5, 6, 7] (by decide) rfl
        have f1_u5 : u5 2 = v1 0 := by rw [eu5, mf_sF_s]
        have f3_u5 : ∀ q, q ≠ 2 → u5 q = u1 q := fun q hq => by rw [eu5, mf_sF_n hq]
        have oku5 : rOK slo shi u5 := by rw [eu5]; exact rOK_put2 oku1 hv0
        refine lv_aload_n hx hb dX3_through_98 rfl (lv_at hl 0 rfl) ?_
        have hkv : kv = r 7 0 := by omega
        obtain ⟨q0, eq0⟩ : ∃ z9 : mf_V, z9 = mf_sF (mf_sF r 7 (fun _ => r 7 0 - (jv - iv - 1))) 6 (brkC r iv jv) := ⟨_, rfl⟩
        have g7 : q0 7 0 = r 7 0 - (jv - iv - 1) := by rw [eq0, mf_sF_n (by decide), mf_sF_s]
        have g6 : ∀ j, q0 6 j = brkC r iv jv j := fun j => by rw [eq0, mf_sF_s]
        have hq6 : rgA (q0 7 0) (u5 2) (q0 6) := fun j j0 j1 => by
          rw [g7] at j1
          rw [f1_u5, g6]
          by_cases z : j ≤ iv
          · rw [brkC_lo z]; exact hlo j j0 (by omega) z
          · rw [brkC_hi (by omega)]
            have g := hhi (j + (jv - iv - 1)) (by omega) (by omega)
            rw [show j + (jv - iv - 1) - (jv - iv - 1) = j by omega] at g
            exact g
        skip
        have hFc := va_free (wc := SW G hm adm na1 nv3 u5) hD hS hA [0, 1, 2, 3, 4, 5, 6, 7] rfl
        refine va_callv (va_runV (As := []) (rest := []) ⟨hx, hb, hml, hown, hts⟩ (c_X3_place l G hm adm na1 nv3 u5 (q0) (by assumption) (by exact brkCrs hI hnk g7 (fun j _ _ => g6 j)) (by intro i h0 h1; rw [g6]; unfold brkC; split <;> exact ok 6 _) (by omega) (by exact hq6) (by omega) _) (cwV 0 hts gX3_through_X3_place rfl rfl rfl (by decide +kernel) ⟨Nat.le_of_ble_eq_true rfl, Nat.le_of_ble_eq_true rfl⟩) (wrV (wc := SW G hm adm na1 nv3 u5) hK hP hD hN [0, 1, 2, 3, 4, 5, 6, 7] (by decide) rfl rfl (ci := 3) rfl rfl) rfl rfl hl.1 rfl (lv_room (Nat.le_of_ble_eq_true rfl)) dX3_through_99 ⟨(Nat.le_of_ble_eq_true rfl), (Nat.le_of_ble_eq_true rfl)⟩) hS (fun q _ h => hFc q h) hFc (fun u7 t H1 locs ht hvm hw hB hz1 hk1 hS => ?_)
        obtain ⟨u8, rfl⟩ : ∃ z, z = u7 := ⟨_, rfl⟩
        try dsimp only at hw hB
        obtain ⟨hP, hD⟩ := wrJ (ws := SW G hm adm na1 nv3 u5) (w1 := SW G hm adm na1 nv3 u8) ht hFc hB
        have hP : va_P G.1 vwCl (SW G hm adm na1 nv3 u8) H1 := hP
        have hD : va_D A (SW G hm adm na1 nv3 u8) := hD
        clear hB hk1 hFc ht hz1 hvm
        generalize H1 = H at hP hS ⊢
        have w9 := hw; clear hw
        have oku8 : rOK slo shi u8 := w9.1
        skip
        refine lv_aload_n hx hb dX3_through_102 rfl (lv_at hl 0 rfl) ?_
        refine lv_dup hx hb dX3_through_103 rfl ?_
        refine va_get (D := G.1) (ci := 3) (v := .int (iI (u8 1 0))) (C := RX3) (T := TX3) (N := 9) hx hb hts hinX3 hown hK hP 0 rfl rfl 1 (by decide) (hts (.fieldLink RX3 39 "MeanderFarmLaw$Sim" "breaks" "I") (List.mem_of_getElem? (i := 4) rfl)) (fun _ h9 => h9) rfl dX3_through_104 ?_
        refine mf_top (u8 1 0) (r 9 0) (by rw [w9.2.1 1 (by decide), f3_u5 1 (by decide), hfr 1 (by decide), (rel1 hrel)]) ?_
        have b10 : (0 : Int) ≤ r 9 0 ∧ r 9 0 ≤ 100000000 := ok 9 (0)
        refine mf_iconst hx hb dX3_through_107 ?_
        refine mf_iadd hx hb dX3_through_108 ?_
        refine va_put (D := G.1) (ci := 3) (v := .int (iI ((r 9 0) + 1))) (ty := .int) (C := RX3) (T := TX3) (N := 9) hx hb hts hinX3 tyX3 tyX3_ok nmX3 hown hK hP hD hS 0 rfl rfl 1 (by decide) (hts (.fieldLink RX3 39 "MeanderFarmLaw$Sim" "breaks" "I") (List.mem_of_getElem? (i := 4) rfl)) (fun _ h9 => h9) rfl (by decide +kernel) rfl rfl (Nat.le_of_ble_eq_true rfl) dX3_through_109 (fun H locs hP hD hS => ?_)
        obtain ⟨u11, eu11⟩ : ∃ z9 : mf_V, z9 = mf_sF u8 1 (fun _ => (r 9 0) + 1) := ⟨_, rfl⟩
        have hP : va_P G.1 vwCl (SW G hm adm na1 nv3 u11) H := by rw [eu11]; exact hP
        have hD : va_D A (SW G hm adm na1 nv3 u11) := by rw [eu11]; exact hD
        have oku11 : rOK slo shi u11 := by rw [eu11]; exact rOK_set oku8 1 _ (show (0 : Int) ≤ (r 9 0) + 1 by omega) (show (r 9 0) + 1 ≤ (100000000 : Int) by omega)
        have f1_u11 : ∀ y, u11 1 y = (r 9 0) + 1 := fun y => by rw [eu11, mf_sF_s]
        have f3_u11 : ∀ q, q ≠ 1 → u11 q = u8 q := fun q hq => by rw [eu11, mf_sF_n hq]
        exact W.vret hx hb hr (fun t ht hW => ⟨⟨(u11, na1, nv3), rfl, by (try dsimp only); exact ⟨oku11, by omega, fun q hq hB => brkRelS hrel hB (by omega) (by rw [f3_u11 0 (by decide), w9.2.1 0 (by decide), f3_u5 0 (by decide), hfr 0 (by decide)]) (f1_u11 0) (by rw [f3_u11 3 (by decide), w9.2.1 3 (by decide), f3_u5 3 (by decide), hfr 3 (by decide)]) (by rw [f3_u11 4 (by decide), w9.2.1 4 (by decide), f3_u5 4 (by decide), hfr 4 (by decide)]) (by rw [f3_u11 5 (by decide), w9.2.1 5 (by decide), f3_u5 5 (by decide), hfr 5 (by decide)]) (by rw [f3_u11 7 (by decide), w9.2.1 7 (by decide), f3_u5 7 (by decide), hfr 7 (by decide)]) (fun j j0 j1 => by rw [f3_u11 2 (by decide), w9.2.1 2 (by decide), hB.2.1 j j0 j1, ← g6]; exact hq6 j j0 (by rw [g7]; exact j1)) (by rw [f3_u11 8 (by decide)]; exact placeEndS hq (fun i h0 h1 => by rw [hB.1] at h1; rw [hB.2.1 i h0 h1, ← g6]; exact w9.2.2.1 i h0 (by rw [g7]; exact h1)) (fun c c0 c1 hc => w9.2.2.2 c c0 c1 (fun i h0 h1 => by rw [g7] at h1; rw [g6, ← hB.2.1 i h0 h1]; exact hc i h0 (by rw [hB.1]; exact h1))))⟩, by rw [ht]; exact hP, hD⟩, hS.F ht⟩) hS.2.2 dX3_through_112
      · skip
        refine lv_iload hx hb dX3_through_27 (lv_at hl 4 rfl) ?_
        refine lv_iload_n hx hb dX3_through_29 rfl (lv_at hl 1 rfl) ?_
        refine mf_icmp_gt (tgt := 47) hx hb dX3_through_30 (by decide) (i32_mk (by omega) (by omega)) (i32_mk (by omega) (by omega)) (fun c12 => ?_) (fun c12 => ?_)
        · skip
          refine lv_iload hx hb dX3_through_47 (lv_at hl 4 rfl) ?_
          refine lv_iload_n hx hb dX3_through_49 rfl (lv_at hl 2 rfl) ?_
          refine mf_icmp_lt (tgt := 73) hx hb dX3_through_50 (by decide) (i32_mk (by omega) (by omega)) (i32_mk (by omega) (by omega)) (fun c13 => ?_) (fun c13 => ?_)
          · skip
            refine lv_aload_n hx hb dX3_through_73 rfl (lv_at hl 0 rfl) ?_
            refine va_get (D := G.1) (ci := 3) (v := .ref (adm 6)) (C := RX3) (T := TX3) (N := 9) hx hb hts hinX3 hown hK hP 0 rfl rfl 6 (by decide) (hts (.fieldLink RX3 20 "MeanderFarmLaw$Sim" "lake" "[I") (List.mem_of_getElem? (i := 3) rfl)) (fun _ h9 => h9) rfl dX3_through_74 ?_
            refine lv_aload_n hx hb dX3_through_77 rfl (lv_at hl 0 rfl) ?_
            refine va_get (D := G.1) (ci := 3) (v := .ref ca) (C := RX3) (T := TX3) (N := 9) hx hb hts hinX3 hown hK hP 0 rfl rfl 2 (by decide) (hts (.fieldLink RX3 29 "MeanderFarmLaw$Sim" "course" "[I") (List.mem_of_getElem? (i := 1) rfl)) (fun _ h9 => h9) rfl dX3_through_78 ?_
            refine lv_iload hx hb dX3_through_81 (lv_at hl 4 rfl) ?_
            refine mf_iald (n := nn) (f := u1 2) hx hb hK hP 1 0 rfl rfl (z := kv) (by omega) (by omega) (by first | decide | omega) dX3_through_83 ?_
            refine mf_top (u1 2 kv) (r 6 kv) (by rw [hfr 2 (by decide), (rel2 hrel (z := kv) (by omega) (by omega))]) ?_
            have b14 : (0 : Int) ≤ r 6 kv ∧ r 6 kv ≤ 383 := ok 6 (kv)
            refine mf_bipush hx hb dX3_through_84 rfl ?_
            refine mf_iast (n := 384) (f := u1 6) hx hb hK hP hD hS 5 0 rfl rfl (z := r 6 kv) (x := 10) (by omega) (by omega) (by first | decide | omega) dX3_through_86 (fun H locs hP hD hS => ?_)
            obtain ⟨u15, eu15⟩ : ∃ z9 : mf_V, z9 = mf_sF u1 6 (mf_up (u1 6) (r 6 kv) (10)) := ⟨_, rfl⟩
            have hP : va_P G.1 vwCl (SW G hm adm ca nn u15 ++ AW G na1 nv3 v1) H := by rw [eu15]; exact hP
            have hD : va_D A (SW G hm adm ca nn u15 ++ AW G na1 nv3 v1) := by rw [eu15]; exact hD
            have oku15 : rOK slo shi u15 := by rw [eu15]; exact rOK_up oku1 6 _ _ (show (0 : Int) ≤ 10 by omega) (show 10 ≤ (10 : Int) by omega)
            have f1_u15 : u15 6 (r 6 kv) = 10 := by rw [eu15, mf_sF_s, mf_up_s]
            have f2_u15 : ∀ y, y ≠ (r 6 kv) → u15 6 y = u1 6 y := fun y hy => by rw [eu15, mf_sF_s, mf_up_n hy]
            have f3_u15 : ∀ q, q ≠ 6 → u15 q = u1 q := fun q hq => by rw [eu15, mf_sF_n hq]
            refine lv_iinc (v := iI (kv + 1)) (lv' := [(4, .int (iI (kv + 1))), (0, .ref hm), (1, .int (iI (iv))), (2, .int (iI (jv))), (3, .ref na1)]) hx hb dX3_through_87 hl (k := 4) rfl (iI_add _ _).symm (by decide) rfl (fun ls hl => ?_)
            refine lv_goto (tgt := 17) hx hb dX3_through_90 (by decide) ?_
            exact ih17 (kv + 1) u15 v1 (by omega) (by first | assumption | omega) (by first | assumption | omega) (by intro k h6; rw [f3_u15 k h6]; exact hfr k h6) (by intro j j0 j1 j2; exact hlo j j0 (by omega) j2) (by intro t t0 t1; omega) (by exact hv0) _ _ hP hD hS ls (lv_sub hl [1, 2, 3, 4, 0] rfl)
          · skip
            refine lv_aload_n hx hb dX3_through_53 rfl (lv_at hl 3 rfl) ?_
            refine lv_iload hx hb dX3_through_54 (lv_at hl 4 rfl) ?_
            refine lv_iload_n hx hb dX3_through_56 rfl (lv_at hl 2 rfl) ?_
            refine lv_iload_n hx hb dX3_through_57 rfl (lv_at hl 1 rfl) ?_
            refine mf_isub hx hb dX3_through_58 ?_
            refine mf_iconst hx hb dX3_through_59 ?_
            refine mf_isub hx hb dX3_through_60 ?_
            refine mf_isub hx hb dX3_through_61 ?_
            refine lv_aload_n hx hb dX3_through_62 rfl (lv_at hl 0 rfl) ?_
            refine va_get (D := G.1) (ci := 3) (v := .ref ca) (C := RX3) (T := TX3) (N := 9) hx hb hts hinX3 hown hK hP 0 rfl rfl 2 (by decide) (hts (.fieldLink RX3 29 "MeanderFarmLaw$Sim" "course" "[I") (List.mem_of_getElem? (i := 1) rfl)) (fun _ h9 => h9) rfl dX3_through_63 ?_
            refine lv_iload hx hb dX3_through_66 (lv_at hl 4 rfl) ?_
            refine mf_iald (n := nn) (f := u1 2) hx hb hK hP 1 0 rfl rfl (z := kv) (by omega) (by omega) (by first | decide | omega) dX3_through_68 ?_
            refine mf_top (u1 2 kv) (r 6 kv) (by rw [hfr 2 (by decide), (rel2 hrel (z := kv) (by omega) (by omega))]) ?_
            have b16 : (0 : Int) ≤ r 6 kv ∧ r 6 kv ≤ 383 := ok 6 (kv)
            refine mf_iast (n := nv3) (f := v1 0) hx hb hK hP hD hS 8 0 rfl rfl (z := kv - ((jv - iv) - 1)) (x := r 6 kv) (by omega) (by omega) (by first | decide | omega) dX3_through_69 (fun H locs hP hD hS => ?_)
            obtain ⟨v17, ev17⟩ : ∃ z9 : mf_V, z9 = mf_sF v1 0 (mf_up (v1 0) (kv - ((jv - iv) - 1)) (r 6 kv)) := ⟨_, rfl⟩
            have hP : va_P G.1 vwCl (SW G hm adm ca nn u1 ++ AW G na1 nv3 v17) H := by rw [ev17]; exact hP
            have hD : va_D A (SW G hm adm ca nn u1 ++ AW G na1 nv3 v17) := by rw [ev17]; exact hD
            have f1_v17 : v17 0 (kv - ((jv - iv) - 1)) = r 6 kv := by rw [ev17, mf_sF_s, mf_up_s]
            have f2_v17 : ∀ y, y ≠ (kv - ((jv - iv) - 1)) → v17 0 y = v1 0 y := fun y hy => by rw [ev17, mf_sF_s, mf_up_n hy]
            have f3_v17 : ∀ q, q ≠ 0 → v17 q = v1 q := fun q hq => by rw [ev17, mf_sF_n hq]
            refine lv_goto (tgt := 87) hx hb dX3_through_70 (by decide) ?_
            refine lv_iinc (v := iI (kv + 1)) (lv' := [(4, .int (iI (kv + 1))), (0, .ref hm), (1, .int (iI (iv))), (2, .int (iI (jv))), (3, .ref na1)]) hx hb dX3_through_87 hl (k := 4) rfl (iI_add _ _).symm (by decide) rfl (fun ls hl => ?_)
            refine lv_goto (tgt := 17) hx hb dX3_through_90 (by decide) ?_
            exact ih17 (kv + 1) u1 v17 (by omega) (by first | assumption | omega) (by first | assumption | omega) (by exact hfr) (by intro j j0 j1 j2; rw [f2_v17 j (by omega)]; exact hlo j j0 (by omega) j2) (by intro t t0 t1; rcases (show t < kv ∨ t = kv by omega) with z | z; (rw [f2_v17 _ (by omega)]; exact hhi t t0 z); (rw [z]; exact f1_v17)) (by intro z; by_cases y9 : z = kv - (jv - iv - 1); (rw [y9, f1_v17]; omega); (rw [f2_v17 z y9]; exact hv0 z)) _ _ hP hD hS ls (lv_sub hl [1, 2, 3, 4, 0] rfl)
        · skip
          refine lv_aload_n hx hb dX3_through_33 rfl (lv_at hl 3 rfl) ?_
          refine lv_iload hx hb dX3_through_34 (lv_at hl 4 rfl) ?_
          refine lv_aload_n hx hb dX3_through_36 rfl (lv_at hl 0 rfl) ?_
          refine va_get (D := G.1) (ci := 3) (v := .ref ca) (C := RX3) (T := TX3) (N := 9) hx hb hts hinX3 hown hK hP 0 rfl rfl 2 (by decide) (hts (.fieldLink RX3 29 "MeanderFarmLaw$Sim" "course" "[I") (List.mem_of_getElem? (i := 1) rfl)) (fun _ h9 => h9) rfl dX3_through_37 ?_
          refine lv_iload hx hb dX3_through_40 (lv_at hl 4 rfl) ?_
          refine mf_iald (n := nn) (f := u1 2) hx hb hK hP 1 0 rfl rfl (z := kv) (by omega) (by omega) (by first | decide | omega) dX3_through_42 ?_
          refine mf_top (u1 2 kv) (r 6 kv) (by rw [hfr 2 (by decide), (rel2 hrel (z := kv) (by omega) (by omega))]) ?_
          have b18 : (0 : Int) ≤ r 6 kv ∧ r 6 kv ≤ 383 := ok 6 (kv)
          refine mf_iast (n := nv3) (f := v1 0) hx hb hK hP hD hS 8 0 rfl rfl (z := kv) (x := r 6 kv) (by omega) (by omega) (by first | decide | omega) dX3_through_43 (fun H locs hP hD hS => ?_)
          obtain ⟨v19, ev19⟩ : ∃ z9 : mf_V, z9 = mf_sF v1 0 (mf_up (v1 0) (kv) (r 6 kv)) := ⟨_, rfl⟩
          have hP : va_P G.1 vwCl (SW G hm adm ca nn u1 ++ AW G na1 nv3 v19) H := by rw [ev19]; exact hP
          have hD : va_D A (SW G hm adm ca nn u1 ++ AW G na1 nv3 v19) := by rw [ev19]; exact hD
          have f1_v19 : v19 0 (kv) = r 6 kv := by rw [ev19, mf_sF_s, mf_up_s]
          have f2_v19 : ∀ y, y ≠ (kv) → v19 0 y = v1 0 y := fun y hy => by rw [ev19, mf_sF_s, mf_up_n hy]
          have f3_v19 : ∀ q, q ≠ 0 → v19 q = v1 q := fun q hq => by rw [ev19, mf_sF_n hq]
          refine lv_goto (tgt := 87) hx hb dX3_through_44 (by decide) ?_
          refine lv_iinc (v := iI (kv + 1)) (lv' := [(4, .int (iI (kv + 1))), (0, .ref hm), (1, .int (iI (iv))), (2, .int (iI (jv))), (3, .ref na1)]) hx hb dX3_through_87 hl (k := 4) rfl (iI_add _ _).symm (by decide) rfl (fun ls hl => ?_)
          refine lv_goto (tgt := 17) hx hb dX3_through_90 (by decide) ?_
          exact ih17 (kv + 1) u1 v19 (by omega) (by first | assumption | omega) (by first | assumption | omega) (by exact hfr) (by intro j j0 j1 j2; rcases (show j < kv ∨ j = kv by omega) with z | z; (rw [f2_v19 j (by omega)]; exact hlo j j0 z j2); (rw [z]; exact f1_v19)) (by intro t t0 t1; omega) (by intro z; by_cases y9 : z = kv; (rw [y9, f1_v19]; omega); (rw [f2_v19 z y9]; exact hv0 z)) _ _ hP hD hS ls (lv_sub hl [1, 2, 3, 4, 0] rfl)
  exact lp17 (_ + 1) 0 u av2 (Nat.lt_succ_self _) (by first | assumption | omega) (by first | assumption | omega) (by intro k _; rfl) (by intro j j0 j1 j2; omega) (by intro t t0 t1; omega) (by intro z; rw [eav2]; exact ⟨Int.le_refl 0, (by decide : (0 : Int) ≤ 383)⟩) _ _ hP hD hS ls (lv_sub hl [2, 3, 4, 1, 0] rfl)
set_option maxHeartbeats 4000000 in
set_option maxRecDepth 100000 in
theorem c_X3_neck (l : Launch) (G : mf_G) (hm : Nat) (adm : Nat → Nat) (ca nn : Nat) (u : mf_V)  (r : mf_V) (oku : rOK slo shi u) (ok : rOK rlo rhi r) (hI : RInv r) (hrel : relS r nn u) (sz : Nat) : Met l yX3_neck wsX3_neck ({ frames := 1, cells := 1, slots := 3, locals := 22 }) (va_Pc [.ref hm] (WrP G (SW G hm adm ca nn u) sz)) (va_Qr (fun (u9 : mf_V) => u9 0 0 = widF r ∧ (widF r = -1 ∨ u9 0 1 = farF r (widF r))) (fun (u9 : mf_V) a t => WrQ G (va_A (SW G hm adm ca nn u) sz) (SW G hm adm ca nn u ++ AW G a 3 u9) t) (va_A (SW G hm adm ca nn u) sz)) 1 3 (va_A (SW G hm adm ca nn u) sz) := by
  refine Met.ofW (cc := cX3_neck) (maxL := 6) (ret := (some (.array .int))) (by decide) rfl ?_
  intro p e s m args below meth c s₁ B hml hv
  obtain ⟨rfl, hsz, hP, hK, hD0, hN⟩ := hv
  have hx := B.exec
  have hb := B.bytes
  have hr := B.returns
  have hts := atoms_spec (ws := wsX3_neck) B.pre
  have hown : s.vm.findClass RX3 = some m.cls := findClass_of_methodNamed B.named
  have hlocks := B.notSynchronized
  have hinX3 : ∀ w ∈ u_ws RX3 TX3 9, w ∈ wsX3_neck := fun w h => List.mem_cons_of_mem _ (List.mem_append_right _ h)
  subst hsz
  have hD := hD0.self (sz := s.heap.size)
  generalize hAe : va_A (SW G hm adm ca nn u) s.heap.size = A at hD ⊢
  have hA : ∀ q : Nat, s.heap.size ≤ q → A q := fun q h => by rw [← hAe]; exact Or.inr h
  have hS : va_S A s.heap s.heap [] := va_S.rf
  have hl := lv_entry ([.ref hm]) (n := 6) (Nat.le_of_ble_eq_true rfl)
  rw [lg_entry_eq]
  generalize (lg_sl ([.ref hm]) ++ List.replicate (6 - (lg_sl ([.ref hm])).length) Slot.unset).toArray = ls at hl ⊢
  have hl : lv_has ls 6 [(0, .ref hm)] := hl
  have okLr : (0 : Int) ≤ r 7 0 ∧ r 7 0 ≤ 150 := ok 7 0
  have hN9 : (nn : Int) = r 7 0 := rel9 hrel
  refine mf_iconst hx hb dX3_neck_0 ?_
  refine mf_newi hx hb (hts (.arrayClass .int) (List.mem_of_getElem? (i := 1) rfl)) hK hP hD hS hA (n := 3) (N := 3) rfl (Nat.le_of_ble_eq_true rfl) (Nat.le_of_ble_eq_true rfl) (Nat.le_of_ble_eq_true rfl) dX3_neck_1 (fun na1 H hP hD hS => ?_)
  obtain ⟨av2, eav2⟩ : ∃ z9 : mf_V, z9 = fun _ _ => 0 := ⟨_, rfl⟩
  have hP : va_P G.1 vwCl (SW G hm adm ca nn u ++ AW G na1 3 av2) H := by rw [eav2]; exact hP
  have hD : va_D A (SW G hm adm ca nn u ++ AW G na1 3 av2) := by rw [eav2]; exact hD
  refine lv_dup hx hb dX3_neck_3 rfl ?_
  refine mf_iconst hx hb dX3_neck_4 ?_
  refine mf_iconst hx hb dX3_neck_5 ?_
  refine mf_iast (n := 3) (f := av2 0) hx hb hK hP hD hS 8 0 rfl rfl (z := 0) (x := (-1)) (by omega) (by omega) (by first | decide | omega) dX3_neck_6 (fun H locs hP hD hS => ?_)
  obtain ⟨av3, eav3⟩ : ∃ z9 : mf_V, z9 = mf_sF av2 0 (mf_up (av2 0) (0) ((-1))) := ⟨_, rfl⟩
  have hP : va_P G.1 vwCl (SW G hm adm ca nn u ++ AW G na1 3 av3) H := by rw [eav3]; exact hP
  have hD : va_D A (SW G hm adm ca nn u ++ AW G na1 3 av3) := by rw [eav3]; exact hD
  have f1_av3 : av3 0 (0) = (-1) := by rw [eav3, mf_sF_s, mf_up_s]
  have f2_av3 : ∀ y, y ≠ (0) → av3 0 y = av2 0 y := fun y hy => by rw [eav3, mf_sF_s, mf_up_n hy]
  have f3_av3 : ∀ q, q ≠ 0 → av3 q = av2 q := fun q hq => by rw [eav3, mf_sF_n hq]
  refine lv_dup hx hb dX3_neck_7 rfl ?_
  refine mf_iconst hx hb dX3_neck_8 ?_
  refine mf_iconst hx hb dX3_neck_9 ?_
  refine mf_iast (n := 3) (f := av3 0) hx hb hK hP hD hS 8 0 rfl rfl (z := 1) (x := (-1)) (by omega) (by omega) (by first | decide | omega) dX3_neck_10 (fun H locs hP hD hS => ?_)
  obtain ⟨av4, eav4⟩ : ∃ z9 : mf_V, z9 = mf_sF av3 0 (mf_up (av3 0) (1) ((-1))) := ⟨_, rfl⟩
  have hP : va_P G.1 vwCl (SW G hm adm ca nn u ++ AW G na1 3 av4) H := by rw [eav4]; exact hP
  have hD : va_D A (SW G hm adm ca nn u ++ AW G na1 3 av4) := by rw [eav4]; exact hD
  have f1_av4 : av4 0 (1) = (-1) := by rw [eav4, mf_sF_s, mf_up_s]
  have f2_av4 : ∀ y, y ≠ (1) → av4 0 y = av3 0 y := fun y hy => by rw [eav4, mf_sF_s, mf_up_n hy]
  have f3_av4 : ∀ q, q ≠ 0 → av4 q = av3 q := fun q hq => by rw [eav4, mf_sF_n hq]
  refine lv_dup hx hb dX3_neck_11 rfl ?_
  refine mf_iconst hx hb dX3_neck_12 ?_
  refine mf_iconst hx hb dX3_neck_13 ?_
  refine mf_iast (n := 3) (f := av4 0) hx hb hK hP hD hS 8 0 rfl rfl (z := 2) (x := 0) (by omega) (by omega) (by first | decide | omega) dX3_neck_14 (fun H locs hP hD hS => ?_)
  obtain ⟨av5, eav5⟩ : ∃ z9 : mf_V, z9 = mf_sF av4 0 (mf_up (av4 0) (2) (0)) := ⟨_, rfl⟩
  have hP : va_P G.1 vwCl (SW G hm adm ca nn u ++ AW G na1 3 av5) H := by rw [eav5]; exact hP
  have hD : va_D A (SW G hm adm ca nn u ++ AW G na1 3 av5) := by rw [eav5]; exact hD
  have f1_av5 : av5 0 (2) = 0 := by rw [eav5, mf_sF_s, mf_up_s]
  have f2_av5 : ∀ y, y ≠ (2) → av5 0 y = av4 0 y := fun y hy => by rw [eav5, mf_sF_s, mf_up_n hy]
  have f3_av5 : ∀ q, q ≠ 0 → av5 q = av4 q := fun q hq => by rw [eav5, mf_sF_n hq]
  refine lv_astore_n (lv' := [(1, .ref na1), (0, .ref hm)]) hx hb dX3_neck_15 rfl hl (by decide) rfl (fun ls hl => ?_)
  refine mf_iconst hx hb dX3_neck_16 ?_
  refine lv_istore_n (lv' := [(2, .int (iI (0))), (1, .ref na1), (0, .ref hm)]) hx hb dX3_neck_17 rfl hl (by decide) rfl (fun ls hl => ?_)
  have lp18 : ∀ (n : Nat) (kv : Int) (v1 : mf_V), (r 7 0 - kv).toNat < n → (0 ≤ kv ∧ kv ≤ r 7 0) → (v1 0 0 = (widG r kv).1 ∧ ((widG r kv).1 = -1 ∨ v1 0 1 = farF r (widG r kv).1)) → ((-1 ≤ v1 0 0 ∧ v1 0 0 ≤ 150) ∧ -1 ≤ v1 0 1 ∧ v1 0 1 ≤ 150) → ∀ (H : Heap) (locs : List Loc), va_P G.1 vwCl (SW G hm adm ca nn u ++ AW G na1 3 v1) H → va_D A (SW G hm adm ca nn u ++ AW G na1 3 v1) → va_S A s.heap H locs → ∀ (ls : Array Slot), lv_has ls 6 [(0, .ref hm), (1, .ref na1), (2, .int (iI (kv)))] → W p l e (headSpec wsX3_neck ({ frames := 1, cells := 1, slots := 3, locals := 22 })).room s m ([.ref hm] : List Value).toArray below meth c H locs 1 3 (MQ below (va_Qr (fun (u9 : mf_V) => u9 0 0 = widF r ∧ (widF r = -1 ∨ u9 0 1 = farF r (widF r))) (fun (u9 : mf_V) a t => WrQ G A (SW G hm adm ca nn u ++ AW G a 3 u9) t) A) ([.ref hm] : List Value).toArray s 1 3 A) (F0 m 18 ls []) := by
    intro n
    induction n with
    | zero => intro kv v1 hn; exact absurd hn (Nat.not_lt_zero _)
    | succ n ih18 =>
      intro kv v1 hn hk ho hvb H locs hP hD hS ls hl
      refine lv_iload_n hx hb dX3_neck_18 rfl (lv_at hl 2 rfl) ?_
      refine lv_aload_n hx hb dX3_neck_19 rfl (lv_at hl 0 rfl) ?_
      refine va_get (D := G.1) (ci := 3) (v := .ref ca) (C := RX3) (T := TX3) (N := 9) hx hb hts hinX3 hown hK hP 0 rfl rfl 2 (by decide) (hts (.fieldLink RX3 29 "MeanderFarmLaw$Sim" "course" "[I") (List.mem_of_getElem? (i := 2) rfl)) (fun _ h9 => h9) rfl dX3_neck_20 ?_
      refine va_alen hx hb hK hP 1 0 rfl rfl (v := iI ((nn : Nat) : Int)) (nI_iI _) dX3_neck_23 ?_
      refine mf_top (((nn : Nat) : Int)) (r 7 0) (rel9 hrel) ?_
      refine mf_icmp_ge (tgt := 125) hx hb dX3_neck_24 (by decide) (i32_mk (by omega) (by omega)) (i32_mk (by omega) (by omega)) (fun c6 => ?_) (fun c6 => ?_)
      · skip
        refine lv_aload_n hx hb dX3_neck_125 rfl (lv_at hl 1 rfl) ?_
        exact W.aret hx hb hr (Or.inr ⟨_, rfl⟩) (Or.inr ⟨_, rfl⟩) (fun t ht hW => ⟨⟨v1, _, rfl, by rw [show kv = r 7 0 by omega] at ho; exact ho, by rw [ht]; exact hP, hD⟩, hS.F ht⟩) hS.2.2 dX3_neck_126
      · skip
        refine mf_iconst hx hb dX3_neck_27 ?_
        refine lv_istore_n (lv' := [(3, .int (iI (0))), (0, .ref hm), (1, .ref na1), (2, .int (iI (kv)))]) hx hb dX3_neck_28 rfl hl (by decide) rfl (fun ls hl => ?_)
        have lp29 : ∀ (n : Nat) (dv : Int) (v2 : mf_V), (4 - dv).toNat < n → (0 ≤ dv ∧ dv ≤ 4) → (nbS r kv dv v2) → ((-1 ≤ v2 0 0 ∧ v2 0 0 ≤ 150) ∧ -1 ≤ v2 0 1 ∧ v2 0 1 ≤ 150) → ∀ (H : Heap) (locs : List Loc), va_P G.1 vwCl (SW G hm adm ca nn u ++ AW G na1 3 v2) H → va_D A (SW G hm adm ca nn u ++ AW G na1 3 v2) → va_S A s.heap H locs → ∀ (ls : Array Slot), lv_has ls 6 [(0, .ref hm), (1, .ref na1), (2, .int (iI (kv))), (3, .int (iI (dv)))] → W p l e (headSpec wsX3_neck ({ frames := 1, cells := 1, slots := 3, locals := 22 })).room s m ([.ref hm] : List Value).toArray below meth c H locs 1 3 (MQ below (va_Qr (fun (u9 : mf_V) => u9 0 0 = widF r ∧ (widF r = -1 ∨ u9 0 1 = farF r (widF r))) (fun (u9 : mf_V) a t => WrQ G A (SW G hm adm ca nn u ++ AW G a 3 u9) t) A) ([.ref hm] : List Value).toArray s 1 3 A) (F0 m 29 ls []) := by
          intro n
          induction n with
          | zero => intro dv v2 hn; exact absurd hn (Nat.not_lt_zero _)
          | succ n ih29 =>
            intro dv v2 hn hd hb2 hvb2 H locs hP hD hS ls hl
            refine lv_iload_n hx hb dX3_neck_29 rfl (lv_at hl 3 rfl) ?_
            refine mf_iconst hx hb dX3_neck_30 ?_
            refine mf_icmp_ge (tgt := 119) hx hb dX3_neck_31 (by decide) (i32_mk (by omega) (by omega)) (i32_mk (by decide) (by decide)) (fun c7 => ?_) (fun c7 => ?_)
            · skip
              refine lv_iinc (v := iI (kv + 1)) (lv' := [(2, .int (iI (kv + 1))), (0, .ref hm), (1, .ref na1), (3, .int (iI (dv)))]) hx hb dX3_neck_119 hl (k := 2) rfl (iI_add _ _).symm (by decide) rfl (fun ls hl => ?_)
              refine lv_goto (tgt := 18) hx hb dX3_neck_122 (by decide) ?_
              exact ih18 (kv + 1) v2 (by omega) (by first | assumption | omega) (by rw [show dv = 4 by omega] at hb2; exact nbS_4 hk.1 hb2) (by exact hvb2) _ _ hP hD hS ls (lv_sub hl [1, 2, 0] rfl)
            · skip
              refine lv_aload_n hx hb dX3_neck_34 rfl (lv_at hl 0 rfl) ?_
              refine va_get (D := G.1) (ci := 3) (v := .ref ca) (C := RX3) (T := TX3) (N := 9) hx hb hts hinX3 hown hK hP 0 rfl rfl 2 (by decide) (hts (.fieldLink RX3 29 "MeanderFarmLaw$Sim" "course" "[I") (List.mem_of_getElem? (i := 2) rfl)) (fun _ h9 => h9) rfl dX3_neck_35 ?_
              refine lv_iload_n hx hb dX3_neck_38 rfl (lv_at hl 2 rfl) ?_
              refine mf_iald (n := nn) (f := u 2) hx hb hK hP 1 0 rfl rfl (z := kv) (by omega) (by omega) (by first | decide | omega) dX3_neck_39 ?_
              refine mf_top (u 2 kv) (r 6 kv) (by rw [(rel2 hrel (z := kv) (by omega) (by omega))]) ?_
              have b8 : (0 : Int) ≤ r 6 kv ∧ r 6 kv ≤ 383 := ok 6 (kv)
              refine lv_iload_n hx hb dX3_neck_40 rfl (lv_at hl 3 rfl) ?_
              refine vp_callSi (va_Run.run (va_runS (As := [.int (iI (r 6 kv)), .int (iI (dv))]) (rest := []) ⟨hx, hb, hml, hown, hts⟩ (c_X3_to l (r 6 kv) (dv) (i32_mk (by omega) (by omega)) (i32_mk (by omega) (by omega)) (by first | assumption | omega) (by first | assumption | omega)) (va_cwS 2 hts gX3_neck_X3_to rfl rfl rfl (by decide +kernel) ⟨Nat.le_of_ble_eq_true rfl, Nat.le_of_ble_eq_true rfl⟩) pureS rfl rfl hl.1 rfl (lv_room (Nat.le_of_ble_eq_true rfl)) dX3_neck_41 ⟨(Nat.le_of_ble_eq_true rfl), (Nat.le_of_ble_eq_true rfl)⟩)) (fun q9 hq9 => ?_)
              subst hq9
              refine mf_nm (fun y10 ey10 => ?_)
              have b11 : -1 ≤ y10 ∧ y10 ≤ 383 := by rw [ey10]; exact nbr_b (r 6 kv) dv
              refine lv_istore (lv' := [(4, .int (iI (y10))), (0, .ref hm), (1, .ref na1), (2, .int (iI (kv))), (3, .int (iI (dv)))]) hx hb dX3_neck_44 hl (by decide) rfl (fun ls hl => ?_)
              refine lv_iload hx hb dX3_neck_46 (lv_at hl 0 rfl) ?_
              refine mf_if_ge (tgt := 55) hx hb dX3_neck_48 (by decide) (i32_mk (by omega) (by omega)) (fun c12 => ?_) (fun c12 => ?_)
              · skip
                refine lv_aload_n hx hb dX3_neck_55 rfl (lv_at hl 1 rfl) ?_
                refine lv_iload hx hb dX3_neck_56 (lv_at hl 0 rfl) ?_
                refine vp_callSi (va_Run.run (va_runV (As := [.int (iI (y10))]) (rest := []) ⟨hx, hb, hml, hown, hts⟩ (c_X3_at l G hm adm ca nn u (y10) (_) (i32_mk (by omega) (by omega)) (by assumption) (by assumption) (by first | assumption | omega) (by first | assumption | omega) (by first | assumption | omega)) (cwV 1 hts gX3_neck_X3_at rfl rfl rfl (by decide +kernel) ⟨Nat.le_of_ble_eq_true rfl, Nat.le_of_ble_eq_true rfl⟩) (rdV (wc := SW G hm adm ca nn u) hK hP hN [0, 1, 2, 3, 4, 5, 6, 7] rfl (ci := 3) rfl rfl) rfl rfl hl.1 rfl (lv_room (Nat.le_of_ble_eq_true rfl)) dX3_neck_58 ⟨(Nat.le_of_ble_eq_true rfl), (Nat.le_of_ble_eq_true rfl)⟩)) (fun q13 hq13 => ?_)
                subst hq13
                have b14 : (-1 : Int) ≤ (r 10 y10) ∧ (r 10 y10) ≤ 149 := (show rOK rlo rhi r by assumption) 10 y10
                refine lv_istore (lv' := [(5, .int (iI (r 10 y10))), (4, .int (iI (y10))), (0, .ref hm), (1, .ref na1), (2, .int (iI (kv))), (3, .int (iI (dv)))]) hx hb dX3_neck_61 hl (by decide) rfl (fun ls hl => ?_)
                refine lv_iload hx hb dX3_neck_63 (lv_at hl 0 rfl) ?_
                refine lv_iload_n hx hb dX3_neck_65 rfl (lv_at hl 4 rfl) ?_
                refine mf_iconst hx hb dX3_neck_66 ?_
                refine mf_iadd hx hb dX3_neck_67 ?_
                refine mf_icmp_ge (tgt := 74) hx hb dX3_neck_68 (by decide) (i32_mk (by omega) (by omega)) (i32_mk (by omega) (by omega)) (fun c15 => ?_) (fun c15 => ?_)
                · skip
                  refine lv_aload_n hx hb dX3_neck_74 rfl (lv_at hl 3 rfl) ?_
                  refine mf_iconst hx hb dX3_neck_75 ?_
                  refine lv_dup2_11 hx hb dX3_neck_76 rfl rfl ?_
                  refine mf_iald (n := 3) (f := v2 0) hx hb hK hP 8 0 rfl rfl (z := 2) (by omega) (by omega) (by first | decide | omega) dX3_neck_77 ?_
                  refine mf_iconst hx hb dX3_neck_78 ?_
                  refine mf_iadd hx hb dX3_neck_79 ?_
                  refine mf_iast (n := 3) (f := v2 0) hx hb hK hP hD hS 8 0 rfl rfl (z := 2) (x := (v2 0 2) + 1) (by omega) (by omega) (by first | decide | omega) dX3_neck_80 (fun H locs hP hD hS => ?_)
                  obtain ⟨v16, ev16⟩ : ∃ z9 : mf_V, z9 = mf_sF v2 0 (mf_up (v2 0) (2) ((v2 0 2) + 1)) := ⟨_, rfl⟩
                  have hP : va_P G.1 vwCl (SW G hm adm ca nn u ++ AW G na1 3 v16) H := by rw [ev16]; exact hP
                  have hD : va_D A (SW G hm adm ca nn u ++ AW G na1 3 v16) := by rw [ev16]; exact hD
                  have f1_v16 : v16 0 (2) = (v2 0 2) + 1 := by rw [ev16, mf_sF_s, mf_up_s]
                  have f2_v16 : ∀ y, y ≠ (2) → v16 0 y = v2 0 y := fun y hy => by rw [ev16, mf_sF_s, mf_up_n hy]
                  have f3_v16 : ∀ q, q ≠ 0 → v16 q = v2 q := fun q hq => by rw [ev16, mf_sF_n hq]
                  refine lv_aload_n hx hb dX3_neck_81 rfl (lv_at hl 3 rfl) ?_
                  refine mf_iconst hx hb dX3_neck_82 ?_
                  refine mf_iald (n := 3) (f := v16 0) hx hb hK hP 8 0 rfl rfl (z := 0) (by omega) (by omega) (by first | decide | omega) dX3_neck_83 ?_
                  refine mf_top (v16 0 0) (v2 0 0) (by rw [f2_v16 0 (by decide)]) ?_
                  refine mf_if_lt (tgt := 104) hx hb dX3_neck_84 (by decide) (i32_mk (by omega) (by omega)) (fun c17 => ?_) (fun c17 => ?_)
                  · skip
                    refine lv_aload_n hx hb dX3_neck_104 rfl (lv_at hl 3 rfl) ?_
                    refine mf_iconst hx hb dX3_neck_105 ?_
                    refine lv_iload_n hx hb dX3_neck_106 rfl (lv_at hl 4 rfl) ?_
                    refine mf_iast (n := 3) (f := v16 0) hx hb hK hP hD hS 8 0 rfl rfl (z := 0) (x := kv) (by omega) (by omega) (by first | decide | omega) dX3_neck_107 (fun H locs hP hD hS => ?_)
                    obtain ⟨v18, ev18⟩ : ∃ z9 : mf_V, z9 = mf_sF v16 0 (mf_up (v16 0) (0) (kv)) := ⟨_, rfl⟩
                    have hP : va_P G.1 vwCl (SW G hm adm ca nn u ++ AW G na1 3 v18) H := by rw [ev18]; exact hP
                    have hD : va_D A (SW G hm adm ca nn u ++ AW G na1 3 v18) := by rw [ev18]; exact hD
                    have f1_v18 : v18 0 (0) = kv := by rw [ev18, mf_sF_s, mf_up_s]
                    have f2_v18 : ∀ y, y ≠ (0) → v18 0 y = v16 0 y := fun y hy => by rw [ev18, mf_sF_s, mf_up_n hy]
                    have f3_v18 : ∀ q, q ≠ 0 → v18 q = v16 q := fun q hq => by rw [ev18, mf_sF_n hq]
                    refine lv_aload_n hx hb dX3_neck_108 rfl (lv_at hl 3 rfl) ?_
                    refine mf_iconst hx hb dX3_neck_109 ?_
                    refine lv_iload hx hb dX3_neck_110 (lv_at hl 0 rfl) ?_
                    refine mf_iast (n := 3) (f := v18 0) hx hb hK hP hD hS 8 0 rfl rfl (z := 1) (x := r 10 y10) (by omega) (by omega) (by first | decide | omega) dX3_neck_112 (fun H locs hP hD hS => ?_)
                    obtain ⟨v19, ev19⟩ : ∃ z9 : mf_V, z9 = mf_sF v18 0 (mf_up (v18 0) (1) (r 10 y10)) := ⟨_, rfl⟩
                    have hP : va_P G.1 vwCl (SW G hm adm ca nn u ++ AW G na1 3 v19) H := by rw [ev19]; exact hP
                    have hD : va_D A (SW G hm adm ca nn u ++ AW G na1 3 v19) := by rw [ev19]; exact hD
                    have f1_v19 : v19 0 (1) = r 10 y10 := by rw [ev19, mf_sF_s, mf_up_s]
                    have f2_v19 : ∀ y, y ≠ (1) → v19 0 y = v18 0 y := fun y hy => by rw [ev19, mf_sF_s, mf_up_n hy]
                    have f3_v19 : ∀ q, q ≠ 0 → v19 q = v18 q := fun q hq => by rw [ev19, mf_sF_n hq]
                    refine lv_iinc (v := iI (dv + 1)) (lv' := [(3, .int (iI (dv + 1))), (5, .int (iI (r 10 y10))), (4, .int (iI (y10))), (0, .ref hm), (1, .ref na1), (2, .int (iI (kv)))]) hx hb dX3_neck_113 hl (k := 5) rfl (iI_add _ _).symm (by decide) rfl (fun ls hl => ?_)
                    refine lv_goto (tgt := 29) hx hb dX3_neck_116 (by decide) ?_
                    exact ih29 (dv + 1) v19 (by omega) (by first | assumption | omega) (by exact nbS_s (j := r 10 y10) hk.1 hd.1 (by rw [cellAtF_in hk.1 (by omega), ← ey10]; exact (mf_if_t ⟨by omega, by omega⟩).symm) hb2 (Or.inr ⟨by rw [f2_v19 0 (by decide)]; exact f1_v18, f1_v19, by omega, by omega⟩)) (by rw [f2_v19 0 (by decide), f1_v18, f1_v19]; omega) _ _ hP hD hS ls (lv_sub hl [3, 4, 5, 0] rfl)
                  · skip
                    refine lv_iload hx hb dX3_neck_87 (lv_at hl 0 rfl) ?_
                    refine lv_iload_n hx hb dX3_neck_89 rfl (lv_at hl 4 rfl) ?_
                    refine mf_isub hx hb dX3_neck_90 ?_
                    refine lv_aload_n hx hb dX3_neck_91 rfl (lv_at hl 3 rfl) ?_
                    refine mf_iconst hx hb dX3_neck_92 ?_
                    refine mf_iald (n := 3) (f := v16 0) hx hb hK hP 8 0 rfl rfl (z := 1) (by omega) (by omega) (by first | decide | omega) dX3_neck_93 ?_
                    refine mf_top (v16 0 1) (v2 0 1) (by rw [f2_v16 1 (by decide)]) ?_
                    refine lv_aload_n hx hb dX3_neck_94 rfl (lv_at hl 3 rfl) ?_
                    refine mf_iconst hx hb dX3_neck_95 ?_
                    refine mf_iald (n := 3) (f := v16 0) hx hb hK hP 8 0 rfl rfl (z := 0) (by omega) (by omega) (by first | decide | omega) dX3_neck_96 ?_
                    refine mf_top (v16 0 0) (v2 0 0) (by rw [f2_v16 0 (by decide)]) ?_
                    refine mf_isub hx hb dX3_neck_97 ?_
                    refine mf_icmp_gt (tgt := 104) hx hb dX3_neck_98 (by decide) (i32_mk (by omega) (by omega)) (i32_mk (by omega) (by omega)) (fun c20 => ?_) (fun c20 => ?_)
                    · skip
                      refine lv_aload_n hx hb dX3_neck_104 rfl (lv_at hl 3 rfl) ?_
                      refine mf_iconst hx hb dX3_neck_105 ?_
                      refine lv_iload_n hx hb dX3_neck_106 rfl (lv_at hl 4 rfl) ?_
                      refine mf_iast (n := 3) (f := v16 0) hx hb hK hP hD hS 8 0 rfl rfl (z := 0) (x := kv) (by omega) (by omega) (by first | decide | omega) dX3_neck_107 (fun H locs hP hD hS => ?_)
                      obtain ⟨v21, ev21⟩ : ∃ z9 : mf_V, z9 = mf_sF v16 0 (mf_up (v16 0) (0) (kv)) := ⟨_, rfl⟩
                      have hP : va_P G.1 vwCl (SW G hm adm ca nn u ++ AW G na1 3 v21) H := by rw [ev21]; exact hP
                      have hD : va_D A (SW G hm adm ca nn u ++ AW G na1 3 v21) := by rw [ev21]; exact hD
                      have f1_v21 : v21 0 (0) = kv := by rw [ev21, mf_sF_s, mf_up_s]
                      have f2_v21 : ∀ y, y ≠ (0) → v21 0 y = v16 0 y := fun y hy => by rw [ev21, mf_sF_s, mf_up_n hy]
                      have f3_v21 : ∀ q, q ≠ 0 → v21 q = v16 q := fun q hq => by rw [ev21, mf_sF_n hq]
                      refine lv_aload_n hx hb dX3_neck_108 rfl (lv_at hl 3 rfl) ?_
                      refine mf_iconst hx hb dX3_neck_109 ?_
                      refine lv_iload hx hb dX3_neck_110 (lv_at hl 0 rfl) ?_
                      refine mf_iast (n := 3) (f := v21 0) hx hb hK hP hD hS 8 0 rfl rfl (z := 1) (x := r 10 y10) (by omega) (by omega) (by first | decide | omega) dX3_neck_112 (fun H locs hP hD hS => ?_)
                      obtain ⟨v22, ev22⟩ : ∃ z9 : mf_V, z9 = mf_sF v21 0 (mf_up (v21 0) (1) (r 10 y10)) := ⟨_, rfl⟩
                      have hP : va_P G.1 vwCl (SW G hm adm ca nn u ++ AW G na1 3 v22) H := by rw [ev22]; exact hP
                      have hD : va_D A (SW G hm adm ca nn u ++ AW G na1 3 v22) := by rw [ev22]; exact hD
                      have f1_v22 : v22 0 (1) = r 10 y10 := by rw [ev22, mf_sF_s, mf_up_s]
                      have f2_v22 : ∀ y, y ≠ (1) → v22 0 y = v21 0 y := fun y hy => by rw [ev22, mf_sF_s, mf_up_n hy]
                      have f3_v22 : ∀ q, q ≠ 0 → v22 q = v21 q := fun q hq => by rw [ev22, mf_sF_n hq]
                      refine lv_iinc (v := iI (dv + 1)) (lv' := [(3, .int (iI (dv + 1))), (5, .int (iI (r 10 y10))), (4, .int (iI (y10))), (0, .ref hm), (1, .ref na1), (2, .int (iI (kv)))]) hx hb dX3_neck_113 hl (k := 5) rfl (iI_add _ _).symm (by decide) rfl (fun ls hl => ?_)
                      refine lv_goto (tgt := 29) hx hb dX3_neck_116 (by decide) ?_
                      exact ih29 (dv + 1) v22 (by omega) (by first | assumption | omega) (by exact nbS_s (j := r 10 y10) hk.1 hd.1 (by rw [cellAtF_in hk.1 (by omega), ← ey10]; exact (mf_if_t ⟨by omega, by omega⟩).symm) hb2 (Or.inr ⟨by rw [f2_v22 0 (by decide)]; exact f1_v21, f1_v22, by omega, by omega⟩)) (by rw [f2_v22 0 (by decide), f1_v21, f1_v22]; omega) _ _ hP hD hS ls (lv_sub hl [3, 4, 5, 0] rfl)
                    · skip
                      refine lv_goto (tgt := 113) hx hb dX3_neck_101 (by decide) ?_
                      refine lv_iinc (v := iI (dv + 1)) (lv' := [(3, .int (iI (dv + 1))), (5, .int (iI (r 10 y10))), (4, .int (iI (y10))), (0, .ref hm), (1, .ref na1), (2, .int (iI (kv)))]) hx hb dX3_neck_113 hl (k := 5) rfl (iI_add _ _).symm (by decide) rfl (fun ls hl => ?_)
                      refine lv_goto (tgt := 29) hx hb dX3_neck_116 (by decide) ?_
                      exact ih29 (dv + 1) v16 (by omega) (by first | assumption | omega) (by exact nbS_s (j := r 10 y10) hk.1 hd.1 (by rw [cellAtF_in hk.1 (by omega), ← ey10]; exact (mf_if_t ⟨by omega, by omega⟩).symm) hb2 (Or.inl ⟨f2_v16 0 (by decide), f2_v16 1 (by decide), Or.inr ⟨by omega, by omega⟩⟩)) (by rw [f2_v16 0 (by decide), f2_v16 1 (by decide)]; exact hvb2) _ _ hP hD hS ls (lv_sub hl [3, 4, 5, 0] rfl)
                · skip
                  refine lv_goto (tgt := 113) hx hb dX3_neck_71 (by decide) ?_
                  refine lv_iinc (v := iI (dv + 1)) (lv' := [(3, .int (iI (dv + 1))), (5, .int (iI (r 10 y10))), (4, .int (iI (y10))), (0, .ref hm), (1, .ref na1), (2, .int (iI (kv)))]) hx hb dX3_neck_113 hl (k := 5) rfl (iI_add _ _).symm (by decide) rfl (fun ls hl => ?_)
                  refine lv_goto (tgt := 29) hx hb dX3_neck_116 (by decide) ?_
                  exact ih29 (dv + 1) v2 (by omega) (by first | assumption | omega) (by exact nbS_s (j := r 10 y10) hk.1 hd.1 (by rw [cellAtF_in hk.1 (by omega), ← ey10]; exact (mf_if_t ⟨by omega, by omega⟩).symm) hb2 (Or.inl ⟨rfl, rfl, Or.inl (by omega)⟩)) (by exact hvb2) _ _ hP hD hS ls (lv_sub hl [3, 4, 5, 0] rfl)
              · skip
                refine mf_iconst hx hb dX3_neck_51 ?_
                refine lv_goto (tgt := 61) hx hb dX3_neck_52 (by decide) ?_
                refine lv_istore (lv' := [(5, .int (iI ((-1)))), (4, .int (iI (y10))), (0, .ref hm), (1, .ref na1), (2, .int (iI (kv))), (3, .int (iI (dv)))]) hx hb dX3_neck_61 hl (by decide) rfl (fun ls hl => ?_)
                refine lv_iload hx hb dX3_neck_63 (lv_at hl 0 rfl) ?_
                refine lv_iload_n hx hb dX3_neck_65 rfl (lv_at hl 4 rfl) ?_
                refine mf_iconst hx hb dX3_neck_66 ?_
                refine mf_iadd hx hb dX3_neck_67 ?_
                refine mf_icmp_ge (tgt := 74) hx hb dX3_neck_68 (by decide) (i32_mk (by decide) (by decide)) (i32_mk (by omega) (by omega)) (fun c23 => ?_) (fun c23 => ?_)
                · skip
                  refine lv_aload_n hx hb dX3_neck_74 rfl (lv_at hl 3 rfl) ?_
                  refine mf_iconst hx hb dX3_neck_75 ?_
                  refine lv_dup2_11 hx hb dX3_neck_76 rfl rfl ?_
                  refine mf_iald (n := 3) (f := v2 0) hx hb hK hP 8 0 rfl rfl (z := 2) (by omega) (by omega) (by first | decide | omega) dX3_neck_77 ?_
                  refine mf_iconst hx hb dX3_neck_78 ?_
                  refine mf_iadd hx hb dX3_neck_79 ?_
                  refine mf_iast (n := 3) (f := v2 0) hx hb hK hP hD hS 8 0 rfl rfl (z := 2) (x := (v2 0 2) + 1) (by omega) (by omega) (by first | decide | omega) dX3_neck_80 (fun H locs hP hD hS => ?_)
                  obtain ⟨v24, ev24⟩ : ∃ z9 : mf_V, z9 = mf_sF v2 0 (mf_up (v2 0) (2) ((v2 0 2) + 1)) := ⟨_, rfl⟩
                  have hP : va_P G.1 vwCl (SW G hm adm ca nn u ++ AW G na1 3 v24) H := by rw [ev24]; exact hP
                  have hD : va_D A (SW G hm adm ca nn u ++ AW G na1 3 v24) := by rw [ev24]; exact hD
                  have f1_v24 : v24 0 (2) = (v2 0 2) + 1 := by rw [ev24, mf_sF_s, mf_up_s]
                  have f2_v24 : ∀ y, y ≠ (2) → v24 0 y = v2 0 y := fun y hy => by rw [ev24, mf_sF_s, mf_up_n hy]
                  have f3_v24 : ∀ q, q ≠ 0 → v24 q = v2 q := fun q hq => by rw [ev24, mf_sF_n hq]
                  refine lv_aload_n hx hb dX3_neck_81 rfl (lv_at hl 3 rfl) ?_
                  refine mf_iconst hx hb dX3_neck_82 ?_
                  refine mf_iald (n := 3) (f := v24 0) hx hb hK hP 8 0 rfl rfl (z := 0) (by omega) (by omega) (by first | decide | omega) dX3_neck_83 ?_
                  refine mf_top (v24 0 0) (v2 0 0) (by rw [f2_v24 0 (by decide)]) ?_
                  refine mf_if_lt (tgt := 104) hx hb dX3_neck_84 (by decide) (i32_mk (by omega) (by omega)) (fun c25 => ?_) (fun c25 => ?_)
                  · skip
                    refine lv_aload_n hx hb dX3_neck_104 rfl (lv_at hl 3 rfl) ?_
                    refine mf_iconst hx hb dX3_neck_105 ?_
                    refine lv_iload_n hx hb dX3_neck_106 rfl (lv_at hl 4 rfl) ?_
                    refine mf_iast (n := 3) (f := v24 0) hx hb hK hP hD hS 8 0 rfl rfl (z := 0) (x := kv) (by omega) (by omega) (by first | decide | omega) dX3_neck_107 (fun H locs hP hD hS => ?_)
                    obtain ⟨v26, ev26⟩ : ∃ z9 : mf_V, z9 = mf_sF v24 0 (mf_up (v24 0) (0) (kv)) := ⟨_, rfl⟩
                    have hP : va_P G.1 vwCl (SW G hm adm ca nn u ++ AW G na1 3 v26) H := by rw [ev26]; exact hP
                    have hD : va_D A (SW G hm adm ca nn u ++ AW G na1 3 v26) := by rw [ev26]; exact hD
                    have f1_v26 : v26 0 (0) = kv := by rw [ev26, mf_sF_s, mf_up_s]
                    have f2_v26 : ∀ y, y ≠ (0) → v26 0 y = v24 0 y := fun y hy => by rw [ev26, mf_sF_s, mf_up_n hy]
                    have f3_v26 : ∀ q, q ≠ 0 → v26 q = v24 q := fun q hq => by rw [ev26, mf_sF_n hq]
                    refine lv_aload_n hx hb dX3_neck_108 rfl (lv_at hl 3 rfl) ?_
                    refine mf_iconst hx hb dX3_neck_109 ?_
                    refine lv_iload hx hb dX3_neck_110 (lv_at hl 0 rfl) ?_
                    refine mf_iast (n := 3) (f := v26 0) hx hb hK hP hD hS 8 0 rfl rfl (z := 1) (x := (-1)) (by omega) (by omega) (by first | decide | omega) dX3_neck_112 (fun H locs hP hD hS => ?_)
                    obtain ⟨v27, ev27⟩ : ∃ z9 : mf_V, z9 = mf_sF v26 0 (mf_up (v26 0) (1) ((-1))) := ⟨_, rfl⟩
                    have hP : va_P G.1 vwCl (SW G hm adm ca nn u ++ AW G na1 3 v27) H := by rw [ev27]; exact hP
                    have hD : va_D A (SW G hm adm ca nn u ++ AW G na1 3 v27) := by rw [ev27]; exact hD
                    have f1_v27 : v27 0 (1) = (-1) := by rw [ev27, mf_sF_s, mf_up_s]
                    have f2_v27 : ∀ y, y ≠ (1) → v27 0 y = v26 0 y := fun y hy => by rw [ev27, mf_sF_s, mf_up_n hy]
                    have f3_v27 : ∀ q, q ≠ 0 → v27 q = v26 q := fun q hq => by rw [ev27, mf_sF_n hq]
                    refine lv_iinc (v := iI (dv + 1)) (lv' := [(3, .int (iI (dv + 1))), (5, .int (iI ((-1)))), (4, .int (iI (y10))), (0, .ref hm), (1, .ref na1), (2, .int (iI (kv)))]) hx hb dX3_neck_113 hl (k := 5) rfl (iI_add _ _).symm (by decide) rfl (fun ls hl => ?_)
                    refine lv_goto (tgt := 29) hx hb dX3_neck_116 (by decide) ?_
                    exact ih29 (dv + 1) v27 (by omega) (by first | assumption | omega) (by exact nbS_s (j := (-1)) hk.1 hd.1 (by rw [cellAtF_in hk.1 (by omega), ← ey10]; exact (mf_if_f (by omega)).symm) hb2 (Or.inr ⟨by rw [f2_v27 0 (by decide)]; exact f1_v26, f1_v27, by omega, by omega⟩)) (by rw [f2_v27 0 (by decide), f1_v26, f1_v27]; omega) _ _ hP hD hS ls (lv_sub hl [3, 4, 5, 0] rfl)
                  · skip
                    refine lv_iload hx hb dX3_neck_87 (lv_at hl 0 rfl) ?_
                    refine lv_iload_n hx hb dX3_neck_89 rfl (lv_at hl 4 rfl) ?_
                    refine mf_isub hx hb dX3_neck_90 ?_
                    refine lv_aload_n hx hb dX3_neck_91 rfl (lv_at hl 3 rfl) ?_
                    refine mf_iconst hx hb dX3_neck_92 ?_
                    refine mf_iald (n := 3) (f := v24 0) hx hb hK hP 8 0 rfl rfl (z := 1) (by omega) (by omega) (by first | decide | omega) dX3_neck_93 ?_
                    refine mf_top (v24 0 1) (v2 0 1) (by rw [f2_v24 1 (by decide)]) ?_
                    refine lv_aload_n hx hb dX3_neck_94 rfl (lv_at hl 3 rfl) ?_
                    refine mf_iconst hx hb dX3_neck_95 ?_
                    refine mf_iald (n := 3) (f := v24 0) hx hb hK hP 8 0 rfl rfl (z := 0) (by omega) (by omega) (by first | decide | omega) dX3_neck_96 ?_
                    refine mf_top (v24 0 0) (v2 0 0) (by rw [f2_v24 0 (by decide)]) ?_
                    refine mf_isub hx hb dX3_neck_97 ?_
                    refine mf_icmp_gt (tgt := 104) hx hb dX3_neck_98 (by decide) (i32_mk (by omega) (by omega)) (i32_mk (by omega) (by omega)) (fun c28 => ?_) (fun c28 => ?_)
                    · skip
                      refine lv_aload_n hx hb dX3_neck_104 rfl (lv_at hl 3 rfl) ?_
                      refine mf_iconst hx hb dX3_neck_105 ?_
                      refine lv_iload_n hx hb dX3_neck_106 rfl (lv_at hl 4 rfl) ?_
                      refine mf_iast (n := 3) (f := v24 0) hx hb hK hP hD hS 8 0 rfl rfl (z := 0) (x := kv) (by omega) (by omega) (by first | decide | omega) dX3_neck_107 (fun H locs hP hD hS => ?_)
                      obtain ⟨v29, ev29⟩ : ∃ z9 : mf_V, z9 = mf_sF v24 0 (mf_up (v24 0) (0) (kv)) := ⟨_, rfl⟩
                      have hP : va_P G.1 vwCl (SW G hm adm ca nn u ++ AW G na1 3 v29) H := by rw [ev29]; exact hP
                      have hD : va_D A (SW G hm adm ca nn u ++ AW G na1 3 v29) := by rw [ev29]; exact hD
                      have f1_v29 : v29 0 (0) = kv := by rw [ev29, mf_sF_s, mf_up_s]
                      have f2_v29 : ∀ y, y ≠ (0) → v29 0 y = v24 0 y := fun y hy => by rw [ev29, mf_sF_s, mf_up_n hy]
                      have f3_v29 : ∀ q, q ≠ 0 → v29 q = v24 q := fun q hq => by rw [ev29, mf_sF_n hq]
                      refine lv_aload_n hx hb dX3_neck_108 rfl (lv_at hl 3 rfl) ?_
                      refine mf_iconst hx hb dX3_neck_109 ?_
                      refine lv_iload hx hb dX3_neck_110 (lv_at hl 0 rfl) ?_
                      refine mf_iast (n := 3) (f := v29 0) hx hb hK hP hD hS 8 0 rfl rfl (z := 1) (x := (-1)) (by omega) (by omega) (by first | decide | omega) dX3_neck_112 (fun H locs hP hD hS => ?_)
                      obtain ⟨v30, ev30⟩ : ∃ z9 : mf_V, z9 = mf_sF v29 0 (mf_up (v29 0) (1) ((-1))) := ⟨_, rfl⟩
                      have hP : va_P G.1 vwCl (SW G hm adm ca nn u ++ AW G na1 3 v30) H := by rw [ev30]; exact hP
                      have hD : va_D A (SW G hm adm ca nn u ++ AW G na1 3 v30) := by rw [ev30]; exact hD
                      have f1_v30 : v30 0 (1) = (-1) := by rw [ev30, mf_sF_s, mf_up_s]
                      have f2_v30 : ∀ y, y ≠ (1) → v30 0 y = v29 0 y := fun y hy => by rw [ev30, mf_sF_s, mf_up_n hy]
                      have f3_v30 : ∀ q, q ≠ 0 → v30 q = v29 q := fun q hq => by rw [ev30, mf_sF_n hq]
                      refine lv_iinc (v := iI (dv + 1)) (lv' := [(3, .int (iI (dv + 1))), (5, .int (iI ((-1)))), (4, .int (iI (y10))), (0, .ref hm), (1, .ref na1), (2, .int (iI (kv)))]) hx hb dX3_neck_113 hl (k := 5) rfl (iI_add _ _).symm (by decide) rfl (fun ls hl => ?_)
                      refine lv_goto (tgt := 29) hx hb dX3_neck_116 (by decide) ?_
                      exact ih29 (dv + 1) v30 (by omega) (by first | assumption | omega) (by exact nbS_s (j := (-1)) hk.1 hd.1 (by rw [cellAtF_in hk.1 (by omega), ← ey10]; exact (mf_if_f (by omega)).symm) hb2 (Or.inr ⟨by rw [f2_v30 0 (by decide)]; exact f1_v29, f1_v30, by omega, by omega⟩)) (by rw [f2_v30 0 (by decide), f1_v29, f1_v30]; omega) _ _ hP hD hS ls (lv_sub hl [3, 4, 5, 0] rfl)
                    · skip
                      refine lv_goto (tgt := 113) hx hb dX3_neck_101 (by decide) ?_
                      refine lv_iinc (v := iI (dv + 1)) (lv' := [(3, .int (iI (dv + 1))), (5, .int (iI ((-1)))), (4, .int (iI (y10))), (0, .ref hm), (1, .ref na1), (2, .int (iI (kv)))]) hx hb dX3_neck_113 hl (k := 5) rfl (iI_add _ _).symm (by decide) rfl (fun ls hl => ?_)
                      refine lv_goto (tgt := 29) hx hb dX3_neck_116 (by decide) ?_
                      exact ih29 (dv + 1) v24 (by omega) (by first | assumption | omega) (by exact nbS_s (j := (-1)) hk.1 hd.1 (by rw [cellAtF_in hk.1 (by omega), ← ey10]; exact (mf_if_f (by omega)).symm) hb2 (Or.inl ⟨f2_v24 0 (by decide), f2_v24 1 (by decide), Or.inr ⟨by omega, by omega⟩⟩)) (by rw [f2_v24 0 (by decide), f2_v24 1 (by decide)]; exact hvb2) _ _ hP hD hS ls (lv_sub hl [3, 4, 5, 0] rfl)
                · skip
                  refine lv_goto (tgt := 113) hx hb dX3_neck_71 (by decide) ?_
                  refine lv_iinc (v := iI (dv + 1)) (lv' := [(3, .int (iI (dv + 1))), (5, .int (iI ((-1)))), (4, .int (iI (y10))), (0, .ref hm), (1, .ref na1), (2, .int (iI (kv)))]) hx hb dX3_neck_113 hl (k := 5) rfl (iI_add _ _).symm (by decide) rfl (fun ls hl => ?_)
                  refine lv_goto (tgt := 29) hx hb dX3_neck_116 (by decide) ?_
                  exact ih29 (dv + 1) v2 (by omega) (by first | assumption | omega) (by exact nbS_s (j := (-1)) hk.1 hd.1 (by rw [cellAtF_in hk.1 (by omega), ← ey10]; exact (mf_if_f (by omega)).symm) hb2 (Or.inl ⟨rfl, rfl, Or.inl (by omega)⟩)) (by exact hvb2) _ _ hP hD hS ls (lv_sub hl [3, 4, 5, 0] rfl)
        exact lp29 (_ + 1) 0 v1 (Nat.lt_succ_self _) (by first | assumption | omega) (by exact nbS_0 ho) (by exact hvb) _ _ hP hD hS ls (lv_sub hl [1, 2, 3, 0] rfl)
  exact lp18 (_ + 1) 0 av5 (Nat.lt_succ_self _) (by first | assumption | omega) (by exact ⟨by rw [f2_av5 0 (by decide), f2_av4 0 (by decide)]; exact f1_av3, Or.inl rfl⟩) (by rw [f2_av5 0 (by decide), f2_av4 0 (by decide), f1_av3, f2_av5 1 (by decide), f1_av4]; omega) _ _ hP hD hS ls (lv_sub hl [2, 1, 0] rfl)
