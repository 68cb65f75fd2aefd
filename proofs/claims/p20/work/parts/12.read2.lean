/-! 12.read2: what a river tells, by loops -/
theorem lI_add (a b : Int) : lI (a + b) = lI a + lI b := Int64.ofInt_add a b
theorem lI_mul (a b : Int) : lI (a * b) = lI a * lI b := Int64.ofInt_mul a b
theorem iI_toL {z : Int} (h : i32 z) : (iI z).toInt64 = lI z := by
  have h2 : (iI z).toInt64.toInt = (lI z).toInt := by
    rw [Int32.toInt_toInt64, iI_toInt h]
    unfold lI
    rw [Int64.toInt_ofInt, show Int64.size = 18446744073709551616 from rfl]
    exact (Int.bmod_eq_of_le (by have := h.1; omega) (by have := h.2; omega)).symm
  exact Int64.toInt_inj.mp h2
section MFL
variable {p : Program} {l : Launch} {e : Env} {R : Room} {s : State} {m : MethodId} {args : Array Value} {below : List Frame} {meth : Method} {c : Code} {H : Heap} {locs : List Loc} {cells slots : Nat} {Q : State → Prop}
variable {cc : ByteArray} {pc : Nat} {ls : Array Slot} {rest : List Value}
theorem mf_ladd (hx : p.tables.exec = Jvm.exec) (hb : c.code = cc) {x y : Int} (hd : decode cc pc = .ok (.ladd, 1)) (k : W p l e R s m args below meth c H locs cells slots Q (F0 m (pc + 1) ls (.long (lI (x + y)) :: rest))) : W p l e R s m args below meth c H locs cells slots Q (F0 m pc ls (.long (lI y) :: .long (lI x) :: rest)) := lv_ladd hx hb hd (by rw [← lI_add]; exact k)
theorem mf_lmul (hx : p.tables.exec = Jvm.exec) (hb : c.code = cc) {x y : Int} (hd : decode cc pc = .ok (.lmul, 1)) (k : W p l e R s m args below meth c H locs cells slots Q (F0 m (pc + 1) ls (.long (lI (x * y)) :: rest))) : W p l e R s m args below meth c H locs cells slots Q (F0 m pc ls (.long (lI y) :: .long (lI x) :: rest)) := lv_lmul hx hb hd (by rw [← lI_mul]; exact k)
theorem mf_i2l (hx : p.tables.exec = Jvm.exec) (hb : c.code = cc) {x : Int} (hd : decode cc pc = .ok (.i2l, 1)) (h : i32 x) (k : W p l e R s m args below meth c H locs cells slots Q (F0 m (pc + 1) ls (.long (lI x) :: rest))) : W p l e R s m args below meth c H locs cells slots Q (F0 m pc ls (.int (iI x) :: rest)) := lv_i2l hx hb hd (iI_toL h) k
theorem mf_ldc2 (hx : p.tables.exec = Jvm.exec) (hb : c.code = cc) {own : String} {index : Nat} {v : Int64} (n : Int) (hown : s.vm.findClass own = some m.cls) (hconst : (Jvm.Cond.constantLong own index v).before args s = true) (hv : v = lI n) (hd : decode cc pc = .ok (.ldc2_w index, 3)) (k : W p l e R s m args below meth c H locs cells slots Q (F0 m (pc + 3) ls (.long (lI n) :: rest))) : W p l e R s m args below meth c H locs cells slots Q (F0 m pc ls rest) := lv_ldc2 (v := lI n) hx hb hown (by rw [← hv]; exact hconst) hd k
end MFL
/-- a fold over 0 .. k - 1 -/
def ifold (g : Int → Int → Int) (d : Int) (k : Int) : Int := Nat.rec (motive := fun _ => Int) d (fun n x => g n x) k.toNat
theorem ifold_0 (g : Int → Int → Int) (d : Int) : ifold g d 0 = d := rfl
theorem ifold_s (g : Int → Int → Int) (d : Int) {k : Int} (h : 0 ≤ k) : ifold g d (k + 1) = g k (ifold g d k) := by
  obtain ⟨n, rfl⟩ := Int.eq_ofNat_of_zero_le h
  unfold ifold
  rw [show ((n : Int) + 1).toNat = n + 1 by omega, show ((n : Int)).toNat = n by omega]
/-- the river's share of the digest -/
noncomputable def digF (r : mf_V) (d : Int) : Int := ifold (fun k x => (((x * 31 + r 0 k) * 31 + r 1 k) * 31 + bP (¬ r 2 k = 0)) * 31 + lyl r k) (ifold (fun k x => x * 31 + r 6 k) (ifold (fun k x => x * 31 + r 5 k) d 12) (r 7 0)) 384
theorem widG_b {r : mf_V} (h : rOK rlo rhi r) : ∀ n : Nat, (-1 ≤ (widG r n).1 ∧ (widG r n).1 < n) ∧ 0 ≤ (widG r n).2 ∧ (widG r n).2 ≤ 149 := by
  intro n
  induction n with
  | zero => rw [show ((0 : Nat) : Int) = 0 from rfl, widG_0]; refine ⟨⟨?_, ?_⟩, ?_, ?_⟩ <;> decide
  | succ n ih =>
    have b := farF_b h (n : Int)
    by_cases q : (widG r n).2 < farF r n - n
    · rw [show ((n + 1 : Nat) : Int) = (n : Int) + 1 from rfl, widG_t r (by omega) q]; dsimp only; omega
    · rw [show ((n + 1 : Nat) : Int) = (n : Int) + 1 from rfl, widG_f r (by omega) q]; omega
theorem widF_b {r : mf_V} (h : rOK rlo rhi r) : -1 ≤ widF r ∧ widF r ≤ 149 := by
  have b : (0 : Int) ≤ r 7 0 ∧ r 7 0 ≤ 150 := h 7 0
  obtain ⟨n, hn⟩ := Int.eq_ofNat_of_zero_le b.1
  have := (widG_b h n).1
  unfold widF
  rw [hn]
  omega
set_option maxHeartbeats 4000000 in
set_option maxRecDepth 100000 in
theorem c_X1_farthestAcross (l : Launch) (G : mf_G) (h : Nat) (ad : Nat → Nat) (r : mf_V) (iv : Int) (hiv : i32 iv) (ok : rOK rlo rhi r) (hiw : -1 ≤ iv ∧ iv ≤ 150) : Met l yX1_farthestAcross wsX1_farthestAcross ({ frames := 2, cells := 0, slots := 0, locals := 42 }) (va_Pc [.ref h, .int (iI (iv))] (RdP G (RW G h ad r))) (vp_Si (fun q => q = iI (farF r iv))) 0 0 (fun _ => False) := by
  refine Met.ofW (cc := cX1_farthestAcross) (maxL := 5) (ret := (some .int)) (by decide) rfl ?_
  intro p e s m args below meth c s₁ B hml hv
  obtain ⟨rfl, hP, hK, hN⟩ := hv
  have hx := B.exec
  have hb := B.bytes
  have hr := B.returns
  have hts := atoms_spec (ws := wsX1_farthestAcross) B.pre
  have hown : s.vm.findClass RX1 = some m.cls := findClass_of_methodNamed B.named
  have hlocks := B.notSynchronized
  have hl := lv_entry ([.ref h, .int (iI (iv))]) (n := 5) (Nat.le_of_ble_eq_true rfl)
  rw [lg_entry_eq]
  generalize (lg_sl ([.ref h, .int (iI (iv))]) ++ List.replicate (5 - (lg_sl ([.ref h, .int (iI (iv))])).length) Slot.unset).toArray = ls at hl ⊢
  have hl : lv_has ls 5 [(0, .ref h), (1, .int (iI (iv)))] := hl
  have hiv1 := hiv.1
  have hiv2 := hiv.2
  have okLr : (0 : Int) ≤ r 7 0 ∧ r 7 0 ≤ 150 := ok 7 0
  refine mf_iconst hx hb dX1_farthestAcross_0 ?_
  refine lv_istore_n (lv' := [(2, .int (iI ((-1)))), (0, .ref h), (1, .int (iI (iv)))]) hx hb dX1_farthestAcross_1 rfl hl (by decide) rfl (fun ls hl => ?_)
  refine mf_iconst hx hb dX1_farthestAcross_2 ?_
  refine lv_istore_n (lv' := [(3, .int (iI (0))), (2, .int (iI ((-1)))), (0, .ref h), (1, .int (iI (iv)))]) hx hb dX1_farthestAcross_3 rfl hl (by decide) rfl (fun ls hl => ?_)
  have lp4 : ∀ (n : Nat) (xv : Int) (kv : Int), (4 - kv).toNat < n → (0 ≤ kv ∧ kv ≤ 4) → (-1 ≤ xv ∧ xv ≤ 149) → (xv = farG r iv kv) → ∀ (ls : Array Slot), lv_has ls 5 [(0, .ref h), (1, .int (iI (iv))), (2, .int (iI (xv))), (3, .int (iI (kv)))] → W p l e (headSpec wsX1_farthestAcross ({ frames := 2, cells := 0, slots := 0, locals := 42 })).room s m ([.ref h, .int (iI (iv))] : List Value).toArray below meth c s.heap [] 0 0 (MQ below (vp_Si (fun q => q = iI (farF r iv))) ([.ref h, .int (iI (iv))] : List Value).toArray s 0 0 (fun _ => False)) (F0 m 4 ls []) := by
    intro n
    induction n with
    | zero => intro xv kv hn; exact absurd hn (Nat.not_lt_zero _)
    | succ n ih4 =>
      intro xv kv hn hk hxb hs ls hl
      refine lv_iload_n hx hb dX1_farthestAcross_4 rfl (lv_at hl 3 rfl) ?_
      refine mf_iconst hx hb dX1_farthestAcross_5 ?_
      refine mf_icmp_ge (tgt := 47) hx hb dX1_farthestAcross_6 (by decide) (i32_mk (by omega) (by omega)) (i32_mk (by decide) (by decide)) (fun c1 => ?_) (fun c1 => ?_)
      · skip
        refine lv_iload_n hx hb dX1_farthestAcross_47 rfl (lv_at hl 2 rfl) ?_
        exact W.iret hx hb hr (fun t ht hW => ⟨_, rfl, (congrArg iI (by rw [show kv = 4 by omega] at hs; exact hs)), ht⟩) t_nil dX1_farthestAcross_48
      · skip
        refine lv_aload_n hx hb dX1_farthestAcross_9 rfl (lv_at hl 0 rfl) ?_
        refine lv_aload_n hx hb dX1_farthestAcross_10 rfl (lv_at hl 0 rfl) ?_
        refine lv_iload_n hx hb dX1_farthestAcross_11 rfl (lv_at hl 1 rfl) ?_
        refine vp_callSi (va_Run.run (va_runV (As := [.int (iI (iv))]) (rest := [.ref h]) ⟨hx, hb, hml, hown, hts⟩ (c_X1_cellAt l G h ad r (iv) (i32_mk (by omega) (by omega)) (by assumption)) (cwV 1 hts gX1_farthestAcross_X1_cellAt rfl rfl rfl (by decide +kernel) ⟨Nat.le_of_ble_eq_true rfl, Nat.le_of_ble_eq_true rfl⟩) (rdV (wc := RW G h ad r) hK hP hN [0, 1, 2, 3, 4, 5, 6, 7, 8, 9, 10, 11] rfl (ci := 1) rfl rfl) rfl rfl hl.1 rfl (lv_room (Nat.le_of_ble_eq_true rfl)) dX1_farthestAcross_12 ⟨(Nat.zero_le _), (Nat.zero_le _)⟩)) (fun q2 hq2 => ?_)
        subst hq2
        refine mf_nm (fun y3 ey3 => ?_)
        have b4 : -1 ≤ y3 ∧ y3 ≤ 383 := by rw [ey3]; exact cellAtF_b (by assumption) iv
        refine lv_iload_n hx hb dX1_farthestAcross_15 rfl (lv_at hl 3 rfl) ?_
        refine vp_callSi (va_Run.run (va_runSN (As := [.int (iI (y3)), .int (iI (kv))]) (rest := [.ref h]) ⟨hx, hb, hml, hown, hts⟩ (c_X2_neighbour l (y3) (kv) (i32_mk (by omega) (by omega)) (i32_mk (by omega) (by omega))) ⟨(va_cnB 2 hts gX1_farthestAcross_X2_neighbour_n89 rfl rfl rfl (hN.m 29 rfl) (hts (.initialized RX2) (List.mem_of_getElem? (i := 13) rfl)) (by decide +kernel) ⟨Nat.le_of_ble_eq_true rfl, Nat.le_of_ble_eq_true rfl⟩), (hts (.static yX2_neighbour) (List.mem_of_getElem? (i := 12) rfl)), trivial⟩ pureS rfl rfl hl.1 rfl (lv_room (Nat.le_of_ble_eq_true rfl)) dX1_farthestAcross_16 ⟨(Nat.zero_le _), (Nat.zero_le _)⟩)) (fun q5 hq5 => ?_)
        subst hq5
        refine mf_nm (fun y6 ey6 => ?_)
        have b7 : -1 ≤ y6 ∧ y6 ≤ 383 := by rw [ey6]; exact nbr_b y3 kv
        refine vp_callSi (va_Run.run (va_runV (As := [.int (iI (y6))]) (rest := []) ⟨hx, hb, hml, hown, hts⟩ (c_X1_placeOf l G h ad r (y6) (i32_mk (by omega) (by omega)) (by assumption)) (cwV 1 hts gX1_farthestAcross_X1_placeOf rfl rfl rfl (by decide +kernel) ⟨Nat.le_of_ble_eq_true rfl, Nat.le_of_ble_eq_true rfl⟩) (rdV (wc := RW G h ad r) hK hP hN [0, 1, 2, 3, 4, 5, 6, 7, 8, 9, 10, 11] rfl (ci := 1) rfl rfl) rfl rfl hl.1 rfl (lv_room (Nat.le_of_ble_eq_true rfl)) dX1_farthestAcross_19 ⟨(Nat.zero_le _), (Nat.zero_le _)⟩)) (fun q8 hq8 => ?_)
        subst hq8
        refine mf_nm (fun y9 ey9 => ?_)
        have b10 : -1 ≤ y9 ∧ y9 ≤ 149 := by rw [ey9]; exact placeOfF_b (by assumption) y6
        refine lv_istore (lv' := [(4, .int (iI (y9))), (0, .ref h), (1, .int (iI (iv))), (2, .int (iI (xv))), (3, .int (iI (kv)))]) hx hb dX1_farthestAcross_22 hl (by decide) rfl (fun ls hl => ?_)
        refine lv_iload hx hb dX1_farthestAcross_24 (lv_at hl 0 rfl) ?_
        refine lv_iload_n hx hb dX1_farthestAcross_26 rfl (lv_at hl 2 rfl) ?_
        refine mf_isub hx hb dX1_farthestAcross_27 ?_
        refine mf_iconst hx hb dX1_farthestAcross_28 ?_
        refine mf_icmp_lt (tgt := 41) hx hb dX1_farthestAcross_29 (by decide) (i32_mk (by omega) (by omega)) (i32_mk (by decide) (by decide)) (fun c11 => ?_) (fun c11 => ?_)
        · skip
          refine lv_iinc (v := iI (kv + 1)) (lv' := [(3, .int (iI (kv + 1))), (4, .int (iI (y9))), (0, .ref h), (1, .int (iI (iv))), (2, .int (iI (xv)))]) hx hb dX1_farthestAcross_41 hl (k := 4) rfl (iI_add _ _).symm (by decide) rfl (fun ls hl => ?_)
          refine lv_goto (tgt := 4) hx hb dX1_farthestAcross_44 (by decide) ?_
          exact ih4 xv (kv + 1) (by omega) (by first | assumption | omega) (by first | assumption | omega) (by subst_vars; first | exact (farG_0 r _).symm | (rw [farG_s _ _ (by omega)]; first | exact (mf_if_t ⟨by omega, by omega⟩).symm | exact (mf_if_f (by omega)).symm))  ls (lv_sub hl [2, 3, 4, 0] rfl)
        · skip
          refine lv_iload hx hb dX1_farthestAcross_32 (lv_at hl 0 rfl) ?_
          refine lv_iload_n hx hb dX1_farthestAcross_34 rfl (lv_at hl 3 rfl) ?_
          refine mf_icmp_le (tgt := 41) hx hb dX1_farthestAcross_35 (by decide) (i32_mk (by omega) (by omega)) (i32_mk (by omega) (by omega)) (fun c12 => ?_) (fun c12 => ?_)
          · skip
            refine lv_iinc (v := iI (kv + 1)) (lv' := [(3, .int (iI (kv + 1))), (4, .int (iI (y9))), (0, .ref h), (1, .int (iI (iv))), (2, .int (iI (xv)))]) hx hb dX1_farthestAcross_41 hl (k := 4) rfl (iI_add _ _).symm (by decide) rfl (fun ls hl => ?_)
            refine lv_goto (tgt := 4) hx hb dX1_farthestAcross_44 (by decide) ?_
            exact ih4 xv (kv + 1) (by omega) (by first | assumption | omega) (by first | assumption | omega) (by subst_vars; first | exact (farG_0 r _).symm | (rw [farG_s _ _ (by omega)]; first | exact (mf_if_t ⟨by omega, by omega⟩).symm | exact (mf_if_f (by omega)).symm))  ls (lv_sub hl [2, 3, 4, 0] rfl)
          · skip
            refine lv_iload hx hb dX1_farthestAcross_38 (lv_at hl 0 rfl) ?_
            refine lv_istore_n (lv' := [(2, .int (iI (y9))), (4, .int (iI (y9))), (0, .ref h), (1, .int (iI (iv))), (3, .int (iI (kv)))]) hx hb dX1_farthestAcross_40 rfl hl (by decide) rfl (fun ls hl => ?_)
            refine lv_iinc (v := iI (kv + 1)) (lv' := [(3, .int (iI (kv + 1))), (2, .int (iI (y9))), (4, .int (iI (y9))), (0, .ref h), (1, .int (iI (iv)))]) hx hb dX1_farthestAcross_41 hl (k := 4) rfl (iI_add _ _).symm (by decide) rfl (fun ls hl => ?_)
            refine lv_goto (tgt := 4) hx hb dX1_farthestAcross_44 (by decide) ?_
            exact ih4 y9 (kv + 1) (by omega) (by first | assumption | omega) (by first | assumption | omega) (by subst_vars; first | exact (farG_0 r _).symm | (rw [farG_s _ _ (by omega)]; first | exact (mf_if_t ⟨by omega, by omega⟩).symm | exact (mf_if_f (by omega)).symm))  ls (lv_sub hl [3, 4, 1, 0] rfl)
  exact lp4 (_ + 1) (-1) 0 (Nat.lt_succ_self _) (by first | assumption | omega) (by first | assumption | omega) (by subst_vars; first | exact (farG_0 r _).symm | (rw [farG_s _ _ (by omega)]; first | exact (mf_if_t ⟨by omega, by omega⟩).symm | exact (mf_if_f (by omega)).symm))  ls (lv_sub hl [2, 3, 1, 0] rfl)
set_option maxHeartbeats 4000000 in
set_option maxRecDepth 100000 in
theorem c_X1_widestNeck (l : Launch) (G : mf_G) (h : Nat) (ad : Nat → Nat) (r : mf_V) (ok : rOK rlo rhi r) : Met l yX1_widestNeck wsX1_widestNeck ({ frames := 3, cells := 0, slots := 0, locals := 66 }) (va_Pc [.ref h] (RdP G (RW G h ad r))) (vp_Si (fun q => q = iI (widF r))) 0 0 (fun _ => False) := by
  refine Met.ofW (cc := cX1_widestNeck) (maxL := 5) (ret := (some .int)) (by decide) rfl ?_
  intro p e s m args below meth c s₁ B hml hv
  obtain ⟨rfl, hP, hK, hN⟩ := hv
  have hx := B.exec
  have hb := B.bytes
  have hr := B.returns
  have hts := atoms_spec (ws := wsX1_widestNeck) B.pre
  have hown : s.vm.findClass RX1 = some m.cls := findClass_of_methodNamed B.named
  have hlocks := B.notSynchronized
  have hinX1 : ∀ w ∈ u_ws RX1 TX1 14, w ∈ wsX1_widestNeck := fun w h => List.mem_cons_of_mem _ (List.mem_append_right _ h)
  have hl := lv_entry ([.ref h]) (n := 5) (Nat.le_of_ble_eq_true rfl)
  rw [lg_entry_eq]
  generalize (lg_sl ([.ref h]) ++ List.replicate (5 - (lg_sl ([.ref h])).length) Slot.unset).toArray = ls at hl ⊢
  have hl : lv_has ls 5 [(0, .ref h)] := hl
  have okLr : (0 : Int) ≤ r 7 0 ∧ r 7 0 ≤ 150 := ok 7 0
  refine mf_iconst hx hb dX1_widestNeck_0 ?_
  refine lv_istore_n (lv' := [(1, .int (iI ((-1)))), (0, .ref h)]) hx hb dX1_widestNeck_1 rfl hl (by decide) rfl (fun ls hl => ?_)
  refine mf_iconst hx hb dX1_widestNeck_2 ?_
  refine lv_istore_n (lv' := [(2, .int (iI (0))), (1, .int (iI ((-1)))), (0, .ref h)]) hx hb dX1_widestNeck_3 rfl hl (by decide) rfl (fun ls hl => ?_)
  refine mf_iconst hx hb dX1_widestNeck_4 ?_
  refine lv_istore_n (lv' := [(3, .int (iI (0))), (2, .int (iI (0))), (1, .int (iI ((-1)))), (0, .ref h)]) hx hb dX1_widestNeck_5 rfl hl (by decide) rfl (fun ls hl => ?_)
  have lp6 : ∀ (n : Nat) (wv : Int) (mv : Int) (kv : Int), (r 7 0 - kv).toNat < n → (0 ≤ kv ∧ kv ≤ r 7 0) → (0 ≤ mv ∧ mv ≤ 149) → (wv = (widG r kv).1) → (mv = (widG r kv).2) → ∀ (ls : Array Slot), lv_has ls 5 [(0, .ref h), (1, .int (iI (wv))), (2, .int (iI (mv))), (3, .int (iI (kv)))] → W p l e (headSpec wsX1_widestNeck ({ frames := 3, cells := 0, slots := 0, locals := 66 })).room s m ([.ref h] : List Value).toArray below meth c s.heap [] 0 0 (MQ below (vp_Si (fun q => q = iI (widF r))) ([.ref h] : List Value).toArray s 0 0 (fun _ => False)) (F0 m 6 ls []) := by
    intro n
    induction n with
    | zero => intro wv mv kv hn; exact absurd hn (Nat.not_lt_zero _)
    | succ n ih6 =>
      intro wv mv kv hn hk hmb hw hm ls hl
      refine lv_iload_n hx hb dX1_widestNeck_6 rfl (lv_at hl 3 rfl) ?_
      refine lv_aload_n hx hb dX1_widestNeck_7 rfl (lv_at hl 0 rfl) ?_
      refine va_get (D := G.1) (ci := 1) (v := .int (iI (r 7 0))) (C := RX1) (T := TX1) (N := 14) hx hb hts hinX1 hown hK hP 0 rfl rfl 7 (by decide) (hts (.fieldLink RX1 46 "MeanderFarm$River" "length" "I") (List.mem_of_getElem? (i := 1) rfl)) (fun _ h9 => h9) rfl dX1_widestNeck_8 ?_
      have b1 : (0 : Int) ≤ r 7 0 ∧ r 7 0 ≤ 150 := ok 7 (0)
      refine mf_icmp_ge (tgt := 40) hx hb dX1_widestNeck_11 (by decide) (i32_mk (by omega) (by omega)) (i32_mk (by omega) (by omega)) (fun c2 => ?_) (fun c2 => ?_)
      · skip
        refine lv_iload_n hx hb dX1_widestNeck_40 rfl (lv_at hl 1 rfl) ?_
        exact W.iret hx hb hr (fun t ht hW => ⟨_, rfl, (congrArg iI (by rw [show kv = r 7 0 by omega] at hw; exact hw)), ht⟩) t_nil dX1_widestNeck_41
      · skip
        refine lv_aload_n hx hb dX1_widestNeck_14 rfl (lv_at hl 0 rfl) ?_
        refine lv_iload_n hx hb dX1_widestNeck_15 rfl (lv_at hl 3 rfl) ?_
        refine vp_callSi (va_Run.run (va_runV (As := [.int (iI (kv))]) (rest := []) ⟨hx, hb, hml, hown, hts⟩ (c_X1_farthestAcross l G h ad r (kv) (i32_mk (by omega) (by omega)) (by assumption) (by first | assumption | omega)) (cwV 1 hts gX1_widestNeck_X1_farthestAcross rfl rfl rfl (by decide +kernel) ⟨Nat.le_of_ble_eq_true rfl, Nat.le_of_ble_eq_true rfl⟩) (rdV (wc := RW G h ad r) hK hP hN [0, 1, 2, 3, 4, 5, 6, 7, 8, 9, 10, 11] rfl (ci := 1) rfl rfl) rfl rfl hl.1 rfl (lv_room (Nat.le_of_ble_eq_true rfl)) dX1_widestNeck_16 ⟨(Nat.zero_le _), (Nat.zero_le _)⟩)) (fun q3 hq3 => ?_)
        subst hq3
        refine mf_nm (fun y4 ey4 => ?_)
        have b5 : -1 ≤ y4 ∧ y4 ≤ 149 := by rw [ey4]; exact farF_b (by assumption) kv
        refine lv_iload_n hx hb dX1_widestNeck_19 rfl (lv_at hl 3 rfl) ?_
        refine mf_isub hx hb dX1_widestNeck_20 ?_
        refine lv_istore (lv' := [(4, .int (iI (y4 - kv))), (0, .ref h), (1, .int (iI (wv))), (2, .int (iI (mv))), (3, .int (iI (kv)))]) hx hb dX1_widestNeck_21 hl (by decide) rfl (fun ls hl => ?_)
        refine lv_iload hx hb dX1_widestNeck_23 (lv_at hl 0 rfl) ?_
        refine lv_iload_n hx hb dX1_widestNeck_25 rfl (lv_at hl 3 rfl) ?_
        refine mf_icmp_le (tgt := 34) hx hb dX1_widestNeck_26 (by decide) (i32_mk (by omega) (by omega)) (i32_mk (by omega) (by omega)) (fun c6 => ?_) (fun c6 => ?_)
        · skip
          refine lv_iinc (v := iI (kv + 1)) (lv' := [(3, .int (iI (kv + 1))), (4, .int (iI (y4 - kv))), (0, .ref h), (1, .int (iI (wv))), (2, .int (iI (mv)))]) hx hb dX1_widestNeck_34 hl (k := 4) rfl (iI_add _ _).symm (by decide) rfl (fun ls hl => ?_)
          refine lv_goto (tgt := 6) hx hb dX1_widestNeck_37 (by decide) ?_
          exact ih6 wv mv (kv + 1) (by omega) (by first | assumption | omega) (by first | assumption | omega) (by subst_vars; first | rfl | (rw [widG_t r (by omega) (by omega)]) | (rw [widG_f r (by omega) (by omega)])) (by subst_vars; first | rfl | (rw [widG_t r (by omega) (by omega)]) | (rw [widG_f r (by omega) (by omega)]))  ls (lv_sub hl [2, 3, 4, 0] rfl)
        · skip
          refine lv_iload hx hb dX1_widestNeck_29 (lv_at hl 0 rfl) ?_
          refine lv_istore_n (lv' := [(2, .int (iI (y4 - kv))), (4, .int (iI (y4 - kv))), (0, .ref h), (1, .int (iI (wv))), (3, .int (iI (kv)))]) hx hb dX1_widestNeck_31 rfl hl (by decide) rfl (fun ls hl => ?_)
          refine lv_iload_n hx hb dX1_widestNeck_32 rfl (lv_at hl 4 rfl) ?_
          refine lv_istore_n (lv' := [(1, .int (iI (kv))), (2, .int (iI (y4 - kv))), (4, .int (iI (y4 - kv))), (0, .ref h), (3, .int (iI (kv)))]) hx hb dX1_widestNeck_33 rfl hl (by decide) rfl (fun ls hl => ?_)
          refine lv_iinc (v := iI (kv + 1)) (lv' := [(3, .int (iI (kv + 1))), (1, .int (iI (kv))), (2, .int (iI (y4 - kv))), (4, .int (iI (y4 - kv))), (0, .ref h)]) hx hb dX1_widestNeck_34 hl (k := 4) rfl (iI_add _ _).symm (by decide) rfl (fun ls hl => ?_)
          refine lv_goto (tgt := 6) hx hb dX1_widestNeck_37 (by decide) ?_
          exact ih6 kv (y4 - kv) (kv + 1) (by omega) (by first | assumption | omega) (by first | assumption | omega) (by subst_vars; first | rfl | (rw [widG_t r (by omega) (by omega)]) | (rw [widG_f r (by omega) (by omega)])) (by subst_vars; first | rfl | (rw [widG_t r (by omega) (by omega)]) | (rw [widG_f r (by omega) (by omega)]))  ls (lv_sub hl [4, 1, 2, 0] rfl)
  exact lp6 (_ + 1) (-1) 0 0 (Nat.lt_succ_self _) (by first | assumption | omega) (by first | assumption | omega) (by subst_vars; first | rfl | (rw [widG_t r (by omega) (by omega)]) | (rw [widG_f r (by omega) (by omega)])) (by subst_vars; first | rfl | (rw [widG_t r (by omega) (by omega)]) | (rw [widG_f r (by omega) (by omega)]))  ls (lv_sub hl [3, 2, 1, 0] rfl)
set_option maxHeartbeats 4000000 in
set_option maxRecDepth 100000 in
theorem c_X1_necks (l : Launch) (G : mf_G) (h : Nat) (ad : Nat → Nat) (r : mf_V) (ok : rOK rlo rhi r) : Met l yX1_necks wsX1_necks ({ frames := 2, cells := 0, slots := 0, locals := 41 }) (va_Pc [.ref h] (RdP G (RW G h ad r))) (vp_Si (fun q => q = iI (neckF r))) 0 0 (fun _ => False) := by
  refine Met.ofW (cc := cX1_necks) (maxL := 4) (ret := (some .int)) (by decide) rfl ?_
  intro p e s m args below meth c s₁ B hml hv
  obtain ⟨rfl, hP, hK, hN⟩ := hv
  have hx := B.exec
  have hb := B.bytes
  have hr := B.returns
  have hts := atoms_spec (ws := wsX1_necks) B.pre
  have hown : s.vm.findClass RX1 = some m.cls := findClass_of_methodNamed B.named
  have hlocks := B.notSynchronized
  have hinX1 : ∀ w ∈ u_ws RX1 TX1 14, w ∈ wsX1_necks := fun w h => List.mem_cons_of_mem _ (List.mem_append_right _ h)
  have hl := lv_entry ([.ref h]) (n := 4) (Nat.le_of_ble_eq_true rfl)
  rw [lg_entry_eq]
  generalize (lg_sl ([.ref h]) ++ List.replicate (4 - (lg_sl ([.ref h])).length) Slot.unset).toArray = ls at hl ⊢
  have hl : lv_has ls 4 [(0, .ref h)] := hl
  have okLr : (0 : Int) ≤ r 7 0 ∧ r 7 0 ≤ 150 := ok 7 0
  refine mf_iconst hx hb dX1_necks_0 ?_
  refine lv_istore_n (lv' := [(1, .int (iI (0))), (0, .ref h)]) hx hb dX1_necks_1 rfl hl (by decide) rfl (fun ls hl => ?_)
  refine mf_iconst hx hb dX1_necks_2 ?_
  refine lv_istore_n (lv' := [(2, .int (iI (0))), (1, .int (iI (0))), (0, .ref h)]) hx hb dX1_necks_3 rfl hl (by decide) rfl (fun ls hl => ?_)
  have lp4 : ∀ (n : Nat) (xv : Int) (kv : Int), (r 7 0 - kv).toNat < n → (0 ≤ kv ∧ kv ≤ r 7 0) → (xv = msum (fun i => msum (fun d => bP (3 ≤ placeOfF r (nbr (r 6 i) d) - i)) 4) kv) → ∀ (ls : Array Slot), lv_has ls 4 [(0, .ref h), (1, .int (iI (xv))), (2, .int (iI (kv)))] → W p l e (headSpec wsX1_necks ({ frames := 2, cells := 0, slots := 0, locals := 41 })).room s m ([.ref h] : List Value).toArray below meth c s.heap [] 0 0 (MQ below (vp_Si (fun q => q = iI (neckF r))) ([.ref h] : List Value).toArray s 0 0 (fun _ => False)) (F0 m 4 ls []) := by
    intro n
    induction n with
    | zero => intro xv kv hn; exact absurd hn (Nat.not_lt_zero _)
    | succ n ih4 =>
      intro xv kv hn hk hs ls hl
      refine lv_iload_n hx hb dX1_necks_4 rfl (lv_at hl 2 rfl) ?_
      refine lv_aload_n hx hb dX1_necks_5 rfl (lv_at hl 0 rfl) ?_
      refine va_get (D := G.1) (ci := 1) (v := .int (iI (r 7 0))) (C := RX1) (T := TX1) (N := 14) hx hb hts hinX1 hown hK hP 0 rfl rfl 7 (by decide) (hts (.fieldLink RX1 46 "MeanderFarm$River" "length" "I") (List.mem_of_getElem? (i := 1) rfl)) (fun _ h9 => h9) rfl dX1_necks_6 ?_
      have b1 : (0 : Int) ≤ r 7 0 ∧ r 7 0 ≤ 150 := ok 7 (0)
      refine mf_icmp_ge (tgt := 54) hx hb dX1_necks_9 (by decide) (i32_mk (by omega) (by omega)) (i32_mk (by omega) (by omega)) (fun c2 => ?_) (fun c2 => ?_)
      · skip
        refine lv_iload_n hx hb dX1_necks_54 rfl (lv_at hl 1 rfl) ?_
        exact W.iret hx hb hr (fun t ht hW => ⟨_, rfl, (congrArg iI (by rw [show kv = r 7 0 by omega] at hs; exact hs)), ht⟩) t_nil dX1_necks_55
      · skip
        refine mf_iconst hx hb dX1_necks_12 ?_
        refine lv_istore_n (lv' := [(3, .int (iI (0))), (0, .ref h), (1, .int (iI (xv))), (2, .int (iI (kv)))]) hx hb dX1_necks_13 rfl hl (by decide) rfl (fun ls hl => ?_)
        have lp14 : ∀ (n : Nat) (yv : Int) (dv : Int), (4 - dv).toNat < n → (0 ≤ dv ∧ dv ≤ 4) → (yv = msum (fun i => msum (fun d => bP (3 ≤ placeOfF r (nbr (r 6 i) d) - i)) 4) kv + msum (fun d => bP (3 ≤ placeOfF r (nbr (r 6 kv) d) - kv)) dv) → ∀ (ls : Array Slot), lv_has ls 4 [(0, .ref h), (1, .int (iI (yv))), (2, .int (iI (kv))), (3, .int (iI (dv)))] → W p l e (headSpec wsX1_necks ({ frames := 2, cells := 0, slots := 0, locals := 41 })).room s m ([.ref h] : List Value).toArray below meth c s.heap [] 0 0 (MQ below (vp_Si (fun q => q = iI (neckF r))) ([.ref h] : List Value).toArray s 0 0 (fun _ => False)) (F0 m 14 ls []) := by
          intro n
          induction n with
          | zero => intro yv dv hn; exact absurd hn (Nat.not_lt_zero _)
          | succ n ih14 =>
            intro yv dv hn hd hs2 ls hl
            refine lv_iload_n hx hb dX1_necks_14 rfl (lv_at hl 3 rfl) ?_
            refine mf_iconst hx hb dX1_necks_15 ?_
            refine mf_icmp_ge (tgt := 48) hx hb dX1_necks_16 (by decide) (i32_mk (by omega) (by omega)) (i32_mk (by decide) (by decide)) (fun c3 => ?_) (fun c3 => ?_)
            · skip
              refine lv_iinc (v := iI (kv + 1)) (lv' := [(2, .int (iI (kv + 1))), (0, .ref h), (1, .int (iI (yv))), (3, .int (iI (dv)))]) hx hb dX1_necks_48 hl (k := 2) rfl (iI_add _ _).symm (by decide) rfl (fun ls hl => ?_)
              refine lv_goto (tgt := 4) hx hb dX1_necks_51 (by decide) ?_
              exact ih4 yv (kv + 1) (by omega) (by first | assumption | omega) (by rw [msum_s _ (by omega)]; rw [show dv = 4 by omega] at hs2; exact hs2)  ls (lv_sub hl [1, 2, 0] rfl)
            · skip
              refine lv_aload_n hx hb dX1_necks_19 rfl (lv_at hl 0 rfl) ?_
              refine lv_aload_n hx hb dX1_necks_20 rfl (lv_at hl 0 rfl) ?_
              refine va_get (D := G.1) (ci := 1) (v := .ref (ad 6)) (C := RX1) (T := TX1) (N := 14) hx hb hts hinX1 hown hK hP 0 rfl rfl 6 (by decide) (hts (.fieldLink RX1 31 "MeanderFarm$River" "course" "[I") (List.mem_of_getElem? (i := 2) rfl)) (fun _ h9 => h9) rfl dX1_necks_21 ?_
              refine lv_iload_n hx hb dX1_necks_24 rfl (lv_at hl 2 rfl) ?_
              refine mf_iald (n := 150) (f := r 6) hx hb hK hP 7 0 rfl rfl (z := kv) (by omega) (by omega) (by decide) dX1_necks_25 ?_
              have b4 : (0 : Int) ≤ r 6 kv ∧ r 6 kv ≤ 383 := ok 6 (kv)
              refine lv_iload_n hx hb dX1_necks_26 rfl (lv_at hl 3 rfl) ?_
              refine vp_callSi (va_Run.run (va_runSN (As := [.int (iI (r 6 kv)), .int (iI (dv))]) (rest := [.ref h]) ⟨hx, hb, hml, hown, hts⟩ (c_X2_neighbour l (r 6 kv) (dv) (i32_mk (by omega) (by omega)) (i32_mk (by omega) (by omega))) ⟨(va_cnB 2 hts gX1_necks_X2_neighbour_n89 rfl rfl rfl (hN.m 29 rfl) (hts (.initialized RX2) (List.mem_of_getElem? (i := 4) rfl)) (by decide +kernel) ⟨Nat.le_of_ble_eq_true rfl, Nat.le_of_ble_eq_true rfl⟩), (hts (.static yX2_neighbour) (List.mem_of_getElem? (i := 3) rfl)), trivial⟩ pureS rfl rfl hl.1 rfl (lv_room (Nat.le_of_ble_eq_true rfl)) dX1_necks_27 ⟨(Nat.zero_le _), (Nat.zero_le _)⟩)) (fun q5 hq5 => ?_)
              subst hq5
              refine mf_nm (fun y6 ey6 => ?_)
              have b7 : -1 ≤ y6 ∧ y6 ≤ 383 := by rw [ey6]; exact nbr_b (r 6 kv) dv
              refine vp_callSi (va_Run.run (va_runV (As := [.int (iI (y6))]) (rest := []) ⟨hx, hb, hml, hown, hts⟩ (c_X1_placeOf l G h ad r (y6) (i32_mk (by omega) (by omega)) (by assumption)) (cwV 1 hts gX1_necks_X1_placeOf rfl rfl rfl (by decide +kernel) ⟨Nat.le_of_ble_eq_true rfl, Nat.le_of_ble_eq_true rfl⟩) (rdV (wc := RW G h ad r) hK hP hN [0, 1, 2, 3, 4, 5, 6, 7, 8, 9, 10, 11] rfl (ci := 1) rfl rfl) rfl rfl hl.1 rfl (lv_room (Nat.le_of_ble_eq_true rfl)) dX1_necks_30 ⟨(Nat.zero_le _), (Nat.zero_le _)⟩)) (fun q8 hq8 => ?_)
              subst hq8
              refine mf_nm (fun y9 ey9 => ?_)
              have b10 : -1 ≤ y9 ∧ y9 ≤ 149 := by rw [ey9]; exact placeOfF_b (by assumption) y6
              refine lv_iload_n hx hb dX1_necks_33 rfl (lv_at hl 2 rfl) ?_
              refine mf_isub hx hb dX1_necks_34 ?_
              refine mf_iconst hx hb dX1_necks_35 ?_
              refine mf_icmp_lt (tgt := 42) hx hb dX1_necks_36 (by decide) (i32_mk (by omega) (by omega)) (i32_mk (by decide) (by decide)) (fun c11 => ?_) (fun c11 => ?_)
              · skip
                refine lv_iinc (v := iI (dv + 1)) (lv' := [(3, .int (iI (dv + 1))), (0, .ref h), (1, .int (iI (yv))), (2, .int (iI (kv)))]) hx hb dX1_necks_42 hl (k := 3) rfl (iI_add _ _).symm (by decide) rfl (fun ls hl => ?_)
                refine lv_goto (tgt := 14) hx hb dX1_necks_45 (by decide) ?_
                exact ih14 yv (dv + 1) (by omega) (by first | assumption | omega) (by subst_vars; rw [msum_s _ (by omega)]; first | (rw [bP_t (by omega)]; omega) | (rw [bP_f (by omega)]; omega))  ls (lv_sub hl [1, 2, 3, 0] rfl)
              · skip
                refine lv_iinc (v := iI (yv + 1)) (lv' := [(1, .int (iI (yv + 1))), (0, .ref h), (2, .int (iI (kv))), (3, .int (iI (dv)))]) hx hb dX1_necks_39 hl (k := 1) rfl (iI_add _ _).symm (by decide) rfl (fun ls hl => ?_)
                refine lv_iinc (v := iI (dv + 1)) (lv' := [(3, .int (iI (dv + 1))), (1, .int (iI (yv + 1))), (0, .ref h), (2, .int (iI (kv)))]) hx hb dX1_necks_42 hl (k := 3) rfl (iI_add _ _).symm (by decide) rfl (fun ls hl => ?_)
                refine lv_goto (tgt := 14) hx hb dX1_necks_45 (by decide) ?_
                exact ih14 (yv + 1) (dv + 1) (by omega) (by first | assumption | omega) (by subst_vars; rw [msum_s _ (by omega)]; first | (rw [bP_t (by omega)]; omega) | (rw [bP_f (by omega)]; omega))  ls (lv_sub hl [2, 1, 3, 0] rfl)
        exact lp14 (_ + 1) xv 0 (Nat.lt_succ_self _) (by first | assumption | omega) (by rw [msum_0, Int.add_zero]; exact hs)  ls (lv_sub hl [1, 2, 3, 0] rfl)
  exact lp4 (_ + 1) 0 0 (Nat.lt_succ_self _) (by first | assumption | omega) (by exact (msum_0 _).symm)  ls (lv_sub hl [2, 1, 0] rfl)
set_option maxHeartbeats 4000000 in
set_option maxRecDepth 100000 in
theorem c_X1_bends (l : Launch) (G : mf_G) (h : Nat) (ad : Nat → Nat) (r : mf_V) (ok : rOK rlo rhi r) (hlen : 2 ≤ r 7 0) : Met l yX1_bends wsX1_bends ({ frames := 2, cells := 0, slots := 0, locals := 42 }) (va_Pc [.ref h] (RdP G (RW G h ad r))) (vp_Si (fun q => q = iI (bendsF r))) 0 0 (fun _ => False) := by
  refine Met.ofW (cc := cX1_bends) (maxL := 3) (ret := (some .int)) (by decide) rfl ?_
  intro p e s m args below meth c s₁ B hml hv
  obtain ⟨rfl, hP, hK, hN⟩ := hv
  have hx := B.exec
  have hb := B.bytes
  have hr := B.returns
  have hts := atoms_spec (ws := wsX1_bends) B.pre
  have hown : s.vm.findClass RX1 = some m.cls := findClass_of_methodNamed B.named
  have hlocks := B.notSynchronized
  have hinX1 : ∀ w ∈ u_ws RX1 TX1 14, w ∈ wsX1_bends := fun w h => List.mem_cons_of_mem _ (List.mem_append_right _ h)
  have hl := lv_entry ([.ref h]) (n := 3) (Nat.le_of_ble_eq_true rfl)
  rw [lg_entry_eq]
  generalize (lg_sl ([.ref h]) ++ List.replicate (3 - (lg_sl ([.ref h])).length) Slot.unset).toArray = ls at hl ⊢
  have hl : lv_has ls 3 [(0, .ref h)] := hl
  have okLr : (0 : Int) ≤ r 7 0 ∧ r 7 0 ≤ 150 := ok 7 0
  refine mf_iconst hx hb dX1_bends_0 ?_
  refine lv_istore_n (lv' := [(1, .int (iI (0))), (0, .ref h)]) hx hb dX1_bends_1 rfl hl (by decide) rfl (fun ls hl => ?_)
  refine mf_iconst hx hb dX1_bends_2 ?_
  refine lv_istore_n (lv' := [(2, .int (iI (1))), (1, .int (iI (0))), (0, .ref h)]) hx hb dX1_bends_3 rfl hl (by decide) rfl (fun ls hl => ?_)
  have lp4 : ∀ (n : Nat) (xv : Int) (kv : Int), (r 7 0 - kv).toNat < n → (1 ≤ kv ∧ kv ≤ r 7 0 - 1) → (xv = msum (fun c => bP (1 ≤ c ∧ ¬ strP r c)) kv) → ∀ (ls : Array Slot), lv_has ls 3 [(0, .ref h), (1, .int (iI (xv))), (2, .int (iI (kv)))] → W p l e (headSpec wsX1_bends ({ frames := 2, cells := 0, slots := 0, locals := 42 })).room s m ([.ref h] : List Value).toArray below meth c s.heap [] 0 0 (MQ below (vp_Si (fun q => q = iI (bendsF r))) ([.ref h] : List Value).toArray s 0 0 (fun _ => False)) (F0 m 4 ls []) := by
    intro n
    induction n with
    | zero => intro xv kv hn; exact absurd hn (Nat.not_lt_zero _)
    | succ n ih4 =>
      intro xv kv hn hk hs ls hl
      refine lv_iload_n hx hb dX1_bends_4 rfl (lv_at hl 2 rfl) ?_
      refine lv_aload_n hx hb dX1_bends_5 rfl (lv_at hl 0 rfl) ?_
      refine va_get (D := G.1) (ci := 1) (v := .int (iI (r 7 0))) (C := RX1) (T := TX1) (N := 14) hx hb hts hinX1 hown hK hP 0 rfl rfl 7 (by decide) (hts (.fieldLink RX1 46 "MeanderFarm$River" "length" "I") (List.mem_of_getElem? (i := 1) rfl)) (fun _ h9 => h9) rfl dX1_bends_6 ?_
      have b1 : (0 : Int) ≤ r 7 0 ∧ r 7 0 ≤ 150 := ok 7 (0)
      refine mf_iconst hx hb dX1_bends_9 ?_
      refine mf_isub hx hb dX1_bends_10 ?_
      refine mf_icmp_ge (tgt := 31) hx hb dX1_bends_11 (by decide) (i32_mk (by omega) (by omega)) (i32_mk (by omega) (by omega)) (fun c2 => ?_) (fun c2 => ?_)
      · skip
        refine lv_iload_n hx hb dX1_bends_31 rfl (lv_at hl 1 rfl) ?_
        exact W.iret hx hb hr (fun t ht hW => ⟨_, rfl, (congrArg iI (by rw [show kv = r 7 0 - 1 by omega] at hs; exact hs)), ht⟩) t_nil dX1_bends_32
      · skip
        refine lv_aload_n hx hb dX1_bends_14 rfl (lv_at hl 0 rfl) ?_
        refine lv_iload_n hx hb dX1_bends_15 rfl (lv_at hl 2 rfl) ?_
        refine vp_callSi (va_Run.run (va_runV (As := [.int (iI (kv))]) (rest := []) ⟨hx, hb, hml, hown, hts⟩ (c_X1_isStraight l G h ad r (kv) (i32_mk (by omega) (by omega)) (by assumption)) (cwV 1 hts gX1_bends_X1_isStraight rfl rfl rfl (by decide +kernel) ⟨Nat.le_of_ble_eq_true rfl, Nat.le_of_ble_eq_true rfl⟩) (rdV (wc := RW G h ad r) hK hP hN [0, 1, 2, 3, 4, 5, 6, 7, 8, 9, 10, 11] rfl (ci := 1) rfl rfl) rfl rfl hl.1 rfl (lv_room (Nat.le_of_ble_eq_true rfl)) dX1_bends_16 ⟨(Nat.zero_le _), (Nat.zero_le _)⟩)) (fun q3 hq3 => ?_)
        subst hq3
        refine mf_bp_ne (tgt := 25) hx hb dX1_bends_19 (by decide) (fun c4 => ?_) (fun c4 => ?_)
        · skip
          have c4' := c4; unfold strP at c4'
          refine lv_iinc (v := iI (kv + 1)) (lv' := [(2, .int (iI (kv + 1))), (0, .ref h), (1, .int (iI (xv)))]) hx hb dX1_bends_25 hl (k := 2) rfl (iI_add _ _).symm (by decide) rfl (fun ls hl => ?_)
          refine lv_goto (tgt := 4) hx hb dX1_bends_28 (by decide) ?_
          exact ih4 xv (kv + 1) (by omega) (by first | assumption | omega) (by rw [msum_s _ (by omega)]; first | (rw [bP_t ⟨by omega, by assumption⟩]; omega) | (rw [bP_f (fun z => z.2 (by assumption))]; omega))  ls (lv_sub hl [1, 2, 0] rfl)
        · skip
          have c4' := c4; unfold strP at c4'
          refine lv_iinc (v := iI (xv + 1)) (lv' := [(1, .int (iI (xv + 1))), (0, .ref h), (2, .int (iI (kv)))]) hx hb dX1_bends_22 hl (k := 1) rfl (iI_add _ _).symm (by decide) rfl (fun ls hl => ?_)
          refine lv_iinc (v := iI (kv + 1)) (lv' := [(2, .int (iI (kv + 1))), (1, .int (iI (xv + 1))), (0, .ref h)]) hx hb dX1_bends_25 hl (k := 2) rfl (iI_add _ _).symm (by decide) rfl (fun ls hl => ?_)
          refine lv_goto (tgt := 4) hx hb dX1_bends_28 (by decide) ?_
          exact ih4 (xv + 1) (kv + 1) (by omega) (by first | assumption | omega) (by rw [msum_s _ (by omega)]; first | (rw [bP_t ⟨by omega, by assumption⟩]; omega) | (rw [bP_f (fun z => z.2 (by assumption))]; omega))  ls (lv_sub hl [2, 1, 0] rfl)
  exact lp4 (_ + 1) 0 1 (Nat.lt_succ_self _) (by first | assumption | omega) (by rw [show (1 : Int) = 0 + 1 from rfl, msum_s _ (by omega), bP_f (by omega), msum_0]; rfl)  ls (lv_sub hl [2, 1, 0] rfl)
