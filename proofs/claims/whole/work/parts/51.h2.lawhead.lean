/-! 63.lawhead: the law's own rows, and what holds between two calls -/
/-- what stands all the way through the law -/
def LE (p : Program) (l : Launch) (s : State) (m : MethodId) (meth : Method) (c : Code) (b L : Nat) (xs : Nat → Int32) (G : mf_G) (gL gK : ClassId) (A : Nat → Prop) : Prop :=
  p.tables.exec = Jvm.exec ∧ c.code = cL_law ∧ meth.sig.returnType = ret ∧ c.maxLocals = 9 ∧ s.vm.findClass RL = some m.cls ∧ (∀ w ∈ wsL_law, w.before #[Value.ref b] s = true) ∧ va_X b L xs s s.heap ∧ b < s.heap.size ∧ l.stackTraces = false ∧ va_K G.1 vwCl (mf_ty G ++ [(gL, .long)]) s ∧ NW s ∧ NK gK s ∧ SX s ∧ CX s ∧ ZX A s s.heap ∧ NX s ∧ (∀ q : Nat, s.heap.size ≤ q → A q) ∧ ¬ A b
theorem wrSy {G : mf_G} {K : ClassId} {s : State} {H : Heap} {locs : List Loc} {ws wc : va_W} {A : Nat → Prop} {As : List Value} (hSX : SX s) (hCX : CX s) (hZ : ZX A s s.heap) (hS : va_S A s.heap H locs) (hF : ∀ q, va_A wc H.size q → A q) (hNX : NX s) (hK : va_K G.1 vwCl (mf_ty G ++ [(K, .long)]) s) (hP : va_P G.1 vwCl ws H) (hD : va_D A ws) (hN : NW s) (is : List Nat) (hn : va_nd is = true) (hs : is.filterMap (fun i => ws[i]?) = wc) (hm : is.map (fun i => ws[i]?) = wc.map some) : PreS s H (va_Pc As (WrPy G K wc H.size)) As :=
  ⟨wrPy_blind, fun U hU hW => ⟨rfl, by rw [hU], by rw [hU]; exact hP.sub is hs, va_K.moved hW.alike hK, (hD.sub is hn hm).weaken (fun _ _ _ _ => trivial), hN.warm hW, hSX.warm hW, hCX.warm hW, by rw [hU]; exact ((hZ.kept hS.2.1).moved hW.alike).narrow hF, hNX.moved hW.alike⟩⟩
/-- the script's int at a place -/
def sI (xs : Nat → Int32) (z : Int) : Int := (xs z.toNat).toInt
theorem sI_b (xs : Nat → Int32) (z : Int) : -2147483648 ≤ sI xs z ∧ sI xs z < 2147483648 := by
  have h := i32_of (xs z.toNat)
  exact ⟨h.1, h.2⟩
section MFS
variable {p : Program} {l : Launch} {e : Env} {R : Room} {s : State} {m : MethodId} {args : Array Value} {below : List Frame} {meth : Method} {c : Code} {H : Heap} {locs : List Loc} {cells slots : Nat} {Q : State → Prop}
variable {cc : ByteArray} {pc : Nat} {ls : Array Slot} {rest : List Value}
theorem mf_sld (hx : p.tables.exec = Jvm.exec) (hb : c.code = cc) {b L : Nat} {xs : Nat → Int32} {A : Nat → Prop} {H0 : Heap} (hX : va_X b L xs s H0) (hbl : b < H0.size) (hbA : ¬ A b) (hS : va_S A H0 H locs) {z : Int} (h0 : 0 ≤ z) (h1 : z < L) (hL : L < 2147483648) (hd : decode cc pc = .ok (.iaload, 1))
    (k : W p l e R s m args below meth c H locs cells slots Q (F0 m (pc + 1) ls (.int (iI (sI xs z)) :: rest))) : W p l e R s m args below meth c H locs cells slots Q (F0 m pc ls (.int (iI z) :: .ref b :: rest)) :=
  va_sld hx hb hX hbl hbA hS (iI_in h0 h1 hL) hd (by
    rw [iI_cl h0 (by omega)]
    rw [show iI (sI xs z) = xs z.toNat from iI_of _] at k
    exact k)
theorem mf_slen (hx : p.tables.exec = Jvm.exec) (hb : c.code = cc) {b L : Nat} {xs : Nat → Int32} {A : Nat → Prop} {H0 : Heap} (hX : va_X b L xs s H0) (hbl : b < H0.size) (hbA : ¬ A b) (hS : va_S A H0 H locs) (hd : decode cc pc = .ok (.arraylength, 1))
    (k : W p l e R s m args below meth c H locs cells slots Q (F0 m (pc + 1) ls (.int (iI (L : Int)) :: rest))) : W p l e R s m args below meth c H locs cells slots Q (F0 m pc ls (.ref b :: rest)) :=
  va_slen hx hb hX hbl hbA hS hd k
theorem mf_lcmp_eq (hx : p.tables.exec = Jvm.exec) (hb : c.code = cc) {x y : Int64} (h : x = y) (hd : decode cc pc = .ok (.lcmp, 1))
    (k : W p l e R s m args below meth c H locs cells slots Q (F0 m (pc + 1) ls (.int (iI 0) :: rest))) : W p l e R s m args below meth c H locs cells slots Q (F0 m pc ls (.long y :: .long x :: rest)) := by
  subst h
  refine W.lcmp hx hb hd ?_
  rw [show lg_cmp x x = iI 0 from by unfold lg_cmp; rw [if_neg (by rw [gt_iff_lt, Int64.lt_iff_toInt_lt]; omega), if_pos rfl]; rfl]
  exact k
/-- the kind of call: the low five bits -/
theorem mf_and31 (hx : p.tables.exec = Jvm.exec) (hb : c.code = cc) {z : Int} (hd : decode cc pc = .ok (.iand, 1))
    (k : ∀ y : Int, 0 ≤ y → y ≤ 31 → W p l e R s m args below meth c H locs cells slots Q (F0 m (pc + 1) ls (.int (iI y) :: rest))) : W p l e R s m args below meth c H locs cells slots Q (F0 m pc ls (.int (iI 31) :: .int (iI z) :: rest)) := by
  refine lv_iand hx hb hd ?_
  have h : 0 ≤ (iI z &&& iI 31).toInt ∧ (iI z &&& iI 31).toInt ≤ 31 := by
    show 0 ≤ (iI z &&& iI 31).toBitVec.toInt ∧ (iI z &&& iI 31).toBitVec.toInt ≤ 31
    have hn : ((iI z &&& iI 31).toBitVec).toNat ≤ 31 := by
      rw [Int32.toBitVec_and, BitVec.toNat_and]
      exact Nat.and_le_right
    rw [BitVec.toInt_eq_toNat_cond]
    split <;> omega
  have g := k (iI z &&& iI 31).toInt h.1 h.2
  rw [iI_of] at g
  exact g
end MFS
/-- between two calls: the class and the reference hold the same river and the same farms -/
def LI (Y : Int) (x r ra f u : mf_V) : Prop := (rOK xlo xhi x ∧ rOK rlo rhi r ∧ rOK rlo rhi ra ∧ rOK flo fhi f) ∧ RInv r ∧ bdP r Y ∧ FInv f ∧ rOK ulo uhi u ∧ relU r u ∧ relF f u
theorem bdP_mono {r : mf_V} {Y Z : Int} (h : bdP r Y) (hZ : Y ≤ Z) : bdP r Z := ⟨by have := h.1; omega, by have := h.2.1; omega, fun c => by have := h.2.2 c; omega⟩
theorem relU_rC {r u : mf_V} (h : relU r u) : relU (rC r) u := h
theorem relU_Cr {r u : mf_V} (h : relU (rC r) u) : relU r u := h
theorem LI_same {Y : Int} {x r ra f u x' r' ra' f' u' : mf_V} (h : LI Y x r ra f u) (ok : rOK xlo xhi x' ∧ rOK rlo rhi r' ∧ rOK rlo rhi ra' ∧ rOK flo fhi f') (er : r' = r) (ef : f' = f) (oku : rOK ulo uhi u') (hr : relU r u') (hf : relF f u') : LI (Y + 101) x' r' ra' f' u' := by
  obtain ⟨-, hI, hB, hF, -⟩ := h
  subst er ef
  exact ⟨ok, hI, bdP_mono hB (by omega), hF, oku, hr, hf⟩
theorem Bul_bd {r q : mf_V} {i t Y : Int} (hY : 0 ≤ Y) (h : Bul r i t q) (hB : bdP r Y) : bdP q (Y + 101) := by
  obtain ⟨-, -, hc, -, -, -, h8, h9⟩ := h
  obtain ⟨b8, b9, bc⟩ := hB
  refine ⟨by rw [h8]; omega, by rw [h9]; omega, fun c => ?_⟩
  by_cases y : hitB r i t c
  · rw [((hc c).1 y).1]; omega
  · rw [((hc c).2 y).1]; have := bc c; omega
theorem Brk_bd {r q : mf_V} {i j Y : Int} (h : Brk r i j q) (hB : bdP r Y) : bdP q (Y + 101) := by
  obtain ⟨-, -, -, h9, -, h1, -, -, -, h8⟩ := h
  obtain ⟨b8, b9, bc⟩ := hB
  exact ⟨by rw [h8]; omega, by rw [h9]; omega, fun c => by rw [h1]; have := bc c; omega⟩
theorem relF_add {f q u : mf_V} {x y w d : Int} (okf : rOK flo fhi f) (h : AddP f q x y w d) (hr : relF (addF f x y w d) u) : relF q u := by
  obtain ⟨e0, e1, e2, e3, e4⟩ := h
  have a4 : addF f x y w d 4 = fun _ => f 4 0 + 1 := mf_sF_s
  have a0 : addF f x y w d 0 = mf_up (f 0) (f 4 0) x := by unfold addF; rw [mf_sF_n (by decide), mf_sF_n (by decide), mf_sF_n (by decide), mf_sF_n (by decide), mf_sF_s]
  have a1 : addF f x y w d 1 = mf_up (f 1) (f 4 0) y := by unfold addF; rw [mf_sF_n (by decide), mf_sF_n (by decide), mf_sF_n (by decide), mf_sF_s]
  have a2 : addF f x y w d 2 = mf_up (f 2) (f 4 0) w := by unfold addF; rw [mf_sF_n (by decide), mf_sF_n (by decide), mf_sF_s]
  have a3 : addF f x y w d 3 = mf_up (f 3) (f 4 0) d := by unfold addF; rw [mf_sF_n (by decide), mf_sF_s]
  unfold relF at hr ⊢
  rw [a4, a0, a1, a2, a3] at hr
  rw [e4, e0, e1, e2, e3]
  exact hr
theorem FInv_add {f q : mf_V} {x y w d : Int} (hF : FInv f) (h : AddP f q x y w d) (hk : kAdd f x y w d = 0) : FInv q := by
  have hc : cellP x y ∧ (1 ≤ w ∧ w ≤ 24 - x) ∧ 1 ≤ d ∧ d ≤ 16 - y := Classical.byContradiction fun z => by
    unfold kAdd at hk
    rw [mf_if_t z] at hk
    omega
  obtain ⟨e0, e1, e2, e3, e4⟩ := h
  intro k h0 h1
  rw [e4] at h1
  rw [e0, e1, e2, e3]
  by_cases z : k = f 4 0
  · rw [z, mf_up_s, mf_up_s, mf_up_s, mf_up_s]; omega
  · rw [mf_up_n z, mf_up_n z, mf_up_n z, mf_up_n z]; exact hF k h0 (by omega)
theorem LI_f0 {r : mf_V} {k : Nat} {f : Int → Int} (h6 : k ≠ 6) (h7 : k ≠ 7) (h10 : k ≠ 10) (h11 : k ≠ 11) (h12 : k ≠ 12) (h13 : k ≠ 13) (hI : RInv r) : RInv (mf_sF r k f) := RInv_cg (mf_sF_n (Ne.symm h6)) (mf_sF_n (Ne.symm h7)) (mf_sF_n (Ne.symm h10)) (mf_sF_n (Ne.symm h11)) (mf_sF_n (Ne.symm h12)) (mf_sF_n (Ne.symm h13)) hI
theorem bdP_f {r : mf_V} {Y : Int} {k : Nat} {f : Int → Int} (h8 : 8 ≠ k) (h9 : 9 ≠ k) (h1 : 1 ≠ k) (h : bdP r Y) : bdP (mf_sF r k f) (Y + 101) := by
  have g := bdP_mono h (show Y ≤ Y + 101 by omega)
  unfold bdP at g ⊢
  rw [mf_sF_n h8, mf_sF_n h9, mf_sF_n h1]
  exact g
theorem mf_exI {P : Prop} {Q : Int → Prop} (h : P → ∃ v, Q v) : ∃ v, P → Q v := by
  by_cases k : P
  · obtain ⟨v, hv⟩ := h k; exact ⟨v, fun _ => hv⟩
  · exact ⟨0, fun z => absurd z k⟩
theorem mf_exV {P : Prop} {Q : mf_V → Prop} (h : P → ∃ v, Q v) : ∃ v, P → Q v := by
  by_cases k : P
  · obtain ⟨v, hv⟩ := h k; exact ⟨v, fun _ => hv⟩
  · exact ⟨fun _ _ => 0, fun z => absurd z k⟩
theorem mf_exC {P : Prop} {Q : (Int → mf_V) → Prop} (h : P → ∃ v, Q v) : ∃ v, P → Q v := by
  by_cases k : P
  · obtain ⟨v, hv⟩ := h k; exact ⟨v, fun _ => hv⟩
  · exact ⟨fun _ _ _ => 0, fun z => absurd z k⟩
theorem mf_exF {P : Prop} {Q : (Int → Int) → Prop} (h : P → ∃ v, Q v) : ∃ v, P → Q v := by
  by_cases k : P
  · obtain ⟨v, hv⟩ := h k; exact ⟨v, fun _ => hv⟩
  · exact ⟨fun _ => 0, fun z => absurd z k⟩
theorem kRng_0 {a b w : Int} (h : kRng a b w = 0) : a ≤ w ∧ w ≤ b := Classical.byContradiction fun z => by
  unfold kRng at h
  rw [mf_if_t z] at h
  omega
theorem kRng_i {a b w : Int} (h0 : a ≤ w) (h1 : w ≤ b) : kRng a b w = 0 := mf_if_f (fun z => z ⟨h0, h1⟩)
theorem vNeck_rC (r q : mf_V) (w : Int) : vNeck (rC r) q w = vNeck r q w := rfl
theorem mf_dcmpA : ∀ n : Fin 151, FP.dcmp (FP.ddiv (FP.i2d (iI ((n.1 : Nat) : Int))) 4627448617123184640) (FP.ddiv (FP.i2d (iI ((n.1 : Nat) : Int))) 4627448617123184640) = some Ordering.eq := by decide +kernel
theorem mf_dcmp {z : Int} (h0 : 0 ≤ z) (h1 : z ≤ 150) : Op.cmpValue (FP.dcmp (FP.ddiv (FP.i2d (iI z)) 4627448617123184640) (FP.ddiv (FP.i2d (iI z)) 4627448617123184640)) .l = iI 0 := by
  obtain ⟨n, rfl⟩ := Int.eq_ofNat_of_zero_le h0
  rw [mf_dcmpA ⟨n, by omega⟩]
  rfl
