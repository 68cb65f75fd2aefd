/-! 68.lawhead: the law's own rows, and what holds all through it -/
theorem wrVx {G : mf_G} {s : State} {H : Heap} {locs : List Loc} {ws wc : va_W} {A : Nat → Prop} {As : List Value} {b ci : Nat} {q : vw_C} {fs : List Value} (hSX : SX s) (hCX : CX s) (hZ : ZX A s s.heap) (hS : va_S A s.heap H locs) (hF : ∀ q, va_A wc H.size q → A q) (hK : va_K G.1 vwCl (mf_ty G) s) (hP : va_P G.1 vwCl ws H) (hD : va_D A ws) (hN : NW s) (is : List Nat) (hn : va_nd is = true) (hs : is.filterMap (fun i => ws[i]?) = wc) (hm : is.map (fun i => ws[i]?) = wc.map some) (hc : vwCl[ci]? = some q) (he : wc[0]? = some (b, .inr (ci, fs))) : PreV s H q.1 b (va_Pc (.ref b :: As) (WrPx G wc H.size)) As :=
  ⟨wrPx_blind, va_recv hK (hP.sub is hs) hc he, fun U hU hW => ⟨rfl, by rw [hU], by rw [hU]; exact hP.sub is hs, va_K.moved hW.alike hK, (hD.sub is hn hm).weaken (fun _ _ _ _ => trivial), hN.warm hW, hSX.warm hW, hCX.warm hW, by rw [hU]; exact ((hZ.kept hS.2.1).moved hW.alike).narrow hF⟩⟩
/-- the script's int at a place -/
def sI (xs : Nat → Int32) (z : Int) : Int := (xs z.toNat).toInt
theorem sI_b (xs : Nat → Int32) (z : Int) : -2147483648 ≤ sI xs z ∧ sI xs z < 2147483648 := by
  have h := i32_of (xs z.toNat)
  exact ⟨h.1, h.2⟩
section MFS
variable {p : Program} {l : Launch} {e : Env} {R : Room} {s : State} {m : MethodId} {args : Array Value} {below : List Frame} {meth : Method} {c : Code} {H : Heap} {locs : List Loc} {cells slots : Nat} {Q : State → Prop}
variable {cc : ByteArray} {pc : Nat} {ls : Array Slot} {rest : List Value}
theorem mf_sld (hx : p.tables.exec = Jvm.exec) (hb : c.code = cc) {b L : Nat} {xs : Nat → Int32} {A : Nat → Prop} {H0 : Heap} (hX : va_X b L xs s H0) (hbl : b < H0.size) (hbA : ¬ A b) (hS : va_S A H0 H locs) {z : Int} (h0 : 0 ≤ z) (h1 : z < L) (hL : L < 2147483648) (hd : decode cc pc = .ok (.iaload, 1))
    (k : W p l e R s m args below meth c H locs cells slots Q (F0 m (pc + 1) ls (.int (iI (sI xs z)) :: rest))) : W p l e R s m args below meth c H locs cells slots Q (F0 m pc ls (.int (iI z) :: .ref b :: rest)) :=
  va_sld hx hb hX hbl hbA hS (iI_in h0 h1 hL) hd (by
    rw [iI_cl h0 (by omega)]
    rw [show iI (sI xs z) = xs z.toNat from iI_of _] at k
    exact k)
theorem mf_slen (hx : p.tables.exec = Jvm.exec) (hb : c.code = cc) {b L : Nat} {xs : Nat → Int32} {A : Nat → Prop} {H0 : Heap} (hX : va_X b L xs s H0) (hbl : b < H0.size) (hbA : ¬ A b) (hS : va_S A H0 H locs) (hd : decode cc pc = .ok (.arraylength, 1))
    (k : W p l e R s m args below meth c H locs cells slots Q (F0 m (pc + 1) ls (.int (iI (L : Int)) :: rest))) : W p l e R s m args below meth c H locs cells slots Q (F0 m pc ls (.ref b :: rest)) :=
  va_slen hx hb hX hbl hbA hS hd k
theorem mf_nmw {x : Int32} (k : ∀ y : Int, (-2147483648 ≤ y ∧ y < 2147483648) → W p l e R s m args below meth c H locs cells slots Q (F0 m pc ls (.int (iI y) :: rest))) : W p l e R s m args below meth c H locs cells slots Q (F0 m pc ls (.int x :: rest)) := by
  have g := k x.toInt (i32_of x)
  rw [iI_of] at g
  exact g
theorem mf_andM (hx : p.tables.exec = Jvm.exec) (hb : c.code = cc) {z : Int} (hd : decode cc pc = .ok (.iand, 1))
    (k : ∀ y : Int, (0 ≤ y ∧ y ≤ 2147483647) → W p l e R s m args below meth c H locs cells slots Q (F0 m (pc + 1) ls (.int (iI y) :: rest))) : W p l e R s m args below meth c H locs cells slots Q (F0 m pc ls (.int (iI 2147483647) :: .int (iI z) :: rest)) := by
  refine lv_iand hx hb hd ?_
  have h : 0 ≤ (iI z &&& iI 2147483647).toInt ∧ (iI z &&& iI 2147483647).toInt ≤ 2147483647 := by
    show 0 ≤ (iI z &&& iI 2147483647).toBitVec.toInt ∧ (iI z &&& iI 2147483647).toBitVec.toInt ≤ 2147483647
    have hn : ((iI z &&& iI 2147483647).toBitVec).toNat ≤ 2147483647 := by
      rw [Int32.toBitVec_and, BitVec.toNat_and]
      exact Nat.and_le_right
    rw [BitVec.toInt_eq_toNat_cond]
    split <;> omega
  have g := k (iI z &&& iI 2147483647).toInt h
  rw [iI_of] at g
  exact g
end MFS
theorem va_X_lt {b L : Nat} {xs : Nat → Int32} {U : State} {H : Heap} (h : va_X b L xs U H) : b < H.size := by
  obtain ⟨scr, h1, -⟩ := h
  exact (Array.getElem?_eq_some_iff.mp h1).1
theorem scr_blind {b L : Nat} {xs : Nat → Int32} {av : List Value} : FrameBlind (va_Pc av (fun U => va_X b L xs U U.heap)) := fun a U g mk q => ⟨q.1, va_X.moved (u := U) (U := U.calling g mk a) (Vm.Alike.refl U.vm) q.2⟩
theorem scrS {s : State} {H : Heap} {locs : List Loc} {A : Nat → Prop} {As : List Value} {b L : Nat} {xs : Nat → Int32} (hX : va_X b L xs s s.heap) (hbl : b < s.heap.size) (hbA : ¬ A b) (hS : va_S A s.heap H locs) : PreS s H (va_Pc As (fun U => va_X b L xs U U.heap)) As :=
  ⟨scr_blind, fun U hU hW => ⟨rfl, by show va_X b L xs U U.heap; rw [hU]; exact (hX.kept (hS.2.1 b hbl hbA)).moved hW.alike⟩⟩
theorem wrSx {G : mf_G} {s : State} {H : Heap} {locs : List Loc} {ws wc : va_W} {A : Nat → Prop} {As : List Value} (hSX : SX s) (hCX : CX s) (hZ : ZX A s s.heap) (hS : va_S A s.heap H locs) (hF : ∀ q, va_A wc H.size q → A q) (hK : va_K G.1 vwCl (mf_ty G) s) (hP : va_P G.1 vwCl ws H) (hD : va_D A ws) (hN : NW s) (is : List Nat) (hn : va_nd is = true) (hs : is.filterMap (fun i => ws[i]?) = wc) (hm : is.map (fun i => ws[i]?) = wc.map some) : PreS s H (va_Pc As (WrPx G wc H.size)) As :=
  ⟨wrPx_blind, fun U hU hW => ⟨rfl, by rw [hU], by rw [hU]; exact hP.sub is hs, va_K.moved hW.alike hK, (hD.sub is hn hm).weaken (fun _ _ _ _ => trivial), hN.warm hW, hSX.warm hW, hCX.warm hW, by rw [hU]; exact ((hZ.kept hS.2.1).moved hW.alike).narrow hF⟩⟩
/-- .. and the script, which lies outside -/
def WrPs (G : mf_G) (b L : Nat) (xs : Nat → Int32) (ws : va_W) (sz : Nat) (U : State) : Prop := U.heap.size = sz ∧ va_P G.1 vwCl ws U.heap ∧ va_K G.1 vwCl (mf_ty G) U ∧ va_D (fun _ => True) ws ∧ NW U ∧ SX U ∧ CX U ∧ ZX (va_A ws sz) U U.heap ∧ va_X b L xs U U.heap ∧ ¬ va_A ws sz b
theorem wrPs_blind {G : mf_G} {b L : Nat} {xs : Nat → Int32} {ws : va_W} {sz : Nat} {av : List Value} : FrameBlind (va_Pc av (WrPs G b L xs ws sz)) := fun a U g mk q => by
  obtain ⟨q0, q1, qP, qK, qD, qN, qS, qC, qZ, qX, qb⟩ := q
  exact ⟨q0, q1, qP, va_K.moved (u := U) (U := U.calling g mk a) (Vm.Alike.refl U.vm) qK, qD, NW.same (U := U.calling g mk a) rfl qN, SX.same (U := U.calling g mk a) rfl qS, CX.same (U := U.calling g mk a) rfl qC, ZX.moved (u := U) (U := U.calling g mk a) (Vm.Alike.refl U.vm) qZ, va_X.moved (u := U) (U := U.calling g mk a) (Vm.Alike.refl U.vm) qX, qb⟩
theorem wrSs {G : mf_G} {s : State} {H : Heap} {locs : List Loc} {ws wc : va_W} {A : Nat → Prop} {As : List Value} {b L : Nat} {xs : Nat → Int32} (hSX : SX s) (hCX : CX s) (hZ : ZX A s s.heap) (hS : va_S A s.heap H locs) (hF : ∀ q, va_A wc H.size q → A q) (hX : va_X b L xs s s.heap) (hbl : b < s.heap.size) (hbA : ¬ A b) (hK : va_K G.1 vwCl (mf_ty G) s) (hP : va_P G.1 vwCl ws H) (hD : va_D A ws) (hN : NW s) (is : List Nat) (hn : va_nd is = true) (hs : is.filterMap (fun i => ws[i]?) = wc) (hm : is.map (fun i => ws[i]?) = wc.map some) : PreS s H (va_Pc As (WrPs G b L xs wc H.size)) As :=
  ⟨wrPs_blind, fun U hU hW => ⟨rfl, by rw [hU], by rw [hU]; exact hP.sub is hs, va_K.moved hW.alike hK, (hD.sub is hn hm).weaken (fun _ _ _ _ => trivial), hN.warm hW, hSX.warm hW, hCX.warm hW, by rw [hU]; exact ((hZ.kept hS.2.1).moved hW.alike).narrow hF, by rw [hU]; exact (hX.kept (hS.2.1 b hbl hbA)).moved hW.alike, fun h => hbA (hF b h)⟩⟩
theorem bdP_mono {r : mf_V} {Y Z : Int} (h : bdP r Y) (hZ : Y ≤ Z) : bdP r Z := ⟨by have := h.1; omega, by have := h.2.1; omega, fun c => by have := h.2.2 c; omega⟩
theorem Bul_bd {r q : mf_V} {i t Y : Int} (hY : 0 ≤ Y) (h : Bul r i t q) (hB : bdP r Y) : bdP q (Y + 1) := by
  obtain ⟨-, -, hc, -, -, -, h8, h9⟩ := h
  obtain ⟨b8, b9, bc⟩ := hB
  refine ⟨by rw [h8]; omega, by rw [h9]; omega, fun c => ?_⟩
  by_cases y : hitB r i t c
  · rw [((hc c).1 y).1]; omega
  · rw [((hc c).2 y).1]; have := bc c; omega
theorem Brk_bd {r q : mf_V} {i j Y : Int} (h : Brk r i j q) (hB : bdP r Y) : bdP q (Y + 1) := by
  obtain ⟨-, -, -, h9, -, h1, -, -, -, h8⟩ := h
  obtain ⟨b8, b9, bc⟩ := hB
  exact ⟨by rw [h8]; omega, by rw [h9]; omega, fun c => by rw [h1]; have := bc c; omega⟩
/-- what holds between two steps of the law -/
def LQs (Y : Int) (x r ra f : mf_V) (nn : Nat) (u : mf_V) : Prop := (rOK xlo xhi x ∧ rOK rlo rhi r ∧ rOK rlo rhi ra ∧ rOK flo fhi f) ∧ PInv r ∧ bdP r Y ∧ rOK slo shi u ∧ relS r nn u
theorem PInv_f {r : mf_V} {k : Nat} {g : Int → Int} (hk : k = 0 ∨ k = 2 ∨ k = 5) (h : PInv r) : PInv (mf_sF r k g) := by
  have n : ∀ j, j ≠ 0 → j ≠ 2 → j ≠ 5 → mf_sF r k g j = r j := fun j a b c => mf_sF_n (by omega)
  exact PInv_cg (n 3 (by decide) (by decide) (by decide)) (n 6 (by decide) (by decide) (by decide)) (n 7 (by decide) (by decide) (by decide)) (n 8 (by decide) (by decide) (by decide)) (n 10 (by decide) (by decide) (by decide)) (n 11 (by decide) (by decide) (by decide)) (n 12 (by decide) (by decide) (by decide)) (n 13 (by decide) (by decide) (by decide)) h
theorem bdP_f' {r : mf_V} {k : Nat} {g : Int → Int} {Y : Int} (hk : k = 0 ∨ k = 2 ∨ k = 5) (h : bdP r Y) : bdP (mf_sF r k g) Y := by
  obtain ⟨a, b, c⟩ := h
  exact ⟨by rw [mf_sF_n (by omega)]; exact a, by rw [mf_sF_n (by omega)]; exact b, by rw [mf_sF_n (by omega)]; exact c⟩
theorem relS_0 {r u w : mf_V} {n : Nat} {c v : Int} (hrel : relS r n u) (f1 : w 3 c = v) (f2 : ∀ y, y ≠ c → w 3 y = u 3 y) (f3 : ∀ k, k ≠ 3 → w k = u k) : relS (mf_sF r 0 (mf_up (r 0) c v)) n w := by
  obtain ⟨e9, e0, e1, e2, e3, e4, e5, e7, e8⟩ := hrel
  refine ⟨by rw [mf_sF_n (by decide)]; exact e9, by rw [f3 0 (by decide), mf_sF_n (by decide)]; exact e0, by rw [f3 1 (by decide), mf_sF_n (by decide)]; exact e1, fun z z0 z1 => by rw [mf_sF_n (by decide)] at z1; rw [f3 2 (by decide), mf_sF_n (by decide)]; exact e2 z z0 z1, fun z z0 z1 => ?_, fun z z0 z1 => by rw [f3 4 (by decide), mf_sF_n (by decide)]; exact e4 z z0 z1, fun z z0 z1 => by rw [f3 5 (by decide), mf_sF_n (by decide)]; exact e5 z z0 z1, fun z z0 z1 => by rw [f3 7 (by decide), mf_sF_n (by decide)]; exact e7 z z0 z1, fun z z0 z1 => by rw [f3 8 (by decide)]; show u 8 z = mf_sF r 0 _ 10 z + 1; rw [mf_sF_n (by decide)]; exact e8 z z0 z1⟩
  rw [mf_sF_s]
  by_cases y : z = c
  · rw [y, f1, mf_up_s]
  · rw [f2 z y, mf_up_n y]; exact e3 z z0 z1
theorem relS_2 {r u w : mf_V} {n : Nat} {c v : Int} (hrel : relS r n u) (f1 : w 4 c = v) (f2 : ∀ y, y ≠ c → w 4 y = u 4 y) (f3 : ∀ k, k ≠ 4 → w k = u k) : relS (mf_sF r 2 (mf_up (r 2) c v)) n w := by
  obtain ⟨e9, e0, e1, e2, e3, e4, e5, e7, e8⟩ := hrel
  refine ⟨by rw [mf_sF_n (by decide)]; exact e9, by rw [f3 0 (by decide), mf_sF_n (by decide)]; exact e0, by rw [f3 1 (by decide), mf_sF_n (by decide)]; exact e1, fun z z0 z1 => by rw [mf_sF_n (by decide)] at z1; rw [f3 2 (by decide), mf_sF_n (by decide)]; exact e2 z z0 z1, fun z z0 z1 => by rw [f3 3 (by decide), mf_sF_n (by decide)]; exact e3 z z0 z1, fun z z0 z1 => ?_, fun z z0 z1 => by rw [f3 5 (by decide), mf_sF_n (by decide)]; exact e5 z z0 z1, fun z z0 z1 => by rw [f3 7 (by decide), mf_sF_n (by decide)]; exact e7 z z0 z1, fun z z0 z1 => by rw [f3 8 (by decide)]; show u 8 z = mf_sF r 2 _ 10 z + 1; rw [mf_sF_n (by decide)]; exact e8 z z0 z1⟩
  rw [mf_sF_s]
  by_cases y : z = c
  · rw [y, f1, mf_up_s]
  · rw [f2 z y, mf_up_n y]; exact e4 z z0 z1
theorem relS_5 {r u w : mf_V} {n : Nat} {c v : Int} (hrel : relS r n u) (f1 : w 7 c = v) (f2 : ∀ y, y ≠ c → w 7 y = u 7 y) (f3 : ∀ k, k ≠ 7 → w k = u k) : relS (mf_sF r 5 (mf_up (r 5) c v)) n w := by
  obtain ⟨e9, e0, e1, e2, e3, e4, e5, e7, e8⟩ := hrel
  refine ⟨by rw [mf_sF_n (by decide)]; exact e9, by rw [f3 0 (by decide), mf_sF_n (by decide)]; exact e0, by rw [f3 1 (by decide), mf_sF_n (by decide)]; exact e1, fun z z0 z1 => by rw [mf_sF_n (by decide)] at z1; rw [f3 2 (by decide), mf_sF_n (by decide)]; exact e2 z z0 z1, fun z z0 z1 => by rw [f3 3 (by decide), mf_sF_n (by decide)]; exact e3 z z0 z1, fun z z0 z1 => by rw [f3 4 (by decide), mf_sF_n (by decide)]; exact e4 z z0 z1, fun z z0 z1 => by rw [f3 5 (by decide), mf_sF_n (by decide)]; exact e5 z z0 z1, fun z z0 z1 => ?_, fun z z0 z1 => by rw [f3 8 (by decide)]; show u 8 z = mf_sF r 5 _ 10 z + 1; rw [mf_sF_n (by decide)]; exact e8 z z0 z1⟩
  rw [mf_sF_s]
  by_cases y : z = c
  · rw [y, f1, mf_up_s]
  · rw [f2 z y, mf_up_n y]; exact e7 z z0 z1
theorem LQs_0 {Y : Int} {x r ra f u x' ra' w : mf_V} {n : Nat} {c v : Int} (h : LQs Y x r ra f n u) (ok : rOK xlo xhi x' ∧ rOK rlo rhi (mf_sF r 0 (mf_up (r 0) c v)) ∧ rOK rlo rhi ra' ∧ rOK flo fhi f) (okw : rOK slo shi w) (f1 : w 3 c = v) (f2 : ∀ y, y ≠ c → w 3 y = u 3 y) (f3 : ∀ k, k ≠ 3 → w k = u k) : LQs Y x' (mf_sF r 0 (mf_up (r 0) c v)) ra' f n w :=
  ⟨ok, PInv_f (Or.inl rfl) h.2.1, bdP_f' (Or.inl rfl) h.2.2.1, okw, relS_0 h.2.2.2.2 f1 f2 f3⟩
theorem LQs_2 {Y : Int} {x r ra f u x' ra' w : mf_V} {n : Nat} {c v : Int} (h : LQs Y x r ra f n u) (ok : rOK xlo xhi x' ∧ rOK rlo rhi (mf_sF r 2 (mf_up (r 2) c v)) ∧ rOK rlo rhi ra' ∧ rOK flo fhi f) (okw : rOK slo shi w) (f1 : w 4 c = v) (f2 : ∀ y, y ≠ c → w 4 y = u 4 y) (f3 : ∀ k, k ≠ 4 → w k = u k) : LQs Y x' (mf_sF r 2 (mf_up (r 2) c v)) ra' f n w :=
  ⟨ok, PInv_f (Or.inr (Or.inl rfl)) h.2.1, bdP_f' (Or.inr (Or.inl rfl)) h.2.2.1, okw, relS_2 h.2.2.2.2 f1 f2 f3⟩
theorem LQs_5 {Y : Int} {x r ra f u x' ra' w : mf_V} {n : Nat} {c v : Int} (h : LQs Y x r ra f n u) (ok : rOK xlo xhi x' ∧ rOK rlo rhi (mf_sF r 5 (mf_up (r 5) c v)) ∧ rOK rlo rhi ra' ∧ rOK flo fhi f) (okw : rOK slo shi w) (f1 : w 7 c = v) (f2 : ∀ y, y ≠ c → w 7 y = u 7 y) (f3 : ∀ k, k ≠ 7 → w k = u k) : LQs Y x' (mf_sF r 5 (mf_up (r 5) c v)) ra' f n w :=
  ⟨ok, PInv_f (Or.inr (Or.inr rfl)) h.2.1, bdP_f' (Or.inr (Or.inr rfl)) h.2.2.1, okw, relS_5 h.2.2.2.2 f1 f2 f3⟩
theorem LQs_mono {Y Z : Int} {x r ra f u : mf_V} {n : Nat} (h : LQs Y x r ra f n u) (hZ : Y ≤ Z) : LQs Z x r ra f n u := ⟨h.1, h.2.1, bdP_mono h.2.2.1 hZ, h.2.2.2⟩
theorem stonesS {r u : mf_V} {n : Nat} (h : relS r n u) : msum (fun c => bP (¬ u 4 c = 0)) 384 = stonesF r := by
  unfold stonesF
  exact msum_cg (by decide) (fun z z0 z1 => by show bP (¬ u 4 z = 0) = bP (¬ r 2 z = 0); rw [rel4 h z0 z1])
