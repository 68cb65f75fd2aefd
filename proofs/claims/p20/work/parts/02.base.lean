/-! 02.base: ints by their Int values, rows of instructions over such, worlds -/
/-- an Int32 by its Int value -/
def iI (z : Int) : Int32 := Int32.ofInt z
/-- an Int64 by its Int value -/
def lI (z : Int) : Int64 := Int64.ofInt z
def i32 (z : Int) : Prop := -2147483648 ≤ z ∧ z < 2147483648
theorem i32_mk {z : Int} (h1 : -2147483648 ≤ z) (h2 : z < 2147483648) : i32 z := ⟨h1, h2⟩
theorem iI_toInt {z : Int} (h : i32 z) : (iI z).toInt = z := by
  unfold iI
  rw [Int32.toInt_ofInt, show Int32.size = 4294967296 from rfl]
  exact Int.bmod_eq_of_le (by have := h.1; omega) (by have := h.2; omega)
theorem iI_of (x : Int32) : iI x.toInt = x := Int32.ofInt_toInt x
theorem i32_of (x : Int32) : i32 x.toInt := ⟨Int32.le_toInt x, Int32.toInt_lt x⟩
theorem iI_add (a b : Int) : iI (a + b) = iI a + iI b := Int32.ofInt_add a b
theorem iI_sub (a b : Int) : iI (a - b) = iI a - iI b := Int32.ofInt_sub a b
theorem iI_mul (a b : Int) : iI (a * b) = iI a * iI b := Int32.ofInt_mul a b
theorem iI_neg (a : Int) : iI (-a) = -iI a := Int32.ofInt_neg a
theorem iI_0 : iI 0 = 0 := rfl
theorem iI_1 : iI 1 = 1 := rfl
theorem iI_lt {a b : Int} (ha : i32 a) (hb : i32 b) : iI a < iI b ↔ a < b := by rw [Int32.lt_iff_toInt_lt, iI_toInt ha, iI_toInt hb]
theorem iI_le {a b : Int} (ha : i32 a) (hb : i32 b) : iI a ≤ iI b ↔ a ≤ b := by rw [Int32.le_iff_toInt_le, iI_toInt ha, iI_toInt hb]
theorem iI_eq {a b : Int} (ha : i32 a) (hb : i32 b) : iI a = iI b ↔ a = b := by rw [← Int32.toInt_inj, iI_toInt ha, iI_toInt hb]
theorem i32_0 : i32 0 := by unfold i32; omega
theorem iI_cl {z : Int} (h0 : 0 ≤ z) (h1 : z < 2147483648) : (iI z).toNatClampNeg = z.toNat := by
  unfold Int32.toNatClampNeg
  rw [iI_toInt (i32_mk (by omega) h1)]
theorem iI_in {z : Int} {n : Nat} (h0 : 0 ≤ z) (h1 : z < n) (hn : n < 2147483648) : vp_in (iI z) n := by
  rw [vp_in_iff, iI_toInt (i32_mk (by omega) (by omega))]
  exact ⟨h0, h1⟩
theorem iI_nat {z : Int} (h : i32 z) (h0 : 0 ≤ z) : iI z = nI z.toNat := by
  obtain ⟨n, rfl⟩ := Int.eq_ofNat_of_zero_le h0
  rw [Int.toNat_natCast]
  unfold iI nI
  exact Int32.ofInt_eq_ofNat
theorem nI_iI (n : Nat) : nI n = iI n := Int32.ofInt_eq_ofNat.symm
/-- a row of ints by a function on Int -/
def ia (f : Int → Int) : Nat → Int32 := fun j => iI (f j)
def mf_up (f : Int → Int) (k v : Int) : Int → Int := fun j => if j = k then v else f j
theorem mf_up_s {f : Int → Int} {k v : Int} : mf_up f k v k = v := if_pos rfl
theorem mf_up_n {f : Int → Int} {k v j : Int} (h : j ≠ k) : mf_up f k v j = f j := if_neg h
theorem ia_rd (f : Int → Int) {z : Int} (h0 : 0 ≤ z) (h1 : z < 2147483648) : ia f (iI z).toNatClampNeg = iI (f z) := by
  unfold ia
  rw [iI_cl h0 h1, Int.toNat_of_nonneg h0]
theorem ia_st (f : Int → Int) {z v : Int} (h0 : 0 ≤ z) (h1 : z < 2147483648) : upd (ia f) (iI z).toNatClampNeg (iI v) = ia (mf_up f z v) := by
  rw [iI_cl h0 h1]
  funext j
  show upd (ia f) z.toNat (iI v) j = iI (mf_up f z v j)
  unfold upd mf_up
  by_cases hj : j = z.toNat
  · have h2 : ((j : Nat) : Int) = z := by omega
    rw [if_pos hj, if_pos h2]
  · have h2 : ¬ ((j : Nat) : Int) = z := by omega
    rw [if_neg hj, if_neg h2]; rfl
theorem ia_0 : (fun _ : Nat => (0 : Int32)) = ia (fun _ => 0) := rfl
/-- a condition as an int -/
noncomputable def bP (P : Prop) : Int := @ite Int P (Classical.propDecidable P) 1 0
theorem bP_t {P : Prop} (h : P) : bP P = 1 := by unfold bP; exact if_pos h
theorem bP_f {P : Prop} (h : ¬ P) : bP P = 0 := by unfold bP; exact if_neg h
theorem bP_01 (P : Prop) : 0 ≤ bP P ∧ bP P ≤ 1 := by
  by_cases h : P
  · rw [bP_t h]; omega
  · rw [bP_f h]; omega
theorem bP_32 (P : Prop) : i32 (bP P) := by have := bP_01 P; exact ⟨by omega, by omega⟩
theorem bP_0 {P : Prop} : bP P = 0 ↔ ¬ P := ⟨fun h q => by rw [bP_t q] at h; omega, bP_f⟩
theorem bP_1 {P : Prop} : bP P = 1 ↔ P := ⟨fun h => Classical.byContradiction fun q => by rw [bP_f q] at h; omega, bP_t⟩
theorem bP_n0 {P : Prop} (h : ¬ bP P = 0) : P := Classical.byContradiction fun q => h (bP_f q)
theorem bP_cg {P Q : Prop} (h : P ↔ Q) : bP P = bP Q := by rw [propext h]
section MFR
variable {p : Program} {l : Launch} {e : Env} {R : Room} {s : State} {m : MethodId} {args : Array Value} {below : List Frame} {meth : Method} {c : Code} {H : Heap} {locs : List Loc} {cells slots : Nat} {Q : State → Prop}
variable {cc : ByteArray} {pc : Nat} {ls : Array Slot} {rest : List Value}
theorem mf_iconst (hx : p.tables.exec = Jvm.exec) (hb : c.code = cc) {n : Int} (hd : decode cc pc = .ok (.iconst n, 1)) (k : W p l e R s m args below meth c H locs cells slots Q (F0 m (pc + 1) ls (.int (iI n) :: rest))) : W p l e R s m args below meth c H locs cells slots Q (F0 m pc ls rest) := lv_iconst (v := iI n) hx hb hd rfl k
theorem mf_bipush (hx : p.tables.exec = Jvm.exec) (hb : c.code = cc) {n : Int} (hd : decode cc pc = .ok (.bipush n, 2)) (hv : (Int8.ofInt n).toInt32 = iI n) (k : W p l e R s m args below meth c H locs cells slots Q (F0 m (pc + 2) ls (.int (iI n) :: rest))) : W p l e R s m args below meth c H locs cells slots Q (F0 m pc ls rest) := lv_bipush (v := iI n) hx hb hd hv k
theorem mf_sipush (hx : p.tables.exec = Jvm.exec) (hb : c.code = cc) {n : Int} (hd : decode cc pc = .ok (.sipush n, 3)) (hv : (Int16.ofInt n).toInt32 = iI n) (k : W p l e R s m args below meth c H locs cells slots Q (F0 m (pc + 3) ls (.int (iI n) :: rest))) : W p l e R s m args below meth c H locs cells slots Q (F0 m pc ls rest) := lv_sipush (v := iI n) hx hb hd hv k
theorem mf_iadd (hx : p.tables.exec = Jvm.exec) (hb : c.code = cc) {x y : Int} (hd : decode cc pc = .ok (.iadd, 1)) (k : W p l e R s m args below meth c H locs cells slots Q (F0 m (pc + 1) ls (.int (iI (x + y)) :: rest))) : W p l e R s m args below meth c H locs cells slots Q (F0 m pc ls (.int (iI y) :: .int (iI x) :: rest)) := lv_iadd hx hb hd (by rw [← iI_add]; exact k)
theorem mf_isub (hx : p.tables.exec = Jvm.exec) (hb : c.code = cc) {x y : Int} (hd : decode cc pc = .ok (.isub, 1)) (k : W p l e R s m args below meth c H locs cells slots Q (F0 m (pc + 1) ls (.int (iI (x - y)) :: rest))) : W p l e R s m args below meth c H locs cells slots Q (F0 m pc ls (.int (iI y) :: .int (iI x) :: rest)) := lv_isub hx hb hd (by rw [← iI_sub]; exact k)
theorem mf_imul (hx : p.tables.exec = Jvm.exec) (hb : c.code = cc) {x y : Int} (hd : decode cc pc = .ok (.imul, 1)) (k : W p l e R s m args below meth c H locs cells slots Q (F0 m (pc + 1) ls (.int (iI (x * y)) :: rest))) : W p l e R s m args below meth c H locs cells slots Q (F0 m pc ls (.int (iI y) :: .int (iI x) :: rest)) := lv_imul hx hb hd (by rw [← iI_mul]; exact k)
theorem iI_div {x y : Int} (hx : i32 x) (hx0 : 0 ≤ x) (hy : i32 y) (hy0 : 0 < y) : iI x / iI y = iI (x / y) := by
  rw [iI_nat hx hx0, iI_nat hy (by omega), pk_div (by have := hx.2; omega) (by omega) (by have := hy.2; omega), nI_iI]
  congr 1
  rw [Int.natCast_ediv, Int.toNat_of_nonneg hx0, Int.toNat_of_nonneg (by omega)]
theorem iI_rem {x y : Int} (hx : i32 x) (hx0 : 0 ≤ x) (hy : i32 y) (hy0 : 0 < y) : iI x - iI x / iI y * iI y = iI (x % y) := by
  rw [iI_div hx hx0 hy hy0, ← iI_mul, ← iI_sub]
  congr 1
  have := Int.emod_add_mul_ediv x y
  rw [Int.mul_comm] at this
  omega
theorem mf_idiv (hx : p.tables.exec = Jvm.exec) (hb : c.code = cc) {x y : Int} (hd : decode cc pc = .ok (.idiv, 1)) (h1 : i32 x) (h2 : 0 ≤ x) (h3 : i32 y) (h4 : 0 < y) (k : W p l e R s m args below meth c H locs cells slots Q (F0 m (pc + 1) ls (.int (iI (x / y)) :: rest))) : W p l e R s m args below meth c H locs cells slots Q (F0 m pc ls (.int (iI y) :: .int (iI x) :: rest)) := lv_idiv hx hb hd (fun q => by have := (iI_eq h3 i32_0).mp q; omega) (by rw [iI_div h1 h2 h3 h4]; exact k)
theorem mf_irem (hx : p.tables.exec = Jvm.exec) (hb : c.code = cc) {x y : Int} (hd : decode cc pc = .ok (.irem, 1)) (h1 : i32 x) (h2 : 0 ≤ x) (h3 : i32 y) (h4 : 0 < y) (k : W p l e R s m args below meth c H locs cells slots Q (F0 m (pc + 1) ls (.int (iI (x % y)) :: rest))) : W p l e R s m args below meth c H locs cells slots Q (F0 m pc ls (.int (iI y) :: .int (iI x) :: rest)) := lv_irem hx hb hd (fun q => by have := (iI_eq h3 i32_0).mp q; omega) (by rw [iI_rem h1 h2 h3 h4]; exact k)
theorem mf_top (x y : Int) (h : x = y) (k : W p l e R s m args below meth c H locs cells slots Q (F0 m pc ls (.int (iI y) :: rest))) : W p l e R s m args below meth c H locs cells slots Q (F0 m pc ls (.int (iI x) :: rest)) := by rw [h]; exact k
theorem mf_nm {x : Int} (k : ∀ y : Int, y = x → W p l e R s m args below meth c H locs cells slots Q (F0 m pc ls (.int (iI y) :: rest))) : W p l e R s m args below meth c H locs cells slots Q (F0 m pc ls (.int (iI x) :: rest)) := k x rfl
theorem mf_icmp_eq (hx : p.tables.exec = Jvm.exec) (hb : c.code = cc) {x y : Int} {off : Int} {tgt : Nat} (hd : decode cc pc = .ok (.if_icmp .eq off, 3)) (ht : (pc : Int) + off = (tgt : Int)) (h1 : i32 x) (h2 : i32 y)
    (kt : x = y → W p l e R s m args below meth c H locs cells slots Q (F0 m tgt ls rest)) (kf : ¬ x = y → W p l e R s m args below meth c H locs cells slots Q (F0 m (pc + 3) ls rest)) : W p l e R s m args below meth c H locs cells slots Q (F0 m pc ls (.int (iI y) :: .int (iI x) :: rest)) := lv_icmp_eq hx hb hd ht (fun q => kt ((iI_eq h1 h2).mp q)) (fun q => kf (fun z => q ((iI_eq h1 h2).mpr z)))
theorem mf_icmp_ne (hx : p.tables.exec = Jvm.exec) (hb : c.code = cc) {x y : Int} {off : Int} {tgt : Nat} (hd : decode cc pc = .ok (.if_icmp .ne off, 3)) (ht : (pc : Int) + off = (tgt : Int)) (h1 : i32 x) (h2 : i32 y)
    (kt : ¬ x = y → W p l e R s m args below meth c H locs cells slots Q (F0 m tgt ls rest)) (kf : x = y → W p l e R s m args below meth c H locs cells slots Q (F0 m (pc + 3) ls rest)) : W p l e R s m args below meth c H locs cells slots Q (F0 m pc ls (.int (iI y) :: .int (iI x) :: rest)) := lv_icmp_ne hx hb hd ht (fun q => kt (fun z => q ((iI_eq h1 h2).mpr z))) (fun q => kf ((iI_eq h1 h2).mp q))
theorem mf_icmp_lt (hx : p.tables.exec = Jvm.exec) (hb : c.code = cc) {x y : Int} {off : Int} {tgt : Nat} (hd : decode cc pc = .ok (.if_icmp .lt off, 3)) (ht : (pc : Int) + off = (tgt : Int)) (h1 : i32 x) (h2 : i32 y)
    (kt : x < y → W p l e R s m args below meth c H locs cells slots Q (F0 m tgt ls rest)) (kf : y ≤ x → W p l e R s m args below meth c H locs cells slots Q (F0 m (pc + 3) ls rest)) : W p l e R s m args below meth c H locs cells slots Q (F0 m pc ls (.int (iI y) :: .int (iI x) :: rest)) := lv_icmp_lt hx hb hd ht (fun q => kt ((iI_lt h1 h2).mp q)) (fun q => kf (Int.not_lt.mp fun z => q ((iI_lt h1 h2).mpr z)))
theorem mf_icmp_ge (hx : p.tables.exec = Jvm.exec) (hb : c.code = cc) {x y : Int} {off : Int} {tgt : Nat} (hd : decode cc pc = .ok (.if_icmp .ge off, 3)) (ht : (pc : Int) + off = (tgt : Int)) (h1 : i32 x) (h2 : i32 y)
    (kt : y ≤ x → W p l e R s m args below meth c H locs cells slots Q (F0 m tgt ls rest)) (kf : x < y → W p l e R s m args below meth c H locs cells slots Q (F0 m (pc + 3) ls rest)) : W p l e R s m args below meth c H locs cells slots Q (F0 m pc ls (.int (iI y) :: .int (iI x) :: rest)) := lv_icmp_ge hx hb hd ht (fun q => kt ((iI_le h2 h1).mp q)) (fun q => kf (Int.not_le.mp fun z => q ((iI_le h2 h1).mpr z)))
theorem mf_icmp_gt (hx : p.tables.exec = Jvm.exec) (hb : c.code = cc) {x y : Int} {off : Int} {tgt : Nat} (hd : decode cc pc = .ok (.if_icmp .gt off, 3)) (ht : (pc : Int) + off = (tgt : Int)) (h1 : i32 x) (h2 : i32 y)
    (kt : y < x → W p l e R s m args below meth c H locs cells slots Q (F0 m tgt ls rest)) (kf : x ≤ y → W p l e R s m args below meth c H locs cells slots Q (F0 m (pc + 3) ls rest)) : W p l e R s m args below meth c H locs cells slots Q (F0 m pc ls (.int (iI y) :: .int (iI x) :: rest)) := lv_icmp_gt hx hb hd ht (fun q => kt ((iI_lt h2 h1).mp q)) (fun q => kf (Int.not_lt.mp fun z => q ((iI_lt h2 h1).mpr z)))
theorem mf_icmp_le (hx : p.tables.exec = Jvm.exec) (hb : c.code = cc) {x y : Int} {off : Int} {tgt : Nat} (hd : decode cc pc = .ok (.if_icmp .le off, 3)) (ht : (pc : Int) + off = (tgt : Int)) (h1 : i32 x) (h2 : i32 y)
    (kt : x ≤ y → W p l e R s m args below meth c H locs cells slots Q (F0 m tgt ls rest)) (kf : y < x → W p l e R s m args below meth c H locs cells slots Q (F0 m (pc + 3) ls rest)) : W p l e R s m args below meth c H locs cells slots Q (F0 m pc ls (.int (iI y) :: .int (iI x) :: rest)) := lv_icmp_le hx hb hd ht (fun q => kt ((iI_le h1 h2).mp q)) (fun q => kf (Int.not_le.mp fun z => q ((iI_le h1 h2).mpr z)))
theorem mf_if_eq (hx : p.tables.exec = Jvm.exec) (hb : c.code = cc) {x : Int} {off : Int} {tgt : Nat} (hd : decode cc pc = .ok (.ifCond .eq off, 3)) (ht : (pc : Int) + off = (tgt : Int)) (h1 : i32 x)
    (kt : x = 0 → W p l e R s m args below meth c H locs cells slots Q (F0 m tgt ls rest)) (kf : ¬ x = 0 → W p l e R s m args below meth c H locs cells slots Q (F0 m (pc + 3) ls rest)) : W p l e R s m args below meth c H locs cells slots Q (F0 m pc ls (.int (iI x) :: rest)) := lv_if_eq hx hb hd ht (fun q => kt ((iI_eq h1 i32_0).mp q)) (fun q => kf (fun z => q ((iI_eq h1 i32_0).mpr z)))
theorem mf_if_ne (hx : p.tables.exec = Jvm.exec) (hb : c.code = cc) {x : Int} {off : Int} {tgt : Nat} (hd : decode cc pc = .ok (.ifCond .ne off, 3)) (ht : (pc : Int) + off = (tgt : Int)) (h1 : i32 x)
    (kt : ¬ x = 0 → W p l e R s m args below meth c H locs cells slots Q (F0 m tgt ls rest)) (kf : x = 0 → W p l e R s m args below meth c H locs cells slots Q (F0 m (pc + 3) ls rest)) : W p l e R s m args below meth c H locs cells slots Q (F0 m pc ls (.int (iI x) :: rest)) := lv_if_ne hx hb hd ht (fun q => kt (fun z => q ((iI_eq h1 i32_0).mpr z))) (fun q => kf ((iI_eq h1 i32_0).mp q))
theorem mf_if_lt (hx : p.tables.exec = Jvm.exec) (hb : c.code = cc) {x : Int} {off : Int} {tgt : Nat} (hd : decode cc pc = .ok (.ifCond .lt off, 3)) (ht : (pc : Int) + off = (tgt : Int)) (h1 : i32 x)
    (kt : x < 0 → W p l e R s m args below meth c H locs cells slots Q (F0 m tgt ls rest)) (kf : 0 ≤ x → W p l e R s m args below meth c H locs cells slots Q (F0 m (pc + 3) ls rest)) : W p l e R s m args below meth c H locs cells slots Q (F0 m pc ls (.int (iI x) :: rest)) := lv_if_lt hx hb hd ht (fun q => kt ((iI_lt h1 i32_0).mp q)) (fun q => kf (Int.not_lt.mp fun z => q ((iI_lt h1 i32_0).mpr z)))
theorem mf_if_ge (hx : p.tables.exec = Jvm.exec) (hb : c.code = cc) {x : Int} {off : Int} {tgt : Nat} (hd : decode cc pc = .ok (.ifCond .ge off, 3)) (ht : (pc : Int) + off = (tgt : Int)) (h1 : i32 x)
    (kt : 0 ≤ x → W p l e R s m args below meth c H locs cells slots Q (F0 m tgt ls rest)) (kf : x < 0 → W p l e R s m args below meth c H locs cells slots Q (F0 m (pc + 3) ls rest)) : W p l e R s m args below meth c H locs cells slots Q (F0 m pc ls (.int (iI x) :: rest)) := lv_if_ge hx hb hd ht (fun q => kt ((iI_le i32_0 h1).mp q)) (fun q => kf (Int.not_le.mp fun z => q ((iI_le i32_0 h1).mpr z)))
theorem mf_if_gt (hx : p.tables.exec = Jvm.exec) (hb : c.code = cc) {x : Int} {off : Int} {tgt : Nat} (hd : decode cc pc = .ok (.ifCond .gt off, 3)) (ht : (pc : Int) + off = (tgt : Int)) (h1 : i32 x)
    (kt : 0 < x → W p l e R s m args below meth c H locs cells slots Q (F0 m tgt ls rest)) (kf : x ≤ 0 → W p l e R s m args below meth c H locs cells slots Q (F0 m (pc + 3) ls rest)) : W p l e R s m args below meth c H locs cells slots Q (F0 m pc ls (.int (iI x) :: rest)) := lv_if_gt hx hb hd ht (fun q => kt ((iI_lt i32_0 h1).mp q)) (fun q => kf (Int.not_lt.mp fun z => q ((iI_lt i32_0 h1).mpr z)))
theorem mf_if_le (hx : p.tables.exec = Jvm.exec) (hb : c.code = cc) {x : Int} {off : Int} {tgt : Nat} (hd : decode cc pc = .ok (.ifCond .le off, 3)) (ht : (pc : Int) + off = (tgt : Int)) (h1 : i32 x)
    (kt : x ≤ 0 → W p l e R s m args below meth c H locs cells slots Q (F0 m tgt ls rest)) (kf : 0 < x → W p l e R s m args below meth c H locs cells slots Q (F0 m (pc + 3) ls rest)) : W p l e R s m args below meth c H locs cells slots Q (F0 m pc ls (.int (iI x) :: rest)) := lv_if_le hx hb hd ht (fun q => kt ((iI_le h1 i32_0).mp q)) (fun q => kf (Int.not_le.mp fun z => q ((iI_le h1 i32_0).mpr z)))
/-- a condition that a method has told -/
theorem mf_bp_eq (hx : p.tables.exec = Jvm.exec) (hb : c.code = cc) {P : Prop} {off : Int} {tgt : Nat} (hd : decode cc pc = .ok (.ifCond .eq off, 3)) (ht : (pc : Int) + off = (tgt : Int))
    (kt : ¬ P → W p l e R s m args below meth c H locs cells slots Q (F0 m tgt ls rest)) (kf : P → W p l e R s m args below meth c H locs cells slots Q (F0 m (pc + 3) ls rest)) : W p l e R s m args below meth c H locs cells slots Q (F0 m pc ls (.int (iI (bP P)) :: rest)) := mf_if_eq hx hb hd ht (bP_32 P) (fun q => kt (bP_0.mp q)) (fun q => kf (bP_n0 q))
theorem mf_bp_ne (hx : p.tables.exec = Jvm.exec) (hb : c.code = cc) {P : Prop} {off : Int} {tgt : Nat} (hd : decode cc pc = .ok (.ifCond .ne off, 3)) (ht : (pc : Int) + off = (tgt : Int))
    (kt : P → W p l e R s m args below meth c H locs cells slots Q (F0 m tgt ls rest)) (kf : ¬ P → W p l e R s m args below meth c H locs cells slots Q (F0 m (pc + 3) ls rest)) : W p l e R s m args below meth c H locs cells slots Q (F0 m pc ls (.int (iI (bP P)) :: rest)) := mf_if_ne hx hb hd ht (bP_32 P) (fun q => kt (bP_n0 q)) (fun q => kf (bP_0.mp q))
end MFR
