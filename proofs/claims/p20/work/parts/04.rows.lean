/-! 04.rows: ranges of values, copies, Math, what the methods tell -/
def rOK (lo hi : Nat → Int) (r : mf_V) : Prop := ∀ (k : Nat) (z : Int), lo k ≤ r k z ∧ r k z ≤ hi k
theorem rOK_up {lo hi : Nat → Int} {r : mf_V} (h : rOK lo hi r) (k : Nat) (z v : Int) (h1 : lo k ≤ v) (h2 : v ≤ hi k) : rOK lo hi (mf_sF r k (mf_up (r k) z v)) := by
  intro q y
  unfold mf_sF
  by_cases hq : q = k
  · subst hq
    rw [if_pos rfl]
    unfold mf_up
    by_cases hy : y = z
    · rw [if_pos hy]; exact ⟨h1, h2⟩
    · rw [if_neg hy]; exact h q y
  · rw [if_neg hq]; exact h q y
theorem rOK_set {lo hi : Nat → Int} {r : mf_V} (h : rOK lo hi r) (k : Nat) (v : Int) (h1 : lo k ≤ v) (h2 : v ≤ hi k) : rOK lo hi (mf_sF r k (fun _ => v)) := by
  intro q y
  unfold mf_sF
  by_cases hq : q = k
  · subst hq
    rw [if_pos rfl]; exact ⟨h1, h2⟩
  · rw [if_neg hq]; exact h q y
def mf_cpy (f g : Int → Int) (sp dp n : Int) : Int → Int := fun k => if dp ≤ k ∧ k < dp + n then f (sp + (k - dp)) else g k
theorem rOK_cpx {lo hi lo2 hi2 : Nat → Int} {r r2 : mf_V} (h : rOK lo hi r) (h2 : rOK lo2 hi2 r2) (k k2 : Nat) (sp dp n : Int) (e1 : lo k = lo2 k2) (e2 : hi k = hi2 k2) : rOK lo2 hi2 (mf_sF r2 k2 (mf_cpy (r k) (r2 k2) sp dp n)) := by
  intro q y
  unfold mf_sF
  by_cases hq : q = k2
  · subst hq
    rw [if_pos rfl]
    unfold mf_cpy
    by_cases hy : dp ≤ y ∧ y < dp + n
    · rw [if_pos hy, ← e1, ← e2]; exact h k _
    · rw [if_neg hy]; exact h2 q y
  · rw [if_neg hq]; exact h2 q y
theorem rOK_cpy {lo hi : Nat → Int} {r r2 : mf_V} (h : rOK lo hi r) (h2 : rOK lo hi r2) (k : Nat) (sp dp n : Int) : rOK lo hi (mf_sF r2 k (mf_cpy (r k) (r2 k) sp dp n)) := rOK_cpx h h2 k k sp dp n rfl rfl
def rlo : Nat → Int := fun k => match k with
  | 10 => -1
  | 11 => -1
  | 12 => -1
  | 13 => -1
  | _ => 0
def rhi : Nat → Int := fun k => match k with
  | 0 => 9
  | 1 => 200000000
  | 2 => 1
  | 3 => 100000
  | 4 => 1
  | 5 => 9
  | 6 => 383
  | 7 => 150
  | 8 => 90000
  | 9 => 100000000
  | 10 => 149
  | 11 => 3
  | 12 => 3
  | _ => 383
def flo : Nat → Int := fun _ => 0
def fhi : Nat → Int := fun k => match k with
  | 0 => 23
  | 1 => 15
  | 2 => 24
  | 3 => 16
  | _ => 6
def ulo : Nat → Int := fun k => match k with
  | 0 => -1
  | 7 => -1
  | _ => 0
def uhi : Nat → Int := fun k => match k with
  | 0 => 9
  | 1 => 9
  | 2 => 1
  | 3 => 9
  | 4 => 6
  | 5 => 24
  | 6 => 383
  | 7 => 149
  | 8 => 200000000
  | 9 => 10
  | _ => 100000000
def xlo : Nat → Int := fun _ => 0
def xhi : Nat → Int := fun _ => 1
theorem mf_nar01 {v : Int} (h : 0 ≤ v ∧ v ≤ 1) : narrow .boolean (.int (iI v)) = .int (iI v) := by
  rcases (show v = 0 ∨ v = 1 by omega) with h | h <;> subst h <;> rfl
theorem mf_fit01 {v : Int} (h : 0 ≤ v ∧ v ≤ 1) : fits .boolean (.int (iI v)) = true := by
  rcases (show v = 0 ∨ v = 1 by omega) with h | h <;> subst h <;> rfl
def mf_absI (x : Int) : Int := if 0 ≤ x then x else -x
theorem mf_absI_s (x : Int) : (0 ≤ x ∧ mf_absI x = x) ∨ (x < 0 ∧ mf_absI x = -x) := by
  unfold mf_absI
  by_cases h : 0 ≤ x
  · rw [if_pos h]; exact Or.inl ⟨h, rfl⟩
  · rw [if_neg h]; exact Or.inr ⟨by omega, rfl⟩
theorem mf_cpy_ia (f g : Int → Int) {sp dp n : Int} (h1 : 0 ≤ sp) (h2 : 0 ≤ dp) (h3 : 0 ≤ n) (b1 : sp < 2147483648) (b2 : dp < 2147483648) (b3 : n < 2147483648) : va_cpy (ia f) (ia g) (iI sp).toNatClampNeg (iI dp).toNatClampNeg (iI n).toNatClampNeg = ia (mf_cpy f g sp dp n) := by
  rw [iI_cl h1 b1, iI_cl h2 b2, iI_cl h3 b3]
  funext j
  show (if dp.toNat ≤ j ∧ j < dp.toNat + n.toNat then iI (f ((sp.toNat + (j - dp.toNat) : Nat) : Int)) else iI (g (j : Int))) = iI (if dp ≤ (j : Int) ∧ (j : Int) < dp + n then f (sp + ((j : Int) - dp)) else g (j : Int))
  by_cases hj : dp.toNat ≤ j ∧ j < dp.toNat + n.toNat
  · have h5 : dp ≤ (j : Int) ∧ (j : Int) < dp + n := by omega
    rw [if_pos hj, if_pos h5]
    congr 2
    omega
  · have h5 : ¬ (dp ≤ (j : Int) ∧ (j : Int) < dp + n) := by omega
    rw [if_neg hj, if_neg h5]
theorem iI_nlt {z : Int} (h0 : 0 ≤ z) (h1 : z < 2147483648) : ¬ iI z < 0 := fun q => by have := (iI_lt (a := z) (b := 0) (i32_mk (by omega) h1) i32_0).mp q; omega
section MFC
variable {p : Program} {l : Launch} {e : Env} {R : Room} {s : State} {m : MethodId} {args : Array Value} {below : List Frame} {meth : Method} {c : Code} {H : Heap} {locs : List Loc} {cells slots : Nat} {Q : State → Prop}
variable {cc : ByteArray} {pc : Nat} {ls : Array Slot} {rest : List Value} {D : va_G} {cl : List vw_C} {tys : List (ClassId × FieldType)} {ws : va_W} {a : Nat} {A : Nat → Prop} {H0 : Heap}
theorem mf_copy {f g : Int → Int} {n0 n1 : Nat} (hx : p.tables.exec = Jvm.exec) (hb : c.code = cc) (hml : c.maxLocals = ls.size) {own : String} {index : Nat} (hown : s.vm.findClass own = some m.cls) (hlink : (Cond.methodLink own index arraycopyName).before args s = true) (hnat : (Cond.native arraycopyName).before args s = true) (hstat : (Cond.static arraycopyName).before args s = true) (hini : (Cond.initialized "java/lang/System").before args s = true)
    (hK : va_K D cl tys s) (hP : va_P D cl ws H) (hD : va_D A ws) (hS : va_S A H0 H locs) (q0 q1 t0 t1 : Nat) {a0 : Nat} {c0 c1 : ClassId} {ty : FieldType} (ha0 : ws[q0]? = some (a0, .inl (c0, n0, .inl (ia f)))) (ha1 : ws[q1]? = some (a, .inl (c1, n1, .inl (ia g)))) (ht0 : tys[t0]? = some (c0, ty)) (ht1 : tys[t1]? = some (c1, ty)) (hprim : refKind ty = false)
    {sp dp n : Int} (h1 : 0 ≤ sp) (h2 : 0 ≤ dp) (h3 : 0 ≤ n) (h4 : sp + n ≤ n0) (h5 : dp + n ≤ n1) (hn0 : n0 < 2147483648) (hn1 : n1 < 2147483648) (hfit : ∀ z : Int, fits ty (.int (iI (f z))) = true)
    (hframes : 1 ≤ R.frames) (hlocals : (rest.map fun v => v.category).sum + (nativeFrameWords "java/lang/System" "arraycopy" 5 + 11) ≤ R.locals) (hdg : decode cc pc = .ok (.invokestatic index, 3))
    (kk : ∀ (H1 : Heap) (locs1 : List Loc), va_P D cl (ws.set q1 (a, .inl (c1, n1, .inl (ia (mf_cpy f g sp dp n))))) H1 → va_D A (ws.set q1 (a, .inl (c1, n1, .inl (ia (mf_cpy f g sp dp n))))) → va_S A H0 H1 locs1 → W p l e R s m args below meth c H1 locs1 cells slots Q (F0 m (pc + 3) ls rest)) : W p l e R s m args below meth c H locs cells slots Q (F0 m pc ls (.int (iI n) :: .int (iI dp) :: .ref a :: .int (iI sp) :: .ref a0 :: rest)) :=
  va_copyi hx hb hml hown hlink hnat hstat hini hK hP hD hS q0 q1 t0 t1 ha0 ha1 ht0 ht1 hprim (iI_nlt h1 (by omega)) (iI_nlt h2 (by omega)) (iI_nlt h3 (by omega)) (by rw [iI_cl h1 (by omega), iI_cl h3 (by omega)]; omega) (by rw [iI_cl h2 (by omega), iI_cl h3 (by omega)]; omega) (fun i _ => hfit _) hframes hlocals hdg (by rw [mf_cpy_ia f g h1 h2 h3 (by omega) (by omega) (by omega)]; exact kk)
theorem mf_mmax (hx : p.tables.exec = Jvm.exec) (hb : c.code = cc) (hml : c.maxLocals = ls.size) {own : String} {index : Nat} (hown : s.vm.findClass own = some m.cls) (hlink : (Cond.methodLink own index Lib.Math.max.name).before args s = true) (hstat : (Cond.static Lib.Math.max.name).before args s = true) (hini : (Cond.initialized "java/lang/Math").before args s = true) (hcode : (Cond.code Lib.Math.max.name Lib.Math.max.code 2 (some .int)).before args s = true)
    (hframes : 1 ≤ R.frames) (hlocals : (rest.map fun v => v.category).sum + 13 ≤ R.locals) (hc : cells ≤ R.cells) (hs : slots ≤ R.slots) {x y : Int} (h1 : i32 x) (h2 : i32 y) (hdg : decode cc pc = .ok (.invokestatic index, 3))
    (kk : W p l e R s m args below meth c H locs cells slots Q (F0 m (pc + 3) ls (.int (iI (max x y)) :: rest))) : W p l e R s m args below meth c H locs cells slots Q (F0 m pc ls (.int (iI y) :: .int (iI x) :: rest)) :=
  va_mmax hx hb hml hown hlink hstat hini hcode hframes hlocals hc hs hdg (by
    by_cases h : x < y
    · rw [if_pos ((iI_lt h1 h2).mpr h)]; rw [show max x y = y by omega] at kk; exact kk
    · rw [if_neg (fun q => h ((iI_lt h1 h2).mp q))]; rw [show max x y = x by omega] at kk; exact kk)
theorem mf_abs (hx : p.tables.exec = Jvm.exec) (hb : c.code = cc) (hml : c.maxLocals = ls.size) {own : String} {index : Nat} (hown : s.vm.findClass own = some m.cls) (hlink : (Cond.methodLink own index Lib.Math.abs.name).before args s = true) (hstat : (Cond.static Lib.Math.abs.name).before args s = true) (hini : (Cond.initialized "java/lang/Math").before args s = true) (hcode : (Cond.code Lib.Math.abs.name Lib.Math.abs.code 1 (some .int)).before args s = true)
    (hframes : 1 ≤ R.frames) (hlocals : (rest.map fun v => v.category).sum + 13 ≤ R.locals) (hc : cells ≤ R.cells) (hs : slots ≤ R.slots) {x : Int} (h1 : i32 x) (hdg : decode cc pc = .ok (.invokestatic index, 3))
    (kk : W p l e R s m args below meth c H locs cells slots Q (F0 m (pc + 3) ls (.int (iI (mf_absI x)) :: rest))) : W p l e R s m args below meth c H locs cells slots Q (F0 m pc ls (.int (iI x) :: rest)) :=
  va_mabs hx hb hml hown hlink hstat hini hcode hframes hlocals hc hs hdg (by
    unfold mf_absI at kk
    by_cases h : 0 ≤ x
    · have h9 : (0 : Int32) ≤ iI x := (iI_le i32_0 h1).mpr h
      rw [if_pos h9]; rw [if_pos h] at kk; exact kk
    · have h9 : ¬ (0 : Int32) ≤ iI x := fun q => h ((iI_le i32_0 h1).mp q)
      rw [if_neg h9]; rw [if_neg h, iI_neg] at kk; rw [Int32.zero_sub]; exact kk)
end MFC
/-- a choice by a condition -/
noncomputable def mf_if (P : Prop) (x y : Int) : Int := @ite Int P (Classical.propDecidable P) x y
theorem mf_if_t {P : Prop} {x y : Int} (h : P) : mf_if P x y = x := by unfold mf_if; exact if_pos h
theorem mf_if_f {P : Prop} {x y : Int} (h : ¬ P) : mf_if P x y = y := by unfold mf_if; exact if_neg h
/-- the cell in a direction, -1 beyond the plain -/
def nbr (c d : Int) : Int := if c < 0 then -1 else if 384 ≤ c then -1 else if d = 0 then (if 24 ≤ c then c - 24 else -1) else if d = 1 then (if c % 24 < 23 then c + 1 else -1) else if d = 2 then (if c < 360 then c + 24 else -1) else if d = 3 then (if 0 < c % 24 then c - 1 else -1) else -1
theorem nbr_b (c d : Int) : -1 ≤ nbr c d ∧ nbr c d ≤ 383 := by
  unfold nbr
  repeat' split
  all_goals omega
/-- the direction of a cell from the one beside it, -1 if they are not side by side -/
def dirTo (a b : Int) : Int := if nbr a 0 ≠ -1 ∧ nbr a 0 = b then 0 else if nbr a 1 ≠ -1 ∧ nbr a 1 = b then 1 else if nbr a 2 ≠ -1 ∧ nbr a 2 = b then 2 else if nbr a 3 ≠ -1 ∧ nbr a 3 = b then 3 else -1
theorem dirTo_b (a b : Int) : -1 ≤ dirTo a b ∧ dirTo a b ≤ 3 := by
  unfold dirTo
  repeat' split
  all_goals omega
def inC (r : mf_V) (i : Int) : Prop := 0 ≤ i ∧ i < r 7 0
noncomputable def cellAtF (r : mf_V) (i : Int) : Int := mf_if (inC r i) (r 6 i) (-1)
theorem cellAtF_b {r : mf_V} (h : rOK rlo rhi r) (i : Int) : -1 ≤ cellAtF r i ∧ cellAtF r i ≤ 383 := by
  unfold cellAtF
  by_cases q : inC r i
  · rw [mf_if_t q]; have b : (0 : Int) ≤ r 6 i ∧ r 6 i ≤ 383 := h 6 i; omega
  · rw [mf_if_f q]; omega
noncomputable def placeOfF (r : mf_V) (c : Int) : Int := mf_if (0 ≤ c ∧ c < 384) (r 10 c) (-1)
theorem placeOfF_b {r : mf_V} (h : rOK rlo rhi r) (i : Int) : -1 ≤ placeOfF r i ∧ placeOfF r i ≤ 149 := by
  unfold placeOfF
  by_cases q : 0 ≤ i ∧ i < 384
  · rw [mf_if_t q]; have b : (-1 : Int) ≤ r 10 i ∧ r 10 i ≤ 149 := h 10 i; omega
  · rw [mf_if_f q]; omega
def strP (r : mf_V) (i : Int) : Prop := 0 < i ∧ i < r 7 0 - 1 ∧ r 11 (i - 1) = r 11 i
def openP (r : mf_V) (c : Int) : Prop := 0 ≤ c ∧ c < 384 ∧ r 10 c = -1 ∧ r 2 c = 0
def canB (r : mf_V) (i s : Int) : Prop := strP r i ∧ r 7 0 + 2 ≤ 150 ∧ 0 ≤ s ∧ s < 4 ∧ ¬ s % 2 = r 11 i % 2 ∧ openP r (nbr (cellAtF r (i - 1)) s) ∧ openP r (nbr (cellAtF r i) s) ∧ openP r (nbr (cellAtF r (i + 1)) s)
