/-! 60.sim: the law's Sim, tied to a river's values -/
def slo : Nat → Int := fun _ => 0
def shi : Nat → Int := fun k => match k with
  | 0 => 90000
  | 1 => 100000000
  | 2 => 383
  | 3 => 9
  | 4 => 1
  | 5 => 200000000
  | 6 => 10
  | 7 => 9
  | _ => 150
/-- the Sim u, whose course has n cells, holds what the river r holds -/
def relS (r : mf_V) (n : Nat) (u : mf_V) : Prop := (n : Int) = r 7 0 ∧ u 0 0 = r 8 0 ∧ u 1 0 = r 9 0 ∧ rgA (r 7 0) (u 2) (r 6) ∧ rgA 384 (u 3) (r 0) ∧ rgA 384 (u 4) (r 2) ∧ rgA 384 (u 5) (r 1) ∧ rgA 12 (u 7) (r 5) ∧ rgA 384 (u 8) (fun c => r 10 c + 1)
theorem rel9 {r u : mf_V} {n : Nat} (h : relS r n u) : (n : Int) = r 7 0 := h.1
theorem rel0 {r u : mf_V} {n : Nat} (h : relS r n u) : u 0 0 = r 8 0 := h.2.1
theorem rel1 {r u : mf_V} {n : Nat} (h : relS r n u) : u 1 0 = r 9 0 := h.2.2.1
theorem rel2 {r u : mf_V} {n : Nat} (h : relS r n u) {z : Int} (h0 : 0 ≤ z) (h1 : z < r 7 0) : u 2 z = r 6 z := h.2.2.2.1 z h0 h1
theorem rel3 {r u : mf_V} {n : Nat} (h : relS r n u) {z : Int} (h0 : 0 ≤ z) (h1 : z < 384) : u 3 z = r 0 z := h.2.2.2.2.1 z h0 h1
theorem rel4 {r u : mf_V} {n : Nat} (h : relS r n u) {z : Int} (h0 : 0 ≤ z) (h1 : z < 384) : u 4 z = r 2 z := h.2.2.2.2.2.1 z h0 h1
theorem rel5 {r u : mf_V} {n : Nat} (h : relS r n u) {z : Int} (h0 : 0 ≤ z) (h1 : z < 384) : u 5 z = r 1 z := h.2.2.2.2.2.2.1 z h0 h1
theorem rel7 {r u : mf_V} {n : Nat} (h : relS r n u) {z : Int} (h0 : 0 ≤ z) (h1 : z < 12) : u 7 z = r 5 z := h.2.2.2.2.2.2.2.1 z h0 h1
theorem rel8 {r u : mf_V} {n : Nat} (h : relS r n u) {z : Int} (h0 : 0 ≤ z) (h1 : z < 384) : u 8 z = r 10 z + 1 := h.2.2.2.2.2.2.2.2 z h0 h1
theorem rOK_put2 {u v : mf_V} (h : rOK slo shi u) (hv : ∀ z, 0 ≤ v 0 z ∧ v 0 z ≤ 383) : rOK slo shi (mf_sF u 2 (v 0)) := by
  intro k z
  unfold mf_sF
  by_cases q : k = 2
  · subst q; rw [if_pos rfl]; exact hv z
  · rw [if_neg q]; exact h k z
section MFV
variable {p : Program} {l : Launch} {e : Env} {R : Room} {s : State} {m : MethodId} {args : Array Value} {below : List Frame} {meth : Method} {c : Code} {H : Heap} {locs : List Loc} {cells slots : Nat} {Q : State → Prop}
variable {cc : ByteArray} {pc : Nat} {ls : Array Slot} {rest : List Value} {G : mf_G} {cl : List vw_C} {ws : va_W} {A : Nat → Prop} {H0 : Heap}
/-- a new row whose length is at most M: counted as M -/
theorem mf_newv (hx : p.tables.exec = Jvm.exec) (hb : c.code = cc) (harr : (Cond.arrayClass .int).before args s = true) (hK : va_K G.1 cl (mf_ty G) s) (hP : va_P G.1 cl ws H) (hD : va_D A ws) (hS : va_S A H0 H locs) (hA : ∀ q, H0.size ≤ q → A q)
    {n : Int} {N M : Nat} (hn : n = N) (hN : N ≤ 100000) (hM : N ≤ M) (hcells : cells + 1 ≤ R.cells) (hslots : slots + M ≤ R.slots) (hdg : decode cc pc = .ok (.newarray .int, 2))
    (kk : ∀ (q : Nat) (H1 : Heap), va_P G.1 cl (ws ++ [(q, .inl (G.2.1, N, .inl (ia (fun _ => 0))))]) H1 → va_D A (ws ++ [(q, .inl (G.2.1, N, .inl (ia (fun _ => 0))))]) → va_S A H0 H1 locs →
      W p l e R s m args below meth c H1 locs (cells + 1) (slots + M) Q (F0 m (pc + 2) ls (.ref q :: rest))) : W p l e R s m args below meth c H locs cells slots Q (F0 m pc ls (.int (iI n) :: rest)) :=
  mf_newi hx hb harr hK hP hD hS hA hn hN hcells (Nat.le_trans (Nat.add_le_add_left hM slots) hslots) hdg (fun q H1 hP1 hD1 hS1 => W.widen (Nat.le_refl _) (Nat.add_le_add_left hM slots) (kk q H1 hP1 hD1 hS1))
end MFV
theorem dirE {r : mf_V} (hI : RInv r) {i : Int} (h0 : 0 ≤ i) (h1 : i < r 7 0 - 1) : r 11 i = dirTo (r 6 i) (r 6 (i + 1)) := by
  rw [hI.2.1 i h0 (by omega), cellAtF_in (by omega) (by omega)]
theorem dirU {r : mf_V} (hI : RInv r) {i d : Int} (h0 : 0 ≤ i) (h1 : i < r 7 0 - 1) (h : nbr (r 6 i) d = r 6 (i + 1)) : r 11 i = d := by
  rw [dirE hI h0 h1]; exact dirTo_of h (dirW hI h0 h1).2.2.2
