/-! 61.wrap: the law's own calls, which tell a throw by a number -/
/-- the law's row of one long -/
def LW (K : ClassId) (h : Nat) (g : Nat → Int64) : va_W := [(h, .inl (K, 1, .inr (.inl g)))]
def NX (U : State) : Prop := va_Nc xIA xIO U ∧ va_Nc xIS xIO U ∧ va_Nc xIS xIA U ∧ va_Nc xIO xIA U
theorem NX.moved {u U : State} (hv : u.vm.Alike U.vm) (h : NX u) : NX U := ⟨va_Nc.moved hv h.1, va_Nc.moved hv h.2.1, va_Nc.moved hv h.2.2.1, va_Nc.moved hv h.2.2.2⟩
def WrPy (G : mf_G) (K : ClassId) (ws : va_W) (sz : Nat) (U : State) : Prop := U.heap.size = sz ∧ va_P G.1 vwCl ws U.heap ∧ va_K G.1 vwCl (mf_ty G ++ [(K, .long)]) U ∧ va_D (fun _ => True) ws ∧ NW U ∧ SX U ∧ CX U ∧ ZX (va_A ws sz) U U.heap ∧ NX U
theorem wrPy_blind {G : mf_G} {K : ClassId} {ws : va_W} {sz : Nat} {av : List Value} : FrameBlind (va_Pc av (WrPy G K ws sz)) := fun a U g mk q => by
  obtain ⟨q0, q1, qP, qK, qD, qN, qS, qC, qZ, qX⟩ := q
  exact ⟨q0, q1, qP, va_K.moved (u := U) (U := U.calling g mk a) (Vm.Alike.refl U.vm) qK, qD, NW.same (U := U.calling g mk a) rfl qN, SX.same (U := U.calling g mk a) rfl qS, CX.same (U := U.calling g mk a) rfl qC, ZX.moved (u := U) (U := U.calling g mk a) (Vm.Alike.refl U.vm) qZ, NX.moved (u := U) (U := U.calling g mk a) (Vm.Alike.refl U.vm) qX⟩
theorem wrVx {G : mf_G} {s : State} {H : Heap} {locs : List Loc} {ws wc : va_W} {A : Nat → Prop} {As : List Value} {b ci : Nat} {q : vw_C} {fs : List Value} (hSX : SX s) (hCX : CX s) (hZ : ZX A s s.heap) (hS : va_S A s.heap H locs) (hF : ∀ q, va_A wc H.size q → A q) (hK : va_K G.1 vwCl (mf_ty G) s) (hP : va_P G.1 vwCl ws H) (hD : va_D A ws) (hN : NW s) (is : List Nat) (hn : va_nd is = true) (hs : is.filterMap (fun i => ws[i]?) = wc) (hm : is.map (fun i => ws[i]?) = wc.map some) (hc : vwCl[ci]? = some q) (he : wc[0]? = some (b, .inr (ci, fs))) : PreV s H q.1 b (va_Pc (.ref b :: As) (WrPx G wc H.size)) As :=
  ⟨wrPx_blind, va_recv hK (hP.sub is hs) hc he, fun U hU hW => ⟨rfl, by rw [hU], by rw [hU]; exact hP.sub is hs, va_K.moved hW.alike hK, (hD.sub is hn hm).weaken (fun _ _ _ _ => trivial), hN.warm hW, hSX.warm hW, hCX.warm hW, by rw [hU]; exact ((hZ.kept hS.2.1).moved hW.alike).narrow hF⟩⟩
