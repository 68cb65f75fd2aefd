/-! 41.mkept: what the reference keeps, and brings back -/
/-- rows of rows: their class is K, and it stands -/
def NK (K : ClassId) (U : State) : Prop := va_Nw (.arrayOver (.array .int)) U ∧ va_Nw (.castable "[I" "java/lang/Cloneable") U ∧ U.vm.findClass ("[" ++ (FieldType.array .int).toString) = some K
theorem mf_AO_moved {u U : State} (hvm : u.vm.Alike U.vm) (h : va_Nw (.arrayOver (.array .int)) u) : va_Nw (.arrayOver (.array .int)) U := by
  obtain ⟨comp, c, k, h1, h2, h3, h4, h5⟩ := arrayOverA_spec h
  obtain ⟨k', hk', he⟩ := hvm.2.2 _ _ h3
  have hi : (U.vm.classes.findIdx? fun (x : Class) => match x.kind with | .array component _ => component == comp | _ => false) = some c := by
    rw [hvm.findIdx?_eq _ (fun _ => rfl)]
    exact h2
  have hkind : k'.kind = .array comp (.array .int) := by rw [he]; exact h4
  have f1 : U.vm.findClass (FieldType.array .int).toString = some comp := by rw [hvm.findClass]; exact h1
  have f2 : U.vm.findClass ("[" ++ (FieldType.array .int).toString) = some c := by rw [hvm.findClass]; exact h5
  unfold va_Nw Cond.before Cond.holds
  simp only [Cond.value]
  rw [f1, Option.bind_some]
  refine (congrArg (fun o : Option Nat => (o.bind (fun c => (U.vm.classes[c]?).map fun (k : Class) => match k.kind with | .array _ ty => decide (ty = FieldType.array .int) && decide (U.vm.findClass ("[" ++ (FieldType.array .int).toString) = some c) | _ => false) == some true)) hi).trans ?_
  simp [hk', hkind, f2]
theorem mf_AO_use {A : Array Value} {U : State} (h : va_Nw (.arrayOver (.array .int)) U) : (Cond.arrayOver (.array .int)).before A U = true := by
  unfold va_Nw at h
  unfold Cond.before Cond.holds at h ⊢
  simp only [Cond.value] at h ⊢
  exact h
theorem NK.moved {K : ClassId} {u U : State} (hvm : u.vm = U.vm) (h : NK K u) : NK K U := ⟨mf_AO_moved (by rw [hvm]; exact Vm.Alike.refl _) h.1, va_Nw.same rfl hvm h.2.1, by rw [← hvm]; exact h.2.2⟩
theorem NK.warm {K : ClassId} {s U : State} (hW : s.WarmedH U.vm) (h : NK K s) : NK K U := ⟨mf_AO_moved hW.alike h.1, va_Nw.warmC hW h.2.1, by rw [hW.alike.findClass]; exact h.2.2⟩
theorem NK.arr {K : ClassId} {U : State} (h : NK K U) : ArrOfT U K (.array .int) ∧ ∃ (k : Class) (comp : ClassId), U.vm.classes[K]? = some k ∧ k.kind = .array comp (.array .int) ∧ U.vm.findClass (FieldType.array .int).toString = some comp := by
  obtain ⟨comp, c, k, h1, h2, h3, h4, h5⟩ := arrayOverA_spec h.1
  have e : c = K := Option.some.inj (h5.symm.trans h.2.2)
  subst e
  exact ⟨fun N z => ⟨(fun k h => by cases h), k, h3, comp, h4⟩, k, comp, h3, h4, h1⟩
def WrPk (G : mf_G) (K : ClassId) (ws : va_W) (sz : Nat) (U : State) : Prop := U.heap.size = sz ∧ va_P G.1 vwCl ws U.heap ∧ va_K G.1 vwCl (mf_ty G) U ∧ va_D (fun _ => True) ws ∧ NW U ∧ NK K U
theorem wrPk_blind {G : mf_G} {K : ClassId} {ws : va_W} {sz : Nat} {av : List Value} : FrameBlind (va_Pc av (WrPk G K ws sz)) := fun a U g mk q => by
  obtain ⟨q0, q1, qP, qK, qD, qN, qX⟩ := q
  exact ⟨q0, q1, qP, va_K.moved (u := U) (U := U.calling g mk a) (Vm.Alike.refl U.vm) qK, qD, NW.same (U := U.calling g mk a) rfl qN, NK.moved (U := U.calling g mk a) rfl qX⟩
theorem wrVk {G : mf_G} {K : ClassId} {s : State} {H : Heap} {ws wc : va_W} {A : Nat → Prop} {As : List Value} {b ci : Nat} {q : vw_C} {fs : List Value} (hX : NK K s) (hK : va_K G.1 vwCl (mf_ty G) s) (hP : va_P G.1 vwCl ws H) (hD : va_D A ws) (hN : NW s) (is : List Nat) (hn : va_nd is = true) (hs : is.filterMap (fun i => ws[i]?) = wc) (hm : is.map (fun i => ws[i]?) = wc.map some) (hc : vwCl[ci]? = some q) (he : wc[0]? = some (b, .inr (ci, fs))) : PreV s H q.1 b (va_Pc (.ref b :: As) (WrPk G K wc H.size)) As :=
  ⟨wrPk_blind, va_recv hK (hP.sub is hs) hc he, fun U hU hW => ⟨rfl, by rw [hU], by rw [hU]; exact hP.sub is hs, va_K.moved hW.alike hK, (hD.sub is hn hm).weaken (fun _ _ _ _ => trivial), hN.warm hW, hX.warm hW⟩⟩
def kfn (ad : Nat → Nat) : Nat → Option Nat := va_up (va_up (va_up (va_up (fun _ => none) 0 (some (ad 0))) 1 (some (ad 1))) 2 (some (ad 2))) 3 (some (ad 3))
def QW (K : ClassId) (h : Nat) (f : Nat → Option Nat) : va_W := [(h, .inl (K, 4, .inr (.inr (.inr (.inr f)))))]
def KW (G : mf_G) (K : ClassId) (h : Nat) (ad : Nat → Nat) (v : mf_V) : va_W := [(h, .inl (K, 4, .inr (.inr (.inr (.inr (kfn ad)))))), (ad 0, .inl (G.2.1, 152, .inl (ia (v 0)))), (ad 1, .inl (G.2.1, 384, .inl (ia (v 1)))), (ad 2, .inl (G.2.1, 384, .inl (ia (v 2)))), (ad 3, .inl (G.2.1, 3, .inl (ia (v 3))))]
theorem kfn_i (ad : Nat → Nat) : kfn ad 0 = some (ad 0) ∧ kfn ad 1 = some (ad 1) ∧ kfn ad 2 = some (ad 2) ∧ kfn ad 3 = some (ad 3) := ⟨rfl, rfl, rfl, rfl⟩
section MFKE
variable {p : Program} {l : Launch} {e : Env} {R : Room} {s : State} {m : MethodId} {args : Array Value} {below : List Frame} {meth : Method} {c : Code} {H : Heap} {locs : List Loc} {cells slots : Nat} {Q : State → Prop}
variable {cc : ByteArray} {pc : Nat} {ls : Array Slot} {rest : List Value} {G : mf_G} {K : ClassId} {cl : List vw_C} {ws : va_W} {A : Nat → Prop} {H0 : Heap} {a : Nat}
theorem mf_newA (hx : p.tables.exec = Jvm.exec) (hb : c.code = cc) (hX : NK K s) {own : String} {index : Nat} (hown : s.vm.findClass own = some m.cls) (hlink : (Cond.classLink own index "[I").before args s = true) (hP : va_P G.1 cl ws H) (hD : va_D A ws) (hS : va_S A H0 H locs) (hA : ∀ q, H0.size ≤ q → A q)
    (hcells : cells + 1 ≤ R.cells) (hslots : slots + 4 ≤ R.slots) (hdg : decode cc pc = .ok (.anewarray index, 3))
    (kk : ∀ (q : Nat) (H1 : Heap), va_P G.1 cl (ws ++ QW K q (fun _ => none)) H1 → va_D A (ws ++ QW K q (fun _ => none)) → va_S A H0 H1 locs →
      W p l e R s m args below meth c H1 locs (cells + 1) (slots + 4) Q (F0 m (pc + 3) ls (.ref q :: rest))) : W p l e R s m args below meth c H locs cells slots Q (F0 m pc ls (.int (iI 4) :: rest)) := by
  have h4 : (iI 4).toNatClampNeg = 4 := by decide +kernel
  have et : (FieldType.array .int).toString = "[I" := by decide +kernel
  refine W.anewA (t := .int) (n := iI 4) hx hb hown (by rw [et]; exact hlink) (mf_AO_use hX.1) rfl hdg rfl (by decide +kernel) (by rw [h4]; decide) hcells (by rw [h4]; exact hslots) fun cA kA comp f1 f2 f3 f4 => ?_
  have eK : cA = K := Option.some.inj (f1.symm.trans hX.2.2)
  subst eK
  rw [h4]
  generalize hH1 : H.push ({ cls := cA, slots := Array.replicate 4 .null, vm := .none } : Cell) = H1
  have z1 : H1.size = H.size + 1 := by rw [← hH1, Array.size_push]
  have e1 : H1[H.size]? = some (arrV cA 4 (fun _ => .null)) := by rw [← hH1, Array.getElem?_push_size, ← arrV_new]
  have o1 : ∀ q : Nat, q < H.size → H1[q]? = H[q]? := fun q hq => by rw [← hH1, Array.getElem?_push, if_neg (Nat.ne_of_lt hq)]
  have hk : ∀ (k : Nat) (x : Nat × va_E), ws[k]? = some x → H1[x.1]? = H[x.1]? := fun k x hx => o1 x.1 ((hP k x hx).lt)
  refine kk H.size H1 ((hP.kept hk).app (fun k x hx => ?_)) (hD.push hP rfl (hA _ hS.1)) ⟨Nat.le_trans hS.1 (by omega), fun x h1 h2 => (o1 x (Nat.lt_of_lt_of_le h1 hS.1)).trans (hS.2.1 x h1 h2), hS.2.2⟩
  have hz : k < 1 := (List.getElem?_eq_some_iff.mp hx).1
  rw [show k = 0 by omega] at hx
  cases hx
  show H1[H.size]? = some (vp_cell _ _)
  rw [vp_cell_q]
  exact e1
theorem mf_cloneI (hx : p.tables.exec = Jvm.exec) (hb : c.code = cc) (hml : c.maxLocals = ls.size) (hX : NK K s) {own : String} {index : Nat} (hown : s.vm.findClass own = some m.cls)
    (hlink : (Cond.methodLink own index ⟨"[I", "clone", "()Ljava/lang/Object;"⟩).before args s = true) (hsame : (Cond.sameMethod "[I" "java/lang/Object" "clone" "()Ljava/lang/Object;").before args s = true)
    (hnat : (Cond.native ⟨"java/lang/Object", "clone", "()Ljava/lang/Object;"⟩).before args s = true) (hinst : (Cond.instanceMethod ⟨"java/lang/Object", "clone", "()Ljava/lang/Object;"⟩).before args s = true)
    (hsel : (Cond.selects "[I" ⟨"[I", "clone", "()Ljava/lang/Object;"⟩ ⟨"java/lang/Object", "clone", "()Ljava/lang/Object;"⟩).before args s = true)
    (hK : va_K G.1 cl (mf_ty G) s) (hP : va_P G.1 cl ws H) (hD : va_D A ws) (hS : va_S A H0 H locs) (hA : ∀ q, H0.size ≤ q → A q) (q0 : Nat) {n : Nat} {f : Int → Int} (ha : ws[q0]? = some (a, .inl (G.2.1, n, .inl (ia f))))
    (hframes : 1 ≤ R.frames) (hlocals : (rest.map fun v => v.category).sum + 14 ≤ R.locals) (hcells : cells + 1 ≤ R.cells) (hslots : slots + n ≤ R.slots) (hdg : decode cc pc = .ok (.invokevirtual index, 3))
    (kk : ∀ (q : Nat) (H1 : Heap), va_P G.1 cl (ws ++ AW G q n (fun _ => f)) H1 → va_D A (ws ++ AW G q n (fun _ => f)) → va_S A H0 H1 locs →
      W p l e R s m args below meth c H1 locs (cells + 1) (slots + n) Q (F0 m (pc + 3) ls (.ref q :: rest))) : W p l e R s m args below meth c H locs cells slots Q (F0 m pc ls (.ref a :: rest)) :=
  va_clone hx hb hml hown hlink hsame hnat hinst hsel hX.2.1 hK hP hD hS hA q0 0 ha rfl (va_nm_int (hK.2 0 (G.2.1, .int) rfl).2) (va_fit (fun i _ => rfl)) hframes hlocals hcells hslots hdg (fun q H1 _ hP1 hD1 hS1 => kk q H1 hP1 hD1 hS1)
theorem mf_castI (hx : p.tables.exec = Jvm.exec) (hb : c.code = cc) {own : String} {index : Nat} (hown : s.vm.findClass own = some m.cls) (hlink : (Cond.classLink own index "[I").before args s = true) (hK : va_K G.1 cl (mf_ty G) s) (hP : va_P G.1 cl ws H) (q0 : Nat) {x : vp_A} (ha : ws[q0]? = some (a, .inl (G.2.1, x))) (hdg : decode cc pc = .ok (.checkcast index, 3))
    (k : W p l e R s m args below meth c H locs cells slots Q (F0 m (pc + 3) ls (.ref a :: rest))) : W p l e R s m args below meth c H locs cells slots Q (F0 m pc ls (.ref a :: rest)) :=
  va_castA hx hb hown hlink hP q0 ha (va_nm_int (hK.2 0 (G.2.1, .int) rfl).2) hdg k
theorem mf_astA (hx : p.tables.exec = Jvm.exec) (hb : c.code = cc) (hX : NK K s) (hK : va_K G.1 cl (mf_ty G) s) (hP : va_P G.1 cl ws H) (hD : va_D A ws) (hS : va_S A H0 H locs) (q0 qk : Nat) {v : Nat} {x : vp_A} {f : Nat → Option Nat} (ha : ws[q0]? = some (a, .inl (K, 4, .inr (.inr (.inr (.inr f)))))) (hv : ws[qk]? = some (v, .inl (G.2.1, x))) {z : Int} {k : Nat} (hz : (iI z).toNatClampNeg = k) (h0 : ¬ iI z < 0) (hk4 : k < 4) (hdg : decode cc pc = .ok (.aastore, 1))
    (kk : ∀ (H1 : Heap) (locs1 : List Loc), va_P G.1 cl (ws.set q0 (a, .inl (K, 4, .inr (.inr (.inr (.inr (va_up f k (some v)))))))) H1 → va_D A (ws.set q0 (a, .inl (K, 4, .inr (.inr (.inr (.inr (va_up f k (some v)))))))) → va_S A H0 H1 locs1 → W p l e R s m args below meth c H1 locs1 cells slots Q (F0 m (pc + 1) ls rest)) : W p l e R s m args below meth c H locs cells slots Q (F0 m pc ls (.ref v :: .int (iI z) :: .ref a :: rest)) := by
  obtain ⟨-, kA, comp, k1, k2, k3⟩ := hX.arr
  have hcls : s.vm.findClass "[I" = some G.2.1 := va_nm_int (hK.2 0 (G.2.1, .int) rfl).2
  have et : (FieldType.array .int).toString = "[I" := by decide +kernel
  rw [et] at k3
  have hcomp : comp = G.2.1 := Option.some.inj (k3.symm.trans hcls)
  subst hcomp
  obtain ⟨kC, hkC, -⟩ := Vm.findClass_spec hcls
  have g1 : H[v]? = some (vp_cell G.2.1 x) := hP qk _ hv
  have hvm0 : (vp_cell G.2.1 x).vm = .none := by
    obtain ⟨n, f | f | f | f | f⟩ := x <;> rfl
  have hcl0 : (vp_cell G.2.1 x).cls = G.2.1 := by
    obtain ⟨n, f | f | f | f | f⟩ := x <;> rfl
  refine W.aast hx hb (hP q0 _ ha) (fun q h => by cases h) (fun h => by cases h) k1 k2 rfl hkC ⟨h0, by show _ < (arrV _ _ _).slots.size; rw [arrV_size, hz]; exact hk4⟩ g1 (fun q h => by rw [hvm0] at h; cases h) (by rw [hcl0]; exact hkC) (by rw [hcl0]; exact va_asg _ _) rfl rfl hdg fun H1 e z oq => ?_
  refine kk H1 _ (hP.set hD ha ?_ oq) (hD.set ha) (hS.put z oq (hD.2 q0 _ ha))
  show H1[a]? = some (vp_cell _ _)
  rw [e]
  rw [vp_cell_q, vp_cell_q, arrV_store, hz]
  congr 2
  funext q
  by_cases hq : q = k
  · subst hq
    simp [updV, va_up, va_rf]
  · simp [updV, va_up, hq]
theorem mf_aldA (hx : p.tables.exec = Jvm.exec) (hb : c.code = cc) (hX : NK K s) (hP : va_P G.1 cl ws H) (q0 : Nat) {f : Nat → Option Nat} (ha : ws[q0]? = some (a, .inl (K, 4, .inr (.inr (.inr (.inr f)))))) {z : Int} {k b : Nat} (hz : (iI z).toNatClampNeg = k) (h0 : ¬ iI z < 0) (hk4 : k < 4) (hf : f k = some b) (hdg : decode cc pc = .ok (.aaload, 1))
    (kk : W p l e R s m args below meth c H locs cells slots Q (F0 m (pc + 1) ls (.ref b :: rest))) : W p l e R s m args below meth c H locs cells slots Q (F0 m pc ls (.int (iI z) :: .ref a :: rest)) := by
  refine W.aald (v := .ref b) (ty := .array .int) hx hb (hP q0 _ ha) (hX.arr.1 4 (fun j => va_rf (f j))) rfl (fun q => by cases q) (by show ¬ (iI z < 0 ∨ (arrV _ _ _).slots.size ≤ _); rw [arrV_size, hz]; exact fun q => q.elim h0 (fun y => absurd (show 4 ≤ k from y) (by omega))) ?_ rfl rfl hdg kk
  show (arrV _ _ _).slots[_]? = _
  rw [hz, arrV_read _ _ hk4, hf]
  rfl
end MFKE
set_option maxHeartbeats 4000000 in
set_option maxRecDepth 100000 in
theorem c_X3_kept (l : Launch) (G : mf_G) (gK : ClassId) (hm : Nat) (adm : Nat → Nat) (u : mf_V)  (oku : rOK ulo uhi u) (sz : Nat) : Met l yX3_kept wsX3_kept ({ frames := 1, cells := 5, slots := 927, locals := 22 }) (va_Pc [.ref hm] (WrPk G gK (MW G hm adm u) sz)) (va_Qr (fun (u9 : (Nat → Nat) × mf_V) => u9.2 0 = u 6 ∧ u9.2 1 = u 8 ∧ u9.2 2 = u 9 ∧ u9.2 3 = u 10) (fun (u9 : (Nat → Nat) × mf_V) a t => WrQ G (va_A (MW G hm adm u) sz) (MW G hm adm u ++ KW G gK a u9.1 u9.2) t) (va_A (MW G hm adm u) sz)) 5 927 (va_A (MW G hm adm u) sz) := by
  refine Met.ofW (cc := cX3_kept) (maxL := 1) (ret := (some (.array (.array .int)))) (by decide) rfl ?_
  intro p e s m args below meth c s₁ B hml hv
  obtain ⟨rfl, hsz, hP, hK, hD0, hN, hX⟩ := hv
  have hx := B.exec
  have hb := B.bytes
  have hr := B.returns
  have hts := atoms_spec (ws := wsX3_kept) B.pre
  have hown : s.vm.findClass RX3 = some m.cls := findClass_of_methodNamed B.named
  have hlocks := B.notSynchronized
  have hinX3 : ∀ w ∈ u_ws RX3 TX3 11, w ∈ wsX3_kept := fun w h => List.mem_cons_of_mem _ (List.mem_append_right _ h)
  subst hsz
  have hD := hD0.self (sz := s.heap.size)
  generalize hAe : va_A (MW G hm adm u) s.heap.size = A at hD ⊢
  have hA : ∀ q : Nat, s.heap.size ≤ q → A q := fun q h => by rw [← hAe]; exact Or.inr h
  have hS : va_S A s.heap s.heap [] := va_S.rf
  have hl := lv_entry ([.ref hm]) (n := 1) (Nat.le_of_ble_eq_true rfl)
  rw [lg_entry_eq]
  generalize (lg_sl ([.ref hm]) ++ List.replicate (1 - (lg_sl ([.ref hm])).length) Slot.unset).toArray = ls at hl ⊢
  have hl : lv_has ls 1 [(0, .ref hm)] := hl
  refine mf_iconst hx hb dX3_kept_0 ?_
  refine mf_newA hx hb hX hown (hts (.classLink RX3 153 "[I") (List.mem_of_getElem? (i := 1) rfl)) hP hD hS hA (Nat.le_of_ble_eq_true rfl) (Nat.le_of_ble_eq_true rfl) dX3_kept_1 (fun na1 H hP hD hS => ?_)
  refine lv_dup hx hb dX3_kept_4 rfl ?_
  refine mf_iconst hx hb dX3_kept_5 ?_
  refine lv_aload_n hx hb dX3_kept_6 rfl (lv_at hl 0 rfl) ?_
  refine va_get (D := G.1) (ci := 3) (v := .ref (adm 6)) (C := RX3) (T := TX3) (N := 11) hx hb hts hinX3 hown hK hP 0 rfl rfl 6 (by decide) (hts (.fieldLink RX3 23 "MeanderFarmModel" "course" "[I") (List.mem_of_getElem? (i := 2) rfl)) (fun _ h9 => h9) rfl dX3_kept_7 ?_
  refine mf_cloneI (rest := [.int (iI (0)), .ref na1, .ref na1]) (f := u 6) (n := 152) hx hb (hml.trans hl.1.symm) hX hown (hts (.methodLink RX3 154 ⟨"[I", "clone", "()Ljava/lang/Object;"⟩) (List.mem_of_getElem? (i := 3) rfl)) (hts (.sameMethod "[I" "java/lang/Object" "clone" "()Ljava/lang/Object;") (List.mem_of_getElem? (i := 4) rfl)) (hts (.native ⟨"java/lang/Object", "clone", "()Ljava/lang/Object;"⟩) (List.mem_of_getElem? (i := 5) rfl)) (hts (.instanceMethod ⟨"java/lang/Object", "clone", "()Ljava/lang/Object;"⟩) (List.mem_of_getElem? (i := 6) rfl)) (hts (.selects "[I" ⟨"[I", "clone", "()Ljava/lang/Object;"⟩ ⟨"java/lang/Object", "clone", "()Ljava/lang/Object;"⟩) (List.mem_of_getElem? (i := 7) rfl)) hK hP hD hS hA 5 rfl (Nat.le_of_ble_eq_true rfl) (Nat.le_of_ble_eq_true rfl) (Nat.le_of_ble_eq_true rfl) (Nat.le_of_ble_eq_true rfl) dX3_kept_10 (fun na2 H hP hD hS => ?_)
  refine mf_castI hx hb hown (hts (.classLink RX3 153 "[I") (List.mem_of_getElem? (i := 1) rfl)) hK hP 11 rfl dX3_kept_13 ?_
  refine mf_astA hx hb hX hK hP hD hS 10 11 rfl rfl (z := 0) (k := 0) (by decide +kernel) (by decide +kernel) (by decide) dX3_kept_16 (fun H locs hP hD hS => ?_)
  have hP : va_P G.1 vwCl (MW G hm adm u ++ QW gK na1 (va_up (fun _ => none) 0 (some na2)) ++ AW G na2 152 (fun _ => u 6)) H := hP
  have hD : va_D A (MW G hm adm u ++ QW gK na1 (va_up (fun _ => none) 0 (some na2)) ++ AW G na2 152 (fun _ => u 6)) := hD
  refine lv_dup hx hb dX3_kept_17 rfl ?_
  refine mf_iconst hx hb dX3_kept_18 ?_
  refine lv_aload_n hx hb dX3_kept_19 rfl (lv_at hl 0 rfl) ?_
  refine va_get (D := G.1) (ci := 3) (v := .ref (adm 8)) (C := RX3) (T := TX3) (N := 11) hx hb hts hinX3 hown hK hP 0 rfl rfl 8 (by decide) (hts (.fieldLink RX3 29 "MeanderFarmModel" "wear" "[I") (List.mem_of_getElem? (i := 8) rfl)) (fun _ h9 => h9) rfl dX3_kept_20 ?_
  refine mf_cloneI (rest := [.int (iI (1)), .ref na1, .ref na1]) (f := u 8) (n := 384) hx hb (hml.trans hl.1.symm) hX hown (hts (.methodLink RX3 154 ⟨"[I", "clone", "()Ljava/lang/Object;"⟩) (List.mem_of_getElem? (i := 3) rfl)) (hts (.sameMethod "[I" "java/lang/Object" "clone" "()Ljava/lang/Object;") (List.mem_of_getElem? (i := 4) rfl)) (hts (.native ⟨"java/lang/Object", "clone", "()Ljava/lang/Object;"⟩) (List.mem_of_getElem? (i := 5) rfl)) (hts (.instanceMethod ⟨"java/lang/Object", "clone", "()Ljava/lang/Object;"⟩) (List.mem_of_getElem? (i := 6) rfl)) (hts (.selects "[I" ⟨"[I", "clone", "()Ljava/lang/Object;"⟩ ⟨"java/lang/Object", "clone", "()Ljava/lang/Object;"⟩) (List.mem_of_getElem? (i := 7) rfl)) hK hP hD hS hA 7 rfl (Nat.le_of_ble_eq_true rfl) (Nat.le_of_ble_eq_true rfl) (Nat.le_of_ble_eq_true rfl) (Nat.le_of_ble_eq_true rfl) dX3_kept_23 (fun na3 H hP hD hS => ?_)
  refine mf_castI hx hb hown (hts (.classLink RX3 153 "[I") (List.mem_of_getElem? (i := 1) rfl)) hK hP 12 rfl dX3_kept_26 ?_
  refine mf_astA hx hb hX hK hP hD hS 10 12 rfl rfl (z := 1) (k := 1) (by decide +kernel) (by decide +kernel) (by decide) dX3_kept_29 (fun H locs hP hD hS => ?_)
  have hP : va_P G.1 vwCl (MW G hm adm u ++ QW gK na1 (va_up (va_up (fun _ => none) 0 (some na2)) 1 (some na3)) ++ AW G na2 152 (fun _ => u 6) ++ AW G na3 384 (fun _ => u 8)) H := hP
  have hD : va_D A (MW G hm adm u ++ QW gK na1 (va_up (va_up (fun _ => none) 0 (some na2)) 1 (some na3)) ++ AW G na2 152 (fun _ => u 6) ++ AW G na3 384 (fun _ => u 8)) := hD
  refine lv_dup hx hb dX3_kept_30 rfl ?_
  refine mf_iconst hx hb dX3_kept_31 ?_
  refine lv_aload_n hx hb dX3_kept_32 rfl (lv_at hl 0 rfl) ?_
  refine va_get (D := G.1) (ci := 3) (v := .ref (adm 9)) (C := RX3) (T := TX3) (N := 11) hx hb hts hinX3 hown hK hP 0 rfl rfl 9 (by decide) (hts (.fieldLink RX3 32 "MeanderFarmModel" "lake" "[I") (List.mem_of_getElem? (i := 9) rfl)) (fun _ h9 => h9) rfl dX3_kept_33 ?_
  refine mf_cloneI (rest := [.int (iI (2)), .ref na1, .ref na1]) (f := u 9) (n := 384) hx hb (hml.trans hl.1.symm) hX hown (hts (.methodLink RX3 154 ⟨"[I", "clone", "()Ljava/lang/Object;"⟩) (List.mem_of_getElem? (i := 3) rfl)) (hts (.sameMethod "[I" "java/lang/Object" "clone" "()Ljava/lang/Object;") (List.mem_of_getElem? (i := 4) rfl)) (hts (.native ⟨"java/lang/Object", "clone", "()Ljava/lang/Object;"⟩) (List.mem_of_getElem? (i := 5) rfl)) (hts (.instanceMethod ⟨"java/lang/Object", "clone", "()Ljava/lang/Object;"⟩) (List.mem_of_getElem? (i := 6) rfl)) (hts (.selects "[I" ⟨"[I", "clone", "()Ljava/lang/Object;"⟩ ⟨"java/lang/Object", "clone", "()Ljava/lang/Object;"⟩) (List.mem_of_getElem? (i := 7) rfl)) hK hP hD hS hA 8 rfl (Nat.le_of_ble_eq_true rfl) (Nat.le_of_ble_eq_true rfl) (Nat.le_of_ble_eq_true rfl) (Nat.le_of_ble_eq_true rfl) dX3_kept_36 (fun na4 H hP hD hS => ?_)
  refine mf_castI hx hb hown (hts (.classLink RX3 153 "[I") (List.mem_of_getElem? (i := 1) rfl)) hK hP 13 rfl dX3_kept_39 ?_
  refine mf_astA hx hb hX hK hP hD hS 10 13 rfl rfl (z := 2) (k := 2) (by decide +kernel) (by decide +kernel) (by decide) dX3_kept_42 (fun H locs hP hD hS => ?_)
  have hP : va_P G.1 vwCl (MW G hm adm u ++ QW gK na1 (va_up (va_up (va_up (fun _ => none) 0 (some na2)) 1 (some na3)) 2 (some na4)) ++ AW G na2 152 (fun _ => u 6) ++ AW G na3 384 (fun _ => u 8) ++ AW G na4 384 (fun _ => u 9)) H := hP
  have hD : va_D A (MW G hm adm u ++ QW gK na1 (va_up (va_up (va_up (fun _ => none) 0 (some na2)) 1 (some na3)) 2 (some na4)) ++ AW G na2 152 (fun _ => u 6) ++ AW G na3 384 (fun _ => u 8) ++ AW G na4 384 (fun _ => u 9)) := hD
  refine lv_dup hx hb dX3_kept_43 rfl ?_
  refine mf_iconst hx hb dX3_kept_44 ?_
  refine lv_aload_n hx hb dX3_kept_45 rfl (lv_at hl 0 rfl) ?_
  refine va_get (D := G.1) (ci := 3) (v := .ref (adm 10)) (C := RX3) (T := TX3) (N := 11) hx hb hts hinX3 hown hK hP 0 rfl rfl 10 (by decide) (hts (.fieldLink RX3 35 "MeanderFarmModel" "numbers" "[I") (List.mem_of_getElem? (i := 10) rfl)) (fun _ h9 => h9) rfl dX3_kept_46 ?_
  refine mf_cloneI (rest := [.int (iI (3)), .ref na1, .ref na1]) (f := u 10) (n := 3) hx hb (hml.trans hl.1.symm) hX hown (hts (.methodLink RX3 154 ⟨"[I", "clone", "()Ljava/lang/Object;"⟩) (List.mem_of_getElem? (i := 3) rfl)) (hts (.sameMethod "[I" "java/lang/Object" "clone" "()Ljava/lang/Object;") (List.mem_of_getElem? (i := 4) rfl)) (hts (.native ⟨"java/lang/Object", "clone", "()Ljava/lang/Object;"⟩) (List.mem_of_getElem? (i := 5) rfl)) (hts (.instanceMethod ⟨"java/lang/Object", "clone", "()Ljava/lang/Object;"⟩) (List.mem_of_getElem? (i := 6) rfl)) (hts (.selects "[I" ⟨"[I", "clone", "()Ljava/lang/Object;"⟩ ⟨"java/lang/Object", "clone", "()Ljava/lang/Object;"⟩) (List.mem_of_getElem? (i := 7) rfl)) hK hP hD hS hA 9 rfl (Nat.le_of_ble_eq_true rfl) (Nat.le_of_ble_eq_true rfl) (Nat.le_of_ble_eq_true rfl) (Nat.le_of_ble_eq_true rfl) dX3_kept_49 (fun na5 H hP hD hS => ?_)
  refine mf_castI hx hb hown (hts (.classLink RX3 153 "[I") (List.mem_of_getElem? (i := 1) rfl)) hK hP 14 rfl dX3_kept_52 ?_
  refine mf_astA hx hb hX hK hP hD hS 10 14 rfl rfl (z := 3) (k := 3) (by decide +kernel) (by decide +kernel) (by decide) dX3_kept_55 (fun H locs hP hD hS => ?_)
  have hP : va_P G.1 vwCl (MW G hm adm u ++ QW gK na1 (va_up (va_up (va_up (va_up (fun _ => none) 0 (some na2)) 1 (some na3)) 2 (some na4)) 3 (some na5)) ++ AW G na2 152 (fun _ => u 6) ++ AW G na3 384 (fun _ => u 8) ++ AW G na4 384 (fun _ => u 9) ++ AW G na5 3 (fun _ => u 10)) H := hP
  have hD : va_D A (MW G hm adm u ++ QW gK na1 (va_up (va_up (va_up (va_up (fun _ => none) 0 (some na2)) 1 (some na3)) 2 (some na4)) 3 (some na5)) ++ AW G na2 152 (fun _ => u 6) ++ AW G na3 384 (fun _ => u 8) ++ AW G na4 384 (fun _ => u 9) ++ AW G na5 3 (fun _ => u 10)) := hD
  exact W.aret hx hb hr (Or.inr ⟨_, rfl⟩) (Or.inr ⟨_, rfl⟩) (fun t ht hW => ⟨⟨(fun j => if j = 0 then na2 else if j = 1 then na3 else if j = 2 then na4 else na5, fun k => if k = 0 then u 6 else if k = 1 then u 8 else if k = 2 then u 9 else u 10), _, rfl, by exact ⟨rfl, rfl, rfl, rfl⟩, by rw [ht]; exact hP, hD⟩, hS.F ht⟩) hS.2.2 dX3_kept_56
set_option maxHeartbeats 4000000 in
set_option maxRecDepth 100000 in
theorem c_X3_bringBack (l : Launch) (G : mf_G) (gK : ClassId) (hm : Nat) (adm : Nat → Nat) (u : mf_V) (hk : Nat) (adk : Nat → Nat) (v : mf_V)  (q : mf_V) (u0 : mf_V) (oku : rOK ulo uhi u) (oku0 : rOK ulo uhi u0) (okq : rOK rlo rhi q) (hq : RInv q) (hrel0 : relU q u0) (hv0 : v 0 = u0 6) (hv1 : v 1 = u0 8) (hv2 : v 2 = u0 9) (hv3 : v 3 = u0 10) (g1 : rgA 384 (u 1) (q 0)) (g2 : rgA 384 (u 2) (q 2)) (g3 : rgA 12 (u 3) (q 5)) (sz : Nat) : Met l yX3_bringBack wsX3_bringBack ({ frames := 2, cells := 0, slots := 0, locals := 41 }) (va_Pc [.ref hm, .ref hk] (WrPk G gK (MW G hm adm u ++ KW G gK hk adk v) sz)) (va_Qv (fun (u' : mf_V) => rOK ulo uhi u' ∧ relU q u' ∧ frU u u') (fun (u' : mf_V) t => WrQ G (va_A (MW G hm adm u ++ KW G gK hk adk v) sz) (MW G hm adm u' ++ KW G gK hk adk v) t) (va_A (MW G hm adm u ++ KW G gK hk adk v) sz)) 0 0 (va_A (MW G hm adm u ++ KW G gK hk adk v) sz) := by
  refine Met.ofW (cc := cX3_bringBack) (maxL := 2) (ret := none) (by decide) rfl ?_
  intro p e s m args below meth c s₁ B hml hv
  obtain ⟨rfl, hsz, hP, hK, hD0, hN, hX⟩ := hv
  have hx := B.exec
  have hb := B.bytes
  have hr := B.returns
  have hts := atoms_spec (ws := wsX3_bringBack) B.pre
  have hown : s.vm.findClass RX3 = some m.cls := findClass_of_methodNamed B.named
  have hlocks := B.notSynchronized
  have hinX3 : ∀ w ∈ u_ws RX3 TX3 11, w ∈ wsX3_bringBack := fun w h => List.mem_cons_of_mem _ (List.mem_append_right _ h)
  subst hsz
  have hD := hD0.self (sz := s.heap.size)
  generalize hAe : va_A (MW G hm adm u ++ KW G gK hk adk v) s.heap.size = A at hD ⊢
  have hA : ∀ q : Nat, s.heap.size ≤ q → A q := fun q h => by rw [← hAe]; exact Or.inr h
  have hS : va_S A s.heap s.heap [] := va_S.rf
  have hl := lv_entry ([.ref hm, .ref hk]) (n := 2) (Nat.le_of_ble_eq_true rfl)
  rw [lg_entry_eq]
  generalize (lg_sl ([.ref hm, .ref hk]) ++ List.replicate (2 - (lg_sl ([.ref hm, .ref hk])).length) Slot.unset).toArray = ls at hl ⊢
  have hl : lv_has ls 2 [(0, .ref hm), (1, .ref hk)] := hl
  refine lv_aload_n hx hb dX3_bringBack_0 rfl (lv_at hl 1 rfl) ?_
  refine mf_iconst hx hb dX3_bringBack_1 ?_
  refine mf_aldA hx hb hX hP 10 rfl (z := 0) (k := 0) (b := adk 0) (by decide +kernel) (by decide +kernel) (by decide) rfl dX3_bringBack_2 ?_
  refine mf_iconst hx hb dX3_bringBack_3 ?_
  refine lv_aload_n hx hb dX3_bringBack_4 rfl (lv_at hl 0 rfl) ?_
  refine va_get (D := G.1) (ci := 3) (v := .ref (adm 6)) (C := RX3) (T := TX3) (N := 11) hx hb hts hinX3 hown hK hP 0 rfl rfl 6 (by decide) (hts (.fieldLink RX3 23 "MeanderFarmModel" "course" "[I") (List.mem_of_getElem? (i := 1) rfl)) (fun _ h9 => h9) rfl dX3_bringBack_5 ?_
  refine mf_iconst hx hb dX3_bringBack_8 ?_
  refine lv_aload_n hx hb dX3_bringBack_9 rfl (lv_at hl 0 rfl) ?_
  refine va_get (D := G.1) (ci := 3) (v := .ref (adm 6)) (C := RX3) (T := TX3) (N := 11) hx hb hts hinX3 hown hK hP 0 rfl rfl 6 (by decide) (hts (.fieldLink RX3 23 "MeanderFarmModel" "course" "[I") (List.mem_of_getElem? (i := 1) rfl)) (fun _ h9 => h9) rfl dX3_bringBack_10 ?_
  refine va_alen hx hb hK hP 5 0 rfl rfl (v := iI 152) rfl dX3_bringBack_13 ?_
  refine mf_copy (f := v 0) (g := u 6) (n0 := 152) (n1 := 152) hx hb (hml.trans hl.1.symm) hown (hts (.methodLink RX3 131 arraycopyName) (List.mem_of_getElem? (i := 2) rfl)) (hts (.native arraycopyName) (List.mem_of_getElem? (i := 3) rfl)) (hts (.static arraycopyName) (List.mem_of_getElem? (i := 4) rfl)) (hts (.initialized "java/lang/System") (List.mem_of_getElem? (i := 5) rfl)) hK hP hD hS 11 5 0 0 rfl rfl rfl rfl rfl (sp := 0) (dp := 0) (n := 152) (by omega) (by omega) (by omega) (by omega) (by omega) (by decide) (by decide) (fun _ => rfl) (Nat.le_of_ble_eq_true rfl) (Nat.le_of_ble_eq_true rfl) dX3_bringBack_14 (fun H locs hP hD hS => ?_)
  obtain ⟨u1, eu1⟩ : ∃ z9 : mf_V, z9 = mf_sF u 6 (mf_cpy (v 0) (u 6) (0) (0) (152)) := ⟨_, rfl⟩
  have hP : va_P G.1 vwCl (MW G hm adm u1 ++ KW G gK hk adk v) H := by rw [eu1]; exact hP
  have hD : va_D A (MW G hm adm u1 ++ KW G gK hk adk v) := by rw [eu1]; exact hD
  have f1_u1 : u1 6 = mf_cpy (v 0) (u 6) (0) (0) (152) := by rw [eu1, mf_sF_s]
  have f3_u1 : ∀ q, q ≠ 6 → u1 q = u q := fun q hq => by rw [eu1, mf_sF_n hq]
  have oku1 : rOK ulo uhi u1 := by rw [eu1, hv0]; exact rOK_cpy oku0 oku 6 _ _ _
  have fc6 : rgA 152 (u1 6) (u0 6) := by rw [f1_u1, hv0]; exact cpy_rg _ _ _
  skip
  refine lv_aload_n hx hb dX3_bringBack_17 rfl (lv_at hl 1 rfl) ?_
  refine mf_iconst hx hb dX3_bringBack_18 ?_
  refine mf_aldA hx hb hX hP 10 rfl (z := 1) (k := 1) (b := adk 1) (by decide +kernel) (by decide +kernel) (by decide) rfl dX3_bringBack_19 ?_
  refine mf_iconst hx hb dX3_bringBack_20 ?_
  refine lv_aload_n hx hb dX3_bringBack_21 rfl (lv_at hl 0 rfl) ?_
  refine va_get (D := G.1) (ci := 3) (v := .ref (adm 8)) (C := RX3) (T := TX3) (N := 11) hx hb hts hinX3 hown hK hP 0 rfl rfl 8 (by decide) (hts (.fieldLink RX3 29 "MeanderFarmModel" "wear" "[I") (List.mem_of_getElem? (i := 6) rfl)) (fun _ h9 => h9) rfl dX3_bringBack_22 ?_
  refine mf_iconst hx hb dX3_bringBack_25 ?_
  refine mf_sipush hx hb dX3_bringBack_26 rfl ?_
  refine mf_copy (f := v 1) (g := u1 8) (n0 := 384) (n1 := 384) hx hb (hml.trans hl.1.symm) hown (hts (.methodLink RX3 131 arraycopyName) (List.mem_of_getElem? (i := 2) rfl)) (hts (.native arraycopyName) (List.mem_of_getElem? (i := 3) rfl)) (hts (.static arraycopyName) (List.mem_of_getElem? (i := 4) rfl)) (hts (.initialized "java/lang/System") (List.mem_of_getElem? (i := 5) rfl)) hK hP hD hS 12 7 0 0 rfl rfl rfl rfl rfl (sp := 0) (dp := 0) (n := 384) (by omega) (by omega) (by omega) (by omega) (by omega) (by decide) (by decide) (fun _ => rfl) (Nat.le_of_ble_eq_true rfl) (Nat.le_of_ble_eq_true rfl) dX3_bringBack_29 (fun H locs hP hD hS => ?_)
  obtain ⟨u2, eu2⟩ : ∃ z9 : mf_V, z9 = mf_sF u1 8 (mf_cpy (v 1) (u1 8) (0) (0) (384)) := ⟨_, rfl⟩
  have hP : va_P G.1 vwCl (MW G hm adm u2 ++ KW G gK hk adk v) H := by rw [eu2]; exact hP
  have hD : va_D A (MW G hm adm u2 ++ KW G gK hk adk v) := by rw [eu2]; exact hD
  have f1_u2 : u2 8 = mf_cpy (v 1) (u1 8) (0) (0) (384) := by rw [eu2, mf_sF_s]
  have f3_u2 : ∀ q, q ≠ 8 → u2 q = u1 q := fun q hq => by rw [eu2, mf_sF_n hq]
  have oku2 : rOK ulo uhi u2 := by rw [eu2, hv1]; exact rOK_cpy oku0 oku1 8 _ _ _
  have fc8 : rgA 384 (u2 8) (u0 8) := by rw [f1_u2, hv1]; exact cpy_rg _ _ _
  skip
  refine lv_aload_n hx hb dX3_bringBack_32 rfl (lv_at hl 1 rfl) ?_
  refine mf_iconst hx hb dX3_bringBack_33 ?_
  refine mf_aldA hx hb hX hP 10 rfl (z := 2) (k := 2) (b := adk 2) (by decide +kernel) (by decide +kernel) (by decide) rfl dX3_bringBack_34 ?_
  refine mf_iconst hx hb dX3_bringBack_35 ?_
  refine lv_aload_n hx hb dX3_bringBack_36 rfl (lv_at hl 0 rfl) ?_
  refine va_get (D := G.1) (ci := 3) (v := .ref (adm 9)) (C := RX3) (T := TX3) (N := 11) hx hb hts hinX3 hown hK hP 0 rfl rfl 9 (by decide) (hts (.fieldLink RX3 32 "MeanderFarmModel" "lake" "[I") (List.mem_of_getElem? (i := 7) rfl)) (fun _ h9 => h9) rfl dX3_bringBack_37 ?_
  refine mf_iconst hx hb dX3_bringBack_40 ?_
  refine mf_sipush hx hb dX3_bringBack_41 rfl ?_
  refine mf_copy (f := v 2) (g := u2 9) (n0 := 384) (n1 := 384) hx hb (hml.trans hl.1.symm) hown (hts (.methodLink RX3 131 arraycopyName) (List.mem_of_getElem? (i := 2) rfl)) (hts (.native arraycopyName) (List.mem_of_getElem? (i := 3) rfl)) (hts (.static arraycopyName) (List.mem_of_getElem? (i := 4) rfl)) (hts (.initialized "java/lang/System") (List.mem_of_getElem? (i := 5) rfl)) hK hP hD hS 13 8 0 0 rfl rfl rfl rfl rfl (sp := 0) (dp := 0) (n := 384) (by omega) (by omega) (by omega) (by omega) (by omega) (by decide) (by decide) (fun _ => rfl) (Nat.le_of_ble_eq_true rfl) (Nat.le_of_ble_eq_true rfl) dX3_bringBack_44 (fun H locs hP hD hS => ?_)
  obtain ⟨u3, eu3⟩ : ∃ z9 : mf_V, z9 = mf_sF u2 9 (mf_cpy (v 2) (u2 9) (0) (0) (384)) := ⟨_, rfl⟩
  have hP : va_P G.1 vwCl (MW G hm adm u3 ++ KW G gK hk adk v) H := by rw [eu3]; exact hP
  have hD : va_D A (MW G hm adm u3 ++ KW G gK hk adk v) := by rw [eu3]; exact hD
  have f1_u3 : u3 9 = mf_cpy (v 2) (u2 9) (0) (0) (384) := by rw [eu3, mf_sF_s]
  have f3_u3 : ∀ q, q ≠ 9 → u3 q = u2 q := fun q hq => by rw [eu3, mf_sF_n hq]
  have oku3 : rOK ulo uhi u3 := by rw [eu3, hv2]; exact rOK_cpy oku0 oku2 9 _ _ _
  have fc9 : rgA 384 (u3 9) (u0 9) := by rw [f1_u3, hv2]; exact cpy_rg _ _ _
  skip
  refine lv_aload_n hx hb dX3_bringBack_47 rfl (lv_at hl 1 rfl) ?_
  refine mf_iconst hx hb dX3_bringBack_48 ?_
  refine mf_aldA hx hb hX hP 10 rfl (z := 3) (k := 3) (b := adk 3) (by decide +kernel) (by decide +kernel) (by decide) rfl dX3_bringBack_49 ?_
  refine mf_iconst hx hb dX3_bringBack_50 ?_
  refine lv_aload_n hx hb dX3_bringBack_51 rfl (lv_at hl 0 rfl) ?_
  refine va_get (D := G.1) (ci := 3) (v := .ref (adm 10)) (C := RX3) (T := TX3) (N := 11) hx hb hts hinX3 hown hK hP 0 rfl rfl 10 (by decide) (hts (.fieldLink RX3 35 "MeanderFarmModel" "numbers" "[I") (List.mem_of_getElem? (i := 8) rfl)) (fun _ h9 => h9) rfl dX3_bringBack_52 ?_
  refine mf_iconst hx hb dX3_bringBack_55 ?_
  refine lv_aload_n hx hb dX3_bringBack_56 rfl (lv_at hl 0 rfl) ?_
  refine va_get (D := G.1) (ci := 3) (v := .ref (adm 10)) (C := RX3) (T := TX3) (N := 11) hx hb hts hinX3 hown hK hP 0 rfl rfl 10 (by decide) (hts (.fieldLink RX3 35 "MeanderFarmModel" "numbers" "[I") (List.mem_of_getElem? (i := 8) rfl)) (fun _ h9 => h9) rfl dX3_bringBack_57 ?_
  refine va_alen hx hb hK hP 9 0 rfl rfl (v := iI 3) rfl dX3_bringBack_60 ?_
  refine mf_copy (f := v 3) (g := u3 10) (n0 := 3) (n1 := 3) hx hb (hml.trans hl.1.symm) hown (hts (.methodLink RX3 131 arraycopyName) (List.mem_of_getElem? (i := 2) rfl)) (hts (.native arraycopyName) (List.mem_of_getElem? (i := 3) rfl)) (hts (.static arraycopyName) (List.mem_of_getElem? (i := 4) rfl)) (hts (.initialized "java/lang/System") (List.mem_of_getElem? (i := 5) rfl)) hK hP hD hS 14 9 0 0 rfl rfl rfl rfl rfl (sp := 0) (dp := 0) (n := 3) (by omega) (by omega) (by omega) (by omega) (by omega) (by decide) (by decide) (fun _ => rfl) (Nat.le_of_ble_eq_true rfl) (Nat.le_of_ble_eq_true rfl) dX3_bringBack_61 (fun H locs hP hD hS => ?_)
  obtain ⟨u4, eu4⟩ : ∃ z9 : mf_V, z9 = mf_sF u3 10 (mf_cpy (v 3) (u3 10) (0) (0) (3)) := ⟨_, rfl⟩
  have hP : va_P G.1 vwCl (MW G hm adm u4 ++ KW G gK hk adk v) H := by rw [eu4]; exact hP
  have hD : va_D A (MW G hm adm u4 ++ KW G gK hk adk v) := by rw [eu4]; exact hD
  have f1_u4 : u4 10 = mf_cpy (v 3) (u3 10) (0) (0) (3) := by rw [eu4, mf_sF_s]
  have f3_u4 : ∀ q, q ≠ 10 → u4 q = u3 q := fun q hq => by rw [eu4, mf_sF_n hq]
  have oku4 : rOK ulo uhi u4 := by rw [eu4, hv3]; exact rOK_cpy oku0 oku3 10 _ _ _
  have fc10 : rgA 3 (u4 10) (u0 10) := by rw [f1_u4, hv3]; exact cpy_rg _ _ _
  skip
  refine lv_aload_n hx hb dX3_bringBack_64 rfl (lv_at hl 0 rfl) ?_
  have fd6 : rgA 152 (u4 6) (u0 6) := by rw [f3_u4 6 (by decide), f3_u3 6 (by decide), f3_u2 6 (by decide)]; exact fc6
  have fd8 : rgA 384 (u4 8) (u0 8) := by rw [f3_u4 8 (by decide), f3_u3 8 (by decide)]; exact fc8
  have fd9 : rgA 384 (u4 9) (u0 9) := by rw [f3_u4 9 (by decide)]; exact fc9
  have fd10 : rgA 3 (u4 10) (u0 10) := by exact fc10
  have fe0 : u4 0 = u 0 := by rw [f3_u4 0 (by decide), f3_u3 0 (by decide), f3_u2 0 (by decide), f3_u1 0 (by decide)]
  have fe1 : u4 1 = u 1 := by rw [f3_u4 1 (by decide), f3_u3 1 (by decide), f3_u2 1 (by decide), f3_u1 1 (by decide)]
  have fe2 : u4 2 = u 2 := by rw [f3_u4 2 (by decide), f3_u3 2 (by decide), f3_u2 2 (by decide), f3_u1 2 (by decide)]
  have fe3 : u4 3 = u 3 := by rw [f3_u4 3 (by decide), f3_u3 3 (by decide), f3_u2 3 (by decide), f3_u1 3 (by decide)]
  have fe4 : u4 4 = u 4 := by rw [f3_u4 4 (by decide), f3_u3 4 (by decide), f3_u2 4 (by decide), f3_u1 4 (by decide)]
  have fe5 : u4 5 = u 5 := by rw [f3_u4 5 (by decide), f3_u3 5 (by decide), f3_u2 5 (by decide), f3_u1 5 (by decide)]
  have fe7 : u4 7 = u 7 := by rw [f3_u4 7 (by decide), f3_u3 7 (by decide), f3_u2 7 (by decide), f3_u1 7 (by decide)]
  have okL9 : (0 : Int) ≤ q 7 0 ∧ q 7 0 ≤ 150 := okq 7 0
  have hl9 : u4 10 2 = q 7 0 := (fd10 2 (by decide) (by decide)).trans (rel10_2 hrel0)
  have hc9 : rgA (q 7 0) (u4 6) (q 6) := fun j j0 j1 => (fd6 j j0 (by omega)).trans (rel6 hrel0 j0 j1)
  skip
  have hFc := va_free (wc := MW G hm adm u4) hD hS hA [0, 1, 2, 3, 4, 5, 6, 7, 8, 9] rfl
  refine va_callv (va_runV (As := []) (rest := []) ⟨hx, hb, hml, hown, hts⟩ (c_X3_place l G hm adm u4 (q) (by assumption) (by assumption) (by assumption) (by exact hc9) (by exact hl9) _) (cwV 0 hts gX3_bringBack_X3_place rfl rfl rfl (by decide +kernel) ⟨Nat.le_of_ble_eq_true rfl, Nat.le_of_ble_eq_true rfl⟩) (wrV (wc := MW G hm adm u4) hK hP hD hN [0, 1, 2, 3, 4, 5, 6, 7, 8, 9] (by decide) rfl rfl (ci := 3) rfl rfl) rfl rfl hl.1 rfl (lv_room (Nat.le_of_ble_eq_true rfl)) dX3_bringBack_65 ⟨(Nat.zero_le _), (Nat.zero_le _)⟩) hS (fun q _ h => hFc q h) hFc (fun u6 t H1 locs ht hvm hw hB hz1 hk1 hS => ?_)
  obtain ⟨u7, rfl⟩ : ∃ z, z = u6 := ⟨_, rfl⟩
  try dsimp only at hw hB
  obtain ⟨hP, hD⟩ := wrJ2 (ws := MW G hm adm u4 ++ KW G gK hk adk v) (wc := MW G hm adm u4) (wr := KW G gK hk adk v) (w1 := MW G hm adm u7) hP hD [0, 1, 2, 3, 4, 5, 6, 7, 8, 9] [10, 11, 12, 13, 14] rfl rfl (by decide) (by decide) hk1 ht hFc hB
  have hP : va_P G.1 vwCl (MW G hm adm u7 ++ KW G gK hk adk v) H1 := hP.sub [5, 6, 7, 8, 9, 10, 11, 12, 13, 14, 0, 1, 2, 3, 4] rfl
  have hD : va_D A (MW G hm adm u7 ++ KW G gK hk adk v) := hD.sub [5, 6, 7, 8, 9, 10, 11, 12, 13, 14, 0, 1, 2, 3, 4] (by decide) rfl
  have hP : va_P G.1 vwCl (MW G hm adm u7 ++ KW G gK hk adk v) H1 := hP
  have hD : va_D A (MW G hm adm u7 ++ KW G gK hk adk v) := hD
  clear hB hk1 hFc ht hz1 hvm
  generalize H1 = H at hP hS ⊢
  have w8 := hw; clear hw
  have oku7 : rOK ulo uhi u7 := w8.1
  have hR : relU q u7 := ⟨by rw [w8.2.1 1 (by decide), fe1]; exact g1, by rw [w8.2.1 2 (by decide), fe2]; exact g2, by rw [w8.2.1 3 (by decide), fe3]; exact g3, by rw [w8.2.1 6 (by decide)]; exact hc9, w8.2.2, fun z z0 z1 => by rw [w8.2.1 8 (by decide)]; exact (fd8 z z0 z1).trans (rel8 hrel0 z0 z1), fun z z0 z1 => by rw [w8.2.1 9 (by decide)]; exact (fd9 z z0 z1).trans (rel9 hrel0 z0 z1), by rw [w8.2.1 10 (by decide)]; exact (fd10 0 (by decide) (by decide)).trans (rel10_0 hrel0), by rw [w8.2.1 10 (by decide)]; exact (fd10 1 (by decide) (by decide)).trans (rel10_1 hrel0), by rw [w8.2.1 10 (by decide)]; exact hl9⟩
  exact W.vret hx hb hr (fun t ht hW => ⟨⟨u7, rfl, by exact ⟨oku7, hR, by rw [w8.2.1 0 (by decide), fe0], by rw [w8.2.1 4 (by decide), fe4], by rw [w8.2.1 5 (by decide), fe5]⟩, by rw [ht]; exact hP, hD⟩, hS.F ht⟩) hS.2.2 dX3_bringBack_68
