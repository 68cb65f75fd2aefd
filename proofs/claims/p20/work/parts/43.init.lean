/-! 43.init: the constructors -/
def AZ (G : mf_G) (h n : Nat) (v : mf_V) : va_W := [(h, .inl (G.2.2, n, .inl (ia (v 0))))]
theorem wrS {G : mf_G} {s : State} {H : Heap} {ws wc : va_W} {A : Nat → Prop} {As : List Value} (hK : va_K G.1 vwCl (mf_ty G) s) (hP : va_P G.1 vwCl ws H) (hD : va_D A ws) (hN : NW s) (is : List Nat) (hn : va_nd is = true) (hs : is.filterMap (fun i => ws[i]?) = wc) (hm : is.map (fun i => ws[i]?) = wc.map some) : PreS s H (va_Pc As (WrP G wc H.size)) As :=
  ⟨wrP_blind, fun U hU hW => ⟨rfl, by rw [hU], by rw [hU]; exact hP.sub is hs, va_K.moved hW.alike hK, (hD.sub is hn hm).weaken (fun _ _ _ _ => trivial), hN.warm hW⟩⟩
/-- a river as it is made -/
def initR (r : mf_V) : Prop := rgA 384 (r 0) (fun _ => 3) ∧ (∀ z, r 1 z = 0) ∧ (∀ z, r 2 z = 0) ∧ (∀ z, r 3 z = 0) ∧ rgA 12 (r 5) (fun _ => 3) ∧ rgA 24 (r 6) (fun z => z + 192) ∧ r 7 0 = 24 ∧ r 8 0 = 0 ∧ r 9 0 = 0
theorem zR_ok : rOK rlo rhi (fun _ _ => 0) := fun k z => by
  constructor
  · show rlo k ≤ 0; unfold rlo; split <;> decide
  · show 0 ≤ rhi k; unfold rhi; split <;> decide
theorem zF_ok : rOK flo fhi (fun _ _ => 0) := fun k z => by
  constructor
  · show flo k ≤ 0; unfold flo; decide
  · show 0 ≤ fhi k; unfold fhi; split <;> decide
theorem zU_ok {a : mf_V} (h : ∀ z, 0 ≤ a 0 z ∧ a 0 z ≤ 100) : rOK ulo uhi (fun k => if k = 10 then a 0 else fun _ => 0) := fun k z => by
  by_cases q : k = 10
  · subst q
    have g := h z
    show (0 : Int) ≤ a 0 z ∧ a 0 z ≤ 100000000
    omega
  · show ulo k ≤ (if k = 10 then a 0 else fun _ => 0) z ∧ (if k = 10 then a 0 else fun _ => 0) z ≤ uhi k
    rw [if_neg q]
    constructor
    · show ulo k ≤ 0; unfold ulo; split <;> decide
    · show 0 ≤ uhi k; unfold uhi; split <;> decide
theorem crs0 {r : mf_V} (h6 : rgA 24 (r 6) (fun z => z + 192)) (h7 : r 7 0 = 24) : crsOK r := by
  refine ⟨by omega, fun i h0 h1 => ?_, fun i j h0 h1 h2 h3 e => ?_⟩
  · rw [h6 i h0 (by omega), h6 (i + 1) (by omega) (by omega)]
    have n1 := nbr1 (x := i + 192) (by omega) (by omega)
    exact adj_of (d := 1) (by show nbr (i + 192) 1 = i + 1 + 192; omega) (by show ¬ i + 1 + 192 = -1; omega)
  · rw [h6 i h0 (by omega), h6 j h2 (by omega)] at e
    have e2 : i + 192 = j + 192 := e
    omega
set_option maxHeartbeats 4000000 in
set_option maxRecDepth 100000 in
theorem c_X1_init (l : Launch) (G : mf_G) (h : Nat) (sz : Nat) : Met l yX1_init wsX1_init ({ frames := 3, cells := 11, slots := 2916, locals := 68 }) (va_Pc [.ref h] (WrP G (CW h 1 [.null, .null, .null, .null, .null, .null, .null, .int (iI (0)), .int (iI (0)), .int (iI (0)), .null, .null, .null, .null]) sz)) (va_Qv (fun (u9 : (Nat → Nat) × mf_V) => rOK rlo rhi u9.2 ∧ RInv u9.2 ∧ initR u9.2) (fun (u9 : (Nat → Nat) × mf_V) t => WrQ G (va_A (CW h 1 [.null, .null, .null, .null, .null, .null, .null, .int (iI (0)), .int (iI (0)), .int (iI (0)), .null, .null, .null, .null]) sz) (RW G h u9.1 u9.2) t) (va_A (CW h 1 [.null, .null, .null, .null, .null, .null, .null, .int (iI (0)), .int (iI (0)), .int (iI (0)), .null, .null, .null, .null]) sz)) 11 2916 (va_A (CW h 1 [.null, .null, .null, .null, .null, .null, .null, .int (iI (0)), .int (iI (0)), .int (iI (0)), .null, .null, .null, .null]) sz) := by
  refine Met.ofW (cc := cX1_init) (maxL := 2) (ret := none) (by decide) rfl ?_
  intro p e s m args below meth c s₁ B hml hv
  have hin : meth.name = "<init>" := (name_of_methodNamed B.named B.method).1
  obtain ⟨rfl, hsz, hP, hK, hD0, hN⟩ := hv
  have hx := B.exec
  have hb := B.bytes
  have hr := B.returns
  have hts := atoms_spec (ws := wsX1_init) B.pre
  have hown : s.vm.findClass RX1 = some m.cls := findClass_of_methodNamed B.named
  have hlocks := B.notSynchronized
  have hinX1 : ∀ w ∈ u_ws RX1 TX1 14, w ∈ wsX1_init := fun w h => List.mem_cons_of_mem _ (List.mem_append_right _ h)
  subst hsz
  have hD := hD0.self (sz := s.heap.size)
  generalize hAe : va_A (CW h 1 [.null, .null, .null, .null, .null, .null, .null, .int (iI (0)), .int (iI (0)), .int (iI (0)), .null, .null, .null, .null]) s.heap.size = A at hD ⊢
  have hA : ∀ q : Nat, s.heap.size ≤ q → A q := fun q h => by rw [← hAe]; exact Or.inr h
  have hS : va_S A s.heap s.heap [] := va_S.rf
  have hl := lv_entry ([.ref h]) (n := 2) (Nat.le_of_ble_eq_true rfl)
  rw [lg_entry_eq]
  generalize (lg_sl ([.ref h]) ++ List.replicate (2 - (lg_sl ([.ref h])).length) Slot.unset).toArray = ls at hl ⊢
  have hl : lv_has ls 2 [(0, .ref h)] := hl
  refine lv_aload_n hx hb dX1_init_0 rfl (lv_at hl 0 rfl) ?_
  refine W.objInit hx hb hown (hts (.methodLink RX1 3 objectInit) (List.mem_of_getElem? (i := 1) rfl)) (hts (.instanceMethod objectInit) (List.mem_of_getElem? (i := 2) rfl)) (hts (.code objectInit ⟨#[0xb1]⟩ 1 none) (List.mem_of_getElem? (i := 3) rfl)) rfl (by rw [hml]; exact hl.1) rfl dX1_init_1 (Nat.le_of_ble_eq_true rfl) (Nat.le_of_ble_eq_true rfl) ?_
  refine W.eq (g2 := F0 m 4 ls []) rfl ?_
  refine lv_aload_n hx hb dX1_init_4 rfl (lv_at hl 0 rfl) ?_
  refine mf_sipush hx hb dX1_init_5 rfl ?_
  refine mf_newi hx hb (hts (.arrayClass .int) (List.mem_of_getElem? (i := 4) rfl)) hK hP hD hS hA (n := 384) (N := 384) rfl (Nat.le_of_ble_eq_true rfl) (Nat.le_of_ble_eq_true rfl) (Nat.le_of_ble_eq_true rfl) dX1_init_8 (fun na1 H hP hD hS => ?_)
  obtain ⟨av2, eav2⟩ : ∃ z9 : mf_V, z9 = fun _ _ => 0 := ⟨_, rfl⟩
  have hP : va_P G.1 vwCl (CW h 1 [.null, .null, .null, .null, .null, .null, .null, .int (iI (0)), .int (iI (0)), .int (iI (0)), .null, .null, .null, .null] ++ AW G na1 384 av2) H := by rw [eav2]; exact hP
  have hD : va_D A (CW h 1 [.null, .null, .null, .null, .null, .null, .null, .int (iI (0)), .int (iI (0)), .int (iI (0)), .null, .null, .null, .null] ++ AW G na1 384 av2) := by rw [eav2]; exact hD
  refine va_putF (D := G.1) (ci := 1) (v := .ref na1) (ty := .array .int) (C := RX1) (T := TX1) (N := 14) hx hb hts hinX1 tyX1 tyX1_ok nmX1 hown hK hP hD hS 0 rfl rfl 0 (by decide) (hts (.fieldLink RX1 9 "MeanderFarm$River" "hardness" "[I") (List.mem_of_getElem? (i := 5) rfl)) (fun _ h9 => h9) rfl hin rfl (by decide +kernel) rfl rfl (Nat.le_of_ble_eq_true rfl) dX1_init_10 (fun H locs hP hD hS => ?_)
  have hP : va_P G.1 vwCl (CW h 1 [.ref na1, .null, .null, .null, .null, .null, .null, .int (iI (0)), .int (iI (0)), .int (iI (0)), .null, .null, .null, .null] ++ AW G na1 384 av2) H := hP
  have hD : va_D A (CW h 1 [.ref na1, .null, .null, .null, .null, .null, .null, .int (iI (0)), .int (iI (0)), .int (iI (0)), .null, .null, .null, .null] ++ AW G na1 384 av2) := hD
  refine lv_aload_n hx hb dX1_init_13 rfl (lv_at hl 0 rfl) ?_
  refine mf_sipush hx hb dX1_init_14 rfl ?_
  refine mf_newi hx hb (hts (.arrayClass .int) (List.mem_of_getElem? (i := 4) rfl)) hK hP hD hS hA (n := 384) (N := 384) rfl (Nat.le_of_ble_eq_true rfl) (Nat.le_of_ble_eq_true rfl) (Nat.le_of_ble_eq_true rfl) dX1_init_17 (fun na3 H hP hD hS => ?_)
  obtain ⟨av4, eav4⟩ : ∃ z9 : mf_V, z9 = fun _ _ => 0 := ⟨_, rfl⟩
  have hP : va_P G.1 vwCl (CW h 1 [.ref na1, .null, .null, .null, .null, .null, .null, .int (iI (0)), .int (iI (0)), .int (iI (0)), .null, .null, .null, .null] ++ AW G na1 384 av2 ++ AW G na3 384 av4) H := by rw [eav4]; exact hP
  have hD : va_D A (CW h 1 [.ref na1, .null, .null, .null, .null, .null, .null, .int (iI (0)), .int (iI (0)), .int (iI (0)), .null, .null, .null, .null] ++ AW G na1 384 av2 ++ AW G na3 384 av4) := by rw [eav4]; exact hD
  refine va_putF (D := G.1) (ci := 1) (v := .ref na3) (ty := .array .int) (C := RX1) (T := TX1) (N := 14) hx hb hts hinX1 tyX1 tyX1_ok nmX1 hown hK hP hD hS 0 rfl rfl 1 (by decide) (hts (.fieldLink RX1 15 "MeanderFarm$River" "wear" "[I") (List.mem_of_getElem? (i := 6) rfl)) (fun _ h9 => h9) rfl hin rfl (by decide +kernel) rfl rfl (Nat.le_of_ble_eq_true rfl) dX1_init_19 (fun H locs hP hD hS => ?_)
  have hP : va_P G.1 vwCl (CW h 1 [.ref na1, .ref na3, .null, .null, .null, .null, .null, .int (iI (0)), .int (iI (0)), .int (iI (0)), .null, .null, .null, .null] ++ AW G na1 384 av2 ++ AW G na3 384 av4) H := hP
  have hD : va_D A (CW h 1 [.ref na1, .ref na3, .null, .null, .null, .null, .null, .int (iI (0)), .int (iI (0)), .int (iI (0)), .null, .null, .null, .null] ++ AW G na1 384 av2 ++ AW G na3 384 av4) := hD
  refine lv_aload_n hx hb dX1_init_22 rfl (lv_at hl 0 rfl) ?_
  refine mf_sipush hx hb dX1_init_23 rfl ?_
  refine mf_newz hx hb (hts (.arrayClass .boolean) (List.mem_of_getElem? (i := 7) rfl)) hK hP hD hS hA (n := 384) (N := 384) rfl (Nat.le_of_ble_eq_true rfl) (Nat.le_of_ble_eq_true rfl) (Nat.le_of_ble_eq_true rfl) dX1_init_26 (fun na5 H hP hD hS => ?_)
  obtain ⟨av6, eav6⟩ : ∃ z9 : mf_V, z9 = fun _ _ => 0 := ⟨_, rfl⟩
  have hP : va_P G.1 vwCl (CW h 1 [.ref na1, .ref na3, .null, .null, .null, .null, .null, .int (iI (0)), .int (iI (0)), .int (iI (0)), .null, .null, .null, .null] ++ AW G na1 384 av2 ++ AW G na3 384 av4 ++ AZ G na5 384 av6) H := by rw [eav6]; exact hP
  have hD : va_D A (CW h 1 [.ref na1, .ref na3, .null, .null, .null, .null, .null, .int (iI (0)), .int (iI (0)), .int (iI (0)), .null, .null, .null, .null] ++ AW G na1 384 av2 ++ AW G na3 384 av4 ++ AZ G na5 384 av6) := by rw [eav6]; exact hD
  refine va_putF (D := G.1) (ci := 1) (v := .ref na5) (ty := .array .boolean) (C := RX1) (T := TX1) (N := 14) hx hb hts hinX1 tyX1 tyX1_ok nmX1 hown hK hP hD hS 0 rfl rfl 2 (by decide) (hts (.fieldLink RX1 18 "MeanderFarm$River" "stones" "[Z") (List.mem_of_getElem? (i := 8) rfl)) (fun _ h9 => h9) rfl hin rfl (by decide +kernel) rfl rfl (Nat.le_of_ble_eq_true rfl) dX1_init_28 (fun H locs hP hD hS => ?_)
  have hP : va_P G.1 vwCl (CW h 1 [.ref na1, .ref na3, .ref na5, .null, .null, .null, .null, .int (iI (0)), .int (iI (0)), .int (iI (0)), .null, .null, .null, .null] ++ AW G na1 384 av2 ++ AW G na3 384 av4 ++ AZ G na5 384 av6) H := hP
  have hD : va_D A (CW h 1 [.ref na1, .ref na3, .ref na5, .null, .null, .null, .null, .int (iI (0)), .int (iI (0)), .int (iI (0)), .null, .null, .null, .null] ++ AW G na1 384 av2 ++ AW G na3 384 av4 ++ AZ G na5 384 av6) := hD
  refine lv_aload_n hx hb dX1_init_31 rfl (lv_at hl 0 rfl) ?_
  refine mf_sipush hx hb dX1_init_32 rfl ?_
  refine mf_newi hx hb (hts (.arrayClass .int) (List.mem_of_getElem? (i := 4) rfl)) hK hP hD hS hA (n := 384) (N := 384) rfl (Nat.le_of_ble_eq_true rfl) (Nat.le_of_ble_eq_true rfl) (Nat.le_of_ble_eq_true rfl) dX1_init_35 (fun na7 H hP hD hS => ?_)
  obtain ⟨av8, eav8⟩ : ∃ z9 : mf_V, z9 = fun _ _ => 0 := ⟨_, rfl⟩
  have hP : va_P G.1 vwCl (CW h 1 [.ref na1, .ref na3, .ref na5, .null, .null, .null, .null, .int (iI (0)), .int (iI (0)), .int (iI (0)), .null, .null, .null, .null] ++ AW G na1 384 av2 ++ AW G na3 384 av4 ++ AZ G na5 384 av6 ++ AW G na7 384 av8) H := by rw [eav8]; exact hP
  have hD : va_D A (CW h 1 [.ref na1, .ref na3, .ref na5, .null, .null, .null, .null, .int (iI (0)), .int (iI (0)), .int (iI (0)), .null, .null, .null, .null] ++ AW G na1 384 av2 ++ AW G na3 384 av4 ++ AZ G na5 384 av6 ++ AW G na7 384 av8) := by rw [eav8]; exact hD
  refine va_putF (D := G.1) (ci := 1) (v := .ref na7) (ty := .array .int) (C := RX1) (T := TX1) (N := 14) hx hb hts hinX1 tyX1 tyX1_ok nmX1 hown hK hP hD hS 0 rfl rfl 3 (by decide) (hts (.fieldLink RX1 22 "MeanderFarm$River" "lakeEnd" "[I") (List.mem_of_getElem? (i := 9) rfl)) (fun _ h9 => h9) rfl hin rfl (by decide +kernel) rfl rfl (Nat.le_of_ble_eq_true rfl) dX1_init_37 (fun H locs hP hD hS => ?_)
  have hP : va_P G.1 vwCl (CW h 1 [.ref na1, .ref na3, .ref na5, .ref na7, .null, .null, .null, .int (iI (0)), .int (iI (0)), .int (iI (0)), .null, .null, .null, .null] ++ AW G na1 384 av2 ++ AW G na3 384 av4 ++ AZ G na5 384 av6 ++ AW G na7 384 av8) H := hP
  have hD : va_D A (CW h 1 [.ref na1, .ref na3, .ref na5, .ref na7, .null, .null, .null, .int (iI (0)), .int (iI (0)), .int (iI (0)), .null, .null, .null, .null] ++ AW G na1 384 av2 ++ AW G na3 384 av4 ++ AZ G na5 384 av6 ++ AW G na7 384 av8) := hD
  refine lv_aload_n hx hb dX1_init_40 rfl (lv_at hl 0 rfl) ?_
  refine mf_sipush hx hb dX1_init_41 rfl ?_
  refine mf_newz hx hb (hts (.arrayClass .boolean) (List.mem_of_getElem? (i := 7) rfl)) hK hP hD hS hA (n := 384) (N := 384) rfl (Nat.le_of_ble_eq_true rfl) (Nat.le_of_ble_eq_true rfl) (Nat.le_of_ble_eq_true rfl) dX1_init_44 (fun na9 H hP hD hS => ?_)
  obtain ⟨av10, eav10⟩ : ∃ z9 : mf_V, z9 = fun _ _ => 0 := ⟨_, rfl⟩
  have hP : va_P G.1 vwCl (CW h 1 [.ref na1, .ref na3, .ref na5, .ref na7, .null, .null, .null, .int (iI (0)), .int (iI (0)), .int (iI (0)), .null, .null, .null, .null] ++ AW G na1 384 av2 ++ AW G na3 384 av4 ++ AZ G na5 384 av6 ++ AW G na7 384 av8 ++ AZ G na9 384 av10) H := by rw [eav10]; exact hP
  have hD : va_D A (CW h 1 [.ref na1, .ref na3, .ref na5, .ref na7, .null, .null, .null, .int (iI (0)), .int (iI (0)), .int (iI (0)), .null, .null, .null, .null] ++ AW G na1 384 av2 ++ AW G na3 384 av4 ++ AZ G na5 384 av6 ++ AW G na7 384 av8 ++ AZ G na9 384 av10) := by rw [eav10]; exact hD
  refine va_putF (D := G.1) (ci := 1) (v := .ref na9) (ty := .array .boolean) (C := RX1) (T := TX1) (N := 14) hx hb hts hinX1 tyX1 tyX1_ok nmX1 hown hK hP hD hS 0 rfl rfl 4 (by decide) (hts (.fieldLink RX1 25 "MeanderFarm$River" "bulgedInto" "[Z") (List.mem_of_getElem? (i := 10) rfl)) (fun _ h9 => h9) rfl hin rfl (by decide +kernel) rfl rfl (Nat.le_of_ble_eq_true rfl) dX1_init_46 (fun H locs hP hD hS => ?_)
  have hP : va_P G.1 vwCl (CW h 1 [.ref na1, .ref na3, .ref na5, .ref na7, .ref na9, .null, .null, .int (iI (0)), .int (iI (0)), .int (iI (0)), .null, .null, .null, .null] ++ AW G na1 384 av2 ++ AW G na3 384 av4 ++ AZ G na5 384 av6 ++ AW G na7 384 av8 ++ AZ G na9 384 av10) H := hP
  have hD : va_D A (CW h 1 [.ref na1, .ref na3, .ref na5, .ref na7, .ref na9, .null, .null, .int (iI (0)), .int (iI (0)), .int (iI (0)), .null, .null, .null, .null] ++ AW G na1 384 av2 ++ AW G na3 384 av4 ++ AZ G na5 384 av6 ++ AW G na7 384 av8 ++ AZ G na9 384 av10) := hD
  refine lv_aload_n hx hb dX1_init_49 rfl (lv_at hl 0 rfl) ?_
  refine mf_bipush hx hb dX1_init_50 rfl ?_
  refine mf_newi hx hb (hts (.arrayClass .int) (List.mem_of_getElem? (i := 4) rfl)) hK hP hD hS hA (n := 12) (N := 12) rfl (Nat.le_of_ble_eq_true rfl) (Nat.le_of_ble_eq_true rfl) (Nat.le_of_ble_eq_true rfl) dX1_init_52 (fun na11 H hP hD hS => ?_)
  obtain ⟨av12, eav12⟩ : ∃ z9 : mf_V, z9 = fun _ _ => 0 := ⟨_, rfl⟩
  have hP : va_P G.1 vwCl (CW h 1 [.ref na1, .ref na3, .ref na5, .ref na7, .ref na9, .null, .null, .int (iI (0)), .int (iI (0)), .int (iI (0)), .null, .null, .null, .null] ++ AW G na1 384 av2 ++ AW G na3 384 av4 ++ AZ G na5 384 av6 ++ AW G na7 384 av8 ++ AZ G na9 384 av10 ++ AW G na11 12 av12) H := by rw [eav12]; exact hP
  have hD : va_D A (CW h 1 [.ref na1, .ref na3, .ref na5, .ref na7, .ref na9, .null, .null, .int (iI (0)), .int (iI (0)), .int (iI (0)), .null, .null, .null, .null] ++ AW G na1 384 av2 ++ AW G na3 384 av4 ++ AZ G na5 384 av6 ++ AW G na7 384 av8 ++ AZ G na9 384 av10 ++ AW G na11 12 av12) := by rw [eav12]; exact hD
  refine va_putF (D := G.1) (ci := 1) (v := .ref na11) (ty := .array .int) (C := RX1) (T := TX1) (N := 14) hx hb hts hinX1 tyX1 tyX1_ok nmX1 hown hK hP hD hS 0 rfl rfl 5 (by decide) (hts (.fieldLink RX1 28 "MeanderFarm$River" "flow" "[I") (List.mem_of_getElem? (i := 11) rfl)) (fun _ h9 => h9) rfl hin rfl (by decide +kernel) rfl rfl (Nat.le_of_ble_eq_true rfl) dX1_init_54 (fun H locs hP hD hS => ?_)
  have hP : va_P G.1 vwCl (CW h 1 [.ref na1, .ref na3, .ref na5, .ref na7, .ref na9, .ref na11, .null, .int (iI (0)), .int (iI (0)), .int (iI (0)), .null, .null, .null, .null] ++ AW G na1 384 av2 ++ AW G na3 384 av4 ++ AZ G na5 384 av6 ++ AW G na7 384 av8 ++ AZ G na9 384 av10 ++ AW G na11 12 av12) H := hP
  have hD : va_D A (CW h 1 [.ref na1, .ref na3, .ref na5, .ref na7, .ref na9, .ref na11, .null, .int (iI (0)), .int (iI (0)), .int (iI (0)), .null, .null, .null, .null] ++ AW G na1 384 av2 ++ AW G na3 384 av4 ++ AZ G na5 384 av6 ++ AW G na7 384 av8 ++ AZ G na9 384 av10 ++ AW G na11 12 av12) := hD
  refine lv_aload_n hx hb dX1_init_57 rfl (lv_at hl 0 rfl) ?_
  refine mf_sipush hx hb dX1_init_58 rfl ?_
  refine mf_newi hx hb (hts (.arrayClass .int) (List.mem_of_getElem? (i := 4) rfl)) hK hP hD hS hA (n := 150) (N := 150) rfl (Nat.le_of_ble_eq_true rfl) (Nat.le_of_ble_eq_true rfl) (Nat.le_of_ble_eq_true rfl) dX1_init_61 (fun na13 H hP hD hS => ?_)
  obtain ⟨av14, eav14⟩ : ∃ z9 : mf_V, z9 = fun _ _ => 0 := ⟨_, rfl⟩
  have hP : va_P G.1 vwCl (CW h 1 [.ref na1, .ref na3, .ref na5, .ref na7, .ref na9, .ref na11, .null, .int (iI (0)), .int (iI (0)), .int (iI (0)), .null, .null, .null, .null] ++ AW G na1 384 av2 ++ AW G na3 384 av4 ++ AZ G na5 384 av6 ++ AW G na7 384 av8 ++ AZ G na9 384 av10 ++ AW G na11 12 av12 ++ AW G na13 150 av14) H := by rw [eav14]; exact hP
  have hD : va_D A (CW h 1 [.ref na1, .ref na3, .ref na5, .ref na7, .ref na9, .ref na11, .null, .int (iI (0)), .int (iI (0)), .int (iI (0)), .null, .null, .null, .null] ++ AW G na1 384 av2 ++ AW G na3 384 av4 ++ AZ G na5 384 av6 ++ AW G na7 384 av8 ++ AZ G na9 384 av10 ++ AW G na11 12 av12 ++ AW G na13 150 av14) := by rw [eav14]; exact hD
  refine va_putF (D := G.1) (ci := 1) (v := .ref na13) (ty := .array .int) (C := RX1) (T := TX1) (N := 14) hx hb hts hinX1 tyX1 tyX1_ok nmX1 hown hK hP hD hS 0 rfl rfl 6 (by decide) (hts (.fieldLink RX1 31 "MeanderFarm$River" "course" "[I") (List.mem_of_getElem? (i := 12) rfl)) (fun _ h9 => h9) rfl hin rfl (by decide +kernel) rfl rfl (Nat.le_of_ble_eq_true rfl) dX1_init_63 (fun H locs hP hD hS => ?_)
  have hP : va_P G.1 vwCl (CW h 1 [.ref na1, .ref na3, .ref na5, .ref na7, .ref na9, .ref na11, .ref na13, .int (iI (0)), .int (iI (0)), .int (iI (0)), .null, .null, .null, .null] ++ AW G na1 384 av2 ++ AW G na3 384 av4 ++ AZ G na5 384 av6 ++ AW G na7 384 av8 ++ AZ G na9 384 av10 ++ AW G na11 12 av12 ++ AW G na13 150 av14) H := hP
  have hD : va_D A (CW h 1 [.ref na1, .ref na3, .ref na5, .ref na7, .ref na9, .ref na11, .ref na13, .int (iI (0)), .int (iI (0)), .int (iI (0)), .null, .null, .null, .null] ++ AW G na1 384 av2 ++ AW G na3 384 av4 ++ AZ G na5 384 av6 ++ AW G na7 384 av8 ++ AZ G na9 384 av10 ++ AW G na11 12 av12 ++ AW G na13 150 av14) := hD
  refine lv_aload_n hx hb dX1_init_66 rfl (lv_at hl 0 rfl) ?_
  refine mf_sipush hx hb dX1_init_67 rfl ?_
  refine mf_newi hx hb (hts (.arrayClass .int) (List.mem_of_getElem? (i := 4) rfl)) hK hP hD hS hA (n := 384) (N := 384) rfl (Nat.le_of_ble_eq_true rfl) (Nat.le_of_ble_eq_true rfl) (Nat.le_of_ble_eq_true rfl) dX1_init_70 (fun na15 H hP hD hS => ?_)
  obtain ⟨av16, eav16⟩ : ∃ z9 : mf_V, z9 = fun _ _ => 0 := ⟨_, rfl⟩
  have hP : va_P G.1 vwCl (CW h 1 [.ref na1, .ref na3, .ref na5, .ref na7, .ref na9, .ref na11, .ref na13, .int (iI (0)), .int (iI (0)), .int (iI (0)), .null, .null, .null, .null] ++ AW G na1 384 av2 ++ AW G na3 384 av4 ++ AZ G na5 384 av6 ++ AW G na7 384 av8 ++ AZ G na9 384 av10 ++ AW G na11 12 av12 ++ AW G na13 150 av14 ++ AW G na15 384 av16) H := by rw [eav16]; exact hP
  have hD : va_D A (CW h 1 [.ref na1, .ref na3, .ref na5, .ref na7, .ref na9, .ref na11, .ref na13, .int (iI (0)), .int (iI (0)), .int (iI (0)), .null, .null, .null, .null] ++ AW G na1 384 av2 ++ AW G na3 384 av4 ++ AZ G na5 384 av6 ++ AW G na7 384 av8 ++ AZ G na9 384 av10 ++ AW G na11 12 av12 ++ AW G na13 150 av14 ++ AW G na15 384 av16) := by rw [eav16]; exact hD
  refine va_putF (D := G.1) (ci := 1) (v := .ref na15) (ty := .array .int) (C := RX1) (T := TX1) (N := 14) hx hb hts hinX1 tyX1 tyX1_ok nmX1 hown hK hP hD hS 0 rfl rfl 10 (by decide) (hts (.fieldLink RX1 34 "MeanderFarm$River" "place" "[I") (List.mem_of_getElem? (i := 13) rfl)) (fun _ h9 => h9) rfl hin rfl (by decide +kernel) rfl rfl (Nat.le_of_ble_eq_true rfl) dX1_init_72 (fun H locs hP hD hS => ?_)
  have hP : va_P G.1 vwCl (CW h 1 [.ref na1, .ref na3, .ref na5, .ref na7, .ref na9, .ref na11, .ref na13, .int (iI (0)), .int (iI (0)), .int (iI (0)), .ref na15, .null, .null, .null] ++ AW G na1 384 av2 ++ AW G na3 384 av4 ++ AZ G na5 384 av6 ++ AW G na7 384 av8 ++ AZ G na9 384 av10 ++ AW G na11 12 av12 ++ AW G na13 150 av14 ++ AW G na15 384 av16) H := hP
  have hD : va_D A (CW h 1 [.ref na1, .ref na3, .ref na5, .ref na7, .ref na9, .ref na11, .ref na13, .int (iI (0)), .int (iI (0)), .int (iI (0)), .ref na15, .null, .null, .null] ++ AW G na1 384 av2 ++ AW G na3 384 av4 ++ AZ G na5 384 av6 ++ AW G na7 384 av8 ++ AZ G na9 384 av10 ++ AW G na11 12 av12 ++ AW G na13 150 av14 ++ AW G na15 384 av16) := hD
  refine lv_aload_n hx hb dX1_init_75 rfl (lv_at hl 0 rfl) ?_
  refine mf_sipush hx hb dX1_init_76 rfl ?_
  refine mf_newi hx hb (hts (.arrayClass .int) (List.mem_of_getElem? (i := 4) rfl)) hK hP hD hS hA (n := 150) (N := 150) rfl (Nat.le_of_ble_eq_true rfl) (Nat.le_of_ble_eq_true rfl) (Nat.le_of_ble_eq_true rfl) dX1_init_79 (fun na17 H hP hD hS => ?_)
  obtain ⟨av18, eav18⟩ : ∃ z9 : mf_V, z9 = fun _ _ => 0 := ⟨_, rfl⟩
  have hP : va_P G.1 vwCl (CW h 1 [.ref na1, .ref na3, .ref na5, .ref na7, .ref na9, .ref na11, .ref na13, .int (iI (0)), .int (iI (0)), .int (iI (0)), .ref na15, .null, .null, .null] ++ AW G na1 384 av2 ++ AW G na3 384 av4 ++ AZ G na5 384 av6 ++ AW G na7 384 av8 ++ AZ G na9 384 av10 ++ AW G na11 12 av12 ++ AW G na13 150 av14 ++ AW G na15 384 av16 ++ AW G na17 150 av18) H := by rw [eav18]; exact hP
  have hD : va_D A (CW h 1 [.ref na1, .ref na3, .ref na5, .ref na7, .ref na9, .ref na11, .ref na13, .int (iI (0)), .int (iI (0)), .int (iI (0)), .ref na15, .null, .null, .null] ++ AW G na1 384 av2 ++ AW G na3 384 av4 ++ AZ G na5 384 av6 ++ AW G na7 384 av8 ++ AZ G na9 384 av10 ++ AW G na11 12 av12 ++ AW G na13 150 av14 ++ AW G na15 384 av16 ++ AW G na17 150 av18) := by rw [eav18]; exact hD
  refine va_putF (D := G.1) (ci := 1) (v := .ref na17) (ty := .array .int) (C := RX1) (T := TX1) (N := 14) hx hb hts hinX1 tyX1 tyX1_ok nmX1 hown hK hP hD hS 0 rfl rfl 11 (by decide) (hts (.fieldLink RX1 37 "MeanderFarm$River" "direction" "[I") (List.mem_of_getElem? (i := 14) rfl)) (fun _ h9 => h9) rfl hin rfl (by decide +kernel) rfl rfl (Nat.le_of_ble_eq_true rfl) dX1_init_81 (fun H locs hP hD hS => ?_)
  have hP : va_P G.1 vwCl (CW h 1 [.ref na1, .ref na3, .ref na5, .ref na7, .ref na9, .ref na11, .ref na13, .int (iI (0)), .int (iI (0)), .int (iI (0)), .ref na15, .ref na17, .null, .null] ++ AW G na1 384 av2 ++ AW G na3 384 av4 ++ AZ G na5 384 av6 ++ AW G na7 384 av8 ++ AZ G na9 384 av10 ++ AW G na11 12 av12 ++ AW G na13 150 av14 ++ AW G na15 384 av16 ++ AW G na17 150 av18) H := hP
  have hD : va_D A (CW h 1 [.ref na1, .ref na3, .ref na5, .ref na7, .ref na9, .ref na11, .ref na13, .int (iI (0)), .int (iI (0)), .int (iI (0)), .ref na15, .ref na17, .null, .null] ++ AW G na1 384 av2 ++ AW G na3 384 av4 ++ AZ G na5 384 av6 ++ AW G na7 384 av8 ++ AZ G na9 384 av10 ++ AW G na11 12 av12 ++ AW G na13 150 av14 ++ AW G na15 384 av16 ++ AW G na17 150 av18) := hD
  refine lv_aload_n hx hb dX1_init_84 rfl (lv_at hl 0 rfl) ?_
  refine mf_sipush hx hb dX1_init_85 rfl ?_
  refine mf_newi hx hb (hts (.arrayClass .int) (List.mem_of_getElem? (i := 4) rfl)) hK hP hD hS hA (n := 150) (N := 150) rfl (Nat.le_of_ble_eq_true rfl) (Nat.le_of_ble_eq_true rfl) (Nat.le_of_ble_eq_true rfl) dX1_init_88 (fun na19 H hP hD hS => ?_)
  obtain ⟨av20, eav20⟩ : ∃ z9 : mf_V, z9 = fun _ _ => 0 := ⟨_, rfl⟩
  have hP : va_P G.1 vwCl (CW h 1 [.ref na1, .ref na3, .ref na5, .ref na7, .ref na9, .ref na11, .ref na13, .int (iI (0)), .int (iI (0)), .int (iI (0)), .ref na15, .ref na17, .null, .null] ++ AW G na1 384 av2 ++ AW G na3 384 av4 ++ AZ G na5 384 av6 ++ AW G na7 384 av8 ++ AZ G na9 384 av10 ++ AW G na11 12 av12 ++ AW G na13 150 av14 ++ AW G na15 384 av16 ++ AW G na17 150 av18 ++ AW G na19 150 av20) H := by rw [eav20]; exact hP
  have hD : va_D A (CW h 1 [.ref na1, .ref na3, .ref na5, .ref na7, .ref na9, .ref na11, .ref na13, .int (iI (0)), .int (iI (0)), .int (iI (0)), .ref na15, .ref na17, .null, .null] ++ AW G na1 384 av2 ++ AW G na3 384 av4 ++ AZ G na5 384 av6 ++ AW G na7 384 av8 ++ AZ G na9 384 av10 ++ AW G na11 12 av12 ++ AW G na13 150 av14 ++ AW G na15 384 av16 ++ AW G na17 150 av18 ++ AW G na19 150 av20) := by rw [eav20]; exact hD
  refine va_putF (D := G.1) (ci := 1) (v := .ref na19) (ty := .array .int) (C := RX1) (T := TX1) (N := 14) hx hb hts hinX1 tyX1 tyX1_ok nmX1 hown hK hP hD hS 0 rfl rfl 12 (by decide) (hts (.fieldLink RX1 40 "MeanderFarm$River" "thrown" "[I") (List.mem_of_getElem? (i := 15) rfl)) (fun _ h9 => h9) rfl hin rfl (by decide +kernel) rfl rfl (Nat.le_of_ble_eq_true rfl) dX1_init_90 (fun H locs hP hD hS => ?_)
  have hP : va_P G.1 vwCl (CW h 1 [.ref na1, .ref na3, .ref na5, .ref na7, .ref na9, .ref na11, .ref na13, .int (iI (0)), .int (iI (0)), .int (iI (0)), .ref na15, .ref na17, .ref na19, .null] ++ AW G na1 384 av2 ++ AW G na3 384 av4 ++ AZ G na5 384 av6 ++ AW G na7 384 av8 ++ AZ G na9 384 av10 ++ AW G na11 12 av12 ++ AW G na13 150 av14 ++ AW G na15 384 av16 ++ AW G na17 150 av18 ++ AW G na19 150 av20) H := hP
  have hD : va_D A (CW h 1 [.ref na1, .ref na3, .ref na5, .ref na7, .ref na9, .ref na11, .ref na13, .int (iI (0)), .int (iI (0)), .int (iI (0)), .ref na15, .ref na17, .ref na19, .null] ++ AW G na1 384 av2 ++ AW G na3 384 av4 ++ AZ G na5 384 av6 ++ AW G na7 384 av8 ++ AZ G na9 384 av10 ++ AW G na11 12 av12 ++ AW G na13 150 av14 ++ AW G na15 384 av16 ++ AW G na17 150 av18 ++ AW G na19 150 av20) := hD
  refine lv_aload_n hx hb dX1_init_93 rfl (lv_at hl 0 rfl) ?_
  refine mf_sipush hx hb dX1_init_94 rfl ?_
  refine mf_newi hx hb (hts (.arrayClass .int) (List.mem_of_getElem? (i := 4) rfl)) hK hP hD hS hA (n := 150) (N := 150) rfl (Nat.le_of_ble_eq_true rfl) (Nat.le_of_ble_eq_true rfl) (Nat.le_of_ble_eq_true rfl) dX1_init_97 (fun na21 H hP hD hS => ?_)
  obtain ⟨av22, eav22⟩ : ∃ z9 : mf_V, z9 = fun _ _ => 0 := ⟨_, rfl⟩
  have hP : va_P G.1 vwCl (CW h 1 [.ref na1, .ref na3, .ref na5, .ref na7, .ref na9, .ref na11, .ref na13, .int (iI (0)), .int (iI (0)), .int (iI (0)), .ref na15, .ref na17, .ref na19, .null] ++ AW G na1 384 av2 ++ AW G na3 384 av4 ++ AZ G na5 384 av6 ++ AW G na7 384 av8 ++ AZ G na9 384 av10 ++ AW G na11 12 av12 ++ AW G na13 150 av14 ++ AW G na15 384 av16 ++ AW G na17 150 av18 ++ AW G na19 150 av20 ++ AW G na21 150 av22) H := by rw [eav22]; exact hP
  have hD : va_D A (CW h 1 [.ref na1, .ref na3, .ref na5, .ref na7, .ref na9, .ref na11, .ref na13, .int (iI (0)), .int (iI (0)), .int (iI (0)), .ref na15, .ref na17, .ref na19, .null] ++ AW G na1 384 av2 ++ AW G na3 384 av4 ++ AZ G na5 384 av6 ++ AW G na7 384 av8 ++ AZ G na9 384 av10 ++ AW G na11 12 av12 ++ AW G na13 150 av14 ++ AW G na15 384 av16 ++ AW G na17 150 av18 ++ AW G na19 150 av20 ++ AW G na21 150 av22) := by rw [eav22]; exact hD
  refine va_putF (D := G.1) (ci := 1) (v := .ref na21) (ty := .array .int) (C := RX1) (T := TX1) (N := 14) hx hb hts hinX1 tyX1 tyX1_ok nmX1 hown hK hP hD hS 0 rfl rfl 13 (by decide) (hts (.fieldLink RX1 43 "MeanderFarm$River" "bank" "[I") (List.mem_of_getElem? (i := 16) rfl)) (fun _ h9 => h9) rfl hin rfl (by decide +kernel) rfl rfl (Nat.le_of_ble_eq_true rfl) dX1_init_99 (fun H locs hP hD hS => ?_)
  have hP : va_P G.1 vwCl (CW h 1 [.ref na1, .ref na3, .ref na5, .ref na7, .ref na9, .ref na11, .ref na13, .int (iI (0)), .int (iI (0)), .int (iI (0)), .ref na15, .ref na17, .ref na19, .ref na21] ++ AW G na1 384 av2 ++ AW G na3 384 av4 ++ AZ G na5 384 av6 ++ AW G na7 384 av8 ++ AZ G na9 384 av10 ++ AW G na11 12 av12 ++ AW G na13 150 av14 ++ AW G na15 384 av16 ++ AW G na17 150 av18 ++ AW G na19 150 av20 ++ AW G na21 150 av22) H := hP
  have hD : va_D A (CW h 1 [.ref na1, .ref na3, .ref na5, .ref na7, .ref na9, .ref na11, .ref na13, .int (iI (0)), .int (iI (0)), .int (iI (0)), .ref na15, .ref na17, .ref na19, .ref na21] ++ AW G na1 384 av2 ++ AW G na3 384 av4 ++ AZ G na5 384 av6 ++ AW G na7 384 av8 ++ AZ G na9 384 av10 ++ AW G na11 12 av12 ++ AW G na13 150 av14 ++ AW G na15 384 av16 ++ AW G na17 150 av18 ++ AW G na19 150 av20 ++ AW G na21 150 av22) := hD
  subst eav2
  subst eav4
  subst eav6
  subst eav8
  subst eav10
  subst eav12
  subst eav14
  subst eav16
  subst eav18
  subst eav20
  subst eav22
  obtain ⟨ad, ead⟩ : ∃ z9 : Nat → Nat, z9 = fun k => if k = 0 then na1 else if k = 1 then na3 else if k = 2 then na5 else if k = 3 then na7 else if k = 4 then na9 else if k = 5 then na11 else if k = 6 then na13 else if k = 10 then na15 else if k = 11 then na17 else if k = 12 then na19 else na21 := ⟨_, rfl⟩
  obtain ⟨r0, er0⟩ : ∃ z9 : mf_V, z9 = fun _ _ => 0 := ⟨_, rfl⟩
  have hP : va_P G.1 vwCl (RW G h ad r0) H := by rw [ead, er0]; exact hP
  have hD : va_D A (RW G h ad r0) := by rw [ead, er0]; exact hD
  have okr0 : rOK rlo rhi r0 := by rw [er0]; exact zR_ok
  skip
  refine mf_iconst hx hb dX1_init_102 ?_
  refine lv_istore_n (lv' := [(1, .int (iI (0))), (0, .ref h)]) hx hb dX1_init_103 rfl hl (by decide) rfl (fun ls hl => ?_)
  have lp104 : ∀ (n : Nat) (kv : Int) (ra : mf_V), (384 - kv).toNat < n → (0 ≤ kv ∧ kv ≤ 384) → (rOK rlo rhi ra) → (∀ k, k ≠ 0 → k ≠ 10 → ra k = r0 k) → (∀ z, 0 ≤ z → z < kv → ra 0 z = 3) → (∀ z, 0 ≤ z → z < kv → ra 10 z = -1) → ∀ (H : Heap) (locs : List Loc), va_P G.1 vwCl (RW G h ad ra) H → va_D A (RW G h ad ra) → va_S A s.heap H locs → ∀ (ls : Array Slot), lv_has ls 2 [(0, .ref h), (1, .int (iI (kv)))] → W p l e (headSpec wsX1_init ({ frames := 3, cells := 11, slots := 2916, locals := 68 })).room s m ([.ref h] : List Value).toArray below meth c H locs 11 2916 (MQ below (va_Qv (fun (u9 : (Nat → Nat) × mf_V) => rOK rlo rhi u9.2 ∧ RInv u9.2 ∧ initR u9.2) (fun (u9 : (Nat → Nat) × mf_V) t => WrQ G A (RW G h u9.1 u9.2) t) A) ([.ref h] : List Value).toArray s 11 2916 A) (F0 m 104 ls []) := by
    intro n
    induction n with
    | zero => intro kv ra hn; exact absurd hn (Nat.not_lt_zero _)
    | succ n ih104 =>
      intro kv ra hn hk okra hfr h0 h10 H locs hP hD hS ls hl
      refine lv_iload_n hx hb dX1_init_104 rfl (lv_at hl 1 rfl) ?_
      refine mf_sipush hx hb dX1_init_105 rfl ?_
      refine mf_icmp_ge (tgt := 131) hx hb dX1_init_108 (by decide) (i32_mk (by omega) (by omega)) (i32_mk (by decide) (by decide)) (fun c23 => ?_) (fun c23 => ?_)
      · skip
        refine mf_iconst hx hb dX1_init_131 ?_
        refine lv_istore_n (lv' := [(1, .int (iI (0))), (0, .ref h)]) hx hb dX1_init_132 rfl hl (by decide) rfl (fun ls hl => ?_)
        have lp133 : ∀ (n : Nat) (k2 : Int) (rb : mf_V), (12 - k2).toNat < n → (0 ≤ k2 ∧ k2 ≤ 12) → (rOK rlo rhi rb) → (∀ k, k ≠ 5 → rb k = ra k) → (∀ z, 0 ≤ z → z < k2 → rb 5 z = 3) → ∀ (H : Heap) (locs : List Loc), va_P G.1 vwCl (RW G h ad rb) H → va_D A (RW G h ad rb) → va_S A s.heap H locs → ∀ (ls : Array Slot), lv_has ls 2 [(0, .ref h), (1, .int (iI (k2)))] → W p l e (headSpec wsX1_init ({ frames := 3, cells := 11, slots := 2916, locals := 68 })).room s m ([.ref h] : List Value).toArray below meth c H locs 11 2916 (MQ below (va_Qv (fun (u9 : (Nat → Nat) × mf_V) => rOK rlo rhi u9.2 ∧ RInv u9.2 ∧ initR u9.2) (fun (u9 : (Nat → Nat) × mf_V) t => WrQ G A (RW G h u9.1 u9.2) t) A) ([.ref h] : List Value).toArray s 11 2916 A) (F0 m 133 ls []) := by
          intro n
          induction n with
          | zero => intro k2 rb hn; exact absurd hn (Nat.not_lt_zero _)
          | succ n ih133 =>
            intro k2 rb hn hk2 okrb hfr2 h5 H locs hP hD hS ls hl
            refine lv_iload_n hx hb dX1_init_133 rfl (lv_at hl 1 rfl) ?_
            refine mf_bipush hx hb dX1_init_134 rfl ?_
            refine mf_icmp_ge (tgt := 152) hx hb dX1_init_136 (by decide) (i32_mk (by omega) (by omega)) (i32_mk (by decide) (by decide)) (fun c24 => ?_) (fun c24 => ?_)
            · skip
              refine mf_iconst hx hb dX1_init_152 ?_
              refine lv_istore_n (lv' := [(1, .int (iI (0))), (0, .ref h)]) hx hb dX1_init_153 rfl hl (by decide) rfl (fun ls hl => ?_)
              have lp154 : ∀ (n : Nat) (k3 : Int) (rc : mf_V), (24 - k3).toNat < n → (0 ≤ k3 ∧ k3 ≤ 24) → (rOK rlo rhi rc) → (∀ k, k ≠ 6 → rc k = rb k) → (∀ z, 0 ≤ z → z < k3 → rc 6 z = z + 192) → ∀ (H : Heap) (locs : List Loc), va_P G.1 vwCl (RW G h ad rc) H → va_D A (RW G h ad rc) → va_S A s.heap H locs → ∀ (ls : Array Slot), lv_has ls 2 [(0, .ref h), (1, .int (iI (k3)))] → W p l e (headSpec wsX1_init ({ frames := 3, cells := 11, slots := 2916, locals := 68 })).room s m ([.ref h] : List Value).toArray below meth c H locs 11 2916 (MQ below (va_Qv (fun (u9 : (Nat → Nat) × mf_V) => rOK rlo rhi u9.2 ∧ RInv u9.2 ∧ initR u9.2) (fun (u9 : (Nat → Nat) × mf_V) t => WrQ G A (RW G h u9.1 u9.2) t) A) ([.ref h] : List Value).toArray s 11 2916 A) (F0 m 154 ls []) := by
                intro n
                induction n with
                | zero => intro k3 rc hn; exact absurd hn (Nat.not_lt_zero _)
                | succ n ih154 =>
                  intro k3 rc hn hk3 okrc hfr3 h6 H locs hP hD hS ls hl
                  refine lv_iload_n hx hb dX1_init_154 rfl (lv_at hl 1 rfl) ?_
                  refine mf_bipush hx hb dX1_init_155 rfl ?_
                  refine mf_icmp_ge (tgt := 177) hx hb dX1_init_157 (by decide) (i32_mk (by omega) (by omega)) (i32_mk (by decide) (by decide)) (fun c25 => ?_) (fun c25 => ?_)
                  · skip
                    refine lv_aload_n hx hb dX1_init_177 rfl (lv_at hl 0 rfl) ?_
                    refine mf_bipush hx hb dX1_init_178 rfl ?_
                    refine va_put (D := G.1) (ci := 1) (v := .int (iI (24))) (ty := .int) (C := RX1) (T := TX1) (N := 14) hx hb hts hinX1 tyX1 tyX1_ok nmX1 hown hK hP hD hS 0 rfl rfl 7 (by decide) (hts (.fieldLink RX1 46 "MeanderFarm$River" "length" "I") (List.mem_of_getElem? (i := 17) rfl)) (fun _ h9 => h9) rfl (by decide +kernel) rfl rfl (Nat.le_of_ble_eq_true rfl) dX1_init_180 (fun H locs hP hD hS => ?_)
                    obtain ⟨rc26, erc26⟩ : ∃ z9 : mf_V, z9 = mf_sF rc 7 (fun _ => 24) := ⟨_, rfl⟩
                    have hP : va_P G.1 vwCl (RW G h ad rc26) H := by rw [erc26]; exact hP
                    have hD : va_D A (RW G h ad rc26) := by rw [erc26]; exact hD
                    have okrc26 : rOK rlo rhi rc26 := by rw [erc26]; exact rOK_set okrc 7 _ (show (0 : Int) ≤ 24 by omega) (show 24 ≤ (150 : Int) by omega)
                    have f1_rc26 : ∀ y, rc26 7 y = 24 := fun y => by rw [erc26, mf_sF_s]
                    have f3_rc26 : ∀ q, q ≠ 7 → rc26 q = rc q := fun q hq => by rw [erc26, mf_sF_n hq]
                    refine lv_aload_n hx hb dX1_init_183 rfl (lv_at hl 0 rfl) ?_
                    have hcr9 : crsOK rc26 := crs0 (fun z z0 z1 => by rw [f3_rc26 6 (by decide)]; exact h6 z z0 (by omega)) (f1_rc26 0)
                    have hpm9 : ∀ c, 0 ≤ c → c < 384 → rc26 10 c = -1 := fun c c0 c1 => by rw [f3_rc26 10 (by decide), hfr3 10 (by decide), hfr2 10 (by decide)]; exact h10 c c0 (by omega)
                    have h79 : rc26 7 0 = 24 := f1_rc26 0
                    skip
                    refine mf_iconst hx hb dX1_init_184 ?_
                    have hFc := va_free (wc := RW G h ad rc26) hD hS hA [0, 1, 2, 3, 4, 5, 6, 7, 8, 9, 10, 11] rfl
                    refine va_callv (va_runV (As := [.int (iI (0))]) (rest := []) ⟨hx, hb, hml, hown, hts⟩ (c_X1_followCourse l G h ad rc26 (0) (i32_mk (by decide) (by decide)) (by assumption) (by exact hcr9) (by omega) (by intro i i0 i1; omega) (by intro c c0 c1; exact Or.inl (hpm9 c c0 c1)) (by intro i i0 i1; omega) _) (cwV 1 hts gX1_init_X1_followCourse rfl rfl rfl (by decide +kernel) ⟨Nat.le_of_ble_eq_true rfl, Nat.le_of_ble_eq_true rfl⟩) (wrV (wc := RW G h ad rc26) hK hP hD hN [0, 1, 2, 3, 4, 5, 6, 7, 8, 9, 10, 11] (by decide) rfl rfl (ci := 1) rfl rfl) rfl rfl hl.1 rfl (lv_room (Nat.le_of_ble_eq_true rfl)) dX1_init_185 ⟨(Nat.le_of_ble_eq_true rfl), (Nat.le_of_ble_eq_true rfl)⟩) hS (fun q _ h => hFc q h) hFc (fun u28 t H1 locs ht hvm hw hB hz1 hk1 hS => ?_)
                    obtain ⟨rc29, rfl⟩ : ∃ z, z = u28 := ⟨_, rfl⟩
                    try dsimp only at hw hB
                    obtain ⟨hP, hD⟩ := wrJ (ws := RW G h ad rc26) (w1 := RW G h ad rc29) ht hFc hB
                    have hP : va_P G.1 vwCl (RW G h ad rc29) H1 := hP
                    have hD : va_D A (RW G h ad rc29) := hD
                    clear hB hk1 hFc ht hz1 hvm
                    generalize H1 = H at hP hS ⊢
                    have w30 := hw; clear hw
                    have okrc29 : rOK rlo rhi rc29 := w30.1
                    exact W.vret hx hb hr (fun t ht hW => ⟨⟨(ad, rc29), rfl, by (try dsimp only); exact ⟨w30.1, w30.2.2, fun z z0 z1 => by rw [w30.2.1 0 (by decide), f3_rc26 0 (by decide), hfr3 0 (by decide), hfr2 0 (by decide)]; exact h0 z z0 (by omega), fun z => by rw [w30.2.1 1 (by decide), f3_rc26 1 (by decide), hfr3 1 (by decide), hfr2 1 (by decide), hfr 1 (by decide) (by decide), er0], fun z => by rw [w30.2.1 2 (by decide), f3_rc26 2 (by decide), hfr3 2 (by decide), hfr2 2 (by decide), hfr 2 (by decide) (by decide), er0], fun z => by rw [w30.2.1 3 (by decide), f3_rc26 3 (by decide), hfr3 3 (by decide), hfr2 3 (by decide), hfr 3 (by decide) (by decide), er0], fun z z0 z1 => by rw [w30.2.1 5 (by decide), f3_rc26 5 (by decide), hfr3 5 (by decide)]; exact h5 z z0 (by omega), fun z z0 z1 => by rw [w30.2.1 6 (by decide), f3_rc26 6 (by decide)]; exact h6 z z0 (by omega), by rw [w30.2.1 7 (by decide)]; exact f1_rc26 0, by rw [w30.2.1 8 (by decide), f3_rc26 8 (by decide), hfr3 8 (by decide), hfr2 8 (by decide), hfr 8 (by decide) (by decide), er0], by rw [w30.2.1 9 (by decide), f3_rc26 9 (by decide), hfr3 9 (by decide), hfr2 9 (by decide), hfr 9 (by decide) (by decide), er0]⟩, by rw [ht]; exact hP, hD⟩, hS.F ht⟩) hS.2.2 dX1_init_188
                  · skip
                    refine lv_aload_n hx hb dX1_init_160 rfl (lv_at hl 0 rfl) ?_
                    refine va_get (D := G.1) (ci := 1) (v := .ref (ad 6)) (C := RX1) (T := TX1) (N := 14) hx hb hts hinX1 hown hK hP 0 rfl rfl 6 (by decide) (hts (.fieldLink RX1 31 "MeanderFarm$River" "course" "[I") (List.mem_of_getElem? (i := 12) rfl)) (fun _ h9 => h9) rfl dX1_init_161 ?_
                    refine lv_iload_n hx hb dX1_init_164 rfl (lv_at hl 1 rfl) ?_
                    refine lv_iload_n hx hb dX1_init_165 rfl (lv_at hl 1 rfl) ?_
                    refine mf_sipush hx hb dX1_init_166 rfl ?_
                    refine mf_iadd hx hb dX1_init_169 ?_
                    refine mf_iast (n := 150) (f := rc 6) hx hb hK hP hD hS 7 0 rfl rfl (z := k3) (x := k3 + 192) (by omega) (by omega) (by decide) dX1_init_170 (fun H locs hP hD hS => ?_)
                    obtain ⟨rc31, erc31⟩ : ∃ z9 : mf_V, z9 = mf_sF rc 6 (mf_up (rc 6) (k3) (k3 + 192)) := ⟨_, rfl⟩
                    have hP : va_P G.1 vwCl (RW G h ad rc31) H := by rw [erc31]; exact hP
                    have hD : va_D A (RW G h ad rc31) := by rw [erc31]; exact hD
                    have okrc31 : rOK rlo rhi rc31 := by rw [erc31]; exact rOK_up okrc 6 _ _ (show (0 : Int) ≤ k3 + 192 by omega) (show k3 + 192 ≤ (383 : Int) by omega)
                    have f1_rc31 : rc31 6 (k3) = k3 + 192 := by rw [erc31, mf_sF_s, mf_up_s]
                    have f2_rc31 : ∀ y, y ≠ (k3) → rc31 6 y = rc 6 y := fun y hy => by rw [erc31, mf_sF_s, mf_up_n hy]
                    have f3_rc31 : ∀ q, q ≠ 6 → rc31 q = rc q := fun q hq => by rw [erc31, mf_sF_n hq]
                    refine lv_iinc (v := iI (k3 + 1)) (lv' := [(1, .int (iI (k3 + 1))), (0, .ref h)]) hx hb dX1_init_171 hl (k := 1) rfl (iI_add _ _).symm (by decide) rfl (fun ls hl => ?_)
                    refine lv_goto (tgt := 154) hx hb dX1_init_174 (by decide) ?_
                    exact ih154 (k3 + 1) rc31 (by omega) (by first | assumption | omega) (by first | assumption | omega) (by intro k h; rw [f3_rc31 k h]; exact hfr3 k h) (by intro z z0 z1; rcases (show z < k3 ∨ z = k3 by omega) with y | y; (rw [f2_rc31 z (by omega)]; exact h6 z z0 y); (rw [y]; exact f1_rc31)) _ _ hP hD hS ls (lv_sub hl [1, 0] rfl)
              exact lp154 (_ + 1) 0 rb (Nat.lt_succ_self _) (by first | assumption | omega) (by first | assumption | omega) (by intro k _; rfl) (by intro z _ _; omega) _ _ hP hD hS ls (lv_sub hl [1, 0] rfl)
            · skip
              refine lv_aload_n hx hb dX1_init_139 rfl (lv_at hl 0 rfl) ?_
              refine va_get (D := G.1) (ci := 1) (v := .ref (ad 5)) (C := RX1) (T := TX1) (N := 14) hx hb hts hinX1 hown hK hP 0 rfl rfl 5 (by decide) (hts (.fieldLink RX1 28 "MeanderFarm$River" "flow" "[I") (List.mem_of_getElem? (i := 11) rfl)) (fun _ h9 => h9) rfl dX1_init_140 ?_
              refine lv_iload_n hx hb dX1_init_143 rfl (lv_at hl 1 rfl) ?_
              refine mf_iconst hx hb dX1_init_144 ?_
              refine mf_iast (n := 12) (f := rb 5) hx hb hK hP hD hS 6 0 rfl rfl (z := k2) (x := 3) (by omega) (by omega) (by decide) dX1_init_145 (fun H locs hP hD hS => ?_)
              obtain ⟨rb32, erb32⟩ : ∃ z9 : mf_V, z9 = mf_sF rb 5 (mf_up (rb 5) (k2) (3)) := ⟨_, rfl⟩
              have hP : va_P G.1 vwCl (RW G h ad rb32) H := by rw [erb32]; exact hP
              have hD : va_D A (RW G h ad rb32) := by rw [erb32]; exact hD
              have okrb32 : rOK rlo rhi rb32 := by rw [erb32]; exact rOK_up okrb 5 _ _ (show (0 : Int) ≤ 3 by omega) (show 3 ≤ (9 : Int) by omega)
              have f1_rb32 : rb32 5 (k2) = 3 := by rw [erb32, mf_sF_s, mf_up_s]
              have f2_rb32 : ∀ y, y ≠ (k2) → rb32 5 y = rb 5 y := fun y hy => by rw [erb32, mf_sF_s, mf_up_n hy]
              have f3_rb32 : ∀ q, q ≠ 5 → rb32 q = rb q := fun q hq => by rw [erb32, mf_sF_n hq]
              refine lv_iinc (v := iI (k2 + 1)) (lv' := [(1, .int (iI (k2 + 1))), (0, .ref h)]) hx hb dX1_init_146 hl (k := 1) rfl (iI_add _ _).symm (by decide) rfl (fun ls hl => ?_)
              refine lv_goto (tgt := 133) hx hb dX1_init_149 (by decide) ?_
              exact ih133 (k2 + 1) rb32 (by omega) (by first | assumption | omega) (by first | assumption | omega) (by intro k h; rw [f3_rb32 k h]; exact hfr2 k h) (by intro z z0 z1; rcases (show z < k2 ∨ z = k2 by omega) with y | y; (rw [f2_rb32 z (by omega)]; exact h5 z z0 y); (rw [y]; exact f1_rb32)) _ _ hP hD hS ls (lv_sub hl [1, 0] rfl)
        exact lp133 (_ + 1) 0 ra (Nat.lt_succ_self _) (by first | assumption | omega) (by first | assumption | omega) (by intro k _; rfl) (by intro z _ _; omega) _ _ hP hD hS ls (lv_sub hl [1, 0] rfl)
      · skip
        refine lv_aload_n hx hb dX1_init_111 rfl (lv_at hl 0 rfl) ?_
        refine va_get (D := G.1) (ci := 1) (v := .ref (ad 0)) (C := RX1) (T := TX1) (N := 14) hx hb hts hinX1 hown hK hP 0 rfl rfl 0 (by decide) (hts (.fieldLink RX1 9 "MeanderFarm$River" "hardness" "[I") (List.mem_of_getElem? (i := 5) rfl)) (fun _ h9 => h9) rfl dX1_init_112 ?_
        refine lv_iload_n hx hb dX1_init_115 rfl (lv_at hl 1 rfl) ?_
        refine mf_iconst hx hb dX1_init_116 ?_
        refine mf_iast (n := 384) (f := ra 0) hx hb hK hP hD hS 1 0 rfl rfl (z := kv) (x := 3) (by omega) (by omega) (by decide) dX1_init_117 (fun H locs hP hD hS => ?_)
        obtain ⟨ra33, era33⟩ : ∃ z9 : mf_V, z9 = mf_sF ra 0 (mf_up (ra 0) (kv) (3)) := ⟨_, rfl⟩
        have hP : va_P G.1 vwCl (RW G h ad ra33) H := by rw [era33]; exact hP
        have hD : va_D A (RW G h ad ra33) := by rw [era33]; exact hD
        have okra33 : rOK rlo rhi ra33 := by rw [era33]; exact rOK_up okra 0 _ _ (show (0 : Int) ≤ 3 by omega) (show 3 ≤ (9 : Int) by omega)
        have f1_ra33 : ra33 0 (kv) = 3 := by rw [era33, mf_sF_s, mf_up_s]
        have f2_ra33 : ∀ y, y ≠ (kv) → ra33 0 y = ra 0 y := fun y hy => by rw [era33, mf_sF_s, mf_up_n hy]
        have f3_ra33 : ∀ q, q ≠ 0 → ra33 q = ra q := fun q hq => by rw [era33, mf_sF_n hq]
        refine lv_aload_n hx hb dX1_init_118 rfl (lv_at hl 0 rfl) ?_
        refine va_get (D := G.1) (ci := 1) (v := .ref (ad 10)) (C := RX1) (T := TX1) (N := 14) hx hb hts hinX1 hown hK hP 0 rfl rfl 10 (by decide) (hts (.fieldLink RX1 34 "MeanderFarm$River" "place" "[I") (List.mem_of_getElem? (i := 13) rfl)) (fun _ h9 => h9) rfl dX1_init_119 ?_
        refine lv_iload_n hx hb dX1_init_122 rfl (lv_at hl 1 rfl) ?_
        refine mf_iconst hx hb dX1_init_123 ?_
        refine mf_iast (n := 384) (f := ra33 10) hx hb hK hP hD hS 8 0 rfl rfl (z := kv) (x := (-1)) (by omega) (by omega) (by decide) dX1_init_124 (fun H locs hP hD hS => ?_)
        obtain ⟨ra34, era34⟩ : ∃ z9 : mf_V, z9 = mf_sF ra33 10 (mf_up (ra33 10) (kv) ((-1))) := ⟨_, rfl⟩
        have hP : va_P G.1 vwCl (RW G h ad ra34) H := by rw [era34]; exact hP
        have hD : va_D A (RW G h ad ra34) := by rw [era34]; exact hD
        have okra34 : rOK rlo rhi ra34 := by rw [era34]; exact rOK_up okra33 10 _ _ (show (-1 : Int) ≤ (-1) by omega) (show (-1) ≤ (149 : Int) by omega)
        have f1_ra34 : ra34 10 (kv) = (-1) := by rw [era34, mf_sF_s, mf_up_s]
        have f2_ra34 : ∀ y, y ≠ (kv) → ra34 10 y = ra33 10 y := fun y hy => by rw [era34, mf_sF_s, mf_up_n hy]
        have f3_ra34 : ∀ q, q ≠ 10 → ra34 q = ra33 q := fun q hq => by rw [era34, mf_sF_n hq]
        refine lv_iinc (v := iI (kv + 1)) (lv' := [(1, .int (iI (kv + 1))), (0, .ref h)]) hx hb dX1_init_125 hl (k := 1) rfl (iI_add _ _).symm (by decide) rfl (fun ls hl => ?_)
        refine lv_goto (tgt := 104) hx hb dX1_init_128 (by decide) ?_
        exact ih104 (kv + 1) ra34 (by omega) (by first | assumption | omega) (by first | assumption | omega) (by intro k h0 h1; rw [f3_ra34 k h1, f3_ra33 k h0]; exact hfr k h0 h1) (by intro z z0 z1; rw [f3_ra34 0 (by decide)]; rcases (show z < kv ∨ z = kv by omega) with y | y; (rw [f2_ra33 z (by omega)]; exact h0 z z0 y); (rw [y]; exact f1_ra33)) (by intro z z0 z1; rcases (show z < kv ∨ z = kv by omega) with y | y; (rw [f2_ra34 z (by omega), f3_ra33 10 (by decide)]; exact h10 z z0 y); (rw [y]; exact f1_ra34)) _ _ hP hD hS ls (lv_sub hl [1, 0] rfl)
  exact lp104 (_ + 1) 0 r0 (Nat.lt_succ_self _) (by first | assumption | omega) (by first | assumption | omega) (by intro k _ _; rfl) (by intro z _ _; omega) (by intro z _ _; omega) _ _ hP hD hS ls (lv_sub hl [1, 0] rfl)
set_option maxHeartbeats 4000000 in
set_option maxRecDepth 100000 in
theorem c_X0_init (l : Launch) (G : mf_G) (hf : Nat) (sz : Nat) : Met l yX0_init wsX0_init ({ frames := 1, cells := 4, slots := 24, locals := 60 }) (va_Pc [.ref hf] (WrP G (CW hf 0 [.null, .null, .null, .null, .int (iI (0))]) sz)) (va_Qv (fun (u9 : (Nat → Nat) × mf_V) => rOK flo fhi u9.2 ∧ u9.2 4 0 = 0) (fun (u9 : (Nat → Nat) × mf_V) t => WrQ G (va_A (CW hf 0 [.null, .null, .null, .null, .int (iI (0))]) sz) (FW G hf u9.1 u9.2) t) (va_A (CW hf 0 [.null, .null, .null, .null, .int (iI (0))]) sz)) 4 24 (va_A (CW hf 0 [.null, .null, .null, .null, .int (iI (0))]) sz) := by
  refine Met.ofW (cc := cX0_init) (maxL := 1) (ret := none) (by decide) rfl ?_
  intro p e s m args below meth c s₁ B hml hv
  have hin : meth.name = "<init>" := (name_of_methodNamed B.named B.method).1
  obtain ⟨rfl, hsz, hP, hK, hD0, hN⟩ := hv
  have hx := B.exec
  have hb := B.bytes
  have hr := B.returns
  have hts := atoms_spec (ws := wsX0_init) B.pre
  have hown : s.vm.findClass RX0 = some m.cls := findClass_of_methodNamed B.named
  have hlocks := B.notSynchronized
  have hinX0 : ∀ w ∈ u_ws RX0 TX0 5, w ∈ wsX0_init := fun w h => List.mem_cons_of_mem _ (List.mem_append_right _ h)
  subst hsz
  have hD := hD0.self (sz := s.heap.size)
  generalize hAe : va_A (CW hf 0 [.null, .null, .null, .null, .int (iI (0))]) s.heap.size = A at hD ⊢
  have hA : ∀ q : Nat, s.heap.size ≤ q → A q := fun q h => by rw [← hAe]; exact Or.inr h
  have hS : va_S A s.heap s.heap [] := va_S.rf
  have hl := lv_entry ([.ref hf]) (n := 1) (Nat.le_of_ble_eq_true rfl)
  rw [lg_entry_eq]
  generalize (lg_sl ([.ref hf]) ++ List.replicate (1 - (lg_sl ([.ref hf])).length) Slot.unset).toArray = ls at hl ⊢
  have hl : lv_has ls 1 [(0, .ref hf)] := hl
  refine lv_aload_n hx hb dX0_init_0 rfl (lv_at hl 0 rfl) ?_
  refine W.objInit hx hb hown (hts (.methodLink RX0 3 objectInit) (List.mem_of_getElem? (i := 1) rfl)) (hts (.instanceMethod objectInit) (List.mem_of_getElem? (i := 2) rfl)) (hts (.code objectInit ⟨#[0xb1]⟩ 1 none) (List.mem_of_getElem? (i := 3) rfl)) rfl (by rw [hml]; exact hl.1) rfl dX0_init_1 (Nat.le_of_ble_eq_true rfl) (Nat.le_of_ble_eq_true rfl) ?_
  refine W.eq (g2 := F0 m 4 ls []) rfl ?_
  refine lv_aload_n hx hb dX0_init_4 rfl (lv_at hl 0 rfl) ?_
  refine mf_bipush hx hb dX0_init_5 rfl ?_
  refine mf_newi hx hb (hts (.arrayClass .int) (List.mem_of_getElem? (i := 4) rfl)) hK hP hD hS hA (n := 6) (N := 6) rfl (Nat.le_of_ble_eq_true rfl) (Nat.le_of_ble_eq_true rfl) (Nat.le_of_ble_eq_true rfl) dX0_init_7 (fun na1 H hP hD hS => ?_)
  obtain ⟨av2, eav2⟩ : ∃ z9 : mf_V, z9 = fun _ _ => 0 := ⟨_, rfl⟩
  have hP : va_P G.1 vwCl (CW hf 0 [.null, .null, .null, .null, .int (iI (0))] ++ AW G na1 6 av2) H := by rw [eav2]; exact hP
  have hD : va_D A (CW hf 0 [.null, .null, .null, .null, .int (iI (0))] ++ AW G na1 6 av2) := by rw [eav2]; exact hD
  refine va_putF (D := G.1) (ci := 0) (v := .ref na1) (ty := .array .int) (C := RX0) (T := TX0) (N := 5) hx hb hts hinX0 tyX0 tyX0_ok nmX0 hown hK hP hD hS 0 rfl rfl 0 (by decide) (hts (.fieldLink RX0 9 "MeanderFarm$Farms" "column" "[I") (List.mem_of_getElem? (i := 5) rfl)) (fun _ h9 => h9) rfl hin rfl (by decide +kernel) rfl rfl (Nat.le_of_ble_eq_true rfl) dX0_init_9 (fun H locs hP hD hS => ?_)
  have hP : va_P G.1 vwCl (CW hf 0 [.ref na1, .null, .null, .null, .int (iI (0))] ++ AW G na1 6 av2) H := hP
  have hD : va_D A (CW hf 0 [.ref na1, .null, .null, .null, .int (iI (0))] ++ AW G na1 6 av2) := hD
  refine lv_aload_n hx hb dX0_init_12 rfl (lv_at hl 0 rfl) ?_
  refine mf_bipush hx hb dX0_init_13 rfl ?_
  refine mf_newi hx hb (hts (.arrayClass .int) (List.mem_of_getElem? (i := 4) rfl)) hK hP hD hS hA (n := 6) (N := 6) rfl (Nat.le_of_ble_eq_true rfl) (Nat.le_of_ble_eq_true rfl) (Nat.le_of_ble_eq_true rfl) dX0_init_15 (fun na3 H hP hD hS => ?_)
  obtain ⟨av4, eav4⟩ : ∃ z9 : mf_V, z9 = fun _ _ => 0 := ⟨_, rfl⟩
  have hP : va_P G.1 vwCl (CW hf 0 [.ref na1, .null, .null, .null, .int (iI (0))] ++ AW G na1 6 av2 ++ AW G na3 6 av4) H := by rw [eav4]; exact hP
  have hD : va_D A (CW hf 0 [.ref na1, .null, .null, .null, .int (iI (0))] ++ AW G na1 6 av2 ++ AW G na3 6 av4) := by rw [eav4]; exact hD
  refine va_putF (D := G.1) (ci := 0) (v := .ref na3) (ty := .array .int) (C := RX0) (T := TX0) (N := 5) hx hb hts hinX0 tyX0 tyX0_ok nmX0 hown hK hP hD hS 0 rfl rfl 1 (by decide) (hts (.fieldLink RX0 15 "MeanderFarm$Farms" "row" "[I") (List.mem_of_getElem? (i := 6) rfl)) (fun _ h9 => h9) rfl hin rfl (by decide +kernel) rfl rfl (Nat.le_of_ble_eq_true rfl) dX0_init_17 (fun H locs hP hD hS => ?_)
  have hP : va_P G.1 vwCl (CW hf 0 [.ref na1, .ref na3, .null, .null, .int (iI (0))] ++ AW G na1 6 av2 ++ AW G na3 6 av4) H := hP
  have hD : va_D A (CW hf 0 [.ref na1, .ref na3, .null, .null, .int (iI (0))] ++ AW G na1 6 av2 ++ AW G na3 6 av4) := hD
  refine lv_aload_n hx hb dX0_init_20 rfl (lv_at hl 0 rfl) ?_
  refine mf_bipush hx hb dX0_init_21 rfl ?_
  refine mf_newi hx hb (hts (.arrayClass .int) (List.mem_of_getElem? (i := 4) rfl)) hK hP hD hS hA (n := 6) (N := 6) rfl (Nat.le_of_ble_eq_true rfl) (Nat.le_of_ble_eq_true rfl) (Nat.le_of_ble_eq_true rfl) dX0_init_23 (fun na5 H hP hD hS => ?_)
  obtain ⟨av6, eav6⟩ : ∃ z9 : mf_V, z9 = fun _ _ => 0 := ⟨_, rfl⟩
  have hP : va_P G.1 vwCl (CW hf 0 [.ref na1, .ref na3, .null, .null, .int (iI (0))] ++ AW G na1 6 av2 ++ AW G na3 6 av4 ++ AW G na5 6 av6) H := by rw [eav6]; exact hP
  have hD : va_D A (CW hf 0 [.ref na1, .ref na3, .null, .null, .int (iI (0))] ++ AW G na1 6 av2 ++ AW G na3 6 av4 ++ AW G na5 6 av6) := by rw [eav6]; exact hD
  refine va_putF (D := G.1) (ci := 0) (v := .ref na5) (ty := .array .int) (C := RX0) (T := TX0) (N := 5) hx hb hts hinX0 tyX0 tyX0_ok nmX0 hown hK hP hD hS 0 rfl rfl 2 (by decide) (hts (.fieldLink RX0 18 "MeanderFarm$Farms" "wide" "[I") (List.mem_of_getElem? (i := 7) rfl)) (fun _ h9 => h9) rfl hin rfl (by decide +kernel) rfl rfl (Nat.le_of_ble_eq_true rfl) dX0_init_25 (fun H locs hP hD hS => ?_)
  have hP : va_P G.1 vwCl (CW hf 0 [.ref na1, .ref na3, .ref na5, .null, .int (iI (0))] ++ AW G na1 6 av2 ++ AW G na3 6 av4 ++ AW G na5 6 av6) H := hP
  have hD : va_D A (CW hf 0 [.ref na1, .ref na3, .ref na5, .null, .int (iI (0))] ++ AW G na1 6 av2 ++ AW G na3 6 av4 ++ AW G na5 6 av6) := hD
  refine lv_aload_n hx hb dX0_init_28 rfl (lv_at hl 0 rfl) ?_
  refine mf_bipush hx hb dX0_init_29 rfl ?_
  refine mf_newi hx hb (hts (.arrayClass .int) (List.mem_of_getElem? (i := 4) rfl)) hK hP hD hS hA (n := 6) (N := 6) rfl (Nat.le_of_ble_eq_true rfl) (Nat.le_of_ble_eq_true rfl) (Nat.le_of_ble_eq_true rfl) dX0_init_31 (fun na7 H hP hD hS => ?_)
  obtain ⟨av8, eav8⟩ : ∃ z9 : mf_V, z9 = fun _ _ => 0 := ⟨_, rfl⟩
  have hP : va_P G.1 vwCl (CW hf 0 [.ref na1, .ref na3, .ref na5, .null, .int (iI (0))] ++ AW G na1 6 av2 ++ AW G na3 6 av4 ++ AW G na5 6 av6 ++ AW G na7 6 av8) H := by rw [eav8]; exact hP
  have hD : va_D A (CW hf 0 [.ref na1, .ref na3, .ref na5, .null, .int (iI (0))] ++ AW G na1 6 av2 ++ AW G na3 6 av4 ++ AW G na5 6 av6 ++ AW G na7 6 av8) := by rw [eav8]; exact hD
  refine va_putF (D := G.1) (ci := 0) (v := .ref na7) (ty := .array .int) (C := RX0) (T := TX0) (N := 5) hx hb hts hinX0 tyX0 tyX0_ok nmX0 hown hK hP hD hS 0 rfl rfl 3 (by decide) (hts (.fieldLink RX0 21 "MeanderFarm$Farms" "deep" "[I") (List.mem_of_getElem? (i := 8) rfl)) (fun _ h9 => h9) rfl hin rfl (by decide +kernel) rfl rfl (Nat.le_of_ble_eq_true rfl) dX0_init_33 (fun H locs hP hD hS => ?_)
  have hP : va_P G.1 vwCl (CW hf 0 [.ref na1, .ref na3, .ref na5, .ref na7, .int (iI (0))] ++ AW G na1 6 av2 ++ AW G na3 6 av4 ++ AW G na5 6 av6 ++ AW G na7 6 av8) H := hP
  have hD : va_D A (CW hf 0 [.ref na1, .ref na3, .ref na5, .ref na7, .int (iI (0))] ++ AW G na1 6 av2 ++ AW G na3 6 av4 ++ AW G na5 6 av6 ++ AW G na7 6 av8) := hD
  subst eav2
  subst eav4
  subst eav6
  subst eav8
  obtain ⟨ad, ead⟩ : ∃ z9 : Nat → Nat, z9 = fun k => if k = 0 then na1 else if k = 1 then na3 else if k = 2 then na5 else na7 := ⟨_, rfl⟩
  obtain ⟨f0, ef0⟩ : ∃ z9 : mf_V, z9 = fun _ _ => 0 := ⟨_, rfl⟩
  have hP : va_P G.1 vwCl (FW G hf ad f0) H := by rw [ead, ef0]; exact hP
  have hD : va_D A (FW G hf ad f0) := by rw [ead, ef0]; exact hD
  have okf0 : rOK flo fhi f0 := by rw [ef0]; exact zF_ok
  skip
  exact W.vret hx hb hr (fun t ht hW => ⟨⟨(ad, f0), rfl, by (try dsimp only); exact ⟨okf0, by rw [ef0]⟩, by rw [ht]; exact hP, hD⟩, hS.F ht⟩) hS.2.2 dX0_init_36
