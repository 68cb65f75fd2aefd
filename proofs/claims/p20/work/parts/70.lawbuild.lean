/-! 70.lawbuild: the plain that the law builds -/
theorem sb_7a44dfa0e7 {G : mf_G} {h1 p1 a1 f1 ae1 : Nat} {x1 : mf_V} {h2 : Nat} {ad2 : Nat → Nat} {x2 : mf_V} {h3 : Nat} {ad3 : Nat → Nat} {x3 : mf_V} {h4 : Nat} {ad4 : Nat → Nat} {x4 : mf_V} {h5 : Nat} {ad5 : Nat → Nat} {ca5 n5 : Nat} {x5 : mf_V} : ([0, 1, 31, 32, 33, 34, 35, 36, 37, 38, 2, 3, 4, 5, 6, 7, 8, 9, 10, 11, 12, 13, 14, 15, 16, 17, 18, 19, 20, 21, 22, 23, 24, 25, 26, 27, 28, 29, 30] : List Nat).filterMap (fun i => (OW G h1 p1 a1 f1 ae1 x1 ++ RW G h2 ad2 x2 ++ RW G h3 ad3 x3 ++ FW G h4 ad4 x4 ++ SW G h5 ad5 ca5 n5 x5)[i]?) = OW G h1 p1 a1 f1 ae1 x1 ++ SW G h5 ad5 ca5 n5 x5 ++ RW G h2 ad2 x2 ++ RW G h3 ad3 x3 ++ FW G h4 ad4 x4 := rfl
theorem sb_03923147d1 {G : mf_G} {h1 p1 a1 f1 ae1 : Nat} {x1 : mf_V} {h2 : Nat} {ad2 : Nat → Nat} {x2 : mf_V} {h3 : Nat} {ad3 : Nat → Nat} {x3 : mf_V} {h4 : Nat} {ad4 : Nat → Nat} {x4 : mf_V} {h5 : Nat} {ad5 : Nat → Nat} {ca5 n5 : Nat} {x5 : mf_V} : ([0, 1, 31, 32, 33, 34, 35, 36, 37, 38, 2, 3, 4, 5, 6, 7, 8, 9, 10, 11, 12, 13, 14, 15, 16, 17, 18, 19, 20, 21, 22, 23, 24, 25, 26, 27, 28, 29, 30] : List Nat).map (fun i => (OW G h1 p1 a1 f1 ae1 x1 ++ RW G h2 ad2 x2 ++ RW G h3 ad3 x3 ++ FW G h4 ad4 x4 ++ SW G h5 ad5 ca5 n5 x5)[i]?) = (OW G h1 p1 a1 f1 ae1 x1 ++ SW G h5 ad5 ca5 n5 x5 ++ RW G h2 ad2 x2 ++ RW G h3 ad3 x3 ++ FW G h4 ad4 x4).map some := rfl
theorem sb_1f944ad409 {G : mf_G} {h1 p1 a1 f1 ae1 : Nat} {x1 : mf_V} {h2 : Nat} {ad2 : Nat → Nat} {x2 : mf_V} {h3 : Nat} {ad3 : Nat → Nat} {x3 : mf_V} {h4 : Nat} {ad4 : Nat → Nat} {x4 : mf_V} {h5 : Nat} {ad5 : Nat → Nat} {ca5 n5 : Nat} {x5 : mf_V} : ([] : List Nat).map (fun i => (OW G h1 p1 a1 f1 ae1 x1 ++ RW G h2 ad2 x2 ++ RW G h3 ad3 x3 ++ FW G h4 ad4 x4 ++ SW G h5 ad5 ca5 n5 x5)[i]?) = (([] : va_W)).map some := rfl
theorem sb_7a8b029518 {G : mf_G} {h1 p1 a1 f1 ae1 : Nat} {x1 : mf_V} {h2 : Nat} {ad2 : Nat → Nat} {ca2 n2 : Nat} {x2 : mf_V} {h3 : Nat} {ad3 : Nat → Nat} {x3 : mf_V} {h4 : Nat} {ad4 : Nat → Nat} {x4 : mf_V} {h5 : Nat} {ad5 : Nat → Nat} {x5 : mf_V} : ([0, 1, 10, 11, 12, 13, 14, 15, 16, 17, 18, 19, 20, 21, 22, 23, 24, 25, 26, 27, 28, 29, 30, 31, 32, 33, 34, 35, 36, 37, 38, 2, 3, 4, 5, 6, 7, 8, 9] : List Nat).filterMap (fun i => (OW G h1 p1 a1 f1 ae1 x1 ++ SW G h2 ad2 ca2 n2 x2 ++ RW G h3 ad3 x3 ++ RW G h4 ad4 x4 ++ FW G h5 ad5 x5)[i]?) = OW G h1 p1 a1 f1 ae1 x1 ++ RW G h3 ad3 x3 ++ RW G h4 ad4 x4 ++ FW G h5 ad5 x5 ++ SW G h2 ad2 ca2 n2 x2 := rfl
theorem sb_a7ecb17f9d {G : mf_G} {h1 p1 a1 f1 ae1 : Nat} {x1 : mf_V} {h2 : Nat} {ad2 : Nat → Nat} {ca2 n2 : Nat} {x2 : mf_V} {h3 : Nat} {ad3 : Nat → Nat} {x3 : mf_V} {h4 : Nat} {ad4 : Nat → Nat} {x4 : mf_V} {h5 : Nat} {ad5 : Nat → Nat} {x5 : mf_V} : ([0, 1, 10, 11, 12, 13, 14, 15, 16, 17, 18, 19, 20, 21, 22, 23, 24, 25, 26, 27, 28, 29, 30, 31, 32, 33, 34, 35, 36, 37, 38, 2, 3, 4, 5, 6, 7, 8, 9] : List Nat).map (fun i => (OW G h1 p1 a1 f1 ae1 x1 ++ SW G h2 ad2 ca2 n2 x2 ++ RW G h3 ad3 x3 ++ RW G h4 ad4 x4 ++ FW G h5 ad5 x5)[i]?) = (OW G h1 p1 a1 f1 ae1 x1 ++ RW G h3 ad3 x3 ++ RW G h4 ad4 x4 ++ FW G h5 ad5 x5 ++ SW G h2 ad2 ca2 n2 x2).map some := rfl
theorem sb_5628208b92 {G : mf_G} {h1 p1 a1 f1 ae1 : Nat} {x1 : mf_V} {h2 : Nat} {ad2 : Nat → Nat} {x2 : mf_V} {h3 : Nat} {ad3 : Nat → Nat} {x3 : mf_V} {h4 : Nat} {ad4 : Nat → Nat} {x4 : mf_V} {h5 : Nat} {ad5 : Nat → Nat} {ca5 n5 : Nat} {x5 : mf_V} : ([0, 1, 2, 3, 4, 5, 6, 7, 8, 9, 10, 11, 12, 13, 14, 15, 16, 17, 18, 19, 20, 21, 22, 23, 24, 25, 26, 27, 28, 29, 30] : List Nat).filterMap (fun i => (OW G h1 p1 a1 f1 ae1 x1 ++ RW G h2 ad2 x2 ++ RW G h3 ad3 x3 ++ FW G h4 ad4 x4 ++ SW G h5 ad5 ca5 n5 x5)[i]?) = OW G h1 p1 a1 f1 ae1 x1 ++ RW G h2 ad2 x2 ++ RW G h3 ad3 x3 ++ FW G h4 ad4 x4 := rfl
theorem sb_e032fcb66b {G : mf_G} {h1 p1 a1 f1 ae1 : Nat} {x1 : mf_V} {h2 : Nat} {ad2 : Nat → Nat} {x2 : mf_V} {h3 : Nat} {ad3 : Nat → Nat} {x3 : mf_V} {h4 : Nat} {ad4 : Nat → Nat} {x4 : mf_V} {h5 : Nat} {ad5 : Nat → Nat} {ca5 n5 : Nat} {x5 : mf_V} : ([0, 1, 2, 3, 4, 5, 6, 7, 8, 9, 10, 11, 12, 13, 14, 15, 16, 17, 18, 19, 20, 21, 22, 23, 24, 25, 26, 27, 28, 29, 30] : List Nat).map (fun i => (OW G h1 p1 a1 f1 ae1 x1 ++ RW G h2 ad2 x2 ++ RW G h3 ad3 x3 ++ FW G h4 ad4 x4 ++ SW G h5 ad5 ca5 n5 x5)[i]?) = (OW G h1 p1 a1 f1 ae1 x1 ++ RW G h2 ad2 x2 ++ RW G h3 ad3 x3 ++ FW G h4 ad4 x4).map some := rfl
theorem sb_710b1e0095 {G : mf_G} {h1 p1 a1 f1 ae1 : Nat} {x1 : mf_V} {h2 : Nat} {ad2 : Nat → Nat} {x2 : mf_V} {h3 : Nat} {ad3 : Nat → Nat} {x3 : mf_V} {h4 : Nat} {ad4 : Nat → Nat} {x4 : mf_V} {h5 : Nat} {ad5 : Nat → Nat} {ca5 n5 : Nat} {x5 : mf_V} : ([31, 32, 33, 34, 35, 36, 37, 38] : List Nat).map (fun i => (OW G h1 p1 a1 f1 ae1 x1 ++ RW G h2 ad2 x2 ++ RW G h3 ad3 x3 ++ FW G h4 ad4 x4 ++ SW G h5 ad5 ca5 n5 x5)[i]?) = (SW G h5 ad5 ca5 n5 x5).map some := rfl
theorem sb_55f0f8dd51 {G : mf_G} {h1 : Nat} {ad1 : Nat → Nat} {ca1 n1 : Nat} {x1 : mf_V} {h2 p2 a2 f2 ae2 : Nat} {x2 : mf_V} {h3 : Nat} {ad3 : Nat → Nat} {x3 : mf_V} {h4 : Nat} {ad4 : Nat → Nat} {x4 : mf_V} {h5 : Nat} {ad5 : Nat → Nat} {x5 : mf_V} : ([8, 9, 10, 11, 12, 13, 14, 15, 16, 17, 18, 19, 20, 21, 22, 23, 24, 25, 26, 27, 28, 29, 30, 31, 32, 33, 34, 35, 36, 37, 38, 0, 1, 2, 3, 4, 5, 6, 7] : List Nat).filterMap (fun i => ((SW G h1 ad1 ca1 n1 x1) ++ (OW G h2 p2 a2 f2 ae2 x2 ++ RW G h3 ad3 x3 ++ RW G h4 ad4 x4 ++ FW G h5 ad5 x5))[i]?) = OW G h2 p2 a2 f2 ae2 x2 ++ RW G h3 ad3 x3 ++ RW G h4 ad4 x4 ++ FW G h5 ad5 x5 ++ SW G h1 ad1 ca1 n1 x1 := rfl
theorem sb_38977a1d40 {G : mf_G} {h1 : Nat} {ad1 : Nat → Nat} {ca1 n1 : Nat} {x1 : mf_V} {h2 p2 a2 f2 ae2 : Nat} {x2 : mf_V} {h3 : Nat} {ad3 : Nat → Nat} {x3 : mf_V} {h4 : Nat} {ad4 : Nat → Nat} {x4 : mf_V} {h5 : Nat} {ad5 : Nat → Nat} {x5 : mf_V} : ([8, 9, 10, 11, 12, 13, 14, 15, 16, 17, 18, 19, 20, 21, 22, 23, 24, 25, 26, 27, 28, 29, 30, 31, 32, 33, 34, 35, 36, 37, 38, 0, 1, 2, 3, 4, 5, 6, 7] : List Nat).map (fun i => ((SW G h1 ad1 ca1 n1 x1) ++ (OW G h2 p2 a2 f2 ae2 x2 ++ RW G h3 ad3 x3 ++ RW G h4 ad4 x4 ++ FW G h5 ad5 x5))[i]?) = (OW G h2 p2 a2 f2 ae2 x2 ++ RW G h3 ad3 x3 ++ RW G h4 ad4 x4 ++ FW G h5 ad5 x5 ++ SW G h1 ad1 ca1 n1 x1).map some := rfl
set_option maxHeartbeats 4000000 in
set_option maxRecDepth 100000 in
theorem c_L_build (l : Launch) (hl9 : l.stackTraces = false) (G : mf_G) (b L : Nat) (xs : Nat → Int32) (hL : L ≤ 260) (ho pn pa pf : Nat) (ae : Nat) (x : mf_V) (adn : Nat → Nat) (r : mf_V) (ada : Nat → Nat) (ra : mf_V) (adf : Nat → Nat) (f : mf_V)  (okx : rOK xlo xhi x) (ok : rOK rlo rhi r) (okra : rOK rlo rhi ra) (okf : rOK flo fhi f) (hI : RInv r) (hin9 : initR r) (sz : Nat) : Met l yL_build wsL_build ({ frames := 8, cells := 100, slots := 4000, locals := 140 }) (va_Pc [.ref ho, .ref b] (WrPs G b L xs (OW G ho pn pa pf ae x ++ RW G pn adn r ++ RW G pa ada ra ++ FW G pf adf f) sz)) (va_Qr (fun (u9 : mf_V × mf_V × mf_V × mf_V × (Nat → Nat) × Nat × Nat × mf_V) => LQs 7 u9.1 u9.2.1 u9.2.2.1 u9.2.2.2.1 u9.2.2.2.2.2.2.1 u9.2.2.2.2.2.2.2 ∧ u9.2.2.2.1 = f ∧ u9.2.1 8 0 = 0) (fun (u9 : mf_V × mf_V × mf_V × mf_V × (Nat → Nat) × Nat × Nat × mf_V) a t => WrQ G (va_A (OW G ho pn pa pf ae x ++ RW G pn adn r ++ RW G pa ada ra ++ FW G pf adf f) sz) (OW G ho pn pa pf ae u9.1 ++ RW G pn adn u9.2.1 ++ RW G pa ada u9.2.2.1 ++ FW G pf adf u9.2.2.2.1 ++ SW G a u9.2.2.2.2.1 u9.2.2.2.2.2.1 u9.2.2.2.2.2.2.1 u9.2.2.2.2.2.2.2) t) (va_A (OW G ho pn pa pf ae x ++ RW G pn adn r ++ RW G pa ada ra ++ FW G pf adf f) sz)) 100 4000 (va_A (OW G ho pn pa pf ae x ++ RW G pn adn r ++ RW G pa ada ra ++ FW G pf adf f) sz) := by
  refine Met.ofW (cc := cL_build) (maxL := 7) (ret := (some (.object "MeanderFarmLaw$Sim"))) (by decide) rfl ?_
  intro p e s m args below meth c s₁ B hml hv
  obtain ⟨rfl, hsz, hP, hK, hD0, hN, hSX, hCX, hZ, hXs, hbA⟩ := hv
  have hx := B.exec
  have hb := B.bytes
  have hr := B.returns
  have hts := atoms_spec (ws := wsL_build) B.pre
  have hown : s.vm.findClass RL = some m.cls := findClass_of_methodNamed B.named
  have hlocks := B.notSynchronized
  have hinX3 : ∀ w ∈ u_ws RX3 TX3 9, w ∈ wsL_build := fun w h => List.mem_cons_of_mem _ (List.mem_append_left _ (List.mem_append_left _ (List.mem_append_left _ (List.mem_append_left _ (List.mem_append_left _ (List.mem_append_right _ h))))))
  have hbl : b < s.heap.size := va_X_lt hXs
  subst hsz
  have hD := hD0.self (sz := s.heap.size)
  generalize hAe : va_A (OW G ho pn pa pf ae x ++ RW G pn adn r ++ RW G pa ada ra ++ FW G pf adf f) s.heap.size = A at hD hZ hbA ⊢
  have hA : ∀ q : Nat, s.heap.size ≤ q → A q := fun q h => by rw [← hAe]; exact Or.inr h
  have hcR : (headSpec wsL_build ({ frames := 8, cells := 100, slots := 4000, locals := 140 })).room.cells = 100 := rfl
  have hsR : (headSpec wsL_build ({ frames := 8, cells := 100, slots := 4000, locals := 140 })).room.slots = 4000 := rfl
  have hS : va_S A s.heap s.heap [] := va_S.rf
  have hl := lv_entry ([.ref ho, .ref b]) (n := 7) (Nat.le_of_ble_eq_true rfl)
  rw [lg_entry_eq]
  generalize (lg_sl ([.ref ho, .ref b]) ++ List.replicate (7 - (lg_sl ([.ref ho, .ref b])).length) Slot.unset).toArray = ls at hl ⊢
  have hl : lv_has ls 7 [(0, .ref ho), (1, .ref b)] := hl
  have okLr : (0 : Int) ≤ r 7 0 ∧ r 7 0 ≤ 150 := ok 7 0
  have okLra : (0 : Int) ≤ ra 7 0 ∧ ra 7 0 ≤ 150 := okra 7 0
  have hPI := PInv_0 hI hin9
  obtain ⟨i0, i1, i2, i3, i5, i6, i7, i8, i9⟩ := id hin9
  have bd0 : bdP r 0 := ⟨by omega, by omega, fun c => by rw [i1 c]; omega⟩
  refine va_new (D := G.1) (ci := 3) (fs := [.int (iI (0)), .int (iI (0)), .null, .null, .null, .null, .null, .null, .null]) (C := RX3) (T := TX3) (N := 9) hx hb hts hinX3 tyX3 tyX3_ok hown (hts (.classLink RL 9 RX3) (List.mem_of_getElem? (i := 1) rfl)) (hts (.instantiable RX3 9) (List.mem_of_getElem? (i := 2) rfl)) (hts (.initialized RX3) (List.mem_of_getElem? (i := 3) rfl)) hK hP hD hS hA rfl (fun j hj => by rcases (show j = 0 ∨ j = 1 ∨ j = 2 ∨ j = 3 ∨ j = 4 ∨ j = 5 ∨ j = 6 ∨ j = 7 ∨ j = 8 by omega) with rfl | rfl | rfl | rfl | rfl | rfl | rfl | rfl | rfl <;> rfl) (Nat.le_of_ble_eq_true rfl) (Nat.le_of_ble_eq_true rfl) dL_build_0 (fun no1 H hP hD hS => ?_)
  have hP : va_P G.1 vwCl (OW G ho pn pa pf ae x ++ RW G pn adn r ++ RW G pa ada ra ++ FW G pf adf f ++ CW no1 3 [.int (iI (0)), .int (iI (0)), .null, .null, .null, .null, .null, .null, .null]) H := hP
  have hD : va_D A (OW G ho pn pa pf ae x ++ RW G pn adn r ++ RW G pa ada ra ++ FW G pf adf f ++ CW no1 3 [.int (iI (0)), .int (iI (0)), .null, .null, .null, .null, .null, .null, .null]) := hD
  refine lv_dup hx hb dL_build_3 rfl ?_
  have hFc := va_free (wc := CW no1 3 [.int (iI (0)), .int (iI (0)), .null, .null, .null, .null, .null, .null, .null]) hD hS hA [31] rfl
  refine va_callv (va_runI (As := []) (rest := [.ref no1]) ⟨hx, hb, hml, hown, hts⟩ (c_X3_init l G no1 r ok hI hin9 _) (cwI 0 hts gL_build_X3_init rfl rfl rfl (hts (.initialized RX3) (List.mem_of_getElem? (i := 3) rfl)) (hts (.methodLink RL 11 yX3_init) (List.mem_of_getElem? (i := 6) rfl)) (hts (.instanceMethod yX3_init) (List.mem_of_getElem? (i := 7) rfl)) rfl (by decide +kernel) ⟨Nat.le_of_ble_eq_true rfl, Nat.le_of_ble_eq_true rfl⟩) (wrS (wc := CW no1 3 [.int (iI (0)), .int (iI (0)), .null, .null, .null, .null, .null, .null, .null]) hK hP hD hN [31] (by decide +kernel) rfl rfl) rfl rfl hl.1 rfl (lv_room (Nat.le_of_ble_eq_true rfl)) dL_build_4 ⟨Nat.le_of_ble_eq_true rfl, Nat.le_of_ble_eq_true rfl⟩) hS (fun q _ h => hFc q h) hFc (fun un t H1 locs ht hvm hw hB hz1 hk1 hS => ?_)
  obtain ⟨adm, cam, um⟩ := un
  try dsimp only at hw hB
  obtain ⟨hP, hD⟩ := wrJ2 (ws := OW G ho pn pa pf ae x ++ RW G pn adn r ++ RW G pa ada ra ++ FW G pf adf f ++ CW no1 3 [.int (iI (0)), .int (iI (0)), .null, .null, .null, .null, .null, .null, .null]) (wc := CW no1 3 [.int (iI (0)), .int (iI (0)), .null, .null, .null, .null, .null, .null, .null]) (wr := OW G ho pn pa pf ae x ++ RW G pn adn r ++ RW G pa ada ra ++ FW G pf adf f) (w1 := SW G no1 adm cam 24 um) hP hD [31] [0, 1, 2, 3, 4, 5, 6, 7, 8, 9, 10, 11, 12, 13, 14, 15, 16, 17, 18, 19, 20, 21, 22, 23, 24, 25, 26, 27, 28, 29, 30] rfl rfl (by decide +kernel) (by decide +kernel) hk1 ht hFc hB
  have hP : va_P G.1 vwCl (OW G ho pn pa pf ae x ++ RW G pn adn r ++ RW G pa ada ra ++ FW G pf adf f ++ SW G no1 adm cam 24 um) H1 := hP
  have hD : va_D A (OW G ho pn pa pf ae x ++ RW G pn adn r ++ RW G pa ada ra ++ FW G pf adf f ++ SW G no1 adm cam 24 um) := hD
  clear hB hk1 hFc ht hz1 hvm
  generalize H1 = H at hP hS ⊢
  obtain ⟨okum, hrelm⟩ := hw
  refine lv_astore_n (lv' := [(2, .ref no1), (0, .ref ho), (1, .ref b)]) hx hb dL_build_7 rfl hl (by decide) rfl (fun ls hl => ?_)
  refine mf_iconst hx hb dL_build_8 ?_
  refine lv_istore_n (lv' := [(3, .int (iI (0))), (2, .ref no1), (0, .ref ho), (1, .ref b)]) hx hb dL_build_9 rfl hl (by decide) rfl (fun ls hl => ?_)
  have lp10 : ∀ (n : Nat) (kv : Int) (xb : mf_V) (rb : mf_V) (rab : mf_V) (ub : mf_V) (cc : Nat) (sc : Nat), (12 - kv).toNat < n → (0 ≤ kv ∧ kv ≤ 12) → (LQs 0 xb rb rab f 24 ub) → (rb 8 0 = 0) → (∀ z, kv ≤ z → z < 12 → rb 5 z = 3) → ((cc : Int) ≤ 8 + kv) → ((sc : Int) ≤ 1965 + 6 * kv) → ∀ (H : Heap) (locs : List Loc), va_P G.1 vwCl (OW G ho pn pa pf ae xb ++ RW G pn adn rb ++ RW G pa ada rab ++ FW G pf adf f ++ SW G no1 adm cam 24 ub) H → va_D A (OW G ho pn pa pf ae xb ++ RW G pn adn rb ++ RW G pa ada rab ++ FW G pf adf f ++ SW G no1 adm cam 24 ub) → va_S A s.heap H locs → ∀ (ls : Array Slot), lv_has ls 7 [(0, .ref ho), (1, .ref b), (2, .ref no1), (3, .int (iI (kv)))] → W p l e (headSpec wsL_build ({ frames := 8, cells := 100, slots := 4000, locals := 140 })).room s m ([.ref ho, .ref b] : List Value).toArray below meth c H locs cc sc (MQ below (va_Qr (fun (u9 : mf_V × mf_V × mf_V × mf_V × (Nat → Nat) × Nat × Nat × mf_V) => LQs 7 u9.1 u9.2.1 u9.2.2.1 u9.2.2.2.1 u9.2.2.2.2.2.2.1 u9.2.2.2.2.2.2.2 ∧ u9.2.2.2.1 = f ∧ u9.2.1 8 0 = 0) (fun (u9 : mf_V × mf_V × mf_V × mf_V × (Nat → Nat) × Nat × Nat × mf_V) a t => WrQ G A (OW G ho pn pa pf ae u9.1 ++ RW G pn adn u9.2.1 ++ RW G pa ada u9.2.2.1 ++ FW G pf adf u9.2.2.2.1 ++ SW G a u9.2.2.2.2.1 u9.2.2.2.2.2.1 u9.2.2.2.2.2.2.1 u9.2.2.2.2.2.2.2) t) A) ([.ref ho, .ref b] : List Value).toArray s 100 4000 A) (F0 m 10 ls []) := by
    intro n
    induction n with
    | zero => intro kv xb rb rab ub cc sc hn; exact absurd hn (Nat.not_lt_zero _)
    | succ n ih10 =>
      intro kv xb rb rab ub cc sc hn hk hL1 h81 h51 hcc hsc H locs hP hD hS ls hl
      obtain ⟨⟨okxb, okrb, okrab, -⟩, hPIb, hBb, okub, hrelb⟩ := id hL1
      refine lv_iload_n hx hb dL_build_10 rfl (lv_at hl 3 rfl) ?_
      refine mf_bipush hx hb dL_build_11 rfl ?_
      refine mf_icmp_ge (tgt := 61) hx hb dL_build_13 (by decide) (i32_mk (by omega) (by omega)) (i32_mk (by decide) (by decide)) (fun c2 => ?_) (fun c2 => ?_)
      · skip
        refine lv_aload_n hx hb dL_build_61 rfl (lv_at hl 1 rfl) ?_
        refine mf_iconst hx hb dL_build_62 ?_
        refine vp_callSi (va_Run.run (va_runS (As := [.ref b, .int (iI (4))]) (rest := []) ⟨hx, hb, hml, hown, hts⟩ (c_L_cell l b L xs hL (4) (i32_mk (by decide) (by decide)) (by first | assumption | omega)) (va_cwS 2 hts gL_build_L_cell rfl rfl rfl (by decide +kernel) ⟨Nat.le_of_ble_eq_true rfl, Nat.le_of_ble_eq_true rfl⟩) (scrS hXs hbl hbA hS) rfl rfl hl.1 rfl (lv_room (Nat.le_of_ble_eq_true rfl)) dL_build_63 ⟨(by rw [hcR]; omega), (by rw [hsR]; omega)⟩)) (fun q3 hq3 => ?_)
        obtain ⟨z4, rfl, w5⟩ := hq3
        refine mf_bipush hx hb dL_build_66 rfl ?_
        refine vp_callSi (va_Run.run (va_runS (As := [.int (iI (z4)), .int (iI (60))]) (rest := []) ⟨hx, hb, hml, hown, hts⟩ (c_L_below l (z4) (60) (i32_mk (by omega) (by omega)) (i32_mk (by decide) (by decide)) (by first | assumption | omega)) (va_cwS 2 hts gL_build_L_below rfl rfl rfl (by decide +kernel) ⟨Nat.le_of_ble_eq_true rfl, Nat.le_of_ble_eq_true rfl⟩) pureS rfl rfl hl.1 rfl (lv_room (Nat.le_of_ble_eq_true rfl)) dL_build_68 ⟨(by rw [hcR]; omega), (by rw [hsR]; omega)⟩)) (fun q6 hq6 => ?_)
        obtain ⟨z7, rfl, w8⟩ := hq6
        refine lv_istore_n (lv' := [(3, .int (iI (z7))), (0, .ref ho), (1, .ref b), (2, .ref no1)]) hx hb dL_build_71 rfl hl (by decide) rfl (fun ls hl => ?_)
        refine mf_iconst hx hb dL_build_72 ?_
        refine lv_istore (lv' := [(4, .int (iI (0))), (3, .int (iI (z7))), (0, .ref ho), (1, .ref b), (2, .ref no1)]) hx hb dL_build_73 hl (by decide) rfl (fun ls hl => ?_)
        have lp75 : ∀ (n : Nat) (kv2 : Int) (xd : mf_V) (rd : mf_V) (rad : mf_V) (ud : mf_V) (cc2 : Nat) (sc2 : Nat), (60 - kv2).toNat < n → (0 ≤ kv2 ∧ kv2 ≤ 59) → (LQs 0 xd rd rad f 24 ud) → (rd 8 0 = 0) → ((cc2 : Int) ≤ 20 + kv2) → ((sc2 : Int) ≤ 2037 + 6 * kv2) → ∀ (H : Heap) (locs : List Loc), va_P G.1 vwCl (OW G ho pn pa pf ae xd ++ RW G pn adn rd ++ RW G pa ada rad ++ FW G pf adf f ++ SW G no1 adm cam 24 ud) H → va_D A (OW G ho pn pa pf ae xd ++ RW G pn adn rd ++ RW G pa ada rad ++ FW G pf adf f ++ SW G no1 adm cam 24 ud) → va_S A s.heap H locs → ∀ (ls : Array Slot), lv_has ls 7 [(0, .ref ho), (1, .ref b), (2, .ref no1), (3, .int (iI (z7))), (4, .int (iI (kv2)))] → W p l e (headSpec wsL_build ({ frames := 8, cells := 100, slots := 4000, locals := 140 })).room s m ([.ref ho, .ref b] : List Value).toArray below meth c H locs cc2 sc2 (MQ below (va_Qr (fun (u9 : mf_V × mf_V × mf_V × mf_V × (Nat → Nat) × Nat × Nat × mf_V) => LQs 7 u9.1 u9.2.1 u9.2.2.1 u9.2.2.2.1 u9.2.2.2.2.2.2.1 u9.2.2.2.2.2.2.2 ∧ u9.2.2.2.1 = f ∧ u9.2.1 8 0 = 0) (fun (u9 : mf_V × mf_V × mf_V × mf_V × (Nat → Nat) × Nat × Nat × mf_V) a t => WrQ G A (OW G ho pn pa pf ae u9.1 ++ RW G pn adn u9.2.1 ++ RW G pa ada u9.2.2.1 ++ FW G pf adf u9.2.2.2.1 ++ SW G a u9.2.2.2.2.1 u9.2.2.2.2.2.1 u9.2.2.2.2.2.2.1 u9.2.2.2.2.2.2.2) t) A) ([.ref ho, .ref b] : List Value).toArray s 100 4000 A) (F0 m 75 ls []) := by
          intro n
          induction n with
          | zero => intro kv2 xd rd rad ud cc2 sc2 hn; exact absurd hn (Nat.not_lt_zero _)
          | succ n ih75 =>
            intro kv2 xd rd rad ud cc2 sc2 hn hk2 hL2 h82 hcc2 hsc2 H locs hP hD hS ls hl
            obtain ⟨⟨okxd, okrd, okrad, -⟩, hPId, hBd, okud, hreld⟩ := id hL2
            refine lv_iload hx hb dL_build_75 (lv_at hl 4 rfl) ?_
            refine lv_iload_n hx hb dL_build_77 rfl (lv_at hl 3 rfl) ?_
            refine mf_icmp_ge (tgt := 188) hx hb dL_build_78 (by decide) (i32_mk (by omega) (by omega)) (i32_mk (by omega) (by omega)) (fun c9 => ?_) (fun c9 => ?_)
            · skip
              refine mf_iconst hx hb dL_build_188 ?_
              refine lv_aload_n hx hb dL_build_189 rfl (lv_at hl 1 rfl) ?_
              refine mf_bipush hx hb dL_build_190 rfl ?_
              refine vp_callSi (va_Run.run (va_runS (As := [.ref b, .int (iI (8))]) (rest := [.int (iI (1))]) ⟨hx, hb, hml, hown, hts⟩ (c_L_cell l b L xs hL (8) (i32_mk (by decide) (by decide)) (by first | assumption | omega)) (va_cwS 2 hts gL_build_L_cell rfl rfl rfl (by decide +kernel) ⟨Nat.le_of_ble_eq_true rfl, Nat.le_of_ble_eq_true rfl⟩) (scrS hXs hbl hbA hS) rfl rfl hl.1 rfl (lv_room (Nat.le_of_ble_eq_true rfl)) dL_build_192 ⟨(by rw [hcR]; omega), (by rw [hsR]; omega)⟩)) (fun q10 hq10 => ?_)
              obtain ⟨z11, rfl, w12⟩ := hq10
              refine mf_bipush hx hb dL_build_195 rfl ?_
              refine vp_callSi (va_Run.run (va_runS (As := [.int (iI (z11)), .int (iI (6))]) (rest := [.int (iI (1))]) ⟨hx, hb, hml, hown, hts⟩ (c_L_below l (z11) (6) (i32_mk (by omega) (by omega)) (i32_mk (by decide) (by decide)) (by first | assumption | omega)) (va_cwS 2 hts gL_build_L_below rfl rfl rfl (by decide +kernel) ⟨Nat.le_of_ble_eq_true rfl, Nat.le_of_ble_eq_true rfl⟩) pureS rfl rfl hl.1 rfl (lv_room (Nat.le_of_ble_eq_true rfl)) dL_build_197 ⟨(by rw [hcR]; omega), (by rw [hsR]; omega)⟩)) (fun q13 hq13 => ?_)
              obtain ⟨z14, rfl, w15⟩ := hq13
              refine mf_iadd hx hb dL_build_200 ?_
              refine lv_istore (lv' := [(4, .int (iI (1 + z14))), (0, .ref ho), (1, .ref b), (2, .ref no1), (3, .int (iI (z7)))]) hx hb dL_build_201 hl (by decide) rfl (fun ls hl => ?_)
              refine mf_iconst hx hb dL_build_203 ?_
              refine lv_istore (lv' := [(5, .int (iI (0))), (4, .int (iI (1 + z14))), (0, .ref ho), (1, .ref b), (2, .ref no1), (3, .int (iI (z7)))]) hx hb dL_build_204 hl (by decide) rfl (fun ls hl => ?_)
              have lp206 : ∀ (n : Nat) (kv3 : Int) (xe : mf_V) (re : mf_V) (rae : mf_V) (ue : mf_V) (ca3 : Nat) (n3 : Nat) (cc3 : Nat) (sc3 : Nat), (6 - kv3).toNat < n → (0 ≤ kv3 ∧ kv3 ≤ 6) → (LQs kv3 xe re rae f n3 ue) → (re 8 0 = 0) → ((cc3 : Int) ≤ 79 + 2 * kv3) → ((sc3 : Int) ≤ 2391 + 158 * kv3) → ∀ (H : Heap) (locs : List Loc), va_P G.1 vwCl (OW G ho pn pa pf ae xe ++ RW G pn adn re ++ RW G pa ada rae ++ FW G pf adf f ++ SW G no1 adm ca3 n3 ue) H → va_D A (OW G ho pn pa pf ae xe ++ RW G pn adn re ++ RW G pa ada rae ++ FW G pf adf f ++ SW G no1 adm ca3 n3 ue) → va_S A s.heap H locs → ∀ (ls : Array Slot), lv_has ls 7 [(0, .ref ho), (1, .ref b), (2, .ref no1), (4, .int (iI (1 + z14))), (5, .int (iI (kv3)))] → W p l e (headSpec wsL_build ({ frames := 8, cells := 100, slots := 4000, locals := 140 })).room s m ([.ref ho, .ref b] : List Value).toArray below meth c H locs cc3 sc3 (MQ below (va_Qr (fun (u9 : mf_V × mf_V × mf_V × mf_V × (Nat → Nat) × Nat × Nat × mf_V) => LQs 7 u9.1 u9.2.1 u9.2.2.1 u9.2.2.2.1 u9.2.2.2.2.2.2.1 u9.2.2.2.2.2.2.2 ∧ u9.2.2.2.1 = f ∧ u9.2.1 8 0 = 0) (fun (u9 : mf_V × mf_V × mf_V × mf_V × (Nat → Nat) × Nat × Nat × mf_V) a t => WrQ G A (OW G ho pn pa pf ae u9.1 ++ RW G pn adn u9.2.1 ++ RW G pa ada u9.2.2.1 ++ FW G pf adf u9.2.2.2.1 ++ SW G a u9.2.2.2.2.1 u9.2.2.2.2.2.1 u9.2.2.2.2.2.2.1 u9.2.2.2.2.2.2.2) t) A) ([.ref ho, .ref b] : List Value).toArray s 100 4000 A) (F0 m 206 ls []) := by
                intro n
                induction n with
                | zero => intro kv3 xe re rae ue ca3 n3 cc3 sc3 hn; exact absurd hn (Nat.not_lt_zero _)
                | succ n ih206 =>
                  intro kv3 xe re rae ue ca3 n3 cc3 sc3 hn hk3 hL3 h83 hcc3 hsc3 H locs hP hD hS ls hl
                  refine lv_iload hx hb dL_build_206 (lv_at hl 4 rfl) ?_
                  refine lv_iload hx hb dL_build_208 (lv_at hl 3 rfl) ?_
                  refine mf_icmp_ge (tgt := 248) hx hb dL_build_210 (by decide) (i32_mk (by omega) (by omega)) (i32_mk (by omega) (by omega)) (fun c16 => ?_) (fun c16 => ?_)
                  · skip
                    refine lv_aload_n hx hb dL_build_248 rfl (lv_at hl 2 rfl) ?_
                    refine W.widen (k := 100) (n := 4000) (by omega) (by omega) ?_
                    exact W.aret hx hb hr (Or.inl ⟨_, rfl⟩) (Or.inr ⟨_, rfl⟩) (fun t ht hW => ⟨⟨(xe, re, rae, f, adm, ca3, n3, ue), _, rfl, by (try dsimp only); exact ⟨LQs_mono hL3 (by omega), rfl, h83⟩, by rw [ht]; exact hP, hD⟩, hS.F ht⟩) hS.2.2 dL_build_249
                  · skip
                    refine lv_aload_n hx hb dL_build_213 rfl (lv_at hl 0 rfl) ?_
                    refine lv_aload_n hx hb dL_build_214 rfl (lv_at hl 2 rfl) ?_
                    refine lv_aload_n hx hb dL_build_215 rfl (lv_at hl 1 rfl) ?_
                    refine mf_bipush hx hb dL_build_216 rfl ?_
                    refine lv_iload hx hb dL_build_218 (lv_at hl 4 rfl) ?_
                    refine mf_iconst hx hb dL_build_220 ?_
                    refine mf_irem hx hb dL_build_221 (i32_mk (by omega) (by omega)) (by omega) (i32_mk (by decide) (by decide)) (by omega) ?_
                    refine mf_iadd hx hb dL_build_222 ?_
                    refine vp_callSi (va_Run.run (va_runS (As := [.ref b, .int (iI (9 + (kv3 % 3)))]) (rest := [.ref no1, .ref ho]) ⟨hx, hb, hml, hown, hts⟩ (c_L_cell l b L xs hL (9 + (kv3 % 3)) (i32_mk (by omega) (by omega)) (by first | assumption | omega)) (va_cwS 2 hts gL_build_L_cell rfl rfl rfl (by decide +kernel) ⟨Nat.le_of_ble_eq_true rfl, Nat.le_of_ble_eq_true rfl⟩) (scrS hXs hbl hbA hS) rfl rfl hl.1 rfl (lv_room (Nat.le_of_ble_eq_true rfl)) dL_build_223 ⟨(by rw [hcR]; omega), (by rw [hsR]; omega)⟩)) (fun q17 hq17 => ?_)
                    obtain ⟨z18, rfl, w19⟩ := hq17
                    refine lv_iload hx hb dL_build_226 (lv_at hl 4 rfl) ?_
                    refine lv_ishr hx hb dL_build_228 ?_
                    refine mf_nmw (fun y20 by20 => ?_)
                    refine mf_iconst hx hb dL_build_229 ?_
                    refine lv_iload hx hb dL_build_230 (lv_at hl 4 rfl) ?_
                    refine mf_imul hx hb dL_build_232 ?_
                    refine mf_iadd hx hb dL_build_233 ?_
                    refine mf_nmw (fun yx bx => ?_)
                    skip
                    have hFc := va_free (wc := OW G ho pn pa pf ae xe ++ SW G no1 adm ca3 n3 ue ++ RW G pn adn re ++ RW G pa ada rae ++ FW G pf adf f) hD hS hA [0, 1, 31, 32, 33, 34, 35, 36, 37, 38, 2, 3, 4, 5, 6, 7, 8, 9, 10, 11, 12, 13, 14, 15, 16, 17, 18, 19, 20, 21, 22, 23, 24, 25, 26, 27, 28, 29, 30] sb_03923147d1
                    refine va_calli (va_runS (As := [.ref ho, .ref no1, .int (iI (yx))]) (rest := []) ⟨hx, hb, hml, hown, hts⟩ (c_L_slip l hl9 G ho pn pa pf ae xe no1 adm ca3 n3 ue adn re ada rae adf f (yx) (kv3) (i32_mk (by omega) (by omega)) (by exact hL3) (by omega) _) (va_cwS 3 hts gL_build_L_slip rfl rfl rfl (by decide +kernel) ⟨Nat.le_of_ble_eq_true rfl, Nat.le_of_ble_eq_true rfl⟩) (wrSx (wc := OW G ho pn pa pf ae xe ++ SW G no1 adm ca3 n3 ue ++ RW G pn adn re ++ RW G pa ada rae ++ FW G pf adf f) hSX hCX hZ hS hFc hK hP hD hN [0, 1, 31, 32, 33, 34, 35, 36, 37, 38, 2, 3, 4, 5, 6, 7, 8, 9, 10, 11, 12, 13, 14, 15, 16, 17, 18, 19, 20, 21, 22, 23, 24, 25, 26, 27, 28, 29, 30] (by decide +kernel) sb_7a44dfa0e7 sb_03923147d1) rfl rfl hl.1 rfl (lv_room (Nat.le_of_ble_eq_true rfl)) dL_build_234 ⟨(by rw [hcR]; omega), (by rw [hsR]; omega)⟩) hS (fun q _ h => hFc q h) hFc (fun q21 u22 t H1 locs ht hvm hw hB hz1 hk1 hS => ?_)
                    obtain ⟨xe23, ue24, cx25, nx26, re27, rae28, f29⟩ := u22
                    try dsimp only at hw hB
                    obtain ⟨hP, hD⟩ := wrJ2 (ws := OW G ho pn pa pf ae xe ++ RW G pn adn re ++ RW G pa ada rae ++ FW G pf adf f ++ SW G no1 adm ca3 n3 ue) (wc := OW G ho pn pa pf ae xe ++ SW G no1 adm ca3 n3 ue ++ RW G pn adn re ++ RW G pa ada rae ++ FW G pf adf f) (wr := ([] : va_W)) (w1 := OW G ho pn pa pf ae xe23 ++ SW G no1 adm cx25 nx26 ue24 ++ RW G pn adn re27 ++ RW G pa ada rae28 ++ FW G pf adf f29) hP hD [0, 1, 31, 32, 33, 34, 35, 36, 37, 38, 2, 3, 4, 5, 6, 7, 8, 9, 10, 11, 12, 13, 14, 15, 16, 17, 18, 19, 20, 21, 22, 23, 24, 25, 26, 27, 28, 29, 30] [] sb_03923147d1 sb_1f944ad409 (by decide +kernel) (by decide +kernel) hk1 ht hFc hB
                    have hP : va_P G.1 vwCl (OW G ho pn pa pf ae xe23 ++ RW G pn adn re27 ++ RW G pa ada rae28 ++ FW G pf adf f29 ++ SW G no1 adm cx25 nx26 ue24) H1 := hP.sub [0, 1, 10, 11, 12, 13, 14, 15, 16, 17, 18, 19, 20, 21, 22, 23, 24, 25, 26, 27, 28, 29, 30, 31, 32, 33, 34, 35, 36, 37, 38, 2, 3, 4, 5, 6, 7, 8, 9] sb_7a8b029518
                    have hD : va_D A (OW G ho pn pa pf ae xe23 ++ RW G pn adn re27 ++ RW G pa ada rae28 ++ FW G pf adf f29 ++ SW G no1 adm cx25 nx26 ue24) := hD.sub [0, 1, 10, 11, 12, 13, 14, 15, 16, 17, 18, 19, 20, 21, 22, 23, 24, 25, 26, 27, 28, 29, 30, 31, 32, 33, 34, 35, 36, 37, 38, 2, 3, 4, 5, 6, 7, 8, 9] (by decide +kernel) sb_a7ecb17f9d
                    have hP : va_P G.1 vwCl (OW G ho pn pa pf ae xe23 ++ RW G pn adn re27 ++ RW G pa ada rae28 ++ FW G pf adf f29 ++ SW G no1 adm cx25 nx26 ue24) H1 := hP
                    have hD : va_D A (OW G ho pn pa pf ae xe23 ++ RW G pn adn re27 ++ RW G pa ada rae28 ++ FW G pf adf f29 ++ SW G no1 adm cx25 nx26 ue24) := hD
                    clear hB hk1 hFc ht hz1 hvm
                    generalize H1 = H at hP hS ⊢
                    obtain ⟨z31, rfl, w30⟩ := hw
                    have hz1 := w30.1
                    have hL9 := w30.2.1
                    have h89 := w30.2.2.2
                    have ef := w30.2.2.1.symm
                    subst ef
                    skip
                    refine mf_if_ne (tgt := 242) hx hb dL_build_237 (by decide) (i32_mk (by omega) (by omega)) (fun c32 => ?_) (fun c32 => ?_)
                    · skip
                      refine lv_iinc (v := iI (kv3 + 1)) (lv' := [(5, .int (iI (kv3 + 1))), (0, .ref ho), (1, .ref b), (2, .ref no1), (4, .int (iI (1 + z14)))]) hx hb dL_build_242 hl (k := 4) rfl (iI_add _ _).symm (by decide) rfl (fun ls hl => ?_)
                      refine lv_goto (tgt := 206) hx hb dL_build_245 (by decide) ?_
                      exact ih206 (kv3 + 1) xe23 re27 rae28 ue24 cx25 nx26 (cc3 + 2) (sc3 + 158) (by omega) (by first | assumption | omega) (by exact hL9) (by rw [h89]; exact h83) (by first | assumption | omega) (by first | assumption | omega) _ _ hP hD hS ls (lv_sub hl [1, 2, 3, 4, 0] rfl)
                    · skip
                      exfalso; omega
              exact lp206 (_ + 1) 0 xd rd rad ud cam 24 (cc2) (sc2) (Nat.lt_succ_self _) (by first | assumption | omega) (by exact hL2) (by exact h82) (by first | assumption | omega) (by first | assumption | omega) _ _ hP hD hS ls (lv_sub hl [2, 3, 4, 1, 0] rfl)
            · skip
              refine mf_bipush hx hb dL_build_81 rfl ?_
              refine lv_aload_n hx hb dL_build_83 rfl (lv_at hl 1 rfl) ?_
              refine mf_iconst hx hb dL_build_84 ?_
              refine lv_iload hx hb dL_build_85 (lv_at hl 4 rfl) ?_
              refine mf_iconst hx hb dL_build_87 ?_
              refine mf_irem hx hb dL_build_88 (i32_mk (by omega) (by omega)) (by omega) (i32_mk (by decide) (by decide)) (by omega) ?_
              refine mf_iadd hx hb dL_build_89 ?_
              refine vp_callSi (va_Run.run (va_runS (As := [.ref b, .int (iI (4 + (kv2 % 3)))]) (rest := [.int (iI (96))]) ⟨hx, hb, hml, hown, hts⟩ (c_L_cell l b L xs hL (4 + (kv2 % 3)) (i32_mk (by omega) (by omega)) (by first | assumption | omega)) (va_cwS 2 hts gL_build_L_cell rfl rfl rfl (by decide +kernel) ⟨Nat.le_of_ble_eq_true rfl, Nat.le_of_ble_eq_true rfl⟩) (scrS hXs hbl hbA hS) rfl rfl hl.1 rfl (lv_room (Nat.le_of_ble_eq_true rfl)) dL_build_90 ⟨(by rw [hcR]; omega), (by rw [hsR]; omega)⟩)) (fun q33 hq33 => ?_)
              obtain ⟨z34, rfl, w35⟩ := hq33
              refine lv_iload hx hb dL_build_93 (lv_at hl 4 rfl) ?_
              refine mf_iconst hx hb dL_build_95 ?_
              refine mf_idiv hx hb dL_build_96 (i32_mk (by omega) (by omega)) (by omega) (i32_mk (by decide) (by decide)) (by omega) ?_
              refine lv_ishr hx hb dL_build_97 ?_
              refine mf_nmw (fun y36 by36 => ?_)
              refine mf_sipush hx hb dL_build_98 rfl ?_
              refine vp_callSi (va_Run.run (va_runS (As := [.int (iI (y36)), .int (iI (192))]) (rest := [.int (iI (96))]) ⟨hx, hb, hml, hown, hts⟩ (c_L_below l (y36) (192) (i32_mk (by omega) (by omega)) (i32_mk (by decide) (by decide)) (by first | assumption | omega)) (va_cwS 2 hts gL_build_L_below rfl rfl rfl (by decide +kernel) ⟨Nat.le_of_ble_eq_true rfl, Nat.le_of_ble_eq_true rfl⟩) pureS rfl rfl hl.1 rfl (lv_room (Nat.le_of_ble_eq_true rfl)) dL_build_101 ⟨(by rw [hcR]; omega), (by rw [hsR]; omega)⟩)) (fun q37 hq37 => ?_)
              obtain ⟨z38, rfl, w39⟩ := hq37
              refine mf_iadd hx hb dL_build_104 ?_
              refine mf_nm (fun cv ecv => ?_)
              have bcv : 96 ≤ cv ∧ cv < 288 := by omega
              clear ecv
              skip
              refine lv_istore (lv' := [(5, .int (iI (cv))), (0, .ref ho), (1, .ref b), (2, .ref no1), (3, .int (iI (z7))), (4, .int (iI (kv2)))]) hx hb dL_build_105 hl (by decide) rfl (fun ls hl => ?_)
              refine mf_iconst hx hb dL_build_107 ?_
              refine lv_aload_n hx hb dL_build_108 rfl (lv_at hl 2 rfl) ?_
              refine mf_bipush hx hb dL_build_109 rfl ?_
              refine vp_callSi (va_Run.run (va_runS (As := [.ref b, .int (iI (7))]) (rest := [.int (iI (1))]) ⟨hx, hb, hml, hown, hts⟩ (c_L_cell l b L xs hL (7) (i32_mk (by decide) (by decide)) (by first | assumption | omega)) (va_cwS 2 hts gL_build_L_cell rfl rfl rfl (by decide +kernel) ⟨Nat.le_of_ble_eq_true rfl, Nat.le_of_ble_eq_true rfl⟩) (scrS hXs hbl hbA hS) rfl rfl hl.1 rfl (lv_room (Nat.le_of_ble_eq_true rfl)) dL_build_111 ⟨(by rw [hcR]; omega), (by rw [hsR]; omega)⟩)) (fun q40 hq40 => ?_)
              obtain ⟨z41, rfl, w42⟩ := hq40
              refine lv_iload hx hb dL_build_114 (lv_at hl 5 rfl) ?_
              refine mf_bipush hx hb dL_build_116 rfl ?_
              refine mf_irem hx hb dL_build_118 (i32_mk (by omega) (by omega)) (by omega) (i32_mk (by decide) (by decide)) (by omega) ?_
              refine lv_ishr hx hb dL_build_119 ?_
              refine mf_nmw (fun y43 by43 => ?_)
              refine lv_aload_n hx hb dL_build_120 rfl (lv_at hl 2 rfl) ?_
              refine mf_bipush hx hb dL_build_121 rfl ?_
              refine vp_callSi (va_Run.run (va_runS (As := [.ref b, .int (iI (7))]) (rest := [.int (iI (y43)), .int (iI (1))]) ⟨hx, hb, hml, hown, hts⟩ (c_L_cell l b L xs hL (7) (i32_mk (by decide) (by decide)) (by first | assumption | omega)) (va_cwS 2 hts gL_build_L_cell rfl rfl rfl (by decide +kernel) ⟨Nat.le_of_ble_eq_true rfl, Nat.le_of_ble_eq_true rfl⟩) (scrS hXs hbl hbA hS) rfl rfl hl.1 rfl (lv_room (Nat.le_of_ble_eq_true rfl)) dL_build_123 ⟨(by rw [hcR]; omega), (by rw [hsR]; omega)⟩)) (fun q44 hq44 => ?_)
              obtain ⟨z45, rfl, w46⟩ := hq44
              refine mf_iconst hx hb dL_build_126 ?_
              refine vp_callSi (va_Run.run (va_runS (As := [.int (iI (z45)), .int (iI (2))]) (rest := [.int (iI (y43)), .int (iI (1))]) ⟨hx, hb, hml, hown, hts⟩ (c_L_below l (z45) (2) (i32_mk (by omega) (by omega)) (i32_mk (by decide) (by decide)) (by first | assumption | omega)) (va_cwS 2 hts gL_build_L_below rfl rfl rfl (by decide +kernel) ⟨Nat.le_of_ble_eq_true rfl, Nat.le_of_ble_eq_true rfl⟩) pureS rfl rfl hl.1 rfl (lv_room (Nat.le_of_ble_eq_true rfl)) dL_build_127 ⟨(by rw [hcR]; omega), (by rw [hsR]; omega)⟩)) (fun q47 hq47 => ?_)
              obtain ⟨z48, rfl, w49⟩ := hq47
              refine mf_if_ne (tgt := 138) hx hb dL_build_130 (by decide) (i32_mk (by omega) (by omega)) (fun c50 => ?_) (fun c50 => ?_)
              · skip
                refine mf_iconst hx hb dL_build_138 ?_
                refine vp_callSi (va_Run.run (va_runS (As := [.int (iI (y43)), .int (iI (2))]) (rest := [.int (iI (1))]) ⟨hx, hb, hml, hown, hts⟩ (c_L_below l (y43) (2) (i32_mk (by omega) (by omega)) (i32_mk (by decide) (by decide)) (by first | assumption | omega)) (va_cwS 2 hts gL_build_L_below rfl rfl rfl (by decide +kernel) ⟨Nat.le_of_ble_eq_true rfl, Nat.le_of_ble_eq_true rfl⟩) pureS rfl rfl hl.1 rfl (lv_room (Nat.le_of_ble_eq_true rfl)) dL_build_139 ⟨(by rw [hcR]; omega), (by rw [hsR]; omega)⟩)) (fun q51 hq51 => ?_)
                obtain ⟨z52, rfl, w53⟩ := hq51
                refine mf_iadd hx hb dL_build_142 ?_
                refine lv_istore (lv' := [(6, .int (iI (1 + z52))), (5, .int (iI (cv))), (0, .ref ho), (1, .ref b), (2, .ref no1), (3, .int (iI (z7))), (4, .int (iI (kv2)))]) hx hb dL_build_143 hl (by decide) rfl (fun ls hl => ?_)
                refine lv_aload_n hx hb dL_build_145 rfl (lv_at hl 2 rfl) ?_
                refine lv_iload hx hb dL_build_146 (lv_at hl 1 rfl) ?_
                refine mf_bipush hx hb dL_build_148 rfl ?_
                refine mf_irem hx hb dL_build_150 (i32_mk (by omega) (by omega)) (by omega) (i32_mk (by decide) (by decide)) (by omega) ?_
                refine lv_iload hx hb dL_build_151 (lv_at hl 1 rfl) ?_
                refine mf_bipush hx hb dL_build_153 rfl ?_
                refine mf_idiv hx hb dL_build_155 (i32_mk (by omega) (by omega)) (by omega) (i32_mk (by decide) (by decide)) (by omega) ?_
                refine lv_iload hx hb dL_build_156 (lv_at hl 0 rfl) ?_
                have hk0 : kHard (cv % 24) (cv / 24) (1 + z52) = 0 := by exact (mf_if_f (fun q => q ⟨⟨by omega, by omega⟩, by omega, by omega⟩)).trans (mf_if_f (fun q => q ⟨by omega, by omega⟩))
                have hFc := va_free (wc := OW G ho pn pa pf ae xd ++ RW G pn adn rd ++ RW G pa ada rad ++ FW G pf adf f) hD hS hA [0, 1, 2, 3, 4, 5, 6, 7, 8, 9, 10, 11, 12, 13, 14, 15, 16, 17, 18, 19, 20, 21, 22, 23, 24, 25, 26, 27, 28, 29, 30] sb_e032fcb66b
                refine vx_calli (vx_runV (As := [.int (iI (cv % 24)), .int (iI (cv / 24)), .int (iI (1 + z52))]) (rest := []) ⟨hx, hb, hml, hown, hts⟩ (c_X2_setHardness l hl9 G ho pn pa pf ae xd adn rd ada rad adf f (cv % 24) (cv / 24) (1 + z52) (i32_mk (by omega) (by omega)) (i32_mk (by omega) (by omega)) (i32_mk (by omega) (by omega)) (by assumption) (by assumption) (by assumption) (by assumption) _) (cwV 3 hts gL_build_X2_setHardness rfl rfl rfl (by decide +kernel) ⟨Nat.le_of_ble_eq_true rfl, Nat.le_of_ble_eq_true rfl⟩) (wrVx (wc := OW G ho pn pa pf ae xd ++ RW G pn adn rd ++ RW G pa ada rad ++ FW G pf adf f) hSX hCX hZ hS hFc hK hP hD hN [0, 1, 2, 3, 4, 5, 6, 7, 8, 9, 10, 11, 12, 13, 14, 15, 16, 17, 18, 19, 20, 21, 22, 23, 24, 25, 26, 27, 28, 29, 30] (by decide +kernel) sb_5628208b92 sb_e032fcb66b (ci := 2) rfl rfl) rfl rfl hl.1 rfl (lv_room (Nat.le_of_ble_eq_true rfl)) dL_build_158 ⟨(by rw [hcR]; omega), (by rw [hsR]; omega)⟩) hS (fun q _ h => hFc q h) hFc (fun q _ h => hFc q h) (fun E ce q9 _ t H1 locs ht hvm _ hB hz1 hk1 hS hce hcv hcl => ?_) (fun q54 u55 t H1 locs ht hvm hw hB hz1 hk1 hS => ?_)
                · exfalso
                  have hx9 := hB.1
                  rcases hx9 with ⟨-, hk9⟩ | ⟨-, hk9⟩ <;> omega
                obtain ⟨xd56, rd57, rad58, f59⟩ := u55
                try dsimp only at hw hB
                obtain ⟨hP, hD⟩ := wrJ2 (ws := OW G ho pn pa pf ae xd ++ RW G pn adn rd ++ RW G pa ada rad ++ FW G pf adf f ++ SW G no1 adm cam 24 ud) (wc := OW G ho pn pa pf ae xd ++ RW G pn adn rd ++ RW G pa ada rad ++ FW G pf adf f) (wr := SW G no1 adm cam 24 ud) (w1 := OW G ho pn pa pf ae xd56 ++ RW G pn adn rd57 ++ RW G pa ada rad58 ++ FW G pf adf f59) hP hD [0, 1, 2, 3, 4, 5, 6, 7, 8, 9, 10, 11, 12, 13, 14, 15, 16, 17, 18, 19, 20, 21, 22, 23, 24, 25, 26, 27, 28, 29, 30] [31, 32, 33, 34, 35, 36, 37, 38] sb_e032fcb66b sb_710b1e0095 (by decide +kernel) (by decide +kernel) hk1 ht hFc hB
                have hP : va_P G.1 vwCl (OW G ho pn pa pf ae xd56 ++ RW G pn adn rd57 ++ RW G pa ada rad58 ++ FW G pf adf f59 ++ SW G no1 adm cam 24 ud) H1 := hP.sub [8, 9, 10, 11, 12, 13, 14, 15, 16, 17, 18, 19, 20, 21, 22, 23, 24, 25, 26, 27, 28, 29, 30, 31, 32, 33, 34, 35, 36, 37, 38, 0, 1, 2, 3, 4, 5, 6, 7] sb_55f0f8dd51
                have hD : va_D A (OW G ho pn pa pf ae xd56 ++ RW G pn adn rd57 ++ RW G pa ada rad58 ++ FW G pf adf f59 ++ SW G no1 adm cam 24 ud) := hD.sub [8, 9, 10, 11, 12, 13, 14, 15, 16, 17, 18, 19, 20, 21, 22, 23, 24, 25, 26, 27, 28, 29, 30, 31, 32, 33, 34, 35, 36, 37, 38, 0, 1, 2, 3, 4, 5, 6, 7] (by decide +kernel) sb_38977a1d40
                clear hB hk1 hFc ht hz1 hvm hk0
                generalize H1 = H at hP hS ⊢
                obtain ⟨z60, rfl, -, ⟨okxd56, okrd57, okrad58, okf59⟩, w62, w63, w64⟩ := hw
                have w63 := w63.symm
                subst w63
                subst w64
                have bh : (0 : Int) ≤ rd 0 (cv % 24 + 24 * (cv / 24)) ∧ rd 0 (cv % 24 + 24 * (cv / 24)) ≤ 9 := okrd 0 _
                refine lv_aload_n hx hb dL_build_161 rfl (lv_at hl 4 rfl) ?_
                refine va_get (D := G.1) (ci := 3) (v := .ref (adm 3)) (C := RX3) (T := TX3) (N := 9) hx hb hts hinX3 hown hK hP 31 rfl rfl 3 (by decide) (hts (.fieldLink RL 35 "MeanderFarmLaw$Sim" "hardness" "[I") (List.mem_of_getElem? (i := 5) rfl)) (fun _ h9 => h9) rfl dL_build_162 ?_
                refine lv_iload hx hb dL_build_165 (lv_at hl 1 rfl) ?_
                refine mf_iald (n := 384) (f := ud 3) hx hb hK hP 33 0 rfl rfl (z := cv) (by omega) (by omega) (by first | decide | omega) dL_build_167 ?_
                refine mf_top (ud 3 cv) (rd 0 cv) (by rw [(rel3 hreld (z := cv) (by omega) (by omega))]) ?_
                have b65 : (0 : Int) ≤ rd 0 cv ∧ rd 0 cv ≤ 9 := okrd 0 (cv)
                refine mf_icmp_eq (tgt := 173) hx hb dL_build_168 (by decide) (i32_mk (by omega) (by omega)) (i32_mk (by omega) (by omega)) (fun c66 => ?_) (fun c66 => ?_)
                · skip
                  refine lv_aload_n hx hb dL_build_173 rfl (lv_at hl 4 rfl) ?_
                  refine va_get (D := G.1) (ci := 3) (v := .ref (adm 3)) (C := RX3) (T := TX3) (N := 9) hx hb hts hinX3 hown hK hP 31 rfl rfl 3 (by decide) (hts (.fieldLink RL 35 "MeanderFarmLaw$Sim" "hardness" "[I") (List.mem_of_getElem? (i := 5) rfl)) (fun _ h9 => h9) rfl dL_build_174 ?_
                  refine lv_iload hx hb dL_build_177 (lv_at hl 1 rfl) ?_
                  refine lv_iload hx hb dL_build_179 (lv_at hl 0 rfl) ?_
                  refine mf_iast (n := 384) (f := ud 3) hx hb hK hP hD hS 33 0 rfl rfl (z := cv) (x := 1 + z52) (by omega) (by omega) (by first | decide | omega) dL_build_181 (fun H locs hP hD hS => ?_)
                  obtain ⟨ud67, eud67⟩ : ∃ z9 : mf_V, z9 = mf_sF ud 3 (mf_up (ud 3) (cv) (1 + z52)) := ⟨_, rfl⟩
                  have hP : va_P G.1 vwCl (OW G ho pn pa pf ae xd56 ++ RW G pn adn rd57 ++ RW G pa ada rad58 ++ FW G pf adf f ++ SW G no1 adm cam 24 ud67) H := by rw [eud67]; exact hP
                  have hD : va_D A (OW G ho pn pa pf ae xd56 ++ RW G pn adn rd57 ++ RW G pa ada rad58 ++ FW G pf adf f ++ SW G no1 adm cam 24 ud67) := by rw [eud67]; exact hD
                  have okud67 : rOK slo shi ud67 := by rw [eud67]; exact rOK_up okud 3 _ _ (show (0 : Int) ≤ 1 + z52 by omega) (show 1 + z52 ≤ (9 : Int) by omega)
                  have f1_ud67 : ud67 3 (cv) = 1 + z52 := by rw [eud67, mf_sF_s, mf_up_s]
                  have f2_ud67 : ∀ y, y ≠ (cv) → ud67 3 y = ud 3 y := fun y hy => by rw [eud67, mf_sF_s, mf_up_n hy]
                  have f3_ud67 : ∀ q, q ≠ 3 → ud67 q = ud q := fun q hq => by rw [eud67, mf_sF_n hq]
                  refine lv_iinc (v := iI (kv2 + 1)) (lv' := [(4, .int (iI (kv2 + 1))), (6, .int (iI (1 + z52))), (5, .int (iI (cv))), (0, .ref ho), (1, .ref b), (2, .ref no1), (3, .int (iI (z7)))]) hx hb dL_build_182 hl (k := 6) rfl (iI_add _ _).symm (by decide) rfl (fun ls hl => ?_)
                  refine lv_goto (tgt := 75) hx hb dL_build_185 (by decide) ?_
                  have ec : cv % 24 + 24 * (cv / 24) = cv := by omega
                  have ok7 : rOK rlo rhi (mf_sF rd 0 (mf_up (rd 0) cv (1 + z52))) := by
                    have g := okrd57
                    rw [w62, ec] at g
                    exact g
                  have hL7 : LQs 0 xd56 rd57 rad58 f 24 ud67 := by
                    rw [w62, ec]
                    exact LQs_0 hL2 ⟨okxd56, ok7, okrad58, okf⟩ okud67 f1_ud67 f2_ud67 f3_ud67
                  exact ih75 (kv2 + 1) xd56 rd57 rad58 ud67 (cc2 + 1) (sc2 + 6) (by omega) (by first | assumption | omega) (by exact hL7) (by rw [w62, mf_sF_n (by decide)]; exact h82) (by first | assumption | omega) (by first | assumption | omega) _ _ hP hD hS ls (lv_sub hl [3, 4, 5, 6, 0] rfl)
                · skip
                  exact absurd (by rw [show cv % 24 + 24 * (cv / 24) = cv by omega]) c66
              · skip
                refine mf_bipush hx hb dL_build_133 rfl ?_
                refine lv_goto (tgt := 139) hx hb dL_build_135 (by decide) ?_
                refine vp_callSi (va_Run.run (va_runS (As := [.int (iI (y43)), .int (iI (9))]) (rest := [.int (iI (1))]) ⟨hx, hb, hml, hown, hts⟩ (c_L_below l (y43) (9) (i32_mk (by omega) (by omega)) (i32_mk (by decide) (by decide)) (by first | assumption | omega)) (va_cwS 2 hts gL_build_L_below rfl rfl rfl (by decide +kernel) ⟨Nat.le_of_ble_eq_true rfl, Nat.le_of_ble_eq_true rfl⟩) pureS rfl rfl hl.1 rfl (lv_room (Nat.le_of_ble_eq_true rfl)) dL_build_139 ⟨(by rw [hcR]; omega), (by rw [hsR]; omega)⟩)) (fun q68 hq68 => ?_)
                obtain ⟨z69, rfl, w70⟩ := hq68
                refine mf_iadd hx hb dL_build_142 ?_
                refine lv_istore (lv' := [(6, .int (iI (1 + z69))), (5, .int (iI (cv))), (0, .ref ho), (1, .ref b), (2, .ref no1), (3, .int (iI (z7))), (4, .int (iI (kv2)))]) hx hb dL_build_143 hl (by decide) rfl (fun ls hl => ?_)
                refine lv_aload_n hx hb dL_build_145 rfl (lv_at hl 2 rfl) ?_
                refine lv_iload hx hb dL_build_146 (lv_at hl 1 rfl) ?_
                refine mf_bipush hx hb dL_build_148 rfl ?_
                refine mf_irem hx hb dL_build_150 (i32_mk (by omega) (by omega)) (by omega) (i32_mk (by decide) (by decide)) (by omega) ?_
                refine lv_iload hx hb dL_build_151 (lv_at hl 1 rfl) ?_
                refine mf_bipush hx hb dL_build_153 rfl ?_
                refine mf_idiv hx hb dL_build_155 (i32_mk (by omega) (by omega)) (by omega) (i32_mk (by decide) (by decide)) (by omega) ?_
                refine lv_iload hx hb dL_build_156 (lv_at hl 0 rfl) ?_
                have hk0 : kHard (cv % 24) (cv / 24) (1 + z69) = 0 := by exact (mf_if_f (fun q => q ⟨⟨by omega, by omega⟩, by omega, by omega⟩)).trans (mf_if_f (fun q => q ⟨by omega, by omega⟩))
                have hFc := va_free (wc := OW G ho pn pa pf ae xd ++ RW G pn adn rd ++ RW G pa ada rad ++ FW G pf adf f) hD hS hA [0, 1, 2, 3, 4, 5, 6, 7, 8, 9, 10, 11, 12, 13, 14, 15, 16, 17, 18, 19, 20, 21, 22, 23, 24, 25, 26, 27, 28, 29, 30] sb_e032fcb66b
                refine vx_calli (vx_runV (As := [.int (iI (cv % 24)), .int (iI (cv / 24)), .int (iI (1 + z69))]) (rest := []) ⟨hx, hb, hml, hown, hts⟩ (c_X2_setHardness l hl9 G ho pn pa pf ae xd adn rd ada rad adf f (cv % 24) (cv / 24) (1 + z69) (i32_mk (by omega) (by omega)) (i32_mk (by omega) (by omega)) (i32_mk (by omega) (by omega)) (by assumption) (by assumption) (by assumption) (by assumption) _) (cwV 3 hts gL_build_X2_setHardness rfl rfl rfl (by decide +kernel) ⟨Nat.le_of_ble_eq_true rfl, Nat.le_of_ble_eq_true rfl⟩) (wrVx (wc := OW G ho pn pa pf ae xd ++ RW G pn adn rd ++ RW G pa ada rad ++ FW G pf adf f) hSX hCX hZ hS hFc hK hP hD hN [0, 1, 2, 3, 4, 5, 6, 7, 8, 9, 10, 11, 12, 13, 14, 15, 16, 17, 18, 19, 20, 21, 22, 23, 24, 25, 26, 27, 28, 29, 30] (by decide +kernel) sb_5628208b92 sb_e032fcb66b (ci := 2) rfl rfl) rfl rfl hl.1 rfl (lv_room (Nat.le_of_ble_eq_true rfl)) dL_build_158 ⟨(by rw [hcR]; omega), (by rw [hsR]; omega)⟩) hS (fun q _ h => hFc q h) hFc (fun q _ h => hFc q h) (fun E ce q9 _ t H1 locs ht hvm _ hB hz1 hk1 hS hce hcv hcl => ?_) (fun q71 u72 t H1 locs ht hvm hw hB hz1 hk1 hS => ?_)
                · exfalso
                  have hx9 := hB.1
                  rcases hx9 with ⟨-, hk9⟩ | ⟨-, hk9⟩ <;> omega
                obtain ⟨xd73, rd74, rad75, f76⟩ := u72
                try dsimp only at hw hB
                obtain ⟨hP, hD⟩ := wrJ2 (ws := OW G ho pn pa pf ae xd ++ RW G pn adn rd ++ RW G pa ada rad ++ FW G pf adf f ++ SW G no1 adm cam 24 ud) (wc := OW G ho pn pa pf ae xd ++ RW G pn adn rd ++ RW G pa ada rad ++ FW G pf adf f) (wr := SW G no1 adm cam 24 ud) (w1 := OW G ho pn pa pf ae xd73 ++ RW G pn adn rd74 ++ RW G pa ada rad75 ++ FW G pf adf f76) hP hD [0, 1, 2, 3, 4, 5, 6, 7, 8, 9, 10, 11, 12, 13, 14, 15, 16, 17, 18, 19, 20, 21, 22, 23, 24, 25, 26, 27, 28, 29, 30] [31, 32, 33, 34, 35, 36, 37, 38] sb_e032fcb66b sb_710b1e0095 (by decide +kernel) (by decide +kernel) hk1 ht hFc hB
                have hP : va_P G.1 vwCl (OW G ho pn pa pf ae xd73 ++ RW G pn adn rd74 ++ RW G pa ada rad75 ++ FW G pf adf f76 ++ SW G no1 adm cam 24 ud) H1 := hP.sub [8, 9, 10, 11, 12, 13, 14, 15, 16, 17, 18, 19, 20, 21, 22, 23, 24, 25, 26, 27, 28, 29, 30, 31, 32, 33, 34, 35, 36, 37, 38, 0, 1, 2, 3, 4, 5, 6, 7] sb_55f0f8dd51
                have hD : va_D A (OW G ho pn pa pf ae xd73 ++ RW G pn adn rd74 ++ RW G pa ada rad75 ++ FW G pf adf f76 ++ SW G no1 adm cam 24 ud) := hD.sub [8, 9, 10, 11, 12, 13, 14, 15, 16, 17, 18, 19, 20, 21, 22, 23, 24, 25, 26, 27, 28, 29, 30, 31, 32, 33, 34, 35, 36, 37, 38, 0, 1, 2, 3, 4, 5, 6, 7] (by decide +kernel) sb_38977a1d40
                clear hB hk1 hFc ht hz1 hvm hk0
                generalize H1 = H at hP hS ⊢
                obtain ⟨z77, rfl, -, ⟨okxd73, okrd74, okrad75, okf76⟩, w79, w80, w81⟩ := hw
                have w80 := w80.symm
                subst w80
                subst w81
                have bh : (0 : Int) ≤ rd 0 (cv % 24 + 24 * (cv / 24)) ∧ rd 0 (cv % 24 + 24 * (cv / 24)) ≤ 9 := okrd 0 _
                refine lv_aload_n hx hb dL_build_161 rfl (lv_at hl 4 rfl) ?_
                refine va_get (D := G.1) (ci := 3) (v := .ref (adm 3)) (C := RX3) (T := TX3) (N := 9) hx hb hts hinX3 hown hK hP 31 rfl rfl 3 (by decide) (hts (.fieldLink RL 35 "MeanderFarmLaw$Sim" "hardness" "[I") (List.mem_of_getElem? (i := 5) rfl)) (fun _ h9 => h9) rfl dL_build_162 ?_
                refine lv_iload hx hb dL_build_165 (lv_at hl 1 rfl) ?_
                refine mf_iald (n := 384) (f := ud 3) hx hb hK hP 33 0 rfl rfl (z := cv) (by omega) (by omega) (by first | decide | omega) dL_build_167 ?_
                refine mf_top (ud 3 cv) (rd 0 cv) (by rw [(rel3 hreld (z := cv) (by omega) (by omega))]) ?_
                have b82 : (0 : Int) ≤ rd 0 cv ∧ rd 0 cv ≤ 9 := okrd 0 (cv)
                refine mf_icmp_eq (tgt := 173) hx hb dL_build_168 (by decide) (i32_mk (by omega) (by omega)) (i32_mk (by omega) (by omega)) (fun c83 => ?_) (fun c83 => ?_)
                · skip
                  refine lv_aload_n hx hb dL_build_173 rfl (lv_at hl 4 rfl) ?_
                  refine va_get (D := G.1) (ci := 3) (v := .ref (adm 3)) (C := RX3) (T := TX3) (N := 9) hx hb hts hinX3 hown hK hP 31 rfl rfl 3 (by decide) (hts (.fieldLink RL 35 "MeanderFarmLaw$Sim" "hardness" "[I") (List.mem_of_getElem? (i := 5) rfl)) (fun _ h9 => h9) rfl dL_build_174 ?_
                  refine lv_iload hx hb dL_build_177 (lv_at hl 1 rfl) ?_
                  refine lv_iload hx hb dL_build_179 (lv_at hl 0 rfl) ?_
                  refine mf_iast (n := 384) (f := ud 3) hx hb hK hP hD hS 33 0 rfl rfl (z := cv) (x := 1 + z69) (by omega) (by omega) (by first | decide | omega) dL_build_181 (fun H locs hP hD hS => ?_)
                  obtain ⟨ud84, eud84⟩ : ∃ z9 : mf_V, z9 = mf_sF ud 3 (mf_up (ud 3) (cv) (1 + z69)) := ⟨_, rfl⟩
                  have hP : va_P G.1 vwCl (OW G ho pn pa pf ae xd73 ++ RW G pn adn rd74 ++ RW G pa ada rad75 ++ FW G pf adf f ++ SW G no1 adm cam 24 ud84) H := by rw [eud84]; exact hP
                  have hD : va_D A (OW G ho pn pa pf ae xd73 ++ RW G pn adn rd74 ++ RW G pa ada rad75 ++ FW G pf adf f ++ SW G no1 adm cam 24 ud84) := by rw [eud84]; exact hD
                  have okud84 : rOK slo shi ud84 := by rw [eud84]; exact rOK_up okud 3 _ _ (show (0 : Int) ≤ 1 + z69 by omega) (show 1 + z69 ≤ (9 : Int) by omega)
                  have f1_ud84 : ud84 3 (cv) = 1 + z69 := by rw [eud84, mf_sF_s, mf_up_s]
                  have f2_ud84 : ∀ y, y ≠ (cv) → ud84 3 y = ud 3 y := fun y hy => by rw [eud84, mf_sF_s, mf_up_n hy]
                  have f3_ud84 : ∀ q, q ≠ 3 → ud84 q = ud q := fun q hq => by rw [eud84, mf_sF_n hq]
                  refine lv_iinc (v := iI (kv2 + 1)) (lv' := [(4, .int (iI (kv2 + 1))), (6, .int (iI (1 + z69))), (5, .int (iI (cv))), (0, .ref ho), (1, .ref b), (2, .ref no1), (3, .int (iI (z7)))]) hx hb dL_build_182 hl (k := 6) rfl (iI_add _ _).symm (by decide) rfl (fun ls hl => ?_)
                  refine lv_goto (tgt := 75) hx hb dL_build_185 (by decide) ?_
                  have ec : cv % 24 + 24 * (cv / 24) = cv := by omega
                  have ok7 : rOK rlo rhi (mf_sF rd 0 (mf_up (rd 0) cv (1 + z69))) := by
                    have g := okrd74
                    rw [w79, ec] at g
                    exact g
                  have hL7 : LQs 0 xd73 rd74 rad75 f 24 ud84 := by
                    rw [w79, ec]
                    exact LQs_0 hL2 ⟨okxd73, ok7, okrad75, okf⟩ okud84 f1_ud84 f2_ud84 f3_ud84
                  exact ih75 (kv2 + 1) xd73 rd74 rad75 ud84 (cc2 + 1) (sc2 + 6) (by omega) (by first | assumption | omega) (by exact hL7) (by rw [w79, mf_sF_n (by decide)]; exact h82) (by first | assumption | omega) (by first | assumption | omega) _ _ hP hD hS ls (lv_sub hl [3, 4, 5, 6, 0] rfl)
                · skip
                  exact absurd (by rw [show cv % 24 + 24 * (cv / 24) = cv by omega]) c83
        exact lp75 (_ + 1) 0 xb rb rab ub (cc) (sc) (Nat.lt_succ_self _) (by first | assumption | omega) (by exact hL1) (by exact h81) (by first | assumption | omega) (by first | assumption | omega) _ _ hP hD hS ls (lv_sub hl [2, 3, 4, 1, 0] rfl)
      · skip
        refine mf_iconst hx hb dL_build_16 ?_
        refine lv_aload_n hx hb dL_build_17 rfl (lv_at hl 1 rfl) ?_
        refine lv_iload_n hx hb dL_build_18 rfl (lv_at hl 3 rfl) ?_
        refine mf_iconst hx hb dL_build_19 ?_
        refine mf_irem hx hb dL_build_20 (i32_mk (by omega) (by omega)) (by omega) (i32_mk (by decide) (by decide)) (by omega) ?_
        refine vp_callSi (va_Run.run (va_runS (As := [.ref b, .int (iI (kv % 4))]) (rest := [.int (iI (1))]) ⟨hx, hb, hml, hown, hts⟩ (c_L_cell l b L xs hL (kv % 4) (i32_mk (by omega) (by omega)) (by first | assumption | omega)) (va_cwS 2 hts gL_build_L_cell rfl rfl rfl (by decide +kernel) ⟨Nat.le_of_ble_eq_true rfl, Nat.le_of_ble_eq_true rfl⟩) (scrS hXs hbl hbA hS) rfl rfl hl.1 rfl (lv_room (Nat.le_of_ble_eq_true rfl)) dL_build_21 ⟨(by rw [hcR]; omega), (by rw [hsR]; omega)⟩)) (fun q85 hq85 => ?_)
        obtain ⟨z86, rfl, w87⟩ := hq85
        refine lv_iload_n hx hb dL_build_24 rfl (lv_at hl 3 rfl) ?_
        refine lv_ishr hx hb dL_build_25 ?_
        refine mf_nmw (fun y88 by88 => ?_)
        refine mf_bipush hx hb dL_build_26 rfl ?_
        refine vp_callSi (va_Run.run (va_runS (As := [.int (iI (y88)), .int (iI (9))]) (rest := [.int (iI (1))]) ⟨hx, hb, hml, hown, hts⟩ (c_L_below l (y88) (9) (i32_mk (by omega) (by omega)) (i32_mk (by decide) (by decide)) (by first | assumption | omega)) (va_cwS 2 hts gL_build_L_below rfl rfl rfl (by decide +kernel) ⟨Nat.le_of_ble_eq_true rfl, Nat.le_of_ble_eq_true rfl⟩) pureS rfl rfl hl.1 rfl (lv_room (Nat.le_of_ble_eq_true rfl)) dL_build_28 ⟨(by rw [hcR]; omega), (by rw [hsR]; omega)⟩)) (fun q89 hq89 => ?_)
        obtain ⟨z90, rfl, w91⟩ := hq89
        refine mf_iadd hx hb dL_build_31 ?_
        refine lv_istore (lv' := [(4, .int (iI (1 + z90))), (0, .ref ho), (1, .ref b), (2, .ref no1), (3, .int (iI (kv)))]) hx hb dL_build_32 hl (by decide) rfl (fun ls hl => ?_)
        refine lv_aload_n hx hb dL_build_34 rfl (lv_at hl 1 rfl) ?_
        refine lv_iload_n hx hb dL_build_35 rfl (lv_at hl 4 rfl) ?_
        refine lv_iload hx hb dL_build_36 (lv_at hl 0 rfl) ?_
        have hk0 : kFlow kv (1 + z90) = 0 := by exact (mf_if_f (fun q => q ⟨by omega, by omega⟩)).trans (mf_if_f (fun q => q ⟨by omega, by omega⟩))
        have hFc := va_free (wc := OW G ho pn pa pf ae xb ++ RW G pn adn rb ++ RW G pa ada rab ++ FW G pf adf f) hD hS hA [0, 1, 2, 3, 4, 5, 6, 7, 8, 9, 10, 11, 12, 13, 14, 15, 16, 17, 18, 19, 20, 21, 22, 23, 24, 25, 26, 27, 28, 29, 30] sb_e032fcb66b
        refine vx_calli (vx_runV (As := [.int (iI (kv)), .int (iI (1 + z90))]) (rest := []) ⟨hx, hb, hml, hown, hts⟩ (c_X2_setFlow l hl9 G ho pn pa pf ae xb adn rb ada rab adf f (kv) (1 + z90) (i32_mk (by omega) (by omega)) (i32_mk (by omega) (by omega)) (by assumption) (by assumption) (by assumption) (by assumption) _) (cwV 2 hts gL_build_X2_setFlow rfl rfl rfl (by decide +kernel) ⟨Nat.le_of_ble_eq_true rfl, Nat.le_of_ble_eq_true rfl⟩) (wrVx (wc := OW G ho pn pa pf ae xb ++ RW G pn adn rb ++ RW G pa ada rab ++ FW G pf adf f) hSX hCX hZ hS hFc hK hP hD hN [0, 1, 2, 3, 4, 5, 6, 7, 8, 9, 10, 11, 12, 13, 14, 15, 16, 17, 18, 19, 20, 21, 22, 23, 24, 25, 26, 27, 28, 29, 30] (by decide +kernel) sb_5628208b92 sb_e032fcb66b (ci := 2) rfl rfl) rfl rfl hl.1 rfl (lv_room (Nat.le_of_ble_eq_true rfl)) dL_build_38 ⟨(by rw [hcR]; omega), (by rw [hsR]; omega)⟩) hS (fun q _ h => hFc q h) hFc (fun q _ h => hFc q h) (fun E ce q9 _ t H1 locs ht hvm _ hB hz1 hk1 hS hce hcv hcl => ?_) (fun q92 u93 t H1 locs ht hvm hw hB hz1 hk1 hS => ?_)
        · exfalso
          have hx9 := hB.1
          rcases hx9 with ⟨-, hk9⟩ | ⟨-, hk9⟩ <;> omega
        obtain ⟨xb94, rb95, rab96, f97⟩ := u93
        try dsimp only at hw hB
        obtain ⟨hP, hD⟩ := wrJ2 (ws := OW G ho pn pa pf ae xb ++ RW G pn adn rb ++ RW G pa ada rab ++ FW G pf adf f ++ SW G no1 adm cam 24 ub) (wc := OW G ho pn pa pf ae xb ++ RW G pn adn rb ++ RW G pa ada rab ++ FW G pf adf f) (wr := SW G no1 adm cam 24 ub) (w1 := OW G ho pn pa pf ae xb94 ++ RW G pn adn rb95 ++ RW G pa ada rab96 ++ FW G pf adf f97) hP hD [0, 1, 2, 3, 4, 5, 6, 7, 8, 9, 10, 11, 12, 13, 14, 15, 16, 17, 18, 19, 20, 21, 22, 23, 24, 25, 26, 27, 28, 29, 30] [31, 32, 33, 34, 35, 36, 37, 38] sb_e032fcb66b sb_710b1e0095 (by decide +kernel) (by decide +kernel) hk1 ht hFc hB
        have hP : va_P G.1 vwCl (OW G ho pn pa pf ae xb94 ++ RW G pn adn rb95 ++ RW G pa ada rab96 ++ FW G pf adf f97 ++ SW G no1 adm cam 24 ub) H1 := hP.sub [8, 9, 10, 11, 12, 13, 14, 15, 16, 17, 18, 19, 20, 21, 22, 23, 24, 25, 26, 27, 28, 29, 30, 31, 32, 33, 34, 35, 36, 37, 38, 0, 1, 2, 3, 4, 5, 6, 7] sb_55f0f8dd51
        have hD : va_D A (OW G ho pn pa pf ae xb94 ++ RW G pn adn rb95 ++ RW G pa ada rab96 ++ FW G pf adf f97 ++ SW G no1 adm cam 24 ub) := hD.sub [8, 9, 10, 11, 12, 13, 14, 15, 16, 17, 18, 19, 20, 21, 22, 23, 24, 25, 26, 27, 28, 29, 30, 31, 32, 33, 34, 35, 36, 37, 38, 0, 1, 2, 3, 4, 5, 6, 7] (by decide +kernel) sb_38977a1d40
        clear hB hk1 hFc ht hz1 hvm hk0
        generalize H1 = H at hP hS ⊢
        obtain ⟨z98, rfl, -, ⟨okxb94, okrb95, okrab96, okf97⟩, w100, w101, w102⟩ := hw
        have w101 := w101.symm
        subst w101
        subst w102
        have e3 := h51 kv (by omega) (by omega)
        refine mf_iconst hx hb dL_build_41 ?_
        refine mf_icmp_eq (tgt := 47) hx hb dL_build_42 (by decide) (i32_mk (by omega) (by omega)) (i32_mk (by decide) (by decide)) (fun c103 => ?_) (fun c103 => ?_)
        · skip
          refine lv_aload_n hx hb dL_build_47 rfl (lv_at hl 3 rfl) ?_
          refine va_get (D := G.1) (ci := 3) (v := .ref (adm 7)) (C := RX3) (T := TX3) (N := 9) hx hb hts hinX3 hown hK hP 31 rfl rfl 7 (by decide) (hts (.fieldLink RL 27 "MeanderFarmLaw$Sim" "flow" "[I") (List.mem_of_getElem? (i := 4) rfl)) (fun _ h9 => h9) rfl dL_build_48 ?_
          refine lv_iload_n hx hb dL_build_51 rfl (lv_at hl 4 rfl) ?_
          refine lv_iload hx hb dL_build_52 (lv_at hl 0 rfl) ?_
          refine mf_iast (n := 12) (f := ub 7) hx hb hK hP hD hS 37 0 rfl rfl (z := kv) (x := 1 + z90) (by omega) (by omega) (by first | decide | omega) dL_build_54 (fun H locs hP hD hS => ?_)
          obtain ⟨ub104, eub104⟩ : ∃ z9 : mf_V, z9 = mf_sF ub 7 (mf_up (ub 7) (kv) (1 + z90)) := ⟨_, rfl⟩
          have hP : va_P G.1 vwCl (OW G ho pn pa pf ae xb94 ++ RW G pn adn rb95 ++ RW G pa ada rab96 ++ FW G pf adf f ++ SW G no1 adm cam 24 ub104) H := by rw [eub104]; exact hP
          have hD : va_D A (OW G ho pn pa pf ae xb94 ++ RW G pn adn rb95 ++ RW G pa ada rab96 ++ FW G pf adf f ++ SW G no1 adm cam 24 ub104) := by rw [eub104]; exact hD
          have okub104 : rOK slo shi ub104 := by rw [eub104]; exact rOK_up okub 7 _ _ (show (0 : Int) ≤ 1 + z90 by omega) (show 1 + z90 ≤ (9 : Int) by omega)
          have f1_ub104 : ub104 7 (kv) = 1 + z90 := by rw [eub104, mf_sF_s, mf_up_s]
          have f2_ub104 : ∀ y, y ≠ (kv) → ub104 7 y = ub 7 y := fun y hy => by rw [eub104, mf_sF_s, mf_up_n hy]
          have f3_ub104 : ∀ q, q ≠ 7 → ub104 q = ub q := fun q hq => by rw [eub104, mf_sF_n hq]
          refine lv_iinc (v := iI (kv + 1)) (lv' := [(3, .int (iI (kv + 1))), (4, .int (iI (1 + z90))), (0, .ref ho), (1, .ref b), (2, .ref no1)]) hx hb dL_build_55 hl (k := 4) rfl (iI_add _ _).symm (by decide) rfl (fun ls hl => ?_)
          refine lv_goto (tgt := 10) hx hb dL_build_58 (by decide) ?_
          have ok7 : rOK rlo rhi (mf_sF rb 5 (mf_up (rb 5) kv (1 + z90))) := by
            have g := okrb95
            rw [w100] at g
            exact g
          have hL7 : LQs 0 xb94 rb95 rab96 f 24 ub104 := by
            rw [w100]
            exact LQs_5 hL1 ⟨okxb94, ok7, okrab96, okf⟩ okub104 f1_ub104 f2_ub104 f3_ub104
          exact ih10 (kv + 1) xb94 rb95 rab96 ub104 (cc + 1) (sc + 6) (by omega) (by first | assumption | omega) (by exact hL7) (by rw [w100, mf_sF_n (by decide)]; exact h81) (by intro z z0 z1; rw [w100, mf_sF_s, mf_up_n (by omega)]; exact h51 z (by omega) z1) (by first | assumption | omega) (by first | assumption | omega) _ _ hP hD hS ls (lv_sub hl [2, 3, 4, 0] rfl)
        · skip
          exfalso; omega
  exact lp10 (_ + 1) 0 x r ra um (8) (1965) (Nat.lt_succ_self _) (by first | assumption | omega) (by exact ⟨⟨okx, ok, okra, okf⟩, hPI, bd0, okum, hrelm⟩) (by exact i8) (by intro z z0 z1; exact i5 z (by omega) z1) (by first | assumption | omega) (by first | assumption | omega) _ _ hP hD hS ls (lv_sub hl [2, 3, 1, 0] rfl)
