/-! 51.h5.lawinit: what the law makes -/
theorem LI_0 {x r ra f u : mf_V} (okx : rOK xlo xhi x) (ok : rOK rlo rhi r) (okra : rOK rlo rhi ra) (okf : rOK flo fhi f) (hI : RInv r) (hi : initR r) (hf : f 4 0 = 0) (oku : rOK ulo uhi u) (hr : relU r u) (hu : u 4 0 = 0) : LI 0 x r ra f u := by
  obtain ⟨-, h1, -, -, -, -, -, h8, h9⟩ := hi
  exact ⟨⟨okx, ok, okra, okf⟩, hI, ⟨by omega, by omega, fun c => by rw [h1 c]; omega⟩, fun k h0 h2 => by omega, oku, hr, ⟨by omega, fun k h0 h2 => by omega⟩⟩
set_option maxHeartbeats 4000000 in
set_option maxRecDepth 100000 in
theorem law_init {p : Program} {l : Launch} {e : Env} {s : State} {m : MethodId} {below : List Frame} {meth : Method} {c : Code} {Q : State → Prop} {b L : Nat} {xs : Nat → Int32} {G : mf_G} {gL gK : ClassId} {A : Nat → Prop} (E : LE p l s m meth c b L xs G gL gK A) {ls : Array Slot} (hl : lv_has ls 9 [(0, .ref b)])
    (kk : ∀ (ho pn pa pf ae hw hm : Nat) (adn ada adf adm : Nat → Nat) (x r ra f u : mf_V) (o : Nat → Int64) (H : Heap) (locs : List Loc) (ls : Array Slot), LI 0 x r ra f u → va_P G.1 vwCl (OW G ho pn pa pf ae x ++ LW gL hw o ++ RW G pn adn r ++ RW G pa ada ra ++ FW G pf adf f ++ MW G hm adm u) H → va_D A (OW G ho pn pa pf ae x ++ LW gL hw o ++ RW G pn adn r ++ RW G pa ada ra ++ FW G pf adf f ++ MW G hm adm u) → va_S A s.heap H locs → lv_has ls 9 [(4, .int (iI (0))), (0, .ref b), (1, .ref ho), (2, .ref hm), (3, .ref hw)] → W p l e room_1 s m #[Value.ref b] below meth c H locs 100 20000 Q (F0 m 23 ls [])) :
    W p l e room_1 s m #[Value.ref b] below meth c s.heap [] 0 0 Q (F0 m 0 ls []) := by
  obtain ⟨hx, hb, hr, hml, hown, hts, hXs, hbl, hl9, hK2, hN, hX, hSX, hCX, hZ, hNX, hA, hbA⟩ := id E
  have hK := hK2.sub (tys' := mf_ty G) [0, 1] rfl
  have hS : va_S A s.heap s.heap [] := va_S.rf
  have hP : va_P G.1 vwCl ([] : va_W) s.heap := fun k q h => by simp at h
  have hD : va_D A ([] : va_W) := ⟨fun i j p q h => by simp at h, fun k q h => by simp at h⟩
  refine va_new (D := G.1) (ci := 2) (fs := [.null, .null, .null, .null]) (C := RX2) (T := TX2) (N := 4) hx hb hts inlX2 tyX2 tyX2_ok hown (hts (.classLink RL 8 RX2) (List.mem_of_getElem? (i := 0) rfl)) (hts (.instantiable RX2 4) (List.mem_of_getElem? (i := 1) rfl)) (hts (.initialized RX2) (List.mem_of_getElem? (i := 2) rfl)) hK hP hD hS hA rfl (fun j hj => by rcases (show j = 0 ∨ j = 1 ∨ j = 2 ∨ j = 3 by omega) with rfl | rfl | rfl | rfl <;> rfl) (Nat.le_of_ble_eq_true rfl) (Nat.le_of_ble_eq_true rfl) dL_law_0 (fun ho H hP hD hS => ?_)
  have hP : va_P G.1 vwCl (CW ho 2 [.null, .null, .null, .null]) H := hP
  have hD : va_D A (CW ho 2 [.null, .null, .null, .null]) := hD
  refine lv_dup hx hb dL_law_3 rfl ?_
  have hFc := va_free (wc := CW ho 2 [.null, .null, .null, .null]) hD hS hA [0] rfl
  refine va_callv (va_runI (As := []) (rest := [.ref ho]) ⟨hx, hb, hml, hown, hts⟩ (c_X2_init l G ho _) (cwI 0 hts gL_law_X2_init rfl rfl rfl (hts (.initialized RX2) (List.mem_of_getElem? (i := 2) rfl)) (hts (.methodLink RL 65 yX2_init) (List.mem_of_getElem? (i := 7) rfl)) (hts (.instanceMethod yX2_init) (List.mem_of_getElem? (i := 8) rfl)) rfl (by decide +kernel) ⟨Nat.le_of_ble_eq_true rfl, Nat.le_of_ble_eq_true rfl⟩) (wrS (wc := CW ho 2 [.null, .null, .null, .null]) hK hP hD hN [0] (by decide) rfl rfl) rfl rfl hl.1 rfl (lv_room (Nat.le_of_ble_eq_true rfl)) dL_law_4 ⟨Nat.le_of_ble_eq_true rfl, Nat.le_of_ble_eq_true rfl⟩) hS (fun q _ h => hFc q h) hFc (fun un t H1 locs ht hvm hw hB hz1 hk1 hS => ?_)
  obtain ⟨ua, ub, uv⟩ := un
  try dsimp only at hw hB
  obtain ⟨hP, hD⟩ := wrJ (ws := CW ho 2 [.null, .null, .null, .null]) (w1 := OW G ho (ua 0) (ua 1) (ua 2) (ua 3) (uv 3) ++ RW G (ua 0) (ub 0) (uv 0) ++ RW G (ua 1) (ub 1) (uv 1) ++ FW G (ua 2) (ub 2) (uv 2)) ht hFc hB
  obtain ⟨⟨ok, hRI, hin9⟩, ⟨okra, -, -⟩, ⟨okf, hf4⟩, okx⟩ := hw
  clear hB hk1 hFc ht hz1 hvm
  generalize H1 = H at hP hS ⊢
  refine lv_astore_n (lv' := [(1, .ref ho), (0, .ref b)]) hx hb dL_law_7 rfl hl (by decide) rfl (fun ls hl => ?_)
  refine va_new (D := G.1) (ci := 3) (fs := [.int (iI (0)), .null, .null, .null, .int (iI (0)), .null, .null, .null, .null, .null, .null]) (C := RX3) (T := TX3) (N := 11) hx hb hts inlX3 tyX3 tyX3_ok hown (hts (.classLink RL 66 RX3) (List.mem_of_getElem? (i := 3) rfl)) (hts (.instantiable RX3 11) (List.mem_of_getElem? (i := 4) rfl)) (hts (.initialized RX3) (List.mem_of_getElem? (i := 5) rfl)) hK hP hD hS hA rfl (fun j hj => by rcases (show j = 0 ∨ j = 1 ∨ j = 2 ∨ j = 3 ∨ j = 4 ∨ j = 5 ∨ j = 6 ∨ j = 7 ∨ j = 8 ∨ j = 9 ∨ j = 10 by omega) with rfl | rfl | rfl | rfl | rfl | rfl | rfl | rfl | rfl | rfl | rfl <;> rfl) (Nat.le_of_ble_eq_true rfl) (Nat.le_of_ble_eq_true rfl) dL_law_8 (fun hm H hP hD hS => ?_)
  have hP : va_P G.1 vwCl (OW G ho (ua 0) (ua 1) (ua 2) (ua 3) (uv 3) ++ RW G (ua 0) (ub 0) (uv 0) ++ RW G (ua 1) (ub 1) (uv 1) ++ FW G (ua 2) (ub 2) (uv 2) ++ CW hm 3 [.int (iI (0)), .null, .null, .null, .int (iI (0)), .null, .null, .null, .null, .null, .null]) H := hP
  have hD : va_D A (OW G ho (ua 0) (ua 1) (ua 2) (ua 3) (uv 3) ++ RW G (ua 0) (ub 0) (uv 0) ++ RW G (ua 1) (ub 1) (uv 1) ++ FW G (ua 2) (ub 2) (uv 2) ++ CW hm 3 [.int (iI (0)), .null, .null, .null, .int (iI (0)), .null, .null, .null, .null, .null, .null]) := hD
  refine lv_dup hx hb dL_law_11 rfl ?_
  have hFc := va_free (wc := CW hm 3 [.int (iI (0)), .null, .null, .null, .int (iI (0)), .null, .null, .null, .null, .null, .null]) hD hS hA [31] rfl
  refine va_callv (va_runI (As := []) (rest := [.ref hm]) ⟨hx, hb, hml, hown, hts⟩ (c_X3_init l G hm (uv 0) ok hRI hin9 _) (cwI 0 hts gL_law_X3_init rfl rfl rfl (hts (.initialized RX3) (List.mem_of_getElem? (i := 5) rfl)) (hts (.methodLink RL 68 yX3_init) (List.mem_of_getElem? (i := 74) rfl)) (hts (.instanceMethod yX3_init) (List.mem_of_getElem? (i := 75) rfl)) rfl (by decide +kernel) ⟨Nat.le_of_ble_eq_true rfl, Nat.le_of_ble_eq_true rfl⟩) (wrS (wc := CW hm 3 [.int (iI (0)), .null, .null, .null, .int (iI (0)), .null, .null, .null, .null, .null, .null]) hK hP hD hN [31] (by decide) rfl rfl) rfl rfl hl.1 rfl (lv_room (Nat.le_of_ble_eq_true rfl)) dL_law_12 ⟨Nat.le_of_ble_eq_true rfl, Nat.le_of_ble_eq_true rfl⟩) hS (fun q _ h => hFc q h) hFc (fun um t H1 locs ht hvm hw hB hz1 hk1 hS => ?_)
  obtain ⟨adm, u⟩ := um
  try dsimp only at hw hB
  obtain ⟨hP, hD⟩ := wrJ2 (ws := OW G ho (ua 0) (ua 1) (ua 2) (ua 3) (uv 3) ++ RW G (ua 0) (ub 0) (uv 0) ++ RW G (ua 1) (ub 1) (uv 1) ++ FW G (ua 2) (ub 2) (uv 2) ++ CW hm 3 [.int (iI (0)), .null, .null, .null, .int (iI (0)), .null, .null, .null, .null, .null, .null]) (wc := CW hm 3 [.int (iI (0)), .null, .null, .null, .int (iI (0)), .null, .null, .null, .null, .null, .null]) (wr := OW G ho (ua 0) (ua 1) (ua 2) (ua 3) (uv 3) ++ RW G (ua 0) (ub 0) (uv 0) ++ RW G (ua 1) (ub 1) (uv 1) ++ FW G (ua 2) (ub 2) (uv 2)) (w1 := MW G hm adm u) hP hD [31] [0, 1, 2, 3, 4, 5, 6, 7, 8, 9, 10, 11, 12, 13, 14, 15, 16, 17, 18, 19, 20, 21, 22, 23, 24, 25, 26, 27, 28, 29, 30] rfl rfl (by decide +kernel) (by decide +kernel) hk1 ht hFc hB
  obtain ⟨oku, hrel, -, hu4⟩ := hw
  clear hB hk1 hFc ht hz1 hvm
  generalize H1 = H at hP hS ⊢
  refine lv_astore_n (lv' := [(2, .ref hm), (1, .ref ho), (0, .ref b)]) hx hb dL_law_15 rfl hl (by decide) rfl (fun ls hl => ?_)
  refine mf_iconst hx hb dL_law_16 ?_
  refine va_newa (atype := .long) (ty := .long) (N' := 1) (a0 := (1, .inr (.inl (fun _ => 0)))) hx hb (hts (.arrayClass .long) (List.mem_of_getElem? (i := 6) rfl)) rfl hK2 hP hD hS hA (fun cA => rfl) (by decide) (by decide) (Nat.le_of_ble_eq_true rfl) (Nat.le_of_ble_eq_true rfl) (Nat.le_of_ble_eq_true rfl) dL_law_17 (fun hw cA H hK1 hP hD hS => ?_)
  have e9 : cA = gL := by
    have a := (hK1.2 3 (cA, .long) rfl).2
    have b := (hK2.2 2 (gL, .long) rfl).2
    exact Option.some.inj (a.symm.trans b)
  subst e9
  have hP : va_P G.1 vwCl (OW G ho (ua 0) (ua 1) (ua 2) (ua 3) (uv 3) ++ LW cA hw (fun _ => 0) ++ RW G (ua 0) (ub 0) (uv 0) ++ RW G (ua 1) (ub 1) (uv 1) ++ FW G (ua 2) (ub 2) (uv 2) ++ MW G hm adm u) H := hP.sub [0, 1, 41, 2, 3, 4, 5, 6, 7, 8, 9, 10, 11, 12, 13, 14, 15, 16, 17, 18, 19, 20, 21, 22, 23, 24, 25, 26, 27, 28, 29, 30, 31, 32, 33, 34, 35, 36, 37, 38, 39, 40] rfl
  have hD : va_D A (OW G ho (ua 0) (ua 1) (ua 2) (ua 3) (uv 3) ++ LW cA hw (fun _ => 0) ++ RW G (ua 0) (ub 0) (uv 0) ++ RW G (ua 1) (ub 1) (uv 1) ++ FW G (ua 2) (ub 2) (uv 2) ++ MW G hm adm u) := hD.sub [0, 1, 41, 2, 3, 4, 5, 6, 7, 8, 9, 10, 11, 12, 13, 14, 15, 16, 17, 18, 19, 20, 21, 22, 23, 24, 25, 26, 27, 28, 29, 30, 31, 32, 33, 34, 35, 36, 37, 38, 39, 40] (by decide +kernel) rfl
  refine lv_astore_n (lv' := [(3, .ref hw), (2, .ref hm), (1, .ref ho), (0, .ref b)]) hx hb dL_law_19 rfl hl (by decide) rfl (fun ls hl => ?_)
  refine mf_iconst hx hb dL_law_20 ?_
  refine lv_istore (lv' := [(4, .int (iI 0)), (3, .ref hw), (2, .ref hm), (1, .ref ho), (0, .ref b)]) hx hb dL_law_21 hl (by decide) rfl (fun ls hl => ?_)
  refine W.widen (k := 100) (n := 20000) (Nat.le_of_ble_eq_true rfl) (Nat.le_of_ble_eq_true rfl) ?_
  exact kk ho (ua 0) (ua 1) (ua 2) (ua 3) hw hm (ub 0) (ub 1) (ub 2) adm (uv 3) (uv 0) (uv 1) (uv 2) u (fun _ => 0) H locs ls (LI_0 okx ok okra okf hRI hin9 hf4 oku hrel hu4) hP hD hS (lv_sub hl [0, 4, 3, 2, 1] rfl)
