/-! 64.lawcases3: winding, digest -/
set_option maxHeartbeats 4000000 in
set_option maxRecDepth 100000 in
theorem lc_winding {p : Program} {l : Launch} {e : Env} {s : State} {m : MethodId} {below : List Frame} {meth : Method} {c : Code} {Q : State → Prop} {b L : Nat} {xs : Nat → Int32} {G : mf_G} {gL gK : ClassId} {A : Nat → Prop} (E : LE p l s m meth c b L xs G gL gK A) {ho pn pa pf ae jw hm : Nat} {adn ada adf adm : Nat → Nat} {x r ra f u : mf_V} {o : Nat → Int64} {Y iv : Int} {cells slots : Nat} {H : Heap} {locs : List Loc} {ls : Array Slot} (hI0 : LI Y x r ra f u) (hY : 0 ≤ Y ∧ Y + 100 ≤ 60000) (hiv : 0 ≤ iv ∧ iv + 5 ≤ L ∧ L ≤ 2560) (hcl : cells + 6 ≤ 601024 ∧ slots + 933 ≤ 7293033) (hP : va_P G.1 vwCl (OW G ho pn pa pf ae x ++ LW gL jw o ++ RW G pn adn r ++ RW G pa ada ra ++ FW G pf adf f ++ MW G hm adm u) H) (hD : va_D A (OW G ho pn pa pf ae x ++ LW gL jw o ++ RW G pn adn r ++ RW G pa ada ra ++ FW G pf adf f ++ MW G hm adm u)) (hS : va_S A s.heap H locs) (hl : lv_has ls 9 [(4, .int (iI (iv))), (0, .ref b), (1, .ref ho), (2, .ref hm), (3, .ref jw)])
    (kk : ∀ (x' : mf_V) (o' : Nat → Int64) (r' ra' f' u' : mf_V) (H : Heap) (locs : List Loc) (ls : Array Slot), LI (Y + 101) x' r' ra' f' u' → va_P G.1 vwCl (OW G ho pn pa pf ae x' ++ LW gL jw o' ++ RW G pn adn r' ++ RW G pa ada ra' ++ FW G pf adf f' ++ MW G hm adm u') H → va_D A (OW G ho pn pa pf ae x' ++ LW gL jw o' ++ RW G pn adn r' ++ RW G pa ada ra' ++ FW G pf adf f' ++ MW G hm adm u') → va_S A s.heap H locs → lv_has ls 9 [(4, .int (iI (iv))), (0, .ref b), (1, .ref ho), (2, .ref hm), (3, .ref jw)] → W p l e room_1 s m #[Value.ref b] below meth c H locs (cells + 6) (slots + 933) Q (F0 m 1223 ls [])) :
    W p l e room_1 s m #[Value.ref b] below meth c H locs cells slots Q (F0 m 1168 ls []) := by
  obtain ⟨hx, hb, hr, hml, hown, hts, hXs, hbl, hl9, hK2, hN, hX, hSX, hCX, hZ, hNX, hA, hbA⟩ := E
  have hK := hK2.sub (tys' := mf_ty G) [0, 1] rfl
  obtain ⟨⟨okx, ok, okra, okf⟩, hRI, hB, hFI, oku, hrel, hrf⟩ := id hI0
  have hcR : room_1.cells = 601024 := rfl
  have hsR : room_1.slots = 7293033 := rfl
  have okLr : (0 : Int) ≤ r 7 0 ∧ r 7 0 ≤ 150 := ok 7 0
  have hlen : 2 ≤ r 7 0 := hRI.1.1
  have b46 : (0 : Int) ≤ f 4 0 ∧ f 4 0 ≤ 6 := okf 4 0
  refine lv_aload_n hx hb dL_law_1168 rfl (lv_at hl 2 rfl) ?_
  refine vp_callSd (va_Run.run (va_runV (As := []) (rest := []) ⟨hx, hb, hml, hown, hts⟩ (c_X2_winding l G ho pn pa pf ae x adn r ada ra adf f (by assumption) (by assumption) (by assumption) (by assumption)) (cwV 0 hts gL_law_X2_winding rfl rfl rfl (by decide +kernel) ⟨Nat.le_of_ble_eq_true rfl, Nat.le_of_ble_eq_true rfl⟩) (rdV (wc := OW G ho pn pa pf ae x ++ RW G pn adn r ++ RW G pa ada ra ++ FW G pf adf f) hK hP hN [0, 1, 3, 4, 5, 6, 7, 8, 9, 10, 11, 12, 13, 14, 15, 16, 17, 18, 19, 20, 21, 22, 23, 24, 25, 26, 27, 28, 29, 30, 31] sb_f1a1180415 (ci := 2) rfl rfl) rfl rfl hl.1 rfl (lv_room (Nat.le_of_ble_eq_true rfl)) dL_law_1169 ⟨(by rw [hcR]; omega), (by rw [hsR]; omega)⟩)) (fun q1 hq1 => ?_)
  subst hq1
  refine lv_dstore (lv' := [(5, .double (FP.ddiv (FP.i2d (iI (r 7 0))) 4627448617123184640)), (4, .int (iI (iv))), (0, .ref b), (1, .ref ho), (2, .ref hm), (3, .ref jw)]) hx hb dL_law_1172 hl (by decide) rfl (fun ls hl => ?_)
  refine lv_aload_n hx hb dL_law_1174 rfl (lv_at hl 4 rfl) ?_
  have hFc := va_free (wc := MW G hm adm u) hD hS hA [32, 33, 34, 35, 36, 37, 38, 39, 40, 41] sb_f493248143
  refine va_calld (va_runV (As := []) (rest := []) ⟨hx, hb, hml, hown, hts⟩ (c_X3_winding l G hm adm u (r) (by assumption) (by exact ok) (by exact hRI) (by exact hrel) _) (cwV 0 hts gL_law_X3_winding rfl rfl rfl (by decide +kernel) ⟨Nat.le_of_ble_eq_true rfl, Nat.le_of_ble_eq_true rfl⟩) (wrV (wc := MW G hm adm u) hK hP hD hN [32, 33, 34, 35, 36, 37, 38, 39, 40, 41] (by decide +kernel) sb_0e13f593d9 sb_f493248143 (ci := 3) rfl rfl) rfl rfl hl.1 rfl (lv_room (Nat.le_of_ble_eq_true rfl)) dL_law_1175 ⟨(by rw [hcR]; omega), (by rw [hsR]; omega)⟩) hS (fun q _ h => hFc q h) hFc (fun q2 u3 t H1 locs ht hvm hw hB hz1 hk1 hS => ?_)
  obtain ⟨u4, rfl⟩ : ∃ z, z = u3 := ⟨_, rfl⟩
  try dsimp only at hw hB
  obtain ⟨hP, hD⟩ := wrJ2 (ws := OW G ho pn pa pf ae x ++ LW gL jw o ++ RW G pn adn r ++ RW G pa ada ra ++ FW G pf adf f ++ MW G hm adm u) (wc := MW G hm adm u) (wr := OW G ho pn pa pf ae x ++ LW gL jw o ++ RW G pn adn r ++ RW G pa ada ra ++ FW G pf adf f) (w1 := MW G hm adm u4) hP hD [32, 33, 34, 35, 36, 37, 38, 39, 40, 41] [0, 1, 2, 3, 4, 5, 6, 7, 8, 9, 10, 11, 12, 13, 14, 15, 16, 17, 18, 19, 20, 21, 22, 23, 24, 25, 26, 27, 28, 29, 30, 31] sb_f493248143 sb_807262e62d (by decide +kernel) (by decide +kernel) hk1 ht hFc hB
  have hP : va_P G.1 vwCl (OW G ho pn pa pf ae x ++ LW gL jw o ++ RW G pn adn r ++ RW G pa ada ra ++ FW G pf adf f ++ MW G hm adm u4) H1 := hP.sub [0, 1, 2, 3, 4, 5, 6, 7, 8, 9, 10, 11, 12, 13, 14, 15, 16, 17, 18, 19, 20, 21, 22, 23, 24, 25, 26, 27, 28, 29, 30, 31, 32, 33, 34, 35, 36, 37, 38, 39, 40, 41] sb_9f762f0c91
  have hD : va_D A (OW G ho pn pa pf ae x ++ LW gL jw o ++ RW G pn adn r ++ RW G pa ada ra ++ FW G pf adf f ++ MW G hm adm u4) := hD.sub [0, 1, 2, 3, 4, 5, 6, 7, 8, 9, 10, 11, 12, 13, 14, 15, 16, 17, 18, 19, 20, 21, 22, 23, 24, 25, 26, 27, 28, 29, 30, 31, 32, 33, 34, 35, 36, 37, 38, 39, 40, 41] (by decide +kernel) sb_ced734b625
  have hP : va_P G.1 vwCl (OW G ho pn pa pf ae x ++ LW gL jw o ++ RW G pn adn r ++ RW G pa ada ra ++ FW G pf adf f ++ MW G hm adm u4) H1 := hP
  have hD : va_D A (OW G ho pn pa pf ae x ++ LW gL jw o ++ RW G pn adn r ++ RW G pa ada ra ++ FW G pf adf f ++ MW G hm adm u4) := hD
  clear hB hk1 hFc ht hz1 hvm
  generalize H1 = H at hP hS ⊢
  obtain ⟨rfl, w5⟩ := hw
  have oku4 : rOK ulo uhi u4 := w5.1
  have hLI : LI (Y + 101) x r ra f u4 := LI_same hI0 ⟨okx, ok, okra, okf⟩ rfl rfl w5.1 w5.2.2.2 (relF_cg w5.2.1 hrf)
  refine lv_dstore (lv' := [(7, .double (FP.ddiv (FP.i2d (iI ((r) 7 0))) 4627448617123184640)), (5, .double (FP.ddiv (FP.i2d (iI (r 7 0))) 4627448617123184640)), (4, .int (iI (iv))), (0, .ref b), (1, .ref ho), (2, .ref hm), (3, .ref jw)]) hx hb dL_law_1178 hl (by decide) rfl (fun ls hl => ?_)
  refine lv_dload hx hb dL_law_1180 (lv_at hl 1 rfl) ?_
  refine lv_dload hx hb dL_law_1182 (lv_at hl 0 rfl) ?_
  refine lv_dcmp hx hb dL_law_1184 ?_
  rw [mf_dcmp okLr.1 okLr.2]
  refine mf_if_eq (tgt := 1206) hx hb dL_law_1185 (by decide) (i32_mk (by decide) (by decide)) (fun c6 => ?_) (fun c6 => ?_)
  · skip
    refine lv_goto (tgt := 1223) hx hb dL_law_1206 (by decide) ?_
    refine W.widen (k := cells + 6) (n := slots + 933) (by omega) (by omega) ?_
    exact kk x o r ra f u4 H locs ls hLI hP hD hS (lv_sub hl [2, 3, 4, 5, 6] rfl)
  · skip
    exact absurd c6 (by omega)
set_option maxHeartbeats 4000000 in
set_option maxRecDepth 100000 in
theorem lc_digest {p : Program} {l : Launch} {e : Env} {s : State} {m : MethodId} {below : List Frame} {meth : Method} {c : Code} {Q : State → Prop} {b L : Nat} {xs : Nat → Int32} {G : mf_G} {gL gK : ClassId} {A : Nat → Prop} (E : LE p l s m meth c b L xs G gL gK A) {ho pn pa pf ae jw hm : Nat} {adn ada adf adm : Nat → Nat} {x r ra f u : mf_V} {o : Nat → Int64} {Y iv : Int} {cells slots : Nat} {H : Heap} {locs : List Loc} {ls : Array Slot} (hI0 : LI Y x r ra f u) (hY : 0 ≤ Y ∧ Y + 100 ≤ 60000) (hiv : 0 ≤ iv ∧ iv + 5 ≤ L ∧ L ≤ 2560) (hcl : cells + 6 ≤ 601024 ∧ slots + 933 ≤ 7293033) (hP : va_P G.1 vwCl (OW G ho pn pa pf ae x ++ LW gL jw o ++ RW G pn adn r ++ RW G pa ada ra ++ FW G pf adf f ++ MW G hm adm u) H) (hD : va_D A (OW G ho pn pa pf ae x ++ LW gL jw o ++ RW G pn adn r ++ RW G pa ada ra ++ FW G pf adf f ++ MW G hm adm u)) (hS : va_S A s.heap H locs) (hl : lv_has ls 9 [(4, .int (iI (iv))), (0, .ref b), (1, .ref ho), (2, .ref hm), (3, .ref jw)])
    (kk : ∀ (x' : mf_V) (o' : Nat → Int64) (r' ra' f' u' : mf_V) (H : Heap) (locs : List Loc) (ls : Array Slot), LI (Y + 101) x' r' ra' f' u' → va_P G.1 vwCl (OW G ho pn pa pf ae x' ++ LW gL jw o' ++ RW G pn adn r' ++ RW G pa ada ra' ++ FW G pf adf f' ++ MW G hm adm u') H → va_D A (OW G ho pn pa pf ae x' ++ LW gL jw o' ++ RW G pn adn r' ++ RW G pa ada ra' ++ FW G pf adf f' ++ MW G hm adm u') → va_S A s.heap H locs → lv_has ls 9 [(4, .int (iI (iv))), (0, .ref b), (1, .ref ho), (2, .ref hm), (3, .ref jw)] → W p l e room_1 s m #[Value.ref b] below meth c H locs (cells + 6) (slots + 933) Q (F0 m 1223 ls [])) :
    W p l e room_1 s m #[Value.ref b] below meth c H locs cells slots Q (F0 m 1209 ls []) := by
  obtain ⟨hx, hb, hr, hml, hown, hts, hXs, hbl, hl9, hK2, hN, hX, hSX, hCX, hZ, hNX, hA, hbA⟩ := E
  have hK := hK2.sub (tys' := mf_ty G) [0, 1] rfl
  obtain ⟨⟨okx, ok, okra, okf⟩, hRI, hB, hFI, oku, hrel, hrf⟩ := id hI0
  have hcR : room_1.cells = 601024 := rfl
  have hsR : room_1.slots = 7293033 := rfl
  have okLr : (0 : Int) ≤ r 7 0 ∧ r 7 0 ≤ 150 := ok 7 0
  have hlen : 2 ≤ r 7 0 := hRI.1.1
  have b46 : (0 : Int) ≤ f 4 0 ∧ f 4 0 ≤ 6 := okf 4 0
  refine lv_aload_n hx hb dL_law_1209 rfl (lv_at hl 2 rfl) ?_
  refine vp_callSl (va_Run.run (va_runV (As := []) (rest := []) ⟨hx, hb, hml, hown, hts⟩ (c_X2_digest l G ho pn pa pf ae x adn r ada ra adf f (by assumption) (by assumption) (by assumption) (by assumption) (by first | assumption | omega)) (cwV 0 hts gL_law_X2_digest rfl rfl rfl (by decide +kernel) ⟨Nat.le_of_ble_eq_true rfl, Nat.le_of_ble_eq_true rfl⟩) (rdV (wc := OW G ho pn pa pf ae x ++ RW G pn adn r ++ RW G pa ada ra ++ FW G pf adf f) hK hP hN [0, 1, 3, 4, 5, 6, 7, 8, 9, 10, 11, 12, 13, 14, 15, 16, 17, 18, 19, 20, 21, 22, 23, 24, 25, 26, 27, 28, 29, 30, 31] sb_f1a1180415 (ci := 2) rfl rfl) rfl rfl hl.1 rfl (lv_room (Nat.le_of_ble_eq_true rfl)) dL_law_1210 ⟨(by rw [hcR]; omega), (by rw [hsR]; omega)⟩)) (fun q1 hq1 => ?_)
  subst hq1
  refine lv_aload_n hx hb dL_law_1213 rfl (lv_at hl 3 rfl) ?_
  have hFc := va_free (wc := MW G hm adm u) hD hS hA [32, 33, 34, 35, 36, 37, 38, 39, 40, 41] sb_f493248143
  refine va_calll (va_runV (As := []) (rest := [.long (lI (digT r f))]) ⟨hx, hb, hml, hown, hts⟩ (c_X3_digest l G hm adm u (r) (f) (by assumption) (by exact ok) (by exact hRI) (by exact hrel) (by exact okf) (by exact hrf) (by exact hFI) _) (cwV 0 hts gL_law_X3_digest rfl rfl rfl (by decide +kernel) ⟨Nat.le_of_ble_eq_true rfl, Nat.le_of_ble_eq_true rfl⟩) (wrV (wc := MW G hm adm u) hK hP hD hN [32, 33, 34, 35, 36, 37, 38, 39, 40, 41] (by decide +kernel) sb_0e13f593d9 sb_f493248143 (ci := 3) rfl rfl) rfl rfl hl.1 rfl (lv_room (Nat.le_of_ble_eq_true rfl)) dL_law_1214 ⟨(by rw [hcR]; omega), (by rw [hsR]; omega)⟩) hS (fun q _ h => hFc q h) hFc (fun q2 u3 t H1 locs ht hvm hw hB hz1 hk1 hS => ?_)
  obtain ⟨u4, rfl⟩ : ∃ z, z = u3 := ⟨_, rfl⟩
  try dsimp only at hw hB
  obtain ⟨hP, hD⟩ := wrJ2 (ws := OW G ho pn pa pf ae x ++ LW gL jw o ++ RW G pn adn r ++ RW G pa ada ra ++ FW G pf adf f ++ MW G hm adm u) (wc := MW G hm adm u) (wr := OW G ho pn pa pf ae x ++ LW gL jw o ++ RW G pn adn r ++ RW G pa ada ra ++ FW G pf adf f) (w1 := MW G hm adm u4) hP hD [32, 33, 34, 35, 36, 37, 38, 39, 40, 41] [0, 1, 2, 3, 4, 5, 6, 7, 8, 9, 10, 11, 12, 13, 14, 15, 16, 17, 18, 19, 20, 21, 22, 23, 24, 25, 26, 27, 28, 29, 30, 31] sb_f493248143 sb_807262e62d (by decide +kernel) (by decide +kernel) hk1 ht hFc hB
  have hP : va_P G.1 vwCl (OW G ho pn pa pf ae x ++ LW gL jw o ++ RW G pn adn r ++ RW G pa ada ra ++ FW G pf adf f ++ MW G hm adm u4) H1 := hP.sub [0, 1, 2, 3, 4, 5, 6, 7, 8, 9, 10, 11, 12, 13, 14, 15, 16, 17, 18, 19, 20, 21, 22, 23, 24, 25, 26, 27, 28, 29, 30, 31, 32, 33, 34, 35, 36, 37, 38, 39, 40, 41] sb_9f762f0c91
  have hD : va_D A (OW G ho pn pa pf ae x ++ LW gL jw o ++ RW G pn adn r ++ RW G pa ada ra ++ FW G pf adf f ++ MW G hm adm u4) := hD.sub [0, 1, 2, 3, 4, 5, 6, 7, 8, 9, 10, 11, 12, 13, 14, 15, 16, 17, 18, 19, 20, 21, 22, 23, 24, 25, 26, 27, 28, 29, 30, 31, 32, 33, 34, 35, 36, 37, 38, 39, 40, 41] (by decide +kernel) sb_ced734b625
  have hP : va_P G.1 vwCl (OW G ho pn pa pf ae x ++ LW gL jw o ++ RW G pn adn r ++ RW G pa ada ra ++ FW G pf adf f ++ MW G hm adm u4) H1 := hP
  have hD : va_D A (OW G ho pn pa pf ae x ++ LW gL jw o ++ RW G pn adn r ++ RW G pa ada ra ++ FW G pf adf f ++ MW G hm adm u4) := hD
  clear hB hk1 hFc ht hz1 hvm
  generalize H1 = H at hP hS ⊢
  obtain ⟨rfl, w5⟩ := hw
  have oku4 : rOK ulo uhi u4 := w5.1
  have hLI : LI (Y + 101) x r ra f u4 := LI_same hI0 ⟨okx, ok, okra, okf⟩ rfl rfl w5.1 w5.2.2.2 (relF_cg w5.2.1 hrf)
  refine mf_lcmp_eq hx hb (by rfl) dL_law_1217 ?_
  refine mf_if_eq (tgt := 1223) hx hb dL_law_1218 (by decide) (i32_mk (by decide) (by decide)) (fun c6 => ?_) (fun c6 => ?_)
  · skip
    refine W.widen (k := cells + 6) (n := slots + 933) (by omega) (by omega) ?_
    exact kk x o r ra f u4 H locs ls hLI hP hD hS (lv_sub hl [0, 1, 2, 3, 4] rfl)
  · skip
    exact absurd c6 (by omega)
