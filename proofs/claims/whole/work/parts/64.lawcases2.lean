/-! 64.lawcases: the other calls -/
set_option maxHeartbeats 4000000 in
set_option maxRecDepth 100000 in
theorem lc_neck {p : Program} {l : Launch} {e : Env} {s : State} {m : MethodId} {below : List Frame} {meth : Method} {c : Code} {Q : State → Prop} {b L : Nat} {xs : Nat → Int32} {G : mf_G} {gL gK : ClassId} {A : Nat → Prop} (E : LE p l s m meth c b L xs G gL gK A) {ho pn pa pf ae jw hm : Nat} {adn ada adf adm : Nat → Nat} {x r ra f u : mf_V} {o : Nat → Int64} {Y iv : Int} {cells slots : Nat} {H : Heap} {locs : List Loc} {ls : Array Slot} (hI0 : LI Y x r ra f u) (hY : 0 ≤ Y ∧ Y + 100 ≤ 60000) (hiv : 0 ≤ iv ∧ iv + 5 ≤ L ∧ L ≤ 2560) (hcl : cells + 6 ≤ 601024 ∧ slots + 933 ≤ 7293033) (hP : va_P G.1 vwCl (OW G ho pn pa pf ae x ++ LW gL jw o ++ RW G pn adn r ++ RW G pa ada ra ++ FW G pf adf f ++ MW G hm adm u) H) (hD : va_D A (OW G ho pn pa pf ae x ++ LW gL jw o ++ RW G pn adn r ++ RW G pa ada ra ++ FW G pf adf f ++ MW G hm adm u)) (hS : va_S A s.heap H locs) (hl : lv_has ls 9 [(4, .int (iI (iv))), (0, .ref b), (1, .ref ho), (2, .ref hm), (3, .ref jw)])
    (kk : ∀ (x' : mf_V) (o' : Nat → Int64) (r' ra' f' u' : mf_V) (H : Heap) (locs : List Loc) (ls : Array Slot), LI (Y + 101) x' r' ra' f' u' → va_P G.1 vwCl (OW G ho pn pa pf ae x' ++ LW gL jw o' ++ RW G pn adn r' ++ RW G pa ada ra' ++ FW G pf adf f' ++ MW G hm adm u') H → va_D A (OW G ho pn pa pf ae x' ++ LW gL jw o' ++ RW G pn adn r' ++ RW G pa ada ra' ++ FW G pf adf f' ++ MW G hm adm u') → va_S A s.heap H locs → lv_has ls 9 [(4, .int (iI (iv))), (0, .ref b), (1, .ref ho), (2, .ref hm), (3, .ref jw)] → W p l e room_1 s m #[Value.ref b] below meth c H locs (cells + 6) (slots + 933) Q (F0 m 1223 ls [])) :
    W p l e room_1 s m #[Value.ref b] below meth c H locs cells slots Q (F0 m 648 ls []) := by
  obtain ⟨hx, hb, hr, hml, hown, hts, hXs, hbl, hl9, hK2, hN, hX, hSX, hCX, hZ, hNX, hA, hbA⟩ := E
  have hK := hK2.sub (tys' := mf_ty G) [0, 1] rfl
  obtain ⟨⟨okx, ok, okra, okf⟩, hRI, hB, hFI, oku, hrel, hrf⟩ := id hI0
  have hcR : room_1.cells = 601024 := rfl
  have hsR : room_1.slots = 7293033 := rfl
  have okLr : (0 : Int) ≤ r 7 0 ∧ r 7 0 ≤ 150 := ok 7 0
  have hlen : 2 ≤ r 7 0 := hRI.1.1
  have b46 : (0 : Int) ≤ f 4 0 ∧ f 4 0 ≤ 6 := okf 4 0
  refine lv_aload_n hx hb dL_law_648 rfl (lv_at hl 2 rfl) ?_
  refine lv_aload_n hx hb dL_law_649 rfl (lv_at hl 1 rfl) ?_
  refine lv_iload hx hb dL_law_650 (lv_at hl 0 rfl) ?_
  refine mf_iconst hx hb dL_law_652 ?_
  refine mf_iadd hx hb dL_law_653 ?_
  refine mf_sld hx hb hXs hbl hbA hS (z := iv + 1) (by omega) (by omega) (by omega) dL_law_654 ?_
  refine mf_nm (fun y1 ey1 => ?_)
  have by1 := sI_b xs (iv + 1)
  rw [← ey1] at by1
  refine lv_aload_n hx hb dL_law_655 rfl (lv_at hl 4 rfl) ?_
  have hFc := va_free (wc := OW G ho pn pa pf ae x ++ LW gL jw o ++ RW G pn adn r ++ RW G pa ada ra ++ FW G pf adf f) hD hS hA [0, 1, 2, 3, 4, 5, 6, 7, 8, 9, 10, 11, 12, 13, 14, 15, 16, 17, 18, 19, 20, 21, 22, 23, 24, 25, 26, 27, 28, 29, 30, 31] sb_807262e62d
  refine vx_calli (vx_runSX (As := [.ref ho, .int (iI (y1)), .ref jw]) (rest := []) ⟨hx, hb, hml, hown, hts⟩ (c_L_neck l hl9 G gL ho pn pa pf ae x jw o adn r ada ra adf f (y1) (i32_mk (by omega) (by omega)) (by assumption) (by assumption) (by assumption) (by assumption) (by exact hRI) (by have b9 := hB.2.1; omega) _) (vx_cwSW 3 hts gL_law_L_neck rfl rfl rfl (by decide +kernel) ⟨Nat.le_of_ble_eq_true rfl, Nat.le_of_ble_eq_true rfl⟩) (wrSy (wc := OW G ho pn pa pf ae x ++ LW gL jw o ++ RW G pn adn r ++ RW G pa ada ra ++ FW G pf adf f) hSX hCX hZ hS hFc hNX hK2 hP hD hN [0, 1, 2, 3, 4, 5, 6, 7, 8, 9, 10, 11, 12, 13, 14, 15, 16, 17, 18, 19, 20, 21, 22, 23, 24, 25, 26, 27, 28, 29, 30, 31] (by decide +kernel) sb_a548d2217e sb_807262e62d) rfl rfl hl.1 rfl (lv_room (Nat.le_of_ble_eq_true rfl)) dL_law_656 ⟨(by rw [hcR]; omega), (by rw [hsR]; omega)⟩) hS (fun q _ h => hFc q h) hFc (fun q _ h => hFc q h) (fun E ce q9 _ t H1 locs ht hvm hpx _ _ _ _ _ _ _ => False.elim hpx) (fun q2 u3 t H1 locs ht hvm hw hB hz1 hk1 hS => ?_)
  obtain ⟨x4, o5, r6, ra7, f8⟩ := u3
  try dsimp only at hw hB
  obtain ⟨hP, hD⟩ := wrJ2 (ws := OW G ho pn pa pf ae x ++ LW gL jw o ++ RW G pn adn r ++ RW G pa ada ra ++ FW G pf adf f ++ MW G hm adm u) (wc := OW G ho pn pa pf ae x ++ LW gL jw o ++ RW G pn adn r ++ RW G pa ada ra ++ FW G pf adf f) (wr := MW G hm adm u) (w1 := OW G ho pn pa pf ae x4 ++ LW gL jw o5 ++ RW G pn adn r6 ++ RW G pa ada ra7 ++ FW G pf adf f8) hP hD [0, 1, 2, 3, 4, 5, 6, 7, 8, 9, 10, 11, 12, 13, 14, 15, 16, 17, 18, 19, 20, 21, 22, 23, 24, 25, 26, 27, 28, 29, 30, 31] [32, 33, 34, 35, 36, 37, 38, 39, 40, 41] sb_807262e62d sb_f493248143 (by decide +kernel) (by decide +kernel) hk1 ht hFc hB
  have hP : va_P G.1 vwCl (OW G ho pn pa pf ae x4 ++ LW gL jw o5 ++ RW G pn adn r6 ++ RW G pa ada ra7 ++ FW G pf adf f8 ++ MW G hm adm u) H1 := hP.sub [10, 11, 12, 13, 14, 15, 16, 17, 18, 19, 20, 21, 22, 23, 24, 25, 26, 27, 28, 29, 30, 31, 32, 33, 34, 35, 36, 37, 38, 39, 40, 41, 0, 1, 2, 3, 4, 5, 6, 7, 8, 9] sb_5e9f4be562
  have hD : va_D A (OW G ho pn pa pf ae x4 ++ LW gL jw o5 ++ RW G pn adn r6 ++ RW G pa ada ra7 ++ FW G pf adf f8 ++ MW G hm adm u) := hD.sub [10, 11, 12, 13, 14, 15, 16, 17, 18, 19, 20, 21, 22, 23, 24, 25, 26, 27, 28, 29, 30, 31, 32, 33, 34, 35, 36, 37, 38, 39, 40, 41, 0, 1, 2, 3, 4, 5, 6, 7, 8, 9] (by decide +kernel) sb_6a4c93fcc4
  clear hB hk1 hFc ht hz1 hvm
  generalize H1 = H at hP hS ⊢
  obtain ⟨z9, rfl, w10⟩ := hw
  have hz9 := w10.1
  obtain ⟨vq, hq9⟩ := mf_exI w10.2.2.1
  have hn9 := w10.2.2.2
  have ok9 := w10.2.1
  obtain ⟨qn, hqn⟩ := mf_exV (fun k => (hq9 k).2.1)
  skip
  refine lv_istore (lv' := [(5, .int (iI (z9))), (4, .int (iI (iv))), (0, .ref b), (1, .ref ho), (2, .ref hm), (3, .ref jw)]) hx hb dL_law_659 hl (by decide) rfl (fun ls hl => ?_)
  refine lv_aload_n hx hb dL_law_661 rfl (lv_at hl 4 rfl) ?_
  refine lv_aload_n hx hb dL_law_662 rfl (lv_at hl 2 rfl) ?_
  refine lv_iload hx hb dL_law_663 (lv_at hl 1 rfl) ?_
  refine mf_iconst hx hb dL_law_665 ?_
  refine mf_iadd hx hb dL_law_666 ?_
  refine mf_sld hx hb hXs hbl hbA hS (z := iv + 1) (by omega) (by omega) (by omega) dL_law_667 ?_
  refine mf_top (sI xs (iv + 1)) (y1) ey1.symm ?_
  have hFc := va_free (wc := MW G hm adm u) hD hS hA [32, 33, 34, 35, 36, 37, 38, 39, 40, 41] sb_f493248143
  refine va_calli (va_runV (As := [.int (iI (y1))]) (rest := []) ⟨hx, hb, hml, hown, hts⟩ (c_X3_neck l G gK hm adm u (y1) ((rC r)) (qn) (i32_mk (by omega) (by omega)) (by assumption) (by exact rC_ok ok) (by exact rC_I hRI) (by exact relU_rC hrel) (by exact fun z => (hqn (kRng_i (by omega) (by omega))).1 z) (by have b9 := hB.2.1; show r 9 0 + 150 ≤ 100000000; omega) _) (cwV 1 hts gL_law_X3_neck rfl rfl rfl (by decide +kernel) ⟨Nat.le_of_ble_eq_true rfl, Nat.le_of_ble_eq_true rfl⟩) (wrVk (wc := MW G hm adm u) hX hK hP hD hN [32, 33, 34, 35, 36, 37, 38, 39, 40, 41] (by decide +kernel) sb_0e13f593d9 sb_f493248143 (ci := 3) rfl rfl) rfl rfl hl.1 rfl (lv_room (Nat.le_of_ble_eq_true rfl)) dL_law_668 ⟨(by rw [hcR]; omega), (by rw [hsR]; omega)⟩) hS (fun q _ h => hFc q h) hFc (fun q11 u12 t H1 locs ht hvm hw hB hz1 hk1 hS => ?_)
  obtain ⟨u13, rfl⟩ : ∃ z, z = u12 := ⟨_, rfl⟩
  try dsimp only at hw hB
  obtain ⟨hP, hD⟩ := wrJ2 (ws := OW G ho pn pa pf ae x4 ++ LW gL jw o5 ++ RW G pn adn r6 ++ RW G pa ada ra7 ++ FW G pf adf f8 ++ MW G hm adm u) (wc := MW G hm adm u) (wr := OW G ho pn pa pf ae x4 ++ LW gL jw o5 ++ RW G pn adn r6 ++ RW G pa ada ra7 ++ FW G pf adf f8) (w1 := MW G hm adm u13) hP hD [32, 33, 34, 35, 36, 37, 38, 39, 40, 41] [0, 1, 2, 3, 4, 5, 6, 7, 8, 9, 10, 11, 12, 13, 14, 15, 16, 17, 18, 19, 20, 21, 22, 23, 24, 25, 26, 27, 28, 29, 30, 31] sb_f493248143 sb_807262e62d (by decide +kernel) (by decide +kernel) hk1 ht hFc hB
  have hP : va_P G.1 vwCl (OW G ho pn pa pf ae x4 ++ LW gL jw o5 ++ RW G pn adn r6 ++ RW G pa ada ra7 ++ FW G pf adf f8 ++ MW G hm adm u13) H1 := hP.sub [0, 1, 2, 3, 4, 5, 6, 7, 8, 9, 10, 11, 12, 13, 14, 15, 16, 17, 18, 19, 20, 21, 22, 23, 24, 25, 26, 27, 28, 29, 30, 31, 32, 33, 34, 35, 36, 37, 38, 39, 40, 41] sb_9f762f0c91
  have hD : va_D A (OW G ho pn pa pf ae x4 ++ LW gL jw o5 ++ RW G pn adn r6 ++ RW G pa ada ra7 ++ FW G pf adf f8 ++ MW G hm adm u13) := hD.sub [0, 1, 2, 3, 4, 5, 6, 7, 8, 9, 10, 11, 12, 13, 14, 15, 16, 17, 18, 19, 20, 21, 22, 23, 24, 25, 26, 27, 28, 29, 30, 31, 32, 33, 34, 35, 36, 37, 38, 39, 40, 41] (by decide +kernel) sb_ced734b625
  have hP : va_P G.1 vwCl (OW G ho pn pa pf ae x4 ++ LW gL jw o5 ++ RW G pn adn r6 ++ RW G pa ada ra7 ++ FW G pf adf f8 ++ MW G hm adm u13) H1 := hP
  have hD : va_D A (OW G ho pn pa pf ae x4 ++ LW gL jw o5 ++ RW G pn adn r6 ++ RW G pa ada ra7 ++ FW G pf adf f8 ++ MW G hm adm u13) := hD
  clear hB hk1 hFc ht hz1 hvm
  generalize H1 = H at hP hS ⊢
  obtain ⟨z15, rfl, w14⟩ := hw
  have oku13 : rOK ulo uhi u13 := w14.1
  have hu9 : (-1 : Int) ≤ u13 0 0 ∧ u13 0 0 ≤ 9 := oku13 0 0
  have hkz := w14.2.2.1
  have hLI : LI (Y + 101) x4 r6 ra7 f8 u13 := by
    by_cases hk : kRng 0 3 y1 = 0
    · exact LI_same hI0 ok9 (hq9 hk).2.2.1 (hq9 hk).2.2.2 w14.1 (relU_Cr (w14.2.2.2.1 hk).1) (relF_cg w14.2.1 hrf)
    · exact LI_same hI0 ok9 (hn9 hk).2.1 (hn9 hk).2.2.2 w14.1 (relU_Cr (w14.2.2.2.2 hk)) (relF_cg w14.2.1 hrf)
  skip
  refine lv_istore (lv' := [(6, .int (iI (z15))), (5, .int (iI (z9))), (4, .int (iI (iv))), (0, .ref b), (1, .ref ho), (2, .ref hm), (3, .ref jw)]) hx hb dL_law_671 hl (by decide) rfl (fun ls hl => ?_)
  refine lv_aload_n hx hb dL_law_673 rfl (lv_at hl 5 rfl) ?_
  refine vp_callSi (va_Run.run (va_runV (As := []) (rest := []) ⟨hx, hb, hml, hown, hts⟩ (c_X3_thrown l G hm adm u13 (by assumption)) (cwV 0 hts gL_law_X3_thrown rfl rfl rfl (by decide +kernel) ⟨Nat.le_of_ble_eq_true rfl, Nat.le_of_ble_eq_true rfl⟩) (rdV (wc := MW G hm adm u13) hK hP hN [32, 33, 34, 35, 36, 37, 38, 39, 40, 41] sb_0e13f593d9 (ci := 3) rfl rfl) rfl rfl hl.1 rfl (lv_room (Nat.le_of_ble_eq_true rfl)) dL_law_674 ⟨(by rw [hcR]; omega), (by rw [hsR]; omega)⟩)) (fun q16 hq16 => ?_)
  subst hq16
  refine lv_iload hx hb dL_law_677 (lv_at hl 1 rfl) ?_
  refine mf_icmp_eq (tgt := 684) hx hb dL_law_679 (by decide) (i32_mk (by omega) (by omega)) (i32_mk (by omega) (by omega)) (fun c17 => ?_) (fun c17 => ?_)
  · skip
    refine lv_iload hx hb dL_law_684 (lv_at hl 1 rfl) ?_
    refine mf_if_ne (tgt := 701) hx hb dL_law_686 (by decide) (i32_mk (by omega) (by omega)) (fun c18 => ?_) (fun c18 => ?_)
    · skip
      refine lv_goto (tgt := 1223) hx hb dL_law_701 (by decide) ?_
      refine W.widen (k := cells + 6) (n := slots + 933) (by omega) (by omega) ?_
      exact kk x4 o5 r6 ra7 f8 u13 H locs ls hLI hP hD hS (lv_sub hl [2, 3, 4, 5, 6] rfl)
    · skip
      have hk0 : kRng 0 3 y1 = 0 := by omega
      refine lv_aload_n hx hb dL_law_689 rfl (lv_at hl 6 rfl) ?_
      refine mf_iconst hx hb dL_law_690 ?_
      refine va_lald hx hb hK2 hP 2 2 rfl rfl (i := iI 0) (iI_in (z := 0) (by decide) (by decide) (by decide)) dL_law_691 ?_
      refine lv_iload hx hb dL_law_692 (lv_at hl 0 rfl) ?_
      refine mf_i2lw hx hb dL_law_694 ?_
      refine mf_lcmp_eq hx hb (by exact (congrArg o5 (by decide : (iI 0).toNatClampNeg = 0)).trans ((hq9 hk0).1.trans (congrArg (fun t => lI (wrI t)) (by exact (hqn hk0).2.trans ((w14.2.2.2.1 hk0).2.trans (vNeck_rC _ _ _)).symm)))) dL_law_695 ?_
      refine mf_if_eq (tgt := 701) hx hb dL_law_696 (by decide) (i32_mk (by decide) (by decide)) (fun c19 => ?_) (fun c19 => ?_)
      · skip
        refine lv_goto (tgt := 1223) hx hb dL_law_701 (by decide) ?_
        refine W.widen (k := cells + 6) (n := slots + 933) (by omega) (by omega) ?_
        exact kk x4 o5 r6 ra7 f8 u13 H locs ls hLI hP hD hS (lv_sub hl [2, 3, 4, 5, 6] rfl)
      · skip
        exact absurd c19 (by omega)
  · skip
    exfalso; omega
set_option maxHeartbeats 4000000 in
set_option maxRecDepth 100000 in
theorem lc_addFarm {p : Program} {l : Launch} {e : Env} {s : State} {m : MethodId} {below : List Frame} {meth : Method} {c : Code} {Q : State → Prop} {b L : Nat} {xs : Nat → Int32} {G : mf_G} {gL gK : ClassId} {A : Nat → Prop} (E : LE p l s m meth c b L xs G gL gK A) {ho pn pa pf ae jw hm : Nat} {adn ada adf adm : Nat → Nat} {x r ra f u : mf_V} {o : Nat → Int64} {Y iv : Int} {cells slots : Nat} {H : Heap} {locs : List Loc} {ls : Array Slot} (hI0 : LI Y x r ra f u) (hY : 0 ≤ Y ∧ Y + 100 ≤ 60000) (hiv : 0 ≤ iv ∧ iv + 5 ≤ L ∧ L ≤ 2560) (hcl : cells + 6 ≤ 601024 ∧ slots + 933 ≤ 7293033) (hP : va_P G.1 vwCl (OW G ho pn pa pf ae x ++ LW gL jw o ++ RW G pn adn r ++ RW G pa ada ra ++ FW G pf adf f ++ MW G hm adm u) H) (hD : va_D A (OW G ho pn pa pf ae x ++ LW gL jw o ++ RW G pn adn r ++ RW G pa ada ra ++ FW G pf adf f ++ MW G hm adm u)) (hS : va_S A s.heap H locs) (hl : lv_has ls 9 [(4, .int (iI (iv))), (0, .ref b), (1, .ref ho), (2, .ref hm), (3, .ref jw)])
    (kk : ∀ (x' : mf_V) (o' : Nat → Int64) (r' ra' f' u' : mf_V) (H : Heap) (locs : List Loc) (ls : Array Slot), LI (Y + 101) x' r' ra' f' u' → va_P G.1 vwCl (OW G ho pn pa pf ae x' ++ LW gL jw o' ++ RW G pn adn r' ++ RW G pa ada ra' ++ FW G pf adf f' ++ MW G hm adm u') H → va_D A (OW G ho pn pa pf ae x' ++ LW gL jw o' ++ RW G pn adn r' ++ RW G pa ada ra' ++ FW G pf adf f' ++ MW G hm adm u') → va_S A s.heap H locs → lv_has ls 9 [(4, .int (iI (iv))), (0, .ref b), (1, .ref ho), (2, .ref hm), (3, .ref jw)] → W p l e room_1 s m #[Value.ref b] below meth c H locs (cells + 6) (slots + 933) Q (F0 m 1223 ls [])) :
    W p l e room_1 s m #[Value.ref b] below meth c H locs cells slots Q (F0 m 704 ls []) := by
  obtain ⟨hx, hb, hr, hml, hown, hts, hXs, hbl, hl9, hK2, hN, hX, hSX, hCX, hZ, hNX, hA, hbA⟩ := E
  have hK := hK2.sub (tys' := mf_ty G) [0, 1] rfl
  obtain ⟨⟨okx, ok, okra, okf⟩, hRI, hB, hFI, oku, hrel, hrf⟩ := id hI0
  have hcR : room_1.cells = 601024 := rfl
  have hsR : room_1.slots = 7293033 := rfl
  have okLr : (0 : Int) ≤ r 7 0 ∧ r 7 0 ≤ 150 := ok 7 0
  have hlen : 2 ≤ r 7 0 := hRI.1.1
  have b46 : (0 : Int) ≤ f 4 0 ∧ f 4 0 ≤ 6 := okf 4 0
  refine lv_aload_n hx hb dL_law_704 rfl (lv_at hl 2 rfl) ?_
  refine lv_aload_n hx hb dL_law_705 rfl (lv_at hl 1 rfl) ?_
  refine lv_iload hx hb dL_law_706 (lv_at hl 0 rfl) ?_
  refine mf_iconst hx hb dL_law_708 ?_
  refine mf_iadd hx hb dL_law_709 ?_
  refine mf_sld hx hb hXs hbl hbA hS (z := iv + 1) (by omega) (by omega) (by omega) dL_law_710 ?_
  refine mf_nm (fun y1 ey1 => ?_)
  have by1 := sI_b xs (iv + 1)
  rw [← ey1] at by1
  refine lv_aload_n hx hb dL_law_711 rfl (lv_at hl 1 rfl) ?_
  refine lv_iload hx hb dL_law_712 (lv_at hl 0 rfl) ?_
  refine mf_iconst hx hb dL_law_714 ?_
  refine mf_iadd hx hb dL_law_715 ?_
  refine mf_sld hx hb hXs hbl hbA hS (z := iv + 2) (by omega) (by omega) (by omega) dL_law_716 ?_
  refine mf_nm (fun y2 ey2 => ?_)
  have by2 := sI_b xs (iv + 2)
  rw [← ey2] at by2
  refine lv_aload_n hx hb dL_law_717 rfl (lv_at hl 1 rfl) ?_
  refine lv_iload hx hb dL_law_718 (lv_at hl 0 rfl) ?_
  refine mf_iconst hx hb dL_law_720 ?_
  refine mf_iadd hx hb dL_law_721 ?_
  refine mf_sld hx hb hXs hbl hbA hS (z := iv + 3) (by omega) (by omega) (by omega) dL_law_722 ?_
  refine mf_nm (fun y3 ey3 => ?_)
  have by3 := sI_b xs (iv + 3)
  rw [← ey3] at by3
  refine lv_aload_n hx hb dL_law_723 rfl (lv_at hl 1 rfl) ?_
  refine lv_iload hx hb dL_law_724 (lv_at hl 0 rfl) ?_
  refine mf_iconst hx hb dL_law_726 ?_
  refine mf_iadd hx hb dL_law_727 ?_
  refine mf_sld hx hb hXs hbl hbA hS (z := iv + 4) (by omega) (by omega) (by omega) dL_law_728 ?_
  refine mf_nm (fun y4 ey4 => ?_)
  have by4 := sI_b xs (iv + 4)
  rw [← ey4] at by4
  refine lv_aload_n hx hb dL_law_729 rfl (lv_at hl 4 rfl) ?_
  have hFc := va_free (wc := OW G ho pn pa pf ae x ++ LW gL jw o ++ RW G pn adn r ++ RW G pa ada ra ++ FW G pf adf f) hD hS hA [0, 1, 2, 3, 4, 5, 6, 7, 8, 9, 10, 11, 12, 13, 14, 15, 16, 17, 18, 19, 20, 21, 22, 23, 24, 25, 26, 27, 28, 29, 30, 31] sb_807262e62d
  refine vx_calli (vx_runSX (As := [.ref ho, .int (iI (y1)), .int (iI (y2)), .int (iI (y3)), .int (iI (y4)), .ref jw]) (rest := []) ⟨hx, hb, hml, hown, hts⟩ (c_L_addFarm l hl9 G gL ho pn pa pf ae x jw o adn r ada ra adf f (y1) (y2) (y3) (y4) (i32_mk (by omega) (by omega)) (i32_mk (by omega) (by omega)) (i32_mk (by omega) (by omega)) (i32_mk (by omega) (by omega)) (by assumption) (by assumption) (by assumption) (by assumption) _) (vx_cwSW 6 hts gL_law_L_addFarm rfl rfl rfl (by decide +kernel) ⟨Nat.le_of_ble_eq_true rfl, Nat.le_of_ble_eq_true rfl⟩) (wrSy (wc := OW G ho pn pa pf ae x ++ LW gL jw o ++ RW G pn adn r ++ RW G pa ada ra ++ FW G pf adf f) hSX hCX hZ hS hFc hNX hK2 hP hD hN [0, 1, 2, 3, 4, 5, 6, 7, 8, 9, 10, 11, 12, 13, 14, 15, 16, 17, 18, 19, 20, 21, 22, 23, 24, 25, 26, 27, 28, 29, 30, 31] (by decide +kernel) sb_a548d2217e sb_807262e62d) rfl rfl hl.1 rfl (lv_room (Nat.le_of_ble_eq_true rfl)) dL_law_730 ⟨(by rw [hcR]; omega), (by rw [hsR]; omega)⟩) hS (fun q _ h => hFc q h) hFc (fun q _ h => hFc q h) (fun E ce q9 _ t H1 locs ht hvm hpx _ _ _ _ _ _ _ => False.elim hpx) (fun q5 u6 t H1 locs ht hvm hw hB hz1 hk1 hS => ?_)
  obtain ⟨x7, o8, r9, ra10, f11⟩ := u6
  try dsimp only at hw hB
  obtain ⟨hP, hD⟩ := wrJ2 (ws := OW G ho pn pa pf ae x ++ LW gL jw o ++ RW G pn adn r ++ RW G pa ada ra ++ FW G pf adf f ++ MW G hm adm u) (wc := OW G ho pn pa pf ae x ++ LW gL jw o ++ RW G pn adn r ++ RW G pa ada ra ++ FW G pf adf f) (wr := MW G hm adm u) (w1 := OW G ho pn pa pf ae x7 ++ LW gL jw o8 ++ RW G pn adn r9 ++ RW G pa ada ra10 ++ FW G pf adf f11) hP hD [0, 1, 2, 3, 4, 5, 6, 7, 8, 9, 10, 11, 12, 13, 14, 15, 16, 17, 18, 19, 20, 21, 22, 23, 24, 25, 26, 27, 28, 29, 30, 31] [32, 33, 34, 35, 36, 37, 38, 39, 40, 41] sb_807262e62d sb_f493248143 (by decide +kernel) (by decide +kernel) hk1 ht hFc hB
  have hP : va_P G.1 vwCl (OW G ho pn pa pf ae x7 ++ LW gL jw o8 ++ RW G pn adn r9 ++ RW G pa ada ra10 ++ FW G pf adf f11 ++ MW G hm adm u) H1 := hP.sub [10, 11, 12, 13, 14, 15, 16, 17, 18, 19, 20, 21, 22, 23, 24, 25, 26, 27, 28, 29, 30, 31, 32, 33, 34, 35, 36, 37, 38, 39, 40, 41, 0, 1, 2, 3, 4, 5, 6, 7, 8, 9] sb_5e9f4be562
  have hD : va_D A (OW G ho pn pa pf ae x7 ++ LW gL jw o8 ++ RW G pn adn r9 ++ RW G pa ada ra10 ++ FW G pf adf f11 ++ MW G hm adm u) := hD.sub [10, 11, 12, 13, 14, 15, 16, 17, 18, 19, 20, 21, 22, 23, 24, 25, 26, 27, 28, 29, 30, 31, 32, 33, 34, 35, 36, 37, 38, 39, 40, 41, 0, 1, 2, 3, 4, 5, 6, 7, 8, 9] (by decide +kernel) sb_6a4c93fcc4
  clear hB hk1 hFc ht hz1 hvm
  generalize H1 = H at hP hS ⊢
  obtain ⟨z12, rfl, w13⟩ := hw
  have hz9 := w13.1
  obtain ⟨vq, hq9⟩ := mf_exI w13.2.2.1
  have hn9 := w13.2.2.2
  have ok9 := w13.2.1
  skip
  refine lv_istore (lv' := [(5, .int (iI (z12))), (4, .int (iI (iv))), (0, .ref b), (1, .ref ho), (2, .ref hm), (3, .ref jw)]) hx hb dL_law_733 hl (by decide) rfl (fun ls hl => ?_)
  refine lv_aload_n hx hb dL_law_735 rfl (lv_at hl 4 rfl) ?_
  refine lv_aload_n hx hb dL_law_736 rfl (lv_at hl 2 rfl) ?_
  refine lv_iload hx hb dL_law_737 (lv_at hl 1 rfl) ?_
  refine mf_iconst hx hb dL_law_739 ?_
  refine mf_iadd hx hb dL_law_740 ?_
  refine mf_sld hx hb hXs hbl hbA hS (z := iv + 1) (by omega) (by omega) (by omega) dL_law_741 ?_
  refine mf_top (sI xs (iv + 1)) (y1) ey1.symm ?_
  refine lv_aload_n hx hb dL_law_742 rfl (lv_at hl 2 rfl) ?_
  refine lv_iload hx hb dL_law_743 (lv_at hl 1 rfl) ?_
  refine mf_iconst hx hb dL_law_745 ?_
  refine mf_iadd hx hb dL_law_746 ?_
  refine mf_sld hx hb hXs hbl hbA hS (z := iv + 2) (by omega) (by omega) (by omega) dL_law_747 ?_
  refine mf_top (sI xs (iv + 2)) (y2) ey2.symm ?_
  refine lv_aload_n hx hb dL_law_748 rfl (lv_at hl 2 rfl) ?_
  refine lv_iload hx hb dL_law_749 (lv_at hl 1 rfl) ?_
  refine mf_iconst hx hb dL_law_751 ?_
  refine mf_iadd hx hb dL_law_752 ?_
  refine mf_sld hx hb hXs hbl hbA hS (z := iv + 3) (by omega) (by omega) (by omega) dL_law_753 ?_
  refine mf_top (sI xs (iv + 3)) (y3) ey3.symm ?_
  refine lv_aload_n hx hb dL_law_754 rfl (lv_at hl 2 rfl) ?_
  refine lv_iload hx hb dL_law_755 (lv_at hl 1 rfl) ?_
  refine mf_iconst hx hb dL_law_757 ?_
  refine mf_iadd hx hb dL_law_758 ?_
  refine mf_sld hx hb hXs hbl hbA hS (z := iv + 4) (by omega) (by omega) (by omega) dL_law_759 ?_
  refine mf_top (sI xs (iv + 4)) (y4) ey4.symm ?_
  have hFc := va_free (wc := MW G hm adm u) hD hS hA [32, 33, 34, 35, 36, 37, 38, 39, 40, 41] sb_f493248143
  refine va_calli (va_runV (As := [.int (iI (y1)), .int (iI (y2)), .int (iI (y3)), .int (iI (y4))]) (rest := []) ⟨hx, hb, hml, hown, hts⟩ (c_X3_addFarm l G hm adm u (y1) (y2) (y3) (y4) (r) (f) (i32_mk (by omega) (by omega)) (i32_mk (by omega) (by omega)) (i32_mk (by omega) (by omega)) (i32_mk (by omega) (by omega)) (by assumption) (by assumption) (by exact hRI) (by exact hrel) (by assumption) (by exact hrf) (by exact hFI) _) (cwV 4 hts gL_law_X3_addFarm rfl rfl rfl (by decide +kernel) ⟨Nat.le_of_ble_eq_true rfl, Nat.le_of_ble_eq_true rfl⟩) (wrV (wc := MW G hm adm u) hK hP hD hN [32, 33, 34, 35, 36, 37, 38, 39, 40, 41] (by decide +kernel) sb_0e13f593d9 sb_f493248143 (ci := 3) rfl rfl) rfl rfl hl.1 rfl (lv_room (Nat.le_of_ble_eq_true rfl)) dL_law_760 ⟨(by rw [hcR]; omega), (by rw [hsR]; omega)⟩) hS (fun q _ h => hFc q h) hFc (fun q14 u15 t H1 locs ht hvm hw hB hz1 hk1 hS => ?_)
  obtain ⟨u16, rfl⟩ : ∃ z, z = u15 := ⟨_, rfl⟩
  try dsimp only at hw hB
  obtain ⟨hP, hD⟩ := wrJ2 (ws := OW G ho pn pa pf ae x7 ++ LW gL jw o8 ++ RW G pn adn r9 ++ RW G pa ada ra10 ++ FW G pf adf f11 ++ MW G hm adm u) (wc := MW G hm adm u) (wr := OW G ho pn pa pf ae x7 ++ LW gL jw o8 ++ RW G pn adn r9 ++ RW G pa ada ra10 ++ FW G pf adf f11) (w1 := MW G hm adm u16) hP hD [32, 33, 34, 35, 36, 37, 38, 39, 40, 41] [0, 1, 2, 3, 4, 5, 6, 7, 8, 9, 10, 11, 12, 13, 14, 15, 16, 17, 18, 19, 20, 21, 22, 23, 24, 25, 26, 27, 28, 29, 30, 31] sb_f493248143 sb_807262e62d (by decide +kernel) (by decide +kernel) hk1 ht hFc hB
  have hP : va_P G.1 vwCl (OW G ho pn pa pf ae x7 ++ LW gL jw o8 ++ RW G pn adn r9 ++ RW G pa ada ra10 ++ FW G pf adf f11 ++ MW G hm adm u16) H1 := hP.sub [0, 1, 2, 3, 4, 5, 6, 7, 8, 9, 10, 11, 12, 13, 14, 15, 16, 17, 18, 19, 20, 21, 22, 23, 24, 25, 26, 27, 28, 29, 30, 31, 32, 33, 34, 35, 36, 37, 38, 39, 40, 41] sb_9f762f0c91
  have hD : va_D A (OW G ho pn pa pf ae x7 ++ LW gL jw o8 ++ RW G pn adn r9 ++ RW G pa ada ra10 ++ FW G pf adf f11 ++ MW G hm adm u16) := hD.sub [0, 1, 2, 3, 4, 5, 6, 7, 8, 9, 10, 11, 12, 13, 14, 15, 16, 17, 18, 19, 20, 21, 22, 23, 24, 25, 26, 27, 28, 29, 30, 31, 32, 33, 34, 35, 36, 37, 38, 39, 40, 41] (by decide +kernel) sb_ced734b625
  have hP : va_P G.1 vwCl (OW G ho pn pa pf ae x7 ++ LW gL jw o8 ++ RW G pn adn r9 ++ RW G pa ada ra10 ++ FW G pf adf f11 ++ MW G hm adm u16) H1 := hP
  have hD : va_D A (OW G ho pn pa pf ae x7 ++ LW gL jw o8 ++ RW G pn adn r9 ++ RW G pa ada ra10 ++ FW G pf adf f11 ++ MW G hm adm u16) := hD
  clear hB hk1 hFc ht hz1 hvm
  generalize H1 = H at hP hS ⊢
  obtain ⟨z18, rfl, w17⟩ := hw
  have oku16 : rOK ulo uhi u16 := w17.1
  have hu9 : (-1 : Int) ≤ u16 0 0 ∧ u16 0 0 ≤ 9 := oku16 0 0
  have hkz := w17.2.1
  have hLI : LI (Y + 101) x7 r9 ra10 f11 u16 := by
    by_cases hk : kAdd f y1 y2 y3 y4 = 0
    · obtain ⟨-, ha9, er, -⟩ := hq9 hk
      obtain ⟨g1, g2, -⟩ := w17.2.2.1 hk
      exact ⟨ok9, by rw [er]; exact hRI, by rw [er]; exact bdP_mono hB (by omega), FInv_add hFI ha9 hk, w17.1, by rw [er]; exact g1, relF_add okf ha9 g2⟩
    · exact LI_same hI0 ok9 (hn9 hk).2.1 (hn9 hk).2.2.2 w17.1 (w17.2.2.2 hk).2 (relF_cg (w17.2.2.2 hk).1 hrf)
  skip
  refine lv_istore (lv' := [(6, .int (iI (z18))), (5, .int (iI (z12))), (4, .int (iI (iv))), (0, .ref b), (1, .ref ho), (2, .ref hm), (3, .ref jw)]) hx hb dL_law_763 hl (by decide) rfl (fun ls hl => ?_)
  refine lv_aload_n hx hb dL_law_765 rfl (lv_at hl 5 rfl) ?_
  refine vp_callSi (va_Run.run (va_runV (As := []) (rest := []) ⟨hx, hb, hml, hown, hts⟩ (c_X3_thrown l G hm adm u16 (by assumption)) (cwV 0 hts gL_law_X3_thrown rfl rfl rfl (by decide +kernel) ⟨Nat.le_of_ble_eq_true rfl, Nat.le_of_ble_eq_true rfl⟩) (rdV (wc := MW G hm adm u16) hK hP hN [32, 33, 34, 35, 36, 37, 38, 39, 40, 41] sb_0e13f593d9 (ci := 3) rfl rfl) rfl rfl hl.1 rfl (lv_room (Nat.le_of_ble_eq_true rfl)) dL_law_766 ⟨(by rw [hcR]; omega), (by rw [hsR]; omega)⟩)) (fun q19 hq19 => ?_)
  subst hq19
  refine lv_iload hx hb dL_law_769 (lv_at hl 1 rfl) ?_
  refine mf_icmp_eq (tgt := 776) hx hb dL_law_771 (by decide) (i32_mk (by omega) (by omega)) (i32_mk (by omega) (by omega)) (fun c20 => ?_) (fun c20 => ?_)
  · skip
    refine lv_iload hx hb dL_law_776 (lv_at hl 1 rfl) ?_
    refine mf_if_ne (tgt := 793) hx hb dL_law_778 (by decide) (i32_mk (by omega) (by omega)) (fun c21 => ?_) (fun c21 => ?_)
    · skip
      refine lv_goto (tgt := 1223) hx hb dL_law_793 (by decide) ?_
      refine W.widen (k := cells + 6) (n := slots + 933) (by omega) (by omega) ?_
      exact kk x7 o8 r9 ra10 f11 u16 H locs ls hLI hP hD hS (lv_sub hl [2, 3, 4, 5, 6] rfl)
    · skip
      have hk0 : kAdd f y1 y2 y3 y4 = 0 := by omega
      refine lv_aload_n hx hb dL_law_781 rfl (lv_at hl 6 rfl) ?_
      refine mf_iconst hx hb dL_law_782 ?_
      refine va_lald hx hb hK2 hP 2 2 rfl rfl (i := iI 0) (iI_in (z := 0) (by decide) (by decide) (by decide)) dL_law_783 ?_
      refine lv_iload hx hb dL_law_784 (lv_at hl 0 rfl) ?_
      refine mf_i2lw hx hb dL_law_786 ?_
      refine mf_lcmp_eq hx hb (by exact (congrArg o8 (by decide : (iI 0).toNatClampNeg = 0)).trans ((hq9 hk0).1.trans (congrArg (fun t => lI (wrI t)) (by exact (hq9 hk0).2.2.2.trans (w17.2.2.1 hk0).2.2.symm)))) dL_law_787 ?_
      refine mf_if_eq (tgt := 793) hx hb dL_law_788 (by decide) (i32_mk (by decide) (by decide)) (fun c22 => ?_) (fun c22 => ?_)
      · skip
        refine lv_goto (tgt := 1223) hx hb dL_law_793 (by decide) ?_
        refine W.widen (k := cells + 6) (n := slots + 933) (by omega) (by omega) ?_
        exact kk x7 o8 r9 ra10 f11 u16 H locs ls hLI hP hD hS (lv_sub hl [2, 3, 4, 5, 6] rfl)
      · skip
        exact absurd c22 (by omega)
  · skip
    exfalso; omega
set_option maxHeartbeats 4000000 in
set_option maxRecDepth 100000 in
theorem lc_farm {p : Program} {l : Launch} {e : Env} {s : State} {m : MethodId} {below : List Frame} {meth : Method} {c : Code} {Q : State → Prop} {b L : Nat} {xs : Nat → Int32} {G : mf_G} {gL gK : ClassId} {A : Nat → Prop} (E : LE p l s m meth c b L xs G gL gK A) {ho pn pa pf ae jw hm : Nat} {adn ada adf adm : Nat → Nat} {x r ra f u : mf_V} {o : Nat → Int64} {Y iv : Int} {cells slots : Nat} {H : Heap} {locs : List Loc} {ls : Array Slot} (hI0 : LI Y x r ra f u) (hY : 0 ≤ Y ∧ Y + 100 ≤ 60000) (hiv : 0 ≤ iv ∧ iv + 5 ≤ L ∧ L ≤ 2560) (hcl : cells + 6 ≤ 601024 ∧ slots + 933 ≤ 7293033) (hP : va_P G.1 vwCl (OW G ho pn pa pf ae x ++ LW gL jw o ++ RW G pn adn r ++ RW G pa ada ra ++ FW G pf adf f ++ MW G hm adm u) H) (hD : va_D A (OW G ho pn pa pf ae x ++ LW gL jw o ++ RW G pn adn r ++ RW G pa ada ra ++ FW G pf adf f ++ MW G hm adm u)) (hS : va_S A s.heap H locs) (hl : lv_has ls 9 [(4, .int (iI (iv))), (0, .ref b), (1, .ref ho), (2, .ref hm), (3, .ref jw)])
    (kk : ∀ (x' : mf_V) (o' : Nat → Int64) (r' ra' f' u' : mf_V) (H : Heap) (locs : List Loc) (ls : Array Slot), LI (Y + 101) x' r' ra' f' u' → va_P G.1 vwCl (OW G ho pn pa pf ae x' ++ LW gL jw o' ++ RW G pn adn r' ++ RW G pa ada ra' ++ FW G pf adf f' ++ MW G hm adm u') H → va_D A (OW G ho pn pa pf ae x' ++ LW gL jw o' ++ RW G pn adn r' ++ RW G pa ada ra' ++ FW G pf adf f' ++ MW G hm adm u') → va_S A s.heap H locs → lv_has ls 9 [(4, .int (iI (iv))), (0, .ref b), (1, .ref ho), (2, .ref hm), (3, .ref jw)] → W p l e room_1 s m #[Value.ref b] below meth c H locs (cells + 6) (slots + 933) Q (F0 m 1223 ls [])) :
    W p l e room_1 s m #[Value.ref b] below meth c H locs cells slots Q (F0 m 796 ls []) := by
  obtain ⟨hx, hb, hr, hml, hown, hts, hXs, hbl, hl9, hK2, hN, hX, hSX, hCX, hZ, hNX, hA, hbA⟩ := E
  have hK := hK2.sub (tys' := mf_ty G) [0, 1] rfl
  obtain ⟨⟨okx, ok, okra, okf⟩, hRI, hB, hFI, oku, hrel, hrf⟩ := id hI0
  have hcR : room_1.cells = 601024 := rfl
  have hsR : room_1.slots = 7293033 := rfl
  have okLr : (0 : Int) ≤ r 7 0 ∧ r 7 0 ≤ 150 := ok 7 0
  have hlen : 2 ≤ r 7 0 := hRI.1.1
  have b46 : (0 : Int) ≤ f 4 0 ∧ f 4 0 ≤ 6 := okf 4 0
  refine lv_aload_n hx hb dL_law_796 rfl (lv_at hl 2 rfl) ?_
  refine lv_aload_n hx hb dL_law_797 rfl (lv_at hl 1 rfl) ?_
  refine lv_iload hx hb dL_law_798 (lv_at hl 0 rfl) ?_
  refine mf_iconst hx hb dL_law_800 ?_
  refine mf_iadd hx hb dL_law_801 ?_
  refine mf_sld hx hb hXs hbl hbA hS (z := iv + 1) (by omega) (by omega) (by omega) dL_law_802 ?_
  refine mf_nm (fun y1 ey1 => ?_)
  have by1 := sI_b xs (iv + 1)
  rw [← ey1] at by1
  refine lv_aload_n hx hb dL_law_803 rfl (lv_at hl 1 rfl) ?_
  refine lv_iload hx hb dL_law_804 (lv_at hl 0 rfl) ?_
  refine mf_iconst hx hb dL_law_806 ?_
  refine mf_iadd hx hb dL_law_807 ?_
  refine mf_sld hx hb hXs hbl hbA hS (z := iv + 2) (by omega) (by omega) (by omega) dL_law_808 ?_
  refine mf_nm (fun y2 ey2 => ?_)
  have by2 := sI_b xs (iv + 2)
  rw [← ey2] at by2
  refine lv_aload_n hx hb dL_law_809 rfl (lv_at hl 4 rfl) ?_
  have hFc := va_free (wc := OW G ho pn pa pf ae x ++ LW gL jw o ++ RW G pn adn r ++ RW G pa ada ra ++ FW G pf adf f) hD hS hA [0, 1, 2, 3, 4, 5, 6, 7, 8, 9, 10, 11, 12, 13, 14, 15, 16, 17, 18, 19, 20, 21, 22, 23, 24, 25, 26, 27, 28, 29, 30, 31] sb_807262e62d
  refine vx_calli (vx_runSX (As := [.ref ho, .int (iI (y1)), .int (iI (y2)), .ref jw]) (rest := []) ⟨hx, hb, hml, hown, hts⟩ (c_L_farm l hl9 G gL ho pn pa pf ae x jw o adn r ada ra adf f (y1) (y2) (i32_mk (by omega) (by omega)) (i32_mk (by omega) (by omega)) (by assumption) (by assumption) (by assumption) (by assumption) _) (vx_cwSW 4 hts gL_law_L_farm rfl rfl rfl (by decide +kernel) ⟨Nat.le_of_ble_eq_true rfl, Nat.le_of_ble_eq_true rfl⟩) (wrSy (wc := OW G ho pn pa pf ae x ++ LW gL jw o ++ RW G pn adn r ++ RW G pa ada ra ++ FW G pf adf f) hSX hCX hZ hS hFc hNX hK2 hP hD hN [0, 1, 2, 3, 4, 5, 6, 7, 8, 9, 10, 11, 12, 13, 14, 15, 16, 17, 18, 19, 20, 21, 22, 23, 24, 25, 26, 27, 28, 29, 30, 31] (by decide +kernel) sb_a548d2217e sb_807262e62d) rfl rfl hl.1 rfl (lv_room (Nat.le_of_ble_eq_true rfl)) dL_law_810 ⟨(by rw [hcR]; omega), (by rw [hsR]; omega)⟩) hS (fun q _ h => hFc q h) hFc (fun q _ h => hFc q h) (fun E ce q9 _ t H1 locs ht hvm hpx _ _ _ _ _ _ _ => False.elim hpx) (fun q3 u4 t H1 locs ht hvm hw hB hz1 hk1 hS => ?_)
  obtain ⟨x5, o6, r7, ra8, f9⟩ := u4
  try dsimp only at hw hB
  obtain ⟨hP, hD⟩ := wrJ2 (ws := OW G ho pn pa pf ae x ++ LW gL jw o ++ RW G pn adn r ++ RW G pa ada ra ++ FW G pf adf f ++ MW G hm adm u) (wc := OW G ho pn pa pf ae x ++ LW gL jw o ++ RW G pn adn r ++ RW G pa ada ra ++ FW G pf adf f) (wr := MW G hm adm u) (w1 := OW G ho pn pa pf ae x5 ++ LW gL jw o6 ++ RW G pn adn r7 ++ RW G pa ada ra8 ++ FW G pf adf f9) hP hD [0, 1, 2, 3, 4, 5, 6, 7, 8, 9, 10, 11, 12, 13, 14, 15, 16, 17, 18, 19, 20, 21, 22, 23, 24, 25, 26, 27, 28, 29, 30, 31] [32, 33, 34, 35, 36, 37, 38, 39, 40, 41] sb_807262e62d sb_f493248143 (by decide +kernel) (by decide +kernel) hk1 ht hFc hB
  have hP : va_P G.1 vwCl (OW G ho pn pa pf ae x5 ++ LW gL jw o6 ++ RW G pn adn r7 ++ RW G pa ada ra8 ++ FW G pf adf f9 ++ MW G hm adm u) H1 := hP.sub [10, 11, 12, 13, 14, 15, 16, 17, 18, 19, 20, 21, 22, 23, 24, 25, 26, 27, 28, 29, 30, 31, 32, 33, 34, 35, 36, 37, 38, 39, 40, 41, 0, 1, 2, 3, 4, 5, 6, 7, 8, 9] sb_5e9f4be562
  have hD : va_D A (OW G ho pn pa pf ae x5 ++ LW gL jw o6 ++ RW G pn adn r7 ++ RW G pa ada ra8 ++ FW G pf adf f9 ++ MW G hm adm u) := hD.sub [10, 11, 12, 13, 14, 15, 16, 17, 18, 19, 20, 21, 22, 23, 24, 25, 26, 27, 28, 29, 30, 31, 32, 33, 34, 35, 36, 37, 38, 39, 40, 41, 0, 1, 2, 3, 4, 5, 6, 7, 8, 9] (by decide +kernel) sb_6a4c93fcc4
  clear hB hk1 hFc ht hz1 hvm
  generalize H1 = H at hP hS ⊢
  obtain ⟨z10, rfl, w11⟩ := hw
  have hz9 := w11.1
  obtain ⟨vq, hq9⟩ := mf_exI w11.2.2.1
  have hn9 := w11.2.2.2
  have ok9 := w11.2.1
  skip
  refine lv_istore (lv' := [(5, .int (iI (z10))), (4, .int (iI (iv))), (0, .ref b), (1, .ref ho), (2, .ref hm), (3, .ref jw)]) hx hb dL_law_813 hl (by decide) rfl (fun ls hl => ?_)
  refine lv_aload_n hx hb dL_law_815 rfl (lv_at hl 4 rfl) ?_
  refine lv_aload_n hx hb dL_law_816 rfl (lv_at hl 2 rfl) ?_
  refine lv_iload hx hb dL_law_817 (lv_at hl 1 rfl) ?_
  refine mf_iconst hx hb dL_law_819 ?_
  refine mf_iadd hx hb dL_law_820 ?_
  refine mf_sld hx hb hXs hbl hbA hS (z := iv + 1) (by omega) (by omega) (by omega) dL_law_821 ?_
  refine mf_top (sI xs (iv + 1)) (y1) ey1.symm ?_
  refine lv_aload_n hx hb dL_law_822 rfl (lv_at hl 2 rfl) ?_
  refine lv_iload hx hb dL_law_823 (lv_at hl 1 rfl) ?_
  refine mf_iconst hx hb dL_law_825 ?_
  refine mf_iadd hx hb dL_law_826 ?_
  refine mf_sld hx hb hXs hbl hbA hS (z := iv + 2) (by omega) (by omega) (by omega) dL_law_827 ?_
  refine mf_top (sI xs (iv + 2)) (y2) ey2.symm ?_
  have hFc := va_free (wc := MW G hm adm u) hD hS hA [32, 33, 34, 35, 36, 37, 38, 39, 40, 41] sb_f493248143
  refine va_calli (va_runV (As := [.int (iI (y1)), .int (iI (y2))]) (rest := []) ⟨hx, hb, hml, hown, hts⟩ (c_X3_farm l G hm adm u (y1) (y2) (r) (f) (i32_mk (by omega) (by omega)) (i32_mk (by omega) (by omega)) (by assumption) (by assumption) (by exact hRI) (by exact hrel) (by assumption) (by exact hrf) (by exact hFI) _) (cwV 2 hts gL_law_X3_farm rfl rfl rfl (by decide +kernel) ⟨Nat.le_of_ble_eq_true rfl, Nat.le_of_ble_eq_true rfl⟩) (wrV (wc := MW G hm adm u) hK hP hD hN [32, 33, 34, 35, 36, 37, 38, 39, 40, 41] (by decide +kernel) sb_0e13f593d9 sb_f493248143 (ci := 3) rfl rfl) rfl rfl hl.1 rfl (lv_room (Nat.le_of_ble_eq_true rfl)) dL_law_828 ⟨(by rw [hcR]; omega), (by rw [hsR]; omega)⟩) hS (fun q _ h => hFc q h) hFc (fun q12 u13 t H1 locs ht hvm hw hB hz1 hk1 hS => ?_)
  obtain ⟨u14, rfl⟩ : ∃ z, z = u13 := ⟨_, rfl⟩
  try dsimp only at hw hB
  obtain ⟨hP, hD⟩ := wrJ2 (ws := OW G ho pn pa pf ae x5 ++ LW gL jw o6 ++ RW G pn adn r7 ++ RW G pa ada ra8 ++ FW G pf adf f9 ++ MW G hm adm u) (wc := MW G hm adm u) (wr := OW G ho pn pa pf ae x5 ++ LW gL jw o6 ++ RW G pn adn r7 ++ RW G pa ada ra8 ++ FW G pf adf f9) (w1 := MW G hm adm u14) hP hD [32, 33, 34, 35, 36, 37, 38, 39, 40, 41] [0, 1, 2, 3, 4, 5, 6, 7, 8, 9, 10, 11, 12, 13, 14, 15, 16, 17, 18, 19, 20, 21, 22, 23, 24, 25, 26, 27, 28, 29, 30, 31] sb_f493248143 sb_807262e62d (by decide +kernel) (by decide +kernel) hk1 ht hFc hB
  have hP : va_P G.1 vwCl (OW G ho pn pa pf ae x5 ++ LW gL jw o6 ++ RW G pn adn r7 ++ RW G pa ada ra8 ++ FW G pf adf f9 ++ MW G hm adm u14) H1 := hP.sub [0, 1, 2, 3, 4, 5, 6, 7, 8, 9, 10, 11, 12, 13, 14, 15, 16, 17, 18, 19, 20, 21, 22, 23, 24, 25, 26, 27, 28, 29, 30, 31, 32, 33, 34, 35, 36, 37, 38, 39, 40, 41] sb_9f762f0c91
  have hD : va_D A (OW G ho pn pa pf ae x5 ++ LW gL jw o6 ++ RW G pn adn r7 ++ RW G pa ada ra8 ++ FW G pf adf f9 ++ MW G hm adm u14) := hD.sub [0, 1, 2, 3, 4, 5, 6, 7, 8, 9, 10, 11, 12, 13, 14, 15, 16, 17, 18, 19, 20, 21, 22, 23, 24, 25, 26, 27, 28, 29, 30, 31, 32, 33, 34, 35, 36, 37, 38, 39, 40, 41] (by decide +kernel) sb_ced734b625
  have hP : va_P G.1 vwCl (OW G ho pn pa pf ae x5 ++ LW gL jw o6 ++ RW G pn adn r7 ++ RW G pa ada ra8 ++ FW G pf adf f9 ++ MW G hm adm u14) H1 := hP
  have hD : va_D A (OW G ho pn pa pf ae x5 ++ LW gL jw o6 ++ RW G pn adn r7 ++ RW G pa ada ra8 ++ FW G pf adf f9 ++ MW G hm adm u14) := hD
  clear hB hk1 hFc ht hz1 hvm
  generalize H1 = H at hP hS ⊢
  obtain ⟨z16, rfl, w15⟩ := hw
  have oku14 : rOK ulo uhi u14 := w15.1
  have hu9 : (-1 : Int) ≤ u14 0 0 ∧ u14 0 0 ≤ 9 := oku14 0 0
  have hkz := w15.2.2.1
  have hLI : LI (Y + 101) x5 r7 ra8 f9 u14 := by
    by_cases hk : kFarm f y1 y2 = 0
    · exact LI_same hI0 ok9 (hq9 hk).2.1 (hq9 hk).2.2.1 w15.1 (w15.2.2.2.1 hk).1 (relF_cg w15.2.1 hrf)
    · exact LI_same hI0 ok9 (hn9 hk).2.1 (hn9 hk).2.2.2 w15.1 (w15.2.2.2.2 hk) (relF_cg w15.2.1 hrf)
  skip
  refine lv_istore (lv' := [(6, .int (iI (z16))), (5, .int (iI (z10))), (4, .int (iI (iv))), (0, .ref b), (1, .ref ho), (2, .ref hm), (3, .ref jw)]) hx hb dL_law_831 hl (by decide) rfl (fun ls hl => ?_)
  refine lv_aload_n hx hb dL_law_833 rfl (lv_at hl 5 rfl) ?_
  refine vp_callSi (va_Run.run (va_runV (As := []) (rest := []) ⟨hx, hb, hml, hown, hts⟩ (c_X3_thrown l G hm adm u14 (by assumption)) (cwV 0 hts gL_law_X3_thrown rfl rfl rfl (by decide +kernel) ⟨Nat.le_of_ble_eq_true rfl, Nat.le_of_ble_eq_true rfl⟩) (rdV (wc := MW G hm adm u14) hK hP hN [32, 33, 34, 35, 36, 37, 38, 39, 40, 41] sb_0e13f593d9 (ci := 3) rfl rfl) rfl rfl hl.1 rfl (lv_room (Nat.le_of_ble_eq_true rfl)) dL_law_834 ⟨(by rw [hcR]; omega), (by rw [hsR]; omega)⟩)) (fun q17 hq17 => ?_)
  subst hq17
  refine lv_iload hx hb dL_law_837 (lv_at hl 1 rfl) ?_
  refine mf_icmp_eq (tgt := 844) hx hb dL_law_839 (by decide) (i32_mk (by omega) (by omega)) (i32_mk (by omega) (by omega)) (fun c18 => ?_) (fun c18 => ?_)
  · skip
    refine lv_iload hx hb dL_law_844 (lv_at hl 1 rfl) ?_
    refine mf_if_ne (tgt := 861) hx hb dL_law_846 (by decide) (i32_mk (by omega) (by omega)) (fun c19 => ?_) (fun c19 => ?_)
    · skip
      refine lv_goto (tgt := 1223) hx hb dL_law_861 (by decide) ?_
      refine W.widen (k := cells + 6) (n := slots + 933) (by omega) (by omega) ?_
      exact kk x5 o6 r7 ra8 f9 u14 H locs ls hLI hP hD hS (lv_sub hl [2, 3, 4, 5, 6] rfl)
    · skip
      have hk0 : kFarm f y1 y2 = 0 := by omega
      refine lv_aload_n hx hb dL_law_849 rfl (lv_at hl 6 rfl) ?_
      refine mf_iconst hx hb dL_law_850 ?_
      refine va_lald hx hb hK2 hP 2 2 rfl rfl (i := iI 0) (iI_in (z := 0) (by decide) (by decide) (by decide)) dL_law_851 ?_
      refine lv_iload hx hb dL_law_852 (lv_at hl 0 rfl) ?_
      refine mf_i2lw hx hb dL_law_854 ?_
      refine mf_lcmp_eq hx hb (by exact (congrArg o6 (by decide : (iI 0).toNatClampNeg = 0)).trans ((hq9 hk0).1.trans (congrArg (fun t => lI (wrI t)) (by exact (hq9 hk0).2.2.2.trans (w15.2.2.2.1 hk0).2.symm)))) dL_law_855 ?_
      refine mf_if_eq (tgt := 861) hx hb dL_law_856 (by decide) (i32_mk (by decide) (by decide)) (fun c20 => ?_) (fun c20 => ?_)
      · skip
        refine lv_goto (tgt := 1223) hx hb dL_law_861 (by decide) ?_
        refine W.widen (k := cells + 6) (n := slots + 933) (by omega) (by omega) ?_
        exact kk x5 o6 r7 ra8 f9 u14 H locs ls hLI hP hD hS (lv_sub hl [2, 3, 4, 5, 6] rfl)
      · skip
        exact absurd c20 (by omega)
  · skip
    exfalso; omega
set_option maxHeartbeats 4000000 in
set_option maxRecDepth 100000 in
theorem lc_pass {p : Program} {l : Launch} {e : Env} {s : State} {m : MethodId} {below : List Frame} {meth : Method} {c : Code} {Q : State → Prop} {b L : Nat} {xs : Nat → Int32} {G : mf_G} {gL gK : ClassId} {A : Nat → Prop} (E : LE p l s m meth c b L xs G gL gK A) {ho pn pa pf ae jw hm : Nat} {adn ada adf adm : Nat → Nat} {x r ra f u : mf_V} {o : Nat → Int64} {Y iv : Int} {cells slots : Nat} {H : Heap} {locs : List Loc} {ls : Array Slot} (hI0 : LI Y x r ra f u) (hY : 0 ≤ Y ∧ Y + 100 ≤ 60000) (hiv : 0 ≤ iv ∧ iv + 5 ≤ L ∧ L ≤ 2560) (hcl : cells + 6 ≤ 601024 ∧ slots + 933 ≤ 7293033) (hP : va_P G.1 vwCl (OW G ho pn pa pf ae x ++ LW gL jw o ++ RW G pn adn r ++ RW G pa ada ra ++ FW G pf adf f ++ MW G hm adm u) H) (hD : va_D A (OW G ho pn pa pf ae x ++ LW gL jw o ++ RW G pn adn r ++ RW G pa ada ra ++ FW G pf adf f ++ MW G hm adm u)) (hS : va_S A s.heap H locs) (hl : lv_has ls 9 [(4, .int (iI (iv))), (0, .ref b), (1, .ref ho), (2, .ref hm), (3, .ref jw)])
    (kk : ∀ (x' : mf_V) (o' : Nat → Int64) (r' ra' f' u' : mf_V) (H : Heap) (locs : List Loc) (ls : Array Slot), LI (Y + 101) x' r' ra' f' u' → va_P G.1 vwCl (OW G ho pn pa pf ae x' ++ LW gL jw o' ++ RW G pn adn r' ++ RW G pa ada ra' ++ FW G pf adf f' ++ MW G hm adm u') H → va_D A (OW G ho pn pa pf ae x' ++ LW gL jw o' ++ RW G pn adn r' ++ RW G pa ada ra' ++ FW G pf adf f' ++ MW G hm adm u') → va_S A s.heap H locs → lv_has ls 9 [(4, .int (iI (iv))), (0, .ref b), (1, .ref ho), (2, .ref hm), (3, .ref jw)] → W p l e room_1 s m #[Value.ref b] below meth c H locs (cells + 6) (slots + 933) Q (F0 m 1223 ls [])) :
    W p l e room_1 s m #[Value.ref b] below meth c H locs cells slots Q (F0 m 864 ls []) := by
  obtain ⟨hx, hb, hr, hml, hown, hts, hXs, hbl, hl9, hK2, hN, hX, hSX, hCX, hZ, hNX, hA, hbA⟩ := E
  have hK := hK2.sub (tys' := mf_ty G) [0, 1] rfl
  obtain ⟨⟨okx, ok, okra, okf⟩, hRI, hB, hFI, oku, hrel, hrf⟩ := id hI0
  have hcR : room_1.cells = 601024 := rfl
  have hsR : room_1.slots = 7293033 := rfl
  have okLr : (0 : Int) ≤ r 7 0 ∧ r 7 0 ≤ 150 := ok 7 0
  have hlen : 2 ≤ r 7 0 := hRI.1.1
  have b46 : (0 : Int) ≤ f 4 0 ∧ f 4 0 ≤ 6 := okf 4 0
  refine lv_aload_n hx hb dL_law_864 rfl (lv_at hl 2 rfl) ?_
  refine lv_aload_n hx hb dL_law_865 rfl (lv_at hl 1 rfl) ?_
  refine lv_iload hx hb dL_law_866 (lv_at hl 0 rfl) ?_
  refine mf_iconst hx hb dL_law_868 ?_
  refine mf_iadd hx hb dL_law_869 ?_
  refine mf_sld hx hb hXs hbl hbA hS (z := iv + 1) (by omega) (by omega) (by omega) dL_law_870 ?_
  refine mf_nm (fun y1 ey1 => ?_)
  have by1 := sI_b xs (iv + 1)
  rw [← ey1] at by1
  refine lv_aload_n hx hb dL_law_871 rfl (lv_at hl 4 rfl) ?_
  have hFc := va_free (wc := OW G ho pn pa pf ae x ++ LW gL jw o ++ RW G pn adn r ++ RW G pa ada ra ++ FW G pf adf f) hD hS hA [0, 1, 2, 3, 4, 5, 6, 7, 8, 9, 10, 11, 12, 13, 14, 15, 16, 17, 18, 19, 20, 21, 22, 23, 24, 25, 26, 27, 28, 29, 30, 31] sb_807262e62d
  refine vx_calli (vx_runSX (As := [.ref ho, .int (iI (y1)), .ref jw]) (rest := []) ⟨hx, hb, hml, hown, hts⟩ (c_L_pass l hl9 G gL ho pn pa pf ae x jw o adn r ada ra adf f (y1) (Y) (i32_mk (by omega) (by omega)) (by assumption) (by assumption) (by assumption) (by assumption) (by exact hRI) (by exact hB) (by first | assumption | omega) _) (vx_cwSW 3 hts gL_law_L_pass rfl rfl rfl (by decide +kernel) ⟨Nat.le_of_ble_eq_true rfl, Nat.le_of_ble_eq_true rfl⟩) (wrSy (wc := OW G ho pn pa pf ae x ++ LW gL jw o ++ RW G pn adn r ++ RW G pa ada ra ++ FW G pf adf f) hSX hCX hZ hS hFc hNX hK2 hP hD hN [0, 1, 2, 3, 4, 5, 6, 7, 8, 9, 10, 11, 12, 13, 14, 15, 16, 17, 18, 19, 20, 21, 22, 23, 24, 25, 26, 27, 28, 29, 30, 31] (by decide +kernel) sb_a548d2217e sb_807262e62d) rfl rfl hl.1 rfl (lv_room (Nat.le_of_ble_eq_true rfl)) dL_law_872 ⟨(by rw [hcR]; omega), (by rw [hsR]; omega)⟩) hS (fun q _ h => hFc q h) hFc (fun q _ h => hFc q h) (fun E ce q9 _ t H1 locs ht hvm hpx _ _ _ _ _ _ _ => False.elim hpx) (fun q2 u3 t H1 locs ht hvm hw hB hz1 hk1 hS => ?_)
  obtain ⟨x4, o5, r6, ra7, f8⟩ := u3
  try dsimp only at hw hB
  obtain ⟨hP, hD⟩ := wrJ2 (ws := OW G ho pn pa pf ae x ++ LW gL jw o ++ RW G pn adn r ++ RW G pa ada ra ++ FW G pf adf f ++ MW G hm adm u) (wc := OW G ho pn pa pf ae x ++ LW gL jw o ++ RW G pn adn r ++ RW G pa ada ra ++ FW G pf adf f) (wr := MW G hm adm u) (w1 := OW G ho pn pa pf ae x4 ++ LW gL jw o5 ++ RW G pn adn r6 ++ RW G pa ada ra7 ++ FW G pf adf f8) hP hD [0, 1, 2, 3, 4, 5, 6, 7, 8, 9, 10, 11, 12, 13, 14, 15, 16, 17, 18, 19, 20, 21, 22, 23, 24, 25, 26, 27, 28, 29, 30, 31] [32, 33, 34, 35, 36, 37, 38, 39, 40, 41] sb_807262e62d sb_f493248143 (by decide +kernel) (by decide +kernel) hk1 ht hFc hB
  have hP : va_P G.1 vwCl (OW G ho pn pa pf ae x4 ++ LW gL jw o5 ++ RW G pn adn r6 ++ RW G pa ada ra7 ++ FW G pf adf f8 ++ MW G hm adm u) H1 := hP.sub [10, 11, 12, 13, 14, 15, 16, 17, 18, 19, 20, 21, 22, 23, 24, 25, 26, 27, 28, 29, 30, 31, 32, 33, 34, 35, 36, 37, 38, 39, 40, 41, 0, 1, 2, 3, 4, 5, 6, 7, 8, 9] sb_5e9f4be562
  have hD : va_D A (OW G ho pn pa pf ae x4 ++ LW gL jw o5 ++ RW G pn adn r6 ++ RW G pa ada ra7 ++ FW G pf adf f8 ++ MW G hm adm u) := hD.sub [10, 11, 12, 13, 14, 15, 16, 17, 18, 19, 20, 21, 22, 23, 24, 25, 26, 27, 28, 29, 30, 31, 32, 33, 34, 35, 36, 37, 38, 39, 40, 41, 0, 1, 2, 3, 4, 5, 6, 7, 8, 9] (by decide +kernel) sb_6a4c93fcc4
  clear hB hk1 hFc ht hz1 hvm
  generalize H1 = H at hP hS ⊢
  obtain ⟨z9, rfl, w10⟩ := hw
  have hz9 := w10.1
  obtain ⟨vq, hq9⟩ := mf_exI w10.2.2.1
  have hn9 := w10.2.2.2
  have ok9 := w10.2.1
  skip
  refine lv_istore (lv' := [(5, .int (iI (z9))), (4, .int (iI (iv))), (0, .ref b), (1, .ref ho), (2, .ref hm), (3, .ref jw)]) hx hb dL_law_875 hl (by decide) rfl (fun ls hl => ?_)
  refine lv_aload_n hx hb dL_law_877 rfl (lv_at hl 4 rfl) ?_
  refine lv_aload_n hx hb dL_law_878 rfl (lv_at hl 2 rfl) ?_
  refine lv_iload hx hb dL_law_879 (lv_at hl 1 rfl) ?_
  refine mf_iconst hx hb dL_law_881 ?_
  refine mf_iadd hx hb dL_law_882 ?_
  refine mf_sld hx hb hXs hbl hbA hS (z := iv + 1) (by omega) (by omega) (by omega) dL_law_883 ?_
  refine mf_top (sI xs (iv + 1)) (y1) ey1.symm ?_
  have hFc := va_free (wc := MW G hm adm u) hD hS hA [32, 33, 34, 35, 36, 37, 38, 39, 40, 41] sb_f493248143
  refine va_calli (va_runV (As := [.int (iI (y1))]) (rest := []) ⟨hx, hb, hml, hown, hts⟩ (c_X3_pass l G hm adm u (y1) (r) (r6) (vq) (Y) (i32_mk (by omega) (by omega)) (by assumption) (by assumption) (by exact hRI) (by exact hrel) (by exact hB) (by omega) (by exact fun k => (hq9 k).2.1) _) (cwV 1 hts gL_law_X3_pass rfl rfl rfl (by decide +kernel) ⟨Nat.le_of_ble_eq_true rfl, Nat.le_of_ble_eq_true rfl⟩) (wrV (wc := MW G hm adm u) hK hP hD hN [32, 33, 34, 35, 36, 37, 38, 39, 40, 41] (by decide +kernel) sb_0e13f593d9 sb_f493248143 (ci := 3) rfl rfl) rfl rfl hl.1 rfl (lv_room (Nat.le_of_ble_eq_true rfl)) dL_law_884 ⟨(by rw [hcR]; omega), (by rw [hsR]; omega)⟩) hS (fun q _ h => hFc q h) hFc (fun q11 u12 t H1 locs ht hvm hw hB hz1 hk1 hS => ?_)
  obtain ⟨u13, rfl⟩ : ∃ z, z = u12 := ⟨_, rfl⟩
  try dsimp only at hw hB
  obtain ⟨hP, hD⟩ := wrJ2 (ws := OW G ho pn pa pf ae x4 ++ LW gL jw o5 ++ RW G pn adn r6 ++ RW G pa ada ra7 ++ FW G pf adf f8 ++ MW G hm adm u) (wc := MW G hm adm u) (wr := OW G ho pn pa pf ae x4 ++ LW gL jw o5 ++ RW G pn adn r6 ++ RW G pa ada ra7 ++ FW G pf adf f8) (w1 := MW G hm adm u13) hP hD [32, 33, 34, 35, 36, 37, 38, 39, 40, 41] [0, 1, 2, 3, 4, 5, 6, 7, 8, 9, 10, 11, 12, 13, 14, 15, 16, 17, 18, 19, 20, 21, 22, 23, 24, 25, 26, 27, 28, 29, 30, 31] sb_f493248143 sb_807262e62d (by decide +kernel) (by decide +kernel) hk1 ht hFc hB
  have hP : va_P G.1 vwCl (OW G ho pn pa pf ae x4 ++ LW gL jw o5 ++ RW G pn adn r6 ++ RW G pa ada ra7 ++ FW G pf adf f8 ++ MW G hm adm u13) H1 := hP.sub [0, 1, 2, 3, 4, 5, 6, 7, 8, 9, 10, 11, 12, 13, 14, 15, 16, 17, 18, 19, 20, 21, 22, 23, 24, 25, 26, 27, 28, 29, 30, 31, 32, 33, 34, 35, 36, 37, 38, 39, 40, 41] sb_9f762f0c91
  have hD : va_D A (OW G ho pn pa pf ae x4 ++ LW gL jw o5 ++ RW G pn adn r6 ++ RW G pa ada ra7 ++ FW G pf adf f8 ++ MW G hm adm u13) := hD.sub [0, 1, 2, 3, 4, 5, 6, 7, 8, 9, 10, 11, 12, 13, 14, 15, 16, 17, 18, 19, 20, 21, 22, 23, 24, 25, 26, 27, 28, 29, 30, 31, 32, 33, 34, 35, 36, 37, 38, 39, 40, 41] (by decide +kernel) sb_ced734b625
  have hP : va_P G.1 vwCl (OW G ho pn pa pf ae x4 ++ LW gL jw o5 ++ RW G pn adn r6 ++ RW G pa ada ra7 ++ FW G pf adf f8 ++ MW G hm adm u13) H1 := hP
  have hD : va_D A (OW G ho pn pa pf ae x4 ++ LW gL jw o5 ++ RW G pn adn r6 ++ RW G pa ada ra7 ++ FW G pf adf f8 ++ MW G hm adm u13) := hD
  clear hB hk1 hFc ht hz1 hvm
  generalize H1 = H at hP hS ⊢
  obtain ⟨z15, rfl, w14⟩ := hw
  have oku13 : rOK ulo uhi u13 := w14.1
  have hu9 : (-1 : Int) ≤ u13 0 0 ∧ u13 0 0 ≤ 9 := oku13 0 0
  have hkz := w14.2.2.1
  have hLI : LI (Y + 101) x4 r6 ra7 f8 u13 := by
    by_cases hk : kRng 1 100 y1 = 0
    · obtain ⟨-, hy9, hi, hb9, ef⟩ := hq9 hk
      have hyb := kRng_0 hk
      exact ⟨ok9, hi, bdP_mono hb9 (by omega), by rw [ef]; exact hFI, w14.1, (w14.2.2.2.1 hk).1, by rw [ef]; exact relF_cg w14.2.1 hrf⟩
    · exact LI_same hI0 ok9 (hn9 hk).2.1 (hn9 hk).2.2.2 w14.1 (w14.2.2.2.2 hk) (relF_cg w14.2.1 hrf)
  skip
  refine lv_istore (lv' := [(6, .int (iI (z15))), (5, .int (iI (z9))), (4, .int (iI (iv))), (0, .ref b), (1, .ref ho), (2, .ref hm), (3, .ref jw)]) hx hb dL_law_887 hl (by decide) rfl (fun ls hl => ?_)
  refine lv_aload_n hx hb dL_law_889 rfl (lv_at hl 5 rfl) ?_
  refine vp_callSi (va_Run.run (va_runV (As := []) (rest := []) ⟨hx, hb, hml, hown, hts⟩ (c_X3_thrown l G hm adm u13 (by assumption)) (cwV 0 hts gL_law_X3_thrown rfl rfl rfl (by decide +kernel) ⟨Nat.le_of_ble_eq_true rfl, Nat.le_of_ble_eq_true rfl⟩) (rdV (wc := MW G hm adm u13) hK hP hN [32, 33, 34, 35, 36, 37, 38, 39, 40, 41] sb_0e13f593d9 (ci := 3) rfl rfl) rfl rfl hl.1 rfl (lv_room (Nat.le_of_ble_eq_true rfl)) dL_law_890 ⟨(by rw [hcR]; omega), (by rw [hsR]; omega)⟩)) (fun q16 hq16 => ?_)
  subst hq16
  refine lv_iload hx hb dL_law_893 (lv_at hl 1 rfl) ?_
  refine mf_icmp_eq (tgt := 900) hx hb dL_law_895 (by decide) (i32_mk (by omega) (by omega)) (i32_mk (by omega) (by omega)) (fun c17 => ?_) (fun c17 => ?_)
  · skip
    refine lv_iload hx hb dL_law_900 (lv_at hl 1 rfl) ?_
    refine mf_if_ne (tgt := 917) hx hb dL_law_902 (by decide) (i32_mk (by omega) (by omega)) (fun c18 => ?_) (fun c18 => ?_)
    · skip
      refine lv_goto (tgt := 1223) hx hb dL_law_917 (by decide) ?_
      refine W.widen (k := cells + 6) (n := slots + 933) (by omega) (by omega) ?_
      exact kk x4 o5 r6 ra7 f8 u13 H locs ls hLI hP hD hS (lv_sub hl [2, 3, 4, 5, 6] rfl)
    · skip
      have hk0 : kRng 1 100 y1 = 0 := by omega
      refine lv_aload_n hx hb dL_law_905 rfl (lv_at hl 6 rfl) ?_
      refine mf_iconst hx hb dL_law_906 ?_
      refine va_lald hx hb hK2 hP 2 2 rfl rfl (i := iI 0) (iI_in (z := 0) (by decide) (by decide) (by decide)) dL_law_907 ?_
      refine lv_iload hx hb dL_law_908 (lv_at hl 0 rfl) ?_
      refine mf_i2lw hx hb dL_law_910 ?_
      refine mf_lcmp_eq hx hb (by exact (congrArg o5 (by decide : (iI 0).toNatClampNeg = 0)).trans ((hq9 hk0).1.trans (congrArg (fun t => lI (wrI t)) (by exact (w14.2.2.2.1 hk0).2.symm)))) dL_law_911 ?_
      refine mf_if_eq (tgt := 917) hx hb dL_law_912 (by decide) (i32_mk (by decide) (by decide)) (fun c19 => ?_) (fun c19 => ?_)
      · skip
        refine lv_goto (tgt := 1223) hx hb dL_law_917 (by decide) ?_
        refine W.widen (k := cells + 6) (n := slots + 933) (by omega) (by omega) ?_
        exact kk x4 o5 r6 ra7 f8 u13 H locs ls hLI hP hD hS (lv_sub hl [2, 3, 4, 5, 6] rfl)
      · skip
        exact absurd c19 (by omega)
  · skip
    exfalso; omega
set_option maxHeartbeats 4000000 in
set_option maxRecDepth 100000 in
theorem lc_count {p : Program} {l : Launch} {e : Env} {s : State} {m : MethodId} {below : List Frame} {meth : Method} {c : Code} {Q : State → Prop} {b L : Nat} {xs : Nat → Int32} {G : mf_G} {gL gK : ClassId} {A : Nat → Prop} (E : LE p l s m meth c b L xs G gL gK A) {ho pn pa pf ae jw hm : Nat} {adn ada adf adm : Nat → Nat} {x r ra f u : mf_V} {o : Nat → Int64} {Y iv : Int} {cells slots : Nat} {H : Heap} {locs : List Loc} {ls : Array Slot} (hI0 : LI Y x r ra f u) (hY : 0 ≤ Y ∧ Y + 100 ≤ 60000) (hiv : 0 ≤ iv ∧ iv + 5 ≤ L ∧ L ≤ 2560) (hcl : cells + 6 ≤ 601024 ∧ slots + 933 ≤ 7293033) (hP : va_P G.1 vwCl (OW G ho pn pa pf ae x ++ LW gL jw o ++ RW G pn adn r ++ RW G pa ada ra ++ FW G pf adf f ++ MW G hm adm u) H) (hD : va_D A (OW G ho pn pa pf ae x ++ LW gL jw o ++ RW G pn adn r ++ RW G pa ada ra ++ FW G pf adf f ++ MW G hm adm u)) (hS : va_S A s.heap H locs) (hl : lv_has ls 9 [(4, .int (iI (iv))), (0, .ref b), (1, .ref ho), (2, .ref hm), (3, .ref jw)])
    (kk : ∀ (x' : mf_V) (o' : Nat → Int64) (r' ra' f' u' : mf_V) (H : Heap) (locs : List Loc) (ls : Array Slot), LI (Y + 101) x' r' ra' f' u' → va_P G.1 vwCl (OW G ho pn pa pf ae x' ++ LW gL jw o' ++ RW G pn adn r' ++ RW G pa ada ra' ++ FW G pf adf f' ++ MW G hm adm u') H → va_D A (OW G ho pn pa pf ae x' ++ LW gL jw o' ++ RW G pn adn r' ++ RW G pa ada ra' ++ FW G pf adf f' ++ MW G hm adm u') → va_S A s.heap H locs → lv_has ls 9 [(4, .int (iI (iv))), (0, .ref b), (1, .ref ho), (2, .ref hm), (3, .ref jw)] → W p l e room_1 s m #[Value.ref b] below meth c H locs (cells + 6) (slots + 933) Q (F0 m 1223 ls [])) :
    W p l e room_1 s m #[Value.ref b] below meth c H locs cells slots Q (F0 m 920 ls []) := by
  obtain ⟨hx, hb, hr, hml, hown, hts, hXs, hbl, hl9, hK2, hN, hX, hSX, hCX, hZ, hNX, hA, hbA⟩ := E
  have hK := hK2.sub (tys' := mf_ty G) [0, 1] rfl
  obtain ⟨⟨okx, ok, okra, okf⟩, hRI, hB, hFI, oku, hrel, hrf⟩ := id hI0
  have hcR : room_1.cells = 601024 := rfl
  have hsR : room_1.slots = 7293033 := rfl
  have okLr : (0 : Int) ≤ r 7 0 ∧ r 7 0 ≤ 150 := ok 7 0
  have hlen : 2 ≤ r 7 0 := hRI.1.1
  have b46 : (0 : Int) ≤ f 4 0 ∧ f 4 0 ≤ 6 := okf 4 0
  refine lv_aload_n hx hb dL_law_920 rfl (lv_at hl 2 rfl) ?_
  refine lv_aload_n hx hb dL_law_921 rfl (lv_at hl 1 rfl) ?_
  refine lv_iload hx hb dL_law_922 (lv_at hl 0 rfl) ?_
  refine mf_iconst hx hb dL_law_924 ?_
  refine mf_iadd hx hb dL_law_925 ?_
  refine mf_sld hx hb hXs hbl hbA hS (z := iv + 1) (by omega) (by omega) (by omega) dL_law_926 ?_
  refine mf_nm (fun y1 ey1 => ?_)
  have by1 := sI_b xs (iv + 1)
  rw [← ey1] at by1
  refine lv_aload_n hx hb dL_law_927 rfl (lv_at hl 4 rfl) ?_
  have hFc := va_free (wc := OW G ho pn pa pf ae x ++ LW gL jw o ++ RW G pn adn r ++ RW G pa ada ra ++ FW G pf adf f) hD hS hA [0, 1, 2, 3, 4, 5, 6, 7, 8, 9, 10, 11, 12, 13, 14, 15, 16, 17, 18, 19, 20, 21, 22, 23, 24, 25, 26, 27, 28, 29, 30, 31] sb_807262e62d
  refine vx_calli (vx_runSX (As := [.ref ho, .int (iI (y1)), .ref jw]) (rest := []) ⟨hx, hb, hml, hown, hts⟩ (c_L_count l hl9 G gL ho pn pa pf ae x jw o adn r ada ra adf f (y1) (i32_mk (by omega) (by omega)) (by assumption) (by assumption) (by assumption) (by assumption) (by exact hlen) _) (vx_cwSW 3 hts gL_law_L_count rfl rfl rfl (by decide +kernel) ⟨Nat.le_of_ble_eq_true rfl, Nat.le_of_ble_eq_true rfl⟩) (wrSy (wc := OW G ho pn pa pf ae x ++ LW gL jw o ++ RW G pn adn r ++ RW G pa ada ra ++ FW G pf adf f) hSX hCX hZ hS hFc hNX hK2 hP hD hN [0, 1, 2, 3, 4, 5, 6, 7, 8, 9, 10, 11, 12, 13, 14, 15, 16, 17, 18, 19, 20, 21, 22, 23, 24, 25, 26, 27, 28, 29, 30, 31] (by decide +kernel) sb_a548d2217e sb_807262e62d) rfl rfl hl.1 rfl (lv_room (Nat.le_of_ble_eq_true rfl)) dL_law_928 ⟨(by rw [hcR]; omega), (by rw [hsR]; omega)⟩) hS (fun q _ h => hFc q h) hFc (fun q _ h => hFc q h) (fun E ce q9 _ t H1 locs ht hvm hpx _ _ _ _ _ _ _ => False.elim hpx) (fun q2 u3 t H1 locs ht hvm hw hB hz1 hk1 hS => ?_)
  obtain ⟨x4, o5, r6, ra7, f8⟩ := u3
  try dsimp only at hw hB
  obtain ⟨hP, hD⟩ := wrJ2 (ws := OW G ho pn pa pf ae x ++ LW gL jw o ++ RW G pn adn r ++ RW G pa ada ra ++ FW G pf adf f ++ MW G hm adm u) (wc := OW G ho pn pa pf ae x ++ LW gL jw o ++ RW G pn adn r ++ RW G pa ada ra ++ FW G pf adf f) (wr := MW G hm adm u) (w1 := OW G ho pn pa pf ae x4 ++ LW gL jw o5 ++ RW G pn adn r6 ++ RW G pa ada ra7 ++ FW G pf adf f8) hP hD [0, 1, 2, 3, 4, 5, 6, 7, 8, 9, 10, 11, 12, 13, 14, 15, 16, 17, 18, 19, 20, 21, 22, 23, 24, 25, 26, 27, 28, 29, 30, 31] [32, 33, 34, 35, 36, 37, 38, 39, 40, 41] sb_807262e62d sb_f493248143 (by decide +kernel) (by decide +kernel) hk1 ht hFc hB
  have hP : va_P G.1 vwCl (OW G ho pn pa pf ae x4 ++ LW gL jw o5 ++ RW G pn adn r6 ++ RW G pa ada ra7 ++ FW G pf adf f8 ++ MW G hm adm u) H1 := hP.sub [10, 11, 12, 13, 14, 15, 16, 17, 18, 19, 20, 21, 22, 23, 24, 25, 26, 27, 28, 29, 30, 31, 32, 33, 34, 35, 36, 37, 38, 39, 40, 41, 0, 1, 2, 3, 4, 5, 6, 7, 8, 9] sb_5e9f4be562
  have hD : va_D A (OW G ho pn pa pf ae x4 ++ LW gL jw o5 ++ RW G pn adn r6 ++ RW G pa ada ra7 ++ FW G pf adf f8 ++ MW G hm adm u) := hD.sub [10, 11, 12, 13, 14, 15, 16, 17, 18, 19, 20, 21, 22, 23, 24, 25, 26, 27, 28, 29, 30, 31, 32, 33, 34, 35, 36, 37, 38, 39, 40, 41, 0, 1, 2, 3, 4, 5, 6, 7, 8, 9] (by decide +kernel) sb_6a4c93fcc4
  clear hB hk1 hFc ht hz1 hvm
  generalize H1 = H at hP hS ⊢
  obtain ⟨z9, rfl, w10⟩ := hw
  have hz9 := w10.1
  obtain ⟨vq, hq9⟩ := mf_exI w10.2.2.1
  have hn9 := w10.2.2.2
  have ok9 := w10.2.1
  skip
  refine lv_istore (lv' := [(5, .int (iI (z9))), (4, .int (iI (iv))), (0, .ref b), (1, .ref ho), (2, .ref hm), (3, .ref jw)]) hx hb dL_law_931 hl (by decide) rfl (fun ls hl => ?_)
  refine lv_aload_n hx hb dL_law_933 rfl (lv_at hl 4 rfl) ?_
  refine lv_aload_n hx hb dL_law_934 rfl (lv_at hl 2 rfl) ?_
  refine lv_iload hx hb dL_law_935 (lv_at hl 1 rfl) ?_
  refine mf_iconst hx hb dL_law_937 ?_
  refine mf_iadd hx hb dL_law_938 ?_
  refine mf_sld hx hb hXs hbl hbA hS (z := iv + 1) (by omega) (by omega) (by omega) dL_law_939 ?_
  refine mf_top (sI xs (iv + 1)) (y1) ey1.symm ?_
  have hFc := va_free (wc := MW G hm adm u) hD hS hA [32, 33, 34, 35, 36, 37, 38, 39, 40, 41] sb_f493248143
  refine va_calli (va_runV (As := [.int (iI (y1))]) (rest := []) ⟨hx, hb, hml, hown, hts⟩ (c_X3_count l G hm adm u (y1) (r) (i32_mk (by omega) (by omega)) (by assumption) (by assumption) (by exact hRI) (by exact hrel) _) (cwV 1 hts gL_law_X3_count rfl rfl rfl (by decide +kernel) ⟨Nat.le_of_ble_eq_true rfl, Nat.le_of_ble_eq_true rfl⟩) (wrV (wc := MW G hm adm u) hK hP hD hN [32, 33, 34, 35, 36, 37, 38, 39, 40, 41] (by decide +kernel) sb_0e13f593d9 sb_f493248143 (ci := 3) rfl rfl) rfl rfl hl.1 rfl (lv_room (Nat.le_of_ble_eq_true rfl)) dL_law_940 ⟨(by rw [hcR]; omega), (by rw [hsR]; omega)⟩) hS (fun q _ h => hFc q h) hFc (fun q11 u12 t H1 locs ht hvm hw hB hz1 hk1 hS => ?_)
  obtain ⟨u13, rfl⟩ : ∃ z, z = u12 := ⟨_, rfl⟩
  try dsimp only at hw hB
  obtain ⟨hP, hD⟩ := wrJ2 (ws := OW G ho pn pa pf ae x4 ++ LW gL jw o5 ++ RW G pn adn r6 ++ RW G pa ada ra7 ++ FW G pf adf f8 ++ MW G hm adm u) (wc := MW G hm adm u) (wr := OW G ho pn pa pf ae x4 ++ LW gL jw o5 ++ RW G pn adn r6 ++ RW G pa ada ra7 ++ FW G pf adf f8) (w1 := MW G hm adm u13) hP hD [32, 33, 34, 35, 36, 37, 38, 39, 40, 41] [0, 1, 2, 3, 4, 5, 6, 7, 8, 9, 10, 11, 12, 13, 14, 15, 16, 17, 18, 19, 20, 21, 22, 23, 24, 25, 26, 27, 28, 29, 30, 31] sb_f493248143 sb_807262e62d (by decide +kernel) (by decide +kernel) hk1 ht hFc hB
  have hP : va_P G.1 vwCl (OW G ho pn pa pf ae x4 ++ LW gL jw o5 ++ RW G pn adn r6 ++ RW G pa ada ra7 ++ FW G pf adf f8 ++ MW G hm adm u13) H1 := hP.sub [0, 1, 2, 3, 4, 5, 6, 7, 8, 9, 10, 11, 12, 13, 14, 15, 16, 17, 18, 19, 20, 21, 22, 23, 24, 25, 26, 27, 28, 29, 30, 31, 32, 33, 34, 35, 36, 37, 38, 39, 40, 41] sb_9f762f0c91
  have hD : va_D A (OW G ho pn pa pf ae x4 ++ LW gL jw o5 ++ RW G pn adn r6 ++ RW G pa ada ra7 ++ FW G pf adf f8 ++ MW G hm adm u13) := hD.sub [0, 1, 2, 3, 4, 5, 6, 7, 8, 9, 10, 11, 12, 13, 14, 15, 16, 17, 18, 19, 20, 21, 22, 23, 24, 25, 26, 27, 28, 29, 30, 31, 32, 33, 34, 35, 36, 37, 38, 39, 40, 41] (by decide +kernel) sb_ced734b625
  have hP : va_P G.1 vwCl (OW G ho pn pa pf ae x4 ++ LW gL jw o5 ++ RW G pn adn r6 ++ RW G pa ada ra7 ++ FW G pf adf f8 ++ MW G hm adm u13) H1 := hP
  have hD : va_D A (OW G ho pn pa pf ae x4 ++ LW gL jw o5 ++ RW G pn adn r6 ++ RW G pa ada ra7 ++ FW G pf adf f8 ++ MW G hm adm u13) := hD
  clear hB hk1 hFc ht hz1 hvm
  generalize H1 = H at hP hS ⊢
  obtain ⟨z15, rfl, w14⟩ := hw
  have oku13 : rOK ulo uhi u13 := w14.1
  have hu9 : (-1 : Int) ≤ u13 0 0 ∧ u13 0 0 ≤ 9 := oku13 0 0
  have hkz := w14.2.2.1
  have hLI : LI (Y + 101) x4 r6 ra7 f8 u13 := by
    by_cases hk : kRng 0 7 y1 = 0
    · exact LI_same hI0 ok9 (hq9 hk).2.1 (hq9 hk).2.2.1 w14.1 (w14.2.2.2.1 hk).1 (relF_cg w14.2.1 hrf)
    · exact LI_same hI0 ok9 (hn9 hk).2.1 (hn9 hk).2.2.2 w14.1 (w14.2.2.2.2 hk) (relF_cg w14.2.1 hrf)
  skip
  refine lv_istore (lv' := [(6, .int (iI (z15))), (5, .int (iI (z9))), (4, .int (iI (iv))), (0, .ref b), (1, .ref ho), (2, .ref hm), (3, .ref jw)]) hx hb dL_law_943 hl (by decide) rfl (fun ls hl => ?_)
  refine lv_aload_n hx hb dL_law_945 rfl (lv_at hl 5 rfl) ?_
  refine vp_callSi (va_Run.run (va_runV (As := []) (rest := []) ⟨hx, hb, hml, hown, hts⟩ (c_X3_thrown l G hm adm u13 (by assumption)) (cwV 0 hts gL_law_X3_thrown rfl rfl rfl (by decide +kernel) ⟨Nat.le_of_ble_eq_true rfl, Nat.le_of_ble_eq_true rfl⟩) (rdV (wc := MW G hm adm u13) hK hP hN [32, 33, 34, 35, 36, 37, 38, 39, 40, 41] sb_0e13f593d9 (ci := 3) rfl rfl) rfl rfl hl.1 rfl (lv_room (Nat.le_of_ble_eq_true rfl)) dL_law_946 ⟨(by rw [hcR]; omega), (by rw [hsR]; omega)⟩)) (fun q16 hq16 => ?_)
  subst hq16
  refine lv_iload hx hb dL_law_949 (lv_at hl 1 rfl) ?_
  refine mf_icmp_eq (tgt := 956) hx hb dL_law_951 (by decide) (i32_mk (by omega) (by omega)) (i32_mk (by omega) (by omega)) (fun c17 => ?_) (fun c17 => ?_)
  · skip
    refine lv_iload hx hb dL_law_956 (lv_at hl 1 rfl) ?_
    refine mf_if_ne (tgt := 973) hx hb dL_law_958 (by decide) (i32_mk (by omega) (by omega)) (fun c18 => ?_) (fun c18 => ?_)
    · skip
      refine lv_goto (tgt := 1223) hx hb dL_law_973 (by decide) ?_
      refine W.widen (k := cells + 6) (n := slots + 933) (by omega) (by omega) ?_
      exact kk x4 o5 r6 ra7 f8 u13 H locs ls hLI hP hD hS (lv_sub hl [2, 3, 4, 5, 6] rfl)
    · skip
      have hk0 : kRng 0 7 y1 = 0 := by omega
      refine lv_aload_n hx hb dL_law_961 rfl (lv_at hl 6 rfl) ?_
      refine mf_iconst hx hb dL_law_962 ?_
      refine va_lald hx hb hK2 hP 2 2 rfl rfl (i := iI 0) (iI_in (z := 0) (by decide) (by decide) (by decide)) dL_law_963 ?_
      refine lv_iload hx hb dL_law_964 (lv_at hl 0 rfl) ?_
      refine mf_i2lw hx hb dL_law_966 ?_
      refine mf_lcmp_eq hx hb (by exact (congrArg o5 (by decide : (iI 0).toNatClampNeg = 0)).trans ((hq9 hk0).1.trans (congrArg (fun t => lI (wrI t)) (by exact (hq9 hk0).2.2.2.trans ((w14.2.2.2.1 hk0).2.trans (by rw [hrf.1])).symm)))) dL_law_967 ?_
      refine mf_if_eq (tgt := 973) hx hb dL_law_968 (by decide) (i32_mk (by decide) (by decide)) (fun c19 => ?_) (fun c19 => ?_)
      · skip
        refine lv_goto (tgt := 1223) hx hb dL_law_973 (by decide) ?_
        refine W.widen (k := cells + 6) (n := slots + 933) (by omega) (by omega) ?_
        exact kk x4 o5 r6 ra7 f8 u13 H locs ls hLI hP hD hS (lv_sub hl [2, 3, 4, 5, 6] rfl)
      · skip
        exact absurd c19 (by omega)
  · skip
    exfalso; omega
set_option maxHeartbeats 4000000 in
set_option maxRecDepth 100000 in
theorem lc_foresee {p : Program} {l : Launch} {e : Env} {s : State} {m : MethodId} {below : List Frame} {meth : Method} {c : Code} {Q : State → Prop} {b L : Nat} {xs : Nat → Int32} {G : mf_G} {gL gK : ClassId} {A : Nat → Prop} (E : LE p l s m meth c b L xs G gL gK A) {ho pn pa pf ae jw hm : Nat} {adn ada adf adm : Nat → Nat} {x r ra f u : mf_V} {o : Nat → Int64} {Y iv : Int} {cells slots : Nat} {H : Heap} {locs : List Loc} {ls : Array Slot} (hI0 : LI Y x r ra f u) (hY : 0 ≤ Y ∧ Y + 100 ≤ 60000) (hiv : 0 ≤ iv ∧ iv + 5 ≤ L ∧ L ≤ 2560) (hcl : cells + 6 ≤ 601024 ∧ slots + 933 ≤ 7293033) (hP : va_P G.1 vwCl (OW G ho pn pa pf ae x ++ LW gL jw o ++ RW G pn adn r ++ RW G pa ada ra ++ FW G pf adf f ++ MW G hm adm u) H) (hD : va_D A (OW G ho pn pa pf ae x ++ LW gL jw o ++ RW G pn adn r ++ RW G pa ada ra ++ FW G pf adf f ++ MW G hm adm u)) (hS : va_S A s.heap H locs) (hl : lv_has ls 9 [(4, .int (iI (iv))), (0, .ref b), (1, .ref ho), (2, .ref hm), (3, .ref jw)])
    (kk : ∀ (x' : mf_V) (o' : Nat → Int64) (r' ra' f' u' : mf_V) (H : Heap) (locs : List Loc) (ls : Array Slot), LI (Y + 101) x' r' ra' f' u' → va_P G.1 vwCl (OW G ho pn pa pf ae x' ++ LW gL jw o' ++ RW G pn adn r' ++ RW G pa ada ra' ++ FW G pf adf f' ++ MW G hm adm u') H → va_D A (OW G ho pn pa pf ae x' ++ LW gL jw o' ++ RW G pn adn r' ++ RW G pa ada ra' ++ FW G pf adf f' ++ MW G hm adm u') → va_S A s.heap H locs → lv_has ls 9 [(4, .int (iI (iv))), (0, .ref b), (1, .ref ho), (2, .ref hm), (3, .ref jw)] → W p l e room_1 s m #[Value.ref b] below meth c H locs (cells + 6) (slots + 933) Q (F0 m 1223 ls [])) :
    W p l e room_1 s m #[Value.ref b] below meth c H locs cells slots Q (F0 m 976 ls []) := by
  obtain ⟨hx, hb, hr, hml, hown, hts, hXs, hbl, hl9, hK2, hN, hX, hSX, hCX, hZ, hNX, hA, hbA⟩ := E
  have hK := hK2.sub (tys' := mf_ty G) [0, 1] rfl
  obtain ⟨⟨okx, ok, okra, okf⟩, hRI, hB, hFI, oku, hrel, hrf⟩ := id hI0
  have hcR : room_1.cells = 601024 := rfl
  have hsR : room_1.slots = 7293033 := rfl
  have okLr : (0 : Int) ≤ r 7 0 ∧ r 7 0 ≤ 150 := ok 7 0
  have hlen : 2 ≤ r 7 0 := hRI.1.1
  have b46 : (0 : Int) ≤ f 4 0 ∧ f 4 0 ≤ 6 := okf 4 0
  refine lv_aload_n hx hb dL_law_976 rfl (lv_at hl 2 rfl) ?_
  refine lv_aload_n hx hb dL_law_977 rfl (lv_at hl 1 rfl) ?_
  refine lv_iload hx hb dL_law_978 (lv_at hl 0 rfl) ?_
  refine mf_iconst hx hb dL_law_980 ?_
  refine mf_iadd hx hb dL_law_981 ?_
  refine mf_sld hx hb hXs hbl hbA hS (z := iv + 1) (by omega) (by omega) (by omega) dL_law_982 ?_
  refine mf_nm (fun y1 ey1 => ?_)
  have by1 := sI_b xs (iv + 1)
  rw [← ey1] at by1
  refine lv_aload_n hx hb dL_law_983 rfl (lv_at hl 1 rfl) ?_
  refine lv_iload hx hb dL_law_984 (lv_at hl 0 rfl) ?_
  refine mf_iconst hx hb dL_law_986 ?_
  refine mf_iadd hx hb dL_law_987 ?_
  refine mf_sld hx hb hXs hbl hbA hS (z := iv + 2) (by omega) (by omega) (by omega) dL_law_988 ?_
  refine mf_nm (fun y2 ey2 => ?_)
  have by2 := sI_b xs (iv + 2)
  rw [← ey2] at by2
  refine lv_aload_n hx hb dL_law_989 rfl (lv_at hl 4 rfl) ?_
  have hFc := va_free (wc := OW G ho pn pa pf ae x ++ LW gL jw o ++ RW G pn adn r ++ RW G pa ada ra ++ FW G pf adf f) hD hS hA [0, 1, 2, 3, 4, 5, 6, 7, 8, 9, 10, 11, 12, 13, 14, 15, 16, 17, 18, 19, 20, 21, 22, 23, 24, 25, 26, 27, 28, 29, 30, 31] sb_807262e62d
  refine vx_calli (vx_runSX (As := [.ref ho, .int (iI (y1)), .int (iI (y2)), .ref jw]) (rest := []) ⟨hx, hb, hml, hown, hts⟩ (c_L_foresee l hl9 G gL ho pn pa pf ae x jw o adn r ada ra adf f (y1) (y2) (Y) (i32_mk (by omega) (by omega)) (i32_mk (by omega) (by omega)) (by assumption) (by assumption) (by assumption) (by assumption) (by exact hRI) (by exact hB) (by first | assumption | omega) _) (vx_cwSW 4 hts gL_law_L_foresee rfl rfl rfl (by decide +kernel) ⟨Nat.le_of_ble_eq_true rfl, Nat.le_of_ble_eq_true rfl⟩) (wrSy (wc := OW G ho pn pa pf ae x ++ LW gL jw o ++ RW G pn adn r ++ RW G pa ada ra ++ FW G pf adf f) hSX hCX hZ hS hFc hNX hK2 hP hD hN [0, 1, 2, 3, 4, 5, 6, 7, 8, 9, 10, 11, 12, 13, 14, 15, 16, 17, 18, 19, 20, 21, 22, 23, 24, 25, 26, 27, 28, 29, 30, 31] (by decide +kernel) sb_a548d2217e sb_807262e62d) rfl rfl hl.1 rfl (lv_room (Nat.le_of_ble_eq_true rfl)) dL_law_990 ⟨(by rw [hcR]; omega), (by rw [hsR]; omega)⟩) hS (fun q _ h => hFc q h) hFc (fun q _ h => hFc q h) (fun E ce q9 _ t H1 locs ht hvm hpx _ _ _ _ _ _ _ => False.elim hpx) (fun q3 u4 t H1 locs ht hvm hw hB hz1 hk1 hS => ?_)
  obtain ⟨x5, o6, r7, ra8, f9⟩ := u4
  try dsimp only at hw hB
  obtain ⟨hP, hD⟩ := wrJ2 (ws := OW G ho pn pa pf ae x ++ LW gL jw o ++ RW G pn adn r ++ RW G pa ada ra ++ FW G pf adf f ++ MW G hm adm u) (wc := OW G ho pn pa pf ae x ++ LW gL jw o ++ RW G pn adn r ++ RW G pa ada ra ++ FW G pf adf f) (wr := MW G hm adm u) (w1 := OW G ho pn pa pf ae x5 ++ LW gL jw o6 ++ RW G pn adn r7 ++ RW G pa ada ra8 ++ FW G pf adf f9) hP hD [0, 1, 2, 3, 4, 5, 6, 7, 8, 9, 10, 11, 12, 13, 14, 15, 16, 17, 18, 19, 20, 21, 22, 23, 24, 25, 26, 27, 28, 29, 30, 31] [32, 33, 34, 35, 36, 37, 38, 39, 40, 41] sb_807262e62d sb_f493248143 (by decide +kernel) (by decide +kernel) hk1 ht hFc hB
  have hP : va_P G.1 vwCl (OW G ho pn pa pf ae x5 ++ LW gL jw o6 ++ RW G pn adn r7 ++ RW G pa ada ra8 ++ FW G pf adf f9 ++ MW G hm adm u) H1 := hP.sub [10, 11, 12, 13, 14, 15, 16, 17, 18, 19, 20, 21, 22, 23, 24, 25, 26, 27, 28, 29, 30, 31, 32, 33, 34, 35, 36, 37, 38, 39, 40, 41, 0, 1, 2, 3, 4, 5, 6, 7, 8, 9] sb_5e9f4be562
  have hD : va_D A (OW G ho pn pa pf ae x5 ++ LW gL jw o6 ++ RW G pn adn r7 ++ RW G pa ada ra8 ++ FW G pf adf f9 ++ MW G hm adm u) := hD.sub [10, 11, 12, 13, 14, 15, 16, 17, 18, 19, 20, 21, 22, 23, 24, 25, 26, 27, 28, 29, 30, 31, 32, 33, 34, 35, 36, 37, 38, 39, 40, 41, 0, 1, 2, 3, 4, 5, 6, 7, 8, 9] (by decide +kernel) sb_6a4c93fcc4
  clear hB hk1 hFc ht hz1 hvm
  generalize H1 = H at hP hS ⊢
  obtain ⟨z10, rfl, w11⟩ := hw
  have hz9 := w11.1
  obtain ⟨vq, hq9⟩ := mf_exI w11.2.2.1
  have hn9 := w11.2.2.2
  have ok9 := w11.2.1
  obtain ⟨qn, hqn⟩ := mf_exV (fun k => (hq9 k).2.1)
  obtain ⟨bn, hbn⟩ := mf_exI hqn
  skip
  refine lv_istore (lv' := [(5, .int (iI (z10))), (4, .int (iI (iv))), (0, .ref b), (1, .ref ho), (2, .ref hm), (3, .ref jw)]) hx hb dL_law_993 hl (by decide) rfl (fun ls hl => ?_)
  refine lv_aload_n hx hb dL_law_995 rfl (lv_at hl 4 rfl) ?_
  refine lv_aload_n hx hb dL_law_996 rfl (lv_at hl 2 rfl) ?_
  refine lv_iload hx hb dL_law_997 (lv_at hl 1 rfl) ?_
  refine mf_iconst hx hb dL_law_999 ?_
  refine mf_iadd hx hb dL_law_1000 ?_
  refine mf_sld hx hb hXs hbl hbA hS (z := iv + 1) (by omega) (by omega) (by omega) dL_law_1001 ?_
  refine mf_top (sI xs (iv + 1)) (y1) ey1.symm ?_
  refine lv_aload_n hx hb dL_law_1002 rfl (lv_at hl 2 rfl) ?_
  refine lv_iload hx hb dL_law_1003 (lv_at hl 1 rfl) ?_
  refine mf_iconst hx hb dL_law_1005 ?_
  refine mf_iadd hx hb dL_law_1006 ?_
  refine mf_sld hx hb hXs hbl hbA hS (z := iv + 2) (by omega) (by omega) (by omega) dL_law_1007 ?_
  refine mf_top (sI xs (iv + 2)) (y2) ey2.symm ?_
  have hFc := va_free (wc := MW G hm adm u) hD hS hA [32, 33, 34, 35, 36, 37, 38, 39, 40, 41] sb_f493248143
  refine va_calli (va_runV (As := [.int (iI (y1)), .int (iI (y2))]) (rest := []) ⟨hx, hb, hml, hown, hts⟩ (c_X3_foresee l G gK hm adm u (y1) (y2) ((rC r)) (qn) (bn) (Y) (i32_mk (by omega) (by omega)) (i32_mk (by omega) (by omega)) (by assumption) (by exact rC_ok ok) (by exact rC_I hRI) (by exact relU_rC hrel) (by exact rC_b hB) (by omega) (by exact fun k => ⟨(hbn k).1, (hbn k).2.1, (hbn k).2.2.1⟩) _) (cwV 2 hts gL_law_X3_foresee rfl rfl rfl (by decide +kernel) ⟨Nat.le_of_ble_eq_true rfl, Nat.le_of_ble_eq_true rfl⟩) (wrVk (wc := MW G hm adm u) hX hK hP hD hN [32, 33, 34, 35, 36, 37, 38, 39, 40, 41] (by decide +kernel) sb_0e13f593d9 sb_f493248143 (ci := 3) rfl rfl) rfl rfl hl.1 rfl (lv_room (Nat.le_of_ble_eq_true rfl)) dL_law_1008 ⟨(by rw [hcR]; omega), (by rw [hsR]; omega)⟩) hS (fun q _ h => hFc q h) hFc (fun q12 u13 t H1 locs ht hvm hw hB hz1 hk1 hS => ?_)
  obtain ⟨u14, rfl⟩ : ∃ z, z = u13 := ⟨_, rfl⟩
  try dsimp only at hw hB
  obtain ⟨hP, hD⟩ := wrJ2 (ws := OW G ho pn pa pf ae x5 ++ LW gL jw o6 ++ RW G pn adn r7 ++ RW G pa ada ra8 ++ FW G pf adf f9 ++ MW G hm adm u) (wc := MW G hm adm u) (wr := OW G ho pn pa pf ae x5 ++ LW gL jw o6 ++ RW G pn adn r7 ++ RW G pa ada ra8 ++ FW G pf adf f9) (w1 := MW G hm adm u14) hP hD [32, 33, 34, 35, 36, 37, 38, 39, 40, 41] [0, 1, 2, 3, 4, 5, 6, 7, 8, 9, 10, 11, 12, 13, 14, 15, 16, 17, 18, 19, 20, 21, 22, 23, 24, 25, 26, 27, 28, 29, 30, 31] sb_f493248143 sb_807262e62d (by decide +kernel) (by decide +kernel) hk1 ht hFc hB
  have hP : va_P G.1 vwCl (OW G ho pn pa pf ae x5 ++ LW gL jw o6 ++ RW G pn adn r7 ++ RW G pa ada ra8 ++ FW G pf adf f9 ++ MW G hm adm u14) H1 := hP.sub [0, 1, 2, 3, 4, 5, 6, 7, 8, 9, 10, 11, 12, 13, 14, 15, 16, 17, 18, 19, 20, 21, 22, 23, 24, 25, 26, 27, 28, 29, 30, 31, 32, 33, 34, 35, 36, 37, 38, 39, 40, 41] sb_9f762f0c91
  have hD : va_D A (OW G ho pn pa pf ae x5 ++ LW gL jw o6 ++ RW G pn adn r7 ++ RW G pa ada ra8 ++ FW G pf adf f9 ++ MW G hm adm u14) := hD.sub [0, 1, 2, 3, 4, 5, 6, 7, 8, 9, 10, 11, 12, 13, 14, 15, 16, 17, 18, 19, 20, 21, 22, 23, 24, 25, 26, 27, 28, 29, 30, 31, 32, 33, 34, 35, 36, 37, 38, 39, 40, 41] (by decide +kernel) sb_ced734b625
  have hP : va_P G.1 vwCl (OW G ho pn pa pf ae x5 ++ LW gL jw o6 ++ RW G pn adn r7 ++ RW G pa ada ra8 ++ FW G pf adf f9 ++ MW G hm adm u14) H1 := hP
  have hD : va_D A (OW G ho pn pa pf ae x5 ++ LW gL jw o6 ++ RW G pn adn r7 ++ RW G pa ada ra8 ++ FW G pf adf f9 ++ MW G hm adm u14) := hD
  clear hB hk1 hFc ht hz1 hvm
  generalize H1 = H at hP hS ⊢
  obtain ⟨z16, rfl, w15⟩ := hw
  have oku14 : rOK ulo uhi u14 := w15.1
  have hu9 : (-1 : Int) ≤ u14 0 0 ∧ u14 0 0 ≤ 9 := oku14 0 0
  have hkz := w15.2.2.1
  have hLI : LI (Y + 101) x5 r7 ra8 f9 u14 := by
    by_cases hk : kFore y1 y2 = 0
    · exact LI_same hI0 ok9 (hq9 hk).2.2.1 (hq9 hk).2.2.2 w15.1 (relU_Cr (w15.2.2.2.1 hk).1) (relF_cg w15.2.1 hrf)
    · exact LI_same hI0 ok9 (hn9 hk).2.1 (hn9 hk).2.2.2 w15.1 (relU_Cr (w15.2.2.2.2 hk)) (relF_cg w15.2.1 hrf)
  skip
  refine lv_istore (lv' := [(6, .int (iI (z16))), (5, .int (iI (z10))), (4, .int (iI (iv))), (0, .ref b), (1, .ref ho), (2, .ref hm), (3, .ref jw)]) hx hb dL_law_1011 hl (by decide) rfl (fun ls hl => ?_)
  refine lv_aload_n hx hb dL_law_1013 rfl (lv_at hl 5 rfl) ?_
  refine vp_callSi (va_Run.run (va_runV (As := []) (rest := []) ⟨hx, hb, hml, hown, hts⟩ (c_X3_thrown l G hm adm u14 (by assumption)) (cwV 0 hts gL_law_X3_thrown rfl rfl rfl (by decide +kernel) ⟨Nat.le_of_ble_eq_true rfl, Nat.le_of_ble_eq_true rfl⟩) (rdV (wc := MW G hm adm u14) hK hP hN [32, 33, 34, 35, 36, 37, 38, 39, 40, 41] sb_0e13f593d9 (ci := 3) rfl rfl) rfl rfl hl.1 rfl (lv_room (Nat.le_of_ble_eq_true rfl)) dL_law_1014 ⟨(by rw [hcR]; omega), (by rw [hsR]; omega)⟩)) (fun q17 hq17 => ?_)
  subst hq17
  refine lv_iload hx hb dL_law_1017 (lv_at hl 1 rfl) ?_
  refine mf_icmp_eq (tgt := 1024) hx hb dL_law_1019 (by decide) (i32_mk (by omega) (by omega)) (i32_mk (by omega) (by omega)) (fun c18 => ?_) (fun c18 => ?_)
  · skip
    refine lv_iload hx hb dL_law_1024 (lv_at hl 1 rfl) ?_
    refine mf_if_ne (tgt := 1041) hx hb dL_law_1026 (by decide) (i32_mk (by omega) (by omega)) (fun c19 => ?_) (fun c19 => ?_)
    · skip
      refine lv_goto (tgt := 1223) hx hb dL_law_1041 (by decide) ?_
      refine W.widen (k := cells + 6) (n := slots + 933) (by omega) (by omega) ?_
      exact kk x5 o6 r7 ra8 f9 u14 H locs ls hLI hP hD hS (lv_sub hl [2, 3, 4, 5, 6] rfl)
    · skip
      have hk0 : kFore y1 y2 = 0 := by omega
      refine lv_aload_n hx hb dL_law_1029 rfl (lv_at hl 6 rfl) ?_
      refine mf_iconst hx hb dL_law_1030 ?_
      refine va_lald hx hb hK2 hP 2 2 rfl rfl (i := iI 0) (iI_in (z := 0) (by decide) (by decide) (by decide)) dL_law_1031 ?_
      refine lv_iload hx hb dL_law_1032 (lv_at hl 0 rfl) ?_
      refine mf_i2lw hx hb dL_law_1034 ?_
      refine mf_lcmp_eq hx hb (by exact (congrArg o6 (by decide : (iI 0).toNatClampNeg = 0)).trans ((hq9 hk0).1.trans (congrArg (fun t => lI (wrI t)) (by exact (hbn hk0).2.2.2.trans ((w15.2.2.2.1 hk0).2.trans (vFore_rC _ _ _ _)).symm)))) dL_law_1035 ?_
      refine mf_if_eq (tgt := 1041) hx hb dL_law_1036 (by decide) (i32_mk (by decide) (by decide)) (fun c20 => ?_) (fun c20 => ?_)
      · skip
        refine lv_goto (tgt := 1223) hx hb dL_law_1041 (by decide) ?_
        refine W.widen (k := cells + 6) (n := slots + 933) (by omega) (by omega) ?_
        exact kk x5 o6 r7 ra8 f9 u14 H locs ls hLI hP hD hS (lv_sub hl [2, 3, 4, 5, 6] rfl)
      · skip
        exact absurd c20 (by omega)
  · skip
    exfalso; omega
set_option maxHeartbeats 4000000 in
set_option maxRecDepth 100000 in
theorem lc_loses {p : Program} {l : Launch} {e : Env} {s : State} {m : MethodId} {below : List Frame} {meth : Method} {c : Code} {Q : State → Prop} {b L : Nat} {xs : Nat → Int32} {G : mf_G} {gL gK : ClassId} {A : Nat → Prop} (E : LE p l s m meth c b L xs G gL gK A) {ho pn pa pf ae jw hm : Nat} {adn ada adf adm : Nat → Nat} {x r ra f u : mf_V} {o : Nat → Int64} {Y iv : Int} {cells slots : Nat} {H : Heap} {locs : List Loc} {ls : Array Slot} (hI0 : LI Y x r ra f u) (hY : 0 ≤ Y ∧ Y + 100 ≤ 60000) (hiv : 0 ≤ iv ∧ iv + 5 ≤ L ∧ L ≤ 2560) (hcl : cells + 6 ≤ 601024 ∧ slots + 933 ≤ 7293033) (hP : va_P G.1 vwCl (OW G ho pn pa pf ae x ++ LW gL jw o ++ RW G pn adn r ++ RW G pa ada ra ++ FW G pf adf f ++ MW G hm adm u) H) (hD : va_D A (OW G ho pn pa pf ae x ++ LW gL jw o ++ RW G pn adn r ++ RW G pa ada ra ++ FW G pf adf f ++ MW G hm adm u)) (hS : va_S A s.heap H locs) (hl : lv_has ls 9 [(4, .int (iI (iv))), (0, .ref b), (1, .ref ho), (2, .ref hm), (3, .ref jw)])
    (kk : ∀ (x' : mf_V) (o' : Nat → Int64) (r' ra' f' u' : mf_V) (H : Heap) (locs : List Loc) (ls : Array Slot), LI (Y + 101) x' r' ra' f' u' → va_P G.1 vwCl (OW G ho pn pa pf ae x' ++ LW gL jw o' ++ RW G pn adn r' ++ RW G pa ada ra' ++ FW G pf adf f' ++ MW G hm adm u') H → va_D A (OW G ho pn pa pf ae x' ++ LW gL jw o' ++ RW G pn adn r' ++ RW G pa ada ra' ++ FW G pf adf f' ++ MW G hm adm u') → va_S A s.heap H locs → lv_has ls 9 [(4, .int (iI (iv))), (0, .ref b), (1, .ref ho), (2, .ref hm), (3, .ref jw)] → W p l e room_1 s m #[Value.ref b] below meth c H locs (cells + 6) (slots + 933) Q (F0 m 1223 ls [])) :
    W p l e room_1 s m #[Value.ref b] below meth c H locs cells slots Q (F0 m 1044 ls []) := by
  obtain ⟨hx, hb, hr, hml, hown, hts, hXs, hbl, hl9, hK2, hN, hX, hSX, hCX, hZ, hNX, hA, hbA⟩ := E
  have hK := hK2.sub (tys' := mf_ty G) [0, 1] rfl
  obtain ⟨⟨okx, ok, okra, okf⟩, hRI, hB, hFI, oku, hrel, hrf⟩ := id hI0
  have hcR : room_1.cells = 601024 := rfl
  have hsR : room_1.slots = 7293033 := rfl
  have okLr : (0 : Int) ≤ r 7 0 ∧ r 7 0 ≤ 150 := ok 7 0
  have hlen : 2 ≤ r 7 0 := hRI.1.1
  have b46 : (0 : Int) ≤ f 4 0 ∧ f 4 0 ≤ 6 := okf 4 0
  refine lv_aload_n hx hb dL_law_1044 rfl (lv_at hl 2 rfl) ?_
  refine lv_aload_n hx hb dL_law_1045 rfl (lv_at hl 1 rfl) ?_
  refine lv_iload hx hb dL_law_1046 (lv_at hl 0 rfl) ?_
  refine mf_iconst hx hb dL_law_1048 ?_
  refine mf_iadd hx hb dL_law_1049 ?_
  refine mf_sld hx hb hXs hbl hbA hS (z := iv + 1) (by omega) (by omega) (by omega) dL_law_1050 ?_
  refine mf_nm (fun y1 ey1 => ?_)
  have by1 := sI_b xs (iv + 1)
  rw [← ey1] at by1
  refine lv_aload_n hx hb dL_law_1051 rfl (lv_at hl 4 rfl) ?_
  have hFc := va_free (wc := OW G ho pn pa pf ae x ++ LW gL jw o ++ RW G pn adn r ++ RW G pa ada ra ++ FW G pf adf f) hD hS hA [0, 1, 2, 3, 4, 5, 6, 7, 8, 9, 10, 11, 12, 13, 14, 15, 16, 17, 18, 19, 20, 21, 22, 23, 24, 25, 26, 27, 28, 29, 30, 31] sb_807262e62d
  refine vx_calli (vx_runSX (As := [.ref ho, .int (iI (y1)), .ref jw]) (rest := []) ⟨hx, hb, hml, hown, hts⟩ (c_L_loses l hl9 G gL ho pn pa pf ae x jw o adn r ada ra adf f (y1) (Y) (i32_mk (by omega) (by omega)) (by assumption) (by assumption) (by assumption) (by assumption) (by exact hRI) (by exact hB) (by first | assumption | omega) _) (vx_cwSW 3 hts gL_law_L_loses rfl rfl rfl (by decide +kernel) ⟨Nat.le_of_ble_eq_true rfl, Nat.le_of_ble_eq_true rfl⟩) (wrSy (wc := OW G ho pn pa pf ae x ++ LW gL jw o ++ RW G pn adn r ++ RW G pa ada ra ++ FW G pf adf f) hSX hCX hZ hS hFc hNX hK2 hP hD hN [0, 1, 2, 3, 4, 5, 6, 7, 8, 9, 10, 11, 12, 13, 14, 15, 16, 17, 18, 19, 20, 21, 22, 23, 24, 25, 26, 27, 28, 29, 30, 31] (by decide +kernel) sb_a548d2217e sb_807262e62d) rfl rfl hl.1 rfl (lv_room (Nat.le_of_ble_eq_true rfl)) dL_law_1052 ⟨(by rw [hcR]; omega), (by rw [hsR]; omega)⟩) hS (fun q _ h => hFc q h) hFc (fun q _ h => hFc q h) (fun E ce q9 _ t H1 locs ht hvm hpx _ _ _ _ _ _ _ => False.elim hpx) (fun q2 u3 t H1 locs ht hvm hw hB hz1 hk1 hS => ?_)
  obtain ⟨x4, o5, r6, ra7, f8⟩ := u3
  try dsimp only at hw hB
  obtain ⟨hP, hD⟩ := wrJ2 (ws := OW G ho pn pa pf ae x ++ LW gL jw o ++ RW G pn adn r ++ RW G pa ada ra ++ FW G pf adf f ++ MW G hm adm u) (wc := OW G ho pn pa pf ae x ++ LW gL jw o ++ RW G pn adn r ++ RW G pa ada ra ++ FW G pf adf f) (wr := MW G hm adm u) (w1 := OW G ho pn pa pf ae x4 ++ LW gL jw o5 ++ RW G pn adn r6 ++ RW G pa ada ra7 ++ FW G pf adf f8) hP hD [0, 1, 2, 3, 4, 5, 6, 7, 8, 9, 10, 11, 12, 13, 14, 15, 16, 17, 18, 19, 20, 21, 22, 23, 24, 25, 26, 27, 28, 29, 30, 31] [32, 33, 34, 35, 36, 37, 38, 39, 40, 41] sb_807262e62d sb_f493248143 (by decide +kernel) (by decide +kernel) hk1 ht hFc hB
  have hP : va_P G.1 vwCl (OW G ho pn pa pf ae x4 ++ LW gL jw o5 ++ RW G pn adn r6 ++ RW G pa ada ra7 ++ FW G pf adf f8 ++ MW G hm adm u) H1 := hP.sub [10, 11, 12, 13, 14, 15, 16, 17, 18, 19, 20, 21, 22, 23, 24, 25, 26, 27, 28, 29, 30, 31, 32, 33, 34, 35, 36, 37, 38, 39, 40, 41, 0, 1, 2, 3, 4, 5, 6, 7, 8, 9] sb_5e9f4be562
  have hD : va_D A (OW G ho pn pa pf ae x4 ++ LW gL jw o5 ++ RW G pn adn r6 ++ RW G pa ada ra7 ++ FW G pf adf f8 ++ MW G hm adm u) := hD.sub [10, 11, 12, 13, 14, 15, 16, 17, 18, 19, 20, 21, 22, 23, 24, 25, 26, 27, 28, 29, 30, 31, 32, 33, 34, 35, 36, 37, 38, 39, 40, 41, 0, 1, 2, 3, 4, 5, 6, 7, 8, 9] (by decide +kernel) sb_6a4c93fcc4
  clear hB hk1 hFc ht hz1 hvm
  generalize H1 = H at hP hS ⊢
  obtain ⟨z9, rfl, w10⟩ := hw
  have hz9 := w10.1
  obtain ⟨vq, hq9⟩ := mf_exI w10.2.2.1
  have hn9 := w10.2.2.2
  have ok9 := w10.2.1
  obtain ⟨ch, hch⟩ := mf_exC (fun k => (hq9 k).2.1)
  obtain ⟨nv, hnv⟩ := mf_exI hch
  skip
  refine lv_istore (lv' := [(5, .int (iI (z9))), (4, .int (iI (iv))), (0, .ref b), (1, .ref ho), (2, .ref hm), (3, .ref jw)]) hx hb dL_law_1055 hl (by decide) rfl (fun ls hl => ?_)
  refine lv_aload_n hx hb dL_law_1057 rfl (lv_at hl 4 rfl) ?_
  refine lv_aload_n hx hb dL_law_1058 rfl (lv_at hl 2 rfl) ?_
  refine lv_iload hx hb dL_law_1059 (lv_at hl 1 rfl) ?_
  refine mf_iconst hx hb dL_law_1061 ?_
  refine mf_iadd hx hb dL_law_1062 ?_
  refine mf_sld hx hb hXs hbl hbA hS (z := iv + 1) (by omega) (by omega) (by omega) dL_law_1063 ?_
  refine mf_top (sI xs (iv + 1)) (y1) ey1.symm ?_
  have hFc := va_free (wc := MW G hm adm u) hD hS hA [32, 33, 34, 35, 36, 37, 38, 39, 40, 41] sb_f493248143
  refine va_calli (va_runV (As := [.int (iI (y1))]) (rest := []) ⟨hx, hb, hml, hown, hts⟩ (c_X3_loses l G gK hm adm u (y1) ((rC r)) (f) (ch) (nv) (Y) (i32_mk (by omega) (by omega)) (by assumption) (by exact rC_ok ok) (by exact rC_I hRI) (by exact relU_rC hrel) (by assumption) (by exact hrf) (by exact hFI) (by exact rC_b hB) (by omega) (by exact fun k => (hnv k).1) _) (cwV 1 hts gL_law_X3_loses rfl rfl rfl (by decide +kernel) ⟨Nat.le_of_ble_eq_true rfl, Nat.le_of_ble_eq_true rfl⟩) (wrVk (wc := MW G hm adm u) hX hK hP hD hN [32, 33, 34, 35, 36, 37, 38, 39, 40, 41] (by decide +kernel) sb_0e13f593d9 sb_f493248143 (ci := 3) rfl rfl) rfl rfl hl.1 rfl (lv_room (Nat.le_of_ble_eq_true rfl)) dL_law_1064 ⟨(by rw [hcR]; omega), (by rw [hsR]; omega)⟩) hS (fun q _ h => hFc q h) hFc (fun q11 u12 t H1 locs ht hvm hw hB hz1 hk1 hS => ?_)
  obtain ⟨u13, rfl⟩ : ∃ z, z = u12 := ⟨_, rfl⟩
  try dsimp only at hw hB
  obtain ⟨hP, hD⟩ := wrJ2 (ws := OW G ho pn pa pf ae x4 ++ LW gL jw o5 ++ RW G pn adn r6 ++ RW G pa ada ra7 ++ FW G pf adf f8 ++ MW G hm adm u) (wc := MW G hm adm u) (wr := OW G ho pn pa pf ae x4 ++ LW gL jw o5 ++ RW G pn adn r6 ++ RW G pa ada ra7 ++ FW G pf adf f8) (w1 := MW G hm adm u13) hP hD [32, 33, 34, 35, 36, 37, 38, 39, 40, 41] [0, 1, 2, 3, 4, 5, 6, 7, 8, 9, 10, 11, 12, 13, 14, 15, 16, 17, 18, 19, 20, 21, 22, 23, 24, 25, 26, 27, 28, 29, 30, 31] sb_f493248143 sb_807262e62d (by decide +kernel) (by decide +kernel) hk1 ht hFc hB
  have hP : va_P G.1 vwCl (OW G ho pn pa pf ae x4 ++ LW gL jw o5 ++ RW G pn adn r6 ++ RW G pa ada ra7 ++ FW G pf adf f8 ++ MW G hm adm u13) H1 := hP.sub [0, 1, 2, 3, 4, 5, 6, 7, 8, 9, 10, 11, 12, 13, 14, 15, 16, 17, 18, 19, 20, 21, 22, 23, 24, 25, 26, 27, 28, 29, 30, 31, 32, 33, 34, 35, 36, 37, 38, 39, 40, 41] sb_9f762f0c91
  have hD : va_D A (OW G ho pn pa pf ae x4 ++ LW gL jw o5 ++ RW G pn adn r6 ++ RW G pa ada ra7 ++ FW G pf adf f8 ++ MW G hm adm u13) := hD.sub [0, 1, 2, 3, 4, 5, 6, 7, 8, 9, 10, 11, 12, 13, 14, 15, 16, 17, 18, 19, 20, 21, 22, 23, 24, 25, 26, 27, 28, 29, 30, 31, 32, 33, 34, 35, 36, 37, 38, 39, 40, 41] (by decide +kernel) sb_ced734b625
  have hP : va_P G.1 vwCl (OW G ho pn pa pf ae x4 ++ LW gL jw o5 ++ RW G pn adn r6 ++ RW G pa ada ra7 ++ FW G pf adf f8 ++ MW G hm adm u13) H1 := hP
  have hD : va_D A (OW G ho pn pa pf ae x4 ++ LW gL jw o5 ++ RW G pn adn r6 ++ RW G pa ada ra7 ++ FW G pf adf f8 ++ MW G hm adm u13) := hD
  clear hB hk1 hFc ht hz1 hvm
  generalize H1 = H at hP hS ⊢
  obtain ⟨z15, rfl, w14⟩ := hw
  have oku13 : rOK ulo uhi u13 := w14.1
  have hu9 : (-1 : Int) ≤ u13 0 0 ∧ u13 0 0 ≤ 9 := oku13 0 0
  have hkz := w14.2.2.1
  have hLI : LI (Y + 101) x4 r6 ra7 f8 u13 := by
    by_cases hk : kLose f y1 = 0
    · exact LI_same hI0 ok9 (hq9 hk).2.2.1 (hq9 hk).2.2.2 w14.1 (relU_Cr (w14.2.2.2.1 hk).1) (relF_cg w14.2.1 hrf)
    · exact LI_same hI0 ok9 (hn9 hk).2.1 (hn9 hk).2.2.2 w14.1 (relU_Cr (w14.2.2.2.2 hk)) (relF_cg w14.2.1 hrf)
  skip
  refine lv_istore (lv' := [(6, .int (iI (z15))), (5, .int (iI (z9))), (4, .int (iI (iv))), (0, .ref b), (1, .ref ho), (2, .ref hm), (3, .ref jw)]) hx hb dL_law_1067 hl (by decide) rfl (fun ls hl => ?_)
  refine lv_aload_n hx hb dL_law_1069 rfl (lv_at hl 5 rfl) ?_
  refine vp_callSi (va_Run.run (va_runV (As := []) (rest := []) ⟨hx, hb, hml, hown, hts⟩ (c_X3_thrown l G hm adm u13 (by assumption)) (cwV 0 hts gL_law_X3_thrown rfl rfl rfl (by decide +kernel) ⟨Nat.le_of_ble_eq_true rfl, Nat.le_of_ble_eq_true rfl⟩) (rdV (wc := MW G hm adm u13) hK hP hN [32, 33, 34, 35, 36, 37, 38, 39, 40, 41] sb_0e13f593d9 (ci := 3) rfl rfl) rfl rfl hl.1 rfl (lv_room (Nat.le_of_ble_eq_true rfl)) dL_law_1070 ⟨(by rw [hcR]; omega), (by rw [hsR]; omega)⟩)) (fun q16 hq16 => ?_)
  subst hq16
  refine lv_iload hx hb dL_law_1073 (lv_at hl 1 rfl) ?_
  refine mf_icmp_eq (tgt := 1080) hx hb dL_law_1075 (by decide) (i32_mk (by omega) (by omega)) (i32_mk (by omega) (by omega)) (fun c17 => ?_) (fun c17 => ?_)
  · skip
    refine lv_iload hx hb dL_law_1080 (lv_at hl 1 rfl) ?_
    refine mf_if_ne (tgt := 1097) hx hb dL_law_1082 (by decide) (i32_mk (by omega) (by omega)) (fun c18 => ?_) (fun c18 => ?_)
    · skip
      refine lv_goto (tgt := 1223) hx hb dL_law_1097 (by decide) ?_
      refine W.widen (k := cells + 6) (n := slots + 933) (by omega) (by omega) ?_
      exact kk x4 o5 r6 ra7 f8 u13 H locs ls hLI hP hD hS (lv_sub hl [2, 3, 4, 5, 6] rfl)
    · skip
      have hk0 : kLose f y1 = 0 := by omega
      refine lv_aload_n hx hb dL_law_1085 rfl (lv_at hl 6 rfl) ?_
      refine mf_iconst hx hb dL_law_1086 ?_
      refine va_lald hx hb hK2 hP 2 2 rfl rfl (i := iI 0) (iI_in (z := 0) (by decide) (by decide) (by decide)) dL_law_1087 ?_
      refine lv_iload hx hb dL_law_1088 (lv_at hl 0 rfl) ?_
      refine mf_i2lw hx hb dL_law_1090 ?_
      refine mf_lcmp_eq hx hb (by exact (congrArg o5 (by decide : (iI 0).toNatClampNeg = 0)).trans ((hq9 hk0).1.trans (congrArg (fun t => lI (wrI t)) (by exact (hnv hk0).2.trans (w14.2.2.2.1 hk0).2.symm)))) dL_law_1091 ?_
      refine mf_if_eq (tgt := 1097) hx hb dL_law_1092 (by decide) (i32_mk (by decide) (by decide)) (fun c19 => ?_) (fun c19 => ?_)
      · skip
        refine lv_goto (tgt := 1223) hx hb dL_law_1097 (by decide) ?_
        refine W.widen (k := cells + 6) (n := slots + 933) (by omega) (by omega) ?_
        exact kk x4 o5 r6 ra7 f8 u13 H locs ls hLI hP hD hS (lv_sub hl [2, 3, 4, 5, 6] rfl)
      · skip
        exact absurd c19 (by omega)
  · skip
    exfalso; omega
set_option maxHeartbeats 4000000 in
set_option maxRecDepth 100000 in
theorem lc_advise {p : Program} {l : Launch} {e : Env} {s : State} {m : MethodId} {below : List Frame} {meth : Method} {c : Code} {Q : State → Prop} {b L : Nat} {xs : Nat → Int32} {G : mf_G} {gL gK : ClassId} {A : Nat → Prop} (E : LE p l s m meth c b L xs G gL gK A) {ho pn pa pf ae jw hm : Nat} {adn ada adf adm : Nat → Nat} {x r ra f u : mf_V} {o : Nat → Int64} {Y iv : Int} {cells slots : Nat} {H : Heap} {locs : List Loc} {ls : Array Slot} (hI0 : LI Y x r ra f u) (hY : 0 ≤ Y ∧ Y + 100 ≤ 60000) (hiv : 0 ≤ iv ∧ iv + 5 ≤ L ∧ L ≤ 2560) (hcl : cells + 6 ≤ 601024 ∧ slots + 933 ≤ 7293033) (hP : va_P G.1 vwCl (OW G ho pn pa pf ae x ++ LW gL jw o ++ RW G pn adn r ++ RW G pa ada ra ++ FW G pf adf f ++ MW G hm adm u) H) (hD : va_D A (OW G ho pn pa pf ae x ++ LW gL jw o ++ RW G pn adn r ++ RW G pa ada ra ++ FW G pf adf f ++ MW G hm adm u)) (hS : va_S A s.heap H locs) (hl : lv_has ls 9 [(4, .int (iI (iv))), (0, .ref b), (1, .ref ho), (2, .ref hm), (3, .ref jw)])
    (kk : ∀ (x' : mf_V) (o' : Nat → Int64) (r' ra' f' u' : mf_V) (H : Heap) (locs : List Loc) (ls : Array Slot), LI (Y + 101) x' r' ra' f' u' → va_P G.1 vwCl (OW G ho pn pa pf ae x' ++ LW gL jw o' ++ RW G pn adn r' ++ RW G pa ada ra' ++ FW G pf adf f' ++ MW G hm adm u') H → va_D A (OW G ho pn pa pf ae x' ++ LW gL jw o' ++ RW G pn adn r' ++ RW G pa ada ra' ++ FW G pf adf f' ++ MW G hm adm u') → va_S A s.heap H locs → lv_has ls 9 [(4, .int (iI (iv))), (0, .ref b), (1, .ref ho), (2, .ref hm), (3, .ref jw)] → W p l e room_1 s m #[Value.ref b] below meth c H locs (cells + 6) (slots + 933) Q (F0 m 1223 ls [])) :
    W p l e room_1 s m #[Value.ref b] below meth c H locs cells slots Q (F0 m 1100 ls []) := by
  obtain ⟨hx, hb, hr, hml, hown, hts, hXs, hbl, hl9, hK2, hN, hX, hSX, hCX, hZ, hNX, hA, hbA⟩ := E
  have hK := hK2.sub (tys' := mf_ty G) [0, 1] rfl
  obtain ⟨⟨okx, ok, okra, okf⟩, hRI, hB, hFI, oku, hrel, hrf⟩ := id hI0
  have hcR : room_1.cells = 601024 := rfl
  have hsR : room_1.slots = 7293033 := rfl
  have okLr : (0 : Int) ≤ r 7 0 ∧ r 7 0 ≤ 150 := ok 7 0
  have hlen : 2 ≤ r 7 0 := hRI.1.1
  have b46 : (0 : Int) ≤ f 4 0 ∧ f 4 0 ≤ 6 := okf 4 0
  refine lv_aload_n hx hb dL_law_1100 rfl (lv_at hl 2 rfl) ?_
  refine lv_aload_n hx hb dL_law_1101 rfl (lv_at hl 1 rfl) ?_
  refine lv_iload hx hb dL_law_1102 (lv_at hl 0 rfl) ?_
  refine mf_iconst hx hb dL_law_1104 ?_
  refine mf_iadd hx hb dL_law_1105 ?_
  refine mf_sld hx hb hXs hbl hbA hS (z := iv + 1) (by omega) (by omega) (by omega) dL_law_1106 ?_
  refine mf_nm (fun y1 ey1 => ?_)
  have by1 := sI_b xs (iv + 1)
  rw [← ey1] at by1
  refine lv_aload_n hx hb dL_law_1107 rfl (lv_at hl 1 rfl) ?_
  refine lv_iload hx hb dL_law_1108 (lv_at hl 0 rfl) ?_
  refine mf_iconst hx hb dL_law_1110 ?_
  refine mf_iadd hx hb dL_law_1111 ?_
  refine mf_sld hx hb hXs hbl hbA hS (z := iv + 2) (by omega) (by omega) (by omega) dL_law_1112 ?_
  refine mf_nm (fun y2 ey2 => ?_)
  have by2 := sI_b xs (iv + 2)
  rw [← ey2] at by2
  refine lv_aload_n hx hb dL_law_1113 rfl (lv_at hl 4 rfl) ?_
  have hFc := va_free (wc := OW G ho pn pa pf ae x ++ LW gL jw o ++ RW G pn adn r ++ RW G pa ada ra ++ FW G pf adf f) hD hS hA [0, 1, 2, 3, 4, 5, 6, 7, 8, 9, 10, 11, 12, 13, 14, 15, 16, 17, 18, 19, 20, 21, 22, 23, 24, 25, 26, 27, 28, 29, 30, 31] sb_807262e62d
  refine vx_calli (vx_runSX (As := [.ref ho, .int (iI (y1)), .int (iI (y2)), .ref jw]) (rest := []) ⟨hx, hb, hml, hown, hts⟩ (c_L_advise l hl9 G gL ho pn pa pf ae x jw o adn r ada ra adf f (y1) (y2) (Y) (i32_mk (by omega) (by omega)) (i32_mk (by omega) (by omega)) (by assumption) (by assumption) (by assumption) (by assumption) (by exact hRI) (by exact hB) (by first | assumption | omega) _) (vx_cwSW 4 hts gL_law_L_advise rfl rfl rfl (by decide +kernel) ⟨Nat.le_of_ble_eq_true rfl, Nat.le_of_ble_eq_true rfl⟩) (wrSy (wc := OW G ho pn pa pf ae x ++ LW gL jw o ++ RW G pn adn r ++ RW G pa ada ra ++ FW G pf adf f) hSX hCX hZ hS hFc hNX hK2 hP hD hN [0, 1, 2, 3, 4, 5, 6, 7, 8, 9, 10, 11, 12, 13, 14, 15, 16, 17, 18, 19, 20, 21, 22, 23, 24, 25, 26, 27, 28, 29, 30, 31] (by decide +kernel) sb_a548d2217e sb_807262e62d) rfl rfl hl.1 rfl (lv_room (Nat.le_of_ble_eq_true rfl)) dL_law_1114 ⟨(by rw [hcR]; omega), (by rw [hsR]; omega)⟩) hS (fun q _ h => hFc q h) hFc (fun q _ h => hFc q h) (fun E ce q9 _ t H1 locs ht hvm hpx _ _ _ _ _ _ _ => False.elim hpx) (fun q3 u4 t H1 locs ht hvm hw hB hz1 hk1 hS => ?_)
  obtain ⟨x5, o6, r7, ra8, f9⟩ := u4
  try dsimp only at hw hB
  obtain ⟨hP, hD⟩ := wrJ2 (ws := OW G ho pn pa pf ae x ++ LW gL jw o ++ RW G pn adn r ++ RW G pa ada ra ++ FW G pf adf f ++ MW G hm adm u) (wc := OW G ho pn pa pf ae x ++ LW gL jw o ++ RW G pn adn r ++ RW G pa ada ra ++ FW G pf adf f) (wr := MW G hm adm u) (w1 := OW G ho pn pa pf ae x5 ++ LW gL jw o6 ++ RW G pn adn r7 ++ RW G pa ada ra8 ++ FW G pf adf f9) hP hD [0, 1, 2, 3, 4, 5, 6, 7, 8, 9, 10, 11, 12, 13, 14, 15, 16, 17, 18, 19, 20, 21, 22, 23, 24, 25, 26, 27, 28, 29, 30, 31] [32, 33, 34, 35, 36, 37, 38, 39, 40, 41] sb_807262e62d sb_f493248143 (by decide +kernel) (by decide +kernel) hk1 ht hFc hB
  have hP : va_P G.1 vwCl (OW G ho pn pa pf ae x5 ++ LW gL jw o6 ++ RW G pn adn r7 ++ RW G pa ada ra8 ++ FW G pf adf f9 ++ MW G hm adm u) H1 := hP.sub [10, 11, 12, 13, 14, 15, 16, 17, 18, 19, 20, 21, 22, 23, 24, 25, 26, 27, 28, 29, 30, 31, 32, 33, 34, 35, 36, 37, 38, 39, 40, 41, 0, 1, 2, 3, 4, 5, 6, 7, 8, 9] sb_5e9f4be562
  have hD : va_D A (OW G ho pn pa pf ae x5 ++ LW gL jw o6 ++ RW G pn adn r7 ++ RW G pa ada ra8 ++ FW G pf adf f9 ++ MW G hm adm u) := hD.sub [10, 11, 12, 13, 14, 15, 16, 17, 18, 19, 20, 21, 22, 23, 24, 25, 26, 27, 28, 29, 30, 31, 32, 33, 34, 35, 36, 37, 38, 39, 40, 41, 0, 1, 2, 3, 4, 5, 6, 7, 8, 9] (by decide +kernel) sb_6a4c93fcc4
  clear hB hk1 hFc ht hz1 hvm
  generalize H1 = H at hP hS ⊢
  obtain ⟨z10, rfl, w11⟩ := hw
  have hz9 := w11.1
  obtain ⟨vq, hq9⟩ := mf_exI w11.2.2.1
  have hn9 := w11.2.2.2
  have ok9 := w11.2.1
  obtain ⟨qn, hqn⟩ := mf_exV (fun k => (hq9 k).2.1)
  obtain ⟨bn, hbn⟩ := mf_exI hqn
  obtain ⟨Qf, hQf⟩ := mf_exC hbn
  obtain ⟨bf, hbf⟩ := mf_exF hQf
  skip
  refine lv_istore (lv' := [(5, .int (iI (z10))), (4, .int (iI (iv))), (0, .ref b), (1, .ref ho), (2, .ref hm), (3, .ref jw)]) hx hb dL_law_1117 hl (by decide) rfl (fun ls hl => ?_)
  refine lv_aload_n hx hb dL_law_1119 rfl (lv_at hl 4 rfl) ?_
  refine lv_aload_n hx hb dL_law_1120 rfl (lv_at hl 2 rfl) ?_
  refine lv_iload hx hb dL_law_1121 (lv_at hl 1 rfl) ?_
  refine mf_iconst hx hb dL_law_1123 ?_
  refine mf_iadd hx hb dL_law_1124 ?_
  refine mf_sld hx hb hXs hbl hbA hS (z := iv + 1) (by omega) (by omega) (by omega) dL_law_1125 ?_
  refine mf_top (sI xs (iv + 1)) (y1) ey1.symm ?_
  refine lv_aload_n hx hb dL_law_1126 rfl (lv_at hl 2 rfl) ?_
  refine lv_iload hx hb dL_law_1127 (lv_at hl 1 rfl) ?_
  refine mf_iconst hx hb dL_law_1129 ?_
  refine mf_iadd hx hb dL_law_1130 ?_
  refine mf_sld hx hb hXs hbl hbA hS (z := iv + 2) (by omega) (by omega) (by omega) dL_law_1131 ?_
  refine mf_top (sI xs (iv + 2)) (y2) ey2.symm ?_
  have hFc := va_free (wc := MW G hm adm u) hD hS hA [32, 33, 34, 35, 36, 37, 38, 39, 40, 41] sb_f493248143
  refine va_calli (va_runV (As := [.int (iI (y1)), .int (iI (y2))]) (rest := []) ⟨hx, hb, hml, hown, hts⟩ (c_X3_advise l G gK hm adm u (y1) (y2) ((rC r)) (f) (qn) (bn) (Qf) (bf) (Y) (i32_mk (by omega) (by omega)) (i32_mk (by omega) (by omega)) (by assumption) (by exact rC_ok ok) (by exact rC_I hRI) (by exact relU_rC hrel) (by assumption) (by exact hrf) (by exact hFI) (by exact rC_b hB) (by omega) (by exact fun k => ⟨(hbf k).1, (hbf k).2.1⟩) _) (cwV 2 hts gL_law_X3_advise rfl rfl rfl (by decide +kernel) ⟨Nat.le_of_ble_eq_true rfl, Nat.le_of_ble_eq_true rfl⟩) (wrVk (wc := MW G hm adm u) hX hK hP hD hN [32, 33, 34, 35, 36, 37, 38, 39, 40, 41] (by decide +kernel) sb_0e13f593d9 sb_f493248143 (ci := 3) rfl rfl) rfl rfl hl.1 rfl (lv_room (Nat.le_of_ble_eq_true rfl)) dL_law_1132 ⟨(by rw [hcR]; omega), (by rw [hsR]; omega)⟩) hS (fun q _ h => hFc q h) hFc (fun q12 u13 t H1 locs ht hvm hw hB hz1 hk1 hS => ?_)
  obtain ⟨u14, rfl⟩ : ∃ z, z = u13 := ⟨_, rfl⟩
  try dsimp only at hw hB
  obtain ⟨hP, hD⟩ := wrJ2 (ws := OW G ho pn pa pf ae x5 ++ LW gL jw o6 ++ RW G pn adn r7 ++ RW G pa ada ra8 ++ FW G pf adf f9 ++ MW G hm adm u) (wc := MW G hm adm u) (wr := OW G ho pn pa pf ae x5 ++ LW gL jw o6 ++ RW G pn adn r7 ++ RW G pa ada ra8 ++ FW G pf adf f9) (w1 := MW G hm adm u14) hP hD [32, 33, 34, 35, 36, 37, 38, 39, 40, 41] [0, 1, 2, 3, 4, 5, 6, 7, 8, 9, 10, 11, 12, 13, 14, 15, 16, 17, 18, 19, 20, 21, 22, 23, 24, 25, 26, 27, 28, 29, 30, 31] sb_f493248143 sb_807262e62d (by decide +kernel) (by decide +kernel) hk1 ht hFc hB
  have hP : va_P G.1 vwCl (OW G ho pn pa pf ae x5 ++ LW gL jw o6 ++ RW G pn adn r7 ++ RW G pa ada ra8 ++ FW G pf adf f9 ++ MW G hm adm u14) H1 := hP.sub [0, 1, 2, 3, 4, 5, 6, 7, 8, 9, 10, 11, 12, 13, 14, 15, 16, 17, 18, 19, 20, 21, 22, 23, 24, 25, 26, 27, 28, 29, 30, 31, 32, 33, 34, 35, 36, 37, 38, 39, 40, 41] sb_9f762f0c91
  have hD : va_D A (OW G ho pn pa pf ae x5 ++ LW gL jw o6 ++ RW G pn adn r7 ++ RW G pa ada ra8 ++ FW G pf adf f9 ++ MW G hm adm u14) := hD.sub [0, 1, 2, 3, 4, 5, 6, 7, 8, 9, 10, 11, 12, 13, 14, 15, 16, 17, 18, 19, 20, 21, 22, 23, 24, 25, 26, 27, 28, 29, 30, 31, 32, 33, 34, 35, 36, 37, 38, 39, 40, 41] (by decide +kernel) sb_ced734b625
  have hP : va_P G.1 vwCl (OW G ho pn pa pf ae x5 ++ LW gL jw o6 ++ RW G pn adn r7 ++ RW G pa ada ra8 ++ FW G pf adf f9 ++ MW G hm adm u14) H1 := hP
  have hD : va_D A (OW G ho pn pa pf ae x5 ++ LW gL jw o6 ++ RW G pn adn r7 ++ RW G pa ada ra8 ++ FW G pf adf f9 ++ MW G hm adm u14) := hD
  clear hB hk1 hFc ht hz1 hvm
  generalize H1 = H at hP hS ⊢
  obtain ⟨z16, rfl, w15⟩ := hw
  have oku14 : rOK ulo uhi u14 := w15.1
  have hu9 : (-1 : Int) ≤ u14 0 0 ∧ u14 0 0 ≤ 9 := oku14 0 0
  have hkz := w15.2.2.1
  have hLI : LI (Y + 101) x5 r7 ra8 f9 u14 := by
    by_cases hk : kAdv f y1 y2 = 0
    · exact LI_same hI0 ok9 (hq9 hk).2.2.1 (hq9 hk).2.2.2 w15.1 (relU_Cr (w15.2.2.2.1 hk).1) (relF_cg w15.2.1 hrf)
    · exact LI_same hI0 ok9 (hn9 hk).2.1 (hn9 hk).2.2.2 w15.1 (relU_Cr (w15.2.2.2.2 hk)) (relF_cg w15.2.1 hrf)
  skip
  refine lv_istore (lv' := [(6, .int (iI (z16))), (5, .int (iI (z10))), (4, .int (iI (iv))), (0, .ref b), (1, .ref ho), (2, .ref hm), (3, .ref jw)]) hx hb dL_law_1135 hl (by decide) rfl (fun ls hl => ?_)
  refine lv_aload_n hx hb dL_law_1137 rfl (lv_at hl 5 rfl) ?_
  refine vp_callSi (va_Run.run (va_runV (As := []) (rest := []) ⟨hx, hb, hml, hown, hts⟩ (c_X3_thrown l G hm adm u14 (by assumption)) (cwV 0 hts gL_law_X3_thrown rfl rfl rfl (by decide +kernel) ⟨Nat.le_of_ble_eq_true rfl, Nat.le_of_ble_eq_true rfl⟩) (rdV (wc := MW G hm adm u14) hK hP hN [32, 33, 34, 35, 36, 37, 38, 39, 40, 41] sb_0e13f593d9 (ci := 3) rfl rfl) rfl rfl hl.1 rfl (lv_room (Nat.le_of_ble_eq_true rfl)) dL_law_1138 ⟨(by rw [hcR]; omega), (by rw [hsR]; omega)⟩)) (fun q17 hq17 => ?_)
  subst hq17
  refine lv_iload hx hb dL_law_1141 (lv_at hl 1 rfl) ?_
  refine mf_icmp_eq (tgt := 1148) hx hb dL_law_1143 (by decide) (i32_mk (by omega) (by omega)) (i32_mk (by omega) (by omega)) (fun c18 => ?_) (fun c18 => ?_)
  · skip
    refine lv_iload hx hb dL_law_1148 (lv_at hl 1 rfl) ?_
    refine mf_if_ne (tgt := 1165) hx hb dL_law_1150 (by decide) (i32_mk (by omega) (by omega)) (fun c19 => ?_) (fun c19 => ?_)
    · skip
      refine lv_goto (tgt := 1223) hx hb dL_law_1165 (by decide) ?_
      refine W.widen (k := cells + 6) (n := slots + 933) (by omega) (by omega) ?_
      exact kk x5 o6 r7 ra8 f9 u14 H locs ls hLI hP hD hS (lv_sub hl [2, 3, 4, 5, 6] rfl)
    · skip
      have hk0 : kAdv f y1 y2 = 0 := by omega
      refine lv_aload_n hx hb dL_law_1153 rfl (lv_at hl 6 rfl) ?_
      refine mf_iconst hx hb dL_law_1154 ?_
      refine va_lald hx hb hK2 hP 2 2 rfl rfl (i := iI 0) (iI_in (z := 0) (by decide) (by decide) (by decide)) dL_law_1155 ?_
      refine lv_iload hx hb dL_law_1156 (lv_at hl 0 rfl) ?_
      refine mf_i2lw hx hb dL_law_1158 ?_
      refine mf_lcmp_eq hx hb (by exact (congrArg o6 (by decide : (iI 0).toNatClampNeg = 0)).trans ((hq9 hk0).1.trans (congrArg (fun t => lI (wrI t)) (by exact (hbf hk0).2.2.trans (w15.2.2.2.1 hk0).2.symm)))) dL_law_1159 ?_
      refine mf_if_eq (tgt := 1165) hx hb dL_law_1160 (by decide) (i32_mk (by decide) (by decide)) (fun c20 => ?_) (fun c20 => ?_)
      · skip
        refine lv_goto (tgt := 1223) hx hb dL_law_1165 (by decide) ?_
        refine W.widen (k := cells + 6) (n := slots + 933) (by omega) (by omega) ?_
        exact kk x5 o6 r7 ra8 f9 u14 H locs ls hLI hP hD hS (lv_sub hl [2, 3, 4, 5, 6] rfl)
      · skip
        exact absurd c20 (by omega)
  · skip
    exfalso; omega
theorem sb_f1a1180415 {G : mf_G} {gL : ClassId} {h1 p1 a1 f1 ae1 : Nat} {x1 : mf_V} {h2 : Nat} {x2 : Nat → Int64} {h3 : Nat} {ad3 : Nat → Nat} {x3 : mf_V} {h4 : Nat} {ad4 : Nat → Nat} {x4 : mf_V} {h5 : Nat} {ad5 : Nat → Nat} {x5 : mf_V} {h6 : Nat} {ad6 : Nat → Nat} {x6 : mf_V} : ([0, 1, 3, 4, 5, 6, 7, 8, 9, 10, 11, 12, 13, 14, 15, 16, 17, 18, 19, 20, 21, 22, 23, 24, 25, 26, 27, 28, 29, 30, 31] : List Nat).filterMap (fun i => (OW G h1 p1 a1 f1 ae1 x1 ++ LW gL h2 x2 ++ RW G h3 ad3 x3 ++ RW G h4 ad4 x4 ++ FW G h5 ad5 x5 ++ MW G h6 ad6 x6)[i]?) = OW G h1 p1 a1 f1 ae1 x1 ++ RW G h3 ad3 x3 ++ RW G h4 ad4 x4 ++ FW G h5 ad5 x5 := rfl
