/-! 72.law6: a year of the law, a part of it -/
set_option maxHeartbeats 4000000 in
set_option maxRecDepth 100000 in
theorem sg_6 {p : Program} {l : Launch} {e : Env} {s : State} {m : MethodId} {below : List Frame} {meth : Method} {c : Code} {Q : State → Prop} {b L : Nat} {xs : Nat → Int32} {G : mf_G} {A : Nat → Prop} (E : LEp p l s m meth c b L xs G A) (hL : L ≤ 260) {ho pn pa pf ae hm : Nat} {adn ada adf adm : Nat → Nat} {f : mf_V} (okf : rOK flo fhi f) (hf4 : f 4 0 = 1) (hFI : FInv f) {x : mf_V} {q : mf_V} {ra : mf_V} {u : mf_V} {r : mf_V} {ca : Nat} {nn : Nat} {qw : Nat} {qk : Nat} {qz : Nat} {wv : mf_V} {bv : mf_V} {zv : mf_V} {tv : Int} {bz : Int} {qi : Nat} {iv : mf_V} {cells slots : Nat} {H : Heap} {locs : List Loc} {ls : Array Slot} (hLQ : LQs (9 + 2 * tv) x q ra f nn u) (hyL : YearL r q bz (r 5 (tv % 12))) (hokr : rOK rlo rhi r) (h8 : q 8 0 = tv + 1) (ht : 0 ≤ tv ∧ tv < 24) (hcl : cells + 2 ≤ 600104 ∧ slots + 12 ≤ 7301314) (hP : va_P G.1 vwCl (OW G ho pn pa pf ae x ++ RW G pn adn q ++ RW G pa ada ra ++ FW G pf adf f ++ SW G hm adm ca nn u ++ AW G qw 384 wv ++ AW G qk 384 bv ++ AZ G qz 384 zv ++ AZ G qi 384 iv) H) (hD : va_D A (OW G ho pn pa pf ae x ++ RW G pn adn q ++ RW G pa ada ra ++ FW G pf adf f ++ SW G hm adm ca nn u ++ AW G qw 384 wv ++ AW G qk 384 bv ++ AZ G qz 384 zv ++ AZ G qi 384 iv)) (hS : va_S A s.heap H locs) (hl : lv_has ls 27 [(0, .ref b), (1, .ref ho), (2, .ref hm), (4, .int (iI (tv))), (6, .int (iI (r 7 0))), (7, .ref qw), (8, .ref qk), (9, .ref qz), (10, .int (iI (q 7 0))), (11, .int (iI (q 9 0 - r 9 0))), (16, .int (iI (r 5 (tv % 12)))), (17, .int (iI (bz))), (18, .int (iI (q 6 (q 7 0 - 1)))), (19, .int (iI (bendsF q))), (20, .ref qi)])
    (kk : ∀ (x' : mf_V) (ra' : mf_V), (rOK xlo xhi x') → (rOK rlo rhi ra') → ∀ (H : Heap) (locs : List Loc) (ls : Array Slot), va_P G.1 vwCl (OW G ho pn pa pf ae x' ++ RW G pn adn q ++ RW G pa ada ra' ++ FW G pf adf f ++ SW G hm adm ca nn u ++ AW G qw 384 wv ++ AW G qk 384 bv ++ AZ G qz 384 zv ++ AZ G qi 384 iv) H → va_D A (OW G ho pn pa pf ae x' ++ RW G pn adn q ++ RW G pa ada ra' ++ FW G pf adf f ++ SW G hm adm ca nn u ++ AW G qw 384 wv ++ AW G qk 384 bv ++ AZ G qz 384 zv ++ AZ G qi 384 iv) → va_S A s.heap H locs → lv_has ls 27 [(0, .ref b), (1, .ref ho), (2, .ref hm), (4, .int (iI (tv))), (6, .int (iI (r 7 0))), (7, .ref qw), (8, .ref qk), (9, .ref qz), (10, .int (iI (q 7 0))), (11, .int (iI (q 9 0 - r 9 0))), (16, .int (iI (r 5 (tv % 12)))), (17, .int (iI (bz))), (20, .ref qi)] → W p l e room_1 s m #[Value.ref b] below meth c H locs (cells + 2) (slots + 12) Q (F0 m 720 ls [])) :
    W p l e room_1 s m #[Value.ref b] below meth c H locs cells slots Q (F0 m 670 ls []) := by
  obtain ⟨hx, hb, hr, hml, hown, hts, hXs, hbl, hl9, hK, hN, hSX, hCX, hZ, hA, hbA⟩ := E
  have hcR : room_1.cells = 600104 := rfl
  have hsR : room_1.slots = 7301314 := rfl
  have hinX3 := inlX3
  have hinX2 := inlX2
  obtain ⟨⟨okx, ok, okra, -⟩, hPI, hB, oku, hrel⟩ := id hLQ
  have hI := hPI.1
  have h27 := hI.1.1
  have okLr : (0 : Int) ≤ q 7 0 ∧ q 7 0 ≤ 150 := ok 7 0
  have okL8 : (0 : Int) ≤ q 8 0 ∧ q 8 0 ≤ 90000 := ok 8 0
  have okL9 : (0 : Int) ≤ q 9 0 ∧ q 9 0 ≤ 100000000 := ok 9 0
  have b9 := hB.2.1
  have okR9 : (0 : Int) ≤ r 9 0 ∧ r 9 0 ≤ 100000000 := hokr 9 0
  have okR7 : (0 : Int) ≤ r 7 0 ∧ r 7 0 ≤ 150 := hokr 7 0
  have hb01 := hyL.1
  have hle := hyL.2.1
  have bfl : (0 : Int) ≤ r 5 (tv % 12) ∧ r 5 (tv % 12) ≤ 9 := hokr 5 _
  have bbf := bendsF_b ok h27
  have hc0 := col0 hPI
  have hc3 := col23 hPI
  have b60 : (0 : Int) ≤ q 6 0 ∧ q 6 0 ≤ 383 := ok 6 0
  have b6l : (0 : Int) ≤ q 6 (q 7 0 - 1) ∧ q 6 (q 7 0 - 1) ≤ 383 := ok 6 _
  refine lv_aload_n hx hb dL_law_670 rfl (lv_at hl 1 rfl) ?_
  refine mf_iconst hx hb dL_law_671 ?_
  refine mf_iconst hx hb dL_law_672 ?_
  have hk0 : kCourse q 0 0 = 0 := by exact mf_if_f (fun q => q ⟨inC_mk (by omega) (by omega), by omega, by omega⟩)
  have hFc := va_free (wc := OW G ho pn pa pf ae x ++ RW G pn adn q ++ RW G pa ada ra ++ FW G pf adf f) hD hS hA [0, 1, 2, 3, 4, 5, 6, 7, 8, 9, 10, 11, 12, 13, 14, 15, 16, 17, 18, 19, 20, 21, 22, 23, 24, 25, 26, 27, 28, 29, 30] sb_3e87190c88
  refine vx_calli (vx_runV (As := [.int (iI (0)), .int (iI (0))]) (rest := []) ⟨hx, hb, hml, hown, hts⟩ (c_X2_course l hl9 G ho pn pa pf ae x adn q ada ra adf f (0) (0) (i32_mk (by decide) (by decide)) (i32_mk (by decide) (by decide)) (by assumption) (by assumption) (by assumption) (by assumption) _) (cwV 2 hts gL_law_X2_course rfl rfl rfl (by decide +kernel) ⟨Nat.le_of_ble_eq_true rfl, Nat.le_of_ble_eq_true rfl⟩) (wrVx (wc := OW G ho pn pa pf ae x ++ RW G pn adn q ++ RW G pa ada ra ++ FW G pf adf f) hSX hCX hZ hS hFc hK hP hD hN [0, 1, 2, 3, 4, 5, 6, 7, 8, 9, 10, 11, 12, 13, 14, 15, 16, 17, 18, 19, 20, 21, 22, 23, 24, 25, 26, 27, 28, 29, 30] (by decide +kernel) sb_874784283d sb_3e87190c88 (ci := 2) rfl rfl) rfl rfl hl.1 rfl (lv_room (Nat.le_of_ble_eq_true rfl)) dL_law_673 ⟨(by rw [hcR]; omega), (by rw [hsR]; omega)⟩) hS (fun q _ h => hFc q h) hFc (fun q _ h => hFc q h) (fun E ce q9 _ t H1 locs ht hvm _ hB hz1 hk1 hS hce hcv hcl => ?_) (fun q1 u2 t H1 locs ht hvm hw hB hz1 hk1 hS => ?_)
  · exfalso
    have hx9 := hB.1
    rcases hx9 with ⟨-, hk9⟩ <;> omega
  obtain ⟨x3, q4, ra5, f6⟩ := u2
  try dsimp only at hw hB
  obtain ⟨hP, hD⟩ := wrJ2 (ws := OW G ho pn pa pf ae x ++ RW G pn adn q ++ RW G pa ada ra ++ FW G pf adf f ++ SW G hm adm ca nn u ++ AW G qw 384 wv ++ AW G qk 384 bv ++ AZ G qz 384 zv ++ AZ G qi 384 iv) (wc := OW G ho pn pa pf ae x ++ RW G pn adn q ++ RW G pa ada ra ++ FW G pf adf f) (wr := SW G hm adm ca nn u ++ AW G qw 384 wv ++ AW G qk 384 bv ++ AZ G qz 384 zv ++ AZ G qi 384 iv) (w1 := OW G ho pn pa pf ae x3 ++ RW G pn adn q4 ++ RW G pa ada ra5 ++ FW G pf adf f6) hP hD [0, 1, 2, 3, 4, 5, 6, 7, 8, 9, 10, 11, 12, 13, 14, 15, 16, 17, 18, 19, 20, 21, 22, 23, 24, 25, 26, 27, 28, 29, 30] [31, 32, 33, 34, 35, 36, 37, 38, 39, 40, 41, 42] sb_3e87190c88 sb_3a53376573 (by decide +kernel) (by decide +kernel) hk1 ht hFc hB
  have hP : va_P G.1 vwCl (OW G ho pn pa pf ae x3 ++ RW G pn adn q4 ++ RW G pa ada ra5 ++ FW G pf adf f6 ++ SW G hm adm ca nn u ++ AW G qw 384 wv ++ AW G qk 384 bv ++ AZ G qz 384 zv ++ AZ G qi 384 iv) H1 := hP.sub [12, 13, 14, 15, 16, 17, 18, 19, 20, 21, 22, 23, 24, 25, 26, 27, 28, 29, 30, 31, 32, 33, 34, 35, 36, 37, 38, 39, 40, 41, 42, 0, 1, 2, 3, 4, 5, 6, 7, 8, 9, 10, 11] sb_bb583c380b
  have hD : va_D A (OW G ho pn pa pf ae x3 ++ RW G pn adn q4 ++ RW G pa ada ra5 ++ FW G pf adf f6 ++ SW G hm adm ca nn u ++ AW G qw 384 wv ++ AW G qk 384 bv ++ AZ G qz 384 zv ++ AZ G qi 384 iv) := hD.sub [12, 13, 14, 15, 16, 17, 18, 19, 20, 21, 22, 23, 24, 25, 26, 27, 28, 29, 30, 31, 32, 33, 34, 35, 36, 37, 38, 39, 40, 41, 42, 0, 1, 2, 3, 4, 5, 6, 7, 8, 9, 10, 11] (by decide +kernel) sb_8ad0923ef0
  clear hB hk1 hFc ht hz1 hvm hk0
  generalize H1 = H at hP hS ⊢
  obtain ⟨z7, rfl, -, ⟨okx3, okq4, okra5, okf6⟩, w9, w10, w11⟩ := hw
  have w9 := w9.symm
  subst w9
  have w10 := w10.symm
  subst w10
  subst w11
  refine mf_top (vCourse q 0 0) (q 6 0) (by unfold vCourse; rw [if_pos rfl]) ?_
  skip
  refine mf_bipush hx hb dL_law_676 rfl ?_
  refine mf_irem hx hb dL_law_678 (i32_mk (by omega) (by omega)) (by omega) (i32_mk (by decide) (by decide)) (by omega) ?_
  refine mf_if_ne (tgt := 718) hx hb dL_law_679 (by decide) (i32_mk (by omega) (by omega)) (fun c12 => ?_) (fun c12 => ?_)
  · skip
    exfalso; omega
  · skip
    refine lv_iload hx hb dL_law_682 (lv_at hl 12 rfl) ?_
    refine mf_bipush hx hb dL_law_684 rfl ?_
    refine mf_irem hx hb dL_law_686 (i32_mk (by omega) (by omega)) (by omega) (i32_mk (by decide) (by decide)) (by omega) ?_
    refine mf_bipush hx hb dL_law_687 rfl ?_
    refine mf_icmp_ne (tgt := 718) hx hb dL_law_689 (by decide) (i32_mk (by omega) (by omega)) (i32_mk (by decide) (by decide)) (fun c13 => ?_) (fun c13 => ?_)
    · skip
      exfalso; omega
    · skip
      refine lv_aload_n hx hb dL_law_692 rfl (lv_at hl 1 rfl) ?_
      refine mf_bipush hx hb dL_law_693 rfl ?_
      have hk0 : kRng 0 7 6 = 0 := by exact mf_if_f (fun q => q ⟨by omega, by omega⟩)
      have hFc := va_free (wc := OW G ho pn pa pf ae x3 ++ RW G pn adn q ++ RW G pa ada ra5 ++ FW G pf adf f) hD hS hA [0, 1, 2, 3, 4, 5, 6, 7, 8, 9, 10, 11, 12, 13, 14, 15, 16, 17, 18, 19, 20, 21, 22, 23, 24, 25, 26, 27, 28, 29, 30] sb_3e87190c88
      refine vx_calli (vx_runV (As := [.int (iI (6))]) (rest := []) ⟨hx, hb, hml, hown, hts⟩ (c_X2_count l hl9 G ho pn pa pf ae x3 adn q ada ra5 adf f (6) (i32_mk (by decide) (by decide)) (by assumption) (by assumption) (by assumption) (by assumption) (by first | assumption | omega) _) (cwV 1 hts gL_law_X2_count rfl rfl rfl (by decide +kernel) ⟨Nat.le_of_ble_eq_true rfl, Nat.le_of_ble_eq_true rfl⟩) (wrVx (wc := OW G ho pn pa pf ae x3 ++ RW G pn adn q ++ RW G pa ada ra5 ++ FW G pf adf f) hSX hCX hZ hS hFc hK hP hD hN [0, 1, 2, 3, 4, 5, 6, 7, 8, 9, 10, 11, 12, 13, 14, 15, 16, 17, 18, 19, 20, 21, 22, 23, 24, 25, 26, 27, 28, 29, 30] (by decide +kernel) sb_874784283d sb_3e87190c88 (ci := 2) rfl rfl) rfl rfl hl.1 rfl (lv_room (Nat.le_of_ble_eq_true rfl)) dL_law_695 ⟨(by rw [hcR]; omega), (by rw [hsR]; omega)⟩) hS (fun q _ h => hFc q h) hFc (fun q _ h => hFc q h) (fun E ce q9 _ t H1 locs ht hvm _ hB hz1 hk1 hS hce hcv hcl => ?_) (fun q14 u15 t H1 locs ht hvm hw hB hz1 hk1 hS => ?_)
      · exfalso
        have hx9 := hB.1
        rcases hx9 with ⟨-, hk9⟩ <;> omega
      obtain ⟨x16, q17, ra18, f19⟩ := u15
      try dsimp only at hw hB
      obtain ⟨hP, hD⟩ := wrJ2 (ws := OW G ho pn pa pf ae x3 ++ RW G pn adn q ++ RW G pa ada ra5 ++ FW G pf adf f ++ SW G hm adm ca nn u ++ AW G qw 384 wv ++ AW G qk 384 bv ++ AZ G qz 384 zv ++ AZ G qi 384 iv) (wc := OW G ho pn pa pf ae x3 ++ RW G pn adn q ++ RW G pa ada ra5 ++ FW G pf adf f) (wr := SW G hm adm ca nn u ++ AW G qw 384 wv ++ AW G qk 384 bv ++ AZ G qz 384 zv ++ AZ G qi 384 iv) (w1 := OW G ho pn pa pf ae x16 ++ RW G pn adn q17 ++ RW G pa ada ra18 ++ FW G pf adf f19) hP hD [0, 1, 2, 3, 4, 5, 6, 7, 8, 9, 10, 11, 12, 13, 14, 15, 16, 17, 18, 19, 20, 21, 22, 23, 24, 25, 26, 27, 28, 29, 30] [31, 32, 33, 34, 35, 36, 37, 38, 39, 40, 41, 42] sb_3e87190c88 sb_3a53376573 (by decide +kernel) (by decide +kernel) hk1 ht hFc hB
      have hP : va_P G.1 vwCl (OW G ho pn pa pf ae x16 ++ RW G pn adn q17 ++ RW G pa ada ra18 ++ FW G pf adf f19 ++ SW G hm adm ca nn u ++ AW G qw 384 wv ++ AW G qk 384 bv ++ AZ G qz 384 zv ++ AZ G qi 384 iv) H1 := hP.sub [12, 13, 14, 15, 16, 17, 18, 19, 20, 21, 22, 23, 24, 25, 26, 27, 28, 29, 30, 31, 32, 33, 34, 35, 36, 37, 38, 39, 40, 41, 42, 0, 1, 2, 3, 4, 5, 6, 7, 8, 9, 10, 11] sb_bb583c380b
      have hD : va_D A (OW G ho pn pa pf ae x16 ++ RW G pn adn q17 ++ RW G pa ada ra18 ++ FW G pf adf f19 ++ SW G hm adm ca nn u ++ AW G qw 384 wv ++ AW G qk 384 bv ++ AZ G qz 384 zv ++ AZ G qi 384 iv) := hD.sub [12, 13, 14, 15, 16, 17, 18, 19, 20, 21, 22, 23, 24, 25, 26, 27, 28, 29, 30, 31, 32, 33, 34, 35, 36, 37, 38, 39, 40, 41, 42, 0, 1, 2, 3, 4, 5, 6, 7, 8, 9, 10, 11] (by decide +kernel) sb_8ad0923ef0
      clear hB hk1 hFc ht hz1 hvm hk0
      generalize H1 = H at hP hS ⊢
      obtain ⟨z20, rfl, -, ⟨okx16, okq17, okra18, okf19⟩, w22, w23, w24⟩ := hw
      have w22 := w22.symm
      subst w22
      have w23 := w23.symm
      subst w23
      subst w24
      refine mf_top (totF q (f 4 0) 6) (bendsF q) (by unfold totF; rw [if_neg (by decide)]; rw [if_neg (by decide)]; rw [if_neg (by decide)]; rw [if_neg (by decide)]; rw [if_neg (by decide)]; rw [if_neg (by decide)]; rw [if_pos rfl]) ?_
      skip
      refine lv_iload hx hb dL_law_698 (lv_at hl 13 rfl) ?_
      refine mf_icmp_ne (tgt := 718) hx hb dL_law_700 (by decide) (i32_mk (by omega) (by omega)) (i32_mk (by omega) (by omega)) (fun c25 => ?_) (fun c25 => ?_)
      · skip
        exact absurd rfl c25
      · skip
        refine lv_aload_n hx hb dL_law_703 rfl (lv_at hl 1 rfl) ?_
        refine vp_callSd (va_Run.run (va_runV (As := []) (rest := []) ⟨hx, hb, hml, hown, hts⟩ (c_X2_winding l G ho pn pa pf ae x16 adn q ada ra18 adf f (by assumption) (by assumption) (by assumption) (by assumption)) (cwV 0 hts gL_law_X2_winding rfl rfl rfl (by decide +kernel) ⟨Nat.le_of_ble_eq_true rfl, Nat.le_of_ble_eq_true rfl⟩) (rdV (wc := OW G ho pn pa pf ae x16 ++ RW G pn adn q ++ RW G pa ada ra18 ++ FW G pf adf f) hK hP hN [0, 1, 2, 3, 4, 5, 6, 7, 8, 9, 10, 11, 12, 13, 14, 15, 16, 17, 18, 19, 20, 21, 22, 23, 24, 25, 26, 27, 28, 29, 30] sb_874784283d (ci := 2) rfl rfl) rfl rfl hl.1 rfl (lv_room (Nat.le_of_ble_eq_true rfl)) dL_law_704 ⟨(by rw [hcR]; omega), (by rw [hsR]; omega)⟩)) (fun q26 hq26 => ?_)
        subst hq26
        refine lv_iload hx hb dL_law_707 (lv_at hl 8 rfl) ?_
        refine lv_i2d hx hb dL_law_709 ?_
        refine lv_ldc2d (v := 4627448617123184640) hx hb hown (hts (.constantDouble RL 119 (4627448617123184640)) (List.mem_of_getElem? (i := 10) rfl)) dL_law_710 ?_
        refine lv_ddiv hx hb dL_law_713 (by exact mf_nan (by omega) (by omega)) ?_
        refine lv_dcmp hx hb dL_law_714 ?_
        rw [mf_dcmp okLr.1 okLr.2]
        refine mf_if_eq (tgt := 720) hx hb dL_law_715 (by decide) (i32_mk (by decide) (by decide)) (fun c27 => ?_) (fun c27 => ?_)
        · skip
          refine W.widen (k := cells + 2) (n := slots + 12) (by omega) (by omega) ?_
          exact kk x16 ra18 (okx16) (okra18) H locs ls hP hD hS (lv_sub hl [0, 1, 2, 3, 4, 5, 6, 7, 8, 9, 10, 11, 14] rfl)
        · skip
          exact absurd c27 (by omega)
