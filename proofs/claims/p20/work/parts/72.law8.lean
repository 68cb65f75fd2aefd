/-! 72.law8: a year of the law, a part of it -/
set_option maxHeartbeats 4000000 in
set_option maxRecDepth 100000 in
theorem sg_8 {p : Program} {l : Launch} {e : Env} {s : State} {m : MethodId} {below : List Frame} {meth : Method} {c : Code} {Q : State → Prop} {b L : Nat} {xs : Nat → Int32} {G : mf_G} {A : Nat → Prop} (E : LEp p l s m meth c b L xs G A) (hL : L ≤ 260) {ho pn pa pf ae hm : Nat} {adn ada adf adm : Nat → Nat} {f : mf_V} (okf : rOK flo fhi f) (hf4 : f 4 0 = 1) (hFI : FInv f) {x : mf_V} {q : mf_V} {ra : mf_V} {u : mf_V} {r : mf_V} {ca : Nat} {nn : Nat} {qw : Nat} {qk : Nat} {qz : Nat} {wv : mf_V} {bv : mf_V} {zv : mf_V} {tv : Int} {bz : Int} {cells slots : Nat} {H : Heap} {locs : List Loc} {ls : Array Slot} (hLQ : LQs (9 + 2 * tv) x q ra f nn u) (hyL : YearL r q bz (r 5 (tv % 12))) (hokr : rOK rlo rhi r) (h8 : q 8 0 = tv + 1) (ht : 0 ≤ tv ∧ tv < 24) (hcl : cells + 7 ≤ 600104 ∧ slots + 42 ≤ 7301314) (hP : va_P G.1 vwCl (OW G ho pn pa pf ae x ++ RW G pn adn q ++ RW G pa ada ra ++ FW G pf adf f ++ SW G hm adm ca nn u ++ AW G qw 384 wv ++ AW G qk 384 bv ++ AZ G qz 384 zv) H) (hD : va_D A (OW G ho pn pa pf ae x ++ RW G pn adn q ++ RW G pa ada ra ++ FW G pf adf f ++ SW G hm adm ca nn u ++ AW G qw 384 wv ++ AW G qk 384 bv ++ AZ G qz 384 zv)) (hS : va_S A s.heap H locs) (hl : lv_has ls 27 [(0, .ref b), (1, .ref ho), (2, .ref hm), (4, .int (iI (tv))), (6, .int (iI (r 7 0))), (7, .ref qw), (8, .ref qk), (9, .ref qz), (10, .int (iI (q 7 0))), (11, .int (iI (q 9 0 - r 9 0))), (16, .int (iI (r 5 (tv % 12)))), (17, .int (iI (bz))), (21, .int (iI (lakesF q))), (22, .int (iI (freshF r q)))])
    (kk : ∀ (x' : mf_V) (ra' : mf_V), (rOK xlo xhi x') → (rOK rlo rhi ra') → ∀ (H : Heap) (locs : List Loc) (ls : Array Slot), va_P G.1 vwCl (OW G ho pn pa pf ae x' ++ RW G pn adn q ++ RW G pa ada ra' ++ FW G pf adf f ++ SW G hm adm ca nn u) H → va_D A (OW G ho pn pa pf ae x' ++ RW G pn adn q ++ RW G pa ada ra' ++ FW G pf adf f ++ SW G hm adm ca nn u) → va_S A s.heap H locs → lv_has ls 27 [(0, .ref b), (1, .ref ho), (2, .ref hm), (4, .int (iI (tv + 1)))] → W p l e room_1 s m #[Value.ref b] below meth c H locs (cells + 7) (slots + 42) Q (F0 m 108 ls [])) :
    W p l e room_1 s m #[Value.ref b] below meth c H locs cells slots Q (F0 m 938 ls []) := by
  obtain ⟨hx, hb, hr, hml, hown, hts, hXs, hbl, hl9, hK, hN, hSX, hCX, hZ, hA, hbA⟩ := E
  have hcR : room_1.cells = 600104 := rfl
  have hsR : room_1.slots = 7301314 := rfl
  have hinX3 := inlX3
  have hinX2 := inlX2
  obtain ⟨⟨okx, ok, okra, -⟩, hPI, hB, oku, hrel⟩ := id hLQ
  have hI := hPI.1
  have h27 := hI.1.1
  have okLr : (0 : Int) ≤ q 7 0 ∧ q 7 0 ≤ 150 := ok 7 0
  have okL8 : (0 : Int) ≤ q 8 0 ∧ q 8 0 ≤ 90000 := ok 8 0
  have okL9 : (0 : Int) ≤ q 9 0 ∧ q 9 0 ≤ 100000000 := ok 9 0
  have b9 := hB.2.1
  have okR9 : (0 : Int) ≤ r 9 0 ∧ r 9 0 ≤ 100000000 := hokr 9 0
  have okR7 : (0 : Int) ≤ r 7 0 ∧ r 7 0 ≤ 150 := hokr 7 0
  have hb01 := hyL.1
  have hle := hyL.2.1
  have bfl : (0 : Int) ≤ r 5 (tv % 12) ∧ r 5 (tv % 12) ≤ 9 := hokr 5 _
  have bff := freshF_b r q
  have bfb := hyL.2.2.2.2.2.2.1
  have blk := lakesF_b q
  have hy8 := hyL.2.2.2.2.2.2.2.1
  have hy9 := hyL.2.2.2.2.2.2.2.2.1
  refine lv_iload hx hb dL_law_938 (lv_at hl 13 rfl) ?_
  refine mf_iconst hx hb dL_law_940 ?_
  refine lv_iload hx hb dL_law_941 (lv_at hl 11 rfl) ?_
  refine mf_imul hx hb dL_law_943 ?_
  refine mf_icmp_gt (tgt := 1000) hx hb dL_law_944 (by decide) (i32_mk (by omega) (by omega)) (i32_mk (by omega) (by omega)) (fun c1 => ?_) (fun c1 => ?_)
  · skip
    exfalso; omega
  · skip
    have lp990 : (True) → ∀ (H : Heap) (locs : List Loc), va_P G.1 vwCl (OW G ho pn pa pf ae x ++ RW G pn adn q ++ RW G pa ada ra ++ FW G pf adf f ++ SW G hm adm ca nn u ++ AW G qw 384 wv ++ AW G qk 384 bv ++ AZ G qz 384 zv) H → va_D A (OW G ho pn pa pf ae x ++ RW G pn adn q ++ RW G pa ada ra ++ FW G pf adf f ++ SW G hm adm ca nn u ++ AW G qw 384 wv ++ AW G qk 384 bv ++ AZ G qz 384 zv) → va_S A s.heap H locs → ∀ (ls : Array Slot), lv_has ls 27 [(0, .ref b), (1, .ref ho), (2, .ref hm), (4, .int (iI (tv))), (21, .int (iI (lakesF q)))] → W p l e room_1 s m #[Value.ref b] below meth c H locs cells slots Q (F0 m 990 ls []) := by
      intro  hdum H locs hP hD hS ls hl
      refine lv_aload_n hx hb dL_law_990 rfl (lv_at hl 1 rfl) ?_
      refine mf_iconst hx hb dL_law_991 ?_
      have hk0 : kRng 0 7 2 = 0 := by exact mf_if_f (fun q => q ⟨by omega, by omega⟩)
      have hFc := va_free (wc := OW G ho pn pa pf ae x ++ RW G pn adn q ++ RW G pa ada ra ++ FW G pf adf f) hD hS hA [0, 1, 2, 3, 4, 5, 6, 7, 8, 9, 10, 11, 12, 13, 14, 15, 16, 17, 18, 19, 20, 21, 22, 23, 24, 25, 26, 27, 28, 29, 30] sb_66a1bed9f5
      refine vx_calli (vx_runV (As := [.int (iI (2))]) (rest := []) ⟨hx, hb, hml, hown, hts⟩ (c_X2_count l hl9 G ho pn pa pf ae x adn q ada ra adf f (2) (i32_mk (by decide) (by decide)) (by assumption) (by assumption) (by assumption) (by assumption) (by first | assumption | omega) _) (cwV 1 hts gL_law_X2_count rfl rfl rfl (by decide +kernel) ⟨Nat.le_of_ble_eq_true rfl, Nat.le_of_ble_eq_true rfl⟩) (wrVx (wc := OW G ho pn pa pf ae x ++ RW G pn adn q ++ RW G pa ada ra ++ FW G pf adf f) hSX hCX hZ hS hFc hK hP hD hN [0, 1, 2, 3, 4, 5, 6, 7, 8, 9, 10, 11, 12, 13, 14, 15, 16, 17, 18, 19, 20, 21, 22, 23, 24, 25, 26, 27, 28, 29, 30] (by decide +kernel) sb_a4303c86f1 sb_66a1bed9f5 (ci := 2) rfl rfl) rfl rfl hl.1 rfl (lv_room (Nat.le_of_ble_eq_true rfl)) dL_law_992 ⟨(by rw [hcR]; omega), (by rw [hsR]; omega)⟩) hS (fun q _ h => hFc q h) hFc (fun q _ h => hFc q h) (fun E ce q9 _ t H1 locs ht hvm _ hB hz1 hk1 hS hce hcv hcl => ?_) (fun q2 u3 t H1 locs ht hvm hw hB hz1 hk1 hS => ?_)
      · exfalso
        have hx9 := hB.1
        rcases hx9 with ⟨-, hk9⟩ <;> omega
      obtain ⟨x4, q5, ra6, f7⟩ := u3
      try dsimp only at hw hB
      obtain ⟨hP, hD⟩ := wrJ2 (ws := OW G ho pn pa pf ae x ++ RW G pn adn q ++ RW G pa ada ra ++ FW G pf adf f ++ SW G hm adm ca nn u ++ AW G qw 384 wv ++ AW G qk 384 bv ++ AZ G qz 384 zv) (wc := OW G ho pn pa pf ae x ++ RW G pn adn q ++ RW G pa ada ra ++ FW G pf adf f) (wr := SW G hm adm ca nn u ++ AW G qw 384 wv ++ AW G qk 384 bv ++ AZ G qz 384 zv) (w1 := OW G ho pn pa pf ae x4 ++ RW G pn adn q5 ++ RW G pa ada ra6 ++ FW G pf adf f7) hP hD [0, 1, 2, 3, 4, 5, 6, 7, 8, 9, 10, 11, 12, 13, 14, 15, 16, 17, 18, 19, 20, 21, 22, 23, 24, 25, 26, 27, 28, 29, 30] [31, 32, 33, 34, 35, 36, 37, 38, 39, 40, 41] sb_66a1bed9f5 sb_4ccd58796c (by decide +kernel) (by decide +kernel) hk1 ht hFc hB
      have hP : va_P G.1 vwCl (OW G ho pn pa pf ae x4 ++ RW G pn adn q5 ++ RW G pa ada ra6 ++ FW G pf adf f7 ++ SW G hm adm ca nn u ++ AW G qw 384 wv ++ AW G qk 384 bv ++ AZ G qz 384 zv) H1 := hP.sub [11, 12, 13, 14, 15, 16, 17, 18, 19, 20, 21, 22, 23, 24, 25, 26, 27, 28, 29, 30, 31, 32, 33, 34, 35, 36, 37, 38, 39, 40, 41, 0, 1, 2, 3, 4, 5, 6, 7, 8, 9, 10] sb_eac6f2d681
      have hD : va_D A (OW G ho pn pa pf ae x4 ++ RW G pn adn q5 ++ RW G pa ada ra6 ++ FW G pf adf f7 ++ SW G hm adm ca nn u ++ AW G qw 384 wv ++ AW G qk 384 bv ++ AZ G qz 384 zv) := hD.sub [11, 12, 13, 14, 15, 16, 17, 18, 19, 20, 21, 22, 23, 24, 25, 26, 27, 28, 29, 30, 31, 32, 33, 34, 35, 36, 37, 38, 39, 40, 41, 0, 1, 2, 3, 4, 5, 6, 7, 8, 9, 10] (by decide +kernel) sb_e33f1c05a0
      clear hB hk1 hFc ht hz1 hvm hk0
      generalize H1 = H at hP hS ⊢
      obtain ⟨z8, rfl, -, ⟨okx4, okq5, okra6, okf7⟩, w10, w11, w12⟩ := hw
      have w10 := w10.symm
      subst w10
      have w11 := w11.symm
      subst w11
      subst w12
      refine mf_top (totF q (f 4 0) 2) (lakesF q) (by unfold totF; rw [if_neg (by decide)]; rw [if_neg (by decide)]; rw [if_pos rfl]) ?_
      skip
      refine lv_iload hx hb dL_law_995 (lv_at hl 4 rfl) ?_
      refine mf_icmp_eq (tgt := 1002) hx hb dL_law_997 (by decide) (i32_mk (by omega) (by omega)) (i32_mk (by omega) (by omega)) (fun c13 => ?_) (fun c13 => ?_)
      · skip
        refine lv_aload_n hx hb dL_law_1002 rfl (lv_at hl 1 rfl) ?_
        refine mf_iconst hx hb dL_law_1003 ?_
        refine mf_iconst hx hb dL_law_1004 ?_
        have hk0 : kFarm f 0 0 = 0 := by exact mf_if_f (fun q => q ⟨⟨by omega, by omega⟩, by omega, by omega⟩)
        have hFc := va_free (wc := OW G ho pn pa pf ae x4 ++ RW G pn adn q ++ RW G pa ada ra6 ++ FW G pf adf f) hD hS hA [0, 1, 2, 3, 4, 5, 6, 7, 8, 9, 10, 11, 12, 13, 14, 15, 16, 17, 18, 19, 20, 21, 22, 23, 24, 25, 26, 27, 28, 29, 30] sb_66a1bed9f5
        refine vx_calli (vx_runV (As := [.int (iI (0)), .int (iI (0))]) (rest := []) ⟨hx, hb, hml, hown, hts⟩ (c_X2_farm l hl9 G ho pn pa pf ae x4 adn q ada ra6 adf f (0) (0) (i32_mk (by decide) (by decide)) (i32_mk (by decide) (by decide)) (by assumption) (by assumption) (by assumption) (by assumption) _) (cwV 2 hts gL_law_X2_farm rfl rfl rfl (by decide +kernel) ⟨Nat.le_of_ble_eq_true rfl, Nat.le_of_ble_eq_true rfl⟩) (wrVx (wc := OW G ho pn pa pf ae x4 ++ RW G pn adn q ++ RW G pa ada ra6 ++ FW G pf adf f) hSX hCX hZ hS hFc hK hP hD hN [0, 1, 2, 3, 4, 5, 6, 7, 8, 9, 10, 11, 12, 13, 14, 15, 16, 17, 18, 19, 20, 21, 22, 23, 24, 25, 26, 27, 28, 29, 30] (by decide +kernel) sb_a4303c86f1 sb_66a1bed9f5 (ci := 2) rfl rfl) rfl rfl hl.1 rfl (lv_room (Nat.le_of_ble_eq_true rfl)) dL_law_1005 ⟨(by rw [hcR]; omega), (by rw [hsR]; omega)⟩) hS (fun q _ h => hFc q h) hFc (fun q _ h => hFc q h) (fun E ce q9 _ t H1 locs ht hvm _ hB hz1 hk1 hS hce hcv hcl => ?_) (fun q14 u15 t H1 locs ht hvm hw hB hz1 hk1 hS => ?_)
        · exfalso
          have hx9 := hB.1
          rcases hx9 with ⟨-, hk9⟩ <;> omega
        obtain ⟨x16, q17, ra18, f19⟩ := u15
        try dsimp only at hw hB
        obtain ⟨hP, hD⟩ := wrJ2 (ws := OW G ho pn pa pf ae x4 ++ RW G pn adn q ++ RW G pa ada ra6 ++ FW G pf adf f ++ SW G hm adm ca nn u ++ AW G qw 384 wv ++ AW G qk 384 bv ++ AZ G qz 384 zv) (wc := OW G ho pn pa pf ae x4 ++ RW G pn adn q ++ RW G pa ada ra6 ++ FW G pf adf f) (wr := SW G hm adm ca nn u ++ AW G qw 384 wv ++ AW G qk 384 bv ++ AZ G qz 384 zv) (w1 := OW G ho pn pa pf ae x16 ++ RW G pn adn q17 ++ RW G pa ada ra18 ++ FW G pf adf f19) hP hD [0, 1, 2, 3, 4, 5, 6, 7, 8, 9, 10, 11, 12, 13, 14, 15, 16, 17, 18, 19, 20, 21, 22, 23, 24, 25, 26, 27, 28, 29, 30] [31, 32, 33, 34, 35, 36, 37, 38, 39, 40, 41] sb_66a1bed9f5 sb_4ccd58796c (by decide +kernel) (by decide +kernel) hk1 ht hFc hB
        have hP : va_P G.1 vwCl (OW G ho pn pa pf ae x16 ++ RW G pn adn q17 ++ RW G pa ada ra18 ++ FW G pf adf f19 ++ SW G hm adm ca nn u ++ AW G qw 384 wv ++ AW G qk 384 bv ++ AZ G qz 384 zv) H1 := hP.sub [11, 12, 13, 14, 15, 16, 17, 18, 19, 20, 21, 22, 23, 24, 25, 26, 27, 28, 29, 30, 31, 32, 33, 34, 35, 36, 37, 38, 39, 40, 41, 0, 1, 2, 3, 4, 5, 6, 7, 8, 9, 10] sb_eac6f2d681
        have hD : va_D A (OW G ho pn pa pf ae x16 ++ RW G pn adn q17 ++ RW G pa ada ra18 ++ FW G pf adf f19 ++ SW G hm adm ca nn u ++ AW G qw 384 wv ++ AW G qk 384 bv ++ AZ G qz 384 zv) := hD.sub [11, 12, 13, 14, 15, 16, 17, 18, 19, 20, 21, 22, 23, 24, 25, 26, 27, 28, 29, 30, 31, 32, 33, 34, 35, 36, 37, 38, 39, 40, 41, 0, 1, 2, 3, 4, 5, 6, 7, 8, 9, 10] (by decide +kernel) sb_e33f1c05a0
        clear hB hk1 hFc ht hz1 hvm hk0
        generalize H1 = H at hP hS ⊢
        obtain ⟨z20, rfl, -, ⟨okx16, okq17, okra18, okf19⟩, w22, w23, w24⟩ := hw
        have w22 := w22.symm
        subst w22
        have w23 := w23.symm
        subst w23
        subst w24
        have bc0 := cof_b (r := q) okf 0 0
        refine lv_aload_n hx hb dL_law_1008 rfl (lv_at hl 1 rfl) ?_
        refine mf_iconst hx hb dL_law_1009 ?_
        refine mf_iconst hx hb dL_law_1010 ?_
        have hk0 : kFarm f 0 1 = 0 := by exact mf_if_f (fun q => q ⟨⟨by omega, by omega⟩, by omega, by omega⟩)
        have hFc := va_free (wc := OW G ho pn pa pf ae x16 ++ RW G pn adn q ++ RW G pa ada ra18 ++ FW G pf adf f) hD hS hA [0, 1, 2, 3, 4, 5, 6, 7, 8, 9, 10, 11, 12, 13, 14, 15, 16, 17, 18, 19, 20, 21, 22, 23, 24, 25, 26, 27, 28, 29, 30] sb_66a1bed9f5
        refine vx_calli (vx_runV (As := [.int (iI (0)), .int (iI (1))]) (rest := [.int (iI (cof f q 0 0))]) ⟨hx, hb, hml, hown, hts⟩ (c_X2_farm l hl9 G ho pn pa pf ae x16 adn q ada ra18 adf f (0) (1) (i32_mk (by decide) (by decide)) (i32_mk (by decide) (by decide)) (by assumption) (by assumption) (by assumption) (by assumption) _) (cwV 2 hts gL_law_X2_farm rfl rfl rfl (by decide +kernel) ⟨Nat.le_of_ble_eq_true rfl, Nat.le_of_ble_eq_true rfl⟩) (wrVx (wc := OW G ho pn pa pf ae x16 ++ RW G pn adn q ++ RW G pa ada ra18 ++ FW G pf adf f) hSX hCX hZ hS hFc hK hP hD hN [0, 1, 2, 3, 4, 5, 6, 7, 8, 9, 10, 11, 12, 13, 14, 15, 16, 17, 18, 19, 20, 21, 22, 23, 24, 25, 26, 27, 28, 29, 30] (by decide +kernel) sb_a4303c86f1 sb_66a1bed9f5 (ci := 2) rfl rfl) rfl rfl hl.1 rfl (lv_room (Nat.le_of_ble_eq_true rfl)) dL_law_1011 ⟨(by rw [hcR]; omega), (by rw [hsR]; omega)⟩) hS (fun q _ h => hFc q h) hFc (fun q _ h => hFc q h) (fun E ce q9 _ t H1 locs ht hvm _ hB hz1 hk1 hS hce hcv hcl => ?_) (fun q25 u26 t H1 locs ht hvm hw hB hz1 hk1 hS => ?_)
        · exfalso
          have hx9 := hB.1
          rcases hx9 with ⟨-, hk9⟩ <;> omega
        obtain ⟨x27, q28, ra29, f30⟩ := u26
        try dsimp only at hw hB
        obtain ⟨hP, hD⟩ := wrJ2 (ws := OW G ho pn pa pf ae x16 ++ RW G pn adn q ++ RW G pa ada ra18 ++ FW G pf adf f ++ SW G hm adm ca nn u ++ AW G qw 384 wv ++ AW G qk 384 bv ++ AZ G qz 384 zv) (wc := OW G ho pn pa pf ae x16 ++ RW G pn adn q ++ RW G pa ada ra18 ++ FW G pf adf f) (wr := SW G hm adm ca nn u ++ AW G qw 384 wv ++ AW G qk 384 bv ++ AZ G qz 384 zv) (w1 := OW G ho pn pa pf ae x27 ++ RW G pn adn q28 ++ RW G pa ada ra29 ++ FW G pf adf f30) hP hD [0, 1, 2, 3, 4, 5, 6, 7, 8, 9, 10, 11, 12, 13, 14, 15, 16, 17, 18, 19, 20, 21, 22, 23, 24, 25, 26, 27, 28, 29, 30] [31, 32, 33, 34, 35, 36, 37, 38, 39, 40, 41] sb_66a1bed9f5 sb_4ccd58796c (by decide +kernel) (by decide +kernel) hk1 ht hFc hB
        have hP : va_P G.1 vwCl (OW G ho pn pa pf ae x27 ++ RW G pn adn q28 ++ RW G pa ada ra29 ++ FW G pf adf f30 ++ SW G hm adm ca nn u ++ AW G qw 384 wv ++ AW G qk 384 bv ++ AZ G qz 384 zv) H1 := hP.sub [11, 12, 13, 14, 15, 16, 17, 18, 19, 20, 21, 22, 23, 24, 25, 26, 27, 28, 29, 30, 31, 32, 33, 34, 35, 36, 37, 38, 39, 40, 41, 0, 1, 2, 3, 4, 5, 6, 7, 8, 9, 10] sb_eac6f2d681
        have hD : va_D A (OW G ho pn pa pf ae x27 ++ RW G pn adn q28 ++ RW G pa ada ra29 ++ FW G pf adf f30 ++ SW G hm adm ca nn u ++ AW G qw 384 wv ++ AW G qk 384 bv ++ AZ G qz 384 zv) := hD.sub [11, 12, 13, 14, 15, 16, 17, 18, 19, 20, 21, 22, 23, 24, 25, 26, 27, 28, 29, 30, 31, 32, 33, 34, 35, 36, 37, 38, 39, 40, 41, 0, 1, 2, 3, 4, 5, 6, 7, 8, 9, 10] (by decide +kernel) sb_e33f1c05a0
        clear hB hk1 hFc ht hz1 hvm hk0
        generalize H1 = H at hP hS ⊢
        obtain ⟨z31, rfl, -, ⟨okx27, okq28, okra29, okf30⟩, w33, w34, w35⟩ := hw
        have w33 := w33.symm
        subst w33
        have w34 := w34.symm
        subst w34
        subst w35
        have bc1 := cof_b (r := q) okf 0 1
        refine lv_aload_n hx hb dL_law_1014 rfl (lv_at hl 1 rfl) ?_
        refine mf_iconst hx hb dL_law_1015 ?_
        refine mf_iconst hx hb dL_law_1016 ?_
        have hk0 : kFarm f 0 2 = 0 := by exact mf_if_f (fun q => q ⟨⟨by omega, by omega⟩, by omega, by omega⟩)
        have hFc := va_free (wc := OW G ho pn pa pf ae x27 ++ RW G pn adn q ++ RW G pa ada ra29 ++ FW G pf adf f) hD hS hA [0, 1, 2, 3, 4, 5, 6, 7, 8, 9, 10, 11, 12, 13, 14, 15, 16, 17, 18, 19, 20, 21, 22, 23, 24, 25, 26, 27, 28, 29, 30] sb_66a1bed9f5
        refine vx_calli (vx_runV (As := [.int (iI (0)), .int (iI (2))]) (rest := [.int (iI (cof f q 0 1)), .int (iI (cof f q 0 0))]) ⟨hx, hb, hml, hown, hts⟩ (c_X2_farm l hl9 G ho pn pa pf ae x27 adn q ada ra29 adf f (0) (2) (i32_mk (by decide) (by decide)) (i32_mk (by decide) (by decide)) (by assumption) (by assumption) (by assumption) (by assumption) _) (cwV 2 hts gL_law_X2_farm rfl rfl rfl (by decide +kernel) ⟨Nat.le_of_ble_eq_true rfl, Nat.le_of_ble_eq_true rfl⟩) (wrVx (wc := OW G ho pn pa pf ae x27 ++ RW G pn adn q ++ RW G pa ada ra29 ++ FW G pf adf f) hSX hCX hZ hS hFc hK hP hD hN [0, 1, 2, 3, 4, 5, 6, 7, 8, 9, 10, 11, 12, 13, 14, 15, 16, 17, 18, 19, 20, 21, 22, 23, 24, 25, 26, 27, 28, 29, 30] (by decide +kernel) sb_a4303c86f1 sb_66a1bed9f5 (ci := 2) rfl rfl) rfl rfl hl.1 rfl (lv_room (Nat.le_of_ble_eq_true rfl)) dL_law_1017 ⟨(by rw [hcR]; omega), (by rw [hsR]; omega)⟩) hS (fun q _ h => hFc q h) hFc (fun q _ h => hFc q h) (fun E ce q9 _ t H1 locs ht hvm _ hB hz1 hk1 hS hce hcv hcl => ?_) (fun q36 u37 t H1 locs ht hvm hw hB hz1 hk1 hS => ?_)
        · exfalso
          have hx9 := hB.1
          rcases hx9 with ⟨-, hk9⟩ <;> omega
        obtain ⟨x38, q39, ra40, f41⟩ := u37
        try dsimp only at hw hB
        obtain ⟨hP, hD⟩ := wrJ2 (ws := OW G ho pn pa pf ae x27 ++ RW G pn adn q ++ RW G pa ada ra29 ++ FW G pf adf f ++ SW G hm adm ca nn u ++ AW G qw 384 wv ++ AW G qk 384 bv ++ AZ G qz 384 zv) (wc := OW G ho pn pa pf ae x27 ++ RW G pn adn q ++ RW G pa ada ra29 ++ FW G pf adf f) (wr := SW G hm adm ca nn u ++ AW G qw 384 wv ++ AW G qk 384 bv ++ AZ G qz 384 zv) (w1 := OW G ho pn pa pf ae x38 ++ RW G pn adn q39 ++ RW G pa ada ra40 ++ FW G pf adf f41) hP hD [0, 1, 2, 3, 4, 5, 6, 7, 8, 9, 10, 11, 12, 13, 14, 15, 16, 17, 18, 19, 20, 21, 22, 23, 24, 25, 26, 27, 28, 29, 30] [31, 32, 33, 34, 35, 36, 37, 38, 39, 40, 41] sb_66a1bed9f5 sb_4ccd58796c (by decide +kernel) (by decide +kernel) hk1 ht hFc hB
        have hP : va_P G.1 vwCl (OW G ho pn pa pf ae x38 ++ RW G pn adn q39 ++ RW G pa ada ra40 ++ FW G pf adf f41 ++ SW G hm adm ca nn u ++ AW G qw 384 wv ++ AW G qk 384 bv ++ AZ G qz 384 zv) H1 := hP.sub [11, 12, 13, 14, 15, 16, 17, 18, 19, 20, 21, 22, 23, 24, 25, 26, 27, 28, 29, 30, 31, 32, 33, 34, 35, 36, 37, 38, 39, 40, 41, 0, 1, 2, 3, 4, 5, 6, 7, 8, 9, 10] sb_eac6f2d681
        have hD : va_D A (OW G ho pn pa pf ae x38 ++ RW G pn adn q39 ++ RW G pa ada ra40 ++ FW G pf adf f41 ++ SW G hm adm ca nn u ++ AW G qw 384 wv ++ AW G qk 384 bv ++ AZ G qz 384 zv) := hD.sub [11, 12, 13, 14, 15, 16, 17, 18, 19, 20, 21, 22, 23, 24, 25, 26, 27, 28, 29, 30, 31, 32, 33, 34, 35, 36, 37, 38, 39, 40, 41, 0, 1, 2, 3, 4, 5, 6, 7, 8, 9, 10] (by decide +kernel) sb_e33f1c05a0
        clear hB hk1 hFc ht hz1 hvm hk0
        generalize H1 = H at hP hS ⊢
        obtain ⟨z42, rfl, -, ⟨okx38, okq39, okra40, okf41⟩, w44, w45, w46⟩ := hw
        have w44 := w44.symm
        subst w44
        have w45 := w45.symm
        subst w45
        subst w46
        have bc2 := cof_b (r := q) okf 0 2
        refine mf_iadd hx hb dL_law_1020 ?_
        refine lv_aload_n hx hb dL_law_1021 rfl (lv_at hl 1 rfl) ?_
        refine mf_iconst hx hb dL_law_1022 ?_
        refine mf_iconst hx hb dL_law_1023 ?_
        have hk0 : kFarm f 0 3 = 0 := by exact mf_if_f (fun q => q ⟨⟨by omega, by omega⟩, by omega, by omega⟩)
        have hFc := va_free (wc := OW G ho pn pa pf ae x38 ++ RW G pn adn q ++ RW G pa ada ra40 ++ FW G pf adf f) hD hS hA [0, 1, 2, 3, 4, 5, 6, 7, 8, 9, 10, 11, 12, 13, 14, 15, 16, 17, 18, 19, 20, 21, 22, 23, 24, 25, 26, 27, 28, 29, 30] sb_66a1bed9f5
        refine vx_calli (vx_runV (As := [.int (iI (0)), .int (iI (3))]) (rest := [.int (iI ((cof f q 0 1) + (cof f q 0 2))), .int (iI (cof f q 0 0))]) ⟨hx, hb, hml, hown, hts⟩ (c_X2_farm l hl9 G ho pn pa pf ae x38 adn q ada ra40 adf f (0) (3) (i32_mk (by decide) (by decide)) (i32_mk (by decide) (by decide)) (by assumption) (by assumption) (by assumption) (by assumption) _) (cwV 2 hts gL_law_X2_farm rfl rfl rfl (by decide +kernel) ⟨Nat.le_of_ble_eq_true rfl, Nat.le_of_ble_eq_true rfl⟩) (wrVx (wc := OW G ho pn pa pf ae x38 ++ RW G pn adn q ++ RW G pa ada ra40 ++ FW G pf adf f) hSX hCX hZ hS hFc hK hP hD hN [0, 1, 2, 3, 4, 5, 6, 7, 8, 9, 10, 11, 12, 13, 14, 15, 16, 17, 18, 19, 20, 21, 22, 23, 24, 25, 26, 27, 28, 29, 30] (by decide +kernel) sb_a4303c86f1 sb_66a1bed9f5 (ci := 2) rfl rfl) rfl rfl hl.1 rfl (lv_room (Nat.le_of_ble_eq_true rfl)) dL_law_1024 ⟨(by rw [hcR]; omega), (by rw [hsR]; omega)⟩) hS (fun q _ h => hFc q h) hFc (fun q _ h => hFc q h) (fun E ce q9 _ t H1 locs ht hvm _ hB hz1 hk1 hS hce hcv hcl => ?_) (fun q47 u48 t H1 locs ht hvm hw hB hz1 hk1 hS => ?_)
        · exfalso
          have hx9 := hB.1
          rcases hx9 with ⟨-, hk9⟩ <;> omega
        obtain ⟨x49, q50, ra51, f52⟩ := u48
        try dsimp only at hw hB
        obtain ⟨hP, hD⟩ := wrJ2 (ws := OW G ho pn pa pf ae x38 ++ RW G pn adn q ++ RW G pa ada ra40 ++ FW G pf adf f ++ SW G hm adm ca nn u ++ AW G qw 384 wv ++ AW G qk 384 bv ++ AZ G qz 384 zv) (wc := OW G ho pn pa pf ae x38 ++ RW G pn adn q ++ RW G pa ada ra40 ++ FW G pf adf f) (wr := SW G hm adm ca nn u ++ AW G qw 384 wv ++ AW G qk 384 bv ++ AZ G qz 384 zv) (w1 := OW G ho pn pa pf ae x49 ++ RW G pn adn q50 ++ RW G pa ada ra51 ++ FW G pf adf f52) hP hD [0, 1, 2, 3, 4, 5, 6, 7, 8, 9, 10, 11, 12, 13, 14, 15, 16, 17, 18, 19, 20, 21, 22, 23, 24, 25, 26, 27, 28, 29, 30] [31, 32, 33, 34, 35, 36, 37, 38, 39, 40, 41] sb_66a1bed9f5 sb_4ccd58796c (by decide +kernel) (by decide +kernel) hk1 ht hFc hB
        have hP : va_P G.1 vwCl (OW G ho pn pa pf ae x49 ++ RW G pn adn q50 ++ RW G pa ada ra51 ++ FW G pf adf f52 ++ SW G hm adm ca nn u ++ AW G qw 384 wv ++ AW G qk 384 bv ++ AZ G qz 384 zv) H1 := hP.sub [11, 12, 13, 14, 15, 16, 17, 18, 19, 20, 21, 22, 23, 24, 25, 26, 27, 28, 29, 30, 31, 32, 33, 34, 35, 36, 37, 38, 39, 40, 41, 0, 1, 2, 3, 4, 5, 6, 7, 8, 9, 10] sb_eac6f2d681
        have hD : va_D A (OW G ho pn pa pf ae x49 ++ RW G pn adn q50 ++ RW G pa ada ra51 ++ FW G pf adf f52 ++ SW G hm adm ca nn u ++ AW G qw 384 wv ++ AW G qk 384 bv ++ AZ G qz 384 zv) := hD.sub [11, 12, 13, 14, 15, 16, 17, 18, 19, 20, 21, 22, 23, 24, 25, 26, 27, 28, 29, 30, 31, 32, 33, 34, 35, 36, 37, 38, 39, 40, 41, 0, 1, 2, 3, 4, 5, 6, 7, 8, 9, 10] (by decide +kernel) sb_e33f1c05a0
        clear hB hk1 hFc ht hz1 hvm hk0
        generalize H1 = H at hP hS ⊢
        obtain ⟨z53, rfl, -, ⟨okx49, okq50, okra51, okf52⟩, w55, w56, w57⟩ := hw
        have w55 := w55.symm
        subst w55
        have w56 := w56.symm
        subst w56
        subst w57
        have bc3 := cof_b (r := q) okf 0 3
        refine mf_iadd hx hb dL_law_1027 ?_
        refine mf_icmp_ne (tgt := 1046) hx hb dL_law_1028 (by decide) (i32_mk (by omega) (by omega)) (i32_mk (by omega) (by omega)) (fun c58 => ?_) (fun c58 => ?_)
        · skip
          exact absurd (cof_split okf hPI 0) c58
        · skip
          refine lv_aload_n hx hb dL_law_1031 rfl (lv_at hl 1 rfl) ?_
          refine mf_iconst hx hb dL_law_1032 ?_
          refine mf_iconst hx hb dL_law_1033 ?_
          have hk0 : kFarm f 0 4 = 0 := by exact mf_if_f (fun q => q ⟨⟨by omega, by omega⟩, by omega, by omega⟩)
          have hFc := va_free (wc := OW G ho pn pa pf ae x49 ++ RW G pn adn q ++ RW G pa ada ra51 ++ FW G pf adf f) hD hS hA [0, 1, 2, 3, 4, 5, 6, 7, 8, 9, 10, 11, 12, 13, 14, 15, 16, 17, 18, 19, 20, 21, 22, 23, 24, 25, 26, 27, 28, 29, 30] sb_66a1bed9f5
          refine vx_calli (vx_runV (As := [.int (iI (0)), .int (iI (4))]) (rest := []) ⟨hx, hb, hml, hown, hts⟩ (c_X2_farm l hl9 G ho pn pa pf ae x49 adn q ada ra51 adf f (0) (4) (i32_mk (by decide) (by decide)) (i32_mk (by decide) (by decide)) (by assumption) (by assumption) (by assumption) (by assumption) _) (cwV 2 hts gL_law_X2_farm rfl rfl rfl (by decide +kernel) ⟨Nat.le_of_ble_eq_true rfl, Nat.le_of_ble_eq_true rfl⟩) (wrVx (wc := OW G ho pn pa pf ae x49 ++ RW G pn adn q ++ RW G pa ada ra51 ++ FW G pf adf f) hSX hCX hZ hS hFc hK hP hD hN [0, 1, 2, 3, 4, 5, 6, 7, 8, 9, 10, 11, 12, 13, 14, 15, 16, 17, 18, 19, 20, 21, 22, 23, 24, 25, 26, 27, 28, 29, 30] (by decide +kernel) sb_a4303c86f1 sb_66a1bed9f5 (ci := 2) rfl rfl) rfl rfl hl.1 rfl (lv_room (Nat.le_of_ble_eq_true rfl)) dL_law_1034 ⟨(by rw [hcR]; omega), (by rw [hsR]; omega)⟩) hS (fun q _ h => hFc q h) hFc (fun q _ h => hFc q h) (fun E ce q9 _ t H1 locs ht hvm _ hB hz1 hk1 hS hce hcv hcl => ?_) (fun q59 u60 t H1 locs ht hvm hw hB hz1 hk1 hS => ?_)
          · exfalso
            have hx9 := hB.1
            rcases hx9 with ⟨-, hk9⟩ <;> omega
          obtain ⟨x61, q62, ra63, f64⟩ := u60
          try dsimp only at hw hB
          obtain ⟨hP, hD⟩ := wrJ2 (ws := OW G ho pn pa pf ae x49 ++ RW G pn adn q ++ RW G pa ada ra51 ++ FW G pf adf f ++ SW G hm adm ca nn u ++ AW G qw 384 wv ++ AW G qk 384 bv ++ AZ G qz 384 zv) (wc := OW G ho pn pa pf ae x49 ++ RW G pn adn q ++ RW G pa ada ra51 ++ FW G pf adf f) (wr := SW G hm adm ca nn u ++ AW G qw 384 wv ++ AW G qk 384 bv ++ AZ G qz 384 zv) (w1 := OW G ho pn pa pf ae x61 ++ RW G pn adn q62 ++ RW G pa ada ra63 ++ FW G pf adf f64) hP hD [0, 1, 2, 3, 4, 5, 6, 7, 8, 9, 10, 11, 12, 13, 14, 15, 16, 17, 18, 19, 20, 21, 22, 23, 24, 25, 26, 27, 28, 29, 30] [31, 32, 33, 34, 35, 36, 37, 38, 39, 40, 41] sb_66a1bed9f5 sb_4ccd58796c (by decide +kernel) (by decide +kernel) hk1 ht hFc hB
          have hP : va_P G.1 vwCl (OW G ho pn pa pf ae x61 ++ RW G pn adn q62 ++ RW G pa ada ra63 ++ FW G pf adf f64 ++ SW G hm adm ca nn u ++ AW G qw 384 wv ++ AW G qk 384 bv ++ AZ G qz 384 zv) H1 := hP.sub [11, 12, 13, 14, 15, 16, 17, 18, 19, 20, 21, 22, 23, 24, 25, 26, 27, 28, 29, 30, 31, 32, 33, 34, 35, 36, 37, 38, 39, 40, 41, 0, 1, 2, 3, 4, 5, 6, 7, 8, 9, 10] sb_eac6f2d681
          have hD : va_D A (OW G ho pn pa pf ae x61 ++ RW G pn adn q62 ++ RW G pa ada ra63 ++ FW G pf adf f64 ++ SW G hm adm ca nn u ++ AW G qw 384 wv ++ AW G qk 384 bv ++ AZ G qz 384 zv) := hD.sub [11, 12, 13, 14, 15, 16, 17, 18, 19, 20, 21, 22, 23, 24, 25, 26, 27, 28, 29, 30, 31, 32, 33, 34, 35, 36, 37, 38, 39, 40, 41, 0, 1, 2, 3, 4, 5, 6, 7, 8, 9, 10] (by decide +kernel) sb_e33f1c05a0
          clear hB hk1 hFc ht hz1 hvm hk0
          generalize H1 = H at hP hS ⊢
          obtain ⟨z65, rfl, -, ⟨okx61, okq62, okra63, okf64⟩, w67, w68, w69⟩ := hw
          have w67 := w67.symm
          subst w67
          have w68 := w68.symm
          subst w68
          subst w69
          have bc4 := cof_b (r := q) okf 0 4
          refine lv_aload_n hx hb dL_law_1037 rfl (lv_at hl 1 rfl) ?_
          refine mf_iconst hx hb dL_law_1038 ?_
          refine mf_iconst hx hb dL_law_1039 ?_
          have hk0 : kFarm f 0 0 = 0 := by exact mf_if_f (fun q => q ⟨⟨by omega, by omega⟩, by omega, by omega⟩)
          have hFc := va_free (wc := OW G ho pn pa pf ae x61 ++ RW G pn adn q ++ RW G pa ada ra63 ++ FW G pf adf f) hD hS hA [0, 1, 2, 3, 4, 5, 6, 7, 8, 9, 10, 11, 12, 13, 14, 15, 16, 17, 18, 19, 20, 21, 22, 23, 24, 25, 26, 27, 28, 29, 30] sb_66a1bed9f5
          refine vx_calli (vx_runV (As := [.int (iI (0)), .int (iI (0))]) (rest := [.int (iI (cof f q 0 4))]) ⟨hx, hb, hml, hown, hts⟩ (c_X2_farm l hl9 G ho pn pa pf ae x61 adn q ada ra63 adf f (0) (0) (i32_mk (by decide) (by decide)) (i32_mk (by decide) (by decide)) (by assumption) (by assumption) (by assumption) (by assumption) _) (cwV 2 hts gL_law_X2_farm rfl rfl rfl (by decide +kernel) ⟨Nat.le_of_ble_eq_true rfl, Nat.le_of_ble_eq_true rfl⟩) (wrVx (wc := OW G ho pn pa pf ae x61 ++ RW G pn adn q ++ RW G pa ada ra63 ++ FW G pf adf f) hSX hCX hZ hS hFc hK hP hD hN [0, 1, 2, 3, 4, 5, 6, 7, 8, 9, 10, 11, 12, 13, 14, 15, 16, 17, 18, 19, 20, 21, 22, 23, 24, 25, 26, 27, 28, 29, 30] (by decide +kernel) sb_a4303c86f1 sb_66a1bed9f5 (ci := 2) rfl rfl) rfl rfl hl.1 rfl (lv_room (Nat.le_of_ble_eq_true rfl)) dL_law_1040 ⟨(by rw [hcR]; omega), (by rw [hsR]; omega)⟩) hS (fun q _ h => hFc q h) hFc (fun q _ h => hFc q h) (fun E ce q9 _ t H1 locs ht hvm _ hB hz1 hk1 hS hce hcv hcl => ?_) (fun q70 u71 t H1 locs ht hvm hw hB hz1 hk1 hS => ?_)
          · exfalso
            have hx9 := hB.1
            rcases hx9 with ⟨-, hk9⟩ <;> omega
          obtain ⟨x72, q73, ra74, f75⟩ := u71
          try dsimp only at hw hB
          obtain ⟨hP, hD⟩ := wrJ2 (ws := OW G ho pn pa pf ae x61 ++ RW G pn adn q ++ RW G pa ada ra63 ++ FW G pf adf f ++ SW G hm adm ca nn u ++ AW G qw 384 wv ++ AW G qk 384 bv ++ AZ G qz 384 zv) (wc := OW G ho pn pa pf ae x61 ++ RW G pn adn q ++ RW G pa ada ra63 ++ FW G pf adf f) (wr := SW G hm adm ca nn u ++ AW G qw 384 wv ++ AW G qk 384 bv ++ AZ G qz 384 zv) (w1 := OW G ho pn pa pf ae x72 ++ RW G pn adn q73 ++ RW G pa ada ra74 ++ FW G pf adf f75) hP hD [0, 1, 2, 3, 4, 5, 6, 7, 8, 9, 10, 11, 12, 13, 14, 15, 16, 17, 18, 19, 20, 21, 22, 23, 24, 25, 26, 27, 28, 29, 30] [31, 32, 33, 34, 35, 36, 37, 38, 39, 40, 41] sb_66a1bed9f5 sb_4ccd58796c (by decide +kernel) (by decide +kernel) hk1 ht hFc hB
          have hP : va_P G.1 vwCl (OW G ho pn pa pf ae x72 ++ RW G pn adn q73 ++ RW G pa ada ra74 ++ FW G pf adf f75 ++ SW G hm adm ca nn u ++ AW G qw 384 wv ++ AW G qk 384 bv ++ AZ G qz 384 zv) H1 := hP.sub [11, 12, 13, 14, 15, 16, 17, 18, 19, 20, 21, 22, 23, 24, 25, 26, 27, 28, 29, 30, 31, 32, 33, 34, 35, 36, 37, 38, 39, 40, 41, 0, 1, 2, 3, 4, 5, 6, 7, 8, 9, 10] sb_eac6f2d681
          have hD : va_D A (OW G ho pn pa pf ae x72 ++ RW G pn adn q73 ++ RW G pa ada ra74 ++ FW G pf adf f75 ++ SW G hm adm ca nn u ++ AW G qw 384 wv ++ AW G qk 384 bv ++ AZ G qz 384 zv) := hD.sub [11, 12, 13, 14, 15, 16, 17, 18, 19, 20, 21, 22, 23, 24, 25, 26, 27, 28, 29, 30, 31, 32, 33, 34, 35, 36, 37, 38, 39, 40, 41, 0, 1, 2, 3, 4, 5, 6, 7, 8, 9, 10] (by decide +kernel) sb_e33f1c05a0
          clear hB hk1 hFc ht hz1 hvm hk0
          generalize H1 = H at hP hS ⊢
          obtain ⟨z76, rfl, -, ⟨okx72, okq73, okra74, okf75⟩, w78, w79, w80⟩ := hw
          have w78 := w78.symm
          subst w78
          have w79 := w79.symm
          subst w79
          subst w80
          refine mf_icmp_le (tgt := 1048) hx hb dL_law_1043 (by decide) (i32_mk (by omega) (by omega)) (i32_mk (by omega) (by omega)) (fun c81 => ?_) (fun c81 => ?_)
          · skip
            refine lv_iinc (v := iI (tv + 1)) (lv' := [(4, .int (iI (tv + 1))), (0, .ref b), (1, .ref ho), (2, .ref hm), (21, .int (iI (lakesF q)))]) hx hb dL_law_1048 hl (k := 3) rfl (iI_add _ _).symm (by decide) rfl (fun ls hl => ?_)
            refine lv_goto (tgt := 108) hx hb dL_law_1051 (by decide) ?_
            have hP : va_P G.1 vwCl (OW G ho pn pa pf ae x72 ++ RW G pn adn q ++ RW G pa ada ra74 ++ FW G pf adf f ++ SW G hm adm ca nn u) H := hP.sub [0, 1, 2, 3, 4, 5, 6, 7, 8, 9, 10, 11, 12, 13, 14, 15, 16, 17, 18, 19, 20, 21, 22, 23, 24, 25, 26, 27, 28, 29, 30, 31, 32, 33, 34, 35, 36, 37, 38] rfl
            have hD : va_D A (OW G ho pn pa pf ae x72 ++ RW G pn adn q ++ RW G pa ada ra74 ++ FW G pf adf f ++ SW G hm adm ca nn u) := hD.sub [0, 1, 2, 3, 4, 5, 6, 7, 8, 9, 10, 11, 12, 13, 14, 15, 16, 17, 18, 19, 20, 21, 22, 23, 24, 25, 26, 27, 28, 29, 30, 31, 32, 33, 34, 35, 36, 37, 38] (by decide +kernel) rfl
            skip
            refine W.widen (k := cells + 7) (n := slots + 42) (by omega) (by omega) ?_
            exact kk x72 ra74 (okx72) (okra74) H locs ls hP hD hS (lv_sub hl [1, 2, 3, 0] rfl)
          · skip
            exfalso; have := cof_stones (r := q) okf 0; omega
      · skip
        exact absurd rfl c13
    refine lv_iload hx hb dL_law_947 (lv_at hl 11 rfl) ?_
    refine mf_iconst hx hb dL_law_949 ?_
    refine mf_icmp_ne (tgt := 973) hx hb dL_law_950 (by decide) (i32_mk (by omega) (by omega)) (i32_mk (by decide) (by decide)) (fun c82 => ?_) (fun c82 => ?_)
    · skip
      refine lv_iload hx hb dL_law_973 (lv_at hl 11 rfl) ?_
      refine mf_if_ne (tgt := 990) hx hb dL_law_975 (by decide) (i32_mk (by omega) (by omega)) (fun c83 => ?_) (fun c83 => ?_)
      · skip
        exact lp990  (by trivial) _ _ hP hD hS ls (lv_sub hl [0, 1, 2, 3, 12] rfl)
      · skip
        refine lv_iload hx hb dL_law_978 (lv_at hl 9 rfl) ?_
        refine mf_if_ne (tgt := 990) hx hb dL_law_980 (by decide) (i32_mk (by omega) (by omega)) (fun c84 => ?_) (fun c84 => ?_)
        · skip
          exact lp990  (by trivial) _ _ hP hD hS ls (lv_sub hl [0, 1, 2, 3, 12] rfl)
        · skip
          refine lv_iload hx hb dL_law_983 (lv_at hl 8 rfl) ?_
          refine lv_iload hx hb dL_law_985 (lv_at hl 4 rfl) ?_
          refine mf_icmp_ne (tgt := 1000) hx hb dL_law_987 (by decide) (i32_mk (by omega) (by omega)) (i32_mk (by omega) (by omega)) (fun c85 => ?_) (fun c85 => ?_)
          · skip
            exfalso; have := hy9 (by omega) (by omega); omega
          · skip
            exact lp990  (by trivial) _ _ hP hD hS ls (lv_sub hl [0, 1, 2, 3, 12] rfl)
    · skip
      refine lv_iload hx hb dL_law_953 (lv_at hl 9 rfl) ?_
      refine mf_if_ne (tgt := 973) hx hb dL_law_955 (by decide) (i32_mk (by omega) (by omega)) (fun c86 => ?_) (fun c86 => ?_)
      · skip
        refine lv_iload hx hb dL_law_973 (lv_at hl 11 rfl) ?_
        refine mf_if_ne (tgt := 990) hx hb dL_law_975 (by decide) (i32_mk (by omega) (by omega)) (fun c87 => ?_) (fun c87 => ?_)
        · skip
          exact lp990  (by trivial) _ _ hP hD hS ls (lv_sub hl [0, 1, 2, 3, 12] rfl)
        · skip
          refine lv_iload hx hb dL_law_978 (lv_at hl 9 rfl) ?_
          refine mf_if_ne (tgt := 990) hx hb dL_law_980 (by decide) (i32_mk (by omega) (by omega)) (fun c88 => ?_) (fun c88 => ?_)
          · skip
            exact lp990  (by trivial) _ _ hP hD hS ls (lv_sub hl [0, 1, 2, 3, 12] rfl)
          · skip
            refine lv_iload hx hb dL_law_983 (lv_at hl 8 rfl) ?_
            refine lv_iload hx hb dL_law_985 (lv_at hl 4 rfl) ?_
            refine mf_icmp_ne (tgt := 1000) hx hb dL_law_987 (by decide) (i32_mk (by omega) (by omega)) (i32_mk (by omega) (by omega)) (fun c89 => ?_) (fun c89 => ?_)
            · skip
              exfalso; have := hy9 (by omega) (by omega); omega
            · skip
              exact lp990  (by trivial) _ _ hP hD hS ls (lv_sub hl [0, 1, 2, 3, 12] rfl)
      · skip
        refine lv_iload hx hb dL_law_958 (lv_at hl 13 rfl) ?_
        refine mf_iconst hx hb dL_law_960 ?_
        refine mf_icmp_ne (tgt := 1000) hx hb dL_law_961 (by decide) (i32_mk (by omega) (by omega)) (i32_mk (by decide) (by decide)) (fun c90 => ?_) (fun c90 => ?_)
        · skip
          exfalso; have := (hy8 (by omega) (by omega)).1; omega
        · skip
          refine lv_iload hx hb dL_law_964 (lv_at hl 8 rfl) ?_
          refine lv_iload hx hb dL_law_966 (lv_at hl 4 rfl) ?_
          refine mf_iconst hx hb dL_law_968 ?_
          refine mf_iadd hx hb dL_law_969 ?_
          refine mf_icmp_ne (tgt := 1000) hx hb dL_law_970 (by decide) (i32_mk (by omega) (by omega)) (i32_mk (by omega) (by omega)) (fun c91 => ?_) (fun c91 => ?_)
          · skip
            exfalso; have := (hy8 (by omega) (by omega)).2; omega
          · skip
            refine lv_iload hx hb dL_law_973 (lv_at hl 11 rfl) ?_
            refine mf_if_ne (tgt := 990) hx hb dL_law_975 (by decide) (i32_mk (by omega) (by omega)) (fun c92 => ?_) (fun c92 => ?_)
            · skip
              exact lp990  (by trivial) _ _ hP hD hS ls (lv_sub hl [0, 1, 2, 3, 12] rfl)
            · skip
              refine lv_iload hx hb dL_law_978 (lv_at hl 9 rfl) ?_
              refine mf_if_ne (tgt := 990) hx hb dL_law_980 (by decide) (i32_mk (by omega) (by omega)) (fun c93 => ?_) (fun c93 => ?_)
              · skip
                exact lp990  (by trivial) _ _ hP hD hS ls (lv_sub hl [0, 1, 2, 3, 12] rfl)
              · skip
                refine lv_iload hx hb dL_law_983 (lv_at hl 8 rfl) ?_
                refine lv_iload hx hb dL_law_985 (lv_at hl 4 rfl) ?_
                refine mf_icmp_ne (tgt := 1000) hx hb dL_law_987 (by decide) (i32_mk (by omega) (by omega)) (i32_mk (by omega) (by omega)) (fun c94 => ?_) (fun c94 => ?_)
                · skip
                  exfalso; have := hy9 (by omega) (by omega); omega
                · skip
                  exact lp990  (by trivial) _ _ hP hD hS ls (lv_sub hl [0, 1, 2, 3, 12] rfl)
