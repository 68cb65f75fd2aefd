/-! 72.law4: a year of the law, a part of it -/
set_option maxHeartbeats 4000000 in
set_option maxRecDepth 100000 in
theorem sg_4 {p : Program} {l : Launch} {e : Env} {s : State} {m : MethodId} {below : List Frame} {meth : Method} {c : Code} {Q : State → Prop} {b L : Nat} {xs : Nat → Int32} {G : mf_G} {A : Nat → Prop} (E : LEp p l s m meth c b L xs G A) (hL : L ≤ 260) {ho pn pa pf ae hm : Nat} {adn ada adf adm : Nat → Nat} {f : mf_V} (okf : rOK flo fhi f) (hf4 : f 4 0 = 1) (hFI : FInv f) {x : mf_V} {q : mf_V} {ra : mf_V} {u : mf_V} {r : mf_V} {ca : Nat} {nn : Nat} {qw : Nat} {qk : Nat} {qz : Nat} {wv : mf_V} {bv : mf_V} {zv : mf_V} {tv : Int} {bz : Int} {lv : Int} {cells slots : Nat} {H : Heap} {locs : List Loc} {ls : Array Slot} (hLQ : LQs (9 + 2 * tv) x q ra f nn u) (hyL : YearL r q bz (r 5 (tv % 12))) (hokr : rOK rlo rhi r) (h8 : q 8 0 = tv + 1) (ht : 0 ≤ tv ∧ tv < 24) (hlv : (lv = 1 ↔ cof f q 0 1 < cof f r 0 1) ∧ -1 ≤ lv ∧ lv ≤ 60) (hcl : cells + 5 ≤ 600104 ∧ slots + 30 ≤ 7301314) (hP : va_P G.1 vwCl (OW G ho pn pa pf ae x ++ RW G pn adn q ++ RW G pa ada ra ++ FW G pf adf f ++ SW G hm adm ca nn u ++ AW G qw 384 wv ++ AW G qk 384 bv ++ AZ G qz 384 zv) H) (hD : va_D A (OW G ho pn pa pf ae x ++ RW G pn adn q ++ RW G pa ada ra ++ FW G pf adf f ++ SW G hm adm ca nn u ++ AW G qw 384 wv ++ AW G qk 384 bv ++ AZ G qz 384 zv)) (hS : va_S A s.heap H locs) (hl : lv_has ls 27 [(0, .ref b), (1, .ref ho), (2, .ref hm), (4, .int (iI (tv))), (6, .int (iI (r 7 0))), (7, .ref qw), (8, .ref qk), (9, .ref qz), (10, .int (iI (q 7 0))), (11, .int (iI (q 9 0 - r 9 0))), (12, .int (iI (bz))), (13, .int (iI (lv))), (14, .int (iI (cof f r 0 1))), (15, .int (iI (r 9 0))), (16, .int (iI (r 5 (tv % 12)))), (17, .int (iI (bz)))])
    (kk : ∀ (x' : mf_V) (ra' : mf_V), (rOK xlo xhi x') → (rOK rlo rhi ra') → ∀ (H : Heap) (locs : List Loc) (ls : Array Slot), va_P G.1 vwCl (OW G ho pn pa pf ae x' ++ RW G pn adn q ++ RW G pa ada ra' ++ FW G pf adf f ++ SW G hm adm ca nn u ++ AW G qw 384 wv ++ AW G qk 384 bv ++ AZ G qz 384 zv) H → va_D A (OW G ho pn pa pf ae x' ++ RW G pn adn q ++ RW G pa ada ra' ++ FW G pf adf f ++ SW G hm adm ca nn u ++ AW G qw 384 wv ++ AW G qk 384 bv ++ AZ G qz 384 zv) → va_S A s.heap H locs → lv_has ls 27 [(0, .ref b), (1, .ref ho), (2, .ref hm), (4, .int (iI (tv))), (6, .int (iI (r 7 0))), (7, .ref qw), (8, .ref qk), (9, .ref qz), (10, .int (iI (q 7 0))), (11, .int (iI (q 9 0 - r 9 0))), (16, .int (iI (r 5 (tv % 12)))), (17, .int (iI (bz)))] → W p l e room_1 s m #[Value.ref b] below meth c H locs (cells + 5) (slots + 30) Q (F0 m 505 ls [])) :
    W p l e room_1 s m #[Value.ref b] below meth c H locs cells slots Q (F0 m 396 ls []) := by
  obtain ⟨hx, hb, hr, hml, hown, hts, hXs, hbl, hl9, hK, hN, hSX, hCX, hZ, hA, hbA⟩ := E
  have hcR : room_1.cells = 600104 := rfl
  have hsR : room_1.slots = 7301314 := rfl
  have hinX3 := inlX3
  have hinX2 := inlX2
  obtain ⟨⟨okx, ok, okra, -⟩, hPI, hB, oku, hrel⟩ := id hLQ
  have hI := hPI.1
  have h27 := hI.1.1
  have okLr : (0 : Int) ≤ q 7 0 ∧ q 7 0 ≤ 150 := ok 7 0
  have okL8 : (0 : Int) ≤ q 8 0 ∧ q 8 0 ≤ 90000 := ok 8 0
  have okL9 : (0 : Int) ≤ q 9 0 ∧ q 9 0 ≤ 100000000 := ok 9 0
  have b9 := hB.2.1
  have okR9 : (0 : Int) ≤ r 9 0 ∧ r 9 0 ≤ 100000000 := hokr 9 0
  have okR7 : (0 : Int) ≤ r 7 0 ∧ r 7 0 ≤ 150 := hokr 7 0
  have hb01 := hyL.1
  have hle := hyL.2.1
  have bfl : (0 : Int) ≤ r 5 (tv % 12) ∧ r 5 (tv % 12) ≤ 9 := hokr 5 _
  have bcr := cof_b (r := r) okf 0 1
  have hlv2 := hlv.2
  refine lv_iload hx hb dL_law_396 (lv_at hl 15 rfl) ?_
  refine lv_iload hx hb dL_law_398 (lv_at hl 10 rfl) ?_
  refine mf_icmp_ne (tgt := 456) hx hb dL_law_400 (by decide) (i32_mk (by omega) (by omega)) (i32_mk (by omega) (by omega)) (fun c1 => ?_) (fun c1 => ?_)
  · skip
    exact absurd rfl c1
  · skip
    refine lv_iload hx hb dL_law_403 (lv_at hl 15 rfl) ?_
    refine mf_iconst hx hb dL_law_405 ?_
    refine mf_icmp_gt (tgt := 456) hx hb dL_law_406 (by decide) (i32_mk (by omega) (by omega)) (i32_mk (by decide) (by decide)) (fun c2 => ?_) (fun c2 => ?_)
    · skip
      exfalso; omega
    · skip
      refine lv_aload_n hx hb dL_law_409 rfl (lv_at hl 1 rfl) ?_
      refine mf_iconst hx hb dL_law_410 ?_
      have hk0 : kRng 0 7 1 = 0 := by exact mf_if_f (fun q => q ⟨by omega, by omega⟩)
      have hFc := va_free (wc := OW G ho pn pa pf ae x ++ RW G pn adn q ++ RW G pa ada ra ++ FW G pf adf f) hD hS hA [0, 1, 2, 3, 4, 5, 6, 7, 8, 9, 10, 11, 12, 13, 14, 15, 16, 17, 18, 19, 20, 21, 22, 23, 24, 25, 26, 27, 28, 29, 30] sb_66a1bed9f5
      refine vx_calli (vx_runV (As := [.int (iI (1))]) (rest := []) ⟨hx, hb, hml, hown, hts⟩ (c_X2_count l hl9 G ho pn pa pf ae x adn q ada ra adf f (1) (i32_mk (by decide) (by decide)) (by assumption) (by assumption) (by assumption) (by assumption) (by first | assumption | omega) _) (cwV 1 hts gL_law_X2_count rfl rfl rfl (by decide +kernel) ⟨Nat.le_of_ble_eq_true rfl, Nat.le_of_ble_eq_true rfl⟩) (wrVx (wc := OW G ho pn pa pf ae x ++ RW G pn adn q ++ RW G pa ada ra ++ FW G pf adf f) hSX hCX hZ hS hFc hK hP hD hN [0, 1, 2, 3, 4, 5, 6, 7, 8, 9, 10, 11, 12, 13, 14, 15, 16, 17, 18, 19, 20, 21, 22, 23, 24, 25, 26, 27, 28, 29, 30] (by decide +kernel) sb_a4303c86f1 sb_66a1bed9f5 (ci := 2) rfl rfl) rfl rfl hl.1 rfl (lv_room (Nat.le_of_ble_eq_true rfl)) dL_law_411 ⟨(by rw [hcR]; omega), (by rw [hsR]; omega)⟩) hS (fun q _ h => hFc q h) hFc (fun q _ h => hFc q h) (fun E ce q9 _ t H1 locs ht hvm _ hB hz1 hk1 hS hce hcv hcl => ?_) (fun q3 u4 t H1 locs ht hvm hw hB hz1 hk1 hS => ?_)
      · exfalso
        have hx9 := hB.1
        rcases hx9 with ⟨-, hk9⟩ <;> omega
      obtain ⟨x5, q6, ra7, f8⟩ := u4
      try dsimp only at hw hB
      obtain ⟨hP, hD⟩ := wrJ2 (ws := OW G ho pn pa pf ae x ++ RW G pn adn q ++ RW G pa ada ra ++ FW G pf adf f ++ SW G hm adm ca nn u ++ AW G qw 384 wv ++ AW G qk 384 bv ++ AZ G qz 384 zv) (wc := OW G ho pn pa pf ae x ++ RW G pn adn q ++ RW G pa ada ra ++ FW G pf adf f) (wr := SW G hm adm ca nn u ++ AW G qw 384 wv ++ AW G qk 384 bv ++ AZ G qz 384 zv) (w1 := OW G ho pn pa pf ae x5 ++ RW G pn adn q6 ++ RW G pa ada ra7 ++ FW G pf adf f8) hP hD [0, 1, 2, 3, 4, 5, 6, 7, 8, 9, 10, 11, 12, 13, 14, 15, 16, 17, 18, 19, 20, 21, 22, 23, 24, 25, 26, 27, 28, 29, 30] [31, 32, 33, 34, 35, 36, 37, 38, 39, 40, 41] sb_66a1bed9f5 sb_4ccd58796c (by decide +kernel) (by decide +kernel) hk1 ht hFc hB
      have hP : va_P G.1 vwCl (OW G ho pn pa pf ae x5 ++ RW G pn adn q6 ++ RW G pa ada ra7 ++ FW G pf adf f8 ++ SW G hm adm ca nn u ++ AW G qw 384 wv ++ AW G qk 384 bv ++ AZ G qz 384 zv) H1 := hP.sub [11, 12, 13, 14, 15, 16, 17, 18, 19, 20, 21, 22, 23, 24, 25, 26, 27, 28, 29, 30, 31, 32, 33, 34, 35, 36, 37, 38, 39, 40, 41, 0, 1, 2, 3, 4, 5, 6, 7, 8, 9, 10] sb_eac6f2d681
      have hD : va_D A (OW G ho pn pa pf ae x5 ++ RW G pn adn q6 ++ RW G pa ada ra7 ++ FW G pf adf f8 ++ SW G hm adm ca nn u ++ AW G qw 384 wv ++ AW G qk 384 bv ++ AZ G qz 384 zv) := hD.sub [11, 12, 13, 14, 15, 16, 17, 18, 19, 20, 21, 22, 23, 24, 25, 26, 27, 28, 29, 30, 31, 32, 33, 34, 35, 36, 37, 38, 39, 40, 41, 0, 1, 2, 3, 4, 5, 6, 7, 8, 9, 10] (by decide +kernel) sb_e33f1c05a0
      clear hB hk1 hFc ht hz1 hvm hk0
      generalize H1 = H at hP hS ⊢
      obtain ⟨z9, rfl, -, ⟨okx5, okq6, okra7, okf8⟩, w11, w12, w13⟩ := hw
      have w11 := w11.symm
      subst w11
      have w12 := w12.symm
      subst w12
      subst w13
      refine mf_top (totF q (f 4 0) 1) (q 7 0) (by unfold totF; rw [if_neg (by decide)]; rw [if_pos rfl]) ?_
      skip
      refine lv_iload hx hb dL_law_414 (lv_at hl 8 rfl) ?_
      refine mf_icmp_ne (tgt := 456) hx hb dL_law_416 (by decide) (i32_mk (by omega) (by omega)) (i32_mk (by omega) (by omega)) (fun c14 => ?_) (fun c14 => ?_)
      · skip
        exact absurd rfl c14
      · skip
        refine lv_aload_n hx hb dL_law_419 rfl (lv_at hl 1 rfl) ?_
        refine mf_iconst hx hb dL_law_420 ?_
        have hk0 : kRng 0 7 3 = 0 := by exact mf_if_f (fun q => q ⟨by omega, by omega⟩)
        have hFc := va_free (wc := OW G ho pn pa pf ae x5 ++ RW G pn adn q ++ RW G pa ada ra7 ++ FW G pf adf f) hD hS hA [0, 1, 2, 3, 4, 5, 6, 7, 8, 9, 10, 11, 12, 13, 14, 15, 16, 17, 18, 19, 20, 21, 22, 23, 24, 25, 26, 27, 28, 29, 30] sb_66a1bed9f5
        refine vx_calli (vx_runV (As := [.int (iI (3))]) (rest := []) ⟨hx, hb, hml, hown, hts⟩ (c_X2_count l hl9 G ho pn pa pf ae x5 adn q ada ra7 adf f (3) (i32_mk (by decide) (by decide)) (by assumption) (by assumption) (by assumption) (by assumption) (by first | assumption | omega) _) (cwV 1 hts gL_law_X2_count rfl rfl rfl (by decide +kernel) ⟨Nat.le_of_ble_eq_true rfl, Nat.le_of_ble_eq_true rfl⟩) (wrVx (wc := OW G ho pn pa pf ae x5 ++ RW G pn adn q ++ RW G pa ada ra7 ++ FW G pf adf f) hSX hCX hZ hS hFc hK hP hD hN [0, 1, 2, 3, 4, 5, 6, 7, 8, 9, 10, 11, 12, 13, 14, 15, 16, 17, 18, 19, 20, 21, 22, 23, 24, 25, 26, 27, 28, 29, 30] (by decide +kernel) sb_a4303c86f1 sb_66a1bed9f5 (ci := 2) rfl rfl) rfl rfl hl.1 rfl (lv_room (Nat.le_of_ble_eq_true rfl)) dL_law_421 ⟨(by rw [hcR]; omega), (by rw [hsR]; omega)⟩) hS (fun q _ h => hFc q h) hFc (fun q _ h => hFc q h) (fun E ce q9 _ t H1 locs ht hvm _ hB hz1 hk1 hS hce hcv hcl => ?_) (fun q15 u16 t H1 locs ht hvm hw hB hz1 hk1 hS => ?_)
        · exfalso
          have hx9 := hB.1
          rcases hx9 with ⟨-, hk9⟩ <;> omega
        obtain ⟨x17, q18, ra19, f20⟩ := u16
        try dsimp only at hw hB
        obtain ⟨hP, hD⟩ := wrJ2 (ws := OW G ho pn pa pf ae x5 ++ RW G pn adn q ++ RW G pa ada ra7 ++ FW G pf adf f ++ SW G hm adm ca nn u ++ AW G qw 384 wv ++ AW G qk 384 bv ++ AZ G qz 384 zv) (wc := OW G ho pn pa pf ae x5 ++ RW G pn adn q ++ RW G pa ada ra7 ++ FW G pf adf f) (wr := SW G hm adm ca nn u ++ AW G qw 384 wv ++ AW G qk 384 bv ++ AZ G qz 384 zv) (w1 := OW G ho pn pa pf ae x17 ++ RW G pn adn q18 ++ RW G pa ada ra19 ++ FW G pf adf f20) hP hD [0, 1, 2, 3, 4, 5, 6, 7, 8, 9, 10, 11, 12, 13, 14, 15, 16, 17, 18, 19, 20, 21, 22, 23, 24, 25, 26, 27, 28, 29, 30] [31, 32, 33, 34, 35, 36, 37, 38, 39, 40, 41] sb_66a1bed9f5 sb_4ccd58796c (by decide +kernel) (by decide +kernel) hk1 ht hFc hB
        have hP : va_P G.1 vwCl (OW G ho pn pa pf ae x17 ++ RW G pn adn q18 ++ RW G pa ada ra19 ++ FW G pf adf f20 ++ SW G hm adm ca nn u ++ AW G qw 384 wv ++ AW G qk 384 bv ++ AZ G qz 384 zv) H1 := hP.sub [11, 12, 13, 14, 15, 16, 17, 18, 19, 20, 21, 22, 23, 24, 25, 26, 27, 28, 29, 30, 31, 32, 33, 34, 35, 36, 37, 38, 39, 40, 41, 0, 1, 2, 3, 4, 5, 6, 7, 8, 9, 10] sb_eac6f2d681
        have hD : va_D A (OW G ho pn pa pf ae x17 ++ RW G pn adn q18 ++ RW G pa ada ra19 ++ FW G pf adf f20 ++ SW G hm adm ca nn u ++ AW G qw 384 wv ++ AW G qk 384 bv ++ AZ G qz 384 zv) := hD.sub [11, 12, 13, 14, 15, 16, 17, 18, 19, 20, 21, 22, 23, 24, 25, 26, 27, 28, 29, 30, 31, 32, 33, 34, 35, 36, 37, 38, 39, 40, 41, 0, 1, 2, 3, 4, 5, 6, 7, 8, 9, 10] (by decide +kernel) sb_e33f1c05a0
        clear hB hk1 hFc ht hz1 hvm hk0
        generalize H1 = H at hP hS ⊢
        obtain ⟨z21, rfl, -, ⟨okx17, okq18, okra19, okf20⟩, w23, w24, w25⟩ := hw
        have w23 := w23.symm
        subst w23
        have w24 := w24.symm
        subst w24
        subst w25
        refine mf_top (totF q (f 4 0) 3) (q 9 0) (by unfold totF; rw [if_neg (by decide)]; rw [if_neg (by decide)]; rw [if_neg (by decide)]; rw [if_pos rfl]) ?_
        skip
        refine lv_iload hx hb dL_law_424 (lv_at hl 13 rfl) ?_
        refine lv_iload hx hb dL_law_426 (lv_at hl 9 rfl) ?_
        refine mf_iadd hx hb dL_law_428 ?_
        refine mf_icmp_ne (tgt := 456) hx hb dL_law_429 (by decide) (i32_mk (by omega) (by omega)) (i32_mk (by omega) (by omega)) (fun c26 => ?_) (fun c26 => ?_)
        · skip
          exfalso; omega
        · skip
          refine lv_aload_n hx hb dL_law_432 rfl (lv_at hl 1 rfl) ?_
          refine mf_iconst hx hb dL_law_433 ?_
          have hk0 : kRng 0 7 0 = 0 := by exact mf_if_f (fun q => q ⟨by omega, by omega⟩)
          have hFc := va_free (wc := OW G ho pn pa pf ae x17 ++ RW G pn adn q ++ RW G pa ada ra19 ++ FW G pf adf f) hD hS hA [0, 1, 2, 3, 4, 5, 6, 7, 8, 9, 10, 11, 12, 13, 14, 15, 16, 17, 18, 19, 20, 21, 22, 23, 24, 25, 26, 27, 28, 29, 30] sb_66a1bed9f5
          refine vx_calli (vx_runV (As := [.int (iI (0))]) (rest := []) ⟨hx, hb, hml, hown, hts⟩ (c_X2_count l hl9 G ho pn pa pf ae x17 adn q ada ra19 adf f (0) (i32_mk (by decide) (by decide)) (by assumption) (by assumption) (by assumption) (by assumption) (by first | assumption | omega) _) (cwV 1 hts gL_law_X2_count rfl rfl rfl (by decide +kernel) ⟨Nat.le_of_ble_eq_true rfl, Nat.le_of_ble_eq_true rfl⟩) (wrVx (wc := OW G ho pn pa pf ae x17 ++ RW G pn adn q ++ RW G pa ada ra19 ++ FW G pf adf f) hSX hCX hZ hS hFc hK hP hD hN [0, 1, 2, 3, 4, 5, 6, 7, 8, 9, 10, 11, 12, 13, 14, 15, 16, 17, 18, 19, 20, 21, 22, 23, 24, 25, 26, 27, 28, 29, 30] (by decide +kernel) sb_a4303c86f1 sb_66a1bed9f5 (ci := 2) rfl rfl) rfl rfl hl.1 rfl (lv_room (Nat.le_of_ble_eq_true rfl)) dL_law_434 ⟨(by rw [hcR]; omega), (by rw [hsR]; omega)⟩) hS (fun q _ h => hFc q h) hFc (fun q _ h => hFc q h) (fun E ce q9 _ t H1 locs ht hvm _ hB hz1 hk1 hS hce hcv hcl => ?_) (fun q27 u28 t H1 locs ht hvm hw hB hz1 hk1 hS => ?_)
          · exfalso
            have hx9 := hB.1
            rcases hx9 with ⟨-, hk9⟩ <;> omega
          obtain ⟨x29, q30, ra31, f32⟩ := u28
          try dsimp only at hw hB
          obtain ⟨hP, hD⟩ := wrJ2 (ws := OW G ho pn pa pf ae x17 ++ RW G pn adn q ++ RW G pa ada ra19 ++ FW G pf adf f ++ SW G hm adm ca nn u ++ AW G qw 384 wv ++ AW G qk 384 bv ++ AZ G qz 384 zv) (wc := OW G ho pn pa pf ae x17 ++ RW G pn adn q ++ RW G pa ada ra19 ++ FW G pf adf f) (wr := SW G hm adm ca nn u ++ AW G qw 384 wv ++ AW G qk 384 bv ++ AZ G qz 384 zv) (w1 := OW G ho pn pa pf ae x29 ++ RW G pn adn q30 ++ RW G pa ada ra31 ++ FW G pf adf f32) hP hD [0, 1, 2, 3, 4, 5, 6, 7, 8, 9, 10, 11, 12, 13, 14, 15, 16, 17, 18, 19, 20, 21, 22, 23, 24, 25, 26, 27, 28, 29, 30] [31, 32, 33, 34, 35, 36, 37, 38, 39, 40, 41] sb_66a1bed9f5 sb_4ccd58796c (by decide +kernel) (by decide +kernel) hk1 ht hFc hB
          have hP : va_P G.1 vwCl (OW G ho pn pa pf ae x29 ++ RW G pn adn q30 ++ RW G pa ada ra31 ++ FW G pf adf f32 ++ SW G hm adm ca nn u ++ AW G qw 384 wv ++ AW G qk 384 bv ++ AZ G qz 384 zv) H1 := hP.sub [11, 12, 13, 14, 15, 16, 17, 18, 19, 20, 21, 22, 23, 24, 25, 26, 27, 28, 29, 30, 31, 32, 33, 34, 35, 36, 37, 38, 39, 40, 41, 0, 1, 2, 3, 4, 5, 6, 7, 8, 9, 10] sb_eac6f2d681
          have hD : va_D A (OW G ho pn pa pf ae x29 ++ RW G pn adn q30 ++ RW G pa ada ra31 ++ FW G pf adf f32 ++ SW G hm adm ca nn u ++ AW G qw 384 wv ++ AW G qk 384 bv ++ AZ G qz 384 zv) := hD.sub [11, 12, 13, 14, 15, 16, 17, 18, 19, 20, 21, 22, 23, 24, 25, 26, 27, 28, 29, 30, 31, 32, 33, 34, 35, 36, 37, 38, 39, 40, 41, 0, 1, 2, 3, 4, 5, 6, 7, 8, 9, 10] (by decide +kernel) sb_e33f1c05a0
          clear hB hk1 hFc ht hz1 hvm hk0
          generalize H1 = H at hP hS ⊢
          obtain ⟨z33, rfl, -, ⟨okx29, okq30, okra31, okf32⟩, w35, w36, w37⟩ := hw
          have w35 := w35.symm
          subst w35
          have w36 := w36.symm
          subst w36
          subst w37
          refine mf_top (totF q (f 4 0) 0) (q 8 0) (by unfold totF;  rw [if_pos rfl]) ?_
          skip
          refine lv_iload hx hb dL_law_437 (lv_at hl 3 rfl) ?_
          refine mf_iconst hx hb dL_law_439 ?_
          refine mf_iadd hx hb dL_law_440 ?_
          refine mf_icmp_ne (tgt := 456) hx hb dL_law_441 (by decide) (i32_mk (by omega) (by omega)) (i32_mk (by omega) (by omega)) (fun c38 => ?_) (fun c38 => ?_)
          · skip
            exfalso; omega
          · skip
            refine lv_iload hx hb dL_law_444 (lv_at hl 9 rfl) ?_
            refine mf_if_le (tgt := 458) hx hb dL_law_446 (by decide) (i32_mk (by omega) (by omega)) (fun c39 => ?_) (fun c39 => ?_)
            · skip
              refine lv_iload hx hb dL_law_458 (lv_at hl 11 rfl) ?_
              refine mf_iconst hx hb dL_law_460 ?_
              refine mf_icmp_ne (tgt := 468) hx hb dL_law_461 (by decide) (i32_mk (by omega) (by omega)) (i32_mk (by decide) (by decide)) (fun c40 => ?_) (fun c40 => ?_)
              · skip
                refine mf_iconst hx hb dL_law_468 ?_
                refine lv_aload_n hx hb dL_law_469 rfl (lv_at hl 1 rfl) ?_
                refine mf_iconst hx hb dL_law_470 ?_
                refine mf_iconst hx hb dL_law_471 ?_
                have hk0 : kFarm f 0 1 = 0 := by exact mf_if_f (fun q => q ⟨⟨by omega, by omega⟩, by omega, by omega⟩)
                have hFc := va_free (wc := OW G ho pn pa pf ae x29 ++ RW G pn adn q ++ RW G pa ada ra31 ++ FW G pf adf f) hD hS hA [0, 1, 2, 3, 4, 5, 6, 7, 8, 9, 10, 11, 12, 13, 14, 15, 16, 17, 18, 19, 20, 21, 22, 23, 24, 25, 26, 27, 28, 29, 30] sb_66a1bed9f5
                refine vx_calli (vx_runV (As := [.int (iI (0)), .int (iI (1))]) (rest := [.int (iI (0))]) ⟨hx, hb, hml, hown, hts⟩ (c_X2_farm l hl9 G ho pn pa pf ae x29 adn q ada ra31 adf f (0) (1) (i32_mk (by decide) (by decide)) (i32_mk (by decide) (by decide)) (by assumption) (by assumption) (by assumption) (by assumption) _) (cwV 2 hts gL_law_X2_farm rfl rfl rfl (by decide +kernel) ⟨Nat.le_of_ble_eq_true rfl, Nat.le_of_ble_eq_true rfl⟩) (wrVx (wc := OW G ho pn pa pf ae x29 ++ RW G pn adn q ++ RW G pa ada ra31 ++ FW G pf adf f) hSX hCX hZ hS hFc hK hP hD hN [0, 1, 2, 3, 4, 5, 6, 7, 8, 9, 10, 11, 12, 13, 14, 15, 16, 17, 18, 19, 20, 21, 22, 23, 24, 25, 26, 27, 28, 29, 30] (by decide +kernel) sb_a4303c86f1 sb_66a1bed9f5 (ci := 2) rfl rfl) rfl rfl hl.1 rfl (lv_room (Nat.le_of_ble_eq_true rfl)) dL_law_472 ⟨(by rw [hcR]; omega), (by rw [hsR]; omega)⟩) hS (fun q _ h => hFc q h) hFc (fun q _ h => hFc q h) (fun E ce q9 _ t H1 locs ht hvm _ hB hz1 hk1 hS hce hcv hcl => ?_) (fun q41 u42 t H1 locs ht hvm hw hB hz1 hk1 hS => ?_)
                · exfalso
                  have hx9 := hB.1
                  rcases hx9 with ⟨-, hk9⟩ <;> omega
                obtain ⟨x43, q44, ra45, f46⟩ := u42
                try dsimp only at hw hB
                obtain ⟨hP, hD⟩ := wrJ2 (ws := OW G ho pn pa pf ae x29 ++ RW G pn adn q ++ RW G pa ada ra31 ++ FW G pf adf f ++ SW G hm adm ca nn u ++ AW G qw 384 wv ++ AW G qk 384 bv ++ AZ G qz 384 zv) (wc := OW G ho pn pa pf ae x29 ++ RW G pn adn q ++ RW G pa ada ra31 ++ FW G pf adf f) (wr := SW G hm adm ca nn u ++ AW G qw 384 wv ++ AW G qk 384 bv ++ AZ G qz 384 zv) (w1 := OW G ho pn pa pf ae x43 ++ RW G pn adn q44 ++ RW G pa ada ra45 ++ FW G pf adf f46) hP hD [0, 1, 2, 3, 4, 5, 6, 7, 8, 9, 10, 11, 12, 13, 14, 15, 16, 17, 18, 19, 20, 21, 22, 23, 24, 25, 26, 27, 28, 29, 30] [31, 32, 33, 34, 35, 36, 37, 38, 39, 40, 41] sb_66a1bed9f5 sb_4ccd58796c (by decide +kernel) (by decide +kernel) hk1 ht hFc hB
                have hP : va_P G.1 vwCl (OW G ho pn pa pf ae x43 ++ RW G pn adn q44 ++ RW G pa ada ra45 ++ FW G pf adf f46 ++ SW G hm adm ca nn u ++ AW G qw 384 wv ++ AW G qk 384 bv ++ AZ G qz 384 zv) H1 := hP.sub [11, 12, 13, 14, 15, 16, 17, 18, 19, 20, 21, 22, 23, 24, 25, 26, 27, 28, 29, 30, 31, 32, 33, 34, 35, 36, 37, 38, 39, 40, 41, 0, 1, 2, 3, 4, 5, 6, 7, 8, 9, 10] sb_eac6f2d681
                have hD : va_D A (OW G ho pn pa pf ae x43 ++ RW G pn adn q44 ++ RW G pa ada ra45 ++ FW G pf adf f46 ++ SW G hm adm ca nn u ++ AW G qw 384 wv ++ AW G qk 384 bv ++ AZ G qz 384 zv) := hD.sub [11, 12, 13, 14, 15, 16, 17, 18, 19, 20, 21, 22, 23, 24, 25, 26, 27, 28, 29, 30, 31, 32, 33, 34, 35, 36, 37, 38, 39, 40, 41, 0, 1, 2, 3, 4, 5, 6, 7, 8, 9, 10] (by decide +kernel) sb_e33f1c05a0
                clear hB hk1 hFc ht hz1 hvm hk0
                generalize H1 = H at hP hS ⊢
                obtain ⟨z47, rfl, -, ⟨okx43, okq44, okra45, okf46⟩, w49, w50, w51⟩ := hw
                have w49 := w49.symm
                subst w49
                have w50 := w50.symm
                subst w50
                subst w51
                have bc1 := cof_b (r := q) okf 0 1
                refine lv_iload hx hb dL_law_475 (lv_at hl 12 rfl) ?_
                refine mf_icmp_ge (tgt := 484) hx hb dL_law_477 (by decide) (i32_mk (by omega) (by omega)) (i32_mk (by omega) (by omega)) (fun c52 => ?_) (fun c52 => ?_)
                · skip
                  refine mf_iconst hx hb dL_law_484 ?_
                  refine mf_icmp_ne (tgt := 503) hx hb dL_law_485 (by decide) (i32_mk (by decide) (by decide)) (i32_mk (by decide) (by decide)) (fun c53 => ?_) (fun c53 => ?_)
                  · skip
                    exfalso; have h1 := hlv.1.mp; have h2 := hlv.1.mpr; omega
                  · skip
                    refine lv_iload hx hb dL_law_488 (lv_at hl 14 rfl) ?_
                    refine mf_bipush hx hb dL_law_490 rfl ?_
                    refine mf_icmp_lt (tgt := 505) hx hb dL_law_492 (by decide) (i32_mk (by omega) (by omega)) (i32_mk (by decide) (by decide)) (fun c54 => ?_) (fun c54 => ?_)
                    · skip
                      refine W.widen (k := cells + 5) (n := slots + 30) (by omega) (by omega) ?_
                      exact kk x43 ra45 (okx43) (okra45) H locs ls hP hD hS (lv_sub hl [0, 1, 2, 3, 4, 5, 6, 7, 8, 9, 14, 15] rfl)
                    · skip
                      refine lv_aload_n hx hb dL_law_495 rfl (lv_at hl 1 rfl) ?_
                      refine mf_iconst hx hb dL_law_496 ?_
                      have hk0 : kRng 0 3 0 = 0 := by exact mf_if_f (fun q => q ⟨by omega, by omega⟩)
                      have hFc := va_free (wc := OW G ho pn pa pf ae x43 ++ RW G pn adn q ++ RW G pa ada ra45 ++ FW G pf adf f) hD hS hA [0, 1, 2, 3, 4, 5, 6, 7, 8, 9, 10, 11, 12, 13, 14, 15, 16, 17, 18, 19, 20, 21, 22, 23, 24, 25, 26, 27, 28, 29, 30] sb_66a1bed9f5
                      refine vx_calli (vx_runV (As := [.int (iI (0))]) (rest := []) ⟨hx, hb, hml, hown, hts⟩ (c_X2_neck l hl9 G ho pn pa pf ae x43 adn q ada ra45 adf f (0) (i32_mk (by decide) (by decide)) (by assumption) (by assumption) (by assumption) (by assumption) (by exact hI) (by omega) _) (cwV 1 hts gL_law_X2_neck rfl rfl rfl (by decide +kernel) ⟨Nat.le_of_ble_eq_true rfl, Nat.le_of_ble_eq_true rfl⟩) (wrVx (wc := OW G ho pn pa pf ae x43 ++ RW G pn adn q ++ RW G pa ada ra45 ++ FW G pf adf f) hSX hCX hZ hS hFc hK hP hD hN [0, 1, 2, 3, 4, 5, 6, 7, 8, 9, 10, 11, 12, 13, 14, 15, 16, 17, 18, 19, 20, 21, 22, 23, 24, 25, 26, 27, 28, 29, 30] (by decide +kernel) sb_a4303c86f1 sb_66a1bed9f5 (ci := 2) rfl rfl) rfl rfl hl.1 rfl (lv_room (Nat.le_of_ble_eq_true rfl)) dL_law_497 ⟨(by rw [hcR]; omega), (by rw [hsR]; omega)⟩) hS (fun q _ h => hFc q h) hFc (fun q _ h => hFc q h) (fun E ce q9 _ t H1 locs ht hvm _ hB hz1 hk1 hS hce hcv hcl => ?_) (fun q55 u56 t H1 locs ht hvm hw hB hz1 hk1 hS => ?_)
                      · exfalso
                        have hx9 := hB.1
                        rcases hx9 with ⟨-, hk9⟩ <;> omega
                      obtain ⟨x57, q58, ra59, f60⟩ := u56
                      try dsimp only at hw hB
                      obtain ⟨hP, hD⟩ := wrJ2 (ws := OW G ho pn pa pf ae x43 ++ RW G pn adn q ++ RW G pa ada ra45 ++ FW G pf adf f ++ SW G hm adm ca nn u ++ AW G qw 384 wv ++ AW G qk 384 bv ++ AZ G qz 384 zv) (wc := OW G ho pn pa pf ae x43 ++ RW G pn adn q ++ RW G pa ada ra45 ++ FW G pf adf f) (wr := SW G hm adm ca nn u ++ AW G qw 384 wv ++ AW G qk 384 bv ++ AZ G qz 384 zv) (w1 := OW G ho pn pa pf ae x57 ++ RW G pn adn q58 ++ RW G pa ada ra59 ++ FW G pf adf f60) hP hD [0, 1, 2, 3, 4, 5, 6, 7, 8, 9, 10, 11, 12, 13, 14, 15, 16, 17, 18, 19, 20, 21, 22, 23, 24, 25, 26, 27, 28, 29, 30] [31, 32, 33, 34, 35, 36, 37, 38, 39, 40, 41] sb_66a1bed9f5 sb_4ccd58796c (by decide +kernel) (by decide +kernel) hk1 ht hFc hB
                      have hP : va_P G.1 vwCl (OW G ho pn pa pf ae x57 ++ RW G pn adn q58 ++ RW G pa ada ra59 ++ FW G pf adf f60 ++ SW G hm adm ca nn u ++ AW G qw 384 wv ++ AW G qk 384 bv ++ AZ G qz 384 zv) H1 := hP.sub [11, 12, 13, 14, 15, 16, 17, 18, 19, 20, 21, 22, 23, 24, 25, 26, 27, 28, 29, 30, 31, 32, 33, 34, 35, 36, 37, 38, 39, 40, 41, 0, 1, 2, 3, 4, 5, 6, 7, 8, 9, 10] sb_eac6f2d681
                      have hD : va_D A (OW G ho pn pa pf ae x57 ++ RW G pn adn q58 ++ RW G pa ada ra59 ++ FW G pf adf f60 ++ SW G hm adm ca nn u ++ AW G qw 384 wv ++ AW G qk 384 bv ++ AZ G qz 384 zv) := hD.sub [11, 12, 13, 14, 15, 16, 17, 18, 19, 20, 21, 22, 23, 24, 25, 26, 27, 28, 29, 30, 31, 32, 33, 34, 35, 36, 37, 38, 39, 40, 41, 0, 1, 2, 3, 4, 5, 6, 7, 8, 9, 10] (by decide +kernel) sb_e33f1c05a0
                      clear hB hk1 hFc ht hz1 hvm hk0
                      generalize H1 = H at hP hS ⊢
                      obtain ⟨z61, rfl, -, ⟨okx57, okq58, okra59, okf60⟩, w63, w64, w65⟩ := hw
                      have w64 := w64.symm
                      subst w64
                      have w65 := w65.symm
                      subst w65
                      obtain ⟨qn, -, hzn⟩ := w63
                      have hz0 : z61 = 0 := by rw [hzn, neckP_0]; exact hyL.2.2.2.1 (by omega)
                      refine mf_if_eq (tgt := 505) hx hb dL_law_500 (by decide) (i32_mk (by omega) (by omega)) (fun c66 => ?_) (fun c66 => ?_)
                      · skip
                        refine W.widen (k := cells + 5) (n := slots + 30) (by omega) (by omega) ?_
                        exact kk x57 ra59 (okx57) (okra59) H locs ls hP hD hS (lv_sub hl [0, 1, 2, 3, 4, 5, 6, 7, 8, 9, 14, 15] rfl)
                      · skip
                        exfalso; omega
                · skip
                  refine mf_iconst hx hb dL_law_480 ?_
                  refine lv_goto (tgt := 485) hx hb dL_law_481 (by decide) ?_
                  refine mf_icmp_ne (tgt := 503) hx hb dL_law_485 (by decide) (i32_mk (by decide) (by decide)) (i32_mk (by decide) (by decide)) (fun c67 => ?_) (fun c67 => ?_)
                  · skip
                    exfalso; have h1 := hlv.1.mp; have h2 := hlv.1.mpr; omega
                  · skip
                    exfalso; omega
              · skip
                refine mf_iconst hx hb dL_law_464 ?_
                refine lv_goto (tgt := 469) hx hb dL_law_465 (by decide) ?_
                refine lv_aload_n hx hb dL_law_469 rfl (lv_at hl 1 rfl) ?_
                refine mf_iconst hx hb dL_law_470 ?_
                refine mf_iconst hx hb dL_law_471 ?_
                have hk0 : kFarm f 0 1 = 0 := by exact mf_if_f (fun q => q ⟨⟨by omega, by omega⟩, by omega, by omega⟩)
                have hFc := va_free (wc := OW G ho pn pa pf ae x29 ++ RW G pn adn q ++ RW G pa ada ra31 ++ FW G pf adf f) hD hS hA [0, 1, 2, 3, 4, 5, 6, 7, 8, 9, 10, 11, 12, 13, 14, 15, 16, 17, 18, 19, 20, 21, 22, 23, 24, 25, 26, 27, 28, 29, 30] sb_66a1bed9f5
                refine vx_calli (vx_runV (As := [.int (iI (0)), .int (iI (1))]) (rest := [.int (iI (1))]) ⟨hx, hb, hml, hown, hts⟩ (c_X2_farm l hl9 G ho pn pa pf ae x29 adn q ada ra31 adf f (0) (1) (i32_mk (by decide) (by decide)) (i32_mk (by decide) (by decide)) (by assumption) (by assumption) (by assumption) (by assumption) _) (cwV 2 hts gL_law_X2_farm rfl rfl rfl (by decide +kernel) ⟨Nat.le_of_ble_eq_true rfl, Nat.le_of_ble_eq_true rfl⟩) (wrVx (wc := OW G ho pn pa pf ae x29 ++ RW G pn adn q ++ RW G pa ada ra31 ++ FW G pf adf f) hSX hCX hZ hS hFc hK hP hD hN [0, 1, 2, 3, 4, 5, 6, 7, 8, 9, 10, 11, 12, 13, 14, 15, 16, 17, 18, 19, 20, 21, 22, 23, 24, 25, 26, 27, 28, 29, 30] (by decide +kernel) sb_a4303c86f1 sb_66a1bed9f5 (ci := 2) rfl rfl) rfl rfl hl.1 rfl (lv_room (Nat.le_of_ble_eq_true rfl)) dL_law_472 ⟨(by rw [hcR]; omega), (by rw [hsR]; omega)⟩) hS (fun q _ h => hFc q h) hFc (fun q _ h => hFc q h) (fun E ce q9 _ t H1 locs ht hvm _ hB hz1 hk1 hS hce hcv hcl => ?_) (fun q68 u69 t H1 locs ht hvm hw hB hz1 hk1 hS => ?_)
                · exfalso
                  have hx9 := hB.1
                  rcases hx9 with ⟨-, hk9⟩ <;> omega
                obtain ⟨x70, q71, ra72, f73⟩ := u69
                try dsimp only at hw hB
                obtain ⟨hP, hD⟩ := wrJ2 (ws := OW G ho pn pa pf ae x29 ++ RW G pn adn q ++ RW G pa ada ra31 ++ FW G pf adf f ++ SW G hm adm ca nn u ++ AW G qw 384 wv ++ AW G qk 384 bv ++ AZ G qz 384 zv) (wc := OW G ho pn pa pf ae x29 ++ RW G pn adn q ++ RW G pa ada ra31 ++ FW G pf adf f) (wr := SW G hm adm ca nn u ++ AW G qw 384 wv ++ AW G qk 384 bv ++ AZ G qz 384 zv) (w1 := OW G ho pn pa pf ae x70 ++ RW G pn adn q71 ++ RW G pa ada ra72 ++ FW G pf adf f73) hP hD [0, 1, 2, 3, 4, 5, 6, 7, 8, 9, 10, 11, 12, 13, 14, 15, 16, 17, 18, 19, 20, 21, 22, 23, 24, 25, 26, 27, 28, 29, 30] [31, 32, 33, 34, 35, 36, 37, 38, 39, 40, 41] sb_66a1bed9f5 sb_4ccd58796c (by decide +kernel) (by decide +kernel) hk1 ht hFc hB
                have hP : va_P G.1 vwCl (OW G ho pn pa pf ae x70 ++ RW G pn adn q71 ++ RW G pa ada ra72 ++ FW G pf adf f73 ++ SW G hm adm ca nn u ++ AW G qw 384 wv ++ AW G qk 384 bv ++ AZ G qz 384 zv) H1 := hP.sub [11, 12, 13, 14, 15, 16, 17, 18, 19, 20, 21, 22, 23, 24, 25, 26, 27, 28, 29, 30, 31, 32, 33, 34, 35, 36, 37, 38, 39, 40, 41, 0, 1, 2, 3, 4, 5, 6, 7, 8, 9, 10] sb_eac6f2d681
                have hD : va_D A (OW G ho pn pa pf ae x70 ++ RW G pn adn q71 ++ RW G pa ada ra72 ++ FW G pf adf f73 ++ SW G hm adm ca nn u ++ AW G qw 384 wv ++ AW G qk 384 bv ++ AZ G qz 384 zv) := hD.sub [11, 12, 13, 14, 15, 16, 17, 18, 19, 20, 21, 22, 23, 24, 25, 26, 27, 28, 29, 30, 31, 32, 33, 34, 35, 36, 37, 38, 39, 40, 41, 0, 1, 2, 3, 4, 5, 6, 7, 8, 9, 10] (by decide +kernel) sb_e33f1c05a0
                clear hB hk1 hFc ht hz1 hvm hk0
                generalize H1 = H at hP hS ⊢
                obtain ⟨z74, rfl, -, ⟨okx70, okq71, okra72, okf73⟩, w76, w77, w78⟩ := hw
                have w76 := w76.symm
                subst w76
                have w77 := w77.symm
                subst w77
                subst w78
                have bc1 := cof_b (r := q) okf 0 1
                refine lv_iload hx hb dL_law_475 (lv_at hl 12 rfl) ?_
                refine mf_icmp_ge (tgt := 484) hx hb dL_law_477 (by decide) (i32_mk (by omega) (by omega)) (i32_mk (by omega) (by omega)) (fun c79 => ?_) (fun c79 => ?_)
                · skip
                  refine mf_iconst hx hb dL_law_484 ?_
                  refine mf_icmp_ne (tgt := 503) hx hb dL_law_485 (by decide) (i32_mk (by decide) (by decide)) (i32_mk (by decide) (by decide)) (fun c80 => ?_) (fun c80 => ?_)
                  · skip
                    exfalso; have h1 := hlv.1.mp; have h2 := hlv.1.mpr; omega
                  · skip
                    exfalso; omega
                · skip
                  refine mf_iconst hx hb dL_law_480 ?_
                  refine lv_goto (tgt := 485) hx hb dL_law_481 (by decide) ?_
                  refine mf_icmp_ne (tgt := 503) hx hb dL_law_485 (by decide) (i32_mk (by decide) (by decide)) (i32_mk (by decide) (by decide)) (fun c81 => ?_) (fun c81 => ?_)
                  · skip
                    exfalso; have h1 := hlv.1.mp; have h2 := hlv.1.mpr; omega
                  · skip
                    refine lv_iload hx hb dL_law_488 (lv_at hl 14 rfl) ?_
                    refine mf_bipush hx hb dL_law_490 rfl ?_
                    refine mf_icmp_lt (tgt := 505) hx hb dL_law_492 (by decide) (i32_mk (by omega) (by omega)) (i32_mk (by decide) (by decide)) (fun c82 => ?_) (fun c82 => ?_)
                    · skip
                      refine W.widen (k := cells + 5) (n := slots + 30) (by omega) (by omega) ?_
                      exact kk x70 ra72 (okx70) (okra72) H locs ls hP hD hS (lv_sub hl [0, 1, 2, 3, 4, 5, 6, 7, 8, 9, 14, 15] rfl)
                    · skip
                      refine lv_aload_n hx hb dL_law_495 rfl (lv_at hl 1 rfl) ?_
                      refine mf_iconst hx hb dL_law_496 ?_
                      have hk0 : kRng 0 3 0 = 0 := by exact mf_if_f (fun q => q ⟨by omega, by omega⟩)
                      have hFc := va_free (wc := OW G ho pn pa pf ae x70 ++ RW G pn adn q ++ RW G pa ada ra72 ++ FW G pf adf f) hD hS hA [0, 1, 2, 3, 4, 5, 6, 7, 8, 9, 10, 11, 12, 13, 14, 15, 16, 17, 18, 19, 20, 21, 22, 23, 24, 25, 26, 27, 28, 29, 30] sb_66a1bed9f5
                      refine vx_calli (vx_runV (As := [.int (iI (0))]) (rest := []) ⟨hx, hb, hml, hown, hts⟩ (c_X2_neck l hl9 G ho pn pa pf ae x70 adn q ada ra72 adf f (0) (i32_mk (by decide) (by decide)) (by assumption) (by assumption) (by assumption) (by assumption) (by exact hI) (by omega) _) (cwV 1 hts gL_law_X2_neck rfl rfl rfl (by decide +kernel) ⟨Nat.le_of_ble_eq_true rfl, Nat.le_of_ble_eq_true rfl⟩) (wrVx (wc := OW G ho pn pa pf ae x70 ++ RW G pn adn q ++ RW G pa ada ra72 ++ FW G pf adf f) hSX hCX hZ hS hFc hK hP hD hN [0, 1, 2, 3, 4, 5, 6, 7, 8, 9, 10, 11, 12, 13, 14, 15, 16, 17, 18, 19, 20, 21, 22, 23, 24, 25, 26, 27, 28, 29, 30] (by decide +kernel) sb_a4303c86f1 sb_66a1bed9f5 (ci := 2) rfl rfl) rfl rfl hl.1 rfl (lv_room (Nat.le_of_ble_eq_true rfl)) dL_law_497 ⟨(by rw [hcR]; omega), (by rw [hsR]; omega)⟩) hS (fun q _ h => hFc q h) hFc (fun q _ h => hFc q h) (fun E ce q9 _ t H1 locs ht hvm _ hB hz1 hk1 hS hce hcv hcl => ?_) (fun q83 u84 t H1 locs ht hvm hw hB hz1 hk1 hS => ?_)
                      · exfalso
                        have hx9 := hB.1
                        rcases hx9 with ⟨-, hk9⟩ <;> omega
                      obtain ⟨x85, q86, ra87, f88⟩ := u84
                      try dsimp only at hw hB
                      obtain ⟨hP, hD⟩ := wrJ2 (ws := OW G ho pn pa pf ae x70 ++ RW G pn adn q ++ RW G pa ada ra72 ++ FW G pf adf f ++ SW G hm adm ca nn u ++ AW G qw 384 wv ++ AW G qk 384 bv ++ AZ G qz 384 zv) (wc := OW G ho pn pa pf ae x70 ++ RW G pn adn q ++ RW G pa ada ra72 ++ FW G pf adf f) (wr := SW G hm adm ca nn u ++ AW G qw 384 wv ++ AW G qk 384 bv ++ AZ G qz 384 zv) (w1 := OW G ho pn pa pf ae x85 ++ RW G pn adn q86 ++ RW G pa ada ra87 ++ FW G pf adf f88) hP hD [0, 1, 2, 3, 4, 5, 6, 7, 8, 9, 10, 11, 12, 13, 14, 15, 16, 17, 18, 19, 20, 21, 22, 23, 24, 25, 26, 27, 28, 29, 30] [31, 32, 33, 34, 35, 36, 37, 38, 39, 40, 41] sb_66a1bed9f5 sb_4ccd58796c (by decide +kernel) (by decide +kernel) hk1 ht hFc hB
                      have hP : va_P G.1 vwCl (OW G ho pn pa pf ae x85 ++ RW G pn adn q86 ++ RW G pa ada ra87 ++ FW G pf adf f88 ++ SW G hm adm ca nn u ++ AW G qw 384 wv ++ AW G qk 384 bv ++ AZ G qz 384 zv) H1 := hP.sub [11, 12, 13, 14, 15, 16, 17, 18, 19, 20, 21, 22, 23, 24, 25, 26, 27, 28, 29, 30, 31, 32, 33, 34, 35, 36, 37, 38, 39, 40, 41, 0, 1, 2, 3, 4, 5, 6, 7, 8, 9, 10] sb_eac6f2d681
                      have hD : va_D A (OW G ho pn pa pf ae x85 ++ RW G pn adn q86 ++ RW G pa ada ra87 ++ FW G pf adf f88 ++ SW G hm adm ca nn u ++ AW G qw 384 wv ++ AW G qk 384 bv ++ AZ G qz 384 zv) := hD.sub [11, 12, 13, 14, 15, 16, 17, 18, 19, 20, 21, 22, 23, 24, 25, 26, 27, 28, 29, 30, 31, 32, 33, 34, 35, 36, 37, 38, 39, 40, 41, 0, 1, 2, 3, 4, 5, 6, 7, 8, 9, 10] (by decide +kernel) sb_e33f1c05a0
                      clear hB hk1 hFc ht hz1 hvm hk0
                      generalize H1 = H at hP hS ⊢
                      obtain ⟨z89, rfl, -, ⟨okx85, okq86, okra87, okf88⟩, w91, w92, w93⟩ := hw
                      have w92 := w92.symm
                      subst w92
                      have w93 := w93.symm
                      subst w93
                      obtain ⟨qn, -, hzn⟩ := w91
                      have hz0 : z89 = 0 := by rw [hzn, neckP_0]; exact hyL.2.2.2.1 (by omega)
                      refine mf_if_eq (tgt := 505) hx hb dL_law_500 (by decide) (i32_mk (by omega) (by omega)) (fun c94 => ?_) (fun c94 => ?_)
                      · skip
                        refine W.widen (k := cells + 5) (n := slots + 30) (by omega) (by omega) ?_
                        exact kk x85 ra87 (okx85) (okra87) H locs ls hP hD hS (lv_sub hl [0, 1, 2, 3, 4, 5, 6, 7, 8, 9, 14, 15] rfl)
                      · skip
                        exfalso; omega
            · skip
              refine lv_iload hx hb dL_law_449 (lv_at hl 14 rfl) ?_
              refine mf_bipush hx hb dL_law_451 rfl ?_
              refine mf_icmp_ge (tgt := 458) hx hb dL_law_453 (by decide) (i32_mk (by omega) (by omega)) (i32_mk (by decide) (by decide)) (fun c95 => ?_) (fun c95 => ?_)
              · skip
                refine lv_iload hx hb dL_law_458 (lv_at hl 11 rfl) ?_
                refine mf_iconst hx hb dL_law_460 ?_
                refine mf_icmp_ne (tgt := 468) hx hb dL_law_461 (by decide) (i32_mk (by omega) (by omega)) (i32_mk (by decide) (by decide)) (fun c96 => ?_) (fun c96 => ?_)
                · skip
                  refine mf_iconst hx hb dL_law_468 ?_
                  refine lv_aload_n hx hb dL_law_469 rfl (lv_at hl 1 rfl) ?_
                  refine mf_iconst hx hb dL_law_470 ?_
                  refine mf_iconst hx hb dL_law_471 ?_
                  have hk0 : kFarm f 0 1 = 0 := by exact mf_if_f (fun q => q ⟨⟨by omega, by omega⟩, by omega, by omega⟩)
                  have hFc := va_free (wc := OW G ho pn pa pf ae x29 ++ RW G pn adn q ++ RW G pa ada ra31 ++ FW G pf adf f) hD hS hA [0, 1, 2, 3, 4, 5, 6, 7, 8, 9, 10, 11, 12, 13, 14, 15, 16, 17, 18, 19, 20, 21, 22, 23, 24, 25, 26, 27, 28, 29, 30] sb_66a1bed9f5
                  refine vx_calli (vx_runV (As := [.int (iI (0)), .int (iI (1))]) (rest := [.int (iI (0))]) ⟨hx, hb, hml, hown, hts⟩ (c_X2_farm l hl9 G ho pn pa pf ae x29 adn q ada ra31 adf f (0) (1) (i32_mk (by decide) (by decide)) (i32_mk (by decide) (by decide)) (by assumption) (by assumption) (by assumption) (by assumption) _) (cwV 2 hts gL_law_X2_farm rfl rfl rfl (by decide +kernel) ⟨Nat.le_of_ble_eq_true rfl, Nat.le_of_ble_eq_true rfl⟩) (wrVx (wc := OW G ho pn pa pf ae x29 ++ RW G pn adn q ++ RW G pa ada ra31 ++ FW G pf adf f) hSX hCX hZ hS hFc hK hP hD hN [0, 1, 2, 3, 4, 5, 6, 7, 8, 9, 10, 11, 12, 13, 14, 15, 16, 17, 18, 19, 20, 21, 22, 23, 24, 25, 26, 27, 28, 29, 30] (by decide +kernel) sb_a4303c86f1 sb_66a1bed9f5 (ci := 2) rfl rfl) rfl rfl hl.1 rfl (lv_room (Nat.le_of_ble_eq_true rfl)) dL_law_472 ⟨(by rw [hcR]; omega), (by rw [hsR]; omega)⟩) hS (fun q _ h => hFc q h) hFc (fun q _ h => hFc q h) (fun E ce q9 _ t H1 locs ht hvm _ hB hz1 hk1 hS hce hcv hcl => ?_) (fun q97 u98 t H1 locs ht hvm hw hB hz1 hk1 hS => ?_)
                  · exfalso
                    have hx9 := hB.1
                    rcases hx9 with ⟨-, hk9⟩ <;> omega
                  obtain ⟨x99, q100, ra101, f102⟩ := u98
                  try dsimp only at hw hB
                  obtain ⟨hP, hD⟩ := wrJ2 (ws := OW G ho pn pa pf ae x29 ++ RW G pn adn q ++ RW G pa ada ra31 ++ FW G pf adf f ++ SW G hm adm ca nn u ++ AW G qw 384 wv ++ AW G qk 384 bv ++ AZ G qz 384 zv) (wc := OW G ho pn pa pf ae x29 ++ RW G pn adn q ++ RW G pa ada ra31 ++ FW G pf adf f) (wr := SW G hm adm ca nn u ++ AW G qw 384 wv ++ AW G qk 384 bv ++ AZ G qz 384 zv) (w1 := OW G ho pn pa pf ae x99 ++ RW G pn adn q100 ++ RW G pa ada ra101 ++ FW G pf adf f102) hP hD [0, 1, 2, 3, 4, 5, 6, 7, 8, 9, 10, 11, 12, 13, 14, 15, 16, 17, 18, 19, 20, 21, 22, 23, 24, 25, 26, 27, 28, 29, 30] [31, 32, 33, 34, 35, 36, 37, 38, 39, 40, 41] sb_66a1bed9f5 sb_4ccd58796c (by decide +kernel) (by decide +kernel) hk1 ht hFc hB
                  have hP : va_P G.1 vwCl (OW G ho pn pa pf ae x99 ++ RW G pn adn q100 ++ RW G pa ada ra101 ++ FW G pf adf f102 ++ SW G hm adm ca nn u ++ AW G qw 384 wv ++ AW G qk 384 bv ++ AZ G qz 384 zv) H1 := hP.sub [11, 12, 13, 14, 15, 16, 17, 18, 19, 20, 21, 22, 23, 24, 25, 26, 27, 28, 29, 30, 31, 32, 33, 34, 35, 36, 37, 38, 39, 40, 41, 0, 1, 2, 3, 4, 5, 6, 7, 8, 9, 10] sb_eac6f2d681
                  have hD : va_D A (OW G ho pn pa pf ae x99 ++ RW G pn adn q100 ++ RW G pa ada ra101 ++ FW G pf adf f102 ++ SW G hm adm ca nn u ++ AW G qw 384 wv ++ AW G qk 384 bv ++ AZ G qz 384 zv) := hD.sub [11, 12, 13, 14, 15, 16, 17, 18, 19, 20, 21, 22, 23, 24, 25, 26, 27, 28, 29, 30, 31, 32, 33, 34, 35, 36, 37, 38, 39, 40, 41, 0, 1, 2, 3, 4, 5, 6, 7, 8, 9, 10] (by decide +kernel) sb_e33f1c05a0
                  clear hB hk1 hFc ht hz1 hvm hk0
                  generalize H1 = H at hP hS ⊢
                  obtain ⟨z103, rfl, -, ⟨okx99, okq100, okra101, okf102⟩, w105, w106, w107⟩ := hw
                  have w105 := w105.symm
                  subst w105
                  have w106 := w106.symm
                  subst w106
                  subst w107
                  have bc1 := cof_b (r := q) okf 0 1
                  refine lv_iload hx hb dL_law_475 (lv_at hl 12 rfl) ?_
                  refine mf_icmp_ge (tgt := 484) hx hb dL_law_477 (by decide) (i32_mk (by omega) (by omega)) (i32_mk (by omega) (by omega)) (fun c108 => ?_) (fun c108 => ?_)
                  · skip
                    refine mf_iconst hx hb dL_law_484 ?_
                    refine mf_icmp_ne (tgt := 503) hx hb dL_law_485 (by decide) (i32_mk (by decide) (by decide)) (i32_mk (by decide) (by decide)) (fun c109 => ?_) (fun c109 => ?_)
                    · skip
                      exfalso; have h1 := hlv.1.mp; have h2 := hlv.1.mpr; omega
                    · skip
                      refine lv_iload hx hb dL_law_488 (lv_at hl 14 rfl) ?_
                      refine mf_bipush hx hb dL_law_490 rfl ?_
                      refine mf_icmp_lt (tgt := 505) hx hb dL_law_492 (by decide) (i32_mk (by omega) (by omega)) (i32_mk (by decide) (by decide)) (fun c110 => ?_) (fun c110 => ?_)
                      · skip
                        refine W.widen (k := cells + 5) (n := slots + 30) (by omega) (by omega) ?_
                        exact kk x99 ra101 (okx99) (okra101) H locs ls hP hD hS (lv_sub hl [0, 1, 2, 3, 4, 5, 6, 7, 8, 9, 14, 15] rfl)
                      · skip
                        refine lv_aload_n hx hb dL_law_495 rfl (lv_at hl 1 rfl) ?_
                        refine mf_iconst hx hb dL_law_496 ?_
                        have hk0 : kRng 0 3 0 = 0 := by exact mf_if_f (fun q => q ⟨by omega, by omega⟩)
                        have hFc := va_free (wc := OW G ho pn pa pf ae x99 ++ RW G pn adn q ++ RW G pa ada ra101 ++ FW G pf adf f) hD hS hA [0, 1, 2, 3, 4, 5, 6, 7, 8, 9, 10, 11, 12, 13, 14, 15, 16, 17, 18, 19, 20, 21, 22, 23, 24, 25, 26, 27, 28, 29, 30] sb_66a1bed9f5
                        refine vx_calli (vx_runV (As := [.int (iI (0))]) (rest := []) ⟨hx, hb, hml, hown, hts⟩ (c_X2_neck l hl9 G ho pn pa pf ae x99 adn q ada ra101 adf f (0) (i32_mk (by decide) (by decide)) (by assumption) (by assumption) (by assumption) (by assumption) (by exact hI) (by omega) _) (cwV 1 hts gL_law_X2_neck rfl rfl rfl (by decide +kernel) ⟨Nat.le_of_ble_eq_true rfl, Nat.le_of_ble_eq_true rfl⟩) (wrVx (wc := OW G ho pn pa pf ae x99 ++ RW G pn adn q ++ RW G pa ada ra101 ++ FW G pf adf f) hSX hCX hZ hS hFc hK hP hD hN [0, 1, 2, 3, 4, 5, 6, 7, 8, 9, 10, 11, 12, 13, 14, 15, 16, 17, 18, 19, 20, 21, 22, 23, 24, 25, 26, 27, 28, 29, 30] (by decide +kernel) sb_a4303c86f1 sb_66a1bed9f5 (ci := 2) rfl rfl) rfl rfl hl.1 rfl (lv_room (Nat.le_of_ble_eq_true rfl)) dL_law_497 ⟨(by rw [hcR]; omega), (by rw [hsR]; omega)⟩) hS (fun q _ h => hFc q h) hFc (fun q _ h => hFc q h) (fun E ce q9 _ t H1 locs ht hvm _ hB hz1 hk1 hS hce hcv hcl => ?_) (fun q111 u112 t H1 locs ht hvm hw hB hz1 hk1 hS => ?_)
                        · exfalso
                          have hx9 := hB.1
                          rcases hx9 with ⟨-, hk9⟩ <;> omega
                        obtain ⟨x113, q114, ra115, f116⟩ := u112
                        try dsimp only at hw hB
                        obtain ⟨hP, hD⟩ := wrJ2 (ws := OW G ho pn pa pf ae x99 ++ RW G pn adn q ++ RW G pa ada ra101 ++ FW G pf adf f ++ SW G hm adm ca nn u ++ AW G qw 384 wv ++ AW G qk 384 bv ++ AZ G qz 384 zv) (wc := OW G ho pn pa pf ae x99 ++ RW G pn adn q ++ RW G pa ada ra101 ++ FW G pf adf f) (wr := SW G hm adm ca nn u ++ AW G qw 384 wv ++ AW G qk 384 bv ++ AZ G qz 384 zv) (w1 := OW G ho pn pa pf ae x113 ++ RW G pn adn q114 ++ RW G pa ada ra115 ++ FW G pf adf f116) hP hD [0, 1, 2, 3, 4, 5, 6, 7, 8, 9, 10, 11, 12, 13, 14, 15, 16, 17, 18, 19, 20, 21, 22, 23, 24, 25, 26, 27, 28, 29, 30] [31, 32, 33, 34, 35, 36, 37, 38, 39, 40, 41] sb_66a1bed9f5 sb_4ccd58796c (by decide +kernel) (by decide +kernel) hk1 ht hFc hB
                        have hP : va_P G.1 vwCl (OW G ho pn pa pf ae x113 ++ RW G pn adn q114 ++ RW G pa ada ra115 ++ FW G pf adf f116 ++ SW G hm adm ca nn u ++ AW G qw 384 wv ++ AW G qk 384 bv ++ AZ G qz 384 zv) H1 := hP.sub [11, 12, 13, 14, 15, 16, 17, 18, 19, 20, 21, 22, 23, 24, 25, 26, 27, 28, 29, 30, 31, 32, 33, 34, 35, 36, 37, 38, 39, 40, 41, 0, 1, 2, 3, 4, 5, 6, 7, 8, 9, 10] sb_eac6f2d681
                        have hD : va_D A (OW G ho pn pa pf ae x113 ++ RW G pn adn q114 ++ RW G pa ada ra115 ++ FW G pf adf f116 ++ SW G hm adm ca nn u ++ AW G qw 384 wv ++ AW G qk 384 bv ++ AZ G qz 384 zv) := hD.sub [11, 12, 13, 14, 15, 16, 17, 18, 19, 20, 21, 22, 23, 24, 25, 26, 27, 28, 29, 30, 31, 32, 33, 34, 35, 36, 37, 38, 39, 40, 41, 0, 1, 2, 3, 4, 5, 6, 7, 8, 9, 10] (by decide +kernel) sb_e33f1c05a0
                        clear hB hk1 hFc ht hz1 hvm hk0
                        generalize H1 = H at hP hS ⊢
                        obtain ⟨z117, rfl, -, ⟨okx113, okq114, okra115, okf116⟩, w119, w120, w121⟩ := hw
                        have w120 := w120.symm
                        subst w120
                        have w121 := w121.symm
                        subst w121
                        obtain ⟨qn, -, hzn⟩ := w119
                        have hz0 : z117 = 0 := by rw [hzn, neckP_0]; exact hyL.2.2.2.1 (by omega)
                        refine mf_if_eq (tgt := 505) hx hb dL_law_500 (by decide) (i32_mk (by omega) (by omega)) (fun c122 => ?_) (fun c122 => ?_)
                        · skip
                          refine W.widen (k := cells + 5) (n := slots + 30) (by omega) (by omega) ?_
                          exact kk x113 ra115 (okx113) (okra115) H locs ls hP hD hS (lv_sub hl [0, 1, 2, 3, 4, 5, 6, 7, 8, 9, 14, 15] rfl)
                        · skip
                          exfalso; omega
                  · skip
                    refine mf_iconst hx hb dL_law_480 ?_
                    refine lv_goto (tgt := 485) hx hb dL_law_481 (by decide) ?_
                    refine mf_icmp_ne (tgt := 503) hx hb dL_law_485 (by decide) (i32_mk (by decide) (by decide)) (i32_mk (by decide) (by decide)) (fun c123 => ?_) (fun c123 => ?_)
                    · skip
                      exfalso; have h1 := hlv.1.mp; have h2 := hlv.1.mpr; omega
                    · skip
                      exfalso; omega
                · skip
                  refine mf_iconst hx hb dL_law_464 ?_
                  refine lv_goto (tgt := 469) hx hb dL_law_465 (by decide) ?_
                  refine lv_aload_n hx hb dL_law_469 rfl (lv_at hl 1 rfl) ?_
                  refine mf_iconst hx hb dL_law_470 ?_
                  refine mf_iconst hx hb dL_law_471 ?_
                  have hk0 : kFarm f 0 1 = 0 := by exact mf_if_f (fun q => q ⟨⟨by omega, by omega⟩, by omega, by omega⟩)
                  have hFc := va_free (wc := OW G ho pn pa pf ae x29 ++ RW G pn adn q ++ RW G pa ada ra31 ++ FW G pf adf f) hD hS hA [0, 1, 2, 3, 4, 5, 6, 7, 8, 9, 10, 11, 12, 13, 14, 15, 16, 17, 18, 19, 20, 21, 22, 23, 24, 25, 26, 27, 28, 29, 30] sb_66a1bed9f5
                  refine vx_calli (vx_runV (As := [.int (iI (0)), .int (iI (1))]) (rest := [.int (iI (1))]) ⟨hx, hb, hml, hown, hts⟩ (c_X2_farm l hl9 G ho pn pa pf ae x29 adn q ada ra31 adf f (0) (1) (i32_mk (by decide) (by decide)) (i32_mk (by decide) (by decide)) (by assumption) (by assumption) (by assumption) (by assumption) _) (cwV 2 hts gL_law_X2_farm rfl rfl rfl (by decide +kernel) ⟨Nat.le_of_ble_eq_true rfl, Nat.le_of_ble_eq_true rfl⟩) (wrVx (wc := OW G ho pn pa pf ae x29 ++ RW G pn adn q ++ RW G pa ada ra31 ++ FW G pf adf f) hSX hCX hZ hS hFc hK hP hD hN [0, 1, 2, 3, 4, 5, 6, 7, 8, 9, 10, 11, 12, 13, 14, 15, 16, 17, 18, 19, 20, 21, 22, 23, 24, 25, 26, 27, 28, 29, 30] (by decide +kernel) sb_a4303c86f1 sb_66a1bed9f5 (ci := 2) rfl rfl) rfl rfl hl.1 rfl (lv_room (Nat.le_of_ble_eq_true rfl)) dL_law_472 ⟨(by rw [hcR]; omega), (by rw [hsR]; omega)⟩) hS (fun q _ h => hFc q h) hFc (fun q _ h => hFc q h) (fun E ce q9 _ t H1 locs ht hvm _ hB hz1 hk1 hS hce hcv hcl => ?_) (fun q124 u125 t H1 locs ht hvm hw hB hz1 hk1 hS => ?_)
                  · exfalso
                    have hx9 := hB.1
                    rcases hx9 with ⟨-, hk9⟩ <;> omega
                  obtain ⟨x126, q127, ra128, f129⟩ := u125
                  try dsimp only at hw hB
                  obtain ⟨hP, hD⟩ := wrJ2 (ws := OW G ho pn pa pf ae x29 ++ RW G pn adn q ++ RW G pa ada ra31 ++ FW G pf adf f ++ SW G hm adm ca nn u ++ AW G qw 384 wv ++ AW G qk 384 bv ++ AZ G qz 384 zv) (wc := OW G ho pn pa pf ae x29 ++ RW G pn adn q ++ RW G pa ada ra31 ++ FW G pf adf f) (wr := SW G hm adm ca nn u ++ AW G qw 384 wv ++ AW G qk 384 bv ++ AZ G qz 384 zv) (w1 := OW G ho pn pa pf ae x126 ++ RW G pn adn q127 ++ RW G pa ada ra128 ++ FW G pf adf f129) hP hD [0, 1, 2, 3, 4, 5, 6, 7, 8, 9, 10, 11, 12, 13, 14, 15, 16, 17, 18, 19, 20, 21, 22, 23, 24, 25, 26, 27, 28, 29, 30] [31, 32, 33, 34, 35, 36, 37, 38, 39, 40, 41] sb_66a1bed9f5 sb_4ccd58796c (by decide +kernel) (by decide +kernel) hk1 ht hFc hB
                  have hP : va_P G.1 vwCl (OW G ho pn pa pf ae x126 ++ RW G pn adn q127 ++ RW G pa ada ra128 ++ FW G pf adf f129 ++ SW G hm adm ca nn u ++ AW G qw 384 wv ++ AW G qk 384 bv ++ AZ G qz 384 zv) H1 := hP.sub [11, 12, 13, 14, 15, 16, 17, 18, 19, 20, 21, 22, 23, 24, 25, 26, 27, 28, 29, 30, 31, 32, 33, 34, 35, 36, 37, 38, 39, 40, 41, 0, 1, 2, 3, 4, 5, 6, 7, 8, 9, 10] sb_eac6f2d681
                  have hD : va_D A (OW G ho pn pa pf ae x126 ++ RW G pn adn q127 ++ RW G pa ada ra128 ++ FW G pf adf f129 ++ SW G hm adm ca nn u ++ AW G qw 384 wv ++ AW G qk 384 bv ++ AZ G qz 384 zv) := hD.sub [11, 12, 13, 14, 15, 16, 17, 18, 19, 20, 21, 22, 23, 24, 25, 26, 27, 28, 29, 30, 31, 32, 33, 34, 35, 36, 37, 38, 39, 40, 41, 0, 1, 2, 3, 4, 5, 6, 7, 8, 9, 10] (by decide +kernel) sb_e33f1c05a0
                  clear hB hk1 hFc ht hz1 hvm hk0
                  generalize H1 = H at hP hS ⊢
                  obtain ⟨z130, rfl, -, ⟨okx126, okq127, okra128, okf129⟩, w132, w133, w134⟩ := hw
                  have w132 := w132.symm
                  subst w132
                  have w133 := w133.symm
                  subst w133
                  subst w134
                  have bc1 := cof_b (r := q) okf 0 1
                  refine lv_iload hx hb dL_law_475 (lv_at hl 12 rfl) ?_
                  refine mf_icmp_ge (tgt := 484) hx hb dL_law_477 (by decide) (i32_mk (by omega) (by omega)) (i32_mk (by omega) (by omega)) (fun c135 => ?_) (fun c135 => ?_)
                  · skip
                    refine mf_iconst hx hb dL_law_484 ?_
                    refine mf_icmp_ne (tgt := 503) hx hb dL_law_485 (by decide) (i32_mk (by decide) (by decide)) (i32_mk (by decide) (by decide)) (fun c136 => ?_) (fun c136 => ?_)
                    · skip
                      exfalso; have h1 := hlv.1.mp; have h2 := hlv.1.mpr; omega
                    · skip
                      exfalso; omega
                  · skip
                    refine mf_iconst hx hb dL_law_480 ?_
                    refine lv_goto (tgt := 485) hx hb dL_law_481 (by decide) ?_
                    refine mf_icmp_ne (tgt := 503) hx hb dL_law_485 (by decide) (i32_mk (by decide) (by decide)) (i32_mk (by decide) (by decide)) (fun c137 => ?_) (fun c137 => ?_)
                    · skip
                      exfalso; have h1 := hlv.1.mp; have h2 := hlv.1.mpr; omega
                    · skip
                      refine lv_iload hx hb dL_law_488 (lv_at hl 14 rfl) ?_
                      refine mf_bipush hx hb dL_law_490 rfl ?_
                      refine mf_icmp_lt (tgt := 505) hx hb dL_law_492 (by decide) (i32_mk (by omega) (by omega)) (i32_mk (by decide) (by decide)) (fun c138 => ?_) (fun c138 => ?_)
                      · skip
                        refine W.widen (k := cells + 5) (n := slots + 30) (by omega) (by omega) ?_
                        exact kk x126 ra128 (okx126) (okra128) H locs ls hP hD hS (lv_sub hl [0, 1, 2, 3, 4, 5, 6, 7, 8, 9, 14, 15] rfl)
                      · skip
                        refine lv_aload_n hx hb dL_law_495 rfl (lv_at hl 1 rfl) ?_
                        refine mf_iconst hx hb dL_law_496 ?_
                        have hk0 : kRng 0 3 0 = 0 := by exact mf_if_f (fun q => q ⟨by omega, by omega⟩)
                        have hFc := va_free (wc := OW G ho pn pa pf ae x126 ++ RW G pn adn q ++ RW G pa ada ra128 ++ FW G pf adf f) hD hS hA [0, 1, 2, 3, 4, 5, 6, 7, 8, 9, 10, 11, 12, 13, 14, 15, 16, 17, 18, 19, 20, 21, 22, 23, 24, 25, 26, 27, 28, 29, 30] sb_66a1bed9f5
                        refine vx_calli (vx_runV (As := [.int (iI (0))]) (rest := []) ⟨hx, hb, hml, hown, hts⟩ (c_X2_neck l hl9 G ho pn pa pf ae x126 adn q ada ra128 adf f (0) (i32_mk (by decide) (by decide)) (by assumption) (by assumption) (by assumption) (by assumption) (by exact hI) (by omega) _) (cwV 1 hts gL_law_X2_neck rfl rfl rfl (by decide +kernel) ⟨Nat.le_of_ble_eq_true rfl, Nat.le_of_ble_eq_true rfl⟩) (wrVx (wc := OW G ho pn pa pf ae x126 ++ RW G pn adn q ++ RW G pa ada ra128 ++ FW G pf adf f) hSX hCX hZ hS hFc hK hP hD hN [0, 1, 2, 3, 4, 5, 6, 7, 8, 9, 10, 11, 12, 13, 14, 15, 16, 17, 18, 19, 20, 21, 22, 23, 24, 25, 26, 27, 28, 29, 30] (by decide +kernel) sb_a4303c86f1 sb_66a1bed9f5 (ci := 2) rfl rfl) rfl rfl hl.1 rfl (lv_room (Nat.le_of_ble_eq_true rfl)) dL_law_497 ⟨(by rw [hcR]; omega), (by rw [hsR]; omega)⟩) hS (fun q _ h => hFc q h) hFc (fun q _ h => hFc q h) (fun E ce q9 _ t H1 locs ht hvm _ hB hz1 hk1 hS hce hcv hcl => ?_) (fun q139 u140 t H1 locs ht hvm hw hB hz1 hk1 hS => ?_)
                        · exfalso
                          have hx9 := hB.1
                          rcases hx9 with ⟨-, hk9⟩ <;> omega
                        obtain ⟨x141, q142, ra143, f144⟩ := u140
                        try dsimp only at hw hB
                        obtain ⟨hP, hD⟩ := wrJ2 (ws := OW G ho pn pa pf ae x126 ++ RW G pn adn q ++ RW G pa ada ra128 ++ FW G pf adf f ++ SW G hm adm ca nn u ++ AW G qw 384 wv ++ AW G qk 384 bv ++ AZ G qz 384 zv) (wc := OW G ho pn pa pf ae x126 ++ RW G pn adn q ++ RW G pa ada ra128 ++ FW G pf adf f) (wr := SW G hm adm ca nn u ++ AW G qw 384 wv ++ AW G qk 384 bv ++ AZ G qz 384 zv) (w1 := OW G ho pn pa pf ae x141 ++ RW G pn adn q142 ++ RW G pa ada ra143 ++ FW G pf adf f144) hP hD [0, 1, 2, 3, 4, 5, 6, 7, 8, 9, 10, 11, 12, 13, 14, 15, 16, 17, 18, 19, 20, 21, 22, 23, 24, 25, 26, 27, 28, 29, 30] [31, 32, 33, 34, 35, 36, 37, 38, 39, 40, 41] sb_66a1bed9f5 sb_4ccd58796c (by decide +kernel) (by decide +kernel) hk1 ht hFc hB
                        have hP : va_P G.1 vwCl (OW G ho pn pa pf ae x141 ++ RW G pn adn q142 ++ RW G pa ada ra143 ++ FW G pf adf f144 ++ SW G hm adm ca nn u ++ AW G qw 384 wv ++ AW G qk 384 bv ++ AZ G qz 384 zv) H1 := hP.sub [11, 12, 13, 14, 15, 16, 17, 18, 19, 20, 21, 22, 23, 24, 25, 26, 27, 28, 29, 30, 31, 32, 33, 34, 35, 36, 37, 38, 39, 40, 41, 0, 1, 2, 3, 4, 5, 6, 7, 8, 9, 10] sb_eac6f2d681
                        have hD : va_D A (OW G ho pn pa pf ae x141 ++ RW G pn adn q142 ++ RW G pa ada ra143 ++ FW G pf adf f144 ++ SW G hm adm ca nn u ++ AW G qw 384 wv ++ AW G qk 384 bv ++ AZ G qz 384 zv) := hD.sub [11, 12, 13, 14, 15, 16, 17, 18, 19, 20, 21, 22, 23, 24, 25, 26, 27, 28, 29, 30, 31, 32, 33, 34, 35, 36, 37, 38, 39, 40, 41, 0, 1, 2, 3, 4, 5, 6, 7, 8, 9, 10] (by decide +kernel) sb_e33f1c05a0
                        clear hB hk1 hFc ht hz1 hvm hk0
                        generalize H1 = H at hP hS ⊢
                        obtain ⟨z145, rfl, -, ⟨okx141, okq142, okra143, okf144⟩, w147, w148, w149⟩ := hw
                        have w148 := w148.symm
                        subst w148
                        have w149 := w149.symm
                        subst w149
                        obtain ⟨qn, -, hzn⟩ := w147
                        have hz0 : z145 = 0 := by rw [hzn, neckP_0]; exact hyL.2.2.2.1 (by omega)
                        refine mf_if_eq (tgt := 505) hx hb dL_law_500 (by decide) (i32_mk (by omega) (by omega)) (fun c150 => ?_) (fun c150 => ?_)
                        · skip
                          refine W.widen (k := cells + 5) (n := slots + 30) (by omega) (by omega) ?_
                          exact kk x141 ra143 (okx141) (okra143) H locs ls hP hD hS (lv_sub hl [0, 1, 2, 3, 4, 5, 6, 7, 8, 9, 14, 15] rfl)
                        · skip
                          exfalso; omega
              · skip
                exfalso; have := hyL.2.2.1 (by omega); omega
