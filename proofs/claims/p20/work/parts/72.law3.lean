/-! 72.law3: a year of the law, a part of it -/
theorem sb_a3033614e0 {G : mf_G} {h1 p1 a1 f1 ae1 : Nat} {x1 : mf_V} {h2 : Nat} {ad2 : Nat → Nat} {x2 : mf_V} {h3 : Nat} {ad3 : Nat → Nat} {x3 : mf_V} {h4 : Nat} {ad4 : Nat → Nat} {x4 : mf_V} {h5 : Nat} {ad5 : Nat → Nat} {ca5 n5 : Nat} {x5 : mf_V} {h6 : Nat} {x6 : mf_V} {h7 : Nat} {x7 : mf_V} {h8 : Nat} {x8 : mf_V} : ([31, 32, 33, 34, 35, 36, 37, 38] : List Nat).filterMap (fun i => (OW G h1 p1 a1 f1 ae1 x1 ++ RW G h2 ad2 x2 ++ RW G h3 ad3 x3 ++ FW G h4 ad4 x4 ++ SW G h5 ad5 ca5 n5 x5 ++ AW G h6 384 x6 ++ AW G h7 384 x7 ++ AZ G h8 384 x8)[i]?) = SW G h5 ad5 ca5 n5 x5 := rfl
theorem sb_d0fb6cb279 {G : mf_G} {h1 p1 a1 f1 ae1 : Nat} {x1 : mf_V} {h2 : Nat} {ad2 : Nat → Nat} {x2 : mf_V} {h3 : Nat} {ad3 : Nat → Nat} {x3 : mf_V} {h4 : Nat} {ad4 : Nat → Nat} {x4 : mf_V} {h5 : Nat} {ad5 : Nat → Nat} {ca5 n5 : Nat} {x5 : mf_V} {h6 : Nat} {x6 : mf_V} {h7 : Nat} {x7 : mf_V} {h8 : Nat} {x8 : mf_V} : ([31, 32, 33, 34, 35, 36, 37, 38] : List Nat).map (fun i => (OW G h1 p1 a1 f1 ae1 x1 ++ RW G h2 ad2 x2 ++ RW G h3 ad3 x3 ++ FW G h4 ad4 x4 ++ SW G h5 ad5 ca5 n5 x5 ++ AW G h6 384 x6 ++ AW G h7 384 x7 ++ AZ G h8 384 x8)[i]?) = (SW G h5 ad5 ca5 n5 x5).map some := rfl
theorem sb_27402e1e03 {G : mf_G} {h1 p1 a1 f1 ae1 : Nat} {x1 : mf_V} {h2 : Nat} {ad2 : Nat → Nat} {x2 : mf_V} {h3 : Nat} {ad3 : Nat → Nat} {x3 : mf_V} {h4 : Nat} {ad4 : Nat → Nat} {x4 : mf_V} {h5 : Nat} {ad5 : Nat → Nat} {ca5 n5 : Nat} {x5 : mf_V} {h6 : Nat} {x6 : mf_V} {h7 : Nat} {x7 : mf_V} {h8 : Nat} {x8 : mf_V} : ([0, 1, 2, 3, 4, 5, 6, 7, 8, 9, 10, 11, 12, 13, 14, 15, 16, 17, 18, 19, 20, 21, 22, 23, 24, 25, 26, 27, 28, 29, 30, 39, 40, 41] : List Nat).map (fun i => (OW G h1 p1 a1 f1 ae1 x1 ++ RW G h2 ad2 x2 ++ RW G h3 ad3 x3 ++ FW G h4 ad4 x4 ++ SW G h5 ad5 ca5 n5 x5 ++ AW G h6 384 x6 ++ AW G h7 384 x7 ++ AZ G h8 384 x8)[i]?) = (OW G h1 p1 a1 f1 ae1 x1 ++ RW G h2 ad2 x2 ++ RW G h3 ad3 x3 ++ FW G h4 ad4 x4 ++ AW G h6 384 x6 ++ AW G h7 384 x7 ++ AZ G h8 384 x8).map some := rfl
theorem sb_ef75be8dce {G : mf_G} {h1 p1 a1 f1 ae1 : Nat} {x1 : mf_V} {h2 : Nat} {ad2 : Nat → Nat} {x2 : mf_V} {h3 : Nat} {ad3 : Nat → Nat} {x3 : mf_V} {h4 : Nat} {ad4 : Nat → Nat} {x4 : mf_V} {h5 : Nat} {x5 : mf_V} {h6 : Nat} {x6 : mf_V} {h7 : Nat} {x7 : mf_V} {h8 : Nat} {ad8 : Nat → Nat} {ca8 n8 : Nat} {x8 : mf_V} : ([0, 1, 2, 3, 4, 5, 6, 7, 8, 9, 10, 11, 12, 13, 14, 15, 16, 17, 18, 19, 20, 21, 22, 23, 24, 25, 26, 27, 28, 29, 30, 34, 35, 36, 37, 38, 39, 40, 41, 31, 32, 33] : List Nat).filterMap (fun i => ((OW G h1 p1 a1 f1 ae1 x1 ++ RW G h2 ad2 x2 ++ RW G h3 ad3 x3 ++ FW G h4 ad4 x4 ++ AW G h5 384 x5 ++ AW G h6 384 x6 ++ AZ G h7 384 x7) ++ (SW G h8 ad8 ca8 n8 x8))[i]?) = OW G h1 p1 a1 f1 ae1 x1 ++ RW G h2 ad2 x2 ++ RW G h3 ad3 x3 ++ FW G h4 ad4 x4 ++ SW G h8 ad8 ca8 n8 x8 ++ AW G h5 384 x5 ++ AW G h6 384 x6 ++ AZ G h7 384 x7 := rfl
theorem sb_34f338cc75 {G : mf_G} {h1 p1 a1 f1 ae1 : Nat} {x1 : mf_V} {h2 : Nat} {ad2 : Nat → Nat} {x2 : mf_V} {h3 : Nat} {ad3 : Nat → Nat} {x3 : mf_V} {h4 : Nat} {ad4 : Nat → Nat} {x4 : mf_V} {h5 : Nat} {x5 : mf_V} {h6 : Nat} {x6 : mf_V} {h7 : Nat} {x7 : mf_V} {h8 : Nat} {ad8 : Nat → Nat} {ca8 n8 : Nat} {x8 : mf_V} : ([0, 1, 2, 3, 4, 5, 6, 7, 8, 9, 10, 11, 12, 13, 14, 15, 16, 17, 18, 19, 20, 21, 22, 23, 24, 25, 26, 27, 28, 29, 30, 34, 35, 36, 37, 38, 39, 40, 41, 31, 32, 33] : List Nat).map (fun i => ((OW G h1 p1 a1 f1 ae1 x1 ++ RW G h2 ad2 x2 ++ RW G h3 ad3 x3 ++ FW G h4 ad4 x4 ++ AW G h5 384 x5 ++ AW G h6 384 x6 ++ AZ G h7 384 x7) ++ (SW G h8 ad8 ca8 n8 x8))[i]?) = (OW G h1 p1 a1 f1 ae1 x1 ++ RW G h2 ad2 x2 ++ RW G h3 ad3 x3 ++ FW G h4 ad4 x4 ++ SW G h8 ad8 ca8 n8 x8 ++ AW G h5 384 x5 ++ AW G h6 384 x6 ++ AZ G h7 384 x7).map some := rfl
set_option maxHeartbeats 4000000 in
set_option maxRecDepth 100000 in
theorem sg_3 {p : Program} {l : Launch} {e : Env} {s : State} {m : MethodId} {below : List Frame} {meth : Method} {c : Code} {Q : State → Prop} {b L : Nat} {xs : Nat → Int32} {G : mf_G} {A : Nat → Prop} (E : LEp p l s m meth c b L xs G A) (hL : L ≤ 260) {ho pn pa pf ae hm : Nat} {adn ada adf adm : Nat → Nat} {f : mf_V} (okf : rOK flo fhi f) (hf4 : f 4 0 = 1) (hFI : FInv f) {x : mf_V} {r : mf_V} {ra : mf_V} {u : mf_V} {ca : Nat} {nn : Nat} {qw : Nat} {qk : Nat} {qz : Nat} {wv : mf_V} {bv : mf_V} {zv : mf_V} {tv : Int} {cells slots : Nat} {H : Heap} {locs : List Loc} {ls : Array Slot} (hLQ : LQs (8 + 2 * tv) x r ra f nn u) (h8 : r 8 0 = tv) (ht : 0 ≤ tv ∧ tv < 24) (hcl : cells + 160 ≤ 600104 ∧ slots + 11900 ≤ 7301314) (hP : va_P G.1 vwCl (OW G ho pn pa pf ae x ++ RW G pn adn r ++ RW G pa ada ra ++ FW G pf adf f ++ SW G hm adm ca nn u ++ AW G qw 384 wv ++ AW G qk 384 bv ++ AZ G qz 384 zv) H) (hD : va_D A (OW G ho pn pa pf ae x ++ RW G pn adn r ++ RW G pa ada ra ++ FW G pf adf f ++ SW G hm adm ca nn u ++ AW G qw 384 wv ++ AW G qk 384 bv ++ AZ G qz 384 zv)) (hS : va_S A s.heap H locs) (hl : lv_has ls 27 [(0, .ref b), (1, .ref ho), (2, .ref hm), (4, .int (iI (tv))), (6, .int (iI (r 7 0))), (7, .ref qw), (8, .ref qk), (9, .ref qz)])
    (kk : ∀ (x' : mf_V) (q : mf_V) (ra' : mf_V) (u' : mf_V) (ca' : Nat) (n' : Nat) (bz : Int) (lv : Int), (LQs (9 + 2 * tv) x' q ra' f n' u') → (YearL r q bz (r 5 (tv % 12))) → (q 8 0 = tv + 1) → ((lv = 1 ↔ cof f q 0 1 < cof f r 0 1) ∧ -1 ≤ lv ∧ lv ≤ 60) → (q 2 = r 2) → ∀ (H : Heap) (locs : List Loc) (ls : Array Slot), va_P G.1 vwCl (OW G ho pn pa pf ae x' ++ RW G pn adn q ++ RW G pa ada ra' ++ FW G pf adf f ++ SW G hm adm ca' n' u' ++ AW G qw 384 wv ++ AW G qk 384 bv ++ AZ G qz 384 zv) H → va_D A (OW G ho pn pa pf ae x' ++ RW G pn adn q ++ RW G pa ada ra' ++ FW G pf adf f ++ SW G hm adm ca' n' u' ++ AW G qw 384 wv ++ AW G qk 384 bv ++ AZ G qz 384 zv) → va_S A s.heap H locs → lv_has ls 27 [(0, .ref b), (1, .ref ho), (2, .ref hm), (4, .int (iI (tv))), (6, .int (iI (r 7 0))), (7, .ref qw), (8, .ref qk), (9, .ref qz), (10, .int (iI (q 7 0))), (11, .int (iI (q 9 0 - r 9 0))), (12, .int (iI (bz))), (13, .int (iI (lv))), (14, .int (iI (cof f r 0 1))), (15, .int (iI (r 9 0))), (16, .int (iI (r 5 (tv % 12)))), (17, .int (iI (bz)))] → W p l e room_1 s m #[Value.ref b] below meth c H locs (cells + 160) (slots + 11900) Q (F0 m 396 ls [])) :
    W p l e room_1 s m #[Value.ref b] below meth c H locs cells slots Q (F0 m 326 ls []) := by
  obtain ⟨hx, hb, hr, hml, hown, hts, hXs, hbl, hl9, hK, hN, hSX, hCX, hZ, hA, hbA⟩ := E
  have hcR : room_1.cells = 600104 := rfl
  have hsR : room_1.slots = 7301314 := rfl
  have hinX3 := inlX3
  have hinX2 := inlX2
  obtain ⟨⟨okx, ok, okra, -⟩, hPI, hB, oku, hrel⟩ := id hLQ
  have hI := hPI.1
  have h27 := hI.1.1
  have okLr : (0 : Int) ≤ r 7 0 ∧ r 7 0 ≤ 150 := ok 7 0
  have okL8 : (0 : Int) ≤ r 8 0 ∧ r 8 0 ≤ 90000 := ok 8 0
  have okL9 : (0 : Int) ≤ r 9 0 ∧ r 9 0 ≤ 100000000 := ok 9 0
  have b9 := hB.2.1
  refine lv_aload_n hx hb dL_law_326 rfl (lv_at hl 1 rfl) ?_
  refine mf_iconst hx hb dL_law_327 ?_
  refine mf_iconst hx hb dL_law_328 ?_
  have hk0 : kFore 1 0 = 0 := by exact (mf_if_f (fun q => q ⟨by omega, by omega⟩)).trans (mf_if_f (fun q => q ⟨by omega, by omega⟩))
  have hFc := va_free (wc := OW G ho pn pa pf ae x ++ RW G pn adn r ++ RW G pa ada ra ++ FW G pf adf f) hD hS hA [0, 1, 2, 3, 4, 5, 6, 7, 8, 9, 10, 11, 12, 13, 14, 15, 16, 17, 18, 19, 20, 21, 22, 23, 24, 25, 26, 27, 28, 29, 30] sb_66a1bed9f5
  refine vx_calli (vx_runV (As := [.int (iI (1)), .int (iI (0))]) (rest := []) ⟨hx, hb, hml, hown, hts⟩ (c_X2_foresee l hl9 G ho pn pa pf ae x adn r ada ra adf f (1) (0) (8 + 2 * tv) (i32_mk (by decide) (by decide)) (i32_mk (by decide) (by decide)) (by assumption) (by assumption) (by assumption) (by assumption) (by exact hI) (by exact hB) (by omega) _) (cwV 2 hts gL_law_X2_foresee rfl rfl rfl (by decide +kernel) ⟨Nat.le_of_ble_eq_true rfl, Nat.le_of_ble_eq_true rfl⟩) (wrVx (wc := OW G ho pn pa pf ae x ++ RW G pn adn r ++ RW G pa ada ra ++ FW G pf adf f) hSX hCX hZ hS hFc hK hP hD hN [0, 1, 2, 3, 4, 5, 6, 7, 8, 9, 10, 11, 12, 13, 14, 15, 16, 17, 18, 19, 20, 21, 22, 23, 24, 25, 26, 27, 28, 29, 30] (by decide +kernel) sb_a4303c86f1 sb_66a1bed9f5 (ci := 2) rfl rfl) rfl rfl hl.1 rfl (lv_room (Nat.le_of_ble_eq_true rfl)) dL_law_329 ⟨(by rw [hcR]; omega), (by rw [hsR]; omega)⟩) hS (fun q _ h => hFc q h) hFc (fun q _ h => hFc q h) (fun E ce q9 _ t H1 locs ht hvm _ hB hz1 hk1 hS hce hcv hcl => ?_) (fun q1 u2 t H1 locs ht hvm hw hB hz1 hk1 hS => ?_)
  · exfalso
    have hx9 := hB.1
    rcases hx9 with ⟨-, hk9⟩ | ⟨-, hk9⟩ <;> omega
  obtain ⟨x3, r4, ra5, f6⟩ := u2
  try dsimp only at hw hB
  obtain ⟨hP, hD⟩ := wrJ2 (ws := OW G ho pn pa pf ae x ++ RW G pn adn r ++ RW G pa ada ra ++ FW G pf adf f ++ SW G hm adm ca nn u ++ AW G qw 384 wv ++ AW G qk 384 bv ++ AZ G qz 384 zv) (wc := OW G ho pn pa pf ae x ++ RW G pn adn r ++ RW G pa ada ra ++ FW G pf adf f) (wr := SW G hm adm ca nn u ++ AW G qw 384 wv ++ AW G qk 384 bv ++ AZ G qz 384 zv) (w1 := OW G ho pn pa pf ae x3 ++ RW G pn adn r4 ++ RW G pa ada ra5 ++ FW G pf adf f6) hP hD [0, 1, 2, 3, 4, 5, 6, 7, 8, 9, 10, 11, 12, 13, 14, 15, 16, 17, 18, 19, 20, 21, 22, 23, 24, 25, 26, 27, 28, 29, 30] [31, 32, 33, 34, 35, 36, 37, 38, 39, 40, 41] sb_66a1bed9f5 sb_4ccd58796c (by decide +kernel) (by decide +kernel) hk1 ht hFc hB
  have hP : va_P G.1 vwCl (OW G ho pn pa pf ae x3 ++ RW G pn adn r4 ++ RW G pa ada ra5 ++ FW G pf adf f6 ++ SW G hm adm ca nn u ++ AW G qw 384 wv ++ AW G qk 384 bv ++ AZ G qz 384 zv) H1 := hP.sub [11, 12, 13, 14, 15, 16, 17, 18, 19, 20, 21, 22, 23, 24, 25, 26, 27, 28, 29, 30, 31, 32, 33, 34, 35, 36, 37, 38, 39, 40, 41, 0, 1, 2, 3, 4, 5, 6, 7, 8, 9, 10] sb_eac6f2d681
  have hD : va_D A (OW G ho pn pa pf ae x3 ++ RW G pn adn r4 ++ RW G pa ada ra5 ++ FW G pf adf f6 ++ SW G hm adm ca nn u ++ AW G qw 384 wv ++ AW G qk 384 bv ++ AZ G qz 384 zv) := hD.sub [11, 12, 13, 14, 15, 16, 17, 18, 19, 20, 21, 22, 23, 24, 25, 26, 27, 28, 29, 30, 31, 32, 33, 34, 35, 36, 37, 38, 39, 40, 41, 0, 1, 2, 3, 4, 5, 6, 7, 8, 9, 10] (by decide +kernel) sb_e33f1c05a0
  clear hB hk1 hFc ht hz1 hvm hk0
  generalize H1 = H at hP hS ⊢
  obtain ⟨z7, rfl, -, ⟨okx3, okr4, okra5, okf6⟩, w9, w10, w11⟩ := hw
  have w10 := w10.symm
  subst w10
  have w11 := w11.symm
  subst w11
  obtain ⟨qf1, bf1, hyf1, -, -, hzf1⟩ := w9
  skip
  refine lv_istore (lv' := [(10, .int (iI (z7))), (0, .ref b), (1, .ref ho), (2, .ref hm), (4, .int (iI (tv))), (6, .int (iI (r 7 0))), (7, .ref qw), (8, .ref qk), (9, .ref qz)]) hx hb dL_law_332 hl (by decide) rfl (fun ls hl => ?_)
  refine lv_aload_n hx hb dL_law_334 rfl (lv_at hl 2 rfl) ?_
  refine mf_iconst hx hb dL_law_335 ?_
  refine mf_iconst hx hb dL_law_336 ?_
  have hk0 : kFore 1 1 = 0 := by exact (mf_if_f (fun q => q ⟨by omega, by omega⟩)).trans (mf_if_f (fun q => q ⟨by omega, by omega⟩))
  have hFc := va_free (wc := OW G ho pn pa pf ae x3 ++ RW G pn adn r ++ RW G pa ada ra5 ++ FW G pf adf f) hD hS hA [0, 1, 2, 3, 4, 5, 6, 7, 8, 9, 10, 11, 12, 13, 14, 15, 16, 17, 18, 19, 20, 21, 22, 23, 24, 25, 26, 27, 28, 29, 30] sb_66a1bed9f5
  refine vx_calli (vx_runV (As := [.int (iI (1)), .int (iI (1))]) (rest := []) ⟨hx, hb, hml, hown, hts⟩ (c_X2_foresee l hl9 G ho pn pa pf ae x3 adn r ada ra5 adf f (1) (1) (8 + 2 * tv) (i32_mk (by decide) (by decide)) (i32_mk (by decide) (by decide)) (by assumption) (by assumption) (by assumption) (by assumption) (by exact hI) (by exact hB) (by omega) _) (cwV 2 hts gL_law_X2_foresee rfl rfl rfl (by decide +kernel) ⟨Nat.le_of_ble_eq_true rfl, Nat.le_of_ble_eq_true rfl⟩) (wrVx (wc := OW G ho pn pa pf ae x3 ++ RW G pn adn r ++ RW G pa ada ra5 ++ FW G pf adf f) hSX hCX hZ hS hFc hK hP hD hN [0, 1, 2, 3, 4, 5, 6, 7, 8, 9, 10, 11, 12, 13, 14, 15, 16, 17, 18, 19, 20, 21, 22, 23, 24, 25, 26, 27, 28, 29, 30] (by decide +kernel) sb_a4303c86f1 sb_66a1bed9f5 (ci := 2) rfl rfl) rfl rfl hl.1 rfl (lv_room (Nat.le_of_ble_eq_true rfl)) dL_law_337 ⟨(by rw [hcR]; omega), (by rw [hsR]; omega)⟩) hS (fun q _ h => hFc q h) hFc (fun q _ h => hFc q h) (fun E ce q9 _ t H1 locs ht hvm _ hB hz1 hk1 hS hce hcv hcl => ?_) (fun q12 u13 t H1 locs ht hvm hw hB hz1 hk1 hS => ?_)
  · exfalso
    have hx9 := hB.1
    rcases hx9 with ⟨-, hk9⟩ | ⟨-, hk9⟩ <;> omega
  obtain ⟨x14, r15, ra16, f17⟩ := u13
  try dsimp only at hw hB
  obtain ⟨hP, hD⟩ := wrJ2 (ws := OW G ho pn pa pf ae x3 ++ RW G pn adn r ++ RW G pa ada ra5 ++ FW G pf adf f ++ SW G hm adm ca nn u ++ AW G qw 384 wv ++ AW G qk 384 bv ++ AZ G qz 384 zv) (wc := OW G ho pn pa pf ae x3 ++ RW G pn adn r ++ RW G pa ada ra5 ++ FW G pf adf f) (wr := SW G hm adm ca nn u ++ AW G qw 384 wv ++ AW G qk 384 bv ++ AZ G qz 384 zv) (w1 := OW G ho pn pa pf ae x14 ++ RW G pn adn r15 ++ RW G pa ada ra16 ++ FW G pf adf f17) hP hD [0, 1, 2, 3, 4, 5, 6, 7, 8, 9, 10, 11, 12, 13, 14, 15, 16, 17, 18, 19, 20, 21, 22, 23, 24, 25, 26, 27, 28, 29, 30] [31, 32, 33, 34, 35, 36, 37, 38, 39, 40, 41] sb_66a1bed9f5 sb_4ccd58796c (by decide +kernel) (by decide +kernel) hk1 ht hFc hB
  have hP : va_P G.1 vwCl (OW G ho pn pa pf ae x14 ++ RW G pn adn r15 ++ RW G pa ada ra16 ++ FW G pf adf f17 ++ SW G hm adm ca nn u ++ AW G qw 384 wv ++ AW G qk 384 bv ++ AZ G qz 384 zv) H1 := hP.sub [11, 12, 13, 14, 15, 16, 17, 18, 19, 20, 21, 22, 23, 24, 25, 26, 27, 28, 29, 30, 31, 32, 33, 34, 35, 36, 37, 38, 39, 40, 41, 0, 1, 2, 3, 4, 5, 6, 7, 8, 9, 10] sb_eac6f2d681
  have hD : va_D A (OW G ho pn pa pf ae x14 ++ RW G pn adn r15 ++ RW G pa ada ra16 ++ FW G pf adf f17 ++ SW G hm adm ca nn u ++ AW G qw 384 wv ++ AW G qk 384 bv ++ AZ G qz 384 zv) := hD.sub [11, 12, 13, 14, 15, 16, 17, 18, 19, 20, 21, 22, 23, 24, 25, 26, 27, 28, 29, 30, 31, 32, 33, 34, 35, 36, 37, 38, 39, 40, 41, 0, 1, 2, 3, 4, 5, 6, 7, 8, 9, 10] (by decide +kernel) sb_e33f1c05a0
  clear hB hk1 hFc ht hz1 hvm hk0
  generalize H1 = H at hP hS ⊢
  obtain ⟨z18, rfl, -, ⟨okx14, okr15, okra16, okf17⟩, w20, w21, w22⟩ := hw
  have w21 := w21.symm
  subst w21
  have w22 := w22.symm
  subst w22
  obtain ⟨qf2, bf2, hyf2, -, -, hzf2⟩ := w20
  skip
  refine lv_istore (lv' := [(11, .int (iI (z18))), (10, .int (iI (z7))), (0, .ref b), (1, .ref ho), (2, .ref hm), (4, .int (iI (tv))), (6, .int (iI (r 7 0))), (7, .ref qw), (8, .ref qk), (9, .ref qz)]) hx hb dL_law_340 hl (by decide) rfl (fun ls hl => ?_)
  refine lv_aload_n hx hb dL_law_342 rfl (lv_at hl 3 rfl) ?_
  refine mf_iconst hx hb dL_law_343 ?_
  refine mf_iconst hx hb dL_law_344 ?_
  have hk0 : kFore 1 2 = 0 := by exact (mf_if_f (fun q => q ⟨by omega, by omega⟩)).trans (mf_if_f (fun q => q ⟨by omega, by omega⟩))
  have hFc := va_free (wc := OW G ho pn pa pf ae x14 ++ RW G pn adn r ++ RW G pa ada ra16 ++ FW G pf adf f) hD hS hA [0, 1, 2, 3, 4, 5, 6, 7, 8, 9, 10, 11, 12, 13, 14, 15, 16, 17, 18, 19, 20, 21, 22, 23, 24, 25, 26, 27, 28, 29, 30] sb_66a1bed9f5
  refine vx_calli (vx_runV (As := [.int (iI (1)), .int (iI (2))]) (rest := []) ⟨hx, hb, hml, hown, hts⟩ (c_X2_foresee l hl9 G ho pn pa pf ae x14 adn r ada ra16 adf f (1) (2) (8 + 2 * tv) (i32_mk (by decide) (by decide)) (i32_mk (by decide) (by decide)) (by assumption) (by assumption) (by assumption) (by assumption) (by exact hI) (by exact hB) (by omega) _) (cwV 2 hts gL_law_X2_foresee rfl rfl rfl (by decide +kernel) ⟨Nat.le_of_ble_eq_true rfl, Nat.le_of_ble_eq_true rfl⟩) (wrVx (wc := OW G ho pn pa pf ae x14 ++ RW G pn adn r ++ RW G pa ada ra16 ++ FW G pf adf f) hSX hCX hZ hS hFc hK hP hD hN [0, 1, 2, 3, 4, 5, 6, 7, 8, 9, 10, 11, 12, 13, 14, 15, 16, 17, 18, 19, 20, 21, 22, 23, 24, 25, 26, 27, 28, 29, 30] (by decide +kernel) sb_a4303c86f1 sb_66a1bed9f5 (ci := 2) rfl rfl) rfl rfl hl.1 rfl (lv_room (Nat.le_of_ble_eq_true rfl)) dL_law_345 ⟨(by rw [hcR]; omega), (by rw [hsR]; omega)⟩) hS (fun q _ h => hFc q h) hFc (fun q _ h => hFc q h) (fun E ce q9 _ t H1 locs ht hvm _ hB hz1 hk1 hS hce hcv hcl => ?_) (fun q23 u24 t H1 locs ht hvm hw hB hz1 hk1 hS => ?_)
  · exfalso
    have hx9 := hB.1
    rcases hx9 with ⟨-, hk9⟩ | ⟨-, hk9⟩ <;> omega
  obtain ⟨x25, r26, ra27, f28⟩ := u24
  try dsimp only at hw hB
  obtain ⟨hP, hD⟩ := wrJ2 (ws := OW G ho pn pa pf ae x14 ++ RW G pn adn r ++ RW G pa ada ra16 ++ FW G pf adf f ++ SW G hm adm ca nn u ++ AW G qw 384 wv ++ AW G qk 384 bv ++ AZ G qz 384 zv) (wc := OW G ho pn pa pf ae x14 ++ RW G pn adn r ++ RW G pa ada ra16 ++ FW G pf adf f) (wr := SW G hm adm ca nn u ++ AW G qw 384 wv ++ AW G qk 384 bv ++ AZ G qz 384 zv) (w1 := OW G ho pn pa pf ae x25 ++ RW G pn adn r26 ++ RW G pa ada ra27 ++ FW G pf adf f28) hP hD [0, 1, 2, 3, 4, 5, 6, 7, 8, 9, 10, 11, 12, 13, 14, 15, 16, 17, 18, 19, 20, 21, 22, 23, 24, 25, 26, 27, 28, 29, 30] [31, 32, 33, 34, 35, 36, 37, 38, 39, 40, 41] sb_66a1bed9f5 sb_4ccd58796c (by decide +kernel) (by decide +kernel) hk1 ht hFc hB
  have hP : va_P G.1 vwCl (OW G ho pn pa pf ae x25 ++ RW G pn adn r26 ++ RW G pa ada ra27 ++ FW G pf adf f28 ++ SW G hm adm ca nn u ++ AW G qw 384 wv ++ AW G qk 384 bv ++ AZ G qz 384 zv) H1 := hP.sub [11, 12, 13, 14, 15, 16, 17, 18, 19, 20, 21, 22, 23, 24, 25, 26, 27, 28, 29, 30, 31, 32, 33, 34, 35, 36, 37, 38, 39, 40, 41, 0, 1, 2, 3, 4, 5, 6, 7, 8, 9, 10] sb_eac6f2d681
  have hD : va_D A (OW G ho pn pa pf ae x25 ++ RW G pn adn r26 ++ RW G pa ada ra27 ++ FW G pf adf f28 ++ SW G hm adm ca nn u ++ AW G qw 384 wv ++ AW G qk 384 bv ++ AZ G qz 384 zv) := hD.sub [11, 12, 13, 14, 15, 16, 17, 18, 19, 20, 21, 22, 23, 24, 25, 26, 27, 28, 29, 30, 31, 32, 33, 34, 35, 36, 37, 38, 39, 40, 41, 0, 1, 2, 3, 4, 5, 6, 7, 8, 9, 10] (by decide +kernel) sb_e33f1c05a0
  clear hB hk1 hFc ht hz1 hvm hk0
  generalize H1 = H at hP hS ⊢
  obtain ⟨z29, rfl, -, ⟨okx25, okr26, okra27, okf28⟩, w31, w32, w33⟩ := hw
  have w32 := w32.symm
  subst w32
  have w33 := w33.symm
  subst w33
  obtain ⟨qf3, bf3, hyf3, -, -, hzf3⟩ := w31
  skip
  refine lv_istore (lv' := [(12, .int (iI (z29))), (11, .int (iI (z18))), (10, .int (iI (z7))), (0, .ref b), (1, .ref ho), (2, .ref hm), (4, .int (iI (tv))), (6, .int (iI (r 7 0))), (7, .ref qw), (8, .ref qk), (9, .ref qz)]) hx hb dL_law_348 hl (by decide) rfl (fun ls hl => ?_)
  refine lv_aload_n hx hb dL_law_350 rfl (lv_at hl 4 rfl) ?_
  refine mf_iconst hx hb dL_law_351 ?_
  have hk0 : kLose f 0 = 0 := by exact mf_if_f (fun q => q ⟨by omega, by omega⟩)
  have hFc := va_free (wc := OW G ho pn pa pf ae x25 ++ RW G pn adn r ++ RW G pa ada ra27 ++ FW G pf adf f) hD hS hA [0, 1, 2, 3, 4, 5, 6, 7, 8, 9, 10, 11, 12, 13, 14, 15, 16, 17, 18, 19, 20, 21, 22, 23, 24, 25, 26, 27, 28, 29, 30] sb_66a1bed9f5
  refine vx_calli (vx_runV (As := [.int (iI (0))]) (rest := []) ⟨hx, hb, hml, hown, hts⟩ (c_X2_loses l hl9 G ho pn pa pf ae x25 adn r ada ra27 adf f (0) (8 + 2 * tv) (i32_mk (by decide) (by decide)) (by assumption) (by assumption) (by assumption) (by assumption) (by exact hI) (by exact hB) (by omega) _) (cwV 1 hts gL_law_X2_loses rfl rfl rfl (by decide +kernel) ⟨Nat.le_of_ble_eq_true rfl, Nat.le_of_ble_eq_true rfl⟩) (wrVx (wc := OW G ho pn pa pf ae x25 ++ RW G pn adn r ++ RW G pa ada ra27 ++ FW G pf adf f) hSX hCX hZ hS hFc hK hP hD hN [0, 1, 2, 3, 4, 5, 6, 7, 8, 9, 10, 11, 12, 13, 14, 15, 16, 17, 18, 19, 20, 21, 22, 23, 24, 25, 26, 27, 28, 29, 30] (by decide +kernel) sb_a4303c86f1 sb_66a1bed9f5 (ci := 2) rfl rfl) rfl rfl hl.1 rfl (lv_room (Nat.le_of_ble_eq_true rfl)) dL_law_352 ⟨(by rw [hcR]; omega), (by rw [hsR]; omega)⟩) hS (fun q _ h => hFc q h) hFc (fun q _ h => hFc q h) (fun E ce q9 _ t H1 locs ht hvm _ hB hz1 hk1 hS hce hcv hcl => ?_) (fun q34 u35 t H1 locs ht hvm hw hB hz1 hk1 hS => ?_)
  · exfalso
    have hx9 := hB.1
    rcases hx9 with ⟨-, hk9⟩ <;> omega
  obtain ⟨x36, r37, ra38, f39⟩ := u35
  try dsimp only at hw hB
  obtain ⟨hP, hD⟩ := wrJ2 (ws := OW G ho pn pa pf ae x25 ++ RW G pn adn r ++ RW G pa ada ra27 ++ FW G pf adf f ++ SW G hm adm ca nn u ++ AW G qw 384 wv ++ AW G qk 384 bv ++ AZ G qz 384 zv) (wc := OW G ho pn pa pf ae x25 ++ RW G pn adn r ++ RW G pa ada ra27 ++ FW G pf adf f) (wr := SW G hm adm ca nn u ++ AW G qw 384 wv ++ AW G qk 384 bv ++ AZ G qz 384 zv) (w1 := OW G ho pn pa pf ae x36 ++ RW G pn adn r37 ++ RW G pa ada ra38 ++ FW G pf adf f39) hP hD [0, 1, 2, 3, 4, 5, 6, 7, 8, 9, 10, 11, 12, 13, 14, 15, 16, 17, 18, 19, 20, 21, 22, 23, 24, 25, 26, 27, 28, 29, 30] [31, 32, 33, 34, 35, 36, 37, 38, 39, 40, 41] sb_66a1bed9f5 sb_4ccd58796c (by decide +kernel) (by decide +kernel) hk1 ht hFc hB
  have hP : va_P G.1 vwCl (OW G ho pn pa pf ae x36 ++ RW G pn adn r37 ++ RW G pa ada ra38 ++ FW G pf adf f39 ++ SW G hm adm ca nn u ++ AW G qw 384 wv ++ AW G qk 384 bv ++ AZ G qz 384 zv) H1 := hP.sub [11, 12, 13, 14, 15, 16, 17, 18, 19, 20, 21, 22, 23, 24, 25, 26, 27, 28, 29, 30, 31, 32, 33, 34, 35, 36, 37, 38, 39, 40, 41, 0, 1, 2, 3, 4, 5, 6, 7, 8, 9, 10] sb_eac6f2d681
  have hD : va_D A (OW G ho pn pa pf ae x36 ++ RW G pn adn r37 ++ RW G pa ada ra38 ++ FW G pf adf f39 ++ SW G hm adm ca nn u ++ AW G qw 384 wv ++ AW G qk 384 bv ++ AZ G qz 384 zv) := hD.sub [11, 12, 13, 14, 15, 16, 17, 18, 19, 20, 21, 22, 23, 24, 25, 26, 27, 28, 29, 30, 31, 32, 33, 34, 35, 36, 37, 38, 39, 40, 41, 0, 1, 2, 3, 4, 5, 6, 7, 8, 9, 10] (by decide +kernel) sb_e33f1c05a0
  clear hB hk1 hFc ht hz1 hvm hk0
  generalize H1 = H at hP hS ⊢
  obtain ⟨z40, rfl, -, ⟨okx36, okr37, okra38, okf39⟩, w42, w43, w44⟩ := hw
  have w43 := w43.symm
  subst w43
  have w44 := w44.symm
  subst w44
  obtain ⟨chl, nvl, hLl, hzl⟩ := w42
  skip
  refine lv_istore (lv' := [(13, .int (iI (z40))), (12, .int (iI (z29))), (11, .int (iI (z18))), (10, .int (iI (z7))), (0, .ref b), (1, .ref ho), (2, .ref hm), (4, .int (iI (tv))), (6, .int (iI (r 7 0))), (7, .ref qw), (8, .ref qk), (9, .ref qz)]) hx hb dL_law_355 hl (by decide) rfl (fun ls hl => ?_)
  refine lv_aload_n hx hb dL_law_357 rfl (lv_at hl 5 rfl) ?_
  refine mf_iconst hx hb dL_law_358 ?_
  refine mf_iconst hx hb dL_law_359 ?_
  have hk0 : kFarm f 0 1 = 0 := by exact mf_if_f (fun q => q ⟨⟨by omega, by omega⟩, by omega, by omega⟩)
  have hFc := va_free (wc := OW G ho pn pa pf ae x36 ++ RW G pn adn r ++ RW G pa ada ra38 ++ FW G pf adf f) hD hS hA [0, 1, 2, 3, 4, 5, 6, 7, 8, 9, 10, 11, 12, 13, 14, 15, 16, 17, 18, 19, 20, 21, 22, 23, 24, 25, 26, 27, 28, 29, 30] sb_66a1bed9f5
  refine vx_calli (vx_runV (As := [.int (iI (0)), .int (iI (1))]) (rest := []) ⟨hx, hb, hml, hown, hts⟩ (c_X2_farm l hl9 G ho pn pa pf ae x36 adn r ada ra38 adf f (0) (1) (i32_mk (by decide) (by decide)) (i32_mk (by decide) (by decide)) (by assumption) (by assumption) (by assumption) (by assumption) _) (cwV 2 hts gL_law_X2_farm rfl rfl rfl (by decide +kernel) ⟨Nat.le_of_ble_eq_true rfl, Nat.le_of_ble_eq_true rfl⟩) (wrVx (wc := OW G ho pn pa pf ae x36 ++ RW G pn adn r ++ RW G pa ada ra38 ++ FW G pf adf f) hSX hCX hZ hS hFc hK hP hD hN [0, 1, 2, 3, 4, 5, 6, 7, 8, 9, 10, 11, 12, 13, 14, 15, 16, 17, 18, 19, 20, 21, 22, 23, 24, 25, 26, 27, 28, 29, 30] (by decide +kernel) sb_a4303c86f1 sb_66a1bed9f5 (ci := 2) rfl rfl) rfl rfl hl.1 rfl (lv_room (Nat.le_of_ble_eq_true rfl)) dL_law_360 ⟨(by rw [hcR]; omega), (by rw [hsR]; omega)⟩) hS (fun q _ h => hFc q h) hFc (fun q _ h => hFc q h) (fun E ce q9 _ t H1 locs ht hvm _ hB hz1 hk1 hS hce hcv hcl => ?_) (fun q45 u46 t H1 locs ht hvm hw hB hz1 hk1 hS => ?_)
  · exfalso
    have hx9 := hB.1
    rcases hx9 with ⟨-, hk9⟩ <;> omega
  obtain ⟨x47, r48, ra49, f50⟩ := u46
  try dsimp only at hw hB
  obtain ⟨hP, hD⟩ := wrJ2 (ws := OW G ho pn pa pf ae x36 ++ RW G pn adn r ++ RW G pa ada ra38 ++ FW G pf adf f ++ SW G hm adm ca nn u ++ AW G qw 384 wv ++ AW G qk 384 bv ++ AZ G qz 384 zv) (wc := OW G ho pn pa pf ae x36 ++ RW G pn adn r ++ RW G pa ada ra38 ++ FW G pf adf f) (wr := SW G hm adm ca nn u ++ AW G qw 384 wv ++ AW G qk 384 bv ++ AZ G qz 384 zv) (w1 := OW G ho pn pa pf ae x47 ++ RW G pn adn r48 ++ RW G pa ada ra49 ++ FW G pf adf f50) hP hD [0, 1, 2, 3, 4, 5, 6, 7, 8, 9, 10, 11, 12, 13, 14, 15, 16, 17, 18, 19, 20, 21, 22, 23, 24, 25, 26, 27, 28, 29, 30] [31, 32, 33, 34, 35, 36, 37, 38, 39, 40, 41] sb_66a1bed9f5 sb_4ccd58796c (by decide +kernel) (by decide +kernel) hk1 ht hFc hB
  have hP : va_P G.1 vwCl (OW G ho pn pa pf ae x47 ++ RW G pn adn r48 ++ RW G pa ada ra49 ++ FW G pf adf f50 ++ SW G hm adm ca nn u ++ AW G qw 384 wv ++ AW G qk 384 bv ++ AZ G qz 384 zv) H1 := hP.sub [11, 12, 13, 14, 15, 16, 17, 18, 19, 20, 21, 22, 23, 24, 25, 26, 27, 28, 29, 30, 31, 32, 33, 34, 35, 36, 37, 38, 39, 40, 41, 0, 1, 2, 3, 4, 5, 6, 7, 8, 9, 10] sb_eac6f2d681
  have hD : va_D A (OW G ho pn pa pf ae x47 ++ RW G pn adn r48 ++ RW G pa ada ra49 ++ FW G pf adf f50 ++ SW G hm adm ca nn u ++ AW G qw 384 wv ++ AW G qk 384 bv ++ AZ G qz 384 zv) := hD.sub [11, 12, 13, 14, 15, 16, 17, 18, 19, 20, 21, 22, 23, 24, 25, 26, 27, 28, 29, 30, 31, 32, 33, 34, 35, 36, 37, 38, 39, 40, 41, 0, 1, 2, 3, 4, 5, 6, 7, 8, 9, 10] (by decide +kernel) sb_e33f1c05a0
  clear hB hk1 hFc ht hz1 hvm hk0
  generalize H1 = H at hP hS ⊢
  obtain ⟨z51, rfl, -, ⟨okx47, okr48, okra49, okf50⟩, w53, w54, w55⟩ := hw
  have w53 := w53.symm
  subst w53
  have w54 := w54.symm
  subst w54
  subst w55
  refine lv_istore (lv' := [(14, .int (iI (cof f r 0 1))), (13, .int (iI (z40))), (12, .int (iI (z29))), (11, .int (iI (z18))), (10, .int (iI (z7))), (0, .ref b), (1, .ref ho), (2, .ref hm), (4, .int (iI (tv))), (6, .int (iI (r 7 0))), (7, .ref qw), (8, .ref qk), (9, .ref qz)]) hx hb dL_law_363 hl (by decide) rfl (fun ls hl => ?_)
  refine lv_aload_n hx hb dL_law_365 rfl (lv_at hl 6 rfl) ?_
  refine mf_iconst hx hb dL_law_366 ?_
  have hk0 : kRng 0 7 3 = 0 := by exact mf_if_f (fun q => q ⟨by omega, by omega⟩)
  have hFc := va_free (wc := OW G ho pn pa pf ae x47 ++ RW G pn adn r ++ RW G pa ada ra49 ++ FW G pf adf f) hD hS hA [0, 1, 2, 3, 4, 5, 6, 7, 8, 9, 10, 11, 12, 13, 14, 15, 16, 17, 18, 19, 20, 21, 22, 23, 24, 25, 26, 27, 28, 29, 30] sb_66a1bed9f5
  refine vx_calli (vx_runV (As := [.int (iI (3))]) (rest := []) ⟨hx, hb, hml, hown, hts⟩ (c_X2_count l hl9 G ho pn pa pf ae x47 adn r ada ra49 adf f (3) (i32_mk (by decide) (by decide)) (by assumption) (by assumption) (by assumption) (by assumption) (by first | assumption | omega) _) (cwV 1 hts gL_law_X2_count rfl rfl rfl (by decide +kernel) ⟨Nat.le_of_ble_eq_true rfl, Nat.le_of_ble_eq_true rfl⟩) (wrVx (wc := OW G ho pn pa pf ae x47 ++ RW G pn adn r ++ RW G pa ada ra49 ++ FW G pf adf f) hSX hCX hZ hS hFc hK hP hD hN [0, 1, 2, 3, 4, 5, 6, 7, 8, 9, 10, 11, 12, 13, 14, 15, 16, 17, 18, 19, 20, 21, 22, 23, 24, 25, 26, 27, 28, 29, 30] (by decide +kernel) sb_a4303c86f1 sb_66a1bed9f5 (ci := 2) rfl rfl) rfl rfl hl.1 rfl (lv_room (Nat.le_of_ble_eq_true rfl)) dL_law_367 ⟨(by rw [hcR]; omega), (by rw [hsR]; omega)⟩) hS (fun q _ h => hFc q h) hFc (fun q _ h => hFc q h) (fun E ce q9 _ t H1 locs ht hvm _ hB hz1 hk1 hS hce hcv hcl => ?_) (fun q56 u57 t H1 locs ht hvm hw hB hz1 hk1 hS => ?_)
  · exfalso
    have hx9 := hB.1
    rcases hx9 with ⟨-, hk9⟩ <;> omega
  obtain ⟨x58, r59, ra60, f61⟩ := u57
  try dsimp only at hw hB
  obtain ⟨hP, hD⟩ := wrJ2 (ws := OW G ho pn pa pf ae x47 ++ RW G pn adn r ++ RW G pa ada ra49 ++ FW G pf adf f ++ SW G hm adm ca nn u ++ AW G qw 384 wv ++ AW G qk 384 bv ++ AZ G qz 384 zv) (wc := OW G ho pn pa pf ae x47 ++ RW G pn adn r ++ RW G pa ada ra49 ++ FW G pf adf f) (wr := SW G hm adm ca nn u ++ AW G qw 384 wv ++ AW G qk 384 bv ++ AZ G qz 384 zv) (w1 := OW G ho pn pa pf ae x58 ++ RW G pn adn r59 ++ RW G pa ada ra60 ++ FW G pf adf f61) hP hD [0, 1, 2, 3, 4, 5, 6, 7, 8, 9, 10, 11, 12, 13, 14, 15, 16, 17, 18, 19, 20, 21, 22, 23, 24, 25, 26, 27, 28, 29, 30] [31, 32, 33, 34, 35, 36, 37, 38, 39, 40, 41] sb_66a1bed9f5 sb_4ccd58796c (by decide +kernel) (by decide +kernel) hk1 ht hFc hB
  have hP : va_P G.1 vwCl (OW G ho pn pa pf ae x58 ++ RW G pn adn r59 ++ RW G pa ada ra60 ++ FW G pf adf f61 ++ SW G hm adm ca nn u ++ AW G qw 384 wv ++ AW G qk 384 bv ++ AZ G qz 384 zv) H1 := hP.sub [11, 12, 13, 14, 15, 16, 17, 18, 19, 20, 21, 22, 23, 24, 25, 26, 27, 28, 29, 30, 31, 32, 33, 34, 35, 36, 37, 38, 39, 40, 41, 0, 1, 2, 3, 4, 5, 6, 7, 8, 9, 10] sb_eac6f2d681
  have hD : va_D A (OW G ho pn pa pf ae x58 ++ RW G pn adn r59 ++ RW G pa ada ra60 ++ FW G pf adf f61 ++ SW G hm adm ca nn u ++ AW G qw 384 wv ++ AW G qk 384 bv ++ AZ G qz 384 zv) := hD.sub [11, 12, 13, 14, 15, 16, 17, 18, 19, 20, 21, 22, 23, 24, 25, 26, 27, 28, 29, 30, 31, 32, 33, 34, 35, 36, 37, 38, 39, 40, 41, 0, 1, 2, 3, 4, 5, 6, 7, 8, 9, 10] (by decide +kernel) sb_e33f1c05a0
  clear hB hk1 hFc ht hz1 hvm hk0
  generalize H1 = H at hP hS ⊢
  obtain ⟨z62, rfl, -, ⟨okx58, okr59, okra60, okf61⟩, w64, w65, w66⟩ := hw
  have w64 := w64.symm
  subst w64
  have w65 := w65.symm
  subst w65
  subst w66
  refine mf_top (totF r (f 4 0) 3) (r 9 0) (by unfold totF; rw [if_neg (by decide)]; rw [if_neg (by decide)]; rw [if_neg (by decide)]; rw [if_pos rfl]) ?_
  skip
  refine lv_istore (lv' := [(15, .int (iI (r 9 0))), (14, .int (iI (cof f r 0 1))), (13, .int (iI (z40))), (12, .int (iI (z29))), (11, .int (iI (z18))), (10, .int (iI (z7))), (0, .ref b), (1, .ref ho), (2, .ref hm), (4, .int (iI (tv))), (6, .int (iI (r 7 0))), (7, .ref qw), (8, .ref qk), (9, .ref qz)]) hx hb dL_law_370 hl (by decide) rfl (fun ls hl => ?_)
  refine lv_aload_n hx hb dL_law_372 rfl (lv_at hl 8 rfl) ?_
  refine va_get (D := G.1) (ci := 3) (v := .ref (adm 7)) (C := RX3) (T := TX3) (N := 9) hx hb hts hinX3 hown hK hP 31 rfl rfl 7 (by decide) (hts (.fieldLink RL 27 "MeanderFarmLaw$Sim" "flow" "[I") (List.mem_of_getElem? (i := 5) rfl)) (fun _ h9 => h9) rfl dL_law_373 ?_
  refine lv_iload hx hb dL_law_376 (lv_at hl 9 rfl) ?_
  refine mf_bipush hx hb dL_law_378 rfl ?_
  refine mf_irem hx hb dL_law_380 (i32_mk (by omega) (by omega)) (by omega) (i32_mk (by decide) (by decide)) (by omega) ?_
  refine mf_iald (n := 12) (f := u 7) hx hb hK hP 37 0 rfl rfl (z := tv % 12) (by omega) (by omega) (by first | decide | omega) dL_law_381 ?_
  refine mf_top (u 7 (tv % 12)) (r 5 (tv % 12)) (by rw [(rel7 hrel (z := tv % 12) (by omega) (by omega))]) ?_
  have b67 : (0 : Int) ≤ r 5 (tv % 12) ∧ r 5 (tv % 12) ≤ 9 := ok 5 (tv % 12)
  refine lv_istore (lv' := [(16, .int (iI (r 5 (tv % 12)))), (15, .int (iI (r 9 0))), (14, .int (iI (cof f r 0 1))), (13, .int (iI (z40))), (12, .int (iI (z29))), (11, .int (iI (z18))), (10, .int (iI (z7))), (0, .ref b), (1, .ref ho), (2, .ref hm), (4, .int (iI (tv))), (6, .int (iI (r 7 0))), (7, .ref qw), (8, .ref qk), (9, .ref qz)]) hx hb dL_law_382 hl (by decide) rfl (fun ls hl => ?_)
  refine lv_aload_n hx hb dL_law_384 rfl (lv_at hl 8 rfl) ?_
  refine mf_iconst hx hb dL_law_385 ?_
  have hk0 : kRng 1 100 1 = 0 := by exact mf_if_f (fun q => q ⟨by omega, by omega⟩)
  have hFc := va_free (wc := OW G ho pn pa pf ae x58 ++ RW G pn adn r ++ RW G pa ada ra60 ++ FW G pf adf f) hD hS hA [0, 1, 2, 3, 4, 5, 6, 7, 8, 9, 10, 11, 12, 13, 14, 15, 16, 17, 18, 19, 20, 21, 22, 23, 24, 25, 26, 27, 28, 29, 30] sb_66a1bed9f5
  refine vx_calli (vx_runV (As := [.int (iI (1))]) (rest := []) ⟨hx, hb, hml, hown, hts⟩ (c_X2_pass l hl9 G ho pn pa pf ae x58 adn r ada ra60 adf f (1) (8 + 2 * tv) (i32_mk (by decide) (by decide)) (by assumption) (by assumption) (by assumption) (by assumption) (by exact hI) (by exact hB) (by omega) _) (cwV 1 hts gL_law_X2_pass rfl rfl rfl (by decide +kernel) ⟨Nat.le_of_ble_eq_true rfl, Nat.le_of_ble_eq_true rfl⟩) (wrVx (wc := OW G ho pn pa pf ae x58 ++ RW G pn adn r ++ RW G pa ada ra60 ++ FW G pf adf f) hSX hCX hZ hS hFc hK hP hD hN [0, 1, 2, 3, 4, 5, 6, 7, 8, 9, 10, 11, 12, 13, 14, 15, 16, 17, 18, 19, 20, 21, 22, 23, 24, 25, 26, 27, 28, 29, 30] (by decide +kernel) sb_a4303c86f1 sb_66a1bed9f5 (ci := 2) rfl rfl) rfl rfl hl.1 rfl (lv_room (Nat.le_of_ble_eq_true rfl)) dL_law_386 ⟨(by rw [hcR]; omega), (by rw [hsR]; omega)⟩) hS (fun q _ h => hFc q h) hFc (fun q _ h => hFc q h) (fun E ce q9 _ t H1 locs ht hvm _ hB hz1 hk1 hS hce hcv hcl => ?_) (fun q68 u69 t H1 locs ht hvm hw hB hz1 hk1 hS => ?_)
  · exfalso
    have hx9 := hB.1
    rcases hx9 with ⟨-, hk9⟩ <;> omega
  obtain ⟨x70, r71, ra72, f73⟩ := u69
  try dsimp only at hw hB
  obtain ⟨hP, hD⟩ := wrJ2 (ws := OW G ho pn pa pf ae x58 ++ RW G pn adn r ++ RW G pa ada ra60 ++ FW G pf adf f ++ SW G hm adm ca nn u ++ AW G qw 384 wv ++ AW G qk 384 bv ++ AZ G qz 384 zv) (wc := OW G ho pn pa pf ae x58 ++ RW G pn adn r ++ RW G pa ada ra60 ++ FW G pf adf f) (wr := SW G hm adm ca nn u ++ AW G qw 384 wv ++ AW G qk 384 bv ++ AZ G qz 384 zv) (w1 := OW G ho pn pa pf ae x70 ++ RW G pn adn r71 ++ RW G pa ada ra72 ++ FW G pf adf f73) hP hD [0, 1, 2, 3, 4, 5, 6, 7, 8, 9, 10, 11, 12, 13, 14, 15, 16, 17, 18, 19, 20, 21, 22, 23, 24, 25, 26, 27, 28, 29, 30] [31, 32, 33, 34, 35, 36, 37, 38, 39, 40, 41] sb_66a1bed9f5 sb_4ccd58796c (by decide +kernel) (by decide +kernel) hk1 ht hFc hB
  have hP : va_P G.1 vwCl (OW G ho pn pa pf ae x70 ++ RW G pn adn r71 ++ RW G pa ada ra72 ++ FW G pf adf f73 ++ SW G hm adm ca nn u ++ AW G qw 384 wv ++ AW G qk 384 bv ++ AZ G qz 384 zv) H1 := hP.sub [11, 12, 13, 14, 15, 16, 17, 18, 19, 20, 21, 22, 23, 24, 25, 26, 27, 28, 29, 30, 31, 32, 33, 34, 35, 36, 37, 38, 39, 40, 41, 0, 1, 2, 3, 4, 5, 6, 7, 8, 9, 10] sb_eac6f2d681
  have hD : va_D A (OW G ho pn pa pf ae x70 ++ RW G pn adn r71 ++ RW G pa ada ra72 ++ FW G pf adf f73 ++ SW G hm adm ca nn u ++ AW G qw 384 wv ++ AW G qk 384 bv ++ AZ G qz 384 zv) := hD.sub [11, 12, 13, 14, 15, 16, 17, 18, 19, 20, 21, 22, 23, 24, 25, 26, 27, 28, 29, 30, 31, 32, 33, 34, 35, 36, 37, 38, 39, 40, 41, 0, 1, 2, 3, 4, 5, 6, 7, 8, 9, 10] (by decide +kernel) sb_e33f1c05a0
  clear hB hk1 hFc ht hz1 hvm hk0
  generalize H1 = H at hP hS ⊢
  obtain ⟨z74, rfl, -, ⟨okx70, okr71, okra72, okf73⟩, w76, w77, w78, w79⟩ := hw
  have w79 := w79.symm
  subst w79
  obtain ⟨r9, b91, b92, ⟨e91, e92⟩, -, -, hy9, e93⟩ := w76
  rw [e91] at hy9
  have e94 : b92 = z74 := by omega
  rw [e94] at hy9
  have hyL := year_L ok hPI hy9
  have hfr9 := YearR_fr hy9
  have hIq := w77
  have hBq := w78
  have g1 := fore1 ok hI hy9 hyf1
  have g2 := fore1 ok hI hy9 hyf2
  have g3 := fore1 ok hI hy9 hyf3
  have ez1 : z7 = r71 7 0 := by rw [hzf1]; unfold vFore; rw [if_pos rfl]; exact g1.1
  have ez2 : z18 = r71 9 0 - r 9 0 := by rw [hzf2]; unfold vFore; rw [if_neg (by decide), if_pos rfl, g2.2.1]
  have ez3 : z29 = z74 := by rw [hzf3]; unfold vFore; rw [if_neg (by decide), if_neg (by decide)]; exact g3.2.2
  have ez3 := ez3.symm
  subst ez1 ez2 ez3
  have hlo := loses1 ok hI hy9 hLl
  have hlb := vLose_b hLl
  rw [← hzl] at hlo hlb
  skip
  refine lv_istore (lv' := [(17, .int (iI (z74))), (16, .int (iI (r 5 (tv % 12)))), (15, .int (iI (r 9 0))), (14, .int (iI (cof f r 0 1))), (13, .int (iI (z40))), (12, .int (iI (z74))), (11, .int (iI (r71 9 0 - r 9 0))), (10, .int (iI (r71 7 0))), (0, .ref b), (1, .ref ho), (2, .ref hm), (4, .int (iI (tv))), (6, .int (iI (r 7 0))), (7, .ref qw), (8, .ref qk), (9, .ref qz)]) hx hb dL_law_389 hl (by decide) rfl (fun ls hl => ?_)
  refine lv_aload_n hx hb dL_law_391 rfl (lv_at hl 10 rfl) ?_
  have hFc := va_free (wc := SW G hm adm ca nn u) hD hS hA [31, 32, 33, 34, 35, 36, 37, 38] sb_d0fb6cb279
  refine va_calli (va_runV (As := []) (rest := []) ⟨hx, hb, hml, hown, hts⟩ (c_X3_pass l G hm adm ca nn u (r) (r71) (z74) (by exact oku) (by exact ok) (by exact hI) (by exact hrel) (by exact hy9) (by intro c; have := hB.2.2 c; omega) (by omega) (by omega) _) (cwV 0 hts gL_law_X3_pass rfl rfl rfl (by decide +kernel) ⟨Nat.le_of_ble_eq_true rfl, Nat.le_of_ble_eq_true rfl⟩) (wrV (wc := SW G hm adm ca nn u) hK hP hD hN [31, 32, 33, 34, 35, 36, 37, 38] (by decide +kernel) sb_a3033614e0 sb_d0fb6cb279 (ci := 3) rfl rfl) rfl rfl hl.1 rfl (lv_room (Nat.le_of_ble_eq_true rfl)) dL_law_392 ⟨(by rw [hcR]; omega), (by rw [hsR]; omega)⟩) hS (fun q _ h => hFc q h) hFc (fun q80 u81 t H1 locs ht hvm hw hB hz1 hk1 hS => ?_)
  obtain ⟨u82, cx83, nx84⟩ := u81
  try dsimp only at hw hB
  obtain ⟨hP, hD⟩ := wrJ2 (ws := OW G ho pn pa pf ae x70 ++ RW G pn adn r71 ++ RW G pa ada ra72 ++ FW G pf adf f ++ SW G hm adm ca nn u ++ AW G qw 384 wv ++ AW G qk 384 bv ++ AZ G qz 384 zv) (wc := SW G hm adm ca nn u) (wr := OW G ho pn pa pf ae x70 ++ RW G pn adn r71 ++ RW G pa ada ra72 ++ FW G pf adf f ++ AW G qw 384 wv ++ AW G qk 384 bv ++ AZ G qz 384 zv) (w1 := SW G hm adm cx83 nx84 u82) hP hD [31, 32, 33, 34, 35, 36, 37, 38] [0, 1, 2, 3, 4, 5, 6, 7, 8, 9, 10, 11, 12, 13, 14, 15, 16, 17, 18, 19, 20, 21, 22, 23, 24, 25, 26, 27, 28, 29, 30, 39, 40, 41] sb_d0fb6cb279 sb_27402e1e03 (by decide +kernel) (by decide +kernel) hk1 ht hFc hB
  have hP : va_P G.1 vwCl (OW G ho pn pa pf ae x70 ++ RW G pn adn r71 ++ RW G pa ada ra72 ++ FW G pf adf f ++ SW G hm adm cx83 nx84 u82 ++ AW G qw 384 wv ++ AW G qk 384 bv ++ AZ G qz 384 zv) H1 := hP.sub [0, 1, 2, 3, 4, 5, 6, 7, 8, 9, 10, 11, 12, 13, 14, 15, 16, 17, 18, 19, 20, 21, 22, 23, 24, 25, 26, 27, 28, 29, 30, 34, 35, 36, 37, 38, 39, 40, 41, 31, 32, 33] sb_ef75be8dce
  have hD : va_D A (OW G ho pn pa pf ae x70 ++ RW G pn adn r71 ++ RW G pa ada ra72 ++ FW G pf adf f ++ SW G hm adm cx83 nx84 u82 ++ AW G qw 384 wv ++ AW G qk 384 bv ++ AZ G qz 384 zv) := hD.sub [0, 1, 2, 3, 4, 5, 6, 7, 8, 9, 10, 11, 12, 13, 14, 15, 16, 17, 18, 19, 20, 21, 22, 23, 24, 25, 26, 27, 28, 29, 30, 34, 35, 36, 37, 38, 39, 40, 41, 31, 32, 33] (by decide +kernel) sb_34f338cc75
  have hP : va_P G.1 vwCl (OW G ho pn pa pf ae x70 ++ RW G pn adn r71 ++ RW G pa ada ra72 ++ FW G pf adf f ++ SW G hm adm cx83 nx84 u82 ++ AW G qw 384 wv ++ AW G qk 384 bv ++ AZ G qz 384 zv) H1 := hP
  have hD : va_D A (OW G ho pn pa pf ae x70 ++ RW G pn adn r71 ++ RW G pa ada ra72 ++ FW G pf adf f ++ SW G hm adm cx83 nx84 u82 ++ AW G qw 384 wv ++ AW G qk 384 bv ++ AZ G qz 384 zv) := hD
  clear hB hk1 hFc ht hz1 hvm
  generalize H1 = H at hP hS ⊢
  obtain ⟨z86, rfl, w85⟩ := hw
  have oku82 : rOK slo shi u82 := w85.1
  have hwp := w85
  refine lv_pop hx hb dL_law_395 rfl ?_
  refine W.widen (k := cells + 160) (n := slots + 11900) (by omega) (by omega) ?_
  exact kk x70 r71 ra72 u82 cx83 nx84 z74 z40 (⟨⟨okx70, okr71, okra72, okf⟩, hyL.1, bdP_mono hBq (by omega), hwp.1, hwp.2⟩) (by have g := hyL.2; rw [h8] at g; exact g) (by rw [hyL.2.2.2.2.2.2.2.2.2.2.1, h8]) (⟨hlo, hlb⟩) (hfr9.2.1) H locs ls hP hD hS (lv_sub hl [8, 9, 10, 11, 12, 13, 14, 15, 7, 6, 5, 4, 3, 2, 1, 0] rfl)
