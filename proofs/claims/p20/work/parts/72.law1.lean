/-! 72.law1: a year of the law, a part of it -/
theorem sb_a4303c86f1 {G : mf_G} {h1 p1 a1 f1 ae1 : Nat} {x1 : mf_V} {h2 : Nat} {ad2 : Nat → Nat} {x2 : mf_V} {h3 : Nat} {ad3 : Nat → Nat} {x3 : mf_V} {h4 : Nat} {ad4 : Nat → Nat} {x4 : mf_V} {h5 : Nat} {ad5 : Nat → Nat} {ca5 n5 : Nat} {x5 : mf_V} {h6 : Nat} {x6 : mf_V} {h7 : Nat} {x7 : mf_V} {h8 : Nat} {x8 : mf_V} : ([0, 1, 2, 3, 4, 5, 6, 7, 8, 9, 10, 11, 12, 13, 14, 15, 16, 17, 18, 19, 20, 21, 22, 23, 24, 25, 26, 27, 28, 29, 30] : List Nat).filterMap (fun i => (OW G h1 p1 a1 f1 ae1 x1 ++ RW G h2 ad2 x2 ++ RW G h3 ad3 x3 ++ FW G h4 ad4 x4 ++ SW G h5 ad5 ca5 n5 x5 ++ AW G h6 384 x6 ++ AW G h7 384 x7 ++ AZ G h8 384 x8)[i]?) = OW G h1 p1 a1 f1 ae1 x1 ++ RW G h2 ad2 x2 ++ RW G h3 ad3 x3 ++ FW G h4 ad4 x4 := rfl
theorem sb_66a1bed9f5 {G : mf_G} {h1 p1 a1 f1 ae1 : Nat} {x1 : mf_V} {h2 : Nat} {ad2 : Nat → Nat} {x2 : mf_V} {h3 : Nat} {ad3 : Nat → Nat} {x3 : mf_V} {h4 : Nat} {ad4 : Nat → Nat} {x4 : mf_V} {h5 : Nat} {ad5 : Nat → Nat} {ca5 n5 : Nat} {x5 : mf_V} {h6 : Nat} {x6 : mf_V} {h7 : Nat} {x7 : mf_V} {h8 : Nat} {x8 : mf_V} : ([0, 1, 2, 3, 4, 5, 6, 7, 8, 9, 10, 11, 12, 13, 14, 15, 16, 17, 18, 19, 20, 21, 22, 23, 24, 25, 26, 27, 28, 29, 30] : List Nat).map (fun i => (OW G h1 p1 a1 f1 ae1 x1 ++ RW G h2 ad2 x2 ++ RW G h3 ad3 x3 ++ FW G h4 ad4 x4 ++ SW G h5 ad5 ca5 n5 x5 ++ AW G h6 384 x6 ++ AW G h7 384 x7 ++ AZ G h8 384 x8)[i]?) = (OW G h1 p1 a1 f1 ae1 x1 ++ RW G h2 ad2 x2 ++ RW G h3 ad3 x3 ++ FW G h4 ad4 x4).map some := rfl
theorem sb_4ccd58796c {G : mf_G} {h1 p1 a1 f1 ae1 : Nat} {x1 : mf_V} {h2 : Nat} {ad2 : Nat → Nat} {x2 : mf_V} {h3 : Nat} {ad3 : Nat → Nat} {x3 : mf_V} {h4 : Nat} {ad4 : Nat → Nat} {x4 : mf_V} {h5 : Nat} {ad5 : Nat → Nat} {ca5 n5 : Nat} {x5 : mf_V} {h6 : Nat} {x6 : mf_V} {h7 : Nat} {x7 : mf_V} {h8 : Nat} {x8 : mf_V} : ([31, 32, 33, 34, 35, 36, 37, 38, 39, 40, 41] : List Nat).map (fun i => (OW G h1 p1 a1 f1 ae1 x1 ++ RW G h2 ad2 x2 ++ RW G h3 ad3 x3 ++ FW G h4 ad4 x4 ++ SW G h5 ad5 ca5 n5 x5 ++ AW G h6 384 x6 ++ AW G h7 384 x7 ++ AZ G h8 384 x8)[i]?) = (SW G h5 ad5 ca5 n5 x5 ++ AW G h6 384 x6 ++ AW G h7 384 x7 ++ AZ G h8 384 x8).map some := rfl
theorem sb_eac6f2d681 {G : mf_G} {h1 : Nat} {ad1 : Nat → Nat} {ca1 n1 : Nat} {x1 : mf_V} {h2 : Nat} {x2 : mf_V} {h3 : Nat} {x3 : mf_V} {h4 : Nat} {x4 : mf_V} {h5 p5 a5 f5 ae5 : Nat} {x5 : mf_V} {h6 : Nat} {ad6 : Nat → Nat} {x6 : mf_V} {h7 : Nat} {ad7 : Nat → Nat} {x7 : mf_V} {h8 : Nat} {ad8 : Nat → Nat} {x8 : mf_V} : ([11, 12, 13, 14, 15, 16, 17, 18, 19, 20, 21, 22, 23, 24, 25, 26, 27, 28, 29, 30, 31, 32, 33, 34, 35, 36, 37, 38, 39, 40, 41, 0, 1, 2, 3, 4, 5, 6, 7, 8, 9, 10] : List Nat).filterMap (fun i => ((SW G h1 ad1 ca1 n1 x1 ++ AW G h2 384 x2 ++ AW G h3 384 x3 ++ AZ G h4 384 x4) ++ (OW G h5 p5 a5 f5 ae5 x5 ++ RW G h6 ad6 x6 ++ RW G h7 ad7 x7 ++ FW G h8 ad8 x8))[i]?) = OW G h5 p5 a5 f5 ae5 x5 ++ RW G h6 ad6 x6 ++ RW G h7 ad7 x7 ++ FW G h8 ad8 x8 ++ SW G h1 ad1 ca1 n1 x1 ++ AW G h2 384 x2 ++ AW G h3 384 x3 ++ AZ G h4 384 x4 := rfl
theorem sb_e33f1c05a0 {G : mf_G} {h1 : Nat} {ad1 : Nat → Nat} {ca1 n1 : Nat} {x1 : mf_V} {h2 : Nat} {x2 : mf_V} {h3 : Nat} {x3 : mf_V} {h4 : Nat} {x4 : mf_V} {h5 p5 a5 f5 ae5 : Nat} {x5 : mf_V} {h6 : Nat} {ad6 : Nat → Nat} {x6 : mf_V} {h7 : Nat} {ad7 : Nat → Nat} {x7 : mf_V} {h8 : Nat} {ad8 : Nat → Nat} {x8 : mf_V} : ([11, 12, 13, 14, 15, 16, 17, 18, 19, 20, 21, 22, 23, 24, 25, 26, 27, 28, 29, 30, 31, 32, 33, 34, 35, 36, 37, 38, 39, 40, 41, 0, 1, 2, 3, 4, 5, 6, 7, 8, 9, 10] : List Nat).map (fun i => ((SW G h1 ad1 ca1 n1 x1 ++ AW G h2 384 x2 ++ AW G h3 384 x3 ++ AZ G h4 384 x4) ++ (OW G h5 p5 a5 f5 ae5 x5 ++ RW G h6 ad6 x6 ++ RW G h7 ad7 x7 ++ FW G h8 ad8 x8))[i]?) = (OW G h5 p5 a5 f5 ae5 x5 ++ RW G h6 ad6 x6 ++ RW G h7 ad7 x7 ++ FW G h8 ad8 x8 ++ SW G h1 ad1 ca1 n1 x1 ++ AW G h2 384 x2 ++ AW G h3 384 x3 ++ AZ G h4 384 x4).map some := rfl
set_option maxHeartbeats 4000000 in
set_option maxRecDepth 100000 in
theorem sg_1 {p : Program} {l : Launch} {e : Env} {s : State} {m : MethodId} {below : List Frame} {meth : Method} {c : Code} {Q : State → Prop} {b L : Nat} {xs : Nat → Int32} {G : mf_G} {A : Nat → Prop} (E : LEp p l s m meth c b L xs G A) (hL : L ≤ 260) {ho pn pa pf ae hm : Nat} {adn ada adf adm : Nat → Nat} {f : mf_V} (okf : rOK flo fhi f) (hf4 : f 4 0 = 1) (hFI : FInv f) {x : mf_V} {r : mf_V} {ra : mf_V} {u : mf_V} {ca : Nat} {nn : Nat} {tv : Int} {cells slots : Nat} {H : Heap} {locs : List Loc} {ls : Array Slot} (hLQ : LQs (7 + 2 * tv) x r ra f nn u) (h8 : r 8 0 = tv) (ht : 0 ≤ tv ∧ tv < 24) (hcl : cells + 780 ≤ 600104 ∧ slots + 6000 ≤ 7301314) (hP : va_P G.1 vwCl (OW G ho pn pa pf ae x ++ RW G pn adn r ++ RW G pa ada ra ++ FW G pf adf f ++ SW G hm adm ca nn u) H) (hD : va_D A (OW G ho pn pa pf ae x ++ RW G pn adn r ++ RW G pa ada ra ++ FW G pf adf f ++ SW G hm adm ca nn u)) (hS : va_S A s.heap H locs) (hl : lv_has ls 27 [(0, .ref b), (1, .ref ho), (2, .ref hm), (4, .int (iI (tv)))])
    (kk : ∀ (x' : mf_V) (r' : mf_V) (ra' : mf_V) (u' : mf_V) (ca' : Nat) (n' : Nat) (qw : Nat) (qk : Nat) (qz : Nat) (wv : mf_V) (bv : mf_V) (zv : mf_V), (LQs (8 + 2 * tv) x' r' ra' f n' u') → (r' 8 0 = tv) → (∀ c, 0 ≤ c → c < 384 → wv 0 c = r' 1 c) → (∀ c, bv 0 c = 0) → (∀ c, 0 ≤ c → c < 384 → zv 0 c = bP (0 ≤ r' 10 c)) → ∀ (H : Heap) (locs : List Loc) (ls : Array Slot), va_P G.1 vwCl (OW G ho pn pa pf ae x' ++ RW G pn adn r' ++ RW G pa ada ra' ++ FW G pf adf f ++ SW G hm adm ca' n' u' ++ AW G qw 384 wv ++ AW G qk 384 bv ++ AZ G qz 384 zv) H → va_D A (OW G ho pn pa pf ae x' ++ RW G pn adn r' ++ RW G pa ada ra' ++ FW G pf adf f ++ SW G hm adm ca' n' u' ++ AW G qw 384 wv ++ AW G qk 384 bv ++ AZ G qz 384 zv) → va_S A s.heap H locs → lv_has ls 27 [(0, .ref b), (1, .ref ho), (2, .ref hm), (4, .int (iI (tv))), (6, .int (iI (r' 7 0))), (7, .ref qw), (8, .ref qk), (9, .ref qz)] → W p l e room_1 s m #[Value.ref b] below meth c H locs (cells + 780) (slots + 6000) Q (F0 m 245 ls [])) :
    W p l e room_1 s m #[Value.ref b] below meth c H locs cells slots Q (F0 m 115 ls []) := by
  obtain ⟨hx, hb, hr, hml, hown, hts, hXs, hbl, hl9, hK, hN, hSX, hCX, hZ, hA, hbA⟩ := E
  have hcR : room_1.cells = 600104 := rfl
  have hsR : room_1.slots = 7301314 := rfl
  have hinX3 := inlX3
  have hinX2 := inlX2
  obtain ⟨⟨okx, ok, okra, -⟩, hPI, hB, oku, hrel⟩ := id hLQ
  have hI := hPI.1
  have h27 := hI.1.1
  have okLr : (0 : Int) ≤ r 7 0 ∧ r 7 0 ≤ 150 := ok 7 0
  have okL8 : (0 : Int) ≤ r 8 0 ∧ r 8 0 ≤ 90000 := ok 8 0
  have okL9 : (0 : Int) ≤ r 9 0 ∧ r 9 0 ≤ 100000000 := ok 9 0
  have b9 := hB.2.1
  refine lv_aload_n hx hb dL_law_115 rfl (lv_at hl 0 rfl) ?_
  refine lv_iload hx hb dL_law_116 (lv_at hl 3 rfl) ?_
  refine mf_bipush hx hb dL_law_118 rfl ?_
  refine mf_irem hx hb dL_law_120 (i32_mk (by omega) (by omega)) (by omega) (i32_mk (by decide) (by decide)) (by omega) ?_
  refine vp_callSi (va_Run.run (va_runS (As := [.ref b, .int (iI (tv % 16))]) (rest := []) ⟨hx, hb, hml, hown, hts⟩ (c_L_cell l b L xs hL (tv % 16) (i32_mk (by omega) (by omega)) (by first | assumption | omega)) (va_cwS 2 hts gL_law_L_cell rfl rfl rfl (by decide +kernel) ⟨Nat.le_of_ble_eq_true rfl, Nat.le_of_ble_eq_true rfl⟩) (scrS hXs hbl hbA hS) rfl rfl hl.1 rfl (lv_room (Nat.le_of_ble_eq_true rfl)) dL_law_121 ⟨(by rw [hcR]; omega), (by rw [hsR]; omega)⟩)) (fun q1 hq1 => ?_)
  obtain ⟨z2, rfl, w3⟩ := hq1
  refine lv_iload hx hb dL_law_124 (lv_at hl 3 rfl) ?_
  refine mf_bipush hx hb dL_law_126 rfl ?_
  refine mf_idiv hx hb dL_law_128 (i32_mk (by omega) (by omega)) (by omega) (i32_mk (by decide) (by decide)) (by omega) ?_
  refine mf_iconst hx hb dL_law_129 ?_
  refine mf_imul hx hb dL_law_130 ?_
  refine lv_ishr hx hb dL_law_131 ?_
  refine mf_nmw (fun y4 by4 => ?_)
  refine mf_bipush hx hb dL_law_132 rfl ?_
  refine lv_iload hx hb dL_law_134 (lv_at hl 3 rfl) ?_
  refine mf_imul hx hb dL_law_136 ?_
  refine mf_iadd hx hb dL_law_137 ?_
  refine mf_nmw (fun yx bx => ?_)
  skip
  refine lv_istore (lv' := [(5, .int (iI (yx))), (0, .ref b), (1, .ref ho), (2, .ref hm), (4, .int (iI (tv)))]) hx hb dL_law_138 hl (by decide) rfl (fun ls hl => ?_)
  refine lv_aload_n hx hb dL_law_140 rfl (lv_at hl 2 rfl) ?_
  refine lv_aload_n hx hb dL_law_141 rfl (lv_at hl 3 rfl) ?_
  refine lv_iload hx hb dL_law_142 (lv_at hl 0 rfl) ?_
  have hFc := va_free (wc := OW G ho pn pa pf ae x ++ SW G hm adm ca nn u ++ RW G pn adn r ++ RW G pa ada ra ++ FW G pf adf f) hD hS hA [0, 1, 31, 32, 33, 34, 35, 36, 37, 38, 2, 3, 4, 5, 6, 7, 8, 9, 10, 11, 12, 13, 14, 15, 16, 17, 18, 19, 20, 21, 22, 23, 24, 25, 26, 27, 28, 29, 30] sb_03923147d1
  refine va_calli (va_runS (As := [.ref ho, .ref hm, .int (iI (yx))]) (rest := []) ⟨hx, hb, hml, hown, hts⟩ (c_L_act l hl9 G ho pn pa pf ae x hm adm ca nn u adn r ada ra adf f (yx) (7 + 2 * tv) (i32_mk (by omega) (by omega)) (by exact hLQ) (by omega) _) (va_cwS 3 hts gL_law_L_act rfl rfl rfl (by decide +kernel) ⟨Nat.le_of_ble_eq_true rfl, Nat.le_of_ble_eq_true rfl⟩) (wrSx (wc := OW G ho pn pa pf ae x ++ SW G hm adm ca nn u ++ RW G pn adn r ++ RW G pa ada ra ++ FW G pf adf f) hSX hCX hZ hS hFc hK hP hD hN [0, 1, 31, 32, 33, 34, 35, 36, 37, 38, 2, 3, 4, 5, 6, 7, 8, 9, 10, 11, 12, 13, 14, 15, 16, 17, 18, 19, 20, 21, 22, 23, 24, 25, 26, 27, 28, 29, 30] (by decide +kernel) sb_7a44dfa0e7 sb_03923147d1) rfl rfl hl.1 rfl (lv_room (Nat.le_of_ble_eq_true rfl)) dL_law_144 ⟨(by rw [hcR]; omega), (by rw [hsR]; omega)⟩) hS (fun q _ h => hFc q h) hFc (fun q5 u6 t H1 locs ht hvm hw hB hz1 hk1 hS => ?_)
  obtain ⟨x7, u8, cx9, nx10, r11, ra12, f13⟩ := u6
  try dsimp only at hw hB
  obtain ⟨hP, hD⟩ := wrJ2 (ws := OW G ho pn pa pf ae x ++ RW G pn adn r ++ RW G pa ada ra ++ FW G pf adf f ++ SW G hm adm ca nn u) (wc := OW G ho pn pa pf ae x ++ SW G hm adm ca nn u ++ RW G pn adn r ++ RW G pa ada ra ++ FW G pf adf f) (wr := ([] : va_W)) (w1 := OW G ho pn pa pf ae x7 ++ SW G hm adm cx9 nx10 u8 ++ RW G pn adn r11 ++ RW G pa ada ra12 ++ FW G pf adf f13) hP hD [0, 1, 31, 32, 33, 34, 35, 36, 37, 38, 2, 3, 4, 5, 6, 7, 8, 9, 10, 11, 12, 13, 14, 15, 16, 17, 18, 19, 20, 21, 22, 23, 24, 25, 26, 27, 28, 29, 30] [] sb_03923147d1 sb_1f944ad409 (by decide +kernel) (by decide +kernel) hk1 ht hFc hB
  have hP : va_P G.1 vwCl (OW G ho pn pa pf ae x7 ++ RW G pn adn r11 ++ RW G pa ada ra12 ++ FW G pf adf f13 ++ SW G hm adm cx9 nx10 u8) H1 := hP.sub [0, 1, 10, 11, 12, 13, 14, 15, 16, 17, 18, 19, 20, 21, 22, 23, 24, 25, 26, 27, 28, 29, 30, 31, 32, 33, 34, 35, 36, 37, 38, 2, 3, 4, 5, 6, 7, 8, 9] sb_7a8b029518
  have hD : va_D A (OW G ho pn pa pf ae x7 ++ RW G pn adn r11 ++ RW G pa ada ra12 ++ FW G pf adf f13 ++ SW G hm adm cx9 nx10 u8) := hD.sub [0, 1, 10, 11, 12, 13, 14, 15, 16, 17, 18, 19, 20, 21, 22, 23, 24, 25, 26, 27, 28, 29, 30, 31, 32, 33, 34, 35, 36, 37, 38, 2, 3, 4, 5, 6, 7, 8, 9] (by decide +kernel) sb_a7ecb17f9d
  have hP : va_P G.1 vwCl (OW G ho pn pa pf ae x7 ++ RW G pn adn r11 ++ RW G pa ada ra12 ++ FW G pf adf f13 ++ SW G hm adm cx9 nx10 u8) H1 := hP
  have hD : va_D A (OW G ho pn pa pf ae x7 ++ RW G pn adn r11 ++ RW G pa ada ra12 ++ FW G pf adf f13 ++ SW G hm adm cx9 nx10 u8) := hD
  clear hB hk1 hFc ht hz1 hvm
  generalize H1 = H at hP hS ⊢
  obtain ⟨z15, rfl, w14⟩ := hw
  have hz1 := w14.1
  have hL1 := w14.2.1
  have h81 := w14.2.2.2
  have ef := w14.2.2.1.symm
  subst ef
  obtain ⟨⟨okx1, ok1, okra1, -⟩, hPI1, hB1, oku1, hrel1⟩ := id hL1
  have hI1 := hPI1.1
  have h271 := hI1.1.1
  have okL1 : (0 : Int) ≤ r11 7 0 ∧ r11 7 0 ≤ 150 := ok1 7 0
  skip
  refine mf_if_ne (tgt := 152) hx hb dL_law_147 (by decide) (i32_mk (by omega) (by omega)) (fun c16 => ?_) (fun c16 => ?_)
  · skip
    refine lv_aload_n hx hb dL_law_152 rfl (lv_at hl 2 rfl) ?_
    refine mf_iconst hx hb dL_law_153 ?_
    have hk0 : kRng 0 7 1 = 0 := by exact mf_if_f (fun q => q ⟨by omega, by omega⟩)
    have hFc := va_free (wc := OW G ho pn pa pf ae x7 ++ RW G pn adn r11 ++ RW G pa ada ra12 ++ FW G pf adf f) hD hS hA [0, 1, 2, 3, 4, 5, 6, 7, 8, 9, 10, 11, 12, 13, 14, 15, 16, 17, 18, 19, 20, 21, 22, 23, 24, 25, 26, 27, 28, 29, 30] sb_e032fcb66b
    refine vx_calli (vx_runV (As := [.int (iI (1))]) (rest := []) ⟨hx, hb, hml, hown, hts⟩ (c_X2_count l hl9 G ho pn pa pf ae x7 adn r11 ada ra12 adf f (1) (i32_mk (by decide) (by decide)) (by assumption) (by assumption) (by assumption) (by assumption) (by first | assumption | omega) _) (cwV 1 hts gL_law_X2_count rfl rfl rfl (by decide +kernel) ⟨Nat.le_of_ble_eq_true rfl, Nat.le_of_ble_eq_true rfl⟩) (wrVx (wc := OW G ho pn pa pf ae x7 ++ RW G pn adn r11 ++ RW G pa ada ra12 ++ FW G pf adf f) hSX hCX hZ hS hFc hK hP hD hN [0, 1, 2, 3, 4, 5, 6, 7, 8, 9, 10, 11, 12, 13, 14, 15, 16, 17, 18, 19, 20, 21, 22, 23, 24, 25, 26, 27, 28, 29, 30] (by decide +kernel) sb_5628208b92 sb_e032fcb66b (ci := 2) rfl rfl) rfl rfl hl.1 rfl (lv_room (Nat.le_of_ble_eq_true rfl)) dL_law_154 ⟨(by rw [hcR]; omega), (by rw [hsR]; omega)⟩) hS (fun q _ h => hFc q h) hFc (fun q _ h => hFc q h) (fun E ce q9 _ t H1 locs ht hvm _ hB hz1 hk1 hS hce hcv hcl => ?_) (fun q17 u18 t H1 locs ht hvm hw hB hz1 hk1 hS => ?_)
    · exfalso
      have hx9 := hB.1
      rcases hx9 with ⟨-, hk9⟩ <;> omega
    obtain ⟨x19, r20, ra21, f22⟩ := u18
    try dsimp only at hw hB
    obtain ⟨hP, hD⟩ := wrJ2 (ws := OW G ho pn pa pf ae x7 ++ RW G pn adn r11 ++ RW G pa ada ra12 ++ FW G pf adf f ++ SW G hm adm cx9 nx10 u8) (wc := OW G ho pn pa pf ae x7 ++ RW G pn adn r11 ++ RW G pa ada ra12 ++ FW G pf adf f) (wr := SW G hm adm cx9 nx10 u8) (w1 := OW G ho pn pa pf ae x19 ++ RW G pn adn r20 ++ RW G pa ada ra21 ++ FW G pf adf f22) hP hD [0, 1, 2, 3, 4, 5, 6, 7, 8, 9, 10, 11, 12, 13, 14, 15, 16, 17, 18, 19, 20, 21, 22, 23, 24, 25, 26, 27, 28, 29, 30] [31, 32, 33, 34, 35, 36, 37, 38] sb_e032fcb66b sb_710b1e0095 (by decide +kernel) (by decide +kernel) hk1 ht hFc hB
    have hP : va_P G.1 vwCl (OW G ho pn pa pf ae x19 ++ RW G pn adn r20 ++ RW G pa ada ra21 ++ FW G pf adf f22 ++ SW G hm adm cx9 nx10 u8) H1 := hP.sub [8, 9, 10, 11, 12, 13, 14, 15, 16, 17, 18, 19, 20, 21, 22, 23, 24, 25, 26, 27, 28, 29, 30, 31, 32, 33, 34, 35, 36, 37, 38, 0, 1, 2, 3, 4, 5, 6, 7] sb_55f0f8dd51
    have hD : va_D A (OW G ho pn pa pf ae x19 ++ RW G pn adn r20 ++ RW G pa ada ra21 ++ FW G pf adf f22 ++ SW G hm adm cx9 nx10 u8) := hD.sub [8, 9, 10, 11, 12, 13, 14, 15, 16, 17, 18, 19, 20, 21, 22, 23, 24, 25, 26, 27, 28, 29, 30, 31, 32, 33, 34, 35, 36, 37, 38, 0, 1, 2, 3, 4, 5, 6, 7] (by decide +kernel) sb_38977a1d40
    clear hB hk1 hFc ht hz1 hvm hk0
    generalize H1 = H at hP hS ⊢
    obtain ⟨z23, rfl, -, ⟨okx19, okr20, okra21, okf22⟩, w25, w26, w27⟩ := hw
    have w25 := w25.symm
    subst w25
    have w26 := w26.symm
    subst w26
    subst w27
    refine mf_top (totF r11 (f 4 0) 1) (r11 7 0) (by unfold totF; rw [if_neg (by decide)]; rw [if_pos rfl]) ?_
    skip
    refine lv_istore (lv' := [(6, .int (iI (r11 7 0))), (5, .int (iI (yx))), (0, .ref b), (1, .ref ho), (2, .ref hm), (4, .int (iI (tv)))]) hx hb dL_law_157 hl (by decide) rfl (fun ls hl => ?_)
    refine mf_sipush hx hb dL_law_159 rfl ?_
    refine mf_newi hx hb (hts (.arrayClass .int) (List.mem_of_getElem? (i := 3) rfl)) hK hP hD hS hA (n := 384) (N := 384) rfl (Nat.le_of_ble_eq_true rfl) (by first | (rw [hcR]; omega) | (rw [hsR]; omega)) (by first | (rw [hcR]; omega) | (rw [hsR]; omega)) dL_law_162 (fun na28 H hP hD hS => ?_)
    obtain ⟨av29, eav29⟩ : ∃ z9 : mf_V, z9 = fun _ _ => 0 := ⟨_, rfl⟩
    have hP : va_P G.1 vwCl (OW G ho pn pa pf ae x19 ++ RW G pn adn r11 ++ RW G pa ada ra21 ++ FW G pf adf f ++ SW G hm adm cx9 nx10 u8 ++ AW G na28 384 av29) H := by rw [eav29]; exact hP
    have hD : va_D A (OW G ho pn pa pf ae x19 ++ RW G pn adn r11 ++ RW G pa ada ra21 ++ FW G pf adf f ++ SW G hm adm cx9 nx10 u8 ++ AW G na28 384 av29) := by rw [eav29]; exact hD
    refine lv_astore (lv' := [(7, .ref na28), (6, .int (iI (r11 7 0))), (5, .int (iI (yx))), (0, .ref b), (1, .ref ho), (2, .ref hm), (4, .int (iI (tv)))]) hx hb dL_law_164 hl (by decide) rfl (fun ls hl => ?_)
    refine mf_sipush hx hb dL_law_166 rfl ?_
    refine mf_newi hx hb (hts (.arrayClass .int) (List.mem_of_getElem? (i := 3) rfl)) hK hP hD hS hA (n := 384) (N := 384) rfl (Nat.le_of_ble_eq_true rfl) (by first | (rw [hcR]; omega) | (rw [hsR]; omega)) (by first | (rw [hcR]; omega) | (rw [hsR]; omega)) dL_law_169 (fun na30 H hP hD hS => ?_)
    obtain ⟨av31, eav31⟩ : ∃ z9 : mf_V, z9 = fun _ _ => 0 := ⟨_, rfl⟩
    have hP : va_P G.1 vwCl (OW G ho pn pa pf ae x19 ++ RW G pn adn r11 ++ RW G pa ada ra21 ++ FW G pf adf f ++ SW G hm adm cx9 nx10 u8 ++ AW G na28 384 av29 ++ AW G na30 384 av31) H := by rw [eav31]; exact hP
    have hD : va_D A (OW G ho pn pa pf ae x19 ++ RW G pn adn r11 ++ RW G pa ada ra21 ++ FW G pf adf f ++ SW G hm adm cx9 nx10 u8 ++ AW G na28 384 av29 ++ AW G na30 384 av31) := by rw [eav31]; exact hD
    refine lv_astore (lv' := [(8, .ref na30), (7, .ref na28), (6, .int (iI (r11 7 0))), (5, .int (iI (yx))), (0, .ref b), (1, .ref ho), (2, .ref hm), (4, .int (iI (tv)))]) hx hb dL_law_171 hl (by decide) rfl (fun ls hl => ?_)
    refine mf_sipush hx hb dL_law_173 rfl ?_
    refine mf_newz hx hb (hts (.arrayClass .boolean) (List.mem_of_getElem? (i := 4) rfl)) hK hP hD hS hA (n := 384) (N := 384) rfl (Nat.le_of_ble_eq_true rfl) (by first | (rw [hcR]; omega) | (rw [hsR]; omega)) (by first | (rw [hcR]; omega) | (rw [hsR]; omega)) dL_law_176 (fun na32 H hP hD hS => ?_)
    obtain ⟨av33, eav33⟩ : ∃ z9 : mf_V, z9 = fun _ _ => 0 := ⟨_, rfl⟩
    have hP : va_P G.1 vwCl (OW G ho pn pa pf ae x19 ++ RW G pn adn r11 ++ RW G pa ada ra21 ++ FW G pf adf f ++ SW G hm adm cx9 nx10 u8 ++ AW G na28 384 av29 ++ AW G na30 384 av31 ++ AZ G na32 384 av33) H := by rw [eav33]; exact hP
    have hD : va_D A (OW G ho pn pa pf ae x19 ++ RW G pn adn r11 ++ RW G pa ada ra21 ++ FW G pf adf f ++ SW G hm adm cx9 nx10 u8 ++ AW G na28 384 av29 ++ AW G na30 384 av31 ++ AZ G na32 384 av33) := by rw [eav33]; exact hD
    refine lv_astore (lv' := [(9, .ref na32), (8, .ref na30), (7, .ref na28), (6, .int (iI (r11 7 0))), (5, .int (iI (yx))), (0, .ref b), (1, .ref ho), (2, .ref hm), (4, .int (iI (tv)))]) hx hb dL_law_178 hl (by decide) rfl (fun ls hl => ?_)
    refine mf_iconst hx hb dL_law_180 ?_
    refine lv_istore (lv' := [(10, .int (iI (0))), (9, .ref na32), (8, .ref na30), (7, .ref na28), (6, .int (iI (r11 7 0))), (5, .int (iI (yx))), (0, .ref b), (1, .ref ho), (2, .ref hm), (4, .int (iI (tv)))]) hx hb dL_law_181 hl (by decide) rfl (fun ls hl => ?_)
    have lp183 : ∀ (n : Nat) (kv : Int) (xa : mf_V) (raa : mf_V) (wa : mf_V) (za : mf_V) (cc : Nat) (sc : Nat), (384 - kv).toNat < n → (0 ≤ kv ∧ kv ≤ 384) → (rOK xlo xhi xa) → (rOK rlo rhi raa) → (∀ c, 0 ≤ c → c < kv → wa 0 c = r11 1 c) → (∀ c, 0 ≤ c → c < kv → za 0 c = bP (0 ≤ r11 10 c)) → ((cc : Int) ≤ cells + 7 + 2 * kv) → ((sc : Int) ≤ slots + 1317 + 12 * kv) → ∀ (H : Heap) (locs : List Loc), va_P G.1 vwCl (OW G ho pn pa pf ae xa ++ RW G pn adn r11 ++ RW G pa ada raa ++ FW G pf adf f ++ SW G hm adm cx9 nx10 u8 ++ AW G na28 384 wa ++ AW G na30 384 av31 ++ AZ G na32 384 za) H → va_D A (OW G ho pn pa pf ae xa ++ RW G pn adn r11 ++ RW G pa ada raa ++ FW G pf adf f ++ SW G hm adm cx9 nx10 u8 ++ AW G na28 384 wa ++ AW G na30 384 av31 ++ AZ G na32 384 za) → va_S A s.heap H locs → ∀ (ls : Array Slot), lv_has ls 27 [(0, .ref b), (1, .ref ho), (2, .ref hm), (4, .int (iI (tv))), (6, .int (iI (r11 7 0))), (7, .ref na28), (8, .ref na30), (9, .ref na32), (10, .int (iI (kv)))] → W p l e room_1 s m #[Value.ref b] below meth c H locs cc sc Q (F0 m 183 ls []) := by
      intro n
      induction n with
      | zero => intro kv xa raa wa za cc sc hn; exact absurd hn (Nat.not_lt_zero _)
      | succ n ih183 =>
        intro kv xa raa wa za cc sc hn hk okxa okraa hw hz hcc hsc H locs hP hD hS ls hl
        refine lv_iload hx hb dL_law_183 (lv_at hl 8 rfl) ?_
        refine mf_sipush hx hb dL_law_185 rfl ?_
        refine mf_icmp_ge (tgt := 245) hx hb dL_law_188 (by decide) (i32_mk (by omega) (by omega)) (i32_mk (by decide) (by decide)) (fun c34 => ?_) (fun c34 => ?_)
        · skip
          refine W.widen (k := cells + 780) (n := slots + 6000) (by omega) (by omega) ?_
          exact kk xa r11 raa u8 cx9 nx10 na28 na30 na32 wa av31 za (⟨⟨okxa, hL1.1.2.1, okraa, okf⟩, hL1.2.1, bdP_mono hL1.2.2.1 (by omega), hL1.2.2.2⟩) (by rw [h81]; exact h8) (fun c c0 c1 => hw c c0 (by omega)) (fun c => by rw [eav31]) (fun c c0 c1 => hz c c0 (by omega)) H locs ls hP hD hS (lv_sub hl [0, 1, 2, 3, 4, 5, 6, 7] rfl)
        · skip
          refine lv_aload hx hb dL_law_191 (lv_at hl 5 rfl) ?_
          refine lv_iload hx hb dL_law_193 (lv_at hl 8 rfl) ?_
          refine lv_aload_n hx hb dL_law_195 rfl (lv_at hl 1 rfl) ?_
          refine lv_iload hx hb dL_law_196 (lv_at hl 8 rfl) ?_
          refine mf_bipush hx hb dL_law_198 rfl ?_
          refine mf_irem hx hb dL_law_200 (i32_mk (by omega) (by omega)) (by omega) (i32_mk (by decide) (by decide)) (by omega) ?_
          refine lv_iload hx hb dL_law_201 (lv_at hl 8 rfl) ?_
          refine mf_bipush hx hb dL_law_203 rfl ?_
          refine mf_idiv hx hb dL_law_205 (i32_mk (by omega) (by omega)) (by omega) (i32_mk (by decide) (by decide)) (by omega) ?_
          refine mf_iconst hx hb dL_law_206 ?_
          have hk0 : kCell2 (kv % 24) (kv / 24) 1 = 0 := by exact mf_if_f (fun q => q ⟨⟨⟨by omega, by omega⟩, by omega, by omega⟩, by omega, by omega⟩)
          have hFc := va_free (wc := OW G ho pn pa pf ae xa ++ RW G pn adn r11 ++ RW G pa ada raa ++ FW G pf adf f) hD hS hA [0, 1, 2, 3, 4, 5, 6, 7, 8, 9, 10, 11, 12, 13, 14, 15, 16, 17, 18, 19, 20, 21, 22, 23, 24, 25, 26, 27, 28, 29, 30] sb_66a1bed9f5
          refine vx_calli (vx_runV (As := [.int (iI (kv % 24)), .int (iI (kv / 24)), .int (iI (1))]) (rest := [.int (iI (kv)), .ref na28]) ⟨hx, hb, hml, hown, hts⟩ (c_X2_cell l hl9 G ho pn pa pf ae xa adn r11 ada raa adf f (kv % 24) (kv / 24) (1) (i32_mk (by omega) (by omega)) (i32_mk (by omega) (by omega)) (i32_mk (by decide) (by decide)) (by assumption) (by assumption) (by assumption) (by assumption) _) (cwV 3 hts gL_law_X2_cell rfl rfl rfl (by decide +kernel) ⟨Nat.le_of_ble_eq_true rfl, Nat.le_of_ble_eq_true rfl⟩) (wrVx (wc := OW G ho pn pa pf ae xa ++ RW G pn adn r11 ++ RW G pa ada raa ++ FW G pf adf f) hSX hCX hZ hS hFc hK hP hD hN [0, 1, 2, 3, 4, 5, 6, 7, 8, 9, 10, 11, 12, 13, 14, 15, 16, 17, 18, 19, 20, 21, 22, 23, 24, 25, 26, 27, 28, 29, 30] (by decide +kernel) sb_a4303c86f1 sb_66a1bed9f5 (ci := 2) rfl rfl) rfl rfl hl.1 rfl (lv_room (Nat.le_of_ble_eq_true rfl)) dL_law_207 ⟨(by rw [hcR]; omega), (by rw [hsR]; omega)⟩) hS (fun q _ h => hFc q h) hFc (fun q _ h => hFc q h) (fun E ce q9 _ t H1 locs ht hvm _ hB hz1 hk1 hS hce hcv hcl => ?_) (fun q35 u36 t H1 locs ht hvm hw hB hz1 hk1 hS => ?_)
          · exfalso
            have hx9 := hB.1
            rcases hx9 with ⟨-, hk9⟩ <;> omega
          obtain ⟨xa37, r38, raa39, f40⟩ := u36
          try dsimp only at hw hB
          obtain ⟨hP, hD⟩ := wrJ2 (ws := OW G ho pn pa pf ae xa ++ RW G pn adn r11 ++ RW G pa ada raa ++ FW G pf adf f ++ SW G hm adm cx9 nx10 u8 ++ AW G na28 384 wa ++ AW G na30 384 av31 ++ AZ G na32 384 za) (wc := OW G ho pn pa pf ae xa ++ RW G pn adn r11 ++ RW G pa ada raa ++ FW G pf adf f) (wr := SW G hm adm cx9 nx10 u8 ++ AW G na28 384 wa ++ AW G na30 384 av31 ++ AZ G na32 384 za) (w1 := OW G ho pn pa pf ae xa37 ++ RW G pn adn r38 ++ RW G pa ada raa39 ++ FW G pf adf f40) hP hD [0, 1, 2, 3, 4, 5, 6, 7, 8, 9, 10, 11, 12, 13, 14, 15, 16, 17, 18, 19, 20, 21, 22, 23, 24, 25, 26, 27, 28, 29, 30] [31, 32, 33, 34, 35, 36, 37, 38, 39, 40, 41] sb_66a1bed9f5 sb_4ccd58796c (by decide +kernel) (by decide +kernel) hk1 ht hFc hB
          have hP : va_P G.1 vwCl (OW G ho pn pa pf ae xa37 ++ RW G pn adn r38 ++ RW G pa ada raa39 ++ FW G pf adf f40 ++ SW G hm adm cx9 nx10 u8 ++ AW G na28 384 wa ++ AW G na30 384 av31 ++ AZ G na32 384 za) H1 := hP.sub [11, 12, 13, 14, 15, 16, 17, 18, 19, 20, 21, 22, 23, 24, 25, 26, 27, 28, 29, 30, 31, 32, 33, 34, 35, 36, 37, 38, 39, 40, 41, 0, 1, 2, 3, 4, 5, 6, 7, 8, 9, 10] sb_eac6f2d681
          have hD : va_D A (OW G ho pn pa pf ae xa37 ++ RW G pn adn r38 ++ RW G pa ada raa39 ++ FW G pf adf f40 ++ SW G hm adm cx9 nx10 u8 ++ AW G na28 384 wa ++ AW G na30 384 av31 ++ AZ G na32 384 za) := hD.sub [11, 12, 13, 14, 15, 16, 17, 18, 19, 20, 21, 22, 23, 24, 25, 26, 27, 28, 29, 30, 31, 32, 33, 34, 35, 36, 37, 38, 39, 40, 41, 0, 1, 2, 3, 4, 5, 6, 7, 8, 9, 10] (by decide +kernel) sb_e33f1c05a0
          clear hB hk1 hFc ht hz1 hvm hk0
          generalize H1 = H at hP hS ⊢
          obtain ⟨z41, rfl, -, ⟨okxa37, okr38, okraa39, okf40⟩, w43, w44, w45⟩ := hw
          have w43 := w43.symm
          subst w43
          have w44 := w44.symm
          subst w44
          subst w45
          refine mf_top (vCell r11 f (kv % 24) (kv / 24) 1) (r11 1 kv) (by unfold vCell; rw [if_neg (by decide)]; rw [if_pos rfl, show kv % 24 + 24 * (kv / 24) = kv by omega]) ?_
          have b_dcc45f : (0 : Int) ≤ r11 1 kv ∧ r11 1 kv ≤ 200000000 := ok1 1 kv
          skip
          refine mf_iast (n := 384) (f := wa 0) hx hb hK hP hD hS 39 0 rfl rfl (z := kv) (x := r11 1 kv) (by omega) (by omega) (by first | decide | omega) dL_law_210 (fun H locs hP hD hS => ?_)
          obtain ⟨wa46, ewa46⟩ : ∃ z9 : mf_V, z9 = mf_sF wa 0 (mf_up (wa 0) (kv) (r11 1 kv)) := ⟨_, rfl⟩
          have hP : va_P G.1 vwCl (OW G ho pn pa pf ae xa37 ++ RW G pn adn r11 ++ RW G pa ada raa39 ++ FW G pf adf f ++ SW G hm adm cx9 nx10 u8 ++ AW G na28 384 wa46 ++ AW G na30 384 av31 ++ AZ G na32 384 za) H := by rw [ewa46]; exact hP
          have hD : va_D A (OW G ho pn pa pf ae xa37 ++ RW G pn adn r11 ++ RW G pa ada raa39 ++ FW G pf adf f ++ SW G hm adm cx9 nx10 u8 ++ AW G na28 384 wa46 ++ AW G na30 384 av31 ++ AZ G na32 384 za) := by rw [ewa46]; exact hD
          have f1_wa46 : wa46 0 (kv) = r11 1 kv := by rw [ewa46, mf_sF_s, mf_up_s]
          have f2_wa46 : ∀ y, y ≠ (kv) → wa46 0 y = wa 0 y := fun y hy => by rw [ewa46, mf_sF_s, mf_up_n hy]
          have f3_wa46 : ∀ q, q ≠ 0 → wa46 q = wa q := fun q hq => by rw [ewa46, mf_sF_n hq]
          refine lv_aload hx hb dL_law_211 (lv_at hl 7 rfl) ?_
          refine lv_iload hx hb dL_law_213 (lv_at hl 8 rfl) ?_
          refine lv_aload_n hx hb dL_law_215 rfl (lv_at hl 1 rfl) ?_
          refine lv_iload hx hb dL_law_216 (lv_at hl 8 rfl) ?_
          refine mf_bipush hx hb dL_law_218 rfl ?_
          refine mf_irem hx hb dL_law_220 (i32_mk (by omega) (by omega)) (by omega) (i32_mk (by decide) (by decide)) (by omega) ?_
          refine lv_iload hx hb dL_law_221 (lv_at hl 8 rfl) ?_
          refine mf_bipush hx hb dL_law_223 rfl ?_
          refine mf_idiv hx hb dL_law_225 (i32_mk (by omega) (by omega)) (by omega) (i32_mk (by decide) (by decide)) (by omega) ?_
          refine mf_iconst hx hb dL_law_226 ?_
          have hk0 : kCell2 (kv % 24) (kv / 24) 3 = 0 := by exact mf_if_f (fun q => q ⟨⟨⟨by omega, by omega⟩, by omega, by omega⟩, by omega, by omega⟩)
          have hFc := va_free (wc := OW G ho pn pa pf ae xa37 ++ RW G pn adn r11 ++ RW G pa ada raa39 ++ FW G pf adf f) hD hS hA [0, 1, 2, 3, 4, 5, 6, 7, 8, 9, 10, 11, 12, 13, 14, 15, 16, 17, 18, 19, 20, 21, 22, 23, 24, 25, 26, 27, 28, 29, 30] sb_66a1bed9f5
          refine vx_calli (vx_runV (As := [.int (iI (kv % 24)), .int (iI (kv / 24)), .int (iI (3))]) (rest := [.int (iI (kv)), .ref na32]) ⟨hx, hb, hml, hown, hts⟩ (c_X2_cell l hl9 G ho pn pa pf ae xa37 adn r11 ada raa39 adf f (kv % 24) (kv / 24) (3) (i32_mk (by omega) (by omega)) (i32_mk (by omega) (by omega)) (i32_mk (by decide) (by decide)) (by assumption) (by assumption) (by assumption) (by assumption) _) (cwV 3 hts gL_law_X2_cell rfl rfl rfl (by decide +kernel) ⟨Nat.le_of_ble_eq_true rfl, Nat.le_of_ble_eq_true rfl⟩) (wrVx (wc := OW G ho pn pa pf ae xa37 ++ RW G pn adn r11 ++ RW G pa ada raa39 ++ FW G pf adf f) hSX hCX hZ hS hFc hK hP hD hN [0, 1, 2, 3, 4, 5, 6, 7, 8, 9, 10, 11, 12, 13, 14, 15, 16, 17, 18, 19, 20, 21, 22, 23, 24, 25, 26, 27, 28, 29, 30] (by decide +kernel) sb_a4303c86f1 sb_66a1bed9f5 (ci := 2) rfl rfl) rfl rfl hl.1 rfl (lv_room (Nat.le_of_ble_eq_true rfl)) dL_law_227 ⟨(by rw [hcR]; omega), (by rw [hsR]; omega)⟩) hS (fun q _ h => hFc q h) hFc (fun q _ h => hFc q h) (fun E ce q9 _ t H1 locs ht hvm _ hB hz1 hk1 hS hce hcv hcl => ?_) (fun q47 u48 t H1 locs ht hvm hw hB hz1 hk1 hS => ?_)
          · exfalso
            have hx9 := hB.1
            rcases hx9 with ⟨-, hk9⟩ <;> omega
          obtain ⟨xa49, r50, raa51, f52⟩ := u48
          try dsimp only at hw hB
          obtain ⟨hP, hD⟩ := wrJ2 (ws := OW G ho pn pa pf ae xa37 ++ RW G pn adn r11 ++ RW G pa ada raa39 ++ FW G pf adf f ++ SW G hm adm cx9 nx10 u8 ++ AW G na28 384 wa46 ++ AW G na30 384 av31 ++ AZ G na32 384 za) (wc := OW G ho pn pa pf ae xa37 ++ RW G pn adn r11 ++ RW G pa ada raa39 ++ FW G pf adf f) (wr := SW G hm adm cx9 nx10 u8 ++ AW G na28 384 wa46 ++ AW G na30 384 av31 ++ AZ G na32 384 za) (w1 := OW G ho pn pa pf ae xa49 ++ RW G pn adn r50 ++ RW G pa ada raa51 ++ FW G pf adf f52) hP hD [0, 1, 2, 3, 4, 5, 6, 7, 8, 9, 10, 11, 12, 13, 14, 15, 16, 17, 18, 19, 20, 21, 22, 23, 24, 25, 26, 27, 28, 29, 30] [31, 32, 33, 34, 35, 36, 37, 38, 39, 40, 41] sb_66a1bed9f5 sb_4ccd58796c (by decide +kernel) (by decide +kernel) hk1 ht hFc hB
          have hP : va_P G.1 vwCl (OW G ho pn pa pf ae xa49 ++ RW G pn adn r50 ++ RW G pa ada raa51 ++ FW G pf adf f52 ++ SW G hm adm cx9 nx10 u8 ++ AW G na28 384 wa46 ++ AW G na30 384 av31 ++ AZ G na32 384 za) H1 := hP.sub [11, 12, 13, 14, 15, 16, 17, 18, 19, 20, 21, 22, 23, 24, 25, 26, 27, 28, 29, 30, 31, 32, 33, 34, 35, 36, 37, 38, 39, 40, 41, 0, 1, 2, 3, 4, 5, 6, 7, 8, 9, 10] sb_eac6f2d681
          have hD : va_D A (OW G ho pn pa pf ae xa49 ++ RW G pn adn r50 ++ RW G pa ada raa51 ++ FW G pf adf f52 ++ SW G hm adm cx9 nx10 u8 ++ AW G na28 384 wa46 ++ AW G na30 384 av31 ++ AZ G na32 384 za) := hD.sub [11, 12, 13, 14, 15, 16, 17, 18, 19, 20, 21, 22, 23, 24, 25, 26, 27, 28, 29, 30, 31, 32, 33, 34, 35, 36, 37, 38, 39, 40, 41, 0, 1, 2, 3, 4, 5, 6, 7, 8, 9, 10] (by decide +kernel) sb_e33f1c05a0
          clear hB hk1 hFc ht hz1 hvm hk0
          generalize H1 = H at hP hS ⊢
          obtain ⟨z53, rfl, -, ⟨okxa49, okr50, okraa51, okf52⟩, w55, w56, w57⟩ := hw
          have w55 := w55.symm
          subst w55
          have w56 := w56.symm
          subst w56
          subst w57
          refine mf_top (vCell r11 f (kv % 24) (kv / 24) 3) (r11 10 kv) (by unfold vCell; rw [if_neg (by decide)]; rw [if_neg (by decide)]; rw [if_neg (by decide)]; rw [if_pos rfl, show kv % 24 + 24 * (kv / 24) = kv by omega]) ?_
          have b_481b7b : (-1 : Int) ≤ r11 10 kv ∧ r11 10 kv ≤ 149 := ok1 10 kv
          skip
          refine mf_if_lt (tgt := 237) hx hb dL_law_230 (by decide) (i32_mk (by omega) (by omega)) (fun c58 => ?_) (fun c58 => ?_)
          · skip
            refine mf_iconst hx hb dL_law_237 ?_
            refine mf_zast (n := 384) (f := za 0) hx hb hK hP hD hS 41 1 rfl rfl (z := kv) (x := 0) (by omega) (by omega) (by first | decide | omega) (by omega) dL_law_238 (fun H locs hP hD hS => ?_)
            obtain ⟨za59, eza59⟩ : ∃ z9 : mf_V, z9 = mf_sF za 0 (mf_up (za 0) (kv) (0)) := ⟨_, rfl⟩
            have hP : va_P G.1 vwCl (OW G ho pn pa pf ae xa49 ++ RW G pn adn r11 ++ RW G pa ada raa51 ++ FW G pf adf f ++ SW G hm adm cx9 nx10 u8 ++ AW G na28 384 wa46 ++ AW G na30 384 av31 ++ AZ G na32 384 za59) H := by rw [eza59]; exact hP
            have hD : va_D A (OW G ho pn pa pf ae xa49 ++ RW G pn adn r11 ++ RW G pa ada raa51 ++ FW G pf adf f ++ SW G hm adm cx9 nx10 u8 ++ AW G na28 384 wa46 ++ AW G na30 384 av31 ++ AZ G na32 384 za59) := by rw [eza59]; exact hD
            have f1_za59 : za59 0 (kv) = 0 := by rw [eza59, mf_sF_s, mf_up_s]
            have f2_za59 : ∀ y, y ≠ (kv) → za59 0 y = za 0 y := fun y hy => by rw [eza59, mf_sF_s, mf_up_n hy]
            have f3_za59 : ∀ q, q ≠ 0 → za59 q = za q := fun q hq => by rw [eza59, mf_sF_n hq]
            refine lv_iinc (v := iI (kv + 1)) (lv' := [(10, .int (iI (kv + 1))), (0, .ref b), (1, .ref ho), (2, .ref hm), (4, .int (iI (tv))), (6, .int (iI (r11 7 0))), (7, .ref na28), (8, .ref na30), (9, .ref na32)]) hx hb dL_law_239 hl (k := 8) rfl (iI_add _ _).symm (by decide) rfl (fun ls hl => ?_)
            refine lv_goto (tgt := 183) hx hb dL_law_242 (by decide) ?_
            exact ih183 (kv + 1) xa49 raa51 wa46 za59 (cc + 2) (sc + 12) (by omega) (by first | assumption | omega) (by first | assumption | omega) (by first | assumption | omega) (by intro c c0 c1; rcases (show c < kv ∨ c = kv by omega) with z | z; (rw [f2_wa46 c (by omega)]; exact hw c c0 z); (rw [z]; exact f1_wa46)) (by intro c c0 c1; rcases (show c < kv ∨ c = kv by omega) with z | z; (rw [f2_za59 c (by omega)]; exact hz c c0 z); (rw [z, f1_za59]; exact (bP_f (by omega)).symm)) (by first | assumption | omega) (by first | assumption | omega) _ _ hP hD hS ls (lv_sub hl [1, 2, 3, 4, 5, 6, 7, 8, 0] rfl)
          · skip
            refine mf_iconst hx hb dL_law_233 ?_
            refine lv_goto (tgt := 238) hx hb dL_law_234 (by decide) ?_
            refine mf_zast (n := 384) (f := za 0) hx hb hK hP hD hS 41 1 rfl rfl (z := kv) (x := 1) (by omega) (by omega) (by first | decide | omega) (by omega) dL_law_238 (fun H locs hP hD hS => ?_)
            obtain ⟨za60, eza60⟩ : ∃ z9 : mf_V, z9 = mf_sF za 0 (mf_up (za 0) (kv) (1)) := ⟨_, rfl⟩
            have hP : va_P G.1 vwCl (OW G ho pn pa pf ae xa49 ++ RW G pn adn r11 ++ RW G pa ada raa51 ++ FW G pf adf f ++ SW G hm adm cx9 nx10 u8 ++ AW G na28 384 wa46 ++ AW G na30 384 av31 ++ AZ G na32 384 za60) H := by rw [eza60]; exact hP
            have hD : va_D A (OW G ho pn pa pf ae xa49 ++ RW G pn adn r11 ++ RW G pa ada raa51 ++ FW G pf adf f ++ SW G hm adm cx9 nx10 u8 ++ AW G na28 384 wa46 ++ AW G na30 384 av31 ++ AZ G na32 384 za60) := by rw [eza60]; exact hD
            have f1_za60 : za60 0 (kv) = 1 := by rw [eza60, mf_sF_s, mf_up_s]
            have f2_za60 : ∀ y, y ≠ (kv) → za60 0 y = za 0 y := fun y hy => by rw [eza60, mf_sF_s, mf_up_n hy]
            have f3_za60 : ∀ q, q ≠ 0 → za60 q = za q := fun q hq => by rw [eza60, mf_sF_n hq]
            refine lv_iinc (v := iI (kv + 1)) (lv' := [(10, .int (iI (kv + 1))), (0, .ref b), (1, .ref ho), (2, .ref hm), (4, .int (iI (tv))), (6, .int (iI (r11 7 0))), (7, .ref na28), (8, .ref na30), (9, .ref na32)]) hx hb dL_law_239 hl (k := 8) rfl (iI_add _ _).symm (by decide) rfl (fun ls hl => ?_)
            refine lv_goto (tgt := 183) hx hb dL_law_242 (by decide) ?_
            exact ih183 (kv + 1) xa49 raa51 wa46 za60 (cc + 2) (sc + 12) (by omega) (by first | assumption | omega) (by first | assumption | omega) (by first | assumption | omega) (by intro c c0 c1; rcases (show c < kv ∨ c = kv by omega) with z | z; (rw [f2_wa46 c (by omega)]; exact hw c c0 z); (rw [z]; exact f1_wa46)) (by intro c c0 c1; rcases (show c < kv ∨ c = kv by omega) with z | z; (rw [f2_za60 c (by omega)]; exact hz c c0 z); (rw [z, f1_za60]; exact (bP_t (by omega)).symm)) (by first | assumption | omega) (by first | assumption | omega) _ _ hP hD hS ls (lv_sub hl [1, 2, 3, 4, 5, 6, 7, 8, 0] rfl)
    exact lp183 (_ + 1) 0 x19 ra21 av29 av33 (cells + 7) (slots + 1317) (Nat.lt_succ_self _) (by first | assumption | omega) (by first | assumption | omega) (by first | assumption | omega) (by intro c c0 c1; omega) (by intro c c0 c1; omega) (by first | assumption | omega) (by first | assumption | omega) _ _ hP hD hS ls (lv_sub hl [6, 7, 8, 9, 4, 3, 2, 1, 0] rfl)
  · skip
    exfalso; omega
