/-! 63.lawcases -/
theorem sb_a548d2217e {G : mf_G} {gL : ClassId} {h1 p1 a1 f1 ae1 : Nat} {x1 : mf_V} {h2 : Nat} {x2 : Nat → Int64} {h3 : Nat} {ad3 : Nat → Nat} {x3 : mf_V} {h4 : Nat} {ad4 : Nat → Nat} {x4 : mf_V} {h5 : Nat} {ad5 : Nat → Nat} {x5 : mf_V} {h6 : Nat} {ad6 : Nat → Nat} {x6 : mf_V} : ([0, 1, 2, 3, 4, 5, 6, 7, 8, 9, 10, 11, 12, 13, 14, 15, 16, 17, 18, 19, 20, 21, 22, 23, 24, 25, 26, 27, 28, 29, 30, 31] : List Nat).filterMap (fun i => (OW G h1 p1 a1 f1 ae1 x1 ++ LW gL h2 x2 ++ RW G h3 ad3 x3 ++ RW G h4 ad4 x4 ++ FW G h5 ad5 x5 ++ MW G h6 ad6 x6)[i]?) = OW G h1 p1 a1 f1 ae1 x1 ++ LW gL h2 x2 ++ RW G h3 ad3 x3 ++ RW G h4 ad4 x4 ++ FW G h5 ad5 x5 := rfl
theorem sb_807262e62d {G : mf_G} {gL : ClassId} {h1 p1 a1 f1 ae1 : Nat} {x1 : mf_V} {h2 : Nat} {x2 : Nat → Int64} {h3 : Nat} {ad3 : Nat → Nat} {x3 : mf_V} {h4 : Nat} {ad4 : Nat → Nat} {x4 : mf_V} {h5 : Nat} {ad5 : Nat → Nat} {x5 : mf_V} {h6 : Nat} {ad6 : Nat → Nat} {x6 : mf_V} : ([0, 1, 2, 3, 4, 5, 6, 7, 8, 9, 10, 11, 12, 13, 14, 15, 16, 17, 18, 19, 20, 21, 22, 23, 24, 25, 26, 27, 28, 29, 30, 31] : List Nat).map (fun i => (OW G h1 p1 a1 f1 ae1 x1 ++ LW gL h2 x2 ++ RW G h3 ad3 x3 ++ RW G h4 ad4 x4 ++ FW G h5 ad5 x5 ++ MW G h6 ad6 x6)[i]?) = (OW G h1 p1 a1 f1 ae1 x1 ++ LW gL h2 x2 ++ RW G h3 ad3 x3 ++ RW G h4 ad4 x4 ++ FW G h5 ad5 x5).map some := rfl
theorem sb_f493248143 {G : mf_G} {gL : ClassId} {h1 p1 a1 f1 ae1 : Nat} {x1 : mf_V} {h2 : Nat} {x2 : Nat → Int64} {h3 : Nat} {ad3 : Nat → Nat} {x3 : mf_V} {h4 : Nat} {ad4 : Nat → Nat} {x4 : mf_V} {h5 : Nat} {ad5 : Nat → Nat} {x5 : mf_V} {h6 : Nat} {ad6 : Nat → Nat} {x6 : mf_V} : ([32, 33, 34, 35, 36, 37, 38, 39, 40, 41] : List Nat).map (fun i => (OW G h1 p1 a1 f1 ae1 x1 ++ LW gL h2 x2 ++ RW G h3 ad3 x3 ++ RW G h4 ad4 x4 ++ FW G h5 ad5 x5 ++ MW G h6 ad6 x6)[i]?) = (MW G h6 ad6 x6).map some := rfl
theorem sb_5e9f4be562 {G : mf_G} {gL : ClassId} {h1 : Nat} {ad1 : Nat → Nat} {x1 : mf_V} {h2 p2 a2 f2 ae2 : Nat} {x2 : mf_V} {h3 : Nat} {x3 : Nat → Int64} {h4 : Nat} {ad4 : Nat → Nat} {x4 : mf_V} {h5 : Nat} {ad5 : Nat → Nat} {x5 : mf_V} {h6 : Nat} {ad6 : Nat → Nat} {x6 : mf_V} : ([10, 11, 12, 13, 14, 15, 16, 17, 18, 19, 20, 21, 22, 23, 24, 25, 26, 27, 28, 29, 30, 31, 32, 33, 34, 35, 36, 37, 38, 39, 40, 41, 0, 1, 2, 3, 4, 5, 6, 7, 8, 9] : List Nat).filterMap (fun i => ((MW G h1 ad1 x1) ++ (OW G h2 p2 a2 f2 ae2 x2 ++ LW gL h3 x3 ++ RW G h4 ad4 x4 ++ RW G h5 ad5 x5 ++ FW G h6 ad6 x6))[i]?) = OW G h2 p2 a2 f2 ae2 x2 ++ LW gL h3 x3 ++ RW G h4 ad4 x4 ++ RW G h5 ad5 x5 ++ FW G h6 ad6 x6 ++ MW G h1 ad1 x1 := rfl
theorem sb_6a4c93fcc4 {G : mf_G} {gL : ClassId} {h1 : Nat} {ad1 : Nat → Nat} {x1 : mf_V} {h2 p2 a2 f2 ae2 : Nat} {x2 : mf_V} {h3 : Nat} {x3 : Nat → Int64} {h4 : Nat} {ad4 : Nat → Nat} {x4 : mf_V} {h5 : Nat} {ad5 : Nat → Nat} {x5 : mf_V} {h6 : Nat} {ad6 : Nat → Nat} {x6 : mf_V} : ([10, 11, 12, 13, 14, 15, 16, 17, 18, 19, 20, 21, 22, 23, 24, 25, 26, 27, 28, 29, 30, 31, 32, 33, 34, 35, 36, 37, 38, 39, 40, 41, 0, 1, 2, 3, 4, 5, 6, 7, 8, 9] : List Nat).map (fun i => ((MW G h1 ad1 x1) ++ (OW G h2 p2 a2 f2 ae2 x2 ++ LW gL h3 x3 ++ RW G h4 ad4 x4 ++ RW G h5 ad5 x5 ++ FW G h6 ad6 x6))[i]?) = (OW G h2 p2 a2 f2 ae2 x2 ++ LW gL h3 x3 ++ RW G h4 ad4 x4 ++ RW G h5 ad5 x5 ++ FW G h6 ad6 x6 ++ MW G h1 ad1 x1).map some := rfl
theorem sb_0e13f593d9 {G : mf_G} {gL : ClassId} {h1 p1 a1 f1 ae1 : Nat} {x1 : mf_V} {h2 : Nat} {x2 : Nat → Int64} {h3 : Nat} {ad3 : Nat → Nat} {x3 : mf_V} {h4 : Nat} {ad4 : Nat → Nat} {x4 : mf_V} {h5 : Nat} {ad5 : Nat → Nat} {x5 : mf_V} {h6 : Nat} {ad6 : Nat → Nat} {x6 : mf_V} : ([32, 33, 34, 35, 36, 37, 38, 39, 40, 41] : List Nat).filterMap (fun i => (OW G h1 p1 a1 f1 ae1 x1 ++ LW gL h2 x2 ++ RW G h3 ad3 x3 ++ RW G h4 ad4 x4 ++ FW G h5 ad5 x5 ++ MW G h6 ad6 x6)[i]?) = MW G h6 ad6 x6 := rfl
theorem sb_9f762f0c91 {G : mf_G} {gL : ClassId} {h1 p1 a1 f1 ae1 : Nat} {x1 : mf_V} {h2 : Nat} {x2 : Nat → Int64} {h3 : Nat} {ad3 : Nat → Nat} {x3 : mf_V} {h4 : Nat} {ad4 : Nat → Nat} {x4 : mf_V} {h5 : Nat} {ad5 : Nat → Nat} {x5 : mf_V} {h6 : Nat} {ad6 : Nat → Nat} {x6 : mf_V} : ([0, 1, 2, 3, 4, 5, 6, 7, 8, 9, 10, 11, 12, 13, 14, 15, 16, 17, 18, 19, 20, 21, 22, 23, 24, 25, 26, 27, 28, 29, 30, 31, 32, 33, 34, 35, 36, 37, 38, 39, 40, 41] : List Nat).filterMap (fun i => ((OW G h1 p1 a1 f1 ae1 x1 ++ LW gL h2 x2 ++ RW G h3 ad3 x3 ++ RW G h4 ad4 x4 ++ FW G h5 ad5 x5) ++ (MW G h6 ad6 x6))[i]?) = OW G h1 p1 a1 f1 ae1 x1 ++ LW gL h2 x2 ++ RW G h3 ad3 x3 ++ RW G h4 ad4 x4 ++ FW G h5 ad5 x5 ++ MW G h6 ad6 x6 := rfl
theorem sb_ced734b625 {G : mf_G} {gL : ClassId} {h1 p1 a1 f1 ae1 : Nat} {x1 : mf_V} {h2 : Nat} {x2 : Nat → Int64} {h3 : Nat} {ad3 : Nat → Nat} {x3 : mf_V} {h4 : Nat} {ad4 : Nat → Nat} {x4 : mf_V} {h5 : Nat} {ad5 : Nat → Nat} {x5 : mf_V} {h6 : Nat} {ad6 : Nat → Nat} {x6 : mf_V} : ([0, 1, 2, 3, 4, 5, 6, 7, 8, 9, 10, 11, 12, 13, 14, 15, 16, 17, 18, 19, 20, 21, 22, 23, 24, 25, 26, 27, 28, 29, 30, 31, 32, 33, 34, 35, 36, 37, 38, 39, 40, 41] : List Nat).map (fun i => ((OW G h1 p1 a1 f1 ae1 x1 ++ LW gL h2 x2 ++ RW G h3 ad3 x3 ++ RW G h4 ad4 x4 ++ FW G h5 ad5 x5) ++ (MW G h6 ad6 x6))[i]?) = (OW G h1 p1 a1 f1 ae1 x1 ++ LW gL h2 x2 ++ RW G h3 ad3 x3 ++ RW G h4 ad4 x4 ++ FW G h5 ad5 x5 ++ MW G h6 ad6 x6).map some := rfl
set_option maxHeartbeats 4000000 in
set_option maxRecDepth 100000 in
theorem lc_setHardness {p : Program} {l : Launch} {e : Env} {s : State} {m : MethodId} {below : List Frame} {meth : Method} {c : Code} {Q : State → Prop} {b L : Nat} {xs : Nat → Int32} {G : mf_G} {gL gK : ClassId} {A : Nat → Prop} (E : LE p l s m meth c b L xs G gL gK A) {ho pn pa pf ae jw hm : Nat} {adn ada adf adm : Nat → Nat} {x r ra f u : mf_V} {o : Nat → Int64} {Y iv : Int} {cells slots : Nat} {H : Heap} {locs : List Loc} {ls : Array Slot} (hI0 : LI Y x r ra f u) (hY : 0 ≤ Y ∧ Y + 100 ≤ 60000) (hiv : 0 ≤ iv ∧ iv + 5 ≤ L ∧ L ≤ 2560) (hcl : cells + 6 ≤ 601024 ∧ slots + 933 ≤ 7293033) (hP : va_P G.1 vwCl (OW G ho pn pa pf ae x ++ LW gL jw o ++ RW G pn adn r ++ RW G pa ada ra ++ FW G pf adf f ++ MW G hm adm u) H) (hD : va_D A (OW G ho pn pa pf ae x ++ LW gL jw o ++ RW G pn adn r ++ RW G pa ada ra ++ FW G pf adf f ++ MW G hm adm u)) (hS : va_S A s.heap H locs) (hl : lv_has ls 9 [(4, .int (iI (iv))), (0, .ref b), (1, .ref ho), (2, .ref hm), (3, .ref jw)])
    (kk : ∀ (x' : mf_V) (o' : Nat → Int64) (r' ra' f' u' : mf_V) (H : Heap) (locs : List Loc) (ls : Array Slot), LI (Y + 101) x' r' ra' f' u' → va_P G.1 vwCl (OW G ho pn pa pf ae x' ++ LW gL jw o' ++ RW G pn adn r' ++ RW G pa ada ra' ++ FW G pf adf f' ++ MW G hm adm u') H → va_D A (OW G ho pn pa pf ae x' ++ LW gL jw o' ++ RW G pn adn r' ++ RW G pa ada ra' ++ FW G pf adf f' ++ MW G hm adm u') → va_S A s.heap H locs → lv_has ls 9 [(4, .int (iI (iv))), (0, .ref b), (1, .ref ho), (2, .ref hm), (3, .ref jw)] → W p l e room_1 s m #[Value.ref b] below meth c H locs (cells + 6) (slots + 933) Q (F0 m 1223 ls [])) :
    W p l e room_1 s m #[Value.ref b] below meth c H locs cells slots Q (F0 m 120 ls []) := by
  obtain ⟨hx, hb, hr, hml, hown, hts, hXs, hbl, hl9, hK2, hN, hX, hSX, hCX, hZ, hNX, hA, hbA⟩ := E
  have hK := hK2.sub (tys' := mf_ty G) [0, 1] rfl
  obtain ⟨⟨okx, ok, okra, okf⟩, hRI, hB, hFI, oku, hrel, hrf⟩ := id hI0
  have hcR : room_1.cells = 601024 := rfl
  have hsR : room_1.slots = 7293033 := rfl
  have okLr : (0 : Int) ≤ r 7 0 ∧ r 7 0 ≤ 150 := ok 7 0
  have hlen : 2 ≤ r 7 0 := hRI.1.1
  have b46 : (0 : Int) ≤ f 4 0 ∧ f 4 0 ≤ 6 := okf 4 0
  refine lv_aload_n hx hb dL_law_120 rfl (lv_at hl 2 rfl) ?_
  refine lv_aload_n hx hb dL_law_121 rfl (lv_at hl 1 rfl) ?_
  refine lv_iload hx hb dL_law_122 (lv_at hl 0 rfl) ?_
  refine mf_iconst hx hb dL_law_124 ?_
  refine mf_iadd hx hb dL_law_125 ?_
  refine mf_sld hx hb hXs hbl hbA hS (z := iv + 1) (by omega) (by omega) (by omega) dL_law_126 ?_
  refine mf_nm (fun y1 ey1 => ?_)
  have by1 := sI_b xs (iv + 1)
  rw [← ey1] at by1
  refine lv_aload_n hx hb dL_law_127 rfl (lv_at hl 1 rfl) ?_
  refine lv_iload hx hb dL_law_128 (lv_at hl 0 rfl) ?_
  refine mf_iconst hx hb dL_law_130 ?_
  refine mf_iadd hx hb dL_law_131 ?_
  refine mf_sld hx hb hXs hbl hbA hS (z := iv + 2) (by omega) (by omega) (by omega) dL_law_132 ?_
  refine mf_nm (fun y2 ey2 => ?_)
  have by2 := sI_b xs (iv + 2)
  rw [← ey2] at by2
  refine lv_aload_n hx hb dL_law_133 rfl (lv_at hl 1 rfl) ?_
  refine lv_iload hx hb dL_law_134 (lv_at hl 0 rfl) ?_
  refine mf_iconst hx hb dL_law_136 ?_
  refine mf_iadd hx hb dL_law_137 ?_
  refine mf_sld hx hb hXs hbl hbA hS (z := iv + 3) (by omega) (by omega) (by omega) dL_law_138 ?_
  refine mf_nm (fun y3 ey3 => ?_)
  have by3 := sI_b xs (iv + 3)
  rw [← ey3] at by3
  refine lv_aload_n hx hb dL_law_139 rfl (lv_at hl 4 rfl) ?_
  have hFc := va_free (wc := OW G ho pn pa pf ae x ++ LW gL jw o ++ RW G pn adn r ++ RW G pa ada ra ++ FW G pf adf f) hD hS hA [0, 1, 2, 3, 4, 5, 6, 7, 8, 9, 10, 11, 12, 13, 14, 15, 16, 17, 18, 19, 20, 21, 22, 23, 24, 25, 26, 27, 28, 29, 30, 31] sb_807262e62d
  refine vx_calli (vx_runSX (As := [.ref ho, .int (iI (y1)), .int (iI (y2)), .int (iI (y3)), .ref jw]) (rest := []) ⟨hx, hb, hml, hown, hts⟩ (c_L_setHardness l hl9 G gL ho pn pa pf ae x jw o adn r ada ra adf f (y1) (y2) (y3) (i32_mk (by omega) (by omega)) (i32_mk (by omega) (by omega)) (i32_mk (by omega) (by omega)) (by assumption) (by assumption) (by assumption) (by assumption) _) (vx_cwSW 5 hts gL_law_L_setHardness rfl rfl rfl (by decide +kernel) ⟨Nat.le_of_ble_eq_true rfl, Nat.le_of_ble_eq_true rfl⟩) (wrSy (wc := OW G ho pn pa pf ae x ++ LW gL jw o ++ RW G pn adn r ++ RW G pa ada ra ++ FW G pf adf f) hSX hCX hZ hS hFc hNX hK2 hP hD hN [0, 1, 2, 3, 4, 5, 6, 7, 8, 9, 10, 11, 12, 13, 14, 15, 16, 17, 18, 19, 20, 21, 22, 23, 24, 25, 26, 27, 28, 29, 30, 31] (by decide +kernel) sb_a548d2217e sb_807262e62d) rfl rfl hl.1 rfl (lv_room (Nat.le_of_ble_eq_true rfl)) dL_law_140 ⟨(by rw [hcR]; omega), (by rw [hsR]; omega)⟩) hS (fun q _ h => hFc q h) hFc (fun q _ h => hFc q h) (fun E ce q9 _ t H1 locs ht hvm hpx _ _ _ _ _ _ _ => False.elim hpx) (fun q4 u5 t H1 locs ht hvm hw hB hz1 hk1 hS => ?_)
  obtain ⟨x6, o7, r8, ra9, f10⟩ := u5
  try dsimp only at hw hB
  obtain ⟨hP, hD⟩ := wrJ2 (ws := OW G ho pn pa pf ae x ++ LW gL jw o ++ RW G pn adn r ++ RW G pa ada ra ++ FW G pf adf f ++ MW G hm adm u) (wc := OW G ho pn pa pf ae x ++ LW gL jw o ++ RW G pn adn r ++ RW G pa ada ra ++ FW G pf adf f) (wr := MW G hm adm u) (w1 := OW G ho pn pa pf ae x6 ++ LW gL jw o7 ++ RW G pn adn r8 ++ RW G pa ada ra9 ++ FW G pf adf f10) hP hD [0, 1, 2, 3, 4, 5, 6, 7, 8, 9, 10, 11, 12, 13, 14, 15, 16, 17, 18, 19, 20, 21, 22, 23, 24, 25, 26, 27, 28, 29, 30, 31] [32, 33, 34, 35, 36, 37, 38, 39, 40, 41] sb_807262e62d sb_f493248143 (by decide +kernel) (by decide +kernel) hk1 ht hFc hB
  have hP : va_P G.1 vwCl (OW G ho pn pa pf ae x6 ++ LW gL jw o7 ++ RW G pn adn r8 ++ RW G pa ada ra9 ++ FW G pf adf f10 ++ MW G hm adm u) H1 := hP.sub [10, 11, 12, 13, 14, 15, 16, 17, 18, 19, 20, 21, 22, 23, 24, 25, 26, 27, 28, 29, 30, 31, 32, 33, 34, 35, 36, 37, 38, 39, 40, 41, 0, 1, 2, 3, 4, 5, 6, 7, 8, 9] sb_5e9f4be562
  have hD : va_D A (OW G ho pn pa pf ae x6 ++ LW gL jw o7 ++ RW G pn adn r8 ++ RW G pa ada ra9 ++ FW G pf adf f10 ++ MW G hm adm u) := hD.sub [10, 11, 12, 13, 14, 15, 16, 17, 18, 19, 20, 21, 22, 23, 24, 25, 26, 27, 28, 29, 30, 31, 32, 33, 34, 35, 36, 37, 38, 39, 40, 41, 0, 1, 2, 3, 4, 5, 6, 7, 8, 9] (by decide +kernel) sb_6a4c93fcc4
  clear hB hk1 hFc ht hz1 hvm
  generalize H1 = H at hP hS ⊢
  obtain ⟨z11, rfl, w12⟩ := hw
  have hz9 := w12.1
  obtain ⟨vq, hq9⟩ := mf_exI w12.2.2.1
  have hn9 := w12.2.2.2
  have ok9 := w12.2.1
  skip
  refine lv_istore (lv' := [(5, .int (iI (z11))), (4, .int (iI (iv))), (0, .ref b), (1, .ref ho), (2, .ref hm), (3, .ref jw)]) hx hb dL_law_143 hl (by decide) rfl (fun ls hl => ?_)
  refine lv_aload_n hx hb dL_law_145 rfl (lv_at hl 4 rfl) ?_
  refine lv_aload_n hx hb dL_law_146 rfl (lv_at hl 2 rfl) ?_
  refine lv_iload hx hb dL_law_147 (lv_at hl 1 rfl) ?_
  refine mf_iconst hx hb dL_law_149 ?_
  refine mf_iadd hx hb dL_law_150 ?_
  refine mf_sld hx hb hXs hbl hbA hS (z := iv + 1) (by omega) (by omega) (by omega) dL_law_151 ?_
  refine mf_top (sI xs (iv + 1)) (y1) ey1.symm ?_
  refine lv_aload_n hx hb dL_law_152 rfl (lv_at hl 2 rfl) ?_
  refine lv_iload hx hb dL_law_153 (lv_at hl 1 rfl) ?_
  refine mf_iconst hx hb dL_law_155 ?_
  refine mf_iadd hx hb dL_law_156 ?_
  refine mf_sld hx hb hXs hbl hbA hS (z := iv + 2) (by omega) (by omega) (by omega) dL_law_157 ?_
  refine mf_top (sI xs (iv + 2)) (y2) ey2.symm ?_
  refine lv_aload_n hx hb dL_law_158 rfl (lv_at hl 2 rfl) ?_
  refine lv_iload hx hb dL_law_159 (lv_at hl 1 rfl) ?_
  refine mf_iconst hx hb dL_law_161 ?_
  refine mf_iadd hx hb dL_law_162 ?_
  refine mf_sld hx hb hXs hbl hbA hS (z := iv + 3) (by omega) (by omega) (by omega) dL_law_163 ?_
  refine mf_top (sI xs (iv + 3)) (y3) ey3.symm ?_
  have hFc := va_free (wc := MW G hm adm u) hD hS hA [32, 33, 34, 35, 36, 37, 38, 39, 40, 41] sb_f493248143
  refine va_calli (va_runV (As := [.int (iI (y1)), .int (iI (y2)), .int (iI (y3))]) (rest := []) ⟨hx, hb, hml, hown, hts⟩ (c_X3_setHardness l G hm adm u (y1) (y2) (y3) (r) (i32_mk (by omega) (by omega)) (i32_mk (by omega) (by omega)) (i32_mk (by omega) (by omega)) (by assumption) (by assumption) (by exact hRI) (by exact hrel) _) (cwV 3 hts gL_law_X3_setHardness rfl rfl rfl (by decide +kernel) ⟨Nat.le_of_ble_eq_true rfl, Nat.le_of_ble_eq_true rfl⟩) (wrV (wc := MW G hm adm u) hK hP hD hN [32, 33, 34, 35, 36, 37, 38, 39, 40, 41] (by decide +kernel) sb_0e13f593d9 sb_f493248143 (ci := 3) rfl rfl) rfl rfl hl.1 rfl (lv_room (Nat.le_of_ble_eq_true rfl)) dL_law_164 ⟨(by rw [hcR]; omega), (by rw [hsR]; omega)⟩) hS (fun q _ h => hFc q h) hFc (fun q13 u14 t H1 locs ht hvm hw hB hz1 hk1 hS => ?_)
  obtain ⟨u15, rfl⟩ : ∃ z, z = u14 := ⟨_, rfl⟩
  try dsimp only at hw hB
  obtain ⟨hP, hD⟩ := wrJ2 (ws := OW G ho pn pa pf ae x6 ++ LW gL jw o7 ++ RW G pn adn r8 ++ RW G pa ada ra9 ++ FW G pf adf f10 ++ MW G hm adm u) (wc := MW G hm adm u) (wr := OW G ho pn pa pf ae x6 ++ LW gL jw o7 ++ RW G pn adn r8 ++ RW G pa ada ra9 ++ FW G pf adf f10) (w1 := MW G hm adm u15) hP hD [32, 33, 34, 35, 36, 37, 38, 39, 40, 41] [0, 1, 2, 3, 4, 5, 6, 7, 8, 9, 10, 11, 12, 13, 14, 15, 16, 17, 18, 19, 20, 21, 22, 23, 24, 25, 26, 27, 28, 29, 30, 31] sb_f493248143 sb_807262e62d (by decide +kernel) (by decide +kernel) hk1 ht hFc hB
  have hP : va_P G.1 vwCl (OW G ho pn pa pf ae x6 ++ LW gL jw o7 ++ RW G pn adn r8 ++ RW G pa ada ra9 ++ FW G pf adf f10 ++ MW G hm adm u15) H1 := hP.sub [0, 1, 2, 3, 4, 5, 6, 7, 8, 9, 10, 11, 12, 13, 14, 15, 16, 17, 18, 19, 20, 21, 22, 23, 24, 25, 26, 27, 28, 29, 30, 31, 32, 33, 34, 35, 36, 37, 38, 39, 40, 41] sb_9f762f0c91
  have hD : va_D A (OW G ho pn pa pf ae x6 ++ LW gL jw o7 ++ RW G pn adn r8 ++ RW G pa ada ra9 ++ FW G pf adf f10 ++ MW G hm adm u15) := hD.sub [0, 1, 2, 3, 4, 5, 6, 7, 8, 9, 10, 11, 12, 13, 14, 15, 16, 17, 18, 19, 20, 21, 22, 23, 24, 25, 26, 27, 28, 29, 30, 31, 32, 33, 34, 35, 36, 37, 38, 39, 40, 41] (by decide +kernel) sb_ced734b625
  have hP : va_P G.1 vwCl (OW G ho pn pa pf ae x6 ++ LW gL jw o7 ++ RW G pn adn r8 ++ RW G pa ada ra9 ++ FW G pf adf f10 ++ MW G hm adm u15) H1 := hP
  have hD : va_D A (OW G ho pn pa pf ae x6 ++ LW gL jw o7 ++ RW G pn adn r8 ++ RW G pa ada ra9 ++ FW G pf adf f10 ++ MW G hm adm u15) := hD
  clear hB hk1 hFc ht hz1 hvm
  generalize H1 = H at hP hS ⊢
  obtain ⟨z17, rfl, w16⟩ := hw
  have oku15 : rOK ulo uhi u15 := w16.1
  have hu9 : (-1 : Int) ≤ u15 0 0 ∧ u15 0 0 ≤ 9 := oku15 0 0
  have hkz := w16.2.2.1
  have hLI : LI (Y + 101) x6 r8 ra9 f10 u15 := by
    by_cases hk : kHard y1 y2 y3 = 0
    · obtain ⟨-, er, ef, -⟩ := hq9 hk
      have hr9 := (w16.2.2.2.1 hk).1
      rw [← er] at hr9
      exact ⟨ok9, by rw [er]; exact LI_f0 (by decide) (by decide) (by decide) (by decide) (by decide) (by decide) hRI, by rw [er]; exact bdP_f (by decide) (by decide) (by decide) hB, by rw [ef]; exact hFI, w16.1, hr9, by rw [ef]; exact relF_cg w16.2.1 hrf⟩
    · exact LI_same hI0 ok9 (hn9 hk).2.1 (hn9 hk).2.2.2 w16.1 (w16.2.2.2.2 hk) (relF_cg w16.2.1 hrf)
  skip
  refine lv_istore (lv' := [(6, .int (iI (z17))), (5, .int (iI (z11))), (4, .int (iI (iv))), (0, .ref b), (1, .ref ho), (2, .ref hm), (3, .ref jw)]) hx hb dL_law_167 hl (by decide) rfl (fun ls hl => ?_)
  refine lv_aload_n hx hb dL_law_169 rfl (lv_at hl 5 rfl) ?_
  refine vp_callSi (va_Run.run (va_runV (As := []) (rest := []) ⟨hx, hb, hml, hown, hts⟩ (c_X3_thrown l G hm adm u15 (by assumption)) (cwV 0 hts gL_law_X3_thrown rfl rfl rfl (by decide +kernel) ⟨Nat.le_of_ble_eq_true rfl, Nat.le_of_ble_eq_true rfl⟩) (rdV (wc := MW G hm adm u15) hK hP hN [32, 33, 34, 35, 36, 37, 38, 39, 40, 41] sb_0e13f593d9 (ci := 3) rfl rfl) rfl rfl hl.1 rfl (lv_room (Nat.le_of_ble_eq_true rfl)) dL_law_170 ⟨(by rw [hcR]; omega), (by rw [hsR]; omega)⟩)) (fun q18 hq18 => ?_)
  subst hq18
  refine lv_iload hx hb dL_law_173 (lv_at hl 1 rfl) ?_
  refine mf_icmp_eq (tgt := 180) hx hb dL_law_175 (by decide) (i32_mk (by omega) (by omega)) (i32_mk (by omega) (by omega)) (fun c19 => ?_) (fun c19 => ?_)
  · skip
    refine lv_iload hx hb dL_law_180 (lv_at hl 1 rfl) ?_
    refine mf_if_ne (tgt := 197) hx hb dL_law_182 (by decide) (i32_mk (by omega) (by omega)) (fun c20 => ?_) (fun c20 => ?_)
    · skip
      refine lv_goto (tgt := 1223) hx hb dL_law_197 (by decide) ?_
      refine W.widen (k := cells + 6) (n := slots + 933) (by omega) (by omega) ?_
      exact kk x6 o7 r8 ra9 f10 u15 H locs ls hLI hP hD hS (lv_sub hl [2, 3, 4, 5, 6] rfl)
    · skip
      have hk0 : kHard y1 y2 y3 = 0 := by omega
      refine lv_aload_n hx hb dL_law_185 rfl (lv_at hl 6 rfl) ?_
      refine mf_iconst hx hb dL_law_186 ?_
      refine va_lald hx hb hK2 hP 2 2 rfl rfl (i := iI 0) (iI_in (z := 0) (by decide) (by decide) (by decide)) dL_law_187 ?_
      refine lv_iload hx hb dL_law_188 (lv_at hl 0 rfl) ?_
      refine mf_i2lw hx hb dL_law_190 ?_
      refine mf_lcmp_eq hx hb (by exact (congrArg o7 (by decide : (iI 0).toNatClampNeg = 0)).trans ((hq9 hk0).1.trans (congrArg (fun t => lI (wrI t)) (by exact (hq9 hk0).2.2.2.trans (w16.2.2.2.1 hk0).2.symm)))) dL_law_191 ?_
      refine mf_if_eq (tgt := 197) hx hb dL_law_192 (by decide) (i32_mk (by decide) (by decide)) (fun c21 => ?_) (fun c21 => ?_)
      · skip
        refine lv_goto (tgt := 1223) hx hb dL_law_197 (by decide) ?_
        refine W.widen (k := cells + 6) (n := slots + 933) (by omega) (by omega) ?_
        exact kk x6 o7 r8 ra9 f10 u15 H locs ls hLI hP hD hS (lv_sub hl [2, 3, 4, 5, 6] rfl)
      · skip
        exact absurd c21 (by omega)
  · skip
    exfalso; omega
set_option maxHeartbeats 4000000 in
set_option maxRecDepth 100000 in
theorem lc_setStones {p : Program} {l : Launch} {e : Env} {s : State} {m : MethodId} {below : List Frame} {meth : Method} {c : Code} {Q : State → Prop} {b L : Nat} {xs : Nat → Int32} {G : mf_G} {gL gK : ClassId} {A : Nat → Prop} (E : LE p l s m meth c b L xs G gL gK A) {ho pn pa pf ae jw hm : Nat} {adn ada adf adm : Nat → Nat} {x r ra f u : mf_V} {o : Nat → Int64} {Y iv : Int} {cells slots : Nat} {H : Heap} {locs : List Loc} {ls : Array Slot} (hI0 : LI Y x r ra f u) (hY : 0 ≤ Y ∧ Y + 100 ≤ 60000) (hiv : 0 ≤ iv ∧ iv + 5 ≤ L ∧ L ≤ 2560) (hcl : cells + 6 ≤ 601024 ∧ slots + 933 ≤ 7293033) (hP : va_P G.1 vwCl (OW G ho pn pa pf ae x ++ LW gL jw o ++ RW G pn adn r ++ RW G pa ada ra ++ FW G pf adf f ++ MW G hm adm u) H) (hD : va_D A (OW G ho pn pa pf ae x ++ LW gL jw o ++ RW G pn adn r ++ RW G pa ada ra ++ FW G pf adf f ++ MW G hm adm u)) (hS : va_S A s.heap H locs) (hl : lv_has ls 9 [(4, .int (iI (iv))), (0, .ref b), (1, .ref ho), (2, .ref hm), (3, .ref jw)])
    (kk : ∀ (x' : mf_V) (o' : Nat → Int64) (r' ra' f' u' : mf_V) (H : Heap) (locs : List Loc) (ls : Array Slot), LI (Y + 101) x' r' ra' f' u' → va_P G.1 vwCl (OW G ho pn pa pf ae x' ++ LW gL jw o' ++ RW G pn adn r' ++ RW G pa ada ra' ++ FW G pf adf f' ++ MW G hm adm u') H → va_D A (OW G ho pn pa pf ae x' ++ LW gL jw o' ++ RW G pn adn r' ++ RW G pa ada ra' ++ FW G pf adf f' ++ MW G hm adm u') → va_S A s.heap H locs → lv_has ls 9 [(4, .int (iI (iv))), (0, .ref b), (1, .ref ho), (2, .ref hm), (3, .ref jw)] → W p l e room_1 s m #[Value.ref b] below meth c H locs (cells + 6) (slots + 933) Q (F0 m 1223 ls [])) :
    W p l e room_1 s m #[Value.ref b] below meth c H locs cells slots Q (F0 m 200 ls []) := by
  obtain ⟨hx, hb, hr, hml, hown, hts, hXs, hbl, hl9, hK2, hN, hX, hSX, hCX, hZ, hNX, hA, hbA⟩ := E
  have hK := hK2.sub (tys' := mf_ty G) [0, 1] rfl
  obtain ⟨⟨okx, ok, okra, okf⟩, hRI, hB, hFI, oku, hrel, hrf⟩ := id hI0
  have hcR : room_1.cells = 601024 := rfl
  have hsR : room_1.slots = 7293033 := rfl
  have okLr : (0 : Int) ≤ r 7 0 ∧ r 7 0 ≤ 150 := ok 7 0
  have hlen : 2 ≤ r 7 0 := hRI.1.1
  have b46 : (0 : Int) ≤ f 4 0 ∧ f 4 0 ≤ 6 := okf 4 0
  refine lv_aload_n hx hb dL_law_200 rfl (lv_at hl 2 rfl) ?_
  refine lv_aload_n hx hb dL_law_201 rfl (lv_at hl 1 rfl) ?_
  refine lv_iload hx hb dL_law_202 (lv_at hl 0 rfl) ?_
  refine mf_iconst hx hb dL_law_204 ?_
  refine mf_iadd hx hb dL_law_205 ?_
  refine mf_sld hx hb hXs hbl hbA hS (z := iv + 1) (by omega) (by omega) (by omega) dL_law_206 ?_
  refine mf_nm (fun y1 ey1 => ?_)
  have by1 := sI_b xs (iv + 1)
  rw [← ey1] at by1
  refine lv_aload_n hx hb dL_law_207 rfl (lv_at hl 1 rfl) ?_
  refine lv_iload hx hb dL_law_208 (lv_at hl 0 rfl) ?_
  refine mf_iconst hx hb dL_law_210 ?_
  refine mf_iadd hx hb dL_law_211 ?_
  refine mf_sld hx hb hXs hbl hbA hS (z := iv + 2) (by omega) (by omega) (by omega) dL_law_212 ?_
  refine mf_nm (fun y2 ey2 => ?_)
  have by2 := sI_b xs (iv + 2)
  rw [← ey2] at by2
  refine lv_aload_n hx hb dL_law_213 rfl (lv_at hl 1 rfl) ?_
  refine lv_iload hx hb dL_law_214 (lv_at hl 0 rfl) ?_
  refine mf_iconst hx hb dL_law_216 ?_
  refine mf_iadd hx hb dL_law_217 ?_
  refine mf_sld hx hb hXs hbl hbA hS (z := iv + 3) (by omega) (by omega) (by omega) dL_law_218 ?_
  refine mf_nm (fun y3 ey3 => ?_)
  have by3 := sI_b xs (iv + 3)
  rw [← ey3] at by3
  refine mf_if_eq (tgt := 226) hx hb dL_law_219 (by decide) (i32_mk (by omega) (by omega)) (fun c4 => ?_) (fun c4 => ?_)
  · skip
    refine mf_iconst hx hb dL_law_226 ?_
    refine lv_aload_n hx hb dL_law_227 rfl (lv_at hl 4 rfl) ?_
    have hFc := va_free (wc := OW G ho pn pa pf ae x ++ LW gL jw o ++ RW G pn adn r ++ RW G pa ada ra ++ FW G pf adf f) hD hS hA [0, 1, 2, 3, 4, 5, 6, 7, 8, 9, 10, 11, 12, 13, 14, 15, 16, 17, 18, 19, 20, 21, 22, 23, 24, 25, 26, 27, 28, 29, 30, 31] sb_807262e62d
    refine vx_calli (vx_runSX (As := [.ref ho, .int (iI (y1)), .int (iI (y2)), .int (iI (0)), .ref jw]) (rest := []) ⟨hx, hb, hml, hown, hts⟩ (c_L_setStones l hl9 G gL ho pn pa pf ae x jw o adn r ada ra adf f (y1) (y2) (0) (i32_mk (by omega) (by omega)) (i32_mk (by omega) (by omega)) (i32_mk (by decide) (by decide)) (by assumption) (by assumption) (by assumption) (by assumption) (by omega) _) (vx_cwSW 5 hts gL_law_L_setStones rfl rfl rfl (by decide +kernel) ⟨Nat.le_of_ble_eq_true rfl, Nat.le_of_ble_eq_true rfl⟩) (wrSy (wc := OW G ho pn pa pf ae x ++ LW gL jw o ++ RW G pn adn r ++ RW G pa ada ra ++ FW G pf adf f) hSX hCX hZ hS hFc hNX hK2 hP hD hN [0, 1, 2, 3, 4, 5, 6, 7, 8, 9, 10, 11, 12, 13, 14, 15, 16, 17, 18, 19, 20, 21, 22, 23, 24, 25, 26, 27, 28, 29, 30, 31] (by decide +kernel) sb_a548d2217e sb_807262e62d) rfl rfl hl.1 rfl (lv_room (Nat.le_of_ble_eq_true rfl)) dL_law_228 ⟨(by rw [hcR]; omega), (by rw [hsR]; omega)⟩) hS (fun q _ h => hFc q h) hFc (fun q _ h => hFc q h) (fun E ce q9 _ t H1 locs ht hvm hpx _ _ _ _ _ _ _ => False.elim hpx) (fun q5 u6 t H1 locs ht hvm hw hB hz1 hk1 hS => ?_)
    obtain ⟨x7, o8, r9, ra10, f11⟩ := u6
    try dsimp only at hw hB
    obtain ⟨hP, hD⟩ := wrJ2 (ws := OW G ho pn pa pf ae x ++ LW gL jw o ++ RW G pn adn r ++ RW G pa ada ra ++ FW G pf adf f ++ MW G hm adm u) (wc := OW G ho pn pa pf ae x ++ LW gL jw o ++ RW G pn adn r ++ RW G pa ada ra ++ FW G pf adf f) (wr := MW G hm adm u) (w1 := OW G ho pn pa pf ae x7 ++ LW gL jw o8 ++ RW G pn adn r9 ++ RW G pa ada ra10 ++ FW G pf adf f11) hP hD [0, 1, 2, 3, 4, 5, 6, 7, 8, 9, 10, 11, 12, 13, 14, 15, 16, 17, 18, 19, 20, 21, 22, 23, 24, 25, 26, 27, 28, 29, 30, 31] [32, 33, 34, 35, 36, 37, 38, 39, 40, 41] sb_807262e62d sb_f493248143 (by decide +kernel) (by decide +kernel) hk1 ht hFc hB
    have hP : va_P G.1 vwCl (OW G ho pn pa pf ae x7 ++ LW gL jw o8 ++ RW G pn adn r9 ++ RW G pa ada ra10 ++ FW G pf adf f11 ++ MW G hm adm u) H1 := hP.sub [10, 11, 12, 13, 14, 15, 16, 17, 18, 19, 20, 21, 22, 23, 24, 25, 26, 27, 28, 29, 30, 31, 32, 33, 34, 35, 36, 37, 38, 39, 40, 41, 0, 1, 2, 3, 4, 5, 6, 7, 8, 9] sb_5e9f4be562
    have hD : va_D A (OW G ho pn pa pf ae x7 ++ LW gL jw o8 ++ RW G pn adn r9 ++ RW G pa ada ra10 ++ FW G pf adf f11 ++ MW G hm adm u) := hD.sub [10, 11, 12, 13, 14, 15, 16, 17, 18, 19, 20, 21, 22, 23, 24, 25, 26, 27, 28, 29, 30, 31, 32, 33, 34, 35, 36, 37, 38, 39, 40, 41, 0, 1, 2, 3, 4, 5, 6, 7, 8, 9] (by decide +kernel) sb_6a4c93fcc4
    clear hB hk1 hFc ht hz1 hvm
    generalize H1 = H at hP hS ⊢
    obtain ⟨z12, rfl, w13⟩ := hw
    have hz9 := w13.1
    obtain ⟨vq, hq9⟩ := mf_exI w13.2.2.1
    have hn9 := w13.2.2.2
    have ok9 := w13.2.1
    skip
    refine lv_istore (lv' := [(5, .int (iI (z12))), (4, .int (iI (iv))), (0, .ref b), (1, .ref ho), (2, .ref hm), (3, .ref jw)]) hx hb dL_law_231 hl (by decide) rfl (fun ls hl => ?_)
    refine lv_aload_n hx hb dL_law_233 rfl (lv_at hl 4 rfl) ?_
    refine lv_aload_n hx hb dL_law_234 rfl (lv_at hl 2 rfl) ?_
    refine lv_iload hx hb dL_law_235 (lv_at hl 1 rfl) ?_
    refine mf_iconst hx hb dL_law_237 ?_
    refine mf_iadd hx hb dL_law_238 ?_
    refine mf_sld hx hb hXs hbl hbA hS (z := iv + 1) (by omega) (by omega) (by omega) dL_law_239 ?_
    refine mf_top (sI xs (iv + 1)) (y1) ey1.symm ?_
    refine lv_aload_n hx hb dL_law_240 rfl (lv_at hl 2 rfl) ?_
    refine lv_iload hx hb dL_law_241 (lv_at hl 1 rfl) ?_
    refine mf_iconst hx hb dL_law_243 ?_
    refine mf_iadd hx hb dL_law_244 ?_
    refine mf_sld hx hb hXs hbl hbA hS (z := iv + 2) (by omega) (by omega) (by omega) dL_law_245 ?_
    refine mf_top (sI xs (iv + 2)) (y2) ey2.symm ?_
    refine lv_aload_n hx hb dL_law_246 rfl (lv_at hl 2 rfl) ?_
    refine lv_iload hx hb dL_law_247 (lv_at hl 1 rfl) ?_
    refine mf_iconst hx hb dL_law_249 ?_
    refine mf_iadd hx hb dL_law_250 ?_
    refine mf_sld hx hb hXs hbl hbA hS (z := iv + 3) (by omega) (by omega) (by omega) dL_law_251 ?_
    refine mf_top (sI xs (iv + 3)) (y3) ey3.symm ?_
    refine mf_if_eq (tgt := 259) hx hb dL_law_252 (by decide) (i32_mk (by omega) (by omega)) (fun c14 => ?_) (fun c14 => ?_)
    · skip
      refine mf_iconst hx hb dL_law_259 ?_
      have hFc := va_free (wc := MW G hm adm u) hD hS hA [32, 33, 34, 35, 36, 37, 38, 39, 40, 41] sb_f493248143
      refine va_calli (va_runV (As := [.int (iI (y1)), .int (iI (y2)), .int (iI (0))]) (rest := []) ⟨hx, hb, hml, hown, hts⟩ (c_X3_setStones l G hm adm u (y1) (y2) (0) (r) (i32_mk (by omega) (by omega)) (i32_mk (by omega) (by omega)) (i32_mk (by decide) (by decide)) (by assumption) (by assumption) (by exact hRI) (by exact hrel) (by omega) _) (cwV 3 hts gL_law_X3_setStones rfl rfl rfl (by decide +kernel) ⟨Nat.le_of_ble_eq_true rfl, Nat.le_of_ble_eq_true rfl⟩) (wrV (wc := MW G hm adm u) hK hP hD hN [32, 33, 34, 35, 36, 37, 38, 39, 40, 41] (by decide +kernel) sb_0e13f593d9 sb_f493248143 (ci := 3) rfl rfl) rfl rfl hl.1 rfl (lv_room (Nat.le_of_ble_eq_true rfl)) dL_law_260 ⟨(by rw [hcR]; omega), (by rw [hsR]; omega)⟩) hS (fun q _ h => hFc q h) hFc (fun q15 u16 t H1 locs ht hvm hw hB hz1 hk1 hS => ?_)
      obtain ⟨u17, rfl⟩ : ∃ z, z = u16 := ⟨_, rfl⟩
      try dsimp only at hw hB
      obtain ⟨hP, hD⟩ := wrJ2 (ws := OW G ho pn pa pf ae x7 ++ LW gL jw o8 ++ RW G pn adn r9 ++ RW G pa ada ra10 ++ FW G pf adf f11 ++ MW G hm adm u) (wc := MW G hm adm u) (wr := OW G ho pn pa pf ae x7 ++ LW gL jw o8 ++ RW G pn adn r9 ++ RW G pa ada ra10 ++ FW G pf adf f11) (w1 := MW G hm adm u17) hP hD [32, 33, 34, 35, 36, 37, 38, 39, 40, 41] [0, 1, 2, 3, 4, 5, 6, 7, 8, 9, 10, 11, 12, 13, 14, 15, 16, 17, 18, 19, 20, 21, 22, 23, 24, 25, 26, 27, 28, 29, 30, 31] sb_f493248143 sb_807262e62d (by decide +kernel) (by decide +kernel) hk1 ht hFc hB
      have hP : va_P G.1 vwCl (OW G ho pn pa pf ae x7 ++ LW gL jw o8 ++ RW G pn adn r9 ++ RW G pa ada ra10 ++ FW G pf adf f11 ++ MW G hm adm u17) H1 := hP.sub [0, 1, 2, 3, 4, 5, 6, 7, 8, 9, 10, 11, 12, 13, 14, 15, 16, 17, 18, 19, 20, 21, 22, 23, 24, 25, 26, 27, 28, 29, 30, 31, 32, 33, 34, 35, 36, 37, 38, 39, 40, 41] sb_9f762f0c91
      have hD : va_D A (OW G ho pn pa pf ae x7 ++ LW gL jw o8 ++ RW G pn adn r9 ++ RW G pa ada ra10 ++ FW G pf adf f11 ++ MW G hm adm u17) := hD.sub [0, 1, 2, 3, 4, 5, 6, 7, 8, 9, 10, 11, 12, 13, 14, 15, 16, 17, 18, 19, 20, 21, 22, 23, 24, 25, 26, 27, 28, 29, 30, 31, 32, 33, 34, 35, 36, 37, 38, 39, 40, 41] (by decide +kernel) sb_ced734b625
      have hP : va_P G.1 vwCl (OW G ho pn pa pf ae x7 ++ LW gL jw o8 ++ RW G pn adn r9 ++ RW G pa ada ra10 ++ FW G pf adf f11 ++ MW G hm adm u17) H1 := hP
      have hD : va_D A (OW G ho pn pa pf ae x7 ++ LW gL jw o8 ++ RW G pn adn r9 ++ RW G pa ada ra10 ++ FW G pf adf f11 ++ MW G hm adm u17) := hD
      clear hB hk1 hFc ht hz1 hvm
      generalize H1 = H at hP hS ⊢
      obtain ⟨z19, rfl, w18⟩ := hw
      have oku17 : rOK ulo uhi u17 := w18.1
      have hu9 : (-1 : Int) ≤ u17 0 0 ∧ u17 0 0 ≤ 9 := oku17 0 0
      have hkz := w18.2.2.1
      have hLI : LI (Y + 101) x7 r9 ra10 f11 u17 := by
        by_cases hk : kCell y1 y2 = 0
        · obtain ⟨-, er, ef, -⟩ := hq9 hk
          have hr9 := (w18.2.2.2.1 hk).1
          rw [← er] at hr9
          exact ⟨ok9, by rw [er]; exact LI_f0 (by decide) (by decide) (by decide) (by decide) (by decide) (by decide) hRI, by rw [er]; exact bdP_f (by decide) (by decide) (by decide) hB, by rw [ef]; exact hFI, w18.1, hr9, by rw [ef]; exact relF_cg w18.2.1 hrf⟩
        · exact LI_same hI0 ok9 (hn9 hk).2.1 (hn9 hk).2.2.2 w18.1 (w18.2.2.2.2 hk) (relF_cg w18.2.1 hrf)
      skip
      refine lv_istore (lv' := [(6, .int (iI (z19))), (5, .int (iI (z12))), (4, .int (iI (iv))), (0, .ref b), (1, .ref ho), (2, .ref hm), (3, .ref jw)]) hx hb dL_law_263 hl (by decide) rfl (fun ls hl => ?_)
      refine lv_aload_n hx hb dL_law_265 rfl (lv_at hl 5 rfl) ?_
      refine vp_callSi (va_Run.run (va_runV (As := []) (rest := []) ⟨hx, hb, hml, hown, hts⟩ (c_X3_thrown l G hm adm u17 (by assumption)) (cwV 0 hts gL_law_X3_thrown rfl rfl rfl (by decide +kernel) ⟨Nat.le_of_ble_eq_true rfl, Nat.le_of_ble_eq_true rfl⟩) (rdV (wc := MW G hm adm u17) hK hP hN [32, 33, 34, 35, 36, 37, 38, 39, 40, 41] sb_0e13f593d9 (ci := 3) rfl rfl) rfl rfl hl.1 rfl (lv_room (Nat.le_of_ble_eq_true rfl)) dL_law_266 ⟨(by rw [hcR]; omega), (by rw [hsR]; omega)⟩)) (fun q20 hq20 => ?_)
      subst hq20
      refine lv_iload hx hb dL_law_269 (lv_at hl 1 rfl) ?_
      refine mf_icmp_eq (tgt := 276) hx hb dL_law_271 (by decide) (i32_mk (by omega) (by omega)) (i32_mk (by omega) (by omega)) (fun c21 => ?_) (fun c21 => ?_)
      · skip
        refine lv_iload hx hb dL_law_276 (lv_at hl 1 rfl) ?_
        refine mf_if_ne (tgt := 293) hx hb dL_law_278 (by decide) (i32_mk (by omega) (by omega)) (fun c22 => ?_) (fun c22 => ?_)
        · skip
          refine lv_goto (tgt := 1223) hx hb dL_law_293 (by decide) ?_
          refine W.widen (k := cells + 6) (n := slots + 933) (by omega) (by omega) ?_
          exact kk x7 o8 r9 ra10 f11 u17 H locs ls hLI hP hD hS (lv_sub hl [2, 3, 4, 5, 6] rfl)
        · skip
          have hk0 : kCell y1 y2 = 0 := by omega
          refine lv_aload_n hx hb dL_law_281 rfl (lv_at hl 6 rfl) ?_
          refine mf_iconst hx hb dL_law_282 ?_
          refine va_lald hx hb hK2 hP 2 2 rfl rfl (i := iI 0) (iI_in (z := 0) (by decide) (by decide) (by decide)) dL_law_283 ?_
          refine lv_iload hx hb dL_law_284 (lv_at hl 0 rfl) ?_
          refine mf_i2lw hx hb dL_law_286 ?_
          refine mf_lcmp_eq hx hb (by exact (congrArg o8 (by decide : (iI 0).toNatClampNeg = 0)).trans ((hq9 hk0).1.trans (congrArg (fun t => lI (wrI t)) (by exact (hq9 hk0).2.2.2.trans (w18.2.2.2.1 hk0).2.symm)))) dL_law_287 ?_
          refine mf_if_eq (tgt := 293) hx hb dL_law_288 (by decide) (i32_mk (by decide) (by decide)) (fun c23 => ?_) (fun c23 => ?_)
          · skip
            refine lv_goto (tgt := 1223) hx hb dL_law_293 (by decide) ?_
            refine W.widen (k := cells + 6) (n := slots + 933) (by omega) (by omega) ?_
            exact kk x7 o8 r9 ra10 f11 u17 H locs ls hLI hP hD hS (lv_sub hl [2, 3, 4, 5, 6] rfl)
          · skip
            exact absurd c23 (by omega)
      · skip
        exfalso; omega
    · skip
      exact absurd c4 c14
  · skip
    refine mf_iconst hx hb dL_law_222 ?_
    refine lv_goto (tgt := 227) hx hb dL_law_223 (by decide) ?_
    refine lv_aload_n hx hb dL_law_227 rfl (lv_at hl 4 rfl) ?_
    have hFc := va_free (wc := OW G ho pn pa pf ae x ++ LW gL jw o ++ RW G pn adn r ++ RW G pa ada ra ++ FW G pf adf f) hD hS hA [0, 1, 2, 3, 4, 5, 6, 7, 8, 9, 10, 11, 12, 13, 14, 15, 16, 17, 18, 19, 20, 21, 22, 23, 24, 25, 26, 27, 28, 29, 30, 31] sb_807262e62d
    refine vx_calli (vx_runSX (As := [.ref ho, .int (iI (y1)), .int (iI (y2)), .int (iI (1)), .ref jw]) (rest := []) ⟨hx, hb, hml, hown, hts⟩ (c_L_setStones l hl9 G gL ho pn pa pf ae x jw o adn r ada ra adf f (y1) (y2) (1) (i32_mk (by omega) (by omega)) (i32_mk (by omega) (by omega)) (i32_mk (by decide) (by decide)) (by assumption) (by assumption) (by assumption) (by assumption) (by omega) _) (vx_cwSW 5 hts gL_law_L_setStones rfl rfl rfl (by decide +kernel) ⟨Nat.le_of_ble_eq_true rfl, Nat.le_of_ble_eq_true rfl⟩) (wrSy (wc := OW G ho pn pa pf ae x ++ LW gL jw o ++ RW G pn adn r ++ RW G pa ada ra ++ FW G pf adf f) hSX hCX hZ hS hFc hNX hK2 hP hD hN [0, 1, 2, 3, 4, 5, 6, 7, 8, 9, 10, 11, 12, 13, 14, 15, 16, 17, 18, 19, 20, 21, 22, 23, 24, 25, 26, 27, 28, 29, 30, 31] (by decide +kernel) sb_a548d2217e sb_807262e62d) rfl rfl hl.1 rfl (lv_room (Nat.le_of_ble_eq_true rfl)) dL_law_228 ⟨(by rw [hcR]; omega), (by rw [hsR]; omega)⟩) hS (fun q _ h => hFc q h) hFc (fun q _ h => hFc q h) (fun E ce q9 _ t H1 locs ht hvm hpx _ _ _ _ _ _ _ => False.elim hpx) (fun q24 u25 t H1 locs ht hvm hw hB hz1 hk1 hS => ?_)
    obtain ⟨x26, o27, r28, ra29, f30⟩ := u25
    try dsimp only at hw hB
    obtain ⟨hP, hD⟩ := wrJ2 (ws := OW G ho pn pa pf ae x ++ LW gL jw o ++ RW G pn adn r ++ RW G pa ada ra ++ FW G pf adf f ++ MW G hm adm u) (wc := OW G ho pn pa pf ae x ++ LW gL jw o ++ RW G pn adn r ++ RW G pa ada ra ++ FW G pf adf f) (wr := MW G hm adm u) (w1 := OW G ho pn pa pf ae x26 ++ LW gL jw o27 ++ RW G pn adn r28 ++ RW G pa ada ra29 ++ FW G pf adf f30) hP hD [0, 1, 2, 3, 4, 5, 6, 7, 8, 9, 10, 11, 12, 13, 14, 15, 16, 17, 18, 19, 20, 21, 22, 23, 24, 25, 26, 27, 28, 29, 30, 31] [32, 33, 34, 35, 36, 37, 38, 39, 40, 41] sb_807262e62d sb_f493248143 (by decide +kernel) (by decide +kernel) hk1 ht hFc hB
    have hP : va_P G.1 vwCl (OW G ho pn pa pf ae x26 ++ LW gL jw o27 ++ RW G pn adn r28 ++ RW G pa ada ra29 ++ FW G pf adf f30 ++ MW G hm adm u) H1 := hP.sub [10, 11, 12, 13, 14, 15, 16, 17, 18, 19, 20, 21, 22, 23, 24, 25, 26, 27, 28, 29, 30, 31, 32, 33, 34, 35, 36, 37, 38, 39, 40, 41, 0, 1, 2, 3, 4, 5, 6, 7, 8, 9] sb_5e9f4be562
    have hD : va_D A (OW G ho pn pa pf ae x26 ++ LW gL jw o27 ++ RW G pn adn r28 ++ RW G pa ada ra29 ++ FW G pf adf f30 ++ MW G hm adm u) := hD.sub [10, 11, 12, 13, 14, 15, 16, 17, 18, 19, 20, 21, 22, 23, 24, 25, 26, 27, 28, 29, 30, 31, 32, 33, 34, 35, 36, 37, 38, 39, 40, 41, 0, 1, 2, 3, 4, 5, 6, 7, 8, 9] (by decide +kernel) sb_6a4c93fcc4
    clear hB hk1 hFc ht hz1 hvm
    generalize H1 = H at hP hS ⊢
    obtain ⟨z31, rfl, w32⟩ := hw
    have hz9 := w32.1
    obtain ⟨vq, hq9⟩ := mf_exI w32.2.2.1
    have hn9 := w32.2.2.2
    have ok9 := w32.2.1
    skip
    refine lv_istore (lv' := [(5, .int (iI (z31))), (4, .int (iI (iv))), (0, .ref b), (1, .ref ho), (2, .ref hm), (3, .ref jw)]) hx hb dL_law_231 hl (by decide) rfl (fun ls hl => ?_)
    refine lv_aload_n hx hb dL_law_233 rfl (lv_at hl 4 rfl) ?_
    refine lv_aload_n hx hb dL_law_234 rfl (lv_at hl 2 rfl) ?_
    refine lv_iload hx hb dL_law_235 (lv_at hl 1 rfl) ?_
    refine mf_iconst hx hb dL_law_237 ?_
    refine mf_iadd hx hb dL_law_238 ?_
    refine mf_sld hx hb hXs hbl hbA hS (z := iv + 1) (by omega) (by omega) (by omega) dL_law_239 ?_
    refine mf_top (sI xs (iv + 1)) (y1) ey1.symm ?_
    refine lv_aload_n hx hb dL_law_240 rfl (lv_at hl 2 rfl) ?_
    refine lv_iload hx hb dL_law_241 (lv_at hl 1 rfl) ?_
    refine mf_iconst hx hb dL_law_243 ?_
    refine mf_iadd hx hb dL_law_244 ?_
    refine mf_sld hx hb hXs hbl hbA hS (z := iv + 2) (by omega) (by omega) (by omega) dL_law_245 ?_
    refine mf_top (sI xs (iv + 2)) (y2) ey2.symm ?_
    refine lv_aload_n hx hb dL_law_246 rfl (lv_at hl 2 rfl) ?_
    refine lv_iload hx hb dL_law_247 (lv_at hl 1 rfl) ?_
    refine mf_iconst hx hb dL_law_249 ?_
    refine mf_iadd hx hb dL_law_250 ?_
    refine mf_sld hx hb hXs hbl hbA hS (z := iv + 3) (by omega) (by omega) (by omega) dL_law_251 ?_
    refine mf_top (sI xs (iv + 3)) (y3) ey3.symm ?_
    refine mf_if_eq (tgt := 259) hx hb dL_law_252 (by decide) (i32_mk (by omega) (by omega)) (fun c33 => ?_) (fun c33 => ?_)
    · skip
      exact absurd c33 c4
    · skip
      refine mf_iconst hx hb dL_law_255 ?_
      refine lv_goto (tgt := 260) hx hb dL_law_256 (by decide) ?_
      have hFc := va_free (wc := MW G hm adm u) hD hS hA [32, 33, 34, 35, 36, 37, 38, 39, 40, 41] sb_f493248143
      refine va_calli (va_runV (As := [.int (iI (y1)), .int (iI (y2)), .int (iI (1))]) (rest := []) ⟨hx, hb, hml, hown, hts⟩ (c_X3_setStones l G hm adm u (y1) (y2) (1) (r) (i32_mk (by omega) (by omega)) (i32_mk (by omega) (by omega)) (i32_mk (by decide) (by decide)) (by assumption) (by assumption) (by exact hRI) (by exact hrel) (by omega) _) (cwV 3 hts gL_law_X3_setStones rfl rfl rfl (by decide +kernel) ⟨Nat.le_of_ble_eq_true rfl, Nat.le_of_ble_eq_true rfl⟩) (wrV (wc := MW G hm adm u) hK hP hD hN [32, 33, 34, 35, 36, 37, 38, 39, 40, 41] (by decide +kernel) sb_0e13f593d9 sb_f493248143 (ci := 3) rfl rfl) rfl rfl hl.1 rfl (lv_room (Nat.le_of_ble_eq_true rfl)) dL_law_260 ⟨(by rw [hcR]; omega), (by rw [hsR]; omega)⟩) hS (fun q _ h => hFc q h) hFc (fun q34 u35 t H1 locs ht hvm hw hB hz1 hk1 hS => ?_)
      obtain ⟨u36, rfl⟩ : ∃ z, z = u35 := ⟨_, rfl⟩
      try dsimp only at hw hB
      obtain ⟨hP, hD⟩ := wrJ2 (ws := OW G ho pn pa pf ae x26 ++ LW gL jw o27 ++ RW G pn adn r28 ++ RW G pa ada ra29 ++ FW G pf adf f30 ++ MW G hm adm u) (wc := MW G hm adm u) (wr := OW G ho pn pa pf ae x26 ++ LW gL jw o27 ++ RW G pn adn r28 ++ RW G pa ada ra29 ++ FW G pf adf f30) (w1 := MW G hm adm u36) hP hD [32, 33, 34, 35, 36, 37, 38, 39, 40, 41] [0, 1, 2, 3, 4, 5, 6, 7, 8, 9, 10, 11, 12, 13, 14, 15, 16, 17, 18, 19, 20, 21, 22, 23, 24, 25, 26, 27, 28, 29, 30, 31] sb_f493248143 sb_807262e62d (by decide +kernel) (by decide +kernel) hk1 ht hFc hB
      have hP : va_P G.1 vwCl (OW G ho pn pa pf ae x26 ++ LW gL jw o27 ++ RW G pn adn r28 ++ RW G pa ada ra29 ++ FW G pf adf f30 ++ MW G hm adm u36) H1 := hP.sub [0, 1, 2, 3, 4, 5, 6, 7, 8, 9, 10, 11, 12, 13, 14, 15, 16, 17, 18, 19, 20, 21, 22, 23, 24, 25, 26, 27, 28, 29, 30, 31, 32, 33, 34, 35, 36, 37, 38, 39, 40, 41] sb_9f762f0c91
      have hD : va_D A (OW G ho pn pa pf ae x26 ++ LW gL jw o27 ++ RW G pn adn r28 ++ RW G pa ada ra29 ++ FW G pf adf f30 ++ MW G hm adm u36) := hD.sub [0, 1, 2, 3, 4, 5, 6, 7, 8, 9, 10, 11, 12, 13, 14, 15, 16, 17, 18, 19, 20, 21, 22, 23, 24, 25, 26, 27, 28, 29, 30, 31, 32, 33, 34, 35, 36, 37, 38, 39, 40, 41] (by decide +kernel) sb_ced734b625
      have hP : va_P G.1 vwCl (OW G ho pn pa pf ae x26 ++ LW gL jw o27 ++ RW G pn adn r28 ++ RW G pa ada ra29 ++ FW G pf adf f30 ++ MW G hm adm u36) H1 := hP
      have hD : va_D A (OW G ho pn pa pf ae x26 ++ LW gL jw o27 ++ RW G pn adn r28 ++ RW G pa ada ra29 ++ FW G pf adf f30 ++ MW G hm adm u36) := hD
      clear hB hk1 hFc ht hz1 hvm
      generalize H1 = H at hP hS ⊢
      obtain ⟨z38, rfl, w37⟩ := hw
      have oku36 : rOK ulo uhi u36 := w37.1
      have hu9 : (-1 : Int) ≤ u36 0 0 ∧ u36 0 0 ≤ 9 := oku36 0 0
      have hkz := w37.2.2.1
      have hLI : LI (Y + 101) x26 r28 ra29 f30 u36 := by
        by_cases hk : kCell y1 y2 = 0
        · obtain ⟨-, er, ef, -⟩ := hq9 hk
          have hr9 := (w37.2.2.2.1 hk).1
          rw [← er] at hr9
          exact ⟨ok9, by rw [er]; exact LI_f0 (by decide) (by decide) (by decide) (by decide) (by decide) (by decide) hRI, by rw [er]; exact bdP_f (by decide) (by decide) (by decide) hB, by rw [ef]; exact hFI, w37.1, hr9, by rw [ef]; exact relF_cg w37.2.1 hrf⟩
        · exact LI_same hI0 ok9 (hn9 hk).2.1 (hn9 hk).2.2.2 w37.1 (w37.2.2.2.2 hk) (relF_cg w37.2.1 hrf)
      skip
      refine lv_istore (lv' := [(6, .int (iI (z38))), (5, .int (iI (z31))), (4, .int (iI (iv))), (0, .ref b), (1, .ref ho), (2, .ref hm), (3, .ref jw)]) hx hb dL_law_263 hl (by decide) rfl (fun ls hl => ?_)
      refine lv_aload_n hx hb dL_law_265 rfl (lv_at hl 5 rfl) ?_
      refine vp_callSi (va_Run.run (va_runV (As := []) (rest := []) ⟨hx, hb, hml, hown, hts⟩ (c_X3_thrown l G hm adm u36 (by assumption)) (cwV 0 hts gL_law_X3_thrown rfl rfl rfl (by decide +kernel) ⟨Nat.le_of_ble_eq_true rfl, Nat.le_of_ble_eq_true rfl⟩) (rdV (wc := MW G hm adm u36) hK hP hN [32, 33, 34, 35, 36, 37, 38, 39, 40, 41] sb_0e13f593d9 (ci := 3) rfl rfl) rfl rfl hl.1 rfl (lv_room (Nat.le_of_ble_eq_true rfl)) dL_law_266 ⟨(by rw [hcR]; omega), (by rw [hsR]; omega)⟩)) (fun q39 hq39 => ?_)
      subst hq39
      refine lv_iload hx hb dL_law_269 (lv_at hl 1 rfl) ?_
      refine mf_icmp_eq (tgt := 276) hx hb dL_law_271 (by decide) (i32_mk (by omega) (by omega)) (i32_mk (by omega) (by omega)) (fun c40 => ?_) (fun c40 => ?_)
      · skip
        refine lv_iload hx hb dL_law_276 (lv_at hl 1 rfl) ?_
        refine mf_if_ne (tgt := 293) hx hb dL_law_278 (by decide) (i32_mk (by omega) (by omega)) (fun c41 => ?_) (fun c41 => ?_)
        · skip
          refine lv_goto (tgt := 1223) hx hb dL_law_293 (by decide) ?_
          refine W.widen (k := cells + 6) (n := slots + 933) (by omega) (by omega) ?_
          exact kk x26 o27 r28 ra29 f30 u36 H locs ls hLI hP hD hS (lv_sub hl [2, 3, 4, 5, 6] rfl)
        · skip
          have hk0 : kCell y1 y2 = 0 := by omega
          refine lv_aload_n hx hb dL_law_281 rfl (lv_at hl 6 rfl) ?_
          refine mf_iconst hx hb dL_law_282 ?_
          refine va_lald hx hb hK2 hP 2 2 rfl rfl (i := iI 0) (iI_in (z := 0) (by decide) (by decide) (by decide)) dL_law_283 ?_
          refine lv_iload hx hb dL_law_284 (lv_at hl 0 rfl) ?_
          refine mf_i2lw hx hb dL_law_286 ?_
          refine mf_lcmp_eq hx hb (by exact (congrArg o27 (by decide : (iI 0).toNatClampNeg = 0)).trans ((hq9 hk0).1.trans (congrArg (fun t => lI (wrI t)) (by exact (hq9 hk0).2.2.2.trans (w37.2.2.2.1 hk0).2.symm)))) dL_law_287 ?_
          refine mf_if_eq (tgt := 293) hx hb dL_law_288 (by decide) (i32_mk (by decide) (by decide)) (fun c42 => ?_) (fun c42 => ?_)
          · skip
            refine lv_goto (tgt := 1223) hx hb dL_law_293 (by decide) ?_
            refine W.widen (k := cells + 6) (n := slots + 933) (by omega) (by omega) ?_
            exact kk x26 o27 r28 ra29 f30 u36 H locs ls hLI hP hD hS (lv_sub hl [2, 3, 4, 5, 6] rfl)
          · skip
            exact absurd c42 (by omega)
      · skip
        exfalso; omega
set_option maxHeartbeats 4000000 in
set_option maxRecDepth 100000 in
theorem lc_setFlow {p : Program} {l : Launch} {e : Env} {s : State} {m : MethodId} {below : List Frame} {meth : Method} {c : Code} {Q : State → Prop} {b L : Nat} {xs : Nat → Int32} {G : mf_G} {gL gK : ClassId} {A : Nat → Prop} (E : LE p l s m meth c b L xs G gL gK A) {ho pn pa pf ae jw hm : Nat} {adn ada adf adm : Nat → Nat} {x r ra f u : mf_V} {o : Nat → Int64} {Y iv : Int} {cells slots : Nat} {H : Heap} {locs : List Loc} {ls : Array Slot} (hI0 : LI Y x r ra f u) (hY : 0 ≤ Y ∧ Y + 100 ≤ 60000) (hiv : 0 ≤ iv ∧ iv + 5 ≤ L ∧ L ≤ 2560) (hcl : cells + 6 ≤ 601024 ∧ slots + 933 ≤ 7293033) (hP : va_P G.1 vwCl (OW G ho pn pa pf ae x ++ LW gL jw o ++ RW G pn adn r ++ RW G pa ada ra ++ FW G pf adf f ++ MW G hm adm u) H) (hD : va_D A (OW G ho pn pa pf ae x ++ LW gL jw o ++ RW G pn adn r ++ RW G pa ada ra ++ FW G pf adf f ++ MW G hm adm u)) (hS : va_S A s.heap H locs) (hl : lv_has ls 9 [(4, .int (iI (iv))), (0, .ref b), (1, .ref ho), (2, .ref hm), (3, .ref jw)])
    (kk : ∀ (x' : mf_V) (o' : Nat → Int64) (r' ra' f' u' : mf_V) (H : Heap) (locs : List Loc) (ls : Array Slot), LI (Y + 101) x' r' ra' f' u' → va_P G.1 vwCl (OW G ho pn pa pf ae x' ++ LW gL jw o' ++ RW G pn adn r' ++ RW G pa ada ra' ++ FW G pf adf f' ++ MW G hm adm u') H → va_D A (OW G ho pn pa pf ae x' ++ LW gL jw o' ++ RW G pn adn r' ++ RW G pa ada ra' ++ FW G pf adf f' ++ MW G hm adm u') → va_S A s.heap H locs → lv_has ls 9 [(4, .int (iI (iv))), (0, .ref b), (1, .ref ho), (2, .ref hm), (3, .ref jw)] → W p l e room_1 s m #[Value.ref b] below meth c H locs (cells + 6) (slots + 933) Q (F0 m 1223 ls [])) :
    W p l e room_1 s m #[Value.ref b] below meth c H locs cells slots Q (F0 m 296 ls []) := by
  obtain ⟨hx, hb, hr, hml, hown, hts, hXs, hbl, hl9, hK2, hN, hX, hSX, hCX, hZ, hNX, hA, hbA⟩ := E
  have hK := hK2.sub (tys' := mf_ty G) [0, 1] rfl
  obtain ⟨⟨okx, ok, okra, okf⟩, hRI, hB, hFI, oku, hrel, hrf⟩ := id hI0
  have hcR : room_1.cells = 601024 := rfl
  have hsR : room_1.slots = 7293033 := rfl
  have okLr : (0 : Int) ≤ r 7 0 ∧ r 7 0 ≤ 150 := ok 7 0
  have hlen : 2 ≤ r 7 0 := hRI.1.1
  have b46 : (0 : Int) ≤ f 4 0 ∧ f 4 0 ≤ 6 := okf 4 0
  refine lv_aload_n hx hb dL_law_296 rfl (lv_at hl 2 rfl) ?_
  refine lv_aload_n hx hb dL_law_297 rfl (lv_at hl 1 rfl) ?_
  refine lv_iload hx hb dL_law_298 (lv_at hl 0 rfl) ?_
  refine mf_iconst hx hb dL_law_300 ?_
  refine mf_iadd hx hb dL_law_301 ?_
  refine mf_sld hx hb hXs hbl hbA hS (z := iv + 1) (by omega) (by omega) (by omega) dL_law_302 ?_
  refine mf_nm (fun y1 ey1 => ?_)
  have by1 := sI_b xs (iv + 1)
  rw [← ey1] at by1
  refine lv_aload_n hx hb dL_law_303 rfl (lv_at hl 1 rfl) ?_
  refine lv_iload hx hb dL_law_304 (lv_at hl 0 rfl) ?_
  refine mf_iconst hx hb dL_law_306 ?_
  refine mf_iadd hx hb dL_law_307 ?_
  refine mf_sld hx hb hXs hbl hbA hS (z := iv + 2) (by omega) (by omega) (by omega) dL_law_308 ?_
  refine mf_nm (fun y2 ey2 => ?_)
  have by2 := sI_b xs (iv + 2)
  rw [← ey2] at by2
  refine lv_aload_n hx hb dL_law_309 rfl (lv_at hl 4 rfl) ?_
  have hFc := va_free (wc := OW G ho pn pa pf ae x ++ LW gL jw o ++ RW G pn adn r ++ RW G pa ada ra ++ FW G pf adf f) hD hS hA [0, 1, 2, 3, 4, 5, 6, 7, 8, 9, 10, 11, 12, 13, 14, 15, 16, 17, 18, 19, 20, 21, 22, 23, 24, 25, 26, 27, 28, 29, 30, 31] sb_807262e62d
  refine vx_calli (vx_runSX (As := [.ref ho, .int (iI (y1)), .int (iI (y2)), .ref jw]) (rest := []) ⟨hx, hb, hml, hown, hts⟩ (c_L_setFlow l hl9 G gL ho pn pa pf ae x jw o adn r ada ra adf f (y1) (y2) (i32_mk (by omega) (by omega)) (i32_mk (by omega) (by omega)) (by assumption) (by assumption) (by assumption) (by assumption) _) (vx_cwSW 4 hts gL_law_L_setFlow rfl rfl rfl (by decide +kernel) ⟨Nat.le_of_ble_eq_true rfl, Nat.le_of_ble_eq_true rfl⟩) (wrSy (wc := OW G ho pn pa pf ae x ++ LW gL jw o ++ RW G pn adn r ++ RW G pa ada ra ++ FW G pf adf f) hSX hCX hZ hS hFc hNX hK2 hP hD hN [0, 1, 2, 3, 4, 5, 6, 7, 8, 9, 10, 11, 12, 13, 14, 15, 16, 17, 18, 19, 20, 21, 22, 23, 24, 25, 26, 27, 28, 29, 30, 31] (by decide +kernel) sb_a548d2217e sb_807262e62d) rfl rfl hl.1 rfl (lv_room (Nat.le_of_ble_eq_true rfl)) dL_law_310 ⟨(by rw [hcR]; omega), (by rw [hsR]; omega)⟩) hS (fun q _ h => hFc q h) hFc (fun q _ h => hFc q h) (fun E ce q9 _ t H1 locs ht hvm hpx _ _ _ _ _ _ _ => False.elim hpx) (fun q3 u4 t H1 locs ht hvm hw hB hz1 hk1 hS => ?_)
  obtain ⟨x5, o6, r7, ra8, f9⟩ := u4
  try dsimp only at hw hB
  obtain ⟨hP, hD⟩ := wrJ2 (ws := OW G ho pn pa pf ae x ++ LW gL jw o ++ RW G pn adn r ++ RW G pa ada ra ++ FW G pf adf f ++ MW G hm adm u) (wc := OW G ho pn pa pf ae x ++ LW gL jw o ++ RW G pn adn r ++ RW G pa ada ra ++ FW G pf adf f) (wr := MW G hm adm u) (w1 := OW G ho pn pa pf ae x5 ++ LW gL jw o6 ++ RW G pn adn r7 ++ RW G pa ada ra8 ++ FW G pf adf f9) hP hD [0, 1, 2, 3, 4, 5, 6, 7, 8, 9, 10, 11, 12, 13, 14, 15, 16, 17, 18, 19, 20, 21, 22, 23, 24, 25, 26, 27, 28, 29, 30, 31] [32, 33, 34, 35, 36, 37, 38, 39, 40, 41] sb_807262e62d sb_f493248143 (by decide +kernel) (by decide +kernel) hk1 ht hFc hB
  have hP : va_P G.1 vwCl (OW G ho pn pa pf ae x5 ++ LW gL jw o6 ++ RW G pn adn r7 ++ RW G pa ada ra8 ++ FW G pf adf f9 ++ MW G hm adm u) H1 := hP.sub [10, 11, 12, 13, 14, 15, 16, 17, 18, 19, 20, 21, 22, 23, 24, 25, 26, 27, 28, 29, 30, 31, 32, 33, 34, 35, 36, 37, 38, 39, 40, 41, 0, 1, 2, 3, 4, 5, 6, 7, 8, 9] sb_5e9f4be562
  have hD : va_D A (OW G ho pn pa pf ae x5 ++ LW gL jw o6 ++ RW G pn adn r7 ++ RW G pa ada ra8 ++ FW G pf adf f9 ++ MW G hm adm u) := hD.sub [10, 11, 12, 13, 14, 15, 16, 17, 18, 19, 20, 21, 22, 23, 24, 25, 26, 27, 28, 29, 30, 31, 32, 33, 34, 35, 36, 37, 38, 39, 40, 41, 0, 1, 2, 3, 4, 5, 6, 7, 8, 9] (by decide +kernel) sb_6a4c93fcc4
  clear hB hk1 hFc ht hz1 hvm
  generalize H1 = H at hP hS ⊢
  obtain ⟨z10, rfl, w11⟩ := hw
  have hz9 := w11.1
  obtain ⟨vq, hq9⟩ := mf_exI w11.2.2.1
  have hn9 := w11.2.2.2
  have ok9 := w11.2.1
  skip
  refine lv_istore (lv' := [(5, .int (iI (z10))), (4, .int (iI (iv))), (0, .ref b), (1, .ref ho), (2, .ref hm), (3, .ref jw)]) hx hb dL_law_313 hl (by decide) rfl (fun ls hl => ?_)
  refine lv_aload_n hx hb dL_law_315 rfl (lv_at hl 4 rfl) ?_
  refine lv_aload_n hx hb dL_law_316 rfl (lv_at hl 2 rfl) ?_
  refine lv_iload hx hb dL_law_317 (lv_at hl 1 rfl) ?_
  refine mf_iconst hx hb dL_law_319 ?_
  refine mf_iadd hx hb dL_law_320 ?_
  refine mf_sld hx hb hXs hbl hbA hS (z := iv + 1) (by omega) (by omega) (by omega) dL_law_321 ?_
  refine mf_top (sI xs (iv + 1)) (y1) ey1.symm ?_
  refine lv_aload_n hx hb dL_law_322 rfl (lv_at hl 2 rfl) ?_
  refine lv_iload hx hb dL_law_323 (lv_at hl 1 rfl) ?_
  refine mf_iconst hx hb dL_law_325 ?_
  refine mf_iadd hx hb dL_law_326 ?_
  refine mf_sld hx hb hXs hbl hbA hS (z := iv + 2) (by omega) (by omega) (by omega) dL_law_327 ?_
  refine mf_top (sI xs (iv + 2)) (y2) ey2.symm ?_
  have hFc := va_free (wc := MW G hm adm u) hD hS hA [32, 33, 34, 35, 36, 37, 38, 39, 40, 41] sb_f493248143
  refine va_calli (va_runV (As := [.int (iI (y1)), .int (iI (y2))]) (rest := []) ⟨hx, hb, hml, hown, hts⟩ (c_X3_setFlow l G hm adm u (y1) (y2) (r) (i32_mk (by omega) (by omega)) (i32_mk (by omega) (by omega)) (by assumption) (by assumption) (by exact hRI) (by exact hrel) _) (cwV 2 hts gL_law_X3_setFlow rfl rfl rfl (by decide +kernel) ⟨Nat.le_of_ble_eq_true rfl, Nat.le_of_ble_eq_true rfl⟩) (wrV (wc := MW G hm adm u) hK hP hD hN [32, 33, 34, 35, 36, 37, 38, 39, 40, 41] (by decide +kernel) sb_0e13f593d9 sb_f493248143 (ci := 3) rfl rfl) rfl rfl hl.1 rfl (lv_room (Nat.le_of_ble_eq_true rfl)) dL_law_328 ⟨(by rw [hcR]; omega), (by rw [hsR]; omega)⟩) hS (fun q _ h => hFc q h) hFc (fun q12 u13 t H1 locs ht hvm hw hB hz1 hk1 hS => ?_)
  obtain ⟨u14, rfl⟩ : ∃ z, z = u13 := ⟨_, rfl⟩
  try dsimp only at hw hB
  obtain ⟨hP, hD⟩ := wrJ2 (ws := OW G ho pn pa pf ae x5 ++ LW gL jw o6 ++ RW G pn adn r7 ++ RW G pa ada ra8 ++ FW G pf adf f9 ++ MW G hm adm u) (wc := MW G hm adm u) (wr := OW G ho pn pa pf ae x5 ++ LW gL jw o6 ++ RW G pn adn r7 ++ RW G pa ada ra8 ++ FW G pf adf f9) (w1 := MW G hm adm u14) hP hD [32, 33, 34, 35, 36, 37, 38, 39, 40, 41] [0, 1, 2, 3, 4, 5, 6, 7, 8, 9, 10, 11, 12, 13, 14, 15, 16, 17, 18, 19, 20, 21, 22, 23, 24, 25, 26, 27, 28, 29, 30, 31] sb_f493248143 sb_807262e62d (by decide +kernel) (by decide +kernel) hk1 ht hFc hB
  have hP : va_P G.1 vwCl (OW G ho pn pa pf ae x5 ++ LW gL jw o6 ++ RW G pn adn r7 ++ RW G pa ada ra8 ++ FW G pf adf f9 ++ MW G hm adm u14) H1 := hP.sub [0, 1, 2, 3, 4, 5, 6, 7, 8, 9, 10, 11, 12, 13, 14, 15, 16, 17, 18, 19, 20, 21, 22, 23, 24, 25, 26, 27, 28, 29, 30, 31, 32, 33, 34, 35, 36, 37, 38, 39, 40, 41] sb_9f762f0c91
  have hD : va_D A (OW G ho pn pa pf ae x5 ++ LW gL jw o6 ++ RW G pn adn r7 ++ RW G pa ada ra8 ++ FW G pf adf f9 ++ MW G hm adm u14) := hD.sub [0, 1, 2, 3, 4, 5, 6, 7, 8, 9, 10, 11, 12, 13, 14, 15, 16, 17, 18, 19, 20, 21, 22, 23, 24, 25, 26, 27, 28, 29, 30, 31, 32, 33, 34, 35, 36, 37, 38, 39, 40, 41] (by decide +kernel) sb_ced734b625
  have hP : va_P G.1 vwCl (OW G ho pn pa pf ae x5 ++ LW gL jw o6 ++ RW G pn adn r7 ++ RW G pa ada ra8 ++ FW G pf adf f9 ++ MW G hm adm u14) H1 := hP
  have hD : va_D A (OW G ho pn pa pf ae x5 ++ LW gL jw o6 ++ RW G pn adn r7 ++ RW G pa ada ra8 ++ FW G pf adf f9 ++ MW G hm adm u14) := hD
  clear hB hk1 hFc ht hz1 hvm
  generalize H1 = H at hP hS ⊢
  obtain ⟨z16, rfl, w15⟩ := hw
  have oku14 : rOK ulo uhi u14 := w15.1
  have hu9 : (-1 : Int) ≤ u14 0 0 ∧ u14 0 0 ≤ 9 := oku14 0 0
  have hkz := w15.2.2.1
  have hLI : LI (Y + 101) x5 r7 ra8 f9 u14 := by
    by_cases hk : kFlow y1 y2 = 0
    · obtain ⟨-, er, ef, -⟩ := hq9 hk
      have hr9 := (w15.2.2.2.1 hk).1
      rw [← er] at hr9
      exact ⟨ok9, by rw [er]; exact LI_f0 (by decide) (by decide) (by decide) (by decide) (by decide) (by decide) hRI, by rw [er]; exact bdP_f (by decide) (by decide) (by decide) hB, by rw [ef]; exact hFI, w15.1, hr9, by rw [ef]; exact relF_cg w15.2.1 hrf⟩
    · exact LI_same hI0 ok9 (hn9 hk).2.1 (hn9 hk).2.2.2 w15.1 (w15.2.2.2.2 hk) (relF_cg w15.2.1 hrf)
  skip
  refine lv_istore (lv' := [(6, .int (iI (z16))), (5, .int (iI (z10))), (4, .int (iI (iv))), (0, .ref b), (1, .ref ho), (2, .ref hm), (3, .ref jw)]) hx hb dL_law_331 hl (by decide) rfl (fun ls hl => ?_)
  refine lv_aload_n hx hb dL_law_333 rfl (lv_at hl 5 rfl) ?_
  refine vp_callSi (va_Run.run (va_runV (As := []) (rest := []) ⟨hx, hb, hml, hown, hts⟩ (c_X3_thrown l G hm adm u14 (by assumption)) (cwV 0 hts gL_law_X3_thrown rfl rfl rfl (by decide +kernel) ⟨Nat.le_of_ble_eq_true rfl, Nat.le_of_ble_eq_true rfl⟩) (rdV (wc := MW G hm adm u14) hK hP hN [32, 33, 34, 35, 36, 37, 38, 39, 40, 41] sb_0e13f593d9 (ci := 3) rfl rfl) rfl rfl hl.1 rfl (lv_room (Nat.le_of_ble_eq_true rfl)) dL_law_334 ⟨(by rw [hcR]; omega), (by rw [hsR]; omega)⟩)) (fun q17 hq17 => ?_)
  subst hq17
  refine lv_iload hx hb dL_law_337 (lv_at hl 1 rfl) ?_
  refine mf_icmp_eq (tgt := 344) hx hb dL_law_339 (by decide) (i32_mk (by omega) (by omega)) (i32_mk (by omega) (by omega)) (fun c18 => ?_) (fun c18 => ?_)
  · skip
    refine lv_iload hx hb dL_law_344 (lv_at hl 1 rfl) ?_
    refine mf_if_ne (tgt := 361) hx hb dL_law_346 (by decide) (i32_mk (by omega) (by omega)) (fun c19 => ?_) (fun c19 => ?_)
    · skip
      refine lv_goto (tgt := 1223) hx hb dL_law_361 (by decide) ?_
      refine W.widen (k := cells + 6) (n := slots + 933) (by omega) (by omega) ?_
      exact kk x5 o6 r7 ra8 f9 u14 H locs ls hLI hP hD hS (lv_sub hl [2, 3, 4, 5, 6] rfl)
    · skip
      have hk0 : kFlow y1 y2 = 0 := by omega
      refine lv_aload_n hx hb dL_law_349 rfl (lv_at hl 6 rfl) ?_
      refine mf_iconst hx hb dL_law_350 ?_
      refine va_lald hx hb hK2 hP 2 2 rfl rfl (i := iI 0) (iI_in (z := 0) (by decide) (by decide) (by decide)) dL_law_351 ?_
      refine lv_iload hx hb dL_law_352 (lv_at hl 0 rfl) ?_
      refine mf_i2lw hx hb dL_law_354 ?_
      refine mf_lcmp_eq hx hb (by exact (congrArg o6 (by decide : (iI 0).toNatClampNeg = 0)).trans ((hq9 hk0).1.trans (congrArg (fun t => lI (wrI t)) (by exact (hq9 hk0).2.2.2.trans (w15.2.2.2.1 hk0).2.symm)))) dL_law_355 ?_
      refine mf_if_eq (tgt := 361) hx hb dL_law_356 (by decide) (i32_mk (by decide) (by decide)) (fun c20 => ?_) (fun c20 => ?_)
      · skip
        refine lv_goto (tgt := 1223) hx hb dL_law_361 (by decide) ?_
        refine W.widen (k := cells + 6) (n := slots + 933) (by omega) (by omega) ?_
        exact kk x5 o6 r7 ra8 f9 u14 H locs ls hLI hP hD hS (lv_sub hl [2, 3, 4, 5, 6] rfl)
      · skip
        exact absurd c20 (by omega)
  · skip
    exfalso; omega
set_option maxHeartbeats 4000000 in
set_option maxRecDepth 100000 in
theorem lc_cell {p : Program} {l : Launch} {e : Env} {s : State} {m : MethodId} {below : List Frame} {meth : Method} {c : Code} {Q : State → Prop} {b L : Nat} {xs : Nat → Int32} {G : mf_G} {gL gK : ClassId} {A : Nat → Prop} (E : LE p l s m meth c b L xs G gL gK A) {ho pn pa pf ae jw hm : Nat} {adn ada adf adm : Nat → Nat} {x r ra f u : mf_V} {o : Nat → Int64} {Y iv : Int} {cells slots : Nat} {H : Heap} {locs : List Loc} {ls : Array Slot} (hI0 : LI Y x r ra f u) (hY : 0 ≤ Y ∧ Y + 100 ≤ 60000) (hiv : 0 ≤ iv ∧ iv + 5 ≤ L ∧ L ≤ 2560) (hcl : cells + 6 ≤ 601024 ∧ slots + 933 ≤ 7293033) (hP : va_P G.1 vwCl (OW G ho pn pa pf ae x ++ LW gL jw o ++ RW G pn adn r ++ RW G pa ada ra ++ FW G pf adf f ++ MW G hm adm u) H) (hD : va_D A (OW G ho pn pa pf ae x ++ LW gL jw o ++ RW G pn adn r ++ RW G pa ada ra ++ FW G pf adf f ++ MW G hm adm u)) (hS : va_S A s.heap H locs) (hl : lv_has ls 9 [(4, .int (iI (iv))), (0, .ref b), (1, .ref ho), (2, .ref hm), (3, .ref jw)])
    (kk : ∀ (x' : mf_V) (o' : Nat → Int64) (r' ra' f' u' : mf_V) (H : Heap) (locs : List Loc) (ls : Array Slot), LI (Y + 101) x' r' ra' f' u' → va_P G.1 vwCl (OW G ho pn pa pf ae x' ++ LW gL jw o' ++ RW G pn adn r' ++ RW G pa ada ra' ++ FW G pf adf f' ++ MW G hm adm u') H → va_D A (OW G ho pn pa pf ae x' ++ LW gL jw o' ++ RW G pn adn r' ++ RW G pa ada ra' ++ FW G pf adf f' ++ MW G hm adm u') → va_S A s.heap H locs → lv_has ls 9 [(4, .int (iI (iv))), (0, .ref b), (1, .ref ho), (2, .ref hm), (3, .ref jw)] → W p l e room_1 s m #[Value.ref b] below meth c H locs (cells + 6) (slots + 933) Q (F0 m 1223 ls [])) :
    W p l e room_1 s m #[Value.ref b] below meth c H locs cells slots Q (F0 m 364 ls []) := by
  obtain ⟨hx, hb, hr, hml, hown, hts, hXs, hbl, hl9, hK2, hN, hX, hSX, hCX, hZ, hNX, hA, hbA⟩ := E
  have hK := hK2.sub (tys' := mf_ty G) [0, 1] rfl
  obtain ⟨⟨okx, ok, okra, okf⟩, hRI, hB, hFI, oku, hrel, hrf⟩ := id hI0
  have hcR : room_1.cells = 601024 := rfl
  have hsR : room_1.slots = 7293033 := rfl
  have okLr : (0 : Int) ≤ r 7 0 ∧ r 7 0 ≤ 150 := ok 7 0
  have hlen : 2 ≤ r 7 0 := hRI.1.1
  have b46 : (0 : Int) ≤ f 4 0 ∧ f 4 0 ≤ 6 := okf 4 0
  refine lv_aload_n hx hb dL_law_364 rfl (lv_at hl 2 rfl) ?_
  refine lv_aload_n hx hb dL_law_365 rfl (lv_at hl 1 rfl) ?_
  refine lv_iload hx hb dL_law_366 (lv_at hl 0 rfl) ?_
  refine mf_iconst hx hb dL_law_368 ?_
  refine mf_iadd hx hb dL_law_369 ?_
  refine mf_sld hx hb hXs hbl hbA hS (z := iv + 1) (by omega) (by omega) (by omega) dL_law_370 ?_
  refine mf_nm (fun y1 ey1 => ?_)
  have by1 := sI_b xs (iv + 1)
  rw [← ey1] at by1
  refine lv_aload_n hx hb dL_law_371 rfl (lv_at hl 1 rfl) ?_
  refine lv_iload hx hb dL_law_372 (lv_at hl 0 rfl) ?_
  refine mf_iconst hx hb dL_law_374 ?_
  refine mf_iadd hx hb dL_law_375 ?_
  refine mf_sld hx hb hXs hbl hbA hS (z := iv + 2) (by omega) (by omega) (by omega) dL_law_376 ?_
  refine mf_nm (fun y2 ey2 => ?_)
  have by2 := sI_b xs (iv + 2)
  rw [← ey2] at by2
  refine lv_aload_n hx hb dL_law_377 rfl (lv_at hl 1 rfl) ?_
  refine lv_iload hx hb dL_law_378 (lv_at hl 0 rfl) ?_
  refine mf_iconst hx hb dL_law_380 ?_
  refine mf_iadd hx hb dL_law_381 ?_
  refine mf_sld hx hb hXs hbl hbA hS (z := iv + 3) (by omega) (by omega) (by omega) dL_law_382 ?_
  refine mf_nm (fun y3 ey3 => ?_)
  have by3 := sI_b xs (iv + 3)
  rw [← ey3] at by3
  refine lv_aload_n hx hb dL_law_383 rfl (lv_at hl 4 rfl) ?_
  have hFc := va_free (wc := OW G ho pn pa pf ae x ++ LW gL jw o ++ RW G pn adn r ++ RW G pa ada ra ++ FW G pf adf f) hD hS hA [0, 1, 2, 3, 4, 5, 6, 7, 8, 9, 10, 11, 12, 13, 14, 15, 16, 17, 18, 19, 20, 21, 22, 23, 24, 25, 26, 27, 28, 29, 30, 31] sb_807262e62d
  refine vx_calli (vx_runSX (As := [.ref ho, .int (iI (y1)), .int (iI (y2)), .int (iI (y3)), .ref jw]) (rest := []) ⟨hx, hb, hml, hown, hts⟩ (c_L_cell l hl9 G gL ho pn pa pf ae x jw o adn r ada ra adf f (y1) (y2) (y3) (i32_mk (by omega) (by omega)) (i32_mk (by omega) (by omega)) (i32_mk (by omega) (by omega)) (by assumption) (by assumption) (by assumption) (by assumption) _) (vx_cwSW 5 hts gL_law_L_cell rfl rfl rfl (by decide +kernel) ⟨Nat.le_of_ble_eq_true rfl, Nat.le_of_ble_eq_true rfl⟩) (wrSy (wc := OW G ho pn pa pf ae x ++ LW gL jw o ++ RW G pn adn r ++ RW G pa ada ra ++ FW G pf adf f) hSX hCX hZ hS hFc hNX hK2 hP hD hN [0, 1, 2, 3, 4, 5, 6, 7, 8, 9, 10, 11, 12, 13, 14, 15, 16, 17, 18, 19, 20, 21, 22, 23, 24, 25, 26, 27, 28, 29, 30, 31] (by decide +kernel) sb_a548d2217e sb_807262e62d) rfl rfl hl.1 rfl (lv_room (Nat.le_of_ble_eq_true rfl)) dL_law_384 ⟨(by rw [hcR]; omega), (by rw [hsR]; omega)⟩) hS (fun q _ h => hFc q h) hFc (fun q _ h => hFc q h) (fun E ce q9 _ t H1 locs ht hvm hpx _ _ _ _ _ _ _ => False.elim hpx) (fun q4 u5 t H1 locs ht hvm hw hB hz1 hk1 hS => ?_)
  obtain ⟨x6, o7, r8, ra9, f10⟩ := u5
  try dsimp only at hw hB
  obtain ⟨hP, hD⟩ := wrJ2 (ws := OW G ho pn pa pf ae x ++ LW gL jw o ++ RW G pn adn r ++ RW G pa ada ra ++ FW G pf adf f ++ MW G hm adm u) (wc := OW G ho pn pa pf ae x ++ LW gL jw o ++ RW G pn adn r ++ RW G pa ada ra ++ FW G pf adf f) (wr := MW G hm adm u) (w1 := OW G ho pn pa pf ae x6 ++ LW gL jw o7 ++ RW G pn adn r8 ++ RW G pa ada ra9 ++ FW G pf adf f10) hP hD [0, 1, 2, 3, 4, 5, 6, 7, 8, 9, 10, 11, 12, 13, 14, 15, 16, 17, 18, 19, 20, 21, 22, 23, 24, 25, 26, 27, 28, 29, 30, 31] [32, 33, 34, 35, 36, 37, 38, 39, 40, 41] sb_807262e62d sb_f493248143 (by decide +kernel) (by decide +kernel) hk1 ht hFc hB
  have hP : va_P G.1 vwCl (OW G ho pn pa pf ae x6 ++ LW gL jw o7 ++ RW G pn adn r8 ++ RW G pa ada ra9 ++ FW G pf adf f10 ++ MW G hm adm u) H1 := hP.sub [10, 11, 12, 13, 14, 15, 16, 17, 18, 19, 20, 21, 22, 23, 24, 25, 26, 27, 28, 29, 30, 31, 32, 33, 34, 35, 36, 37, 38, 39, 40, 41, 0, 1, 2, 3, 4, 5, 6, 7, 8, 9] sb_5e9f4be562
  have hD : va_D A (OW G ho pn pa pf ae x6 ++ LW gL jw o7 ++ RW G pn adn r8 ++ RW G pa ada ra9 ++ FW G pf adf f10 ++ MW G hm adm u) := hD.sub [10, 11, 12, 13, 14, 15, 16, 17, 18, 19, 20, 21, 22, 23, 24, 25, 26, 27, 28, 29, 30, 31, 32, 33, 34, 35, 36, 37, 38, 39, 40, 41, 0, 1, 2, 3, 4, 5, 6, 7, 8, 9] (by decide +kernel) sb_6a4c93fcc4
  clear hB hk1 hFc ht hz1 hvm
  generalize H1 = H at hP hS ⊢
  obtain ⟨z11, rfl, w12⟩ := hw
  have hz9 := w12.1
  obtain ⟨vq, hq9⟩ := mf_exI w12.2.2.1
  have hn9 := w12.2.2.2
  have ok9 := w12.2.1
  skip
  refine lv_istore (lv' := [(5, .int (iI (z11))), (4, .int (iI (iv))), (0, .ref b), (1, .ref ho), (2, .ref hm), (3, .ref jw)]) hx hb dL_law_387 hl (by decide) rfl (fun ls hl => ?_)
  refine lv_aload_n hx hb dL_law_389 rfl (lv_at hl 4 rfl) ?_
  refine lv_aload_n hx hb dL_law_390 rfl (lv_at hl 2 rfl) ?_
  refine lv_iload hx hb dL_law_391 (lv_at hl 1 rfl) ?_
  refine mf_iconst hx hb dL_law_393 ?_
  refine mf_iadd hx hb dL_law_394 ?_
  refine mf_sld hx hb hXs hbl hbA hS (z := iv + 1) (by omega) (by omega) (by omega) dL_law_395 ?_
  refine mf_top (sI xs (iv + 1)) (y1) ey1.symm ?_
  refine lv_aload_n hx hb dL_law_396 rfl (lv_at hl 2 rfl) ?_
  refine lv_iload hx hb dL_law_397 (lv_at hl 1 rfl) ?_
  refine mf_iconst hx hb dL_law_399 ?_
  refine mf_iadd hx hb dL_law_400 ?_
  refine mf_sld hx hb hXs hbl hbA hS (z := iv + 2) (by omega) (by omega) (by omega) dL_law_401 ?_
  refine mf_top (sI xs (iv + 2)) (y2) ey2.symm ?_
  refine lv_aload_n hx hb dL_law_402 rfl (lv_at hl 2 rfl) ?_
  refine lv_iload hx hb dL_law_403 (lv_at hl 1 rfl) ?_
  refine mf_iconst hx hb dL_law_405 ?_
  refine mf_iadd hx hb dL_law_406 ?_
  refine mf_sld hx hb hXs hbl hbA hS (z := iv + 3) (by omega) (by omega) (by omega) dL_law_407 ?_
  refine mf_top (sI xs (iv + 3)) (y3) ey3.symm ?_
  have hFc := va_free (wc := MW G hm adm u) hD hS hA [32, 33, 34, 35, 36, 37, 38, 39, 40, 41] sb_f493248143
  refine va_calli (va_runV (As := [.int (iI (y1)), .int (iI (y2)), .int (iI (y3))]) (rest := []) ⟨hx, hb, hml, hown, hts⟩ (c_X3_cell l G hm adm u (y1) (y2) (y3) (r) (f) (i32_mk (by omega) (by omega)) (i32_mk (by omega) (by omega)) (i32_mk (by omega) (by omega)) (by assumption) (by assumption) (by exact hRI) (by exact hrel) (by assumption) (by exact hrf) (by exact hFI) _) (cwV 3 hts gL_law_X3_cell rfl rfl rfl (by decide +kernel) ⟨Nat.le_of_ble_eq_true rfl, Nat.le_of_ble_eq_true rfl⟩) (wrV (wc := MW G hm adm u) hK hP hD hN [32, 33, 34, 35, 36, 37, 38, 39, 40, 41] (by decide +kernel) sb_0e13f593d9 sb_f493248143 (ci := 3) rfl rfl) rfl rfl hl.1 rfl (lv_room (Nat.le_of_ble_eq_true rfl)) dL_law_408 ⟨(by rw [hcR]; omega), (by rw [hsR]; omega)⟩) hS (fun q _ h => hFc q h) hFc (fun q13 u14 t H1 locs ht hvm hw hB hz1 hk1 hS => ?_)
  obtain ⟨u15, rfl⟩ : ∃ z, z = u14 := ⟨_, rfl⟩
  try dsimp only at hw hB
  obtain ⟨hP, hD⟩ := wrJ2 (ws := OW G ho pn pa pf ae x6 ++ LW gL jw o7 ++ RW G pn adn r8 ++ RW G pa ada ra9 ++ FW G pf adf f10 ++ MW G hm adm u) (wc := MW G hm adm u) (wr := OW G ho pn pa pf ae x6 ++ LW gL jw o7 ++ RW G pn adn r8 ++ RW G pa ada ra9 ++ FW G pf adf f10) (w1 := MW G hm adm u15) hP hD [32, 33, 34, 35, 36, 37, 38, 39, 40, 41] [0, 1, 2, 3, 4, 5, 6, 7, 8, 9, 10, 11, 12, 13, 14, 15, 16, 17, 18, 19, 20, 21, 22, 23, 24, 25, 26, 27, 28, 29, 30, 31] sb_f493248143 sb_807262e62d (by decide +kernel) (by decide +kernel) hk1 ht hFc hB
  have hP : va_P G.1 vwCl (OW G ho pn pa pf ae x6 ++ LW gL jw o7 ++ RW G pn adn r8 ++ RW G pa ada ra9 ++ FW G pf adf f10 ++ MW G hm adm u15) H1 := hP.sub [0, 1, 2, 3, 4, 5, 6, 7, 8, 9, 10, 11, 12, 13, 14, 15, 16, 17, 18, 19, 20, 21, 22, 23, 24, 25, 26, 27, 28, 29, 30, 31, 32, 33, 34, 35, 36, 37, 38, 39, 40, 41] sb_9f762f0c91
  have hD : va_D A (OW G ho pn pa pf ae x6 ++ LW gL jw o7 ++ RW G pn adn r8 ++ RW G pa ada ra9 ++ FW G pf adf f10 ++ MW G hm adm u15) := hD.sub [0, 1, 2, 3, 4, 5, 6, 7, 8, 9, 10, 11, 12, 13, 14, 15, 16, 17, 18, 19, 20, 21, 22, 23, 24, 25, 26, 27, 28, 29, 30, 31, 32, 33, 34, 35, 36, 37, 38, 39, 40, 41] (by decide +kernel) sb_ced734b625
  have hP : va_P G.1 vwCl (OW G ho pn pa pf ae x6 ++ LW gL jw o7 ++ RW G pn adn r8 ++ RW G pa ada ra9 ++ FW G pf adf f10 ++ MW G hm adm u15) H1 := hP
  have hD : va_D A (OW G ho pn pa pf ae x6 ++ LW gL jw o7 ++ RW G pn adn r8 ++ RW G pa ada ra9 ++ FW G pf adf f10 ++ MW G hm adm u15) := hD
  clear hB hk1 hFc ht hz1 hvm
  generalize H1 = H at hP hS ⊢
  obtain ⟨z17, rfl, w16⟩ := hw
  have oku15 : rOK ulo uhi u15 := w16.1
  have hu9 : (-1 : Int) ≤ u15 0 0 ∧ u15 0 0 ≤ 9 := oku15 0 0
  have hkz := w16.2.2.1
  have hLI : LI (Y + 101) x6 r8 ra9 f10 u15 := by
    by_cases hk : kCell2 y1 y2 y3 = 0
    · exact LI_same hI0 ok9 (hq9 hk).2.1 (hq9 hk).2.2.1 w16.1 (w16.2.2.2.1 hk).1 (relF_cg w16.2.1 hrf)
    · exact LI_same hI0 ok9 (hn9 hk).2.1 (hn9 hk).2.2.2 w16.1 (w16.2.2.2.2 hk) (relF_cg w16.2.1 hrf)
  skip
  refine lv_istore (lv' := [(6, .int (iI (z17))), (5, .int (iI (z11))), (4, .int (iI (iv))), (0, .ref b), (1, .ref ho), (2, .ref hm), (3, .ref jw)]) hx hb dL_law_411 hl (by decide) rfl (fun ls hl => ?_)
  refine lv_aload_n hx hb dL_law_413 rfl (lv_at hl 5 rfl) ?_
  refine vp_callSi (va_Run.run (va_runV (As := []) (rest := []) ⟨hx, hb, hml, hown, hts⟩ (c_X3_thrown l G hm adm u15 (by assumption)) (cwV 0 hts gL_law_X3_thrown rfl rfl rfl (by decide +kernel) ⟨Nat.le_of_ble_eq_true rfl, Nat.le_of_ble_eq_true rfl⟩) (rdV (wc := MW G hm adm u15) hK hP hN [32, 33, 34, 35, 36, 37, 38, 39, 40, 41] sb_0e13f593d9 (ci := 3) rfl rfl) rfl rfl hl.1 rfl (lv_room (Nat.le_of_ble_eq_true rfl)) dL_law_414 ⟨(by rw [hcR]; omega), (by rw [hsR]; omega)⟩)) (fun q18 hq18 => ?_)
  subst hq18
  refine lv_iload hx hb dL_law_417 (lv_at hl 1 rfl) ?_
  refine mf_icmp_eq (tgt := 424) hx hb dL_law_419 (by decide) (i32_mk (by omega) (by omega)) (i32_mk (by omega) (by omega)) (fun c19 => ?_) (fun c19 => ?_)
  · skip
    refine lv_iload hx hb dL_law_424 (lv_at hl 1 rfl) ?_
    refine mf_if_ne (tgt := 441) hx hb dL_law_426 (by decide) (i32_mk (by omega) (by omega)) (fun c20 => ?_) (fun c20 => ?_)
    · skip
      refine lv_goto (tgt := 1223) hx hb dL_law_441 (by decide) ?_
      refine W.widen (k := cells + 6) (n := slots + 933) (by omega) (by omega) ?_
      exact kk x6 o7 r8 ra9 f10 u15 H locs ls hLI hP hD hS (lv_sub hl [2, 3, 4, 5, 6] rfl)
    · skip
      have hk0 : kCell2 y1 y2 y3 = 0 := by omega
      refine lv_aload_n hx hb dL_law_429 rfl (lv_at hl 6 rfl) ?_
      refine mf_iconst hx hb dL_law_430 ?_
      refine va_lald hx hb hK2 hP 2 2 rfl rfl (i := iI 0) (iI_in (z := 0) (by decide) (by decide) (by decide)) dL_law_431 ?_
      refine lv_iload hx hb dL_law_432 (lv_at hl 0 rfl) ?_
      refine mf_i2lw hx hb dL_law_434 ?_
      refine mf_lcmp_eq hx hb (by exact (congrArg o7 (by decide : (iI 0).toNatClampNeg = 0)).trans ((hq9 hk0).1.trans (congrArg (fun t => lI (wrI t)) (by exact (hq9 hk0).2.2.2.trans (w16.2.2.2.1 hk0).2.symm)))) dL_law_435 ?_
      refine mf_if_eq (tgt := 441) hx hb dL_law_436 (by decide) (i32_mk (by decide) (by decide)) (fun c21 => ?_) (fun c21 => ?_)
      · skip
        refine lv_goto (tgt := 1223) hx hb dL_law_441 (by decide) ?_
        refine W.widen (k := cells + 6) (n := slots + 933) (by omega) (by omega) ?_
        exact kk x6 o7 r8 ra9 f10 u15 H locs ls hLI hP hD hS (lv_sub hl [2, 3, 4, 5, 6] rfl)
      · skip
        exact absurd c21 (by omega)
  · skip
    exfalso; omega
set_option maxHeartbeats 4000000 in
set_option maxRecDepth 100000 in
theorem lc_course {p : Program} {l : Launch} {e : Env} {s : State} {m : MethodId} {below : List Frame} {meth : Method} {c : Code} {Q : State → Prop} {b L : Nat} {xs : Nat → Int32} {G : mf_G} {gL gK : ClassId} {A : Nat → Prop} (E : LE p l s m meth c b L xs G gL gK A) {ho pn pa pf ae jw hm : Nat} {adn ada adf adm : Nat → Nat} {x r ra f u : mf_V} {o : Nat → Int64} {Y iv : Int} {cells slots : Nat} {H : Heap} {locs : List Loc} {ls : Array Slot} (hI0 : LI Y x r ra f u) (hY : 0 ≤ Y ∧ Y + 100 ≤ 60000) (hiv : 0 ≤ iv ∧ iv + 5 ≤ L ∧ L ≤ 2560) (hcl : cells + 6 ≤ 601024 ∧ slots + 933 ≤ 7293033) (hP : va_P G.1 vwCl (OW G ho pn pa pf ae x ++ LW gL jw o ++ RW G pn adn r ++ RW G pa ada ra ++ FW G pf adf f ++ MW G hm adm u) H) (hD : va_D A (OW G ho pn pa pf ae x ++ LW gL jw o ++ RW G pn adn r ++ RW G pa ada ra ++ FW G pf adf f ++ MW G hm adm u)) (hS : va_S A s.heap H locs) (hl : lv_has ls 9 [(4, .int (iI (iv))), (0, .ref b), (1, .ref ho), (2, .ref hm), (3, .ref jw)])
    (kk : ∀ (x' : mf_V) (o' : Nat → Int64) (r' ra' f' u' : mf_V) (H : Heap) (locs : List Loc) (ls : Array Slot), LI (Y + 101) x' r' ra' f' u' → va_P G.1 vwCl (OW G ho pn pa pf ae x' ++ LW gL jw o' ++ RW G pn adn r' ++ RW G pa ada ra' ++ FW G pf adf f' ++ MW G hm adm u') H → va_D A (OW G ho pn pa pf ae x' ++ LW gL jw o' ++ RW G pn adn r' ++ RW G pa ada ra' ++ FW G pf adf f' ++ MW G hm adm u') → va_S A s.heap H locs → lv_has ls 9 [(4, .int (iI (iv))), (0, .ref b), (1, .ref ho), (2, .ref hm), (3, .ref jw)] → W p l e room_1 s m #[Value.ref b] below meth c H locs (cells + 6) (slots + 933) Q (F0 m 1223 ls [])) :
    W p l e room_1 s m #[Value.ref b] below meth c H locs cells slots Q (F0 m 444 ls []) := by
  obtain ⟨hx, hb, hr, hml, hown, hts, hXs, hbl, hl9, hK2, hN, hX, hSX, hCX, hZ, hNX, hA, hbA⟩ := E
  have hK := hK2.sub (tys' := mf_ty G) [0, 1] rfl
  obtain ⟨⟨okx, ok, okra, okf⟩, hRI, hB, hFI, oku, hrel, hrf⟩ := id hI0
  have hcR : room_1.cells = 601024 := rfl
  have hsR : room_1.slots = 7293033 := rfl
  have okLr : (0 : Int) ≤ r 7 0 ∧ r 7 0 ≤ 150 := ok 7 0
  have hlen : 2 ≤ r 7 0 := hRI.1.1
  have b46 : (0 : Int) ≤ f 4 0 ∧ f 4 0 ≤ 6 := okf 4 0
  refine lv_aload_n hx hb dL_law_444 rfl (lv_at hl 2 rfl) ?_
  refine lv_aload_n hx hb dL_law_445 rfl (lv_at hl 1 rfl) ?_
  refine lv_iload hx hb dL_law_446 (lv_at hl 0 rfl) ?_
  refine mf_iconst hx hb dL_law_448 ?_
  refine mf_iadd hx hb dL_law_449 ?_
  refine mf_sld hx hb hXs hbl hbA hS (z := iv + 1) (by omega) (by omega) (by omega) dL_law_450 ?_
  refine mf_nm (fun y1 ey1 => ?_)
  have by1 := sI_b xs (iv + 1)
  rw [← ey1] at by1
  refine lv_aload_n hx hb dL_law_451 rfl (lv_at hl 1 rfl) ?_
  refine lv_iload hx hb dL_law_452 (lv_at hl 0 rfl) ?_
  refine mf_iconst hx hb dL_law_454 ?_
  refine mf_iadd hx hb dL_law_455 ?_
  refine mf_sld hx hb hXs hbl hbA hS (z := iv + 2) (by omega) (by omega) (by omega) dL_law_456 ?_
  refine mf_nm (fun y2 ey2 => ?_)
  have by2 := sI_b xs (iv + 2)
  rw [← ey2] at by2
  refine lv_aload_n hx hb dL_law_457 rfl (lv_at hl 4 rfl) ?_
  have hFc := va_free (wc := OW G ho pn pa pf ae x ++ LW gL jw o ++ RW G pn adn r ++ RW G pa ada ra ++ FW G pf adf f) hD hS hA [0, 1, 2, 3, 4, 5, 6, 7, 8, 9, 10, 11, 12, 13, 14, 15, 16, 17, 18, 19, 20, 21, 22, 23, 24, 25, 26, 27, 28, 29, 30, 31] sb_807262e62d
  refine vx_calli (vx_runSX (As := [.ref ho, .int (iI (y1)), .int (iI (y2)), .ref jw]) (rest := []) ⟨hx, hb, hml, hown, hts⟩ (c_L_course l hl9 G gL ho pn pa pf ae x jw o adn r ada ra adf f (y1) (y2) (i32_mk (by omega) (by omega)) (i32_mk (by omega) (by omega)) (by assumption) (by assumption) (by assumption) (by assumption) _) (vx_cwSW 4 hts gL_law_L_course rfl rfl rfl (by decide +kernel) ⟨Nat.le_of_ble_eq_true rfl, Nat.le_of_ble_eq_true rfl⟩) (wrSy (wc := OW G ho pn pa pf ae x ++ LW gL jw o ++ RW G pn adn r ++ RW G pa ada ra ++ FW G pf adf f) hSX hCX hZ hS hFc hNX hK2 hP hD hN [0, 1, 2, 3, 4, 5, 6, 7, 8, 9, 10, 11, 12, 13, 14, 15, 16, 17, 18, 19, 20, 21, 22, 23, 24, 25, 26, 27, 28, 29, 30, 31] (by decide +kernel) sb_a548d2217e sb_807262e62d) rfl rfl hl.1 rfl (lv_room (Nat.le_of_ble_eq_true rfl)) dL_law_458 ⟨(by rw [hcR]; omega), (by rw [hsR]; omega)⟩) hS (fun q _ h => hFc q h) hFc (fun q _ h => hFc q h) (fun E ce q9 _ t H1 locs ht hvm hpx _ _ _ _ _ _ _ => False.elim hpx) (fun q3 u4 t H1 locs ht hvm hw hB hz1 hk1 hS => ?_)
  obtain ⟨x5, o6, r7, ra8, f9⟩ := u4
  try dsimp only at hw hB
  obtain ⟨hP, hD⟩ := wrJ2 (ws := OW G ho pn pa pf ae x ++ LW gL jw o ++ RW G pn adn r ++ RW G pa ada ra ++ FW G pf adf f ++ MW G hm adm u) (wc := OW G ho pn pa pf ae x ++ LW gL jw o ++ RW G pn adn r ++ RW G pa ada ra ++ FW G pf adf f) (wr := MW G hm adm u) (w1 := OW G ho pn pa pf ae x5 ++ LW gL jw o6 ++ RW G pn adn r7 ++ RW G pa ada ra8 ++ FW G pf adf f9) hP hD [0, 1, 2, 3, 4, 5, 6, 7, 8, 9, 10, 11, 12, 13, 14, 15, 16, 17, 18, 19, 20, 21, 22, 23, 24, 25, 26, 27, 28, 29, 30, 31] [32, 33, 34, 35, 36, 37, 38, 39, 40, 41] sb_807262e62d sb_f493248143 (by decide +kernel) (by decide +kernel) hk1 ht hFc hB
  have hP : va_P G.1 vwCl (OW G ho pn pa pf ae x5 ++ LW gL jw o6 ++ RW G pn adn r7 ++ RW G pa ada ra8 ++ FW G pf adf f9 ++ MW G hm adm u) H1 := hP.sub [10, 11, 12, 13, 14, 15, 16, 17, 18, 19, 20, 21, 22, 23, 24, 25, 26, 27, 28, 29, 30, 31, 32, 33, 34, 35, 36, 37, 38, 39, 40, 41, 0, 1, 2, 3, 4, 5, 6, 7, 8, 9] sb_5e9f4be562
  have hD : va_D A (OW G ho pn pa pf ae x5 ++ LW gL jw o6 ++ RW G pn adn r7 ++ RW G pa ada ra8 ++ FW G pf adf f9 ++ MW G hm adm u) := hD.sub [10, 11, 12, 13, 14, 15, 16, 17, 18, 19, 20, 21, 22, 23, 24, 25, 26, 27, 28, 29, 30, 31, 32, 33, 34, 35, 36, 37, 38, 39, 40, 41, 0, 1, 2, 3, 4, 5, 6, 7, 8, 9] (by decide +kernel) sb_6a4c93fcc4
  clear hB hk1 hFc ht hz1 hvm
  generalize H1 = H at hP hS ⊢
  obtain ⟨z10, rfl, w11⟩ := hw
  have hz9 := w11.1
  obtain ⟨vq, hq9⟩ := mf_exI w11.2.2.1
  have hn9 := w11.2.2.2
  have ok9 := w11.2.1
  skip
  refine lv_istore (lv' := [(5, .int (iI (z10))), (4, .int (iI (iv))), (0, .ref b), (1, .ref ho), (2, .ref hm), (3, .ref jw)]) hx hb dL_law_461 hl (by decide) rfl (fun ls hl => ?_)
  refine lv_aload_n hx hb dL_law_463 rfl (lv_at hl 4 rfl) ?_
  refine lv_aload_n hx hb dL_law_464 rfl (lv_at hl 2 rfl) ?_
  refine lv_iload hx hb dL_law_465 (lv_at hl 1 rfl) ?_
  refine mf_iconst hx hb dL_law_467 ?_
  refine mf_iadd hx hb dL_law_468 ?_
  refine mf_sld hx hb hXs hbl hbA hS (z := iv + 1) (by omega) (by omega) (by omega) dL_law_469 ?_
  refine mf_top (sI xs (iv + 1)) (y1) ey1.symm ?_
  refine lv_aload_n hx hb dL_law_470 rfl (lv_at hl 2 rfl) ?_
  refine lv_iload hx hb dL_law_471 (lv_at hl 1 rfl) ?_
  refine mf_iconst hx hb dL_law_473 ?_
  refine mf_iadd hx hb dL_law_474 ?_
  refine mf_sld hx hb hXs hbl hbA hS (z := iv + 2) (by omega) (by omega) (by omega) dL_law_475 ?_
  refine mf_top (sI xs (iv + 2)) (y2) ey2.symm ?_
  have hFc := va_free (wc := MW G hm adm u) hD hS hA [32, 33, 34, 35, 36, 37, 38, 39, 40, 41] sb_f493248143
  refine va_calli (va_runV (As := [.int (iI (y1)), .int (iI (y2))]) (rest := []) ⟨hx, hb, hml, hown, hts⟩ (c_X3_course l G hm adm u (y1) (y2) (r) (i32_mk (by omega) (by omega)) (i32_mk (by omega) (by omega)) (by assumption) (by assumption) (by exact hRI) (by exact hrel) _) (cwV 2 hts gL_law_X3_course rfl rfl rfl (by decide +kernel) ⟨Nat.le_of_ble_eq_true rfl, Nat.le_of_ble_eq_true rfl⟩) (wrV (wc := MW G hm adm u) hK hP hD hN [32, 33, 34, 35, 36, 37, 38, 39, 40, 41] (by decide +kernel) sb_0e13f593d9 sb_f493248143 (ci := 3) rfl rfl) rfl rfl hl.1 rfl (lv_room (Nat.le_of_ble_eq_true rfl)) dL_law_476 ⟨(by rw [hcR]; omega), (by rw [hsR]; omega)⟩) hS (fun q _ h => hFc q h) hFc (fun q12 u13 t H1 locs ht hvm hw hB hz1 hk1 hS => ?_)
  obtain ⟨u14, rfl⟩ : ∃ z, z = u13 := ⟨_, rfl⟩
  try dsimp only at hw hB
  obtain ⟨hP, hD⟩ := wrJ2 (ws := OW G ho pn pa pf ae x5 ++ LW gL jw o6 ++ RW G pn adn r7 ++ RW G pa ada ra8 ++ FW G pf adf f9 ++ MW G hm adm u) (wc := MW G hm adm u) (wr := OW G ho pn pa pf ae x5 ++ LW gL jw o6 ++ RW G pn adn r7 ++ RW G pa ada ra8 ++ FW G pf adf f9) (w1 := MW G hm adm u14) hP hD [32, 33, 34, 35, 36, 37, 38, 39, 40, 41] [0, 1, 2, 3, 4, 5, 6, 7, 8, 9, 10, 11, 12, 13, 14, 15, 16, 17, 18, 19, 20, 21, 22, 23, 24, 25, 26, 27, 28, 29, 30, 31] sb_f493248143 sb_807262e62d (by decide +kernel) (by decide +kernel) hk1 ht hFc hB
  have hP : va_P G.1 vwCl (OW G ho pn pa pf ae x5 ++ LW gL jw o6 ++ RW G pn adn r7 ++ RW G pa ada ra8 ++ FW G pf adf f9 ++ MW G hm adm u14) H1 := hP.sub [0, 1, 2, 3, 4, 5, 6, 7, 8, 9, 10, 11, 12, 13, 14, 15, 16, 17, 18, 19, 20, 21, 22, 23, 24, 25, 26, 27, 28, 29, 30, 31, 32, 33, 34, 35, 36, 37, 38, 39, 40, 41] sb_9f762f0c91
  have hD : va_D A (OW G ho pn pa pf ae x5 ++ LW gL jw o6 ++ RW G pn adn r7 ++ RW G pa ada ra8 ++ FW G pf adf f9 ++ MW G hm adm u14) := hD.sub [0, 1, 2, 3, 4, 5, 6, 7, 8, 9, 10, 11, 12, 13, 14, 15, 16, 17, 18, 19, 20, 21, 22, 23, 24, 25, 26, 27, 28, 29, 30, 31, 32, 33, 34, 35, 36, 37, 38, 39, 40, 41] (by decide +kernel) sb_ced734b625
  have hP : va_P G.1 vwCl (OW G ho pn pa pf ae x5 ++ LW gL jw o6 ++ RW G pn adn r7 ++ RW G pa ada ra8 ++ FW G pf adf f9 ++ MW G hm adm u14) H1 := hP
  have hD : va_D A (OW G ho pn pa pf ae x5 ++ LW gL jw o6 ++ RW G pn adn r7 ++ RW G pa ada ra8 ++ FW G pf adf f9 ++ MW G hm adm u14) := hD
  clear hB hk1 hFc ht hz1 hvm
  generalize H1 = H at hP hS ⊢
  obtain ⟨z16, rfl, w15⟩ := hw
  have oku14 : rOK ulo uhi u14 := w15.1
  have hu9 : (-1 : Int) ≤ u14 0 0 ∧ u14 0 0 ≤ 9 := oku14 0 0
  have hkz := w15.2.2.1
  have hLI : LI (Y + 101) x5 r7 ra8 f9 u14 := by
    by_cases hk : kCourse r y1 y2 = 0
    · exact LI_same hI0 ok9 (hq9 hk).2.1 (hq9 hk).2.2.1 w15.1 (w15.2.2.2.1 hk).1 (relF_cg w15.2.1 hrf)
    · exact LI_same hI0 ok9 (hn9 hk).2.1 (hn9 hk).2.2.2 w15.1 (w15.2.2.2.2 hk) (relF_cg w15.2.1 hrf)
  skip
  refine lv_istore (lv' := [(6, .int (iI (z16))), (5, .int (iI (z10))), (4, .int (iI (iv))), (0, .ref b), (1, .ref ho), (2, .ref hm), (3, .ref jw)]) hx hb dL_law_479 hl (by decide) rfl (fun ls hl => ?_)
  refine lv_aload_n hx hb dL_law_481 rfl (lv_at hl 5 rfl) ?_
  refine vp_callSi (va_Run.run (va_runV (As := []) (rest := []) ⟨hx, hb, hml, hown, hts⟩ (c_X3_thrown l G hm adm u14 (by assumption)) (cwV 0 hts gL_law_X3_thrown rfl rfl rfl (by decide +kernel) ⟨Nat.le_of_ble_eq_true rfl, Nat.le_of_ble_eq_true rfl⟩) (rdV (wc := MW G hm adm u14) hK hP hN [32, 33, 34, 35, 36, 37, 38, 39, 40, 41] sb_0e13f593d9 (ci := 3) rfl rfl) rfl rfl hl.1 rfl (lv_room (Nat.le_of_ble_eq_true rfl)) dL_law_482 ⟨(by rw [hcR]; omega), (by rw [hsR]; omega)⟩)) (fun q17 hq17 => ?_)
  subst hq17
  refine lv_iload hx hb dL_law_485 (lv_at hl 1 rfl) ?_
  refine mf_icmp_eq (tgt := 492) hx hb dL_law_487 (by decide) (i32_mk (by omega) (by omega)) (i32_mk (by omega) (by omega)) (fun c18 => ?_) (fun c18 => ?_)
  · skip
    refine lv_iload hx hb dL_law_492 (lv_at hl 1 rfl) ?_
    refine mf_if_ne (tgt := 509) hx hb dL_law_494 (by decide) (i32_mk (by omega) (by omega)) (fun c19 => ?_) (fun c19 => ?_)
    · skip
      refine lv_goto (tgt := 1223) hx hb dL_law_509 (by decide) ?_
      refine W.widen (k := cells + 6) (n := slots + 933) (by omega) (by omega) ?_
      exact kk x5 o6 r7 ra8 f9 u14 H locs ls hLI hP hD hS (lv_sub hl [2, 3, 4, 5, 6] rfl)
    · skip
      have hk0 : kCourse r y1 y2 = 0 := by omega
      refine lv_aload_n hx hb dL_law_497 rfl (lv_at hl 6 rfl) ?_
      refine mf_iconst hx hb dL_law_498 ?_
      refine va_lald hx hb hK2 hP 2 2 rfl rfl (i := iI 0) (iI_in (z := 0) (by decide) (by decide) (by decide)) dL_law_499 ?_
      refine lv_iload hx hb dL_law_500 (lv_at hl 0 rfl) ?_
      refine mf_i2lw hx hb dL_law_502 ?_
      refine mf_lcmp_eq hx hb (by exact (congrArg o6 (by decide : (iI 0).toNatClampNeg = 0)).trans ((hq9 hk0).1.trans (congrArg (fun t => lI (wrI t)) (by exact (hq9 hk0).2.2.2.trans (w15.2.2.2.1 hk0).2.symm)))) dL_law_503 ?_
      refine mf_if_eq (tgt := 509) hx hb dL_law_504 (by decide) (i32_mk (by decide) (by decide)) (fun c20 => ?_) (fun c20 => ?_)
      · skip
        refine lv_goto (tgt := 1223) hx hb dL_law_509 (by decide) ?_
        refine W.widen (k := cells + 6) (n := slots + 933) (by omega) (by omega) ?_
        exact kk x5 o6 r7 ra8 f9 u14 H locs ls hLI hP hD hS (lv_sub hl [2, 3, 4, 5, 6] rfl)
      · skip
        exact absurd c20 (by omega)
  · skip
    exfalso; omega
set_option maxHeartbeats 4000000 in
set_option maxRecDepth 100000 in
theorem lc_slip {p : Program} {l : Launch} {e : Env} {s : State} {m : MethodId} {below : List Frame} {meth : Method} {c : Code} {Q : State → Prop} {b L : Nat} {xs : Nat → Int32} {G : mf_G} {gL gK : ClassId} {A : Nat → Prop} (E : LE p l s m meth c b L xs G gL gK A) {ho pn pa pf ae jw hm : Nat} {adn ada adf adm : Nat → Nat} {x r ra f u : mf_V} {o : Nat → Int64} {Y iv : Int} {cells slots : Nat} {H : Heap} {locs : List Loc} {ls : Array Slot} (hI0 : LI Y x r ra f u) (hY : 0 ≤ Y ∧ Y + 100 ≤ 60000) (hiv : 0 ≤ iv ∧ iv + 5 ≤ L ∧ L ≤ 2560) (hcl : cells + 6 ≤ 601024 ∧ slots + 933 ≤ 7293033) (hP : va_P G.1 vwCl (OW G ho pn pa pf ae x ++ LW gL jw o ++ RW G pn adn r ++ RW G pa ada ra ++ FW G pf adf f ++ MW G hm adm u) H) (hD : va_D A (OW G ho pn pa pf ae x ++ LW gL jw o ++ RW G pn adn r ++ RW G pa ada ra ++ FW G pf adf f ++ MW G hm adm u)) (hS : va_S A s.heap H locs) (hl : lv_has ls 9 [(4, .int (iI (iv))), (0, .ref b), (1, .ref ho), (2, .ref hm), (3, .ref jw)])
    (kk : ∀ (x' : mf_V) (o' : Nat → Int64) (r' ra' f' u' : mf_V) (H : Heap) (locs : List Loc) (ls : Array Slot), LI (Y + 101) x' r' ra' f' u' → va_P G.1 vwCl (OW G ho pn pa pf ae x' ++ LW gL jw o' ++ RW G pn adn r' ++ RW G pa ada ra' ++ FW G pf adf f' ++ MW G hm adm u') H → va_D A (OW G ho pn pa pf ae x' ++ LW gL jw o' ++ RW G pn adn r' ++ RW G pa ada ra' ++ FW G pf adf f' ++ MW G hm adm u') → va_S A s.heap H locs → lv_has ls 9 [(4, .int (iI (iv))), (0, .ref b), (1, .ref ho), (2, .ref hm), (3, .ref jw)] → W p l e room_1 s m #[Value.ref b] below meth c H locs (cells + 6) (slots + 933) Q (F0 m 1223 ls [])) :
    W p l e room_1 s m #[Value.ref b] below meth c H locs cells slots Q (F0 m 512 ls []) := by
  obtain ⟨hx, hb, hr, hml, hown, hts, hXs, hbl, hl9, hK2, hN, hX, hSX, hCX, hZ, hNX, hA, hbA⟩ := E
  have hK := hK2.sub (tys' := mf_ty G) [0, 1] rfl
  obtain ⟨⟨okx, ok, okra, okf⟩, hRI, hB, hFI, oku, hrel, hrf⟩ := id hI0
  have hcR : room_1.cells = 601024 := rfl
  have hsR : room_1.slots = 7293033 := rfl
  have okLr : (0 : Int) ≤ r 7 0 ∧ r 7 0 ≤ 150 := ok 7 0
  have hlen : 2 ≤ r 7 0 := hRI.1.1
  have b46 : (0 : Int) ≤ f 4 0 ∧ f 4 0 ≤ 6 := okf 4 0
  refine lv_aload_n hx hb dL_law_512 rfl (lv_at hl 2 rfl) ?_
  refine lv_aload_n hx hb dL_law_513 rfl (lv_at hl 1 rfl) ?_
  refine lv_iload hx hb dL_law_514 (lv_at hl 0 rfl) ?_
  refine mf_iconst hx hb dL_law_516 ?_
  refine mf_iadd hx hb dL_law_517 ?_
  refine mf_sld hx hb hXs hbl hbA hS (z := iv + 1) (by omega) (by omega) (by omega) dL_law_518 ?_
  refine mf_nm (fun y1 ey1 => ?_)
  have by1 := sI_b xs (iv + 1)
  rw [← ey1] at by1
  refine lv_aload_n hx hb dL_law_519 rfl (lv_at hl 1 rfl) ?_
  refine lv_iload hx hb dL_law_520 (lv_at hl 0 rfl) ?_
  refine mf_iconst hx hb dL_law_522 ?_
  refine mf_iadd hx hb dL_law_523 ?_
  refine mf_sld hx hb hXs hbl hbA hS (z := iv + 2) (by omega) (by omega) (by omega) dL_law_524 ?_
  refine mf_nm (fun y2 ey2 => ?_)
  have by2 := sI_b xs (iv + 2)
  rw [← ey2] at by2
  refine lv_aload_n hx hb dL_law_525 rfl (lv_at hl 4 rfl) ?_
  have hFc := va_free (wc := OW G ho pn pa pf ae x ++ LW gL jw o ++ RW G pn adn r ++ RW G pa ada ra ++ FW G pf adf f) hD hS hA [0, 1, 2, 3, 4, 5, 6, 7, 8, 9, 10, 11, 12, 13, 14, 15, 16, 17, 18, 19, 20, 21, 22, 23, 24, 25, 26, 27, 28, 29, 30, 31] sb_807262e62d
  refine vx_calli (vx_runSX (As := [.ref ho, .int (iI (y1)), .int (iI (y2)), .ref jw]) (rest := []) ⟨hx, hb, hml, hown, hts⟩ (c_L_slip l hl9 G gL ho pn pa pf ae x jw o adn r ada ra adf f (y1) (y2) (i32_mk (by omega) (by omega)) (i32_mk (by omega) (by omega)) (by assumption) (by assumption) (by assumption) (by assumption) (by exact hRI) _) (vx_cwSW 4 hts gL_law_L_slip rfl rfl rfl (by decide +kernel) ⟨Nat.le_of_ble_eq_true rfl, Nat.le_of_ble_eq_true rfl⟩) (wrSy (wc := OW G ho pn pa pf ae x ++ LW gL jw o ++ RW G pn adn r ++ RW G pa ada ra ++ FW G pf adf f) hSX hCX hZ hS hFc hNX hK2 hP hD hN [0, 1, 2, 3, 4, 5, 6, 7, 8, 9, 10, 11, 12, 13, 14, 15, 16, 17, 18, 19, 20, 21, 22, 23, 24, 25, 26, 27, 28, 29, 30, 31] (by decide +kernel) sb_a548d2217e sb_807262e62d) rfl rfl hl.1 rfl (lv_room (Nat.le_of_ble_eq_true rfl)) dL_law_526 ⟨(by rw [hcR]; omega), (by rw [hsR]; omega)⟩) hS (fun q _ h => hFc q h) hFc (fun q _ h => hFc q h) (fun E ce q9 _ t H1 locs ht hvm hpx _ _ _ _ _ _ _ => False.elim hpx) (fun q3 u4 t H1 locs ht hvm hw hB hz1 hk1 hS => ?_)
  obtain ⟨x5, o6, r7, ra8, f9⟩ := u4
  try dsimp only at hw hB
  obtain ⟨hP, hD⟩ := wrJ2 (ws := OW G ho pn pa pf ae x ++ LW gL jw o ++ RW G pn adn r ++ RW G pa ada ra ++ FW G pf adf f ++ MW G hm adm u) (wc := OW G ho pn pa pf ae x ++ LW gL jw o ++ RW G pn adn r ++ RW G pa ada ra ++ FW G pf adf f) (wr := MW G hm adm u) (w1 := OW G ho pn pa pf ae x5 ++ LW gL jw o6 ++ RW G pn adn r7 ++ RW G pa ada ra8 ++ FW G pf adf f9) hP hD [0, 1, 2, 3, 4, 5, 6, 7, 8, 9, 10, 11, 12, 13, 14, 15, 16, 17, 18, 19, 20, 21, 22, 23, 24, 25, 26, 27, 28, 29, 30, 31] [32, 33, 34, 35, 36, 37, 38, 39, 40, 41] sb_807262e62d sb_f493248143 (by decide +kernel) (by decide +kernel) hk1 ht hFc hB
  have hP : va_P G.1 vwCl (OW G ho pn pa pf ae x5 ++ LW gL jw o6 ++ RW G pn adn r7 ++ RW G pa ada ra8 ++ FW G pf adf f9 ++ MW G hm adm u) H1 := hP.sub [10, 11, 12, 13, 14, 15, 16, 17, 18, 19, 20, 21, 22, 23, 24, 25, 26, 27, 28, 29, 30, 31, 32, 33, 34, 35, 36, 37, 38, 39, 40, 41, 0, 1, 2, 3, 4, 5, 6, 7, 8, 9] sb_5e9f4be562
  have hD : va_D A (OW G ho pn pa pf ae x5 ++ LW gL jw o6 ++ RW G pn adn r7 ++ RW G pa ada ra8 ++ FW G pf adf f9 ++ MW G hm adm u) := hD.sub [10, 11, 12, 13, 14, 15, 16, 17, 18, 19, 20, 21, 22, 23, 24, 25, 26, 27, 28, 29, 30, 31, 32, 33, 34, 35, 36, 37, 38, 39, 40, 41, 0, 1, 2, 3, 4, 5, 6, 7, 8, 9] (by decide +kernel) sb_6a4c93fcc4
  clear hB hk1 hFc ht hz1 hvm
  generalize H1 = H at hP hS ⊢
  obtain ⟨z10, rfl, w11⟩ := hw
  have hz9 := w11.1
  obtain ⟨vq, hq9⟩ := mf_exI w11.2.2.1
  have hn9 := w11.2.2.2
  have ok9 := w11.2.1
  have hI9 : RInv r7 := by
    by_cases hk : kSlip r y1 y2 = 0
    · exact (hq9 hk).2.1
    · rw [(hn9 hk).2.1]; exact hRI
  skip
  refine lv_istore (lv' := [(5, .int (iI (z10))), (4, .int (iI (iv))), (0, .ref b), (1, .ref ho), (2, .ref hm), (3, .ref jw)]) hx hb dL_law_529 hl (by decide) rfl (fun ls hl => ?_)
  refine lv_aload_n hx hb dL_law_531 rfl (lv_at hl 4 rfl) ?_
  refine lv_aload_n hx hb dL_law_532 rfl (lv_at hl 2 rfl) ?_
  refine lv_iload hx hb dL_law_533 (lv_at hl 1 rfl) ?_
  refine mf_iconst hx hb dL_law_535 ?_
  refine mf_iadd hx hb dL_law_536 ?_
  refine mf_sld hx hb hXs hbl hbA hS (z := iv + 1) (by omega) (by omega) (by omega) dL_law_537 ?_
  refine mf_top (sI xs (iv + 1)) (y1) ey1.symm ?_
  refine lv_aload_n hx hb dL_law_538 rfl (lv_at hl 2 rfl) ?_
  refine lv_iload hx hb dL_law_539 (lv_at hl 1 rfl) ?_
  refine mf_iconst hx hb dL_law_541 ?_
  refine mf_iadd hx hb dL_law_542 ?_
  refine mf_sld hx hb hXs hbl hbA hS (z := iv + 2) (by omega) (by omega) (by omega) dL_law_543 ?_
  refine mf_top (sI xs (iv + 2)) (y2) ey2.symm ?_
  have hFc := va_free (wc := MW G hm adm u) hD hS hA [32, 33, 34, 35, 36, 37, 38, 39, 40, 41] sb_f493248143
  refine va_calli (va_runV (As := [.int (iI (y1)), .int (iI (y2))]) (rest := []) ⟨hx, hb, hml, hown, hts⟩ (c_X3_slip l G hm adm u (y1) (y2) (r) (r7) (i32_mk (by omega) (by omega)) (i32_mk (by omega) (by omega)) (by assumption) (by assumption) (by exact hRI) (by exact hrel) (by exact ok9.2.1) (by exact hI9) (by exact fun k => (hq9 k).2.2.1) _) (cwV 2 hts gL_law_X3_slip rfl rfl rfl (by decide +kernel) ⟨Nat.le_of_ble_eq_true rfl, Nat.le_of_ble_eq_true rfl⟩) (wrV (wc := MW G hm adm u) hK hP hD hN [32, 33, 34, 35, 36, 37, 38, 39, 40, 41] (by decide +kernel) sb_0e13f593d9 sb_f493248143 (ci := 3) rfl rfl) rfl rfl hl.1 rfl (lv_room (Nat.le_of_ble_eq_true rfl)) dL_law_544 ⟨(by rw [hcR]; omega), (by rw [hsR]; omega)⟩) hS (fun q _ h => hFc q h) hFc (fun q12 u13 t H1 locs ht hvm hw hB hz1 hk1 hS => ?_)
  obtain ⟨u14, rfl⟩ : ∃ z, z = u13 := ⟨_, rfl⟩
  try dsimp only at hw hB
  obtain ⟨hP, hD⟩ := wrJ2 (ws := OW G ho pn pa pf ae x5 ++ LW gL jw o6 ++ RW G pn adn r7 ++ RW G pa ada ra8 ++ FW G pf adf f9 ++ MW G hm adm u) (wc := MW G hm adm u) (wr := OW G ho pn pa pf ae x5 ++ LW gL jw o6 ++ RW G pn adn r7 ++ RW G pa ada ra8 ++ FW G pf adf f9) (w1 := MW G hm adm u14) hP hD [32, 33, 34, 35, 36, 37, 38, 39, 40, 41] [0, 1, 2, 3, 4, 5, 6, 7, 8, 9, 10, 11, 12, 13, 14, 15, 16, 17, 18, 19, 20, 21, 22, 23, 24, 25, 26, 27, 28, 29, 30, 31] sb_f493248143 sb_807262e62d (by decide +kernel) (by decide +kernel) hk1 ht hFc hB
  have hP : va_P G.1 vwCl (OW G ho pn pa pf ae x5 ++ LW gL jw o6 ++ RW G pn adn r7 ++ RW G pa ada ra8 ++ FW G pf adf f9 ++ MW G hm adm u14) H1 := hP.sub [0, 1, 2, 3, 4, 5, 6, 7, 8, 9, 10, 11, 12, 13, 14, 15, 16, 17, 18, 19, 20, 21, 22, 23, 24, 25, 26, 27, 28, 29, 30, 31, 32, 33, 34, 35, 36, 37, 38, 39, 40, 41] sb_9f762f0c91
  have hD : va_D A (OW G ho pn pa pf ae x5 ++ LW gL jw o6 ++ RW G pn adn r7 ++ RW G pa ada ra8 ++ FW G pf adf f9 ++ MW G hm adm u14) := hD.sub [0, 1, 2, 3, 4, 5, 6, 7, 8, 9, 10, 11, 12, 13, 14, 15, 16, 17, 18, 19, 20, 21, 22, 23, 24, 25, 26, 27, 28, 29, 30, 31, 32, 33, 34, 35, 36, 37, 38, 39, 40, 41] (by decide +kernel) sb_ced734b625
  have hP : va_P G.1 vwCl (OW G ho pn pa pf ae x5 ++ LW gL jw o6 ++ RW G pn adn r7 ++ RW G pa ada ra8 ++ FW G pf adf f9 ++ MW G hm adm u14) H1 := hP
  have hD : va_D A (OW G ho pn pa pf ae x5 ++ LW gL jw o6 ++ RW G pn adn r7 ++ RW G pa ada ra8 ++ FW G pf adf f9 ++ MW G hm adm u14) := hD
  clear hB hk1 hFc ht hz1 hvm
  generalize H1 = H at hP hS ⊢
  obtain ⟨z16, rfl, w15⟩ := hw
  have oku14 : rOK ulo uhi u14 := w15.1
  have hu9 : (-1 : Int) ≤ u14 0 0 ∧ u14 0 0 ≤ 9 := oku14 0 0
  have hkz := w15.2.2.1
  have hLI : LI (Y + 101) x5 r7 ra8 f9 u14 := by
    by_cases hk : kSlip r y1 y2 = 0
    · obtain ⟨-, hi, hb9, ef, -⟩ := hq9 hk
      exact ⟨ok9, hi, Bul_bd hY.1 hb9 hB, by rw [ef]; exact hFI, w15.1, (w15.2.2.2.1 hk).1, by rw [ef]; exact relF_cg w15.2.1 hrf⟩
    · exact LI_same hI0 ok9 (hn9 hk).2.1 (hn9 hk).2.2.2 w15.1 (w15.2.2.2.2 hk) (relF_cg w15.2.1 hrf)
  skip
  refine lv_istore (lv' := [(6, .int (iI (z16))), (5, .int (iI (z10))), (4, .int (iI (iv))), (0, .ref b), (1, .ref ho), (2, .ref hm), (3, .ref jw)]) hx hb dL_law_547 hl (by decide) rfl (fun ls hl => ?_)
  refine lv_aload_n hx hb dL_law_549 rfl (lv_at hl 5 rfl) ?_
  refine vp_callSi (va_Run.run (va_runV (As := []) (rest := []) ⟨hx, hb, hml, hown, hts⟩ (c_X3_thrown l G hm adm u14 (by assumption)) (cwV 0 hts gL_law_X3_thrown rfl rfl rfl (by decide +kernel) ⟨Nat.le_of_ble_eq_true rfl, Nat.le_of_ble_eq_true rfl⟩) (rdV (wc := MW G hm adm u14) hK hP hN [32, 33, 34, 35, 36, 37, 38, 39, 40, 41] sb_0e13f593d9 (ci := 3) rfl rfl) rfl rfl hl.1 rfl (lv_room (Nat.le_of_ble_eq_true rfl)) dL_law_550 ⟨(by rw [hcR]; omega), (by rw [hsR]; omega)⟩)) (fun q17 hq17 => ?_)
  subst hq17
  refine lv_iload hx hb dL_law_553 (lv_at hl 1 rfl) ?_
  refine mf_icmp_eq (tgt := 560) hx hb dL_law_555 (by decide) (i32_mk (by omega) (by omega)) (i32_mk (by omega) (by omega)) (fun c18 => ?_) (fun c18 => ?_)
  · skip
    refine lv_iload hx hb dL_law_560 (lv_at hl 1 rfl) ?_
    refine mf_if_ne (tgt := 577) hx hb dL_law_562 (by decide) (i32_mk (by omega) (by omega)) (fun c19 => ?_) (fun c19 => ?_)
    · skip
      refine lv_goto (tgt := 1223) hx hb dL_law_577 (by decide) ?_
      refine W.widen (k := cells + 6) (n := slots + 933) (by omega) (by omega) ?_
      exact kk x5 o6 r7 ra8 f9 u14 H locs ls hLI hP hD hS (lv_sub hl [2, 3, 4, 5, 6] rfl)
    · skip
      have hk0 : kSlip r y1 y2 = 0 := by omega
      refine lv_aload_n hx hb dL_law_565 rfl (lv_at hl 6 rfl) ?_
      refine mf_iconst hx hb dL_law_566 ?_
      refine va_lald hx hb hK2 hP 2 2 rfl rfl (i := iI 0) (iI_in (z := 0) (by decide) (by decide) (by decide)) dL_law_567 ?_
      refine lv_iload hx hb dL_law_568 (lv_at hl 0 rfl) ?_
      refine mf_i2lw hx hb dL_law_570 ?_
      refine mf_lcmp_eq hx hb (by exact (congrArg o6 (by decide : (iI 0).toNatClampNeg = 0)).trans ((hq9 hk0).1.trans (congrArg (fun t => lI (wrI t)) (by exact (hq9 hk0).2.2.2.2.trans (w15.2.2.2.1 hk0).2.symm)))) dL_law_571 ?_
      refine mf_if_eq (tgt := 577) hx hb dL_law_572 (by decide) (i32_mk (by decide) (by decide)) (fun c20 => ?_) (fun c20 => ?_)
      · skip
        refine lv_goto (tgt := 1223) hx hb dL_law_577 (by decide) ?_
        refine W.widen (k := cells + 6) (n := slots + 933) (by omega) (by omega) ?_
        exact kk x5 o6 r7 ra8 f9 u14 H locs ls hLI hP hD hS (lv_sub hl [2, 3, 4, 5, 6] rfl)
      · skip
        exact absurd c20 (by omega)
  · skip
    exfalso; omega
set_option maxHeartbeats 4000000 in
set_option maxRecDepth 100000 in
theorem lc_dig {p : Program} {l : Launch} {e : Env} {s : State} {m : MethodId} {below : List Frame} {meth : Method} {c : Code} {Q : State → Prop} {b L : Nat} {xs : Nat → Int32} {G : mf_G} {gL gK : ClassId} {A : Nat → Prop} (E : LE p l s m meth c b L xs G gL gK A) {ho pn pa pf ae jw hm : Nat} {adn ada adf adm : Nat → Nat} {x r ra f u : mf_V} {o : Nat → Int64} {Y iv : Int} {cells slots : Nat} {H : Heap} {locs : List Loc} {ls : Array Slot} (hI0 : LI Y x r ra f u) (hY : 0 ≤ Y ∧ Y + 100 ≤ 60000) (hiv : 0 ≤ iv ∧ iv + 5 ≤ L ∧ L ≤ 2560) (hcl : cells + 6 ≤ 601024 ∧ slots + 933 ≤ 7293033) (hP : va_P G.1 vwCl (OW G ho pn pa pf ae x ++ LW gL jw o ++ RW G pn adn r ++ RW G pa ada ra ++ FW G pf adf f ++ MW G hm adm u) H) (hD : va_D A (OW G ho pn pa pf ae x ++ LW gL jw o ++ RW G pn adn r ++ RW G pa ada ra ++ FW G pf adf f ++ MW G hm adm u)) (hS : va_S A s.heap H locs) (hl : lv_has ls 9 [(4, .int (iI (iv))), (0, .ref b), (1, .ref ho), (2, .ref hm), (3, .ref jw)])
    (kk : ∀ (x' : mf_V) (o' : Nat → Int64) (r' ra' f' u' : mf_V) (H : Heap) (locs : List Loc) (ls : Array Slot), LI (Y + 101) x' r' ra' f' u' → va_P G.1 vwCl (OW G ho pn pa pf ae x' ++ LW gL jw o' ++ RW G pn adn r' ++ RW G pa ada ra' ++ FW G pf adf f' ++ MW G hm adm u') H → va_D A (OW G ho pn pa pf ae x' ++ LW gL jw o' ++ RW G pn adn r' ++ RW G pa ada ra' ++ FW G pf adf f' ++ MW G hm adm u') → va_S A s.heap H locs → lv_has ls 9 [(4, .int (iI (iv))), (0, .ref b), (1, .ref ho), (2, .ref hm), (3, .ref jw)] → W p l e room_1 s m #[Value.ref b] below meth c H locs (cells + 6) (slots + 933) Q (F0 m 1223 ls [])) :
    W p l e room_1 s m #[Value.ref b] below meth c H locs cells slots Q (F0 m 580 ls []) := by
  obtain ⟨hx, hb, hr, hml, hown, hts, hXs, hbl, hl9, hK2, hN, hX, hSX, hCX, hZ, hNX, hA, hbA⟩ := E
  have hK := hK2.sub (tys' := mf_ty G) [0, 1] rfl
  obtain ⟨⟨okx, ok, okra, okf⟩, hRI, hB, hFI, oku, hrel, hrf⟩ := id hI0
  have hcR : room_1.cells = 601024 := rfl
  have hsR : room_1.slots = 7293033 := rfl
  have okLr : (0 : Int) ≤ r 7 0 ∧ r 7 0 ≤ 150 := ok 7 0
  have hlen : 2 ≤ r 7 0 := hRI.1.1
  have b46 : (0 : Int) ≤ f 4 0 ∧ f 4 0 ≤ 6 := okf 4 0
  refine lv_aload_n hx hb dL_law_580 rfl (lv_at hl 2 rfl) ?_
  refine lv_aload_n hx hb dL_law_581 rfl (lv_at hl 1 rfl) ?_
  refine lv_iload hx hb dL_law_582 (lv_at hl 0 rfl) ?_
  refine mf_iconst hx hb dL_law_584 ?_
  refine mf_iadd hx hb dL_law_585 ?_
  refine mf_sld hx hb hXs hbl hbA hS (z := iv + 1) (by omega) (by omega) (by omega) dL_law_586 ?_
  refine mf_nm (fun y1 ey1 => ?_)
  have by1 := sI_b xs (iv + 1)
  rw [← ey1] at by1
  refine lv_aload_n hx hb dL_law_587 rfl (lv_at hl 1 rfl) ?_
  refine lv_iload hx hb dL_law_588 (lv_at hl 0 rfl) ?_
  refine mf_iconst hx hb dL_law_590 ?_
  refine mf_iadd hx hb dL_law_591 ?_
  refine mf_sld hx hb hXs hbl hbA hS (z := iv + 2) (by omega) (by omega) (by omega) dL_law_592 ?_
  refine mf_nm (fun y2 ey2 => ?_)
  have by2 := sI_b xs (iv + 2)
  rw [← ey2] at by2
  refine lv_aload_n hx hb dL_law_593 rfl (lv_at hl 4 rfl) ?_
  have hFc := va_free (wc := OW G ho pn pa pf ae x ++ LW gL jw o ++ RW G pn adn r ++ RW G pa ada ra ++ FW G pf adf f) hD hS hA [0, 1, 2, 3, 4, 5, 6, 7, 8, 9, 10, 11, 12, 13, 14, 15, 16, 17, 18, 19, 20, 21, 22, 23, 24, 25, 26, 27, 28, 29, 30, 31] sb_807262e62d
  refine vx_calli (vx_runSX (As := [.ref ho, .int (iI (y1)), .int (iI (y2)), .ref jw]) (rest := []) ⟨hx, hb, hml, hown, hts⟩ (c_L_dig l hl9 G gL ho pn pa pf ae x jw o adn r ada ra adf f (y1) (y2) (i32_mk (by omega) (by omega)) (i32_mk (by omega) (by omega)) (by assumption) (by assumption) (by assumption) (by assumption) (by exact hRI) (by have b9 := hB.2.1; omega) _) (vx_cwSW 4 hts gL_law_L_dig rfl rfl rfl (by decide +kernel) ⟨Nat.le_of_ble_eq_true rfl, Nat.le_of_ble_eq_true rfl⟩) (wrSy (wc := OW G ho pn pa pf ae x ++ LW gL jw o ++ RW G pn adn r ++ RW G pa ada ra ++ FW G pf adf f) hSX hCX hZ hS hFc hNX hK2 hP hD hN [0, 1, 2, 3, 4, 5, 6, 7, 8, 9, 10, 11, 12, 13, 14, 15, 16, 17, 18, 19, 20, 21, 22, 23, 24, 25, 26, 27, 28, 29, 30, 31] (by decide +kernel) sb_a548d2217e sb_807262e62d) rfl rfl hl.1 rfl (lv_room (Nat.le_of_ble_eq_true rfl)) dL_law_594 ⟨(by rw [hcR]; omega), (by rw [hsR]; omega)⟩) hS (fun q _ h => hFc q h) hFc (fun q _ h => hFc q h) (fun E ce q9 _ t H1 locs ht hvm hpx _ _ _ _ _ _ _ => False.elim hpx) (fun q3 u4 t H1 locs ht hvm hw hB hz1 hk1 hS => ?_)
  obtain ⟨x5, o6, r7, ra8, f9⟩ := u4
  try dsimp only at hw hB
  obtain ⟨hP, hD⟩ := wrJ2 (ws := OW G ho pn pa pf ae x ++ LW gL jw o ++ RW G pn adn r ++ RW G pa ada ra ++ FW G pf adf f ++ MW G hm adm u) (wc := OW G ho pn pa pf ae x ++ LW gL jw o ++ RW G pn adn r ++ RW G pa ada ra ++ FW G pf adf f) (wr := MW G hm adm u) (w1 := OW G ho pn pa pf ae x5 ++ LW gL jw o6 ++ RW G pn adn r7 ++ RW G pa ada ra8 ++ FW G pf adf f9) hP hD [0, 1, 2, 3, 4, 5, 6, 7, 8, 9, 10, 11, 12, 13, 14, 15, 16, 17, 18, 19, 20, 21, 22, 23, 24, 25, 26, 27, 28, 29, 30, 31] [32, 33, 34, 35, 36, 37, 38, 39, 40, 41] sb_807262e62d sb_f493248143 (by decide +kernel) (by decide +kernel) hk1 ht hFc hB
  have hP : va_P G.1 vwCl (OW G ho pn pa pf ae x5 ++ LW gL jw o6 ++ RW G pn adn r7 ++ RW G pa ada ra8 ++ FW G pf adf f9 ++ MW G hm adm u) H1 := hP.sub [10, 11, 12, 13, 14, 15, 16, 17, 18, 19, 20, 21, 22, 23, 24, 25, 26, 27, 28, 29, 30, 31, 32, 33, 34, 35, 36, 37, 38, 39, 40, 41, 0, 1, 2, 3, 4, 5, 6, 7, 8, 9] sb_5e9f4be562
  have hD : va_D A (OW G ho pn pa pf ae x5 ++ LW gL jw o6 ++ RW G pn adn r7 ++ RW G pa ada ra8 ++ FW G pf adf f9 ++ MW G hm adm u) := hD.sub [10, 11, 12, 13, 14, 15, 16, 17, 18, 19, 20, 21, 22, 23, 24, 25, 26, 27, 28, 29, 30, 31, 32, 33, 34, 35, 36, 37, 38, 39, 40, 41, 0, 1, 2, 3, 4, 5, 6, 7, 8, 9] (by decide +kernel) sb_6a4c93fcc4
  clear hB hk1 hFc ht hz1 hvm
  generalize H1 = H at hP hS ⊢
  obtain ⟨z10, rfl, w11⟩ := hw
  have hz9 := w11.1
  obtain ⟨vq, hq9⟩ := mf_exI w11.2.2.1
  have hn9 := w11.2.2.2
  have ok9 := w11.2.1
  have hI9 : RInv r7 := by
    by_cases hk : kDig r y1 y2 = 0
    · exact (hq9 hk).2.1
    · rw [(hn9 hk).2.1]; exact hRI
  skip
  refine lv_istore (lv' := [(5, .int (iI (z10))), (4, .int (iI (iv))), (0, .ref b), (1, .ref ho), (2, .ref hm), (3, .ref jw)]) hx hb dL_law_597 hl (by decide) rfl (fun ls hl => ?_)
  refine lv_aload_n hx hb dL_law_599 rfl (lv_at hl 4 rfl) ?_
  refine lv_aload_n hx hb dL_law_600 rfl (lv_at hl 2 rfl) ?_
  refine lv_iload hx hb dL_law_601 (lv_at hl 1 rfl) ?_
  refine mf_iconst hx hb dL_law_603 ?_
  refine mf_iadd hx hb dL_law_604 ?_
  refine mf_sld hx hb hXs hbl hbA hS (z := iv + 1) (by omega) (by omega) (by omega) dL_law_605 ?_
  refine mf_top (sI xs (iv + 1)) (y1) ey1.symm ?_
  refine lv_aload_n hx hb dL_law_606 rfl (lv_at hl 2 rfl) ?_
  refine lv_iload hx hb dL_law_607 (lv_at hl 1 rfl) ?_
  refine mf_iconst hx hb dL_law_609 ?_
  refine mf_iadd hx hb dL_law_610 ?_
  refine mf_sld hx hb hXs hbl hbA hS (z := iv + 2) (by omega) (by omega) (by omega) dL_law_611 ?_
  refine mf_top (sI xs (iv + 2)) (y2) ey2.symm ?_
  have hFc := va_free (wc := MW G hm adm u) hD hS hA [32, 33, 34, 35, 36, 37, 38, 39, 40, 41] sb_f493248143
  refine va_calli (va_runV (As := [.int (iI (y1)), .int (iI (y2))]) (rest := []) ⟨hx, hb, hml, hown, hts⟩ (c_X3_dig l G hm adm u (y1) (y2) (r) (r7) (i32_mk (by omega) (by omega)) (i32_mk (by omega) (by omega)) (by assumption) (by assumption) (by exact hRI) (by exact hrel) (by exact ok9.2.1) (by exact hI9) (by exact fun k => (hq9 k).2.2.1) (by have b9 := hB.2.1; omega) _) (cwV 2 hts gL_law_X3_dig rfl rfl rfl (by decide +kernel) ⟨Nat.le_of_ble_eq_true rfl, Nat.le_of_ble_eq_true rfl⟩) (wrV (wc := MW G hm adm u) hK hP hD hN [32, 33, 34, 35, 36, 37, 38, 39, 40, 41] (by decide +kernel) sb_0e13f593d9 sb_f493248143 (ci := 3) rfl rfl) rfl rfl hl.1 rfl (lv_room (Nat.le_of_ble_eq_true rfl)) dL_law_612 ⟨(by rw [hcR]; omega), (by rw [hsR]; omega)⟩) hS (fun q _ h => hFc q h) hFc (fun q12 u13 t H1 locs ht hvm hw hB hz1 hk1 hS => ?_)
  obtain ⟨u14, rfl⟩ : ∃ z, z = u13 := ⟨_, rfl⟩
  try dsimp only at hw hB
  obtain ⟨hP, hD⟩ := wrJ2 (ws := OW G ho pn pa pf ae x5 ++ LW gL jw o6 ++ RW G pn adn r7 ++ RW G pa ada ra8 ++ FW G pf adf f9 ++ MW G hm adm u) (wc := MW G hm adm u) (wr := OW G ho pn pa pf ae x5 ++ LW gL jw o6 ++ RW G pn adn r7 ++ RW G pa ada ra8 ++ FW G pf adf f9) (w1 := MW G hm adm u14) hP hD [32, 33, 34, 35, 36, 37, 38, 39, 40, 41] [0, 1, 2, 3, 4, 5, 6, 7, 8, 9, 10, 11, 12, 13, 14, 15, 16, 17, 18, 19, 20, 21, 22, 23, 24, 25, 26, 27, 28, 29, 30, 31] sb_f493248143 sb_807262e62d (by decide +kernel) (by decide +kernel) hk1 ht hFc hB
  have hP : va_P G.1 vwCl (OW G ho pn pa pf ae x5 ++ LW gL jw o6 ++ RW G pn adn r7 ++ RW G pa ada ra8 ++ FW G pf adf f9 ++ MW G hm adm u14) H1 := hP.sub [0, 1, 2, 3, 4, 5, 6, 7, 8, 9, 10, 11, 12, 13, 14, 15, 16, 17, 18, 19, 20, 21, 22, 23, 24, 25, 26, 27, 28, 29, 30, 31, 32, 33, 34, 35, 36, 37, 38, 39, 40, 41] sb_9f762f0c91
  have hD : va_D A (OW G ho pn pa pf ae x5 ++ LW gL jw o6 ++ RW G pn adn r7 ++ RW G pa ada ra8 ++ FW G pf adf f9 ++ MW G hm adm u14) := hD.sub [0, 1, 2, 3, 4, 5, 6, 7, 8, 9, 10, 11, 12, 13, 14, 15, 16, 17, 18, 19, 20, 21, 22, 23, 24, 25, 26, 27, 28, 29, 30, 31, 32, 33, 34, 35, 36, 37, 38, 39, 40, 41] (by decide +kernel) sb_ced734b625
  have hP : va_P G.1 vwCl (OW G ho pn pa pf ae x5 ++ LW gL jw o6 ++ RW G pn adn r7 ++ RW G pa ada ra8 ++ FW G pf adf f9 ++ MW G hm adm u14) H1 := hP
  have hD : va_D A (OW G ho pn pa pf ae x5 ++ LW gL jw o6 ++ RW G pn adn r7 ++ RW G pa ada ra8 ++ FW G pf adf f9 ++ MW G hm adm u14) := hD
  clear hB hk1 hFc ht hz1 hvm
  generalize H1 = H at hP hS ⊢
  obtain ⟨z16, rfl, w15⟩ := hw
  have oku14 : rOK ulo uhi u14 := w15.1
  have hu9 : (-1 : Int) ≤ u14 0 0 ∧ u14 0 0 ≤ 9 := oku14 0 0
  have hkz := w15.2.2.1
  have hLI : LI (Y + 101) x5 r7 ra8 f9 u14 := by
    by_cases hk : kDig r y1 y2 = 0
    · obtain ⟨-, hi, hb9, ef, -⟩ := hq9 hk
      exact ⟨ok9, hi, Brk_bd hb9 hB, by rw [ef]; exact hFI, w15.1, (w15.2.2.2.1 hk).1, by rw [ef]; exact relF_cg w15.2.1 hrf⟩
    · exact LI_same hI0 ok9 (hn9 hk).2.1 (hn9 hk).2.2.2 w15.1 (w15.2.2.2.2 hk) (relF_cg w15.2.1 hrf)
  skip
  refine lv_istore (lv' := [(6, .int (iI (z16))), (5, .int (iI (z10))), (4, .int (iI (iv))), (0, .ref b), (1, .ref ho), (2, .ref hm), (3, .ref jw)]) hx hb dL_law_615 hl (by decide) rfl (fun ls hl => ?_)
  refine lv_aload_n hx hb dL_law_617 rfl (lv_at hl 5 rfl) ?_
  refine vp_callSi (va_Run.run (va_runV (As := []) (rest := []) ⟨hx, hb, hml, hown, hts⟩ (c_X3_thrown l G hm adm u14 (by assumption)) (cwV 0 hts gL_law_X3_thrown rfl rfl rfl (by decide +kernel) ⟨Nat.le_of_ble_eq_true rfl, Nat.le_of_ble_eq_true rfl⟩) (rdV (wc := MW G hm adm u14) hK hP hN [32, 33, 34, 35, 36, 37, 38, 39, 40, 41] sb_0e13f593d9 (ci := 3) rfl rfl) rfl rfl hl.1 rfl (lv_room (Nat.le_of_ble_eq_true rfl)) dL_law_618 ⟨(by rw [hcR]; omega), (by rw [hsR]; omega)⟩)) (fun q17 hq17 => ?_)
  subst hq17
  refine lv_iload hx hb dL_law_621 (lv_at hl 1 rfl) ?_
  refine mf_icmp_eq (tgt := 628) hx hb dL_law_623 (by decide) (i32_mk (by omega) (by omega)) (i32_mk (by omega) (by omega)) (fun c18 => ?_) (fun c18 => ?_)
  · skip
    refine lv_iload hx hb dL_law_628 (lv_at hl 1 rfl) ?_
    refine mf_if_ne (tgt := 645) hx hb dL_law_630 (by decide) (i32_mk (by omega) (by omega)) (fun c19 => ?_) (fun c19 => ?_)
    · skip
      refine lv_goto (tgt := 1223) hx hb dL_law_645 (by decide) ?_
      refine W.widen (k := cells + 6) (n := slots + 933) (by omega) (by omega) ?_
      exact kk x5 o6 r7 ra8 f9 u14 H locs ls hLI hP hD hS (lv_sub hl [2, 3, 4, 5, 6] rfl)
    · skip
      have hk0 : kDig r y1 y2 = 0 := by omega
      refine lv_aload_n hx hb dL_law_633 rfl (lv_at hl 6 rfl) ?_
      refine mf_iconst hx hb dL_law_634 ?_
      refine va_lald hx hb hK2 hP 2 2 rfl rfl (i := iI 0) (iI_in (z := 0) (by decide) (by decide) (by decide)) dL_law_635 ?_
      refine lv_iload hx hb dL_law_636 (lv_at hl 0 rfl) ?_
      refine mf_i2lw hx hb dL_law_638 ?_
      refine mf_lcmp_eq hx hb (by exact (congrArg o6 (by decide : (iI 0).toNatClampNeg = 0)).trans ((hq9 hk0).1.trans (congrArg (fun t => lI (wrI t)) (by exact (hq9 hk0).2.2.2.2.trans (w15.2.2.2.1 hk0).2.symm)))) dL_law_639 ?_
      refine mf_if_eq (tgt := 645) hx hb dL_law_640 (by decide) (i32_mk (by decide) (by decide)) (fun c20 => ?_) (fun c20 => ?_)
      · skip
        refine lv_goto (tgt := 1223) hx hb dL_law_645 (by decide) ?_
        refine W.widen (k := cells + 6) (n := slots + 933) (by omega) (by omega) ?_
        exact kk x5 o6 r7 ra8 f9 u14 H locs ls hLI hP hD hS (lv_sub hl [2, 3, 4, 5, 6] rfl)
      · skip
        exact absurd c20 (by omega)
  · skip
    exfalso; omega
