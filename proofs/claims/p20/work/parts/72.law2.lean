/-! 72.law2: a year of the law, a part of it -/
set_option maxHeartbeats 4000000 in
set_option maxRecDepth 100000 in
theorem sg_2 {p : Program} {l : Launch} {e : Env} {s : State} {m : MethodId} {below : List Frame} {meth : Method} {c : Code} {Q : State → Prop} {b L : Nat} {xs : Nat → Int32} {G : mf_G} {A : Nat → Prop} (E : LEp p l s m meth c b L xs G A) (hL : L ≤ 260) {ho pn pa pf ae hm : Nat} {adn ada adf adm : Nat → Nat} {f : mf_V} (okf : rOK flo fhi f) (hf4 : f 4 0 = 1) (hFI : FInv f) {x : mf_V} {r : mf_V} {ra : mf_V} {u : mf_V} {ca : Nat} {nn : Nat} {qw : Nat} {qk : Nat} {qz : Nat} {wv : mf_V} {bv : mf_V} {zv : mf_V} {tv : Int} {cells slots : Nat} {H : Heap} {locs : List Loc} {ls : Array Slot} (hLQ : LQs (8 + 2 * tv) x r ra f nn u) (hb0 : ∀ c, bv 0 c = 0) (ht : 0 ≤ tv ∧ tv < 24) (hcl : cells + 750 ≤ 600104 ∧ slots + 4500 ≤ 7301314) (hP : va_P G.1 vwCl (OW G ho pn pa pf ae x ++ RW G pn adn r ++ RW G pa ada ra ++ FW G pf adf f ++ SW G hm adm ca nn u ++ AW G qw 384 wv ++ AW G qk 384 bv ++ AZ G qz 384 zv) H) (hD : va_D A (OW G ho pn pa pf ae x ++ RW G pn adn r ++ RW G pa ada ra ++ FW G pf adf f ++ SW G hm adm ca nn u ++ AW G qw 384 wv ++ AW G qk 384 bv ++ AZ G qz 384 zv)) (hS : va_S A s.heap H locs) (hl : lv_has ls 27 [(0, .ref b), (1, .ref ho), (2, .ref hm), (4, .int (iI (tv))), (6, .int (iI (r 7 0))), (7, .ref qw), (8, .ref qk), (9, .ref qz)])
    (kk : ∀ (x' : mf_V) (ra' : mf_V) (b' : mf_V), (rOK xlo xhi x') → (rOK rlo rhi ra') → (∀ c, 0 ≤ c → c < 384 → b' 0 c = msum (fun i => bP (r 13 i = c)) (r 7 0)) → ∀ (H : Heap) (locs : List Loc) (ls : Array Slot), va_P G.1 vwCl (OW G ho pn pa pf ae x' ++ RW G pn adn r ++ RW G pa ada ra' ++ FW G pf adf f ++ SW G hm adm ca nn u ++ AW G qw 384 wv ++ AW G qk 384 b' ++ AZ G qz 384 zv) H → va_D A (OW G ho pn pa pf ae x' ++ RW G pn adn r ++ RW G pa ada ra' ++ FW G pf adf f ++ SW G hm adm ca nn u ++ AW G qw 384 wv ++ AW G qk 384 b' ++ AZ G qz 384 zv) → va_S A s.heap H locs → lv_has ls 27 [(0, .ref b), (1, .ref ho), (2, .ref hm), (4, .int (iI (tv))), (6, .int (iI (r 7 0))), (7, .ref qw), (8, .ref qk), (9, .ref qz)] → W p l e room_1 s m #[Value.ref b] below meth c H locs (cells + 750) (slots + 4500) Q (F0 m 326 ls [])) :
    W p l e room_1 s m #[Value.ref b] below meth c H locs cells slots Q (F0 m 245 ls []) := by
  obtain ⟨hx, hb, hr, hml, hown, hts, hXs, hbl, hl9, hK, hN, hSX, hCX, hZ, hA, hbA⟩ := E
  have hcR : room_1.cells = 600104 := rfl
  have hsR : room_1.slots = 7301314 := rfl
  have hinX3 := inlX3
  have hinX2 := inlX2
  obtain ⟨⟨okx, ok, okra, -⟩, hPI, hB, oku, hrel⟩ := id hLQ
  have hI := hPI.1
  have h27 := hI.1.1
  have okLr : (0 : Int) ≤ r 7 0 ∧ r 7 0 ≤ 150 := ok 7 0
  have okL8 : (0 : Int) ≤ r 8 0 ∧ r 8 0 ≤ 90000 := ok 8 0
  have okL9 : (0 : Int) ≤ r 9 0 ∧ r 9 0 ≤ 100000000 := ok 9 0
  have b9 := hB.2.1
  refine mf_iconst hx hb dL_law_245 ?_
  refine lv_istore (lv' := [(10, .int (iI (0))), (0, .ref b), (1, .ref ho), (2, .ref hm), (4, .int (iI (tv))), (6, .int (iI (r 7 0))), (7, .ref qw), (8, .ref qk), (9, .ref qz)]) hx hb dL_law_246 hl (by decide) rfl (fun ls hl => ?_)
  have lp248 : ∀ (n : Nat) (kv : Int) (xa : mf_V) (raa : mf_V) (ba : mf_V) (cc : Nat) (sc : Nat), (r 7 0 - kv).toNat < n → (0 ≤ kv ∧ kv ≤ r 7 0) → (rOK xlo xhi xa) → (rOK rlo rhi raa) → (∀ c, 0 ≤ c → c < 384 → ba 0 c = msum (fun i => bP (r 13 i = c)) kv) → ((cc : Int) ≤ cells + 5 * kv) → ((sc : Int) ≤ slots + 30 * kv) → ∀ (H : Heap) (locs : List Loc), va_P G.1 vwCl (OW G ho pn pa pf ae xa ++ RW G pn adn r ++ RW G pa ada raa ++ FW G pf adf f ++ SW G hm adm ca nn u ++ AW G qw 384 wv ++ AW G qk 384 ba ++ AZ G qz 384 zv) H → va_D A (OW G ho pn pa pf ae xa ++ RW G pn adn r ++ RW G pa ada raa ++ FW G pf adf f ++ SW G hm adm ca nn u ++ AW G qw 384 wv ++ AW G qk 384 ba ++ AZ G qz 384 zv) → va_S A s.heap H locs → ∀ (ls : Array Slot), lv_has ls 27 [(0, .ref b), (1, .ref ho), (2, .ref hm), (4, .int (iI (tv))), (6, .int (iI (r 7 0))), (7, .ref qw), (8, .ref qk), (9, .ref qz), (10, .int (iI (kv)))] → W p l e room_1 s m #[Value.ref b] below meth c H locs cc sc Q (F0 m 248 ls []) := by
    intro n
    induction n with
    | zero => intro kv xa raa ba cc sc hn; exact absurd hn (Nat.not_lt_zero _)
    | succ n ih248 =>
      intro kv xa raa ba cc sc hn hk okxa okraa hbk hcc hsc H locs hP hD hS ls hl
      refine lv_iload hx hb dL_law_248 (lv_at hl 8 rfl) ?_
      refine lv_iload hx hb dL_law_250 (lv_at hl 4 rfl) ?_
      refine mf_icmp_ge (tgt := 326) hx hb dL_law_252 (by decide) (i32_mk (by omega) (by omega)) (i32_mk (by omega) (by omega)) (fun c1 => ?_) (fun c1 => ?_)
      · skip
        refine W.widen (k := cells + 750) (n := slots + 4500) (by omega) (by omega) ?_
        exact kk xa raa ba (okxa) (okraa) (by rw [show kv = r 7 0 by omega] at hbk; exact hbk) H locs ls hP hD hS (lv_sub hl [0, 1, 2, 3, 4, 5, 6, 7] rfl)
      · skip
        refine lv_aload_n hx hb dL_law_255 rfl (lv_at hl 1 rfl) ?_
        refine lv_iload hx hb dL_law_256 (lv_at hl 8 rfl) ?_
        refine mf_iconst hx hb dL_law_258 ?_
        have hk0 : kCourse r kv 4 = 0 := by exact mf_if_f (fun q => q ⟨inC_mk (by omega) (by omega), by omega, by omega⟩)
        have hFc := va_free (wc := OW G ho pn pa pf ae xa ++ RW G pn adn r ++ RW G pa ada raa ++ FW G pf adf f) hD hS hA [0, 1, 2, 3, 4, 5, 6, 7, 8, 9, 10, 11, 12, 13, 14, 15, 16, 17, 18, 19, 20, 21, 22, 23, 24, 25, 26, 27, 28, 29, 30] sb_66a1bed9f5
        refine vx_calli (vx_runV (As := [.int (iI (kv)), .int (iI (4))]) (rest := []) ⟨hx, hb, hml, hown, hts⟩ (c_X2_course l hl9 G ho pn pa pf ae xa adn r ada raa adf f (kv) (4) (i32_mk (by omega) (by omega)) (i32_mk (by decide) (by decide)) (by assumption) (by assumption) (by assumption) (by assumption) _) (cwV 2 hts gL_law_X2_course rfl rfl rfl (by decide +kernel) ⟨Nat.le_of_ble_eq_true rfl, Nat.le_of_ble_eq_true rfl⟩) (wrVx (wc := OW G ho pn pa pf ae xa ++ RW G pn adn r ++ RW G pa ada raa ++ FW G pf adf f) hSX hCX hZ hS hFc hK hP hD hN [0, 1, 2, 3, 4, 5, 6, 7, 8, 9, 10, 11, 12, 13, 14, 15, 16, 17, 18, 19, 20, 21, 22, 23, 24, 25, 26, 27, 28, 29, 30] (by decide +kernel) sb_a4303c86f1 sb_66a1bed9f5 (ci := 2) rfl rfl) rfl rfl hl.1 rfl (lv_room (Nat.le_of_ble_eq_true rfl)) dL_law_259 ⟨(by rw [hcR]; omega), (by rw [hsR]; omega)⟩) hS (fun q _ h => hFc q h) hFc (fun q _ h => hFc q h) (fun E ce q9 _ t H1 locs ht hvm _ hB hz1 hk1 hS hce hcv hcl => ?_) (fun q2 u3 t H1 locs ht hvm hw hB hz1 hk1 hS => ?_)
        · exfalso
          have hx9 := hB.1
          rcases hx9 with ⟨-, hk9⟩ <;> omega
        obtain ⟨xa4, r5, raa6, f7⟩ := u3
        try dsimp only at hw hB
        obtain ⟨hP, hD⟩ := wrJ2 (ws := OW G ho pn pa pf ae xa ++ RW G pn adn r ++ RW G pa ada raa ++ FW G pf adf f ++ SW G hm adm ca nn u ++ AW G qw 384 wv ++ AW G qk 384 ba ++ AZ G qz 384 zv) (wc := OW G ho pn pa pf ae xa ++ RW G pn adn r ++ RW G pa ada raa ++ FW G pf adf f) (wr := SW G hm adm ca nn u ++ AW G qw 384 wv ++ AW G qk 384 ba ++ AZ G qz 384 zv) (w1 := OW G ho pn pa pf ae xa4 ++ RW G pn adn r5 ++ RW G pa ada raa6 ++ FW G pf adf f7) hP hD [0, 1, 2, 3, 4, 5, 6, 7, 8, 9, 10, 11, 12, 13, 14, 15, 16, 17, 18, 19, 20, 21, 22, 23, 24, 25, 26, 27, 28, 29, 30] [31, 32, 33, 34, 35, 36, 37, 38, 39, 40, 41] sb_66a1bed9f5 sb_4ccd58796c (by decide +kernel) (by decide +kernel) hk1 ht hFc hB
        have hP : va_P G.1 vwCl (OW G ho pn pa pf ae xa4 ++ RW G pn adn r5 ++ RW G pa ada raa6 ++ FW G pf adf f7 ++ SW G hm adm ca nn u ++ AW G qw 384 wv ++ AW G qk 384 ba ++ AZ G qz 384 zv) H1 := hP.sub [11, 12, 13, 14, 15, 16, 17, 18, 19, 20, 21, 22, 23, 24, 25, 26, 27, 28, 29, 30, 31, 32, 33, 34, 35, 36, 37, 38, 39, 40, 41, 0, 1, 2, 3, 4, 5, 6, 7, 8, 9, 10] sb_eac6f2d681
        have hD : va_D A (OW G ho pn pa pf ae xa4 ++ RW G pn adn r5 ++ RW G pa ada raa6 ++ FW G pf adf f7 ++ SW G hm adm ca nn u ++ AW G qw 384 wv ++ AW G qk 384 ba ++ AZ G qz 384 zv) := hD.sub [11, 12, 13, 14, 15, 16, 17, 18, 19, 20, 21, 22, 23, 24, 25, 26, 27, 28, 29, 30, 31, 32, 33, 34, 35, 36, 37, 38, 39, 40, 41, 0, 1, 2, 3, 4, 5, 6, 7, 8, 9, 10] (by decide +kernel) sb_e33f1c05a0
        clear hB hk1 hFc ht hz1 hvm hk0
        generalize H1 = H at hP hS ⊢
        obtain ⟨z8, rfl, -, ⟨okxa4, okr5, okraa6, okf7⟩, w10, w11, w12⟩ := hw
        have w10 := w10.symm
        subst w10
        have w11 := w11.symm
        subst w11
        subst w12
        refine mf_top (vCourse r kv 4) (r 13 kv) (by unfold vCourse; rw [if_neg (by decide)]; rw [if_neg (by decide)]; rw [if_neg (by decide)]; rw [if_neg (by decide)]) ?_
        have b_56fca1 : (-1 : Int) ≤ r 13 kv ∧ r 13 kv ≤ 383 := ok 13 kv
        skip
        refine lv_istore (lv' := [(11, .int (iI (r 13 kv))), (0, .ref b), (1, .ref ho), (2, .ref hm), (4, .int (iI (tv))), (6, .int (iI (r 7 0))), (7, .ref qw), (8, .ref qk), (9, .ref qz), (10, .int (iI (kv)))]) hx hb dL_law_262 hl (by decide) rfl (fun ls hl => ?_)
        refine lv_iload hx hb dL_law_264 (lv_at hl 0 rfl) ?_
        refine mf_if_lt (tgt := 278) hx hb dL_law_266 (by decide) (i32_mk (by omega) (by omega)) (fun c13 => ?_) (fun c13 => ?_)
        · skip
          refine lv_aload_n hx hb dL_law_278 rfl (lv_at hl 2 rfl) ?_
          refine lv_iload hx hb dL_law_279 (lv_at hl 9 rfl) ?_
          refine mf_iconst hx hb dL_law_281 ?_
          have hk0 : kCourse r kv 3 = 0 := by exact mf_if_f (fun q => q ⟨inC_mk (by omega) (by omega), by omega, by omega⟩)
          have hFc := va_free (wc := OW G ho pn pa pf ae xa4 ++ RW G pn adn r ++ RW G pa ada raa6 ++ FW G pf adf f) hD hS hA [0, 1, 2, 3, 4, 5, 6, 7, 8, 9, 10, 11, 12, 13, 14, 15, 16, 17, 18, 19, 20, 21, 22, 23, 24, 25, 26, 27, 28, 29, 30] sb_66a1bed9f5
          refine vx_calli (vx_runV (As := [.int (iI (kv)), .int (iI (3))]) (rest := []) ⟨hx, hb, hml, hown, hts⟩ (c_X2_course l hl9 G ho pn pa pf ae xa4 adn r ada raa6 adf f (kv) (3) (i32_mk (by omega) (by omega)) (i32_mk (by decide) (by decide)) (by assumption) (by assumption) (by assumption) (by assumption) _) (cwV 2 hts gL_law_X2_course rfl rfl rfl (by decide +kernel) ⟨Nat.le_of_ble_eq_true rfl, Nat.le_of_ble_eq_true rfl⟩) (wrVx (wc := OW G ho pn pa pf ae xa4 ++ RW G pn adn r ++ RW G pa ada raa6 ++ FW G pf adf f) hSX hCX hZ hS hFc hK hP hD hN [0, 1, 2, 3, 4, 5, 6, 7, 8, 9, 10, 11, 12, 13, 14, 15, 16, 17, 18, 19, 20, 21, 22, 23, 24, 25, 26, 27, 28, 29, 30] (by decide +kernel) sb_a4303c86f1 sb_66a1bed9f5 (ci := 2) rfl rfl) rfl rfl hl.1 rfl (lv_room (Nat.le_of_ble_eq_true rfl)) dL_law_282 ⟨(by rw [hcR]; omega), (by rw [hsR]; omega)⟩) hS (fun q _ h => hFc q h) hFc (fun q _ h => hFc q h) (fun E ce q9 _ t H1 locs ht hvm _ hB hz1 hk1 hS hce hcv hcl => ?_) (fun q14 u15 t H1 locs ht hvm hw hB hz1 hk1 hS => ?_)
          · exfalso
            have hx9 := hB.1
            rcases hx9 with ⟨-, hk9⟩ <;> omega
          obtain ⟨xa16, r17, raa18, f19⟩ := u15
          try dsimp only at hw hB
          obtain ⟨hP, hD⟩ := wrJ2 (ws := OW G ho pn pa pf ae xa4 ++ RW G pn adn r ++ RW G pa ada raa6 ++ FW G pf adf f ++ SW G hm adm ca nn u ++ AW G qw 384 wv ++ AW G qk 384 ba ++ AZ G qz 384 zv) (wc := OW G ho pn pa pf ae xa4 ++ RW G pn adn r ++ RW G pa ada raa6 ++ FW G pf adf f) (wr := SW G hm adm ca nn u ++ AW G qw 384 wv ++ AW G qk 384 ba ++ AZ G qz 384 zv) (w1 := OW G ho pn pa pf ae xa16 ++ RW G pn adn r17 ++ RW G pa ada raa18 ++ FW G pf adf f19) hP hD [0, 1, 2, 3, 4, 5, 6, 7, 8, 9, 10, 11, 12, 13, 14, 15, 16, 17, 18, 19, 20, 21, 22, 23, 24, 25, 26, 27, 28, 29, 30] [31, 32, 33, 34, 35, 36, 37, 38, 39, 40, 41] sb_66a1bed9f5 sb_4ccd58796c (by decide +kernel) (by decide +kernel) hk1 ht hFc hB
          have hP : va_P G.1 vwCl (OW G ho pn pa pf ae xa16 ++ RW G pn adn r17 ++ RW G pa ada raa18 ++ FW G pf adf f19 ++ SW G hm adm ca nn u ++ AW G qw 384 wv ++ AW G qk 384 ba ++ AZ G qz 384 zv) H1 := hP.sub [11, 12, 13, 14, 15, 16, 17, 18, 19, 20, 21, 22, 23, 24, 25, 26, 27, 28, 29, 30, 31, 32, 33, 34, 35, 36, 37, 38, 39, 40, 41, 0, 1, 2, 3, 4, 5, 6, 7, 8, 9, 10] sb_eac6f2d681
          have hD : va_D A (OW G ho pn pa pf ae xa16 ++ RW G pn adn r17 ++ RW G pa ada raa18 ++ FW G pf adf f19 ++ SW G hm adm ca nn u ++ AW G qw 384 wv ++ AW G qk 384 ba ++ AZ G qz 384 zv) := hD.sub [11, 12, 13, 14, 15, 16, 17, 18, 19, 20, 21, 22, 23, 24, 25, 26, 27, 28, 29, 30, 31, 32, 33, 34, 35, 36, 37, 38, 39, 40, 41, 0, 1, 2, 3, 4, 5, 6, 7, 8, 9, 10] (by decide +kernel) sb_e33f1c05a0
          clear hB hk1 hFc ht hz1 hvm hk0
          generalize H1 = H at hP hS ⊢
          obtain ⟨z20, rfl, -, ⟨okxa16, okr17, okraa18, okf19⟩, w22, w23, w24⟩ := hw
          have w22 := w22.symm
          subst w22
          have w23 := w23.symm
          subst w23
          subst w24
          refine mf_top (vCourse r kv 3) (r 12 kv) (by unfold vCourse; rw [if_neg (by decide)]; rw [if_neg (by decide)]; rw [if_neg (by decide)]; rw [if_pos rfl]) ?_
          have b_7570e1 : (-1 : Int) ≤ r 12 kv ∧ r 12 kv ≤ 3 := ok 12 kv
          skip
          refine mf_if_lt (tgt := 320) hx hb dL_law_285 (by decide) (i32_mk (by omega) (by omega)) (fun c25 => ?_) (fun c25 => ?_)
          · skip
            refine lv_iinc (v := iI (kv + 1)) (lv' := [(10, .int (iI (kv + 1))), (11, .int (iI (r 13 kv))), (0, .ref b), (1, .ref ho), (2, .ref hm), (4, .int (iI (tv))), (6, .int (iI (r 7 0))), (7, .ref qw), (8, .ref qk), (9, .ref qz)]) hx hb dL_law_320 hl (k := 9) rfl (iI_add _ _).symm (by decide) rfl (fun ls hl => ?_)
            refine lv_goto (tgt := 248) hx hb dL_law_323 (by decide) ?_
            exact ih248 (kv + 1) xa16 raa18 ba (cc + 2) (sc + 12) (by omega) (by first | assumption | omega) (by first | assumption | omega) (by first | assumption | omega) (by intro c c0 c1; rw [msum_s _ (by omega), bP_f (by omega), Int.add_zero]; exact hbk c c0 c1) (by first | assumption | omega) (by first | assumption | omega) _ _ hP hD hS ls (lv_sub hl [2, 3, 4, 5, 6, 7, 8, 9, 0] rfl)
          · skip
            have ta := thr_across ok hI hk.1 (by omega) (show ¬ r 12 kv = -1 by omega)
            have tb := ta.1
            unfold strP at tb
            have td := dirW hI (i := kv) (by omega) (by omega)
            refine lv_aload_n hx hb dL_law_288 rfl (lv_at hl 2 rfl) ?_
            refine lv_iload hx hb dL_law_289 (lv_at hl 9 rfl) ?_
            refine mf_iconst hx hb dL_law_291 ?_
            have hk0 : kCourse r kv 2 = 0 := by exact mf_if_f (fun q => q ⟨inC_mk (by omega) (by omega), by omega, by omega⟩)
            have hFc := va_free (wc := OW G ho pn pa pf ae xa16 ++ RW G pn adn r ++ RW G pa ada raa18 ++ FW G pf adf f) hD hS hA [0, 1, 2, 3, 4, 5, 6, 7, 8, 9, 10, 11, 12, 13, 14, 15, 16, 17, 18, 19, 20, 21, 22, 23, 24, 25, 26, 27, 28, 29, 30] sb_66a1bed9f5
            refine vx_calli (vx_runV (As := [.int (iI (kv)), .int (iI (2))]) (rest := []) ⟨hx, hb, hml, hown, hts⟩ (c_X2_course l hl9 G ho pn pa pf ae xa16 adn r ada raa18 adf f (kv) (2) (i32_mk (by omega) (by omega)) (i32_mk (by decide) (by decide)) (by assumption) (by assumption) (by assumption) (by assumption) _) (cwV 2 hts gL_law_X2_course rfl rfl rfl (by decide +kernel) ⟨Nat.le_of_ble_eq_true rfl, Nat.le_of_ble_eq_true rfl⟩) (wrVx (wc := OW G ho pn pa pf ae xa16 ++ RW G pn adn r ++ RW G pa ada raa18 ++ FW G pf adf f) hSX hCX hZ hS hFc hK hP hD hN [0, 1, 2, 3, 4, 5, 6, 7, 8, 9, 10, 11, 12, 13, 14, 15, 16, 17, 18, 19, 20, 21, 22, 23, 24, 25, 26, 27, 28, 29, 30] (by decide +kernel) sb_a4303c86f1 sb_66a1bed9f5 (ci := 2) rfl rfl) rfl rfl hl.1 rfl (lv_room (Nat.le_of_ble_eq_true rfl)) dL_law_292 ⟨(by rw [hcR]; omega), (by rw [hsR]; omega)⟩) hS (fun q _ h => hFc q h) hFc (fun q _ h => hFc q h) (fun E ce q9 _ t H1 locs ht hvm _ hB hz1 hk1 hS hce hcv hcl => ?_) (fun q26 u27 t H1 locs ht hvm hw hB hz1 hk1 hS => ?_)
            · exfalso
              have hx9 := hB.1
              rcases hx9 with ⟨-, hk9⟩ <;> omega
            obtain ⟨xa28, r29, raa30, f31⟩ := u27
            try dsimp only at hw hB
            obtain ⟨hP, hD⟩ := wrJ2 (ws := OW G ho pn pa pf ae xa16 ++ RW G pn adn r ++ RW G pa ada raa18 ++ FW G pf adf f ++ SW G hm adm ca nn u ++ AW G qw 384 wv ++ AW G qk 384 ba ++ AZ G qz 384 zv) (wc := OW G ho pn pa pf ae xa16 ++ RW G pn adn r ++ RW G pa ada raa18 ++ FW G pf adf f) (wr := SW G hm adm ca nn u ++ AW G qw 384 wv ++ AW G qk 384 ba ++ AZ G qz 384 zv) (w1 := OW G ho pn pa pf ae xa28 ++ RW G pn adn r29 ++ RW G pa ada raa30 ++ FW G pf adf f31) hP hD [0, 1, 2, 3, 4, 5, 6, 7, 8, 9, 10, 11, 12, 13, 14, 15, 16, 17, 18, 19, 20, 21, 22, 23, 24, 25, 26, 27, 28, 29, 30] [31, 32, 33, 34, 35, 36, 37, 38, 39, 40, 41] sb_66a1bed9f5 sb_4ccd58796c (by decide +kernel) (by decide +kernel) hk1 ht hFc hB
            have hP : va_P G.1 vwCl (OW G ho pn pa pf ae xa28 ++ RW G pn adn r29 ++ RW G pa ada raa30 ++ FW G pf adf f31 ++ SW G hm adm ca nn u ++ AW G qw 384 wv ++ AW G qk 384 ba ++ AZ G qz 384 zv) H1 := hP.sub [11, 12, 13, 14, 15, 16, 17, 18, 19, 20, 21, 22, 23, 24, 25, 26, 27, 28, 29, 30, 31, 32, 33, 34, 35, 36, 37, 38, 39, 40, 41, 0, 1, 2, 3, 4, 5, 6, 7, 8, 9, 10] sb_eac6f2d681
            have hD : va_D A (OW G ho pn pa pf ae xa28 ++ RW G pn adn r29 ++ RW G pa ada raa30 ++ FW G pf adf f31 ++ SW G hm adm ca nn u ++ AW G qw 384 wv ++ AW G qk 384 ba ++ AZ G qz 384 zv) := hD.sub [11, 12, 13, 14, 15, 16, 17, 18, 19, 20, 21, 22, 23, 24, 25, 26, 27, 28, 29, 30, 31, 32, 33, 34, 35, 36, 37, 38, 39, 40, 41, 0, 1, 2, 3, 4, 5, 6, 7, 8, 9, 10] (by decide +kernel) sb_e33f1c05a0
            clear hB hk1 hFc ht hz1 hvm hk0
            generalize H1 = H at hP hS ⊢
            obtain ⟨z32, rfl, -, ⟨okxa28, okr29, okraa30, okf31⟩, w34, w35, w36⟩ := hw
            have w34 := w34.symm
            subst w34
            have w35 := w35.symm
            subst w35
            subst w36
            refine mf_top (vCourse r kv 2) (bP (strP r kv)) (by unfold vCourse; rw [if_neg (by decide)]; rw [if_neg (by decide)]; rw [if_pos rfl]) ?_
            skip
            refine mf_bp_eq (tgt := 318) hx hb dL_law_295 (by decide) (fun c37 => ?_) (fun c37 => ?_)
            · skip
              exact absurd ta.1 c37
            · skip
              have c37' := c37; unfold strP at c37'
              refine lv_aload_n hx hb dL_law_298 rfl (lv_at hl 2 rfl) ?_
              refine lv_iload hx hb dL_law_299 (lv_at hl 9 rfl) ?_
              refine mf_iconst hx hb dL_law_301 ?_
              have hk0 : kCourse r kv 3 = 0 := by exact mf_if_f (fun q => q ⟨inC_mk (by omega) (by omega), by omega, by omega⟩)
              have hFc := va_free (wc := OW G ho pn pa pf ae xa28 ++ RW G pn adn r ++ RW G pa ada raa30 ++ FW G pf adf f) hD hS hA [0, 1, 2, 3, 4, 5, 6, 7, 8, 9, 10, 11, 12, 13, 14, 15, 16, 17, 18, 19, 20, 21, 22, 23, 24, 25, 26, 27, 28, 29, 30] sb_66a1bed9f5
              refine vx_calli (vx_runV (As := [.int (iI (kv)), .int (iI (3))]) (rest := []) ⟨hx, hb, hml, hown, hts⟩ (c_X2_course l hl9 G ho pn pa pf ae xa28 adn r ada raa30 adf f (kv) (3) (i32_mk (by omega) (by omega)) (i32_mk (by decide) (by decide)) (by assumption) (by assumption) (by assumption) (by assumption) _) (cwV 2 hts gL_law_X2_course rfl rfl rfl (by decide +kernel) ⟨Nat.le_of_ble_eq_true rfl, Nat.le_of_ble_eq_true rfl⟩) (wrVx (wc := OW G ho pn pa pf ae xa28 ++ RW G pn adn r ++ RW G pa ada raa30 ++ FW G pf adf f) hSX hCX hZ hS hFc hK hP hD hN [0, 1, 2, 3, 4, 5, 6, 7, 8, 9, 10, 11, 12, 13, 14, 15, 16, 17, 18, 19, 20, 21, 22, 23, 24, 25, 26, 27, 28, 29, 30] (by decide +kernel) sb_a4303c86f1 sb_66a1bed9f5 (ci := 2) rfl rfl) rfl rfl hl.1 rfl (lv_room (Nat.le_of_ble_eq_true rfl)) dL_law_302 ⟨(by rw [hcR]; omega), (by rw [hsR]; omega)⟩) hS (fun q _ h => hFc q h) hFc (fun q _ h => hFc q h) (fun E ce q9 _ t H1 locs ht hvm _ hB hz1 hk1 hS hce hcv hcl => ?_) (fun q38 u39 t H1 locs ht hvm hw hB hz1 hk1 hS => ?_)
              · exfalso
                have hx9 := hB.1
                rcases hx9 with ⟨-, hk9⟩ <;> omega
              obtain ⟨xa40, r41, raa42, f43⟩ := u39
              try dsimp only at hw hB
              obtain ⟨hP, hD⟩ := wrJ2 (ws := OW G ho pn pa pf ae xa28 ++ RW G pn adn r ++ RW G pa ada raa30 ++ FW G pf adf f ++ SW G hm adm ca nn u ++ AW G qw 384 wv ++ AW G qk 384 ba ++ AZ G qz 384 zv) (wc := OW G ho pn pa pf ae xa28 ++ RW G pn adn r ++ RW G pa ada raa30 ++ FW G pf adf f) (wr := SW G hm adm ca nn u ++ AW G qw 384 wv ++ AW G qk 384 ba ++ AZ G qz 384 zv) (w1 := OW G ho pn pa pf ae xa40 ++ RW G pn adn r41 ++ RW G pa ada raa42 ++ FW G pf adf f43) hP hD [0, 1, 2, 3, 4, 5, 6, 7, 8, 9, 10, 11, 12, 13, 14, 15, 16, 17, 18, 19, 20, 21, 22, 23, 24, 25, 26, 27, 28, 29, 30] [31, 32, 33, 34, 35, 36, 37, 38, 39, 40, 41] sb_66a1bed9f5 sb_4ccd58796c (by decide +kernel) (by decide +kernel) hk1 ht hFc hB
              have hP : va_P G.1 vwCl (OW G ho pn pa pf ae xa40 ++ RW G pn adn r41 ++ RW G pa ada raa42 ++ FW G pf adf f43 ++ SW G hm adm ca nn u ++ AW G qw 384 wv ++ AW G qk 384 ba ++ AZ G qz 384 zv) H1 := hP.sub [11, 12, 13, 14, 15, 16, 17, 18, 19, 20, 21, 22, 23, 24, 25, 26, 27, 28, 29, 30, 31, 32, 33, 34, 35, 36, 37, 38, 39, 40, 41, 0, 1, 2, 3, 4, 5, 6, 7, 8, 9, 10] sb_eac6f2d681
              have hD : va_D A (OW G ho pn pa pf ae xa40 ++ RW G pn adn r41 ++ RW G pa ada raa42 ++ FW G pf adf f43 ++ SW G hm adm ca nn u ++ AW G qw 384 wv ++ AW G qk 384 ba ++ AZ G qz 384 zv) := hD.sub [11, 12, 13, 14, 15, 16, 17, 18, 19, 20, 21, 22, 23, 24, 25, 26, 27, 28, 29, 30, 31, 32, 33, 34, 35, 36, 37, 38, 39, 40, 41, 0, 1, 2, 3, 4, 5, 6, 7, 8, 9, 10] (by decide +kernel) sb_e33f1c05a0
              clear hB hk1 hFc ht hz1 hvm hk0
              generalize H1 = H at hP hS ⊢
              obtain ⟨z44, rfl, -, ⟨okxa40, okr41, okraa42, okf43⟩, w46, w47, w48⟩ := hw
              have w46 := w46.symm
              subst w46
              have w47 := w47.symm
              subst w47
              subst w48
              refine mf_top (vCourse r kv 3) (r 12 kv) (by unfold vCourse; rw [if_neg (by decide)]; rw [if_neg (by decide)]; rw [if_neg (by decide)]; rw [if_pos rfl]) ?_
              skip
              refine lv_aload_n hx hb dL_law_305 rfl (lv_at hl 2 rfl) ?_
              refine lv_iload hx hb dL_law_306 (lv_at hl 9 rfl) ?_
              refine mf_iconst hx hb dL_law_308 ?_
              have hk0 : kCourse r kv 1 = 0 := by exact mf_if_f (fun q => q ⟨inC_mk (by omega) (by omega), by omega, by omega⟩)
              have hFc := va_free (wc := OW G ho pn pa pf ae xa40 ++ RW G pn adn r ++ RW G pa ada raa42 ++ FW G pf adf f) hD hS hA [0, 1, 2, 3, 4, 5, 6, 7, 8, 9, 10, 11, 12, 13, 14, 15, 16, 17, 18, 19, 20, 21, 22, 23, 24, 25, 26, 27, 28, 29, 30] sb_66a1bed9f5
              refine vx_calli (vx_runV (As := [.int (iI (kv)), .int (iI (1))]) (rest := [.int (iI (r 12 kv))]) ⟨hx, hb, hml, hown, hts⟩ (c_X2_course l hl9 G ho pn pa pf ae xa40 adn r ada raa42 adf f (kv) (1) (i32_mk (by omega) (by omega)) (i32_mk (by decide) (by decide)) (by assumption) (by assumption) (by assumption) (by assumption) _) (cwV 2 hts gL_law_X2_course rfl rfl rfl (by decide +kernel) ⟨Nat.le_of_ble_eq_true rfl, Nat.le_of_ble_eq_true rfl⟩) (wrVx (wc := OW G ho pn pa pf ae xa40 ++ RW G pn adn r ++ RW G pa ada raa42 ++ FW G pf adf f) hSX hCX hZ hS hFc hK hP hD hN [0, 1, 2, 3, 4, 5, 6, 7, 8, 9, 10, 11, 12, 13, 14, 15, 16, 17, 18, 19, 20, 21, 22, 23, 24, 25, 26, 27, 28, 29, 30] (by decide +kernel) sb_a4303c86f1 sb_66a1bed9f5 (ci := 2) rfl rfl) rfl rfl hl.1 rfl (lv_room (Nat.le_of_ble_eq_true rfl)) dL_law_309 ⟨(by rw [hcR]; omega), (by rw [hsR]; omega)⟩) hS (fun q _ h => hFc q h) hFc (fun q _ h => hFc q h) (fun E ce q9 _ t H1 locs ht hvm _ hB hz1 hk1 hS hce hcv hcl => ?_) (fun q49 u50 t H1 locs ht hvm hw hB hz1 hk1 hS => ?_)
              · exfalso
                have hx9 := hB.1
                rcases hx9 with ⟨-, hk9⟩ <;> omega
              obtain ⟨xa51, r52, raa53, f54⟩ := u50
              try dsimp only at hw hB
              obtain ⟨hP, hD⟩ := wrJ2 (ws := OW G ho pn pa pf ae xa40 ++ RW G pn adn r ++ RW G pa ada raa42 ++ FW G pf adf f ++ SW G hm adm ca nn u ++ AW G qw 384 wv ++ AW G qk 384 ba ++ AZ G qz 384 zv) (wc := OW G ho pn pa pf ae xa40 ++ RW G pn adn r ++ RW G pa ada raa42 ++ FW G pf adf f) (wr := SW G hm adm ca nn u ++ AW G qw 384 wv ++ AW G qk 384 ba ++ AZ G qz 384 zv) (w1 := OW G ho pn pa pf ae xa51 ++ RW G pn adn r52 ++ RW G pa ada raa53 ++ FW G pf adf f54) hP hD [0, 1, 2, 3, 4, 5, 6, 7, 8, 9, 10, 11, 12, 13, 14, 15, 16, 17, 18, 19, 20, 21, 22, 23, 24, 25, 26, 27, 28, 29, 30] [31, 32, 33, 34, 35, 36, 37, 38, 39, 40, 41] sb_66a1bed9f5 sb_4ccd58796c (by decide +kernel) (by decide +kernel) hk1 ht hFc hB
              have hP : va_P G.1 vwCl (OW G ho pn pa pf ae xa51 ++ RW G pn adn r52 ++ RW G pa ada raa53 ++ FW G pf adf f54 ++ SW G hm adm ca nn u ++ AW G qw 384 wv ++ AW G qk 384 ba ++ AZ G qz 384 zv) H1 := hP.sub [11, 12, 13, 14, 15, 16, 17, 18, 19, 20, 21, 22, 23, 24, 25, 26, 27, 28, 29, 30, 31, 32, 33, 34, 35, 36, 37, 38, 39, 40, 41, 0, 1, 2, 3, 4, 5, 6, 7, 8, 9, 10] sb_eac6f2d681
              have hD : va_D A (OW G ho pn pa pf ae xa51 ++ RW G pn adn r52 ++ RW G pa ada raa53 ++ FW G pf adf f54 ++ SW G hm adm ca nn u ++ AW G qw 384 wv ++ AW G qk 384 ba ++ AZ G qz 384 zv) := hD.sub [11, 12, 13, 14, 15, 16, 17, 18, 19, 20, 21, 22, 23, 24, 25, 26, 27, 28, 29, 30, 31, 32, 33, 34, 35, 36, 37, 38, 39, 40, 41, 0, 1, 2, 3, 4, 5, 6, 7, 8, 9, 10] (by decide +kernel) sb_e33f1c05a0
              clear hB hk1 hFc ht hz1 hvm hk0
              generalize H1 = H at hP hS ⊢
              obtain ⟨z55, rfl, -, ⟨okxa51, okr52, okraa53, okf54⟩, w57, w58, w59⟩ := hw
              have w57 := w57.symm
              subst w57
              have w58 := w58.symm
              subst w58
              subst w59
              refine mf_top (vCourse r kv 1) (r 11 kv) (by unfold vCourse; rw [if_neg (by decide)]; rw [if_pos rfl]) ?_
              skip
              refine mf_iadd hx hb dL_law_312 ?_
              refine mf_iconst hx hb dL_law_313 ?_
              refine mf_irem hx hb dL_law_314 (i32_mk (by omega) (by omega)) (by omega) (i32_mk (by decide) (by decide)) (by omega) ?_
              refine mf_if_ne (tgt := 320) hx hb dL_law_315 (by decide) (i32_mk (by omega) (by omega)) (fun c60 => ?_) (fun c60 => ?_)
              · skip
                refine lv_iinc (v := iI (kv + 1)) (lv' := [(10, .int (iI (kv + 1))), (11, .int (iI (r 13 kv))), (0, .ref b), (1, .ref ho), (2, .ref hm), (4, .int (iI (tv))), (6, .int (iI (r 7 0))), (7, .ref qw), (8, .ref qk), (9, .ref qz)]) hx hb dL_law_320 hl (k := 9) rfl (iI_add _ _).symm (by decide) rfl (fun ls hl => ?_)
                refine lv_goto (tgt := 248) hx hb dL_law_323 (by decide) ?_
                exact ih248 (kv + 1) xa51 raa53 ba (cc + 5) (sc + 30) (by omega) (by first | assumption | omega) (by first | assumption | omega) (by first | assumption | omega) (by intro c c0 c1; rw [msum_s _ (by omega), bP_f (by omega), Int.add_zero]; exact hbk c c0 c1) (by first | assumption | omega) (by first | assumption | omega) _ _ hP hD hS ls (lv_sub hl [2, 3, 4, 5, 6, 7, 8, 9, 0] rfl)
              · skip
                exfalso; omega
        · skip
          refine lv_aload hx hb dL_law_269 (lv_at hl 7 rfl) ?_
          refine lv_iload hx hb dL_law_271 (lv_at hl 0 rfl) ?_
          refine lv_dup2_11 hx hb dL_law_273 rfl rfl ?_
          refine mf_iald (n := 384) (f := ba 0) hx hb hK hP 40 0 rfl rfl (z := r 13 kv) (by omega) (by omega) (by first | decide | omega) dL_law_274 ?_
          refine mf_iconst hx hb dL_law_275 ?_
          refine mf_iadd hx hb dL_law_276 ?_
          refine mf_iast (n := 384) (f := ba 0) hx hb hK hP hD hS 40 0 rfl rfl (z := r 13 kv) (x := (ba 0 (r 13 kv)) + 1) (by omega) (by omega) (by first | decide | omega) dL_law_277 (fun H locs hP hD hS => ?_)
          obtain ⟨ba61, eba61⟩ : ∃ z9 : mf_V, z9 = mf_sF ba 0 (mf_up (ba 0) (r 13 kv) ((ba 0 (r 13 kv)) + 1)) := ⟨_, rfl⟩
          have hP : va_P G.1 vwCl (OW G ho pn pa pf ae xa4 ++ RW G pn adn r ++ RW G pa ada raa6 ++ FW G pf adf f ++ SW G hm adm ca nn u ++ AW G qw 384 wv ++ AW G qk 384 ba61 ++ AZ G qz 384 zv) H := by rw [eba61]; exact hP
          have hD : va_D A (OW G ho pn pa pf ae xa4 ++ RW G pn adn r ++ RW G pa ada raa6 ++ FW G pf adf f ++ SW G hm adm ca nn u ++ AW G qw 384 wv ++ AW G qk 384 ba61 ++ AZ G qz 384 zv) := by rw [eba61]; exact hD
          have f1_ba61 : ba61 0 (r 13 kv) = (ba 0 (r 13 kv)) + 1 := by rw [eba61, mf_sF_s, mf_up_s]
          have f2_ba61 : ∀ y, y ≠ (r 13 kv) → ba61 0 y = ba 0 y := fun y hy => by rw [eba61, mf_sF_s, mf_up_n hy]
          have f3_ba61 : ∀ q, q ≠ 0 → ba61 q = ba q := fun q hq => by rw [eba61, mf_sF_n hq]
          refine lv_aload_n hx hb dL_law_278 rfl (lv_at hl 2 rfl) ?_
          refine lv_iload hx hb dL_law_279 (lv_at hl 9 rfl) ?_
          refine mf_iconst hx hb dL_law_281 ?_
          have hk0 : kCourse r kv 3 = 0 := by exact mf_if_f (fun q => q ⟨inC_mk (by omega) (by omega), by omega, by omega⟩)
          have hFc := va_free (wc := OW G ho pn pa pf ae xa4 ++ RW G pn adn r ++ RW G pa ada raa6 ++ FW G pf adf f) hD hS hA [0, 1, 2, 3, 4, 5, 6, 7, 8, 9, 10, 11, 12, 13, 14, 15, 16, 17, 18, 19, 20, 21, 22, 23, 24, 25, 26, 27, 28, 29, 30] sb_66a1bed9f5
          refine vx_calli (vx_runV (As := [.int (iI (kv)), .int (iI (3))]) (rest := []) ⟨hx, hb, hml, hown, hts⟩ (c_X2_course l hl9 G ho pn pa pf ae xa4 adn r ada raa6 adf f (kv) (3) (i32_mk (by omega) (by omega)) (i32_mk (by decide) (by decide)) (by assumption) (by assumption) (by assumption) (by assumption) _) (cwV 2 hts gL_law_X2_course rfl rfl rfl (by decide +kernel) ⟨Nat.le_of_ble_eq_true rfl, Nat.le_of_ble_eq_true rfl⟩) (wrVx (wc := OW G ho pn pa pf ae xa4 ++ RW G pn adn r ++ RW G pa ada raa6 ++ FW G pf adf f) hSX hCX hZ hS hFc hK hP hD hN [0, 1, 2, 3, 4, 5, 6, 7, 8, 9, 10, 11, 12, 13, 14, 15, 16, 17, 18, 19, 20, 21, 22, 23, 24, 25, 26, 27, 28, 29, 30] (by decide +kernel) sb_a4303c86f1 sb_66a1bed9f5 (ci := 2) rfl rfl) rfl rfl hl.1 rfl (lv_room (Nat.le_of_ble_eq_true rfl)) dL_law_282 ⟨(by rw [hcR]; omega), (by rw [hsR]; omega)⟩) hS (fun q _ h => hFc q h) hFc (fun q _ h => hFc q h) (fun E ce q9 _ t H1 locs ht hvm _ hB hz1 hk1 hS hce hcv hcl => ?_) (fun q62 u63 t H1 locs ht hvm hw hB hz1 hk1 hS => ?_)
          · exfalso
            have hx9 := hB.1
            rcases hx9 with ⟨-, hk9⟩ <;> omega
          obtain ⟨xa64, r65, raa66, f67⟩ := u63
          try dsimp only at hw hB
          obtain ⟨hP, hD⟩ := wrJ2 (ws := OW G ho pn pa pf ae xa4 ++ RW G pn adn r ++ RW G pa ada raa6 ++ FW G pf adf f ++ SW G hm adm ca nn u ++ AW G qw 384 wv ++ AW G qk 384 ba61 ++ AZ G qz 384 zv) (wc := OW G ho pn pa pf ae xa4 ++ RW G pn adn r ++ RW G pa ada raa6 ++ FW G pf adf f) (wr := SW G hm adm ca nn u ++ AW G qw 384 wv ++ AW G qk 384 ba61 ++ AZ G qz 384 zv) (w1 := OW G ho pn pa pf ae xa64 ++ RW G pn adn r65 ++ RW G pa ada raa66 ++ FW G pf adf f67) hP hD [0, 1, 2, 3, 4, 5, 6, 7, 8, 9, 10, 11, 12, 13, 14, 15, 16, 17, 18, 19, 20, 21, 22, 23, 24, 25, 26, 27, 28, 29, 30] [31, 32, 33, 34, 35, 36, 37, 38, 39, 40, 41] sb_66a1bed9f5 sb_4ccd58796c (by decide +kernel) (by decide +kernel) hk1 ht hFc hB
          have hP : va_P G.1 vwCl (OW G ho pn pa pf ae xa64 ++ RW G pn adn r65 ++ RW G pa ada raa66 ++ FW G pf adf f67 ++ SW G hm adm ca nn u ++ AW G qw 384 wv ++ AW G qk 384 ba61 ++ AZ G qz 384 zv) H1 := hP.sub [11, 12, 13, 14, 15, 16, 17, 18, 19, 20, 21, 22, 23, 24, 25, 26, 27, 28, 29, 30, 31, 32, 33, 34, 35, 36, 37, 38, 39, 40, 41, 0, 1, 2, 3, 4, 5, 6, 7, 8, 9, 10] sb_eac6f2d681
          have hD : va_D A (OW G ho pn pa pf ae xa64 ++ RW G pn adn r65 ++ RW G pa ada raa66 ++ FW G pf adf f67 ++ SW G hm adm ca nn u ++ AW G qw 384 wv ++ AW G qk 384 ba61 ++ AZ G qz 384 zv) := hD.sub [11, 12, 13, 14, 15, 16, 17, 18, 19, 20, 21, 22, 23, 24, 25, 26, 27, 28, 29, 30, 31, 32, 33, 34, 35, 36, 37, 38, 39, 40, 41, 0, 1, 2, 3, 4, 5, 6, 7, 8, 9, 10] (by decide +kernel) sb_e33f1c05a0
          clear hB hk1 hFc ht hz1 hvm hk0
          generalize H1 = H at hP hS ⊢
          obtain ⟨z68, rfl, -, ⟨okxa64, okr65, okraa66, okf67⟩, w70, w71, w72⟩ := hw
          have w70 := w70.symm
          subst w70
          have w71 := w71.symm
          subst w71
          subst w72
          refine mf_top (vCourse r kv 3) (r 12 kv) (by unfold vCourse; rw [if_neg (by decide)]; rw [if_neg (by decide)]; rw [if_neg (by decide)]; rw [if_pos rfl]) ?_
          have b_7570e1 : (-1 : Int) ≤ r 12 kv ∧ r 12 kv ≤ 3 := ok 12 kv
          skip
          refine mf_if_lt (tgt := 320) hx hb dL_law_285 (by decide) (i32_mk (by omega) (by omega)) (fun c73 => ?_) (fun c73 => ?_)
          · skip
            refine lv_iinc (v := iI (kv + 1)) (lv' := [(10, .int (iI (kv + 1))), (11, .int (iI (r 13 kv))), (0, .ref b), (1, .ref ho), (2, .ref hm), (4, .int (iI (tv))), (6, .int (iI (r 7 0))), (7, .ref qw), (8, .ref qk), (9, .ref qz)]) hx hb dL_law_320 hl (k := 9) rfl (iI_add _ _).symm (by decide) rfl (fun ls hl => ?_)
            refine lv_goto (tgt := 248) hx hb dL_law_323 (by decide) ?_
            exact ih248 (kv + 1) xa64 raa66 ba61 (cc + 2) (sc + 12) (by omega) (by first | assumption | omega) (by first | assumption | omega) (by first | assumption | omega) (by intro c c0 c1; rw [msum_s _ (by omega)]; by_cases z : c = r 13 kv; (rw [z, f1_ba61, bP_t (P := r 13 kv = r 13 kv) rfl, hbk _ (by omega) (by omega)]); (rw [f2_ba61 c z, bP_f (P := r 13 kv = c) (fun y => z y.symm), Int.add_zero]; exact hbk c c0 c1)) (by first | assumption | omega) (by first | assumption | omega) _ _ hP hD hS ls (lv_sub hl [2, 3, 4, 5, 6, 7, 8, 9, 0] rfl)
          · skip
            have ta := thr_across ok hI hk.1 (by omega) (show ¬ r 12 kv = -1 by omega)
            have tb := ta.1
            unfold strP at tb
            have td := dirW hI (i := kv) (by omega) (by omega)
            refine lv_aload_n hx hb dL_law_288 rfl (lv_at hl 2 rfl) ?_
            refine lv_iload hx hb dL_law_289 (lv_at hl 9 rfl) ?_
            refine mf_iconst hx hb dL_law_291 ?_
            have hk0 : kCourse r kv 2 = 0 := by exact mf_if_f (fun q => q ⟨inC_mk (by omega) (by omega), by omega, by omega⟩)
            have hFc := va_free (wc := OW G ho pn pa pf ae xa64 ++ RW G pn adn r ++ RW G pa ada raa66 ++ FW G pf adf f) hD hS hA [0, 1, 2, 3, 4, 5, 6, 7, 8, 9, 10, 11, 12, 13, 14, 15, 16, 17, 18, 19, 20, 21, 22, 23, 24, 25, 26, 27, 28, 29, 30] sb_66a1bed9f5
            refine vx_calli (vx_runV (As := [.int (iI (kv)), .int (iI (2))]) (rest := []) ⟨hx, hb, hml, hown, hts⟩ (c_X2_course l hl9 G ho pn pa pf ae xa64 adn r ada raa66 adf f (kv) (2) (i32_mk (by omega) (by omega)) (i32_mk (by decide) (by decide)) (by assumption) (by assumption) (by assumption) (by assumption) _) (cwV 2 hts gL_law_X2_course rfl rfl rfl (by decide +kernel) ⟨Nat.le_of_ble_eq_true rfl, Nat.le_of_ble_eq_true rfl⟩) (wrVx (wc := OW G ho pn pa pf ae xa64 ++ RW G pn adn r ++ RW G pa ada raa66 ++ FW G pf adf f) hSX hCX hZ hS hFc hK hP hD hN [0, 1, 2, 3, 4, 5, 6, 7, 8, 9, 10, 11, 12, 13, 14, 15, 16, 17, 18, 19, 20, 21, 22, 23, 24, 25, 26, 27, 28, 29, 30] (by decide +kernel) sb_a4303c86f1 sb_66a1bed9f5 (ci := 2) rfl rfl) rfl rfl hl.1 rfl (lv_room (Nat.le_of_ble_eq_true rfl)) dL_law_292 ⟨(by rw [hcR]; omega), (by rw [hsR]; omega)⟩) hS (fun q _ h => hFc q h) hFc (fun q _ h => hFc q h) (fun E ce q9 _ t H1 locs ht hvm _ hB hz1 hk1 hS hce hcv hcl => ?_) (fun q74 u75 t H1 locs ht hvm hw hB hz1 hk1 hS => ?_)
            · exfalso
              have hx9 := hB.1
              rcases hx9 with ⟨-, hk9⟩ <;> omega
            obtain ⟨xa76, r77, raa78, f79⟩ := u75
            try dsimp only at hw hB
            obtain ⟨hP, hD⟩ := wrJ2 (ws := OW G ho pn pa pf ae xa64 ++ RW G pn adn r ++ RW G pa ada raa66 ++ FW G pf adf f ++ SW G hm adm ca nn u ++ AW G qw 384 wv ++ AW G qk 384 ba61 ++ AZ G qz 384 zv) (wc := OW G ho pn pa pf ae xa64 ++ RW G pn adn r ++ RW G pa ada raa66 ++ FW G pf adf f) (wr := SW G hm adm ca nn u ++ AW G qw 384 wv ++ AW G qk 384 ba61 ++ AZ G qz 384 zv) (w1 := OW G ho pn pa pf ae xa76 ++ RW G pn adn r77 ++ RW G pa ada raa78 ++ FW G pf adf f79) hP hD [0, 1, 2, 3, 4, 5, 6, 7, 8, 9, 10, 11, 12, 13, 14, 15, 16, 17, 18, 19, 20, 21, 22, 23, 24, 25, 26, 27, 28, 29, 30] [31, 32, 33, 34, 35, 36, 37, 38, 39, 40, 41] sb_66a1bed9f5 sb_4ccd58796c (by decide +kernel) (by decide +kernel) hk1 ht hFc hB
            have hP : va_P G.1 vwCl (OW G ho pn pa pf ae xa76 ++ RW G pn adn r77 ++ RW G pa ada raa78 ++ FW G pf adf f79 ++ SW G hm adm ca nn u ++ AW G qw 384 wv ++ AW G qk 384 ba61 ++ AZ G qz 384 zv) H1 := hP.sub [11, 12, 13, 14, 15, 16, 17, 18, 19, 20, 21, 22, 23, 24, 25, 26, 27, 28, 29, 30, 31, 32, 33, 34, 35, 36, 37, 38, 39, 40, 41, 0, 1, 2, 3, 4, 5, 6, 7, 8, 9, 10] sb_eac6f2d681
            have hD : va_D A (OW G ho pn pa pf ae xa76 ++ RW G pn adn r77 ++ RW G pa ada raa78 ++ FW G pf adf f79 ++ SW G hm adm ca nn u ++ AW G qw 384 wv ++ AW G qk 384 ba61 ++ AZ G qz 384 zv) := hD.sub [11, 12, 13, 14, 15, 16, 17, 18, 19, 20, 21, 22, 23, 24, 25, 26, 27, 28, 29, 30, 31, 32, 33, 34, 35, 36, 37, 38, 39, 40, 41, 0, 1, 2, 3, 4, 5, 6, 7, 8, 9, 10] (by decide +kernel) sb_e33f1c05a0
            clear hB hk1 hFc ht hz1 hvm hk0
            generalize H1 = H at hP hS ⊢
            obtain ⟨z80, rfl, -, ⟨okxa76, okr77, okraa78, okf79⟩, w82, w83, w84⟩ := hw
            have w82 := w82.symm
            subst w82
            have w83 := w83.symm
            subst w83
            subst w84
            refine mf_top (vCourse r kv 2) (bP (strP r kv)) (by unfold vCourse; rw [if_neg (by decide)]; rw [if_neg (by decide)]; rw [if_pos rfl]) ?_
            skip
            refine mf_bp_eq (tgt := 318) hx hb dL_law_295 (by decide) (fun c85 => ?_) (fun c85 => ?_)
            · skip
              exact absurd ta.1 c85
            · skip
              have c85' := c85; unfold strP at c85'
              refine lv_aload_n hx hb dL_law_298 rfl (lv_at hl 2 rfl) ?_
              refine lv_iload hx hb dL_law_299 (lv_at hl 9 rfl) ?_
              refine mf_iconst hx hb dL_law_301 ?_
              have hk0 : kCourse r kv 3 = 0 := by exact mf_if_f (fun q => q ⟨inC_mk (by omega) (by omega), by omega, by omega⟩)
              have hFc := va_free (wc := OW G ho pn pa pf ae xa76 ++ RW G pn adn r ++ RW G pa ada raa78 ++ FW G pf adf f) hD hS hA [0, 1, 2, 3, 4, 5, 6, 7, 8, 9, 10, 11, 12, 13, 14, 15, 16, 17, 18, 19, 20, 21, 22, 23, 24, 25, 26, 27, 28, 29, 30] sb_66a1bed9f5
              refine vx_calli (vx_runV (As := [.int (iI (kv)), .int (iI (3))]) (rest := []) ⟨hx, hb, hml, hown, hts⟩ (c_X2_course l hl9 G ho pn pa pf ae xa76 adn r ada raa78 adf f (kv) (3) (i32_mk (by omega) (by omega)) (i32_mk (by decide) (by decide)) (by assumption) (by assumption) (by assumption) (by assumption) _) (cwV 2 hts gL_law_X2_course rfl rfl rfl (by decide +kernel) ⟨Nat.le_of_ble_eq_true rfl, Nat.le_of_ble_eq_true rfl⟩) (wrVx (wc := OW G ho pn pa pf ae xa76 ++ RW G pn adn r ++ RW G pa ada raa78 ++ FW G pf adf f) hSX hCX hZ hS hFc hK hP hD hN [0, 1, 2, 3, 4, 5, 6, 7, 8, 9, 10, 11, 12, 13, 14, 15, 16, 17, 18, 19, 20, 21, 22, 23, 24, 25, 26, 27, 28, 29, 30] (by decide +kernel) sb_a4303c86f1 sb_66a1bed9f5 (ci := 2) rfl rfl) rfl rfl hl.1 rfl (lv_room (Nat.le_of_ble_eq_true rfl)) dL_law_302 ⟨(by rw [hcR]; omega), (by rw [hsR]; omega)⟩) hS (fun q _ h => hFc q h) hFc (fun q _ h => hFc q h) (fun E ce q9 _ t H1 locs ht hvm _ hB hz1 hk1 hS hce hcv hcl => ?_) (fun q86 u87 t H1 locs ht hvm hw hB hz1 hk1 hS => ?_)
              · exfalso
                have hx9 := hB.1
                rcases hx9 with ⟨-, hk9⟩ <;> omega
              obtain ⟨xa88, r89, raa90, f91⟩ := u87
              try dsimp only at hw hB
              obtain ⟨hP, hD⟩ := wrJ2 (ws := OW G ho pn pa pf ae xa76 ++ RW G pn adn r ++ RW G pa ada raa78 ++ FW G pf adf f ++ SW G hm adm ca nn u ++ AW G qw 384 wv ++ AW G qk 384 ba61 ++ AZ G qz 384 zv) (wc := OW G ho pn pa pf ae xa76 ++ RW G pn adn r ++ RW G pa ada raa78 ++ FW G pf adf f) (wr := SW G hm adm ca nn u ++ AW G qw 384 wv ++ AW G qk 384 ba61 ++ AZ G qz 384 zv) (w1 := OW G ho pn pa pf ae xa88 ++ RW G pn adn r89 ++ RW G pa ada raa90 ++ FW G pf adf f91) hP hD [0, 1, 2, 3, 4, 5, 6, 7, 8, 9, 10, 11, 12, 13, 14, 15, 16, 17, 18, 19, 20, 21, 22, 23, 24, 25, 26, 27, 28, 29, 30] [31, 32, 33, 34, 35, 36, 37, 38, 39, 40, 41] sb_66a1bed9f5 sb_4ccd58796c (by decide +kernel) (by decide +kernel) hk1 ht hFc hB
              have hP : va_P G.1 vwCl (OW G ho pn pa pf ae xa88 ++ RW G pn adn r89 ++ RW G pa ada raa90 ++ FW G pf adf f91 ++ SW G hm adm ca nn u ++ AW G qw 384 wv ++ AW G qk 384 ba61 ++ AZ G qz 384 zv) H1 := hP.sub [11, 12, 13, 14, 15, 16, 17, 18, 19, 20, 21, 22, 23, 24, 25, 26, 27, 28, 29, 30, 31, 32, 33, 34, 35, 36, 37, 38, 39, 40, 41, 0, 1, 2, 3, 4, 5, 6, 7, 8, 9, 10] sb_eac6f2d681
              have hD : va_D A (OW G ho pn pa pf ae xa88 ++ RW G pn adn r89 ++ RW G pa ada raa90 ++ FW G pf adf f91 ++ SW G hm adm ca nn u ++ AW G qw 384 wv ++ AW G qk 384 ba61 ++ AZ G qz 384 zv) := hD.sub [11, 12, 13, 14, 15, 16, 17, 18, 19, 20, 21, 22, 23, 24, 25, 26, 27, 28, 29, 30, 31, 32, 33, 34, 35, 36, 37, 38, 39, 40, 41, 0, 1, 2, 3, 4, 5, 6, 7, 8, 9, 10] (by decide +kernel) sb_e33f1c05a0
              clear hB hk1 hFc ht hz1 hvm hk0
              generalize H1 = H at hP hS ⊢
              obtain ⟨z92, rfl, -, ⟨okxa88, okr89, okraa90, okf91⟩, w94, w95, w96⟩ := hw
              have w94 := w94.symm
              subst w94
              have w95 := w95.symm
              subst w95
              subst w96
              refine mf_top (vCourse r kv 3) (r 12 kv) (by unfold vCourse; rw [if_neg (by decide)]; rw [if_neg (by decide)]; rw [if_neg (by decide)]; rw [if_pos rfl]) ?_
              skip
              refine lv_aload_n hx hb dL_law_305 rfl (lv_at hl 2 rfl) ?_
              refine lv_iload hx hb dL_law_306 (lv_at hl 9 rfl) ?_
              refine mf_iconst hx hb dL_law_308 ?_
              have hk0 : kCourse r kv 1 = 0 := by exact mf_if_f (fun q => q ⟨inC_mk (by omega) (by omega), by omega, by omega⟩)
              have hFc := va_free (wc := OW G ho pn pa pf ae xa88 ++ RW G pn adn r ++ RW G pa ada raa90 ++ FW G pf adf f) hD hS hA [0, 1, 2, 3, 4, 5, 6, 7, 8, 9, 10, 11, 12, 13, 14, 15, 16, 17, 18, 19, 20, 21, 22, 23, 24, 25, 26, 27, 28, 29, 30] sb_66a1bed9f5
              refine vx_calli (vx_runV (As := [.int (iI (kv)), .int (iI (1))]) (rest := [.int (iI (r 12 kv))]) ⟨hx, hb, hml, hown, hts⟩ (c_X2_course l hl9 G ho pn pa pf ae xa88 adn r ada raa90 adf f (kv) (1) (i32_mk (by omega) (by omega)) (i32_mk (by decide) (by decide)) (by assumption) (by assumption) (by assumption) (by assumption) _) (cwV 2 hts gL_law_X2_course rfl rfl rfl (by decide +kernel) ⟨Nat.le_of_ble_eq_true rfl, Nat.le_of_ble_eq_true rfl⟩) (wrVx (wc := OW G ho pn pa pf ae xa88 ++ RW G pn adn r ++ RW G pa ada raa90 ++ FW G pf adf f) hSX hCX hZ hS hFc hK hP hD hN [0, 1, 2, 3, 4, 5, 6, 7, 8, 9, 10, 11, 12, 13, 14, 15, 16, 17, 18, 19, 20, 21, 22, 23, 24, 25, 26, 27, 28, 29, 30] (by decide +kernel) sb_a4303c86f1 sb_66a1bed9f5 (ci := 2) rfl rfl) rfl rfl hl.1 rfl (lv_room (Nat.le_of_ble_eq_true rfl)) dL_law_309 ⟨(by rw [hcR]; omega), (by rw [hsR]; omega)⟩) hS (fun q _ h => hFc q h) hFc (fun q _ h => hFc q h) (fun E ce q9 _ t H1 locs ht hvm _ hB hz1 hk1 hS hce hcv hcl => ?_) (fun q97 u98 t H1 locs ht hvm hw hB hz1 hk1 hS => ?_)
              · exfalso
                have hx9 := hB.1
                rcases hx9 with ⟨-, hk9⟩ <;> omega
              obtain ⟨xa99, r100, raa101, f102⟩ := u98
              try dsimp only at hw hB
              obtain ⟨hP, hD⟩ := wrJ2 (ws := OW G ho pn pa pf ae xa88 ++ RW G pn adn r ++ RW G pa ada raa90 ++ FW G pf adf f ++ SW G hm adm ca nn u ++ AW G qw 384 wv ++ AW G qk 384 ba61 ++ AZ G qz 384 zv) (wc := OW G ho pn pa pf ae xa88 ++ RW G pn adn r ++ RW G pa ada raa90 ++ FW G pf adf f) (wr := SW G hm adm ca nn u ++ AW G qw 384 wv ++ AW G qk 384 ba61 ++ AZ G qz 384 zv) (w1 := OW G ho pn pa pf ae xa99 ++ RW G pn adn r100 ++ RW G pa ada raa101 ++ FW G pf adf f102) hP hD [0, 1, 2, 3, 4, 5, 6, 7, 8, 9, 10, 11, 12, 13, 14, 15, 16, 17, 18, 19, 20, 21, 22, 23, 24, 25, 26, 27, 28, 29, 30] [31, 32, 33, 34, 35, 36, 37, 38, 39, 40, 41] sb_66a1bed9f5 sb_4ccd58796c (by decide +kernel) (by decide +kernel) hk1 ht hFc hB
              have hP : va_P G.1 vwCl (OW G ho pn pa pf ae xa99 ++ RW G pn adn r100 ++ RW G pa ada raa101 ++ FW G pf adf f102 ++ SW G hm adm ca nn u ++ AW G qw 384 wv ++ AW G qk 384 ba61 ++ AZ G qz 384 zv) H1 := hP.sub [11, 12, 13, 14, 15, 16, 17, 18, 19, 20, 21, 22, 23, 24, 25, 26, 27, 28, 29, 30, 31, 32, 33, 34, 35, 36, 37, 38, 39, 40, 41, 0, 1, 2, 3, 4, 5, 6, 7, 8, 9, 10] sb_eac6f2d681
              have hD : va_D A (OW G ho pn pa pf ae xa99 ++ RW G pn adn r100 ++ RW G pa ada raa101 ++ FW G pf adf f102 ++ SW G hm adm ca nn u ++ AW G qw 384 wv ++ AW G qk 384 ba61 ++ AZ G qz 384 zv) := hD.sub [11, 12, 13, 14, 15, 16, 17, 18, 19, 20, 21, 22, 23, 24, 25, 26, 27, 28, 29, 30, 31, 32, 33, 34, 35, 36, 37, 38, 39, 40, 41, 0, 1, 2, 3, 4, 5, 6, 7, 8, 9, 10] (by decide +kernel) sb_e33f1c05a0
              clear hB hk1 hFc ht hz1 hvm hk0
              generalize H1 = H at hP hS ⊢
              obtain ⟨z103, rfl, -, ⟨okxa99, okr100, okraa101, okf102⟩, w105, w106, w107⟩ := hw
              have w105 := w105.symm
              subst w105
              have w106 := w106.symm
              subst w106
              subst w107
              refine mf_top (vCourse r kv 1) (r 11 kv) (by unfold vCourse; rw [if_neg (by decide)]; rw [if_pos rfl]) ?_
              skip
              refine mf_iadd hx hb dL_law_312 ?_
              refine mf_iconst hx hb dL_law_313 ?_
              refine mf_irem hx hb dL_law_314 (i32_mk (by omega) (by omega)) (by omega) (i32_mk (by decide) (by decide)) (by omega) ?_
              refine mf_if_ne (tgt := 320) hx hb dL_law_315 (by decide) (i32_mk (by omega) (by omega)) (fun c108 => ?_) (fun c108 => ?_)
              · skip
                refine lv_iinc (v := iI (kv + 1)) (lv' := [(10, .int (iI (kv + 1))), (11, .int (iI (r 13 kv))), (0, .ref b), (1, .ref ho), (2, .ref hm), (4, .int (iI (tv))), (6, .int (iI (r 7 0))), (7, .ref qw), (8, .ref qk), (9, .ref qz)]) hx hb dL_law_320 hl (k := 9) rfl (iI_add _ _).symm (by decide) rfl (fun ls hl => ?_)
                refine lv_goto (tgt := 248) hx hb dL_law_323 (by decide) ?_
                exact ih248 (kv + 1) xa99 raa101 ba61 (cc + 5) (sc + 30) (by omega) (by first | assumption | omega) (by first | assumption | omega) (by first | assumption | omega) (by intro c c0 c1; rw [msum_s _ (by omega)]; by_cases z : c = r 13 kv; (rw [z, f1_ba61, bP_t (P := r 13 kv = r 13 kv) rfl, hbk _ (by omega) (by omega)]); (rw [f2_ba61 c z, bP_f (P := r 13 kv = c) (fun y => z y.symm), Int.add_zero]; exact hbk c c0 c1)) (by first | assumption | omega) (by first | assumption | omega) _ _ hP hD hS ls (lv_sub hl [2, 3, 4, 5, 6, 7, 8, 9, 0] rfl)
              · skip
                exfalso; omega
  exact lp248 (_ + 1) 0 x ra bv (cells) (slots) (Nat.lt_succ_self _) (by first | assumption | omega) (by exact okx) (by exact okra) (by intro c c0 c1; rw [hb0 c]; exact (msum_0 _).symm) (by first | assumption | omega) (by first | assumption | omega) _ _ hP hD hS ls (lv_sub hl [1, 2, 3, 4, 5, 6, 7, 8, 0] rfl)
