/-! 72.law7: a year of the law, a part of it -/
set_option maxHeartbeats 4000000 in
set_option maxRecDepth 100000 in
theorem sg_7 {p : Program} {l : Launch} {e : Env} {s : State} {m : MethodId} {below : List Frame} {meth : Method} {c : Code} {Q : State → Prop} {b L : Nat} {xs : Nat → Int32} {G : mf_G} {A : Nat → Prop} (E : LEp p l s m meth c b L xs G A) (hL : L ≤ 260) {ho pn pa pf ae hm : Nat} {adn ada adf adm : Nat → Nat} {f : mf_V} (okf : rOK flo fhi f) (hf4 : f 4 0 = 1) (hFI : FInv f) {x : mf_V} {q : mf_V} {ra : mf_V} {u : mf_V} {r : mf_V} {ca : Nat} {nn : Nat} {qw : Nat} {qk : Nat} {qz : Nat} {wv : mf_V} {bv : mf_V} {zv : mf_V} {tv : Int} {bz : Int} {qi : Nat} {iv : mf_V} {cells slots : Nat} {H : Heap} {locs : List Loc} {ls : Array Slot} (hLQ : LQs (9 + 2 * tv) x q ra f nn u) (hyL : YearL r q bz (r 5 (tv % 12))) (hokr : rOK rlo rhi r) (h8 : q 8 0 = tv + 1) (ht : 0 ≤ tv ∧ tv < 24) (hw : ∀ c, 0 ≤ c → c < 384 → wv 0 c = r 1 c) (hbk : ∀ c, 0 ≤ c → c < 384 → bv 0 c = msum (fun i => bP (r 13 i = c)) (r 7 0)) (hz : ∀ c, 0 ≤ c → c < 384 → zv 0 c = bP (0 ≤ r 10 c)) (hi : ∀ c, 0 ≤ c → c < 384 → iv 0 c = bP (0 ≤ q 10 c)) (hq2 : q 2 = r 2) (hcl : cells + 1540 ≤ 600104 ∧ slots + 9250 ≤ 7301314) (hP : va_P G.1 vwCl (OW G ho pn pa pf ae x ++ RW G pn adn q ++ RW G pa ada ra ++ FW G pf adf f ++ SW G hm adm ca nn u ++ AW G qw 384 wv ++ AW G qk 384 bv ++ AZ G qz 384 zv ++ AZ G qi 384 iv) H) (hD : va_D A (OW G ho pn pa pf ae x ++ RW G pn adn q ++ RW G pa ada ra ++ FW G pf adf f ++ SW G hm adm ca nn u ++ AW G qw 384 wv ++ AW G qk 384 bv ++ AZ G qz 384 zv ++ AZ G qi 384 iv)) (hS : va_S A s.heap H locs) (hl : lv_has ls 27 [(0, .ref b), (1, .ref ho), (2, .ref hm), (4, .int (iI (tv))), (6, .int (iI (r 7 0))), (7, .ref qw), (8, .ref qk), (9, .ref qz), (10, .int (iI (q 7 0))), (11, .int (iI (q 9 0 - r 9 0))), (16, .int (iI (r 5 (tv % 12)))), (17, .int (iI (bz))), (20, .ref qi)])
    (kk : ∀ (x' : mf_V) (ra' : mf_V), (rOK xlo xhi x') → (rOK rlo rhi ra') → ∀ (H : Heap) (locs : List Loc) (ls : Array Slot), va_P G.1 vwCl (OW G ho pn pa pf ae x' ++ RW G pn adn q ++ RW G pa ada ra' ++ FW G pf adf f ++ SW G hm adm ca nn u ++ AW G qw 384 wv ++ AW G qk 384 bv ++ AZ G qz 384 zv) H → va_D A (OW G ho pn pa pf ae x' ++ RW G pn adn q ++ RW G pa ada ra' ++ FW G pf adf f ++ SW G hm adm ca nn u ++ AW G qw 384 wv ++ AW G qk 384 bv ++ AZ G qz 384 zv) → va_S A s.heap H locs → lv_has ls 27 [(0, .ref b), (1, .ref ho), (2, .ref hm), (4, .int (iI (tv))), (6, .int (iI (r 7 0))), (7, .ref qw), (8, .ref qk), (9, .ref qz), (10, .int (iI (q 7 0))), (11, .int (iI (q 9 0 - r 9 0))), (16, .int (iI (r 5 (tv % 12)))), (17, .int (iI (bz))), (21, .int (iI (lakesF q))), (22, .int (iI (freshF r q)))] → W p l e room_1 s m #[Value.ref b] below meth c H locs (cells + 1540) (slots + 9250) Q (F0 m 938 ls [])) :
    W p l e room_1 s m #[Value.ref b] below meth c H locs cells slots Q (F0 m 720 ls []) := by
  obtain ⟨hx, hb, hr, hml, hown, hts, hXs, hbl, hl9, hK, hN, hSX, hCX, hZ, hA, hbA⟩ := E
  have hcR : room_1.cells = 600104 := rfl
  have hsR : room_1.slots = 7301314 := rfl
  have hinX3 := inlX3
  have hinX2 := inlX2
  obtain ⟨⟨okx, ok, okra, -⟩, hPI, hB, oku, hrel⟩ := id hLQ
  have hI := hPI.1
  have h27 := hI.1.1
  have okLr : (0 : Int) ≤ q 7 0 ∧ q 7 0 ≤ 150 := ok 7 0
  have okL8 : (0 : Int) ≤ q 8 0 ∧ q 8 0 ≤ 90000 := ok 8 0
  have okL9 : (0 : Int) ≤ q 9 0 ∧ q 9 0 ≤ 100000000 := ok 9 0
  have b9 := hB.2.1
  have okR9 : (0 : Int) ≤ r 9 0 ∧ r 9 0 ≤ 100000000 := hokr 9 0
  have okR7 : (0 : Int) ≤ r 7 0 ∧ r 7 0 ≤ 150 := hokr 7 0
  have hb01 := hyL.1
  have hle := hyL.2.1
  have bfl : (0 : Int) ≤ r 5 (tv % 12) ∧ r 5 (tv % 12) ≤ 9 := hokr 5 _
  refine mf_iconst hx hb dL_law_720 ?_
  refine lv_istore (lv' := [(21, .int (iI (0))), (0, .ref b), (1, .ref ho), (2, .ref hm), (4, .int (iI (tv))), (6, .int (iI (r 7 0))), (7, .ref qw), (8, .ref qk), (9, .ref qz), (10, .int (iI (q 7 0))), (11, .int (iI (q 9 0 - r 9 0))), (16, .int (iI (r 5 (tv % 12)))), (17, .int (iI (bz))), (20, .ref qi)]) hx hb dL_law_721 hl (by decide) rfl (fun ls hl => ?_)
  refine mf_iconst hx hb dL_law_723 ?_
  refine lv_istore (lv' := [(22, .int (iI (0))), (21, .int (iI (0))), (0, .ref b), (1, .ref ho), (2, .ref hm), (4, .int (iI (tv))), (6, .int (iI (r 7 0))), (7, .ref qw), (8, .ref qk), (9, .ref qz), (10, .int (iI (q 7 0))), (11, .int (iI (q 9 0 - r 9 0))), (16, .int (iI (r 5 (tv % 12)))), (17, .int (iI (bz))), (20, .ref qi)]) hx hb dL_law_724 hl (by decide) rfl (fun ls hl => ?_)
  refine mf_iconst hx hb dL_law_726 ?_
  refine lv_istore (lv' := [(23, .int (iI (0))), (22, .int (iI (0))), (21, .int (iI (0))), (0, .ref b), (1, .ref ho), (2, .ref hm), (4, .int (iI (tv))), (6, .int (iI (r 7 0))), (7, .ref qw), (8, .ref qk), (9, .ref qz), (10, .int (iI (q 7 0))), (11, .int (iI (q 9 0 - r 9 0))), (16, .int (iI (r 5 (tv % 12)))), (17, .int (iI (bz))), (20, .ref qi)]) hx hb dL_law_727 hl (by decide) rfl (fun ls hl => ?_)
  have lp729 : ∀ (n : Nat) (kv : Int) (lk : Int) (fr : Int) (xa : mf_V) (raa : mf_V) (cc : Nat) (sc : Nat), (384 - kv).toNat < n → (0 ≤ kv ∧ kv ≤ 384) → (lk = msum (fun c => bP (0 < lyl q c)) kv) → (fr = msum (fun c => bP (0 ≤ q 10 c ∧ ¬ 0 ≤ r 10 c)) kv) → (0 ≤ lk ∧ lk ≤ kv) → (0 ≤ fr ∧ fr ≤ kv) → (rOK xlo xhi xa) → (rOK rlo rhi raa) → ((cc : Int) ≤ cells + 4 * kv) → ((sc : Int) ≤ slots + 24 * kv) → ∀ (H : Heap) (locs : List Loc), va_P G.1 vwCl (OW G ho pn pa pf ae xa ++ RW G pn adn q ++ RW G pa ada raa ++ FW G pf adf f ++ SW G hm adm ca nn u ++ AW G qw 384 wv ++ AW G qk 384 bv ++ AZ G qz 384 zv ++ AZ G qi 384 iv) H → va_D A (OW G ho pn pa pf ae xa ++ RW G pn adn q ++ RW G pa ada raa ++ FW G pf adf f ++ SW G hm adm ca nn u ++ AW G qw 384 wv ++ AW G qk 384 bv ++ AZ G qz 384 zv ++ AZ G qi 384 iv) → va_S A s.heap H locs → ∀ (ls : Array Slot), lv_has ls 27 [(0, .ref b), (1, .ref ho), (2, .ref hm), (4, .int (iI (tv))), (6, .int (iI (r 7 0))), (7, .ref qw), (8, .ref qk), (9, .ref qz), (10, .int (iI (q 7 0))), (11, .int (iI (q 9 0 - r 9 0))), (16, .int (iI (r 5 (tv % 12)))), (17, .int (iI (bz))), (20, .ref qi), (21, .int (iI (lk))), (22, .int (iI (fr))), (23, .int (iI (kv)))] → W p l e room_1 s m #[Value.ref b] below meth c H locs cc sc Q (F0 m 729 ls []) := by
    intro n
    induction n with
    | zero => intro kv lk fr xa raa cc sc hn; exact absurd hn (Nat.not_lt_zero _)
    | succ n ih729 =>
      intro kv lk fr xa raa cc sc hn hk hlk hfr hbl hbf okxa okraa hcc hsc H locs hP hD hS ls hl
      refine lv_iload hx hb dL_law_729 (lv_at hl 15 rfl) ?_
      refine mf_sipush hx hb dL_law_731 rfl ?_
      refine mf_icmp_ge (tgt := 938) hx hb dL_law_734 (by decide) (i32_mk (by omega) (by omega)) (i32_mk (by decide) (by decide)) (fun c1 => ?_) (fun c1 => ?_)
      · skip
        have hkv : kv = 384 := by omega
        have e21 : lakesF q = lk := by rw [hlk, hkv]; exact (lakesF_lyl q).symm
        have e22 : freshF r q = fr := by rw [hfr, hkv]; rfl
        subst e21 e22
        have hP : va_P G.1 vwCl (OW G ho pn pa pf ae xa ++ RW G pn adn q ++ RW G pa ada raa ++ FW G pf adf f ++ SW G hm adm ca nn u ++ AW G qw 384 wv ++ AW G qk 384 bv ++ AZ G qz 384 zv) H := hP.sub [0, 1, 2, 3, 4, 5, 6, 7, 8, 9, 10, 11, 12, 13, 14, 15, 16, 17, 18, 19, 20, 21, 22, 23, 24, 25, 26, 27, 28, 29, 30, 31, 32, 33, 34, 35, 36, 37, 38, 39, 40, 41] rfl
        have hD : va_D A (OW G ho pn pa pf ae xa ++ RW G pn adn q ++ RW G pa ada raa ++ FW G pf adf f ++ SW G hm adm ca nn u ++ AW G qw 384 wv ++ AW G qk 384 bv ++ AZ G qz 384 zv) := hD.sub [0, 1, 2, 3, 4, 5, 6, 7, 8, 9, 10, 11, 12, 13, 14, 15, 16, 17, 18, 19, 20, 21, 22, 23, 24, 25, 26, 27, 28, 29, 30, 31, 32, 33, 34, 35, 36, 37, 38, 39, 40, 41] (by decide +kernel) rfl
        skip
        refine W.widen (k := cells + 1540) (n := slots + 9250) (by omega) (by omega) ?_
        exact kk xa raa (okxa) (okraa) H locs ls hP hD hS (lv_sub hl [0, 1, 2, 3, 4, 5, 6, 7, 8, 9, 10, 11, 13, 14] rfl)
      · skip
        refine lv_aload_n hx hb dL_law_737 rfl (lv_at hl 1 rfl) ?_
        refine lv_iload hx hb dL_law_738 (lv_at hl 15 rfl) ?_
        refine mf_bipush hx hb dL_law_740 rfl ?_
        refine mf_irem hx hb dL_law_742 (i32_mk (by omega) (by omega)) (by omega) (i32_mk (by decide) (by decide)) (by omega) ?_
        refine lv_iload hx hb dL_law_743 (lv_at hl 15 rfl) ?_
        refine mf_bipush hx hb dL_law_745 rfl ?_
        refine mf_idiv hx hb dL_law_747 (i32_mk (by omega) (by omega)) (by omega) (i32_mk (by decide) (by decide)) (by omega) ?_
        refine mf_iconst hx hb dL_law_748 ?_
        have hk0 : kCell2 (kv % 24) (kv / 24) 1 = 0 := by exact mf_if_f (fun q => q ⟨⟨⟨by omega, by omega⟩, by omega, by omega⟩, by omega, by omega⟩)
        have hFc := va_free (wc := OW G ho pn pa pf ae xa ++ RW G pn adn q ++ RW G pa ada raa ++ FW G pf adf f) hD hS hA [0, 1, 2, 3, 4, 5, 6, 7, 8, 9, 10, 11, 12, 13, 14, 15, 16, 17, 18, 19, 20, 21, 22, 23, 24, 25, 26, 27, 28, 29, 30] sb_3e87190c88
        refine vx_calli (vx_runV (As := [.int (iI (kv % 24)), .int (iI (kv / 24)), .int (iI (1))]) (rest := []) ⟨hx, hb, hml, hown, hts⟩ (c_X2_cell l hl9 G ho pn pa pf ae xa adn q ada raa adf f (kv % 24) (kv / 24) (1) (i32_mk (by omega) (by omega)) (i32_mk (by omega) (by omega)) (i32_mk (by decide) (by decide)) (by assumption) (by assumption) (by assumption) (by assumption) _) (cwV 3 hts gL_law_X2_cell rfl rfl rfl (by decide +kernel) ⟨Nat.le_of_ble_eq_true rfl, Nat.le_of_ble_eq_true rfl⟩) (wrVx (wc := OW G ho pn pa pf ae xa ++ RW G pn adn q ++ RW G pa ada raa ++ FW G pf adf f) hSX hCX hZ hS hFc hK hP hD hN [0, 1, 2, 3, 4, 5, 6, 7, 8, 9, 10, 11, 12, 13, 14, 15, 16, 17, 18, 19, 20, 21, 22, 23, 24, 25, 26, 27, 28, 29, 30] (by decide +kernel) sb_874784283d sb_3e87190c88 (ci := 2) rfl rfl) rfl rfl hl.1 rfl (lv_room (Nat.le_of_ble_eq_true rfl)) dL_law_749 ⟨(by rw [hcR]; omega), (by rw [hsR]; omega)⟩) hS (fun q _ h => hFc q h) hFc (fun q _ h => hFc q h) (fun E ce q9 _ t H1 locs ht hvm _ hB hz1 hk1 hS hce hcv hcl => ?_) (fun q2 u3 t H1 locs ht hvm hw hB hz1 hk1 hS => ?_)
        · exfalso
          have hx9 := hB.1
          rcases hx9 with ⟨-, hk9⟩ <;> omega
        obtain ⟨xa4, q5, raa6, f7⟩ := u3
        try dsimp only at hw hB
        obtain ⟨hP, hD⟩ := wrJ2 (ws := OW G ho pn pa pf ae xa ++ RW G pn adn q ++ RW G pa ada raa ++ FW G pf adf f ++ SW G hm adm ca nn u ++ AW G qw 384 wv ++ AW G qk 384 bv ++ AZ G qz 384 zv ++ AZ G qi 384 iv) (wc := OW G ho pn pa pf ae xa ++ RW G pn adn q ++ RW G pa ada raa ++ FW G pf adf f) (wr := SW G hm adm ca nn u ++ AW G qw 384 wv ++ AW G qk 384 bv ++ AZ G qz 384 zv ++ AZ G qi 384 iv) (w1 := OW G ho pn pa pf ae xa4 ++ RW G pn adn q5 ++ RW G pa ada raa6 ++ FW G pf adf f7) hP hD [0, 1, 2, 3, 4, 5, 6, 7, 8, 9, 10, 11, 12, 13, 14, 15, 16, 17, 18, 19, 20, 21, 22, 23, 24, 25, 26, 27, 28, 29, 30] [31, 32, 33, 34, 35, 36, 37, 38, 39, 40, 41, 42] sb_3e87190c88 sb_3a53376573 (by decide +kernel) (by decide +kernel) hk1 ht hFc hB
        have hP : va_P G.1 vwCl (OW G ho pn pa pf ae xa4 ++ RW G pn adn q5 ++ RW G pa ada raa6 ++ FW G pf adf f7 ++ SW G hm adm ca nn u ++ AW G qw 384 wv ++ AW G qk 384 bv ++ AZ G qz 384 zv ++ AZ G qi 384 iv) H1 := hP.sub [12, 13, 14, 15, 16, 17, 18, 19, 20, 21, 22, 23, 24, 25, 26, 27, 28, 29, 30, 31, 32, 33, 34, 35, 36, 37, 38, 39, 40, 41, 42, 0, 1, 2, 3, 4, 5, 6, 7, 8, 9, 10, 11] sb_bb583c380b
        have hD : va_D A (OW G ho pn pa pf ae xa4 ++ RW G pn adn q5 ++ RW G pa ada raa6 ++ FW G pf adf f7 ++ SW G hm adm ca nn u ++ AW G qw 384 wv ++ AW G qk 384 bv ++ AZ G qz 384 zv ++ AZ G qi 384 iv) := hD.sub [12, 13, 14, 15, 16, 17, 18, 19, 20, 21, 22, 23, 24, 25, 26, 27, 28, 29, 30, 31, 32, 33, 34, 35, 36, 37, 38, 39, 40, 41, 42, 0, 1, 2, 3, 4, 5, 6, 7, 8, 9, 10, 11] (by decide +kernel) sb_8ad0923ef0
        clear hB hk1 hFc ht hz1 hvm hk0
        generalize H1 = H at hP hS ⊢
        obtain ⟨z8, rfl, -, ⟨okxa4, okq5, okraa6, okf7⟩, w10, w11, w12⟩ := hw
        have w10 := w10.symm
        subst w10
        have w11 := w11.symm
        subst w11
        subst w12
        refine mf_top (vCell q f (kv % 24) (kv / 24) 1) (q 1 kv) (by unfold vCell; rw [if_neg (by decide)]; rw [if_pos rfl, show kv % 24 + 24 * (kv / 24) = kv by omega]) ?_
        have b_4924f2 : (0 : Int) ≤ q 1 kv ∧ q 1 kv ≤ 200000000 := ok 1 kv
        skip
        refine lv_istore (lv' := [(24, .int (iI (q 1 kv))), (0, .ref b), (1, .ref ho), (2, .ref hm), (4, .int (iI (tv))), (6, .int (iI (r 7 0))), (7, .ref qw), (8, .ref qk), (9, .ref qz), (10, .int (iI (q 7 0))), (11, .int (iI (q 9 0 - r 9 0))), (16, .int (iI (r 5 (tv % 12)))), (17, .int (iI (bz))), (20, .ref qi), (21, .int (iI (lk))), (22, .int (iI (fr))), (23, .int (iI (kv)))]) hx hb dL_law_752 hl (by decide) rfl (fun ls hl => ?_)
        have lp792 : ∀ (nv : Int) (fr2 : Int), (nv = bP (0 ≤ q 10 kv ∧ ¬ 0 ≤ r 10 kv)) → (fr2 = fr + bP (0 ≤ q 10 kv ∧ ¬ 0 ≤ r 10 kv)) → (0 ≤ nv ∧ nv ≤ 1) → (0 ≤ fr2 ∧ fr2 ≤ kv + 1) → ∀ (H : Heap) (locs : List Loc), va_P G.1 vwCl (OW G ho pn pa pf ae xa4 ++ RW G pn adn q ++ RW G pa ada raa6 ++ FW G pf adf f ++ SW G hm adm ca nn u ++ AW G qw 384 wv ++ AW G qk 384 bv ++ AZ G qz 384 zv ++ AZ G qi 384 iv) H → va_D A (OW G ho pn pa pf ae xa4 ++ RW G pn adn q ++ RW G pa ada raa6 ++ FW G pf adf f ++ SW G hm adm ca nn u ++ AW G qw 384 wv ++ AW G qk 384 bv ++ AZ G qz 384 zv ++ AZ G qi 384 iv) → va_S A s.heap H locs → ∀ (ls : Array Slot), lv_has ls 27 [(0, .ref b), (1, .ref ho), (2, .ref hm), (4, .int (iI (tv))), (6, .int (iI (r 7 0))), (7, .ref qw), (8, .ref qk), (9, .ref qz), (10, .int (iI (q 7 0))), (11, .int (iI (q 9 0 - r 9 0))), (16, .int (iI (r 5 (tv % 12)))), (17, .int (iI (bz))), (20, .ref qi), (21, .int (iI (lk))), (22, .int (iI (fr2))), (23, .int (iI (kv))), (24, .int (iI (q 1 kv))), (25, .int (iI (nv)))] → W p l e room_1 s m #[Value.ref b] below meth c H locs (cc + 1) (sc + 6) Q (F0 m 792 ls []) := by
          intro nv fr2 hnv hfr2 hnb hfb H locs hP hD hS ls hl
          refine lv_iload hx hb dL_law_792 (lv_at hl 13 rfl) ?_
          refine lv_aload_n hx hb dL_law_794 rfl (lv_at hl 1 rfl) ?_
          refine lv_iload hx hb dL_law_795 (lv_at hl 15 rfl) ?_
          refine mf_bipush hx hb dL_law_797 rfl ?_
          refine mf_irem hx hb dL_law_799 (i32_mk (by omega) (by omega)) (by omega) (i32_mk (by decide) (by decide)) (by omega) ?_
          refine lv_iload hx hb dL_law_800 (lv_at hl 15 rfl) ?_
          refine mf_bipush hx hb dL_law_802 rfl ?_
          refine mf_idiv hx hb dL_law_804 (i32_mk (by omega) (by omega)) (by omega) (i32_mk (by decide) (by decide)) (by omega) ?_
          refine mf_iconst hx hb dL_law_805 ?_
          have hk0 : kCell2 (kv % 24) (kv / 24) 4 = 0 := by exact mf_if_f (fun q => q ⟨⟨⟨by omega, by omega⟩, by omega, by omega⟩, by omega, by omega⟩)
          have hFc := va_free (wc := OW G ho pn pa pf ae xa4 ++ RW G pn adn q ++ RW G pa ada raa6 ++ FW G pf adf f) hD hS hA [0, 1, 2, 3, 4, 5, 6, 7, 8, 9, 10, 11, 12, 13, 14, 15, 16, 17, 18, 19, 20, 21, 22, 23, 24, 25, 26, 27, 28, 29, 30] sb_3e87190c88
          refine vx_calli (vx_runV (As := [.int (iI (kv % 24)), .int (iI (kv / 24)), .int (iI (4))]) (rest := [.int (iI (lk))]) ⟨hx, hb, hml, hown, hts⟩ (c_X2_cell l hl9 G ho pn pa pf ae xa4 adn q ada raa6 adf f (kv % 24) (kv / 24) (4) (i32_mk (by omega) (by omega)) (i32_mk (by omega) (by omega)) (i32_mk (by decide) (by decide)) (by assumption) (by assumption) (by assumption) (by assumption) _) (cwV 3 hts gL_law_X2_cell rfl rfl rfl (by decide +kernel) ⟨Nat.le_of_ble_eq_true rfl, Nat.le_of_ble_eq_true rfl⟩) (wrVx (wc := OW G ho pn pa pf ae xa4 ++ RW G pn adn q ++ RW G pa ada raa6 ++ FW G pf adf f) hSX hCX hZ hS hFc hK hP hD hN [0, 1, 2, 3, 4, 5, 6, 7, 8, 9, 10, 11, 12, 13, 14, 15, 16, 17, 18, 19, 20, 21, 22, 23, 24, 25, 26, 27, 28, 29, 30] (by decide +kernel) sb_874784283d sb_3e87190c88 (ci := 2) rfl rfl) rfl rfl hl.1 rfl (lv_room (Nat.le_of_ble_eq_true rfl)) dL_law_806 ⟨(by rw [hcR]; omega), (by rw [hsR]; omega)⟩) hS (fun q _ h => hFc q h) hFc (fun q _ h => hFc q h) (fun E ce q9 _ t H1 locs ht hvm _ hB hz1 hk1 hS hce hcv hcl => ?_) (fun q13 u14 t H1 locs ht hvm hw hB hz1 hk1 hS => ?_)
          · exfalso
            have hx9 := hB.1
            rcases hx9 with ⟨-, hk9⟩ <;> omega
          obtain ⟨xa15, q16, raa17, f18⟩ := u14
          try dsimp only at hw hB
          obtain ⟨hP, hD⟩ := wrJ2 (ws := OW G ho pn pa pf ae xa4 ++ RW G pn adn q ++ RW G pa ada raa6 ++ FW G pf adf f ++ SW G hm adm ca nn u ++ AW G qw 384 wv ++ AW G qk 384 bv ++ AZ G qz 384 zv ++ AZ G qi 384 iv) (wc := OW G ho pn pa pf ae xa4 ++ RW G pn adn q ++ RW G pa ada raa6 ++ FW G pf adf f) (wr := SW G hm adm ca nn u ++ AW G qw 384 wv ++ AW G qk 384 bv ++ AZ G qz 384 zv ++ AZ G qi 384 iv) (w1 := OW G ho pn pa pf ae xa15 ++ RW G pn adn q16 ++ RW G pa ada raa17 ++ FW G pf adf f18) hP hD [0, 1, 2, 3, 4, 5, 6, 7, 8, 9, 10, 11, 12, 13, 14, 15, 16, 17, 18, 19, 20, 21, 22, 23, 24, 25, 26, 27, 28, 29, 30] [31, 32, 33, 34, 35, 36, 37, 38, 39, 40, 41, 42] sb_3e87190c88 sb_3a53376573 (by decide +kernel) (by decide +kernel) hk1 ht hFc hB
          have hP : va_P G.1 vwCl (OW G ho pn pa pf ae xa15 ++ RW G pn adn q16 ++ RW G pa ada raa17 ++ FW G pf adf f18 ++ SW G hm adm ca nn u ++ AW G qw 384 wv ++ AW G qk 384 bv ++ AZ G qz 384 zv ++ AZ G qi 384 iv) H1 := hP.sub [12, 13, 14, 15, 16, 17, 18, 19, 20, 21, 22, 23, 24, 25, 26, 27, 28, 29, 30, 31, 32, 33, 34, 35, 36, 37, 38, 39, 40, 41, 42, 0, 1, 2, 3, 4, 5, 6, 7, 8, 9, 10, 11] sb_bb583c380b
          have hD : va_D A (OW G ho pn pa pf ae xa15 ++ RW G pn adn q16 ++ RW G pa ada raa17 ++ FW G pf adf f18 ++ SW G hm adm ca nn u ++ AW G qw 384 wv ++ AW G qk 384 bv ++ AZ G qz 384 zv ++ AZ G qi 384 iv) := hD.sub [12, 13, 14, 15, 16, 17, 18, 19, 20, 21, 22, 23, 24, 25, 26, 27, 28, 29, 30, 31, 32, 33, 34, 35, 36, 37, 38, 39, 40, 41, 42, 0, 1, 2, 3, 4, 5, 6, 7, 8, 9, 10, 11] (by decide +kernel) sb_8ad0923ef0
          clear hB hk1 hFc ht hz1 hvm hk0
          generalize H1 = H at hP hS ⊢
          obtain ⟨z19, rfl, -, ⟨okxa15, okq16, okraa17, okf18⟩, w21, w22, w23⟩ := hw
          have w21 := w21.symm
          subst w21
          have w22 := w22.symm
          subst w22
          subst w23
          have lp820 : ∀ (lk2 : Int), (lk2 = lk + bP (0 < lyl q kv)) → (0 ≤ lk2 ∧ lk2 ≤ kv + 1) → ∀ (H : Heap) (locs : List Loc), va_P G.1 vwCl (OW G ho pn pa pf ae xa15 ++ RW G pn adn q ++ RW G pa ada raa17 ++ FW G pf adf f ++ SW G hm adm ca nn u ++ AW G qw 384 wv ++ AW G qk 384 bv ++ AZ G qz 384 zv ++ AZ G qi 384 iv) H → va_D A (OW G ho pn pa pf ae xa15 ++ RW G pn adn q ++ RW G pa ada raa17 ++ FW G pf adf f ++ SW G hm adm ca nn u ++ AW G qw 384 wv ++ AW G qk 384 bv ++ AZ G qz 384 zv ++ AZ G qi 384 iv) → va_S A s.heap H locs → ∀ (ls : Array Slot), lv_has ls 27 [(0, .ref b), (1, .ref ho), (2, .ref hm), (4, .int (iI (tv))), (6, .int (iI (r 7 0))), (7, .ref qw), (8, .ref qk), (9, .ref qz), (10, .int (iI (q 7 0))), (11, .int (iI (q 9 0 - r 9 0))), (16, .int (iI (r 5 (tv % 12)))), (17, .int (iI (bz))), (20, .ref qi), (21, .int (iI (lk2))), (22, .int (iI (fr2))), (23, .int (iI (kv))), (24, .int (iI (q 1 kv))), (25, .int (iI (nv)))] → W p l e room_1 s m #[Value.ref b] below meth c H locs (cc + 2) (sc + 12) Q (F0 m 820 ls []) := by
            intro lk2 hlk2 hlb H locs hP hD hS ls hl
            have lp852 : (0 ≤ moreF r (r 5 (tv % 12)) kv ∧ moreF r (r 5 (tv % 12)) kv ≤ 1350) → ∀ (H : Heap) (locs : List Loc), va_P G.1 vwCl (OW G ho pn pa pf ae xa15 ++ RW G pn adn q ++ RW G pa ada raa17 ++ FW G pf adf f ++ SW G hm adm ca nn u ++ AW G qw 384 wv ++ AW G qk 384 bv ++ AZ G qz 384 zv ++ AZ G qi 384 iv) H → va_D A (OW G ho pn pa pf ae xa15 ++ RW G pn adn q ++ RW G pa ada raa17 ++ FW G pf adf f ++ SW G hm adm ca nn u ++ AW G qw 384 wv ++ AW G qk 384 bv ++ AZ G qz 384 zv ++ AZ G qi 384 iv) → va_S A s.heap H locs → ∀ (ls : Array Slot), lv_has ls 27 [(0, .ref b), (1, .ref ho), (2, .ref hm), (4, .int (iI (tv))), (6, .int (iI (r 7 0))), (7, .ref qw), (8, .ref qk), (9, .ref qz), (10, .int (iI (q 7 0))), (11, .int (iI (q 9 0 - r 9 0))), (16, .int (iI (r 5 (tv % 12)))), (17, .int (iI (bz))), (20, .ref qi), (21, .int (iI (lk2))), (22, .int (iI (fr2))), (23, .int (iI (kv))), (24, .int (iI (q 1 kv))), (25, .int (iI (nv))), (26, .int (iI (moreF r (r 5 (tv % 12)) kv)))] → W p l e room_1 s m #[Value.ref b] below meth c H locs (cc + 2) (sc + 12) Q (F0 m 852 ls []) := by
              intro  hmo H locs hP hD hS ls hl
              have lp882 : (True) → ∀ (H : Heap) (locs : List Loc), va_P G.1 vwCl (OW G ho pn pa pf ae xa15 ++ RW G pn adn q ++ RW G pa ada raa17 ++ FW G pf adf f ++ SW G hm adm ca nn u ++ AW G qw 384 wv ++ AW G qk 384 bv ++ AZ G qz 384 zv ++ AZ G qi 384 iv) H → va_D A (OW G ho pn pa pf ae xa15 ++ RW G pn adn q ++ RW G pa ada raa17 ++ FW G pf adf f ++ SW G hm adm ca nn u ++ AW G qw 384 wv ++ AW G qk 384 bv ++ AZ G qz 384 zv ++ AZ G qi 384 iv) → va_S A s.heap H locs → ∀ (ls : Array Slot), lv_has ls 27 [(0, .ref b), (1, .ref ho), (2, .ref hm), (4, .int (iI (tv))), (6, .int (iI (r 7 0))), (7, .ref qw), (8, .ref qk), (9, .ref qz), (10, .int (iI (q 7 0))), (11, .int (iI (q 9 0 - r 9 0))), (16, .int (iI (r 5 (tv % 12)))), (17, .int (iI (bz))), (20, .ref qi), (21, .int (iI (lk2))), (22, .int (iI (fr2))), (23, .int (iI (kv)))] → W p l e room_1 s m #[Value.ref b] below meth c H locs (cc + 2) (sc + 12) Q (F0 m 882 ls []) := by
                intro  hdum H locs hP hD hS ls hl
                have lp910 : ∀ (xf : mf_V) (raf : mf_V) (cc9 : Nat) (sc9 : Nat), (rOK xlo xhi xf) → (rOK rlo rhi raf) → ((cc9 : Int) ≤ cells + 4 * kv + 3) → ((sc9 : Int) ≤ slots + 24 * kv + 18) → ∀ (H : Heap) (locs : List Loc), va_P G.1 vwCl (OW G ho pn pa pf ae xf ++ RW G pn adn q ++ RW G pa ada raf ++ FW G pf adf f ++ SW G hm adm ca nn u ++ AW G qw 384 wv ++ AW G qk 384 bv ++ AZ G qz 384 zv ++ AZ G qi 384 iv) H → va_D A (OW G ho pn pa pf ae xf ++ RW G pn adn q ++ RW G pa ada raf ++ FW G pf adf f ++ SW G hm adm ca nn u ++ AW G qw 384 wv ++ AW G qk 384 bv ++ AZ G qz 384 zv ++ AZ G qi 384 iv) → va_S A s.heap H locs → ∀ (ls : Array Slot), lv_has ls 27 [(0, .ref b), (1, .ref ho), (2, .ref hm), (4, .int (iI (tv))), (6, .int (iI (r 7 0))), (7, .ref qw), (8, .ref qk), (9, .ref qz), (10, .int (iI (q 7 0))), (11, .int (iI (q 9 0 - r 9 0))), (16, .int (iI (r 5 (tv % 12)))), (17, .int (iI (bz))), (20, .ref qi), (21, .int (iI (lk2))), (22, .int (iI (fr2))), (23, .int (iI (kv)))] → W p l e room_1 s m #[Value.ref b] below meth c H locs cc9 sc9 Q (F0 m 910 ls []) := by
                  intro xf raf cc9 sc9 okxf okraf hcc9 hsc9 H locs hP hD hS ls hl
                  refine lv_aload_n hx hb dL_law_910 rfl (lv_at hl 1 rfl) ?_
                  refine lv_iload hx hb dL_law_911 (lv_at hl 15 rfl) ?_
                  refine mf_bipush hx hb dL_law_913 rfl ?_
                  refine mf_irem hx hb dL_law_915 (i32_mk (by omega) (by omega)) (by omega) (i32_mk (by decide) (by decide)) (by omega) ?_
                  refine lv_iload hx hb dL_law_916 (lv_at hl 15 rfl) ?_
                  refine mf_bipush hx hb dL_law_918 rfl ?_
                  refine mf_idiv hx hb dL_law_920 (i32_mk (by omega) (by omega)) (by omega) (i32_mk (by decide) (by decide)) (by omega) ?_
                  refine mf_iconst hx hb dL_law_921 ?_
                  have hk0 : kCell2 (kv % 24) (kv / 24) 4 = 0 := by exact mf_if_f (fun q => q ⟨⟨⟨by omega, by omega⟩, by omega, by omega⟩, by omega, by omega⟩)
                  have hFc := va_free (wc := OW G ho pn pa pf ae xf ++ RW G pn adn q ++ RW G pa ada raf ++ FW G pf adf f) hD hS hA [0, 1, 2, 3, 4, 5, 6, 7, 8, 9, 10, 11, 12, 13, 14, 15, 16, 17, 18, 19, 20, 21, 22, 23, 24, 25, 26, 27, 28, 29, 30] sb_3e87190c88
                  refine vx_calli (vx_runV (As := [.int (iI (kv % 24)), .int (iI (kv / 24)), .int (iI (4))]) (rest := []) ⟨hx, hb, hml, hown, hts⟩ (c_X2_cell l hl9 G ho pn pa pf ae xf adn q ada raf adf f (kv % 24) (kv / 24) (4) (i32_mk (by omega) (by omega)) (i32_mk (by omega) (by omega)) (i32_mk (by decide) (by decide)) (by assumption) (by assumption) (by assumption) (by assumption) _) (cwV 3 hts gL_law_X2_cell rfl rfl rfl (by decide +kernel) ⟨Nat.le_of_ble_eq_true rfl, Nat.le_of_ble_eq_true rfl⟩) (wrVx (wc := OW G ho pn pa pf ae xf ++ RW G pn adn q ++ RW G pa ada raf ++ FW G pf adf f) hSX hCX hZ hS hFc hK hP hD hN [0, 1, 2, 3, 4, 5, 6, 7, 8, 9, 10, 11, 12, 13, 14, 15, 16, 17, 18, 19, 20, 21, 22, 23, 24, 25, 26, 27, 28, 29, 30] (by decide +kernel) sb_874784283d sb_3e87190c88 (ci := 2) rfl rfl) rfl rfl hl.1 rfl (lv_room (Nat.le_of_ble_eq_true rfl)) dL_law_922 ⟨(by rw [hcR]; omega), (by rw [hsR]; omega)⟩) hS (fun q _ h => hFc q h) hFc (fun q _ h => hFc q h) (fun E ce q9 _ t H1 locs ht hvm _ hB hz1 hk1 hS hce hcv hcl => ?_) (fun q24 u25 t H1 locs ht hvm hw hB hz1 hk1 hS => ?_)
                  · exfalso
                    have hx9 := hB.1
                    rcases hx9 with ⟨-, hk9⟩ <;> omega
                  obtain ⟨xf26, q27, raf28, f29⟩ := u25
                  try dsimp only at hw hB
                  obtain ⟨hP, hD⟩ := wrJ2 (ws := OW G ho pn pa pf ae xf ++ RW G pn adn q ++ RW G pa ada raf ++ FW G pf adf f ++ SW G hm adm ca nn u ++ AW G qw 384 wv ++ AW G qk 384 bv ++ AZ G qz 384 zv ++ AZ G qi 384 iv) (wc := OW G ho pn pa pf ae xf ++ RW G pn adn q ++ RW G pa ada raf ++ FW G pf adf f) (wr := SW G hm adm ca nn u ++ AW G qw 384 wv ++ AW G qk 384 bv ++ AZ G qz 384 zv ++ AZ G qi 384 iv) (w1 := OW G ho pn pa pf ae xf26 ++ RW G pn adn q27 ++ RW G pa ada raf28 ++ FW G pf adf f29) hP hD [0, 1, 2, 3, 4, 5, 6, 7, 8, 9, 10, 11, 12, 13, 14, 15, 16, 17, 18, 19, 20, 21, 22, 23, 24, 25, 26, 27, 28, 29, 30] [31, 32, 33, 34, 35, 36, 37, 38, 39, 40, 41, 42] sb_3e87190c88 sb_3a53376573 (by decide +kernel) (by decide +kernel) hk1 ht hFc hB
                  have hP : va_P G.1 vwCl (OW G ho pn pa pf ae xf26 ++ RW G pn adn q27 ++ RW G pa ada raf28 ++ FW G pf adf f29 ++ SW G hm adm ca nn u ++ AW G qw 384 wv ++ AW G qk 384 bv ++ AZ G qz 384 zv ++ AZ G qi 384 iv) H1 := hP.sub [12, 13, 14, 15, 16, 17, 18, 19, 20, 21, 22, 23, 24, 25, 26, 27, 28, 29, 30, 31, 32, 33, 34, 35, 36, 37, 38, 39, 40, 41, 42, 0, 1, 2, 3, 4, 5, 6, 7, 8, 9, 10, 11] sb_bb583c380b
                  have hD : va_D A (OW G ho pn pa pf ae xf26 ++ RW G pn adn q27 ++ RW G pa ada raf28 ++ FW G pf adf f29 ++ SW G hm adm ca nn u ++ AW G qw 384 wv ++ AW G qk 384 bv ++ AZ G qz 384 zv ++ AZ G qi 384 iv) := hD.sub [12, 13, 14, 15, 16, 17, 18, 19, 20, 21, 22, 23, 24, 25, 26, 27, 28, 29, 30, 31, 32, 33, 34, 35, 36, 37, 38, 39, 40, 41, 42, 0, 1, 2, 3, 4, 5, 6, 7, 8, 9, 10, 11] (by decide +kernel) sb_8ad0923ef0
                  clear hB hk1 hFc ht hz1 hvm hk0
                  generalize H1 = H at hP hS ⊢
                  obtain ⟨z30, rfl, -, ⟨okxf26, okq27, okraf28, okf29⟩, w32, w33, w34⟩ := hw
                  have w32 := w32.symm
                  subst w32
                  have w33 := w33.symm
                  subst w33
                  subst w34
                  refine mf_top (vCell q f (kv % 24) (kv / 24) 4) (lyl q kv) (by unfold vCell; rw [if_neg (by decide)]; rw [if_neg (by decide)]; rw [if_neg (by decide)]; rw [if_neg (by decide)]; rw [if_pos rfl, show kv % 24 + 24 * (kv / 24) = kv by omega]) ?_
                  have b_109d1d : (0 : Int) ≤ lyl q kv ∧ lyl q kv ≤ 100000 := lyl_b ok kv
                  skip
                  refine mf_bipush hx hb dL_law_925 rfl ?_
                  refine mf_icmp_le (tgt := 932) hx hb dL_law_927 (by decide) (i32_mk (by omega) (by omega)) (i32_mk (by decide) (by decide)) (fun c35 => ?_) (fun c35 => ?_)
                  · skip
                    refine lv_iinc (v := iI (kv + 1)) (lv' := [(23, .int (iI (kv + 1))), (0, .ref b), (1, .ref ho), (2, .ref hm), (4, .int (iI (tv))), (6, .int (iI (r 7 0))), (7, .ref qw), (8, .ref qk), (9, .ref qz), (10, .int (iI (q 7 0))), (11, .int (iI (q 9 0 - r 9 0))), (16, .int (iI (r 5 (tv % 12)))), (17, .int (iI (bz))), (20, .ref qi), (21, .int (iI (lk2))), (22, .int (iI (fr2)))]) hx hb dL_law_932 hl (k := 15) rfl (iI_add _ _).symm (by decide) rfl (fun ls hl => ?_)
                    refine lv_goto (tgt := 729) hx hb dL_law_935 (by decide) ?_
                    exact ih729 (kv + 1) lk2 fr2 xf26 raf28 (cc9 + 1) (sc9 + 6) (by omega) (by first | assumption | omega) (by rw [msum_s _ hk.1, ← hlk]; exact hlk2) (by rw [msum_s _ hk.1, ← hfr]; exact hfr2) (by first | assumption | omega) (by first | assumption | omega) (by first | assumption | omega) (by first | assumption | omega) (by first | assumption | omega) (by first | assumption | omega) _ _ hP hD hS ls (lv_sub hl [1, 2, 3, 4, 5, 6, 7, 8, 9, 10, 11, 12, 13, 14, 15, 0] rfl)
                  · skip
                    exfalso; have g9 := hyL.2.2.2.2.2.2.2.2.2.2 kv (by omega) (by omega); have g8 := lyl_in (r := q) (c := kv) (by omega) (by omega); omega
                refine lv_aload hx hb dL_law_882 (lv_at hl 12 rfl) ?_
                refine lv_iload hx hb dL_law_884 (lv_at hl 15 rfl) ?_
                refine mf_zald (n := 384) (f := iv 0) hx hb hK hP 42 1 rfl rfl (z := kv) (by omega) (by omega) (by first | decide | omega) dL_law_886 ?_
                refine mf_top (iv 0 kv) (bP (0 ≤ q 10 kv)) (by exact hi kv (by omega) (by omega)) ?_
                skip
                refine mf_bp_eq (tgt := 910) hx hb dL_law_887 (by decide) (fun c36 => ?_) (fun c36 => ?_)
                · skip
                  exact lp910 xa15 raa17 (cc + 2) (sc + 12) (by first | assumption | omega) (by first | assumption | omega) (by first | assumption | omega) (by first | assumption | omega) _ _ hP hD hS ls (lv_sub hl [0, 1, 2, 3, 4, 5, 6, 7, 8, 9, 10, 11, 12, 13, 14, 15] rfl)
                · skip
                  refine lv_aload_n hx hb dL_law_890 rfl (lv_at hl 1 rfl) ?_
                  refine lv_iload hx hb dL_law_891 (lv_at hl 15 rfl) ?_
                  refine mf_bipush hx hb dL_law_893 rfl ?_
                  refine mf_irem hx hb dL_law_895 (i32_mk (by omega) (by omega)) (by omega) (i32_mk (by decide) (by decide)) (by omega) ?_
                  refine lv_iload hx hb dL_law_896 (lv_at hl 15 rfl) ?_
                  refine mf_bipush hx hb dL_law_898 rfl ?_
                  refine mf_idiv hx hb dL_law_900 (i32_mk (by omega) (by omega)) (by omega) (i32_mk (by decide) (by decide)) (by omega) ?_
                  refine mf_iconst hx hb dL_law_901 ?_
                  have hk0 : kCell2 (kv % 24) (kv / 24) 4 = 0 := by exact mf_if_f (fun q => q ⟨⟨⟨by omega, by omega⟩, by omega, by omega⟩, by omega, by omega⟩)
                  have hFc := va_free (wc := OW G ho pn pa pf ae xa15 ++ RW G pn adn q ++ RW G pa ada raa17 ++ FW G pf adf f) hD hS hA [0, 1, 2, 3, 4, 5, 6, 7, 8, 9, 10, 11, 12, 13, 14, 15, 16, 17, 18, 19, 20, 21, 22, 23, 24, 25, 26, 27, 28, 29, 30] sb_3e87190c88
                  refine vx_calli (vx_runV (As := [.int (iI (kv % 24)), .int (iI (kv / 24)), .int (iI (4))]) (rest := []) ⟨hx, hb, hml, hown, hts⟩ (c_X2_cell l hl9 G ho pn pa pf ae xa15 adn q ada raa17 adf f (kv % 24) (kv / 24) (4) (i32_mk (by omega) (by omega)) (i32_mk (by omega) (by omega)) (i32_mk (by decide) (by decide)) (by assumption) (by assumption) (by assumption) (by assumption) _) (cwV 3 hts gL_law_X2_cell rfl rfl rfl (by decide +kernel) ⟨Nat.le_of_ble_eq_true rfl, Nat.le_of_ble_eq_true rfl⟩) (wrVx (wc := OW G ho pn pa pf ae xa15 ++ RW G pn adn q ++ RW G pa ada raa17 ++ FW G pf adf f) hSX hCX hZ hS hFc hK hP hD hN [0, 1, 2, 3, 4, 5, 6, 7, 8, 9, 10, 11, 12, 13, 14, 15, 16, 17, 18, 19, 20, 21, 22, 23, 24, 25, 26, 27, 28, 29, 30] (by decide +kernel) sb_874784283d sb_3e87190c88 (ci := 2) rfl rfl) rfl rfl hl.1 rfl (lv_room (Nat.le_of_ble_eq_true rfl)) dL_law_902 ⟨(by rw [hcR]; omega), (by rw [hsR]; omega)⟩) hS (fun q _ h => hFc q h) hFc (fun q _ h => hFc q h) (fun E ce q9 _ t H1 locs ht hvm _ hB hz1 hk1 hS hce hcv hcl => ?_) (fun q37 u38 t H1 locs ht hvm hw hB hz1 hk1 hS => ?_)
                  · exfalso
                    have hx9 := hB.1
                    rcases hx9 with ⟨-, hk9⟩ <;> omega
                  obtain ⟨xa39, q40, raa41, f42⟩ := u38
                  try dsimp only at hw hB
                  obtain ⟨hP, hD⟩ := wrJ2 (ws := OW G ho pn pa pf ae xa15 ++ RW G pn adn q ++ RW G pa ada raa17 ++ FW G pf adf f ++ SW G hm adm ca nn u ++ AW G qw 384 wv ++ AW G qk 384 bv ++ AZ G qz 384 zv ++ AZ G qi 384 iv) (wc := OW G ho pn pa pf ae xa15 ++ RW G pn adn q ++ RW G pa ada raa17 ++ FW G pf adf f) (wr := SW G hm adm ca nn u ++ AW G qw 384 wv ++ AW G qk 384 bv ++ AZ G qz 384 zv ++ AZ G qi 384 iv) (w1 := OW G ho pn pa pf ae xa39 ++ RW G pn adn q40 ++ RW G pa ada raa41 ++ FW G pf adf f42) hP hD [0, 1, 2, 3, 4, 5, 6, 7, 8, 9, 10, 11, 12, 13, 14, 15, 16, 17, 18, 19, 20, 21, 22, 23, 24, 25, 26, 27, 28, 29, 30] [31, 32, 33, 34, 35, 36, 37, 38, 39, 40, 41, 42] sb_3e87190c88 sb_3a53376573 (by decide +kernel) (by decide +kernel) hk1 ht hFc hB
                  have hP : va_P G.1 vwCl (OW G ho pn pa pf ae xa39 ++ RW G pn adn q40 ++ RW G pa ada raa41 ++ FW G pf adf f42 ++ SW G hm adm ca nn u ++ AW G qw 384 wv ++ AW G qk 384 bv ++ AZ G qz 384 zv ++ AZ G qi 384 iv) H1 := hP.sub [12, 13, 14, 15, 16, 17, 18, 19, 20, 21, 22, 23, 24, 25, 26, 27, 28, 29, 30, 31, 32, 33, 34, 35, 36, 37, 38, 39, 40, 41, 42, 0, 1, 2, 3, 4, 5, 6, 7, 8, 9, 10, 11] sb_bb583c380b
                  have hD : va_D A (OW G ho pn pa pf ae xa39 ++ RW G pn adn q40 ++ RW G pa ada raa41 ++ FW G pf adf f42 ++ SW G hm adm ca nn u ++ AW G qw 384 wv ++ AW G qk 384 bv ++ AZ G qz 384 zv ++ AZ G qi 384 iv) := hD.sub [12, 13, 14, 15, 16, 17, 18, 19, 20, 21, 22, 23, 24, 25, 26, 27, 28, 29, 30, 31, 32, 33, 34, 35, 36, 37, 38, 39, 40, 41, 42, 0, 1, 2, 3, 4, 5, 6, 7, 8, 9, 10, 11] (by decide +kernel) sb_8ad0923ef0
                  clear hB hk1 hFc ht hz1 hvm hk0
                  generalize H1 = H at hP hS ⊢
                  obtain ⟨z43, rfl, -, ⟨okxa39, okq40, okraa41, okf42⟩, w45, w46, w47⟩ := hw
                  have w45 := w45.symm
                  subst w45
                  have w46 := w46.symm
                  subst w46
                  subst w47
                  refine mf_top (vCell q f (kv % 24) (kv / 24) 4) (lyl q kv) (by unfold vCell; rw [if_neg (by decide)]; rw [if_neg (by decide)]; rw [if_neg (by decide)]; rw [if_neg (by decide)]; rw [if_pos rfl, show kv % 24 + 24 * (kv / 24) = kv by omega]) ?_
                  have b_109d1d : (0 : Int) ≤ lyl q kv ∧ lyl q kv ≤ 100000 := lyl_b ok kv
                  skip
                  refine mf_if_le (tgt := 910) hx hb dL_law_905 (by decide) (i32_mk (by omega) (by omega)) (fun c48 => ?_) (fun c48 => ?_)
                  · skip
                    exact lp910 xa39 raa41 (cc + 3) (sc + 18) (by first | assumption | omega) (by first | assumption | omega) (by first | assumption | omega) (by first | assumption | omega) _ _ hP hD hS ls (lv_sub hl [0, 1, 2, 3, 4, 5, 6, 7, 8, 9, 10, 11, 12, 13, 14, 15] rfl)
                  · skip
                    exfalso; have g8 := lyl_in (r := q) (c := kv) (by omega) (by omega); have g7 := hPI.2.2.2.1 kv (by omega) (by omega) (by assumption); omega
              refine lv_iload hx hb dL_law_852 (lv_at hl 16 rfl) ?_
              refine lv_aload hx hb dL_law_854 (lv_at hl 5 rfl) ?_
              refine lv_iload hx hb dL_law_856 (lv_at hl 15 rfl) ?_
              refine mf_iald (n := 384) (f := wv 0) hx hb hK hP 39 0 rfl rfl (z := kv) (by omega) (by omega) (by first | decide | omega) dL_law_858 ?_
              refine mf_top (wv 0 kv) (r 1 kv) (by exact hw kv (by omega) (by omega)) ?_
              have b1r : (0 : Int) ≤ r 1 kv ∧ r 1 kv ≤ 200000000 := hokr 1 kv
              skip
              refine lv_iload hx hb dL_law_859 (lv_at hl 18 rfl) ?_
              refine mf_iadd hx hb dL_law_861 ?_
              refine mf_icmp_eq (tgt := 870) hx hb dL_law_862 (by decide) (i32_mk (by omega) (by omega)) (i32_mk (by omega) (by omega)) (fun c49 => ?_) (fun c49 => ?_)
              · skip
                refine lv_iload hx hb dL_law_870 (lv_at hl 17 rfl) ?_
                refine mf_if_eq (tgt := 882) hx hb dL_law_872 (by decide) (i32_mk (by omega) (by omega)) (fun c50 => ?_) (fun c50 => ?_)
                · skip
                  exact lp882  (by trivial) _ _ hP hD hS ls (lv_sub hl [0, 1, 2, 3, 4, 5, 6, 7, 8, 9, 10, 11, 12, 13, 14, 15] rfl)
                · skip
                  refine lv_iload hx hb dL_law_875 (lv_at hl 16 rfl) ?_
                  refine mf_if_eq (tgt := 882) hx hb dL_law_877 (by decide) (i32_mk (by omega) (by omega)) (fun c51 => ?_) (fun c51 => ?_)
                  · skip
                    exact lp882  (by trivial) _ _ hP hD hS ls (lv_sub hl [0, 1, 2, 3, 4, 5, 6, 7, 8, 9, 10, 11, 12, 13, 14, 15] rfl)
                  · skip
                    exfalso; have nv1 : 0 ≤ q 10 kv ∧ ¬ 0 ≤ r 10 kv := bP_n0 (by rw [← hnv]; assumption); have := hyL.2.2.2.2.2.1 kv (by omega) (by omega) nv1.1 nv1.2; omega
              · skip
                refine lv_iload hx hb dL_law_865 (lv_at hl 16 rfl) ?_
                refine mf_if_ne (tgt := 880) hx hb dL_law_867 (by decide) (i32_mk (by omega) (by omega)) (fun c52 => ?_) (fun c52 => ?_)
                · skip
                  exfalso; rcases hyL.2.2.2.2.1 kv (by omega) (by omega) with z | z <;> omega
                · skip
                  refine lv_iload hx hb dL_law_870 (lv_at hl 17 rfl) ?_
                  refine mf_if_eq (tgt := 882) hx hb dL_law_872 (by decide) (i32_mk (by omega) (by omega)) (fun c53 => ?_) (fun c53 => ?_)
                  · skip
                    exact lp882  (by trivial) _ _ hP hD hS ls (lv_sub hl [0, 1, 2, 3, 4, 5, 6, 7, 8, 9, 10, 11, 12, 13, 14, 15] rfl)
                  · skip
                    refine lv_iload hx hb dL_law_875 (lv_at hl 16 rfl) ?_
                    refine mf_if_eq (tgt := 882) hx hb dL_law_877 (by decide) (i32_mk (by omega) (by omega)) (fun c54 => ?_) (fun c54 => ?_)
                    · skip
                      exact lp882  (by trivial) _ _ hP hD hS ls (lv_sub hl [0, 1, 2, 3, 4, 5, 6, 7, 8, 9, 10, 11, 12, 13, 14, 15] rfl)
                    · skip
                      exfalso; have nv1 : 0 ≤ q 10 kv ∧ ¬ 0 ≤ r 10 kv := bP_n0 (by rw [← hnv]; assumption); have := hyL.2.2.2.2.2.1 kv (by omega) (by omega) nv1.1 nv1.2; omega
            refine lv_aload hx hb dL_law_820 (lv_at hl 7 rfl) ?_
            refine lv_iload hx hb dL_law_822 (lv_at hl 15 rfl) ?_
            refine mf_zald (n := 384) (f := zv 0) hx hb hK hP 41 1 rfl rfl (z := kv) (by omega) (by omega) (by first | decide | omega) dL_law_824 ?_
            refine mf_top (zv 0 kv) (bP (0 ≤ r 10 kv)) (by exact hz kv (by omega) (by omega)) ?_
            skip
            refine mf_bp_ne (tgt := 838) hx hb dL_law_825 (by decide) (fun c55 => ?_) (fun c55 => ?_)
            · skip
              refine mf_iconst hx hb dL_law_838 ?_
              refine lv_goto (tgt := 850) hx hb dL_law_839 (by decide) ?_
              refine mf_top (0) (moreF r (r 5 (tv % 12)) kv) (by exact (mf_if_t (by first | (exact Or.inl (by assumption)) | (exact Or.inr (by omega)))).symm) ?_
              have bmo := moreF_b hokr bfl.1 bfl.2 kv
              skip
              refine lv_istore (lv' := [(26, .int (iI (moreF r (r 5 (tv % 12)) kv))), (0, .ref b), (1, .ref ho), (2, .ref hm), (4, .int (iI (tv))), (6, .int (iI (r 7 0))), (7, .ref qw), (8, .ref qk), (9, .ref qz), (10, .int (iI (q 7 0))), (11, .int (iI (q 9 0 - r 9 0))), (16, .int (iI (r 5 (tv % 12)))), (17, .int (iI (bz))), (20, .ref qi), (21, .int (iI (lk2))), (22, .int (iI (fr2))), (23, .int (iI (kv))), (24, .int (iI (q 1 kv))), (25, .int (iI (nv)))]) hx hb dL_law_850 hl (by decide) rfl (fun ls hl => ?_)
              exact lp852  (by exact bmo) _ _ hP hD hS ls (lv_sub hl [1, 2, 3, 4, 5, 6, 7, 8, 9, 10, 11, 12, 13, 14, 15, 16, 17, 18, 0] rfl)
            · skip
              refine lv_aload_n hx hb dL_law_828 rfl (lv_at hl 2 rfl) ?_
              refine va_get (D := G.1) (ci := 3) (v := .ref (adm 4)) (C := RX3) (T := TX3) (N := 9) hx hb hts hinX3 hown hK hP 31 rfl rfl 4 (by decide) (hts (.fieldLink RL 55 "MeanderFarmLaw$Sim" "stones" "[Z") (List.mem_of_getElem? (i := 11) rfl)) (fun _ h9 => h9) rfl dL_law_829 ?_
              refine lv_iload hx hb dL_law_832 (lv_at hl 15 rfl) ?_
              refine mf_zald (n := 384) (f := u 4) hx hb hK hP 34 1 rfl rfl (z := kv) (by omega) (by omega) (by first | decide | omega) dL_law_834 ?_
              refine mf_top (u 4 kv) (q 2 kv) (by rw [(rel4 hrel (z := kv) (by omega) (by omega))]) ?_
              have b56 : (0 : Int) ≤ q 2 kv ∧ q 2 kv ≤ 1 := ok 2 (kv)
              have eq2 : q 2 kv = r 2 kv := by rw [hq2]
              refine mf_if_eq (tgt := 842) hx hb dL_law_835 (by decide) (i32_mk (by omega) (by omega)) (fun c57 => ?_) (fun c57 => ?_)
              · skip
                refine lv_aload hx hb dL_law_842 (lv_at hl 6 rfl) ?_
                refine lv_iload hx hb dL_law_844 (lv_at hl 15 rfl) ?_
                refine mf_iald (n := 384) (f := bv 0) hx hb hK hP 40 0 rfl rfl (z := kv) (by omega) (by omega) (by first | decide | omega) dL_law_846 ?_
                refine lv_iload hx hb dL_law_847 (lv_at hl 10 rfl) ?_
                refine mf_imul hx hb dL_law_849 ?_
                refine mf_top ((bv 0 kv) * (r 5 (tv % 12))) (moreF r (r 5 (tv % 12)) kv) (by rw [hbk kv (by omega) (by omega)]; exact (mf_if_f (fun z => by rcases z with z | z; (contradiction); (omega))).symm) ?_
                have bmo := moreF_b hokr bfl.1 bfl.2 kv
                skip
                refine lv_istore (lv' := [(26, .int (iI (moreF r (r 5 (tv % 12)) kv))), (0, .ref b), (1, .ref ho), (2, .ref hm), (4, .int (iI (tv))), (6, .int (iI (r 7 0))), (7, .ref qw), (8, .ref qk), (9, .ref qz), (10, .int (iI (q 7 0))), (11, .int (iI (q 9 0 - r 9 0))), (16, .int (iI (r 5 (tv % 12)))), (17, .int (iI (bz))), (20, .ref qi), (21, .int (iI (lk2))), (22, .int (iI (fr2))), (23, .int (iI (kv))), (24, .int (iI (q 1 kv))), (25, .int (iI (nv)))]) hx hb dL_law_850 hl (by decide) rfl (fun ls hl => ?_)
                exact lp852  (by exact bmo) _ _ hP hD hS ls (lv_sub hl [1, 2, 3, 4, 5, 6, 7, 8, 9, 10, 11, 12, 13, 14, 15, 16, 17, 18, 0] rfl)
              · skip
                refine mf_iconst hx hb dL_law_838 ?_
                refine lv_goto (tgt := 850) hx hb dL_law_839 (by decide) ?_
                refine mf_top (0) (moreF r (r 5 (tv % 12)) kv) (by exact (mf_if_t (by first | (exact Or.inl (by assumption)) | (exact Or.inr (by omega)))).symm) ?_
                have bmo := moreF_b hokr bfl.1 bfl.2 kv
                skip
                refine lv_istore (lv' := [(26, .int (iI (moreF r (r 5 (tv % 12)) kv))), (0, .ref b), (1, .ref ho), (2, .ref hm), (4, .int (iI (tv))), (6, .int (iI (r 7 0))), (7, .ref qw), (8, .ref qk), (9, .ref qz), (10, .int (iI (q 7 0))), (11, .int (iI (q 9 0 - r 9 0))), (16, .int (iI (r 5 (tv % 12)))), (17, .int (iI (bz))), (20, .ref qi), (21, .int (iI (lk2))), (22, .int (iI (fr2))), (23, .int (iI (kv))), (24, .int (iI (q 1 kv))), (25, .int (iI (nv)))]) hx hb dL_law_850 hl (by decide) rfl (fun ls hl => ?_)
                exact lp852  (by exact bmo) _ _ hP hD hS ls (lv_sub hl [1, 2, 3, 4, 5, 6, 7, 8, 9, 10, 11, 12, 13, 14, 15, 16, 17, 18, 0] rfl)
          refine mf_top (vCell q f (kv % 24) (kv / 24) 4) (lyl q kv) (by unfold vCell; rw [if_neg (by decide)]; rw [if_neg (by decide)]; rw [if_neg (by decide)]; rw [if_neg (by decide)]; rw [if_pos rfl, show kv % 24 + 24 * (kv / 24) = kv by omega]) ?_
          have b_109d1d : (0 : Int) ≤ lyl q kv ∧ lyl q kv ≤ 100000 := lyl_b ok kv
          skip
          refine mf_if_le (tgt := 816) hx hb dL_law_809 (by decide) (i32_mk (by omega) (by omega)) (fun c58 => ?_) (fun c58 => ?_)
          · skip
            refine mf_iconst hx hb dL_law_816 ?_
            refine mf_iadd hx hb dL_law_817 ?_
            refine lv_istore (lv' := [(21, .int (iI (lk + 0))), (0, .ref b), (1, .ref ho), (2, .ref hm), (4, .int (iI (tv))), (6, .int (iI (r 7 0))), (7, .ref qw), (8, .ref qk), (9, .ref qz), (10, .int (iI (q 7 0))), (11, .int (iI (q 9 0 - r 9 0))), (16, .int (iI (r 5 (tv % 12)))), (17, .int (iI (bz))), (20, .ref qi), (22, .int (iI (fr2))), (23, .int (iI (kv))), (24, .int (iI (q 1 kv))), (25, .int (iI (nv)))]) hx hb dL_law_818 hl (by decide) rfl (fun ls hl => ?_)
            exact lp820 (lk + 0) (by rw [bP_f (by omega)]) (by first | assumption | omega) _ _ hP hD hS ls (lv_sub hl [1, 2, 3, 4, 5, 6, 7, 8, 9, 10, 11, 12, 13, 0, 14, 15, 16, 17] rfl)
          · skip
            refine mf_iconst hx hb dL_law_812 ?_
            refine lv_goto (tgt := 817) hx hb dL_law_813 (by decide) ?_
            refine mf_iadd hx hb dL_law_817 ?_
            refine lv_istore (lv' := [(21, .int (iI (lk + 1))), (0, .ref b), (1, .ref ho), (2, .ref hm), (4, .int (iI (tv))), (6, .int (iI (r 7 0))), (7, .ref qw), (8, .ref qk), (9, .ref qz), (10, .int (iI (q 7 0))), (11, .int (iI (q 9 0 - r 9 0))), (16, .int (iI (r 5 (tv % 12)))), (17, .int (iI (bz))), (20, .ref qi), (22, .int (iI (fr2))), (23, .int (iI (kv))), (24, .int (iI (q 1 kv))), (25, .int (iI (nv)))]) hx hb dL_law_818 hl (by decide) rfl (fun ls hl => ?_)
            exact lp820 (lk + 1) (by rw [bP_t (by omega)]) (by first | assumption | omega) _ _ hP hD hS ls (lv_sub hl [1, 2, 3, 4, 5, 6, 7, 8, 9, 10, 11, 12, 13, 0, 14, 15, 16, 17] rfl)
        refine lv_aload hx hb dL_law_754 (lv_at hl 13 rfl) ?_
        refine lv_iload hx hb dL_law_756 (lv_at hl 16 rfl) ?_
        refine mf_zald (n := 384) (f := iv 0) hx hb hK hP 42 1 rfl rfl (z := kv) (by omega) (by omega) (by first | decide | omega) dL_law_758 ?_
        refine mf_top (iv 0 kv) (bP (0 ≤ q 10 kv)) (by exact hi kv (by omega) (by omega)) ?_
        skip
        refine mf_bp_eq (tgt := 774) hx hb dL_law_759 (by decide) (fun c59 => ?_) (fun c59 => ?_)
        · skip
          refine mf_iconst hx hb dL_law_774 ?_
          refine lv_istore (lv' := [(25, .int (iI (0))), (24, .int (iI (q 1 kv))), (0, .ref b), (1, .ref ho), (2, .ref hm), (4, .int (iI (tv))), (6, .int (iI (r 7 0))), (7, .ref qw), (8, .ref qk), (9, .ref qz), (10, .int (iI (q 7 0))), (11, .int (iI (q 9 0 - r 9 0))), (16, .int (iI (r 5 (tv % 12)))), (17, .int (iI (bz))), (20, .ref qi), (21, .int (iI (lk))), (22, .int (iI (fr))), (23, .int (iI (kv)))]) hx hb dL_law_775 hl (by decide) rfl (fun ls hl => ?_)
          refine lv_iload hx hb dL_law_777 (lv_at hl 16 rfl) ?_
          refine lv_iload hx hb dL_law_779 (lv_at hl 0 rfl) ?_
          refine mf_if_eq (tgt := 788) hx hb dL_law_781 (by decide) (i32_mk (by decide) (by decide)) (fun c60 => ?_) (fun c60 => ?_)
          · skip
            refine mf_iconst hx hb dL_law_788 ?_
            refine mf_iadd hx hb dL_law_789 ?_
            refine lv_istore (lv' := [(22, .int (iI (fr + 0))), (25, .int (iI (0))), (24, .int (iI (q 1 kv))), (0, .ref b), (1, .ref ho), (2, .ref hm), (4, .int (iI (tv))), (6, .int (iI (r 7 0))), (7, .ref qw), (8, .ref qk), (9, .ref qz), (10, .int (iI (q 7 0))), (11, .int (iI (q 9 0 - r 9 0))), (16, .int (iI (r 5 (tv % 12)))), (17, .int (iI (bz))), (20, .ref qi), (21, .int (iI (lk))), (23, .int (iI (kv)))]) hx hb dL_law_790 hl (by decide) rfl (fun ls hl => ?_)
            exact lp792 0 (fr + 0) (by exact (bP_f (by omega)).symm) (by rw [bP_f (by omega)]) (by first | assumption | omega) (by first | assumption | omega) _ _ hP hD hS ls (lv_sub hl [3, 4, 5, 6, 7, 8, 9, 10, 11, 12, 13, 14, 15, 16, 0, 17, 2, 1] rfl)
          · skip
            exact absurd c60 (by omega)
        · skip
          refine lv_aload hx hb dL_law_762 (lv_at hl 8 rfl) ?_
          refine lv_iload hx hb dL_law_764 (lv_at hl 16 rfl) ?_
          refine mf_zald (n := 384) (f := zv 0) hx hb hK hP 41 1 rfl rfl (z := kv) (by omega) (by omega) (by first | decide | omega) dL_law_766 ?_
          refine mf_top (zv 0 kv) (bP (0 ≤ r 10 kv)) (by exact hz kv (by omega) (by omega)) ?_
          skip
          refine mf_bp_ne (tgt := 774) hx hb dL_law_767 (by decide) (fun c61 => ?_) (fun c61 => ?_)
          · skip
            refine mf_iconst hx hb dL_law_774 ?_
            refine lv_istore (lv' := [(25, .int (iI (0))), (24, .int (iI (q 1 kv))), (0, .ref b), (1, .ref ho), (2, .ref hm), (4, .int (iI (tv))), (6, .int (iI (r 7 0))), (7, .ref qw), (8, .ref qk), (9, .ref qz), (10, .int (iI (q 7 0))), (11, .int (iI (q 9 0 - r 9 0))), (16, .int (iI (r 5 (tv % 12)))), (17, .int (iI (bz))), (20, .ref qi), (21, .int (iI (lk))), (22, .int (iI (fr))), (23, .int (iI (kv)))]) hx hb dL_law_775 hl (by decide) rfl (fun ls hl => ?_)
            refine lv_iload hx hb dL_law_777 (lv_at hl 16 rfl) ?_
            refine lv_iload hx hb dL_law_779 (lv_at hl 0 rfl) ?_
            refine mf_if_eq (tgt := 788) hx hb dL_law_781 (by decide) (i32_mk (by decide) (by decide)) (fun c62 => ?_) (fun c62 => ?_)
            · skip
              refine mf_iconst hx hb dL_law_788 ?_
              refine mf_iadd hx hb dL_law_789 ?_
              refine lv_istore (lv' := [(22, .int (iI (fr + 0))), (25, .int (iI (0))), (24, .int (iI (q 1 kv))), (0, .ref b), (1, .ref ho), (2, .ref hm), (4, .int (iI (tv))), (6, .int (iI (r 7 0))), (7, .ref qw), (8, .ref qk), (9, .ref qz), (10, .int (iI (q 7 0))), (11, .int (iI (q 9 0 - r 9 0))), (16, .int (iI (r 5 (tv % 12)))), (17, .int (iI (bz))), (20, .ref qi), (21, .int (iI (lk))), (23, .int (iI (kv)))]) hx hb dL_law_790 hl (by decide) rfl (fun ls hl => ?_)
              exact lp792 0 (fr + 0) (by exact (bP_f (by omega)).symm) (by rw [bP_f (by omega)]) (by first | assumption | omega) (by first | assumption | omega) _ _ hP hD hS ls (lv_sub hl [3, 4, 5, 6, 7, 8, 9, 10, 11, 12, 13, 14, 15, 16, 0, 17, 2, 1] rfl)
            · skip
              exact absurd c62 (by omega)
          · skip
            refine mf_iconst hx hb dL_law_770 ?_
            refine lv_goto (tgt := 775) hx hb dL_law_771 (by decide) ?_
            refine lv_istore (lv' := [(25, .int (iI (1))), (24, .int (iI (q 1 kv))), (0, .ref b), (1, .ref ho), (2, .ref hm), (4, .int (iI (tv))), (6, .int (iI (r 7 0))), (7, .ref qw), (8, .ref qk), (9, .ref qz), (10, .int (iI (q 7 0))), (11, .int (iI (q 9 0 - r 9 0))), (16, .int (iI (r 5 (tv % 12)))), (17, .int (iI (bz))), (20, .ref qi), (21, .int (iI (lk))), (22, .int (iI (fr))), (23, .int (iI (kv)))]) hx hb dL_law_775 hl (by decide) rfl (fun ls hl => ?_)
            refine lv_iload hx hb dL_law_777 (lv_at hl 16 rfl) ?_
            refine lv_iload hx hb dL_law_779 (lv_at hl 0 rfl) ?_
            refine mf_if_eq (tgt := 788) hx hb dL_law_781 (by decide) (i32_mk (by decide) (by decide)) (fun c63 => ?_) (fun c63 => ?_)
            · skip
              exact absurd c63 (by omega)
            · skip
              refine mf_iconst hx hb dL_law_784 ?_
              refine lv_goto (tgt := 789) hx hb dL_law_785 (by decide) ?_
              refine mf_iadd hx hb dL_law_789 ?_
              refine lv_istore (lv' := [(22, .int (iI (fr + 1))), (25, .int (iI (1))), (24, .int (iI (q 1 kv))), (0, .ref b), (1, .ref ho), (2, .ref hm), (4, .int (iI (tv))), (6, .int (iI (r 7 0))), (7, .ref qw), (8, .ref qk), (9, .ref qz), (10, .int (iI (q 7 0))), (11, .int (iI (q 9 0 - r 9 0))), (16, .int (iI (r 5 (tv % 12)))), (17, .int (iI (bz))), (20, .ref qi), (21, .int (iI (lk))), (23, .int (iI (kv)))]) hx hb dL_law_790 hl (by decide) rfl (fun ls hl => ?_)
              exact lp792 1 (fr + 1) (by exact (bP_t ⟨by assumption, by assumption⟩).symm) (by rw [bP_t ⟨by assumption, by assumption⟩]) (by first | assumption | omega) (by first | assumption | omega) _ _ hP hD hS ls (lv_sub hl [3, 4, 5, 6, 7, 8, 9, 10, 11, 12, 13, 14, 15, 16, 0, 17, 2, 1] rfl)
  exact lp729 (_ + 1) 0 0 0 x ra (cells) (slots) (Nat.lt_succ_self _) (by first | assumption | omega) (by rfl) (by rfl) (by first | assumption | omega) (by first | assumption | omega) (by exact okx) (by exact okra) (by first | assumption | omega) (by first | assumption | omega) _ _ hP hD hS ls (lv_sub hl [3, 4, 5, 6, 7, 8, 9, 10, 11, 12, 13, 14, 15, 2, 1, 0] rfl)
