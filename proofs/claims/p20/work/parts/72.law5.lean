/-! 72.law5: a year of the law, a part of it -/
theorem sb_874784283d {G : mf_G} {h1 p1 a1 f1 ae1 : Nat} {x1 : mf_V} {h2 : Nat} {ad2 : Nat → Nat} {x2 : mf_V} {h3 : Nat} {ad3 : Nat → Nat} {x3 : mf_V} {h4 : Nat} {ad4 : Nat → Nat} {x4 : mf_V} {h5 : Nat} {ad5 : Nat → Nat} {ca5 n5 : Nat} {x5 : mf_V} {h6 : Nat} {x6 : mf_V} {h7 : Nat} {x7 : mf_V} {h8 : Nat} {x8 : mf_V} {h9 : Nat} {x9 : mf_V} : ([0, 1, 2, 3, 4, 5, 6, 7, 8, 9, 10, 11, 12, 13, 14, 15, 16, 17, 18, 19, 20, 21, 22, 23, 24, 25, 26, 27, 28, 29, 30] : List Nat).filterMap (fun i => (OW G h1 p1 a1 f1 ae1 x1 ++ RW G h2 ad2 x2 ++ RW G h3 ad3 x3 ++ FW G h4 ad4 x4 ++ SW G h5 ad5 ca5 n5 x5 ++ AW G h6 384 x6 ++ AW G h7 384 x7 ++ AZ G h8 384 x8 ++ AZ G h9 384 x9)[i]?) = OW G h1 p1 a1 f1 ae1 x1 ++ RW G h2 ad2 x2 ++ RW G h3 ad3 x3 ++ FW G h4 ad4 x4 := rfl
theorem sb_3e87190c88 {G : mf_G} {h1 p1 a1 f1 ae1 : Nat} {x1 : mf_V} {h2 : Nat} {ad2 : Nat → Nat} {x2 : mf_V} {h3 : Nat} {ad3 : Nat → Nat} {x3 : mf_V} {h4 : Nat} {ad4 : Nat → Nat} {x4 : mf_V} {h5 : Nat} {ad5 : Nat → Nat} {ca5 n5 : Nat} {x5 : mf_V} {h6 : Nat} {x6 : mf_V} {h7 : Nat} {x7 : mf_V} {h8 : Nat} {x8 : mf_V} {h9 : Nat} {x9 : mf_V} : ([0, 1, 2, 3, 4, 5, 6, 7, 8, 9, 10, 11, 12, 13, 14, 15, 16, 17, 18, 19, 20, 21, 22, 23, 24, 25, 26, 27, 28, 29, 30] : List Nat).map (fun i => (OW G h1 p1 a1 f1 ae1 x1 ++ RW G h2 ad2 x2 ++ RW G h3 ad3 x3 ++ FW G h4 ad4 x4 ++ SW G h5 ad5 ca5 n5 x5 ++ AW G h6 384 x6 ++ AW G h7 384 x7 ++ AZ G h8 384 x8 ++ AZ G h9 384 x9)[i]?) = (OW G h1 p1 a1 f1 ae1 x1 ++ RW G h2 ad2 x2 ++ RW G h3 ad3 x3 ++ FW G h4 ad4 x4).map some := rfl
theorem sb_3a53376573 {G : mf_G} {h1 p1 a1 f1 ae1 : Nat} {x1 : mf_V} {h2 : Nat} {ad2 : Nat → Nat} {x2 : mf_V} {h3 : Nat} {ad3 : Nat → Nat} {x3 : mf_V} {h4 : Nat} {ad4 : Nat → Nat} {x4 : mf_V} {h5 : Nat} {ad5 : Nat → Nat} {ca5 n5 : Nat} {x5 : mf_V} {h6 : Nat} {x6 : mf_V} {h7 : Nat} {x7 : mf_V} {h8 : Nat} {x8 : mf_V} {h9 : Nat} {x9 : mf_V} : ([31, 32, 33, 34, 35, 36, 37, 38, 39, 40, 41, 42] : List Nat).map (fun i => (OW G h1 p1 a1 f1 ae1 x1 ++ RW G h2 ad2 x2 ++ RW G h3 ad3 x3 ++ FW G h4 ad4 x4 ++ SW G h5 ad5 ca5 n5 x5 ++ AW G h6 384 x6 ++ AW G h7 384 x7 ++ AZ G h8 384 x8 ++ AZ G h9 384 x9)[i]?) = (SW G h5 ad5 ca5 n5 x5 ++ AW G h6 384 x6 ++ AW G h7 384 x7 ++ AZ G h8 384 x8 ++ AZ G h9 384 x9).map some := rfl
theorem sb_bb583c380b {G : mf_G} {h1 : Nat} {ad1 : Nat → Nat} {ca1 n1 : Nat} {x1 : mf_V} {h2 : Nat} {x2 : mf_V} {h3 : Nat} {x3 : mf_V} {h4 : Nat} {x4 : mf_V} {h5 : Nat} {x5 : mf_V} {h6 p6 a6 f6 ae6 : Nat} {x6 : mf_V} {h7 : Nat} {ad7 : Nat → Nat} {x7 : mf_V} {h8 : Nat} {ad8 : Nat → Nat} {x8 : mf_V} {h9 : Nat} {ad9 : Nat → Nat} {x9 : mf_V} : ([12, 13, 14, 15, 16, 17, 18, 19, 20, 21, 22, 23, 24, 25, 26, 27, 28, 29, 30, 31, 32, 33, 34, 35, 36, 37, 38, 39, 40, 41, 42, 0, 1, 2, 3, 4, 5, 6, 7, 8, 9, 10, 11] : List Nat).filterMap (fun i => ((SW G h1 ad1 ca1 n1 x1 ++ AW G h2 384 x2 ++ AW G h3 384 x3 ++ AZ G h4 384 x4 ++ AZ G h5 384 x5) ++ (OW G h6 p6 a6 f6 ae6 x6 ++ RW G h7 ad7 x7 ++ RW G h8 ad8 x8 ++ FW G h9 ad9 x9))[i]?) = OW G h6 p6 a6 f6 ae6 x6 ++ RW G h7 ad7 x7 ++ RW G h8 ad8 x8 ++ FW G h9 ad9 x9 ++ SW G h1 ad1 ca1 n1 x1 ++ AW G h2 384 x2 ++ AW G h3 384 x3 ++ AZ G h4 384 x4 ++ AZ G h5 384 x5 := rfl
theorem sb_8ad0923ef0 {G : mf_G} {h1 : Nat} {ad1 : Nat → Nat} {ca1 n1 : Nat} {x1 : mf_V} {h2 : Nat} {x2 : mf_V} {h3 : Nat} {x3 : mf_V} {h4 : Nat} {x4 : mf_V} {h5 : Nat} {x5 : mf_V} {h6 p6 a6 f6 ae6 : Nat} {x6 : mf_V} {h7 : Nat} {ad7 : Nat → Nat} {x7 : mf_V} {h8 : Nat} {ad8 : Nat → Nat} {x8 : mf_V} {h9 : Nat} {ad9 : Nat → Nat} {x9 : mf_V} : ([12, 13, 14, 15, 16, 17, 18, 19, 20, 21, 22, 23, 24, 25, 26, 27, 28, 29, 30, 31, 32, 33, 34, 35, 36, 37, 38, 39, 40, 41, 42, 0, 1, 2, 3, 4, 5, 6, 7, 8, 9, 10, 11] : List Nat).map (fun i => ((SW G h1 ad1 ca1 n1 x1 ++ AW G h2 384 x2 ++ AW G h3 384 x3 ++ AZ G h4 384 x4 ++ AZ G h5 384 x5) ++ (OW G h6 p6 a6 f6 ae6 x6 ++ RW G h7 ad7 x7 ++ RW G h8 ad8 x8 ++ FW G h9 ad9 x9))[i]?) = (OW G h6 p6 a6 f6 ae6 x6 ++ RW G h7 ad7 x7 ++ RW G h8 ad8 x8 ++ FW G h9 ad9 x9 ++ SW G h1 ad1 ca1 n1 x1 ++ AW G h2 384 x2 ++ AW G h3 384 x3 ++ AZ G h4 384 x4 ++ AZ G h5 384 x5).map some := rfl
set_option maxHeartbeats 4000000 in
set_option maxRecDepth 100000 in
theorem sg_5 {p : Program} {l : Launch} {e : Env} {s : State} {m : MethodId} {below : List Frame} {meth : Method} {c : Code} {Q : State → Prop} {b L : Nat} {xs : Nat → Int32} {G : mf_G} {A : Nat → Prop} (E : LEp p l s m meth c b L xs G A) (hL : L ≤ 260) {ho pn pa pf ae hm : Nat} {adn ada adf adm : Nat → Nat} {f : mf_V} (okf : rOK flo fhi f) (hf4 : f 4 0 = 1) (hFI : FInv f) {x : mf_V} {q : mf_V} {ra : mf_V} {u : mf_V} {r : mf_V} {ca : Nat} {nn : Nat} {qw : Nat} {qk : Nat} {qz : Nat} {wv : mf_V} {bv : mf_V} {zv : mf_V} {tv : Int} {bz : Int} {cells slots : Nat} {H : Heap} {locs : List Loc} {ls : Array Slot} (hLQ : LQs (9 + 2 * tv) x q ra f nn u) (hyL : YearL r q bz (r 5 (tv % 12))) (hokr : rOK rlo rhi r) (h8 : q 8 0 = tv + 1) (ht : 0 ≤ tv ∧ tv < 24) (hcl : cells + 620 ≤ 600104 ∧ slots + 4100 ≤ 7301314) (hP : va_P G.1 vwCl (OW G ho pn pa pf ae x ++ RW G pn adn q ++ RW G pa ada ra ++ FW G pf adf f ++ SW G hm adm ca nn u ++ AW G qw 384 wv ++ AW G qk 384 bv ++ AZ G qz 384 zv) H) (hD : va_D A (OW G ho pn pa pf ae x ++ RW G pn adn q ++ RW G pa ada ra ++ FW G pf adf f ++ SW G hm adm ca nn u ++ AW G qw 384 wv ++ AW G qk 384 bv ++ AZ G qz 384 zv)) (hS : va_S A s.heap H locs) (hl : lv_has ls 27 [(0, .ref b), (1, .ref ho), (2, .ref hm), (4, .int (iI (tv))), (6, .int (iI (r 7 0))), (7, .ref qw), (8, .ref qk), (9, .ref qz), (10, .int (iI (q 7 0))), (11, .int (iI (q 9 0 - r 9 0))), (16, .int (iI (r 5 (tv % 12)))), (17, .int (iI (bz)))])
    (kk : ∀ (x' : mf_V) (ra' : mf_V) (qi : Nat) (iv : mf_V), (rOK xlo xhi x') → (rOK rlo rhi ra') → (∀ c, 0 ≤ c → c < 384 → iv 0 c = bP (0 ≤ q 10 c)) → ∀ (H : Heap) (locs : List Loc) (ls : Array Slot), va_P G.1 vwCl (OW G ho pn pa pf ae x' ++ RW G pn adn q ++ RW G pa ada ra' ++ FW G pf adf f ++ SW G hm adm ca nn u ++ AW G qw 384 wv ++ AW G qk 384 bv ++ AZ G qz 384 zv ++ AZ G qi 384 iv) H → va_D A (OW G ho pn pa pf ae x' ++ RW G pn adn q ++ RW G pa ada ra' ++ FW G pf adf f ++ SW G hm adm ca nn u ++ AW G qw 384 wv ++ AW G qk 384 bv ++ AZ G qz 384 zv ++ AZ G qi 384 iv) → va_S A s.heap H locs → lv_has ls 27 [(0, .ref b), (1, .ref ho), (2, .ref hm), (4, .int (iI (tv))), (6, .int (iI (r 7 0))), (7, .ref qw), (8, .ref qk), (9, .ref qz), (10, .int (iI (q 7 0))), (11, .int (iI (q 9 0 - r 9 0))), (16, .int (iI (r 5 (tv % 12)))), (17, .int (iI (bz))), (18, .int (iI (q 6 (q 7 0 - 1)))), (19, .int (iI (bendsF q))), (20, .ref qi)] → W p l e room_1 s m #[Value.ref b] below meth c H locs (cells + 620) (slots + 4100) Q (F0 m 670 ls [])) :
    W p l e room_1 s m #[Value.ref b] below meth c H locs cells slots Q (F0 m 505 ls []) := by
  obtain ⟨hx, hb, hr, hml, hown, hts, hXs, hbl, hl9, hK, hN, hSX, hCX, hZ, hA, hbA⟩ := E
  have hcR : room_1.cells = 600104 := rfl
  have hsR : room_1.slots = 7301314 := rfl
  have hinX3 := inlX3
  have hinX2 := inlX2
  obtain ⟨⟨okx, ok, okra, -⟩, hPI, hB, oku, hrel⟩ := id hLQ
  have hI := hPI.1
  have h27 := hI.1.1
  have okLr : (0 : Int) ≤ q 7 0 ∧ q 7 0 ≤ 150 := ok 7 0
  have okL8 : (0 : Int) ≤ q 8 0 ∧ q 8 0 ≤ 90000 := ok 8 0
  have okL9 : (0 : Int) ≤ q 9 0 ∧ q 9 0 ≤ 100000000 := ok 9 0
  have b9 := hB.2.1
  have okR9 : (0 : Int) ≤ r 9 0 ∧ r 9 0 ≤ 100000000 := hokr 9 0
  have okR7 : (0 : Int) ≤ r 7 0 ∧ r 7 0 ≤ 150 := hokr 7 0
  have hb01 := hyL.1
  have hle := hyL.2.1
  have bfl : (0 : Int) ≤ r 5 (tv % 12) ∧ r 5 (tv % 12) ≤ 9 := hokr 5 _
  refine mf_iconst hx hb dL_law_505 ?_
  refine lv_istore (lv' := [(18, .int (iI ((-1)))), (0, .ref b), (1, .ref ho), (2, .ref hm), (4, .int (iI (tv))), (6, .int (iI (r 7 0))), (7, .ref qw), (8, .ref qk), (9, .ref qz), (10, .int (iI (q 7 0))), (11, .int (iI (q 9 0 - r 9 0))), (16, .int (iI (r 5 (tv % 12)))), (17, .int (iI (bz)))]) hx hb dL_law_506 hl (by decide) rfl (fun ls hl => ?_)
  refine mf_iconst hx hb dL_law_508 ?_
  refine lv_istore (lv' := [(19, .int (iI (0))), (18, .int (iI ((-1)))), (0, .ref b), (1, .ref ho), (2, .ref hm), (4, .int (iI (tv))), (6, .int (iI (r 7 0))), (7, .ref qw), (8, .ref qk), (9, .ref qz), (10, .int (iI (q 7 0))), (11, .int (iI (q 9 0 - r 9 0))), (16, .int (iI (r 5 (tv % 12)))), (17, .int (iI (bz)))]) hx hb dL_law_509 hl (by decide) rfl (fun ls hl => ?_)
  refine mf_sipush hx hb dL_law_511 rfl ?_
  refine mf_newz hx hb (hts (.arrayClass .boolean) (List.mem_of_getElem? (i := 4) rfl)) hK hP hD hS hA (n := 384) (N := 384) rfl (Nat.le_of_ble_eq_true rfl) (by first | (rw [hcR]; omega) | (rw [hsR]; omega)) (by first | (rw [hcR]; omega) | (rw [hsR]; omega)) dL_law_514 (fun na1 H hP hD hS => ?_)
  obtain ⟨av2, eav2⟩ : ∃ z9 : mf_V, z9 = fun _ _ => 0 := ⟨_, rfl⟩
  have hP : va_P G.1 vwCl (OW G ho pn pa pf ae x ++ RW G pn adn q ++ RW G pa ada ra ++ FW G pf adf f ++ SW G hm adm ca nn u ++ AW G qw 384 wv ++ AW G qk 384 bv ++ AZ G qz 384 zv ++ AZ G na1 384 av2) H := by rw [eav2]; exact hP
  have hD : va_D A (OW G ho pn pa pf ae x ++ RW G pn adn q ++ RW G pa ada ra ++ FW G pf adf f ++ SW G hm adm ca nn u ++ AW G qw 384 wv ++ AW G qk 384 bv ++ AZ G qz 384 zv ++ AZ G na1 384 av2) := by rw [eav2]; exact hD
  refine lv_astore (lv' := [(20, .ref na1), (19, .int (iI (0))), (18, .int (iI ((-1)))), (0, .ref b), (1, .ref ho), (2, .ref hm), (4, .int (iI (tv))), (6, .int (iI (r 7 0))), (7, .ref qw), (8, .ref qk), (9, .ref qz), (10, .int (iI (q 7 0))), (11, .int (iI (q 9 0 - r 9 0))), (16, .int (iI (r 5 (tv % 12)))), (17, .int (iI (bz)))]) hx hb dL_law_516 hl (by decide) rfl (fun ls hl => ?_)
  refine mf_iconst hx hb dL_law_518 ?_
  refine lv_istore (lv' := [(21, .int (iI (0))), (20, .ref na1), (19, .int (iI (0))), (18, .int (iI ((-1)))), (0, .ref b), (1, .ref ho), (2, .ref hm), (4, .int (iI (tv))), (6, .int (iI (r 7 0))), (7, .ref qw), (8, .ref qk), (9, .ref qz), (10, .int (iI (q 7 0))), (11, .int (iI (q 9 0 - r 9 0))), (16, .int (iI (r 5 (tv % 12)))), (17, .int (iI (bz)))]) hx hb dL_law_519 hl (by decide) rfl (fun ls hl => ?_)
  have lp521 : ∀ (n : Nat) (kv : Int) (pv : Int) (bn : Int) (xa : mf_V) (raa : mf_V) (ia_ : mf_V) (cc : Nat) (sc : Nat), (q 7 0 - kv).toNat < n → (0 ≤ kv ∧ kv ≤ q 7 0) → (kv = 0 ∨ pv = q 6 (kv - 1)) → (-1 ≤ pv ∧ pv ≤ 383) → (bn = bendN q kv) → (0 ≤ bn ∧ bn ≤ kv) → (rOK xlo xhi xa) → (rOK rlo rhi raa) → (∀ c, 0 ≤ c → c < 384 → ia_ 0 c = bP (0 ≤ q 10 c ∧ q 10 c < kv)) → ((cc : Int) ≤ cells + 1 + 4 * kv) → ((sc : Int) ≤ slots + 384 + 24 * kv) → ∀ (H : Heap) (locs : List Loc), va_P G.1 vwCl (OW G ho pn pa pf ae xa ++ RW G pn adn q ++ RW G pa ada raa ++ FW G pf adf f ++ SW G hm adm ca nn u ++ AW G qw 384 wv ++ AW G qk 384 bv ++ AZ G qz 384 zv ++ AZ G na1 384 ia_) H → va_D A (OW G ho pn pa pf ae xa ++ RW G pn adn q ++ RW G pa ada raa ++ FW G pf adf f ++ SW G hm adm ca nn u ++ AW G qw 384 wv ++ AW G qk 384 bv ++ AZ G qz 384 zv ++ AZ G na1 384 ia_) → va_S A s.heap H locs → ∀ (ls : Array Slot), lv_has ls 27 [(0, .ref b), (1, .ref ho), (2, .ref hm), (4, .int (iI (tv))), (6, .int (iI (r 7 0))), (7, .ref qw), (8, .ref qk), (9, .ref qz), (10, .int (iI (q 7 0))), (11, .int (iI (q 9 0 - r 9 0))), (16, .int (iI (r 5 (tv % 12)))), (17, .int (iI (bz))), (18, .int (iI (pv))), (19, .int (iI (bn))), (20, .ref na1), (21, .int (iI (kv)))] → W p l e room_1 s m #[Value.ref b] below meth c H locs cc sc Q (F0 m 521 ls []) := by
    intro n
    induction n with
    | zero => intro kv pv bn xa raa ia_ cc sc hn; exact absurd hn (Nat.not_lt_zero _)
    | succ n ih521 =>
      intro kv pv bn xa raa ia_ cc sc hn hk hp hpb hbn hbb okxa okraa hi hcc hsc H locs hP hD hS ls hl
      refine lv_iload hx hb dL_law_521 (lv_at hl 15 rfl) ?_
      refine lv_iload hx hb dL_law_523 (lv_at hl 8 rfl) ?_
      refine mf_icmp_ge (tgt := 670) hx hb dL_law_525 (by decide) (i32_mk (by omega) (by omega)) (i32_mk (by omega) (by omega)) (fun c3 => ?_) (fun c3 => ?_)
      · skip
        have hkv : kv = q 7 0 := by omega
        have e18 : q 6 (q 7 0 - 1) = pv := by rcases hp with z | z; (omega); (rw [z, hkv])
        have e19 : bendsF q = bn := by rw [hbn, hkv]; exact (bendN_F h27).symm
        subst e18 e19
        skip
        refine W.widen (k := cells + 620) (n := slots + 4100) (by omega) (by omega) ?_
        exact kk xa raa na1 ia_ (okxa) (okraa) (fun c c0 c1 => by rw [hi c c0 c1]; exact bP_cg ⟨fun w => w.1, fun w => ⟨w, by rcases hI.2.2.1.2 c c0 c1 with x1 | ⟨x1, x2, x3⟩ <;> omega⟩⟩) H locs ls hP hD hS (lv_sub hl [0, 1, 2, 3, 4, 5, 6, 7, 8, 9, 10, 11, 12, 13, 14] rfl)
      · skip
        refine lv_aload_n hx hb dL_law_528 rfl (lv_at hl 1 rfl) ?_
        refine lv_iload hx hb dL_law_529 (lv_at hl 15 rfl) ?_
        refine mf_iconst hx hb dL_law_531 ?_
        have hk0 : kCourse q kv 0 = 0 := by exact mf_if_f (fun q => q ⟨inC_mk (by omega) (by omega), by omega, by omega⟩)
        have hFc := va_free (wc := OW G ho pn pa pf ae xa ++ RW G pn adn q ++ RW G pa ada raa ++ FW G pf adf f) hD hS hA [0, 1, 2, 3, 4, 5, 6, 7, 8, 9, 10, 11, 12, 13, 14, 15, 16, 17, 18, 19, 20, 21, 22, 23, 24, 25, 26, 27, 28, 29, 30] sb_3e87190c88
        refine vx_calli (vx_runV (As := [.int (iI (kv)), .int (iI (0))]) (rest := []) ⟨hx, hb, hml, hown, hts⟩ (c_X2_course l hl9 G ho pn pa pf ae xa adn q ada raa adf f (kv) (0) (i32_mk (by omega) (by omega)) (i32_mk (by decide) (by decide)) (by assumption) (by assumption) (by assumption) (by assumption) _) (cwV 2 hts gL_law_X2_course rfl rfl rfl (by decide +kernel) ⟨Nat.le_of_ble_eq_true rfl, Nat.le_of_ble_eq_true rfl⟩) (wrVx (wc := OW G ho pn pa pf ae xa ++ RW G pn adn q ++ RW G pa ada raa ++ FW G pf adf f) hSX hCX hZ hS hFc hK hP hD hN [0, 1, 2, 3, 4, 5, 6, 7, 8, 9, 10, 11, 12, 13, 14, 15, 16, 17, 18, 19, 20, 21, 22, 23, 24, 25, 26, 27, 28, 29, 30] (by decide +kernel) sb_874784283d sb_3e87190c88 (ci := 2) rfl rfl) rfl rfl hl.1 rfl (lv_room (Nat.le_of_ble_eq_true rfl)) dL_law_532 ⟨(by rw [hcR]; omega), (by rw [hsR]; omega)⟩) hS (fun q _ h => hFc q h) hFc (fun q _ h => hFc q h) (fun E ce q9 _ t H1 locs ht hvm _ hB hz1 hk1 hS hce hcv hcl => ?_) (fun q4 u5 t H1 locs ht hvm hw hB hz1 hk1 hS => ?_)
        · exfalso
          have hx9 := hB.1
          rcases hx9 with ⟨-, hk9⟩ <;> omega
        obtain ⟨xa6, q7, raa8, f9⟩ := u5
        try dsimp only at hw hB
        obtain ⟨hP, hD⟩ := wrJ2 (ws := OW G ho pn pa pf ae xa ++ RW G pn adn q ++ RW G pa ada raa ++ FW G pf adf f ++ SW G hm adm ca nn u ++ AW G qw 384 wv ++ AW G qk 384 bv ++ AZ G qz 384 zv ++ AZ G na1 384 ia_) (wc := OW G ho pn pa pf ae xa ++ RW G pn adn q ++ RW G pa ada raa ++ FW G pf adf f) (wr := SW G hm adm ca nn u ++ AW G qw 384 wv ++ AW G qk 384 bv ++ AZ G qz 384 zv ++ AZ G na1 384 ia_) (w1 := OW G ho pn pa pf ae xa6 ++ RW G pn adn q7 ++ RW G pa ada raa8 ++ FW G pf adf f9) hP hD [0, 1, 2, 3, 4, 5, 6, 7, 8, 9, 10, 11, 12, 13, 14, 15, 16, 17, 18, 19, 20, 21, 22, 23, 24, 25, 26, 27, 28, 29, 30] [31, 32, 33, 34, 35, 36, 37, 38, 39, 40, 41, 42] sb_3e87190c88 sb_3a53376573 (by decide +kernel) (by decide +kernel) hk1 ht hFc hB
        have hP : va_P G.1 vwCl (OW G ho pn pa pf ae xa6 ++ RW G pn adn q7 ++ RW G pa ada raa8 ++ FW G pf adf f9 ++ SW G hm adm ca nn u ++ AW G qw 384 wv ++ AW G qk 384 bv ++ AZ G qz 384 zv ++ AZ G na1 384 ia_) H1 := hP.sub [12, 13, 14, 15, 16, 17, 18, 19, 20, 21, 22, 23, 24, 25, 26, 27, 28, 29, 30, 31, 32, 33, 34, 35, 36, 37, 38, 39, 40, 41, 42, 0, 1, 2, 3, 4, 5, 6, 7, 8, 9, 10, 11] sb_bb583c380b
        have hD : va_D A (OW G ho pn pa pf ae xa6 ++ RW G pn adn q7 ++ RW G pa ada raa8 ++ FW G pf adf f9 ++ SW G hm adm ca nn u ++ AW G qw 384 wv ++ AW G qk 384 bv ++ AZ G qz 384 zv ++ AZ G na1 384 ia_) := hD.sub [12, 13, 14, 15, 16, 17, 18, 19, 20, 21, 22, 23, 24, 25, 26, 27, 28, 29, 30, 31, 32, 33, 34, 35, 36, 37, 38, 39, 40, 41, 42, 0, 1, 2, 3, 4, 5, 6, 7, 8, 9, 10, 11] (by decide +kernel) sb_8ad0923ef0
        clear hB hk1 hFc ht hz1 hvm hk0
        generalize H1 = H at hP hS ⊢
        obtain ⟨z10, rfl, -, ⟨okxa6, okq7, okraa8, okf9⟩, w12, w13, w14⟩ := hw
        have w12 := w12.symm
        subst w12
        have w13 := w13.symm
        subst w13
        subst w14
        refine mf_top (vCourse q kv 0) (q 6 kv) (by unfold vCourse; rw [if_pos rfl]) ?_
        have b_d27278 : (0 : Int) ≤ q 6 kv ∧ q 6 kv ≤ 383 := ok 6 kv
        skip
        refine lv_istore (lv' := [(22, .int (iI (q 6 kv))), (0, .ref b), (1, .ref ho), (2, .ref hm), (4, .int (iI (tv))), (6, .int (iI (r 7 0))), (7, .ref qw), (8, .ref qk), (9, .ref qz), (10, .int (iI (q 7 0))), (11, .int (iI (q 9 0 - r 9 0))), (16, .int (iI (r 5 (tv % 12)))), (17, .int (iI (bz))), (18, .int (iI (pv))), (19, .int (iI (bn))), (20, .ref na1), (21, .int (iI (kv)))]) hx hb dL_law_535 hl (by decide) rfl (fun ls hl => ?_)
        refine lv_iload hx hb dL_law_537 (lv_at hl 0 rfl) ?_
        refine mf_if_lt (tgt := 616) hx hb dL_law_539 (by decide) (i32_mk (by omega) (by omega)) (fun c15 => ?_) (fun c15 => ?_)
        · skip
          exfalso; omega
        · skip
          refine lv_iload hx hb dL_law_542 (lv_at hl 0 rfl) ?_
          refine mf_sipush hx hb dL_law_544 rfl ?_
          refine mf_icmp_gt (tgt := 616) hx hb dL_law_547 (by decide) (i32_mk (by omega) (by omega)) (i32_mk (by decide) (by decide)) (fun c16 => ?_) (fun c16 => ?_)
          · skip
            exfalso; omega
          · skip
            refine lv_aload hx hb dL_law_550 (lv_at hl 15 rfl) ?_
            refine lv_iload hx hb dL_law_552 (lv_at hl 0 rfl) ?_
            refine mf_zald (n := 384) (f := ia_ 0) hx hb hK hP 42 1 rfl rfl (z := q 6 kv) (by omega) (by omega) (by first | decide | omega) dL_law_554 ?_
            refine mf_top (ia_ 0 (q 6 kv)) (0) (by rw [hi _ (by omega) (by omega), hI.2.2.1.1 kv (by omega) (by omega)]; exact bP_f (by omega)) ?_
            skip
            refine mf_if_ne (tgt := 616) hx hb dL_law_555 (by decide) (i32_mk (by decide) (by decide)) (fun c17 => ?_) (fun c17 => ?_)
            · skip
              exact absurd c17 (by omega)
            · skip
              refine lv_iload hx hb dL_law_558 (lv_at hl 16 rfl) ?_
              refine mf_if_le (tgt := 596) hx hb dL_law_560 (by decide) (i32_mk (by omega) (by omega)) (fun c18 => ?_) (fun c18 => ?_)
              · skip
                refine lv_aload_n hx hb dL_law_596 rfl (lv_at hl 2 rfl) ?_
                refine lv_iload hx hb dL_law_597 (lv_at hl 0 rfl) ?_
                refine mf_bipush hx hb dL_law_599 rfl ?_
                refine mf_irem hx hb dL_law_601 (i32_mk (by omega) (by omega)) (by omega) (i32_mk (by decide) (by decide)) (by omega) ?_
                refine lv_iload hx hb dL_law_602 (lv_at hl 0 rfl) ?_
                refine mf_bipush hx hb dL_law_604 rfl ?_
                refine mf_idiv hx hb dL_law_606 (i32_mk (by omega) (by omega)) (by omega) (i32_mk (by decide) (by decide)) (by omega) ?_
                refine mf_iconst hx hb dL_law_607 ?_
                have hk0 : kCell2 ((q 6 kv) % 24) ((q 6 kv) / 24) 3 = 0 := by exact mf_if_f (fun q => q ⟨⟨⟨by omega, by omega⟩, by omega, by omega⟩, by omega, by omega⟩)
                have hFc := va_free (wc := OW G ho pn pa pf ae xa6 ++ RW G pn adn q ++ RW G pa ada raa8 ++ FW G pf adf f) hD hS hA [0, 1, 2, 3, 4, 5, 6, 7, 8, 9, 10, 11, 12, 13, 14, 15, 16, 17, 18, 19, 20, 21, 22, 23, 24, 25, 26, 27, 28, 29, 30] sb_3e87190c88
                refine vx_calli (vx_runV (As := [.int (iI ((q 6 kv) % 24)), .int (iI ((q 6 kv) / 24)), .int (iI (3))]) (rest := []) ⟨hx, hb, hml, hown, hts⟩ (c_X2_cell l hl9 G ho pn pa pf ae xa6 adn q ada raa8 adf f ((q 6 kv) % 24) ((q 6 kv) / 24) (3) (i32_mk (by omega) (by omega)) (i32_mk (by omega) (by omega)) (i32_mk (by decide) (by decide)) (by assumption) (by assumption) (by assumption) (by assumption) _) (cwV 3 hts gL_law_X2_cell rfl rfl rfl (by decide +kernel) ⟨Nat.le_of_ble_eq_true rfl, Nat.le_of_ble_eq_true rfl⟩) (wrVx (wc := OW G ho pn pa pf ae xa6 ++ RW G pn adn q ++ RW G pa ada raa8 ++ FW G pf adf f) hSX hCX hZ hS hFc hK hP hD hN [0, 1, 2, 3, 4, 5, 6, 7, 8, 9, 10, 11, 12, 13, 14, 15, 16, 17, 18, 19, 20, 21, 22, 23, 24, 25, 26, 27, 28, 29, 30] (by decide +kernel) sb_874784283d sb_3e87190c88 (ci := 2) rfl rfl) rfl rfl hl.1 rfl (lv_room (Nat.le_of_ble_eq_true rfl)) dL_law_608 ⟨(by rw [hcR]; omega), (by rw [hsR]; omega)⟩) hS (fun q _ h => hFc q h) hFc (fun q _ h => hFc q h) (fun E ce q9 _ t H1 locs ht hvm _ hB hz1 hk1 hS hce hcv hcl => ?_) (fun q19 u20 t H1 locs ht hvm hw hB hz1 hk1 hS => ?_)
                · exfalso
                  have hx9 := hB.1
                  rcases hx9 with ⟨-, hk9⟩ <;> omega
                obtain ⟨xa21, q22, raa23, f24⟩ := u20
                try dsimp only at hw hB
                obtain ⟨hP, hD⟩ := wrJ2 (ws := OW G ho pn pa pf ae xa6 ++ RW G pn adn q ++ RW G pa ada raa8 ++ FW G pf adf f ++ SW G hm adm ca nn u ++ AW G qw 384 wv ++ AW G qk 384 bv ++ AZ G qz 384 zv ++ AZ G na1 384 ia_) (wc := OW G ho pn pa pf ae xa6 ++ RW G pn adn q ++ RW G pa ada raa8 ++ FW G pf adf f) (wr := SW G hm adm ca nn u ++ AW G qw 384 wv ++ AW G qk 384 bv ++ AZ G qz 384 zv ++ AZ G na1 384 ia_) (w1 := OW G ho pn pa pf ae xa21 ++ RW G pn adn q22 ++ RW G pa ada raa23 ++ FW G pf adf f24) hP hD [0, 1, 2, 3, 4, 5, 6, 7, 8, 9, 10, 11, 12, 13, 14, 15, 16, 17, 18, 19, 20, 21, 22, 23, 24, 25, 26, 27, 28, 29, 30] [31, 32, 33, 34, 35, 36, 37, 38, 39, 40, 41, 42] sb_3e87190c88 sb_3a53376573 (by decide +kernel) (by decide +kernel) hk1 ht hFc hB
                have hP : va_P G.1 vwCl (OW G ho pn pa pf ae xa21 ++ RW G pn adn q22 ++ RW G pa ada raa23 ++ FW G pf adf f24 ++ SW G hm adm ca nn u ++ AW G qw 384 wv ++ AW G qk 384 bv ++ AZ G qz 384 zv ++ AZ G na1 384 ia_) H1 := hP.sub [12, 13, 14, 15, 16, 17, 18, 19, 20, 21, 22, 23, 24, 25, 26, 27, 28, 29, 30, 31, 32, 33, 34, 35, 36, 37, 38, 39, 40, 41, 42, 0, 1, 2, 3, 4, 5, 6, 7, 8, 9, 10, 11] sb_bb583c380b
                have hD : va_D A (OW G ho pn pa pf ae xa21 ++ RW G pn adn q22 ++ RW G pa ada raa23 ++ FW G pf adf f24 ++ SW G hm adm ca nn u ++ AW G qw 384 wv ++ AW G qk 384 bv ++ AZ G qz 384 zv ++ AZ G na1 384 ia_) := hD.sub [12, 13, 14, 15, 16, 17, 18, 19, 20, 21, 22, 23, 24, 25, 26, 27, 28, 29, 30, 31, 32, 33, 34, 35, 36, 37, 38, 39, 40, 41, 42, 0, 1, 2, 3, 4, 5, 6, 7, 8, 9, 10, 11] (by decide +kernel) sb_8ad0923ef0
                clear hB hk1 hFc ht hz1 hvm hk0
                generalize H1 = H at hP hS ⊢
                obtain ⟨z25, rfl, -, ⟨okxa21, okq22, okraa23, okf24⟩, w27, w28, w29⟩ := hw
                have w27 := w27.symm
                subst w27
                have w28 := w28.symm
                subst w28
                subst w29
                refine mf_top (vCell q f ((q 6 kv) % 24) ((q 6 kv) / 24) 3) (kv) (by unfold vCell; rw [if_neg (by decide), if_neg (by decide), if_neg (by decide), if_pos rfl, show (q 6 kv) % 24 + 24 * ((q 6 kv) / 24) = q 6 kv by omega]; exact hI.2.2.1.1 kv (by omega) (by omega)) ?_
                skip
                refine lv_iload hx hb dL_law_611 (lv_at hl 16 rfl) ?_
                refine mf_icmp_eq (tgt := 618) hx hb dL_law_613 (by decide) (i32_mk (by omega) (by omega)) (i32_mk (by omega) (by omega)) (fun c30 => ?_) (fun c30 => ?_)
                · skip
                  refine lv_aload hx hb dL_law_618 (lv_at hl 15 rfl) ?_
                  refine lv_iload hx hb dL_law_620 (lv_at hl 0 rfl) ?_
                  refine mf_iconst hx hb dL_law_622 ?_
                  refine mf_zast (n := 384) (f := ia_ 0) hx hb hK hP hD hS 42 1 rfl rfl (z := q 6 kv) (x := 1) (by omega) (by omega) (by first | decide | omega) (by omega) dL_law_623 (fun H locs hP hD hS => ?_)
                  obtain ⟨ia_31, eia_31⟩ : ∃ z9 : mf_V, z9 = mf_sF ia_ 0 (mf_up (ia_ 0) (q 6 kv) (1)) := ⟨_, rfl⟩
                  have hP : va_P G.1 vwCl (OW G ho pn pa pf ae xa21 ++ RW G pn adn q ++ RW G pa ada raa23 ++ FW G pf adf f ++ SW G hm adm ca nn u ++ AW G qw 384 wv ++ AW G qk 384 bv ++ AZ G qz 384 zv ++ AZ G na1 384 ia_31) H := by rw [eia_31]; exact hP
                  have hD : va_D A (OW G ho pn pa pf ae xa21 ++ RW G pn adn q ++ RW G pa ada raa23 ++ FW G pf adf f ++ SW G hm adm ca nn u ++ AW G qw 384 wv ++ AW G qk 384 bv ++ AZ G qz 384 zv ++ AZ G na1 384 ia_31) := by rw [eia_31]; exact hD
                  have f1_ia_31 : ia_31 0 (q 6 kv) = 1 := by rw [eia_31, mf_sF_s, mf_up_s]
                  have f2_ia_31 : ∀ y, y ≠ (q 6 kv) → ia_31 0 y = ia_ 0 y := fun y hy => by rw [eia_31, mf_sF_s, mf_up_n hy]
                  have f3_ia_31 : ∀ q, q ≠ 0 → ia_31 q = ia_ q := fun q hq => by rw [eia_31, mf_sF_n hq]
                  refine lv_iload hx hb dL_law_624 (lv_at hl 0 rfl) ?_
                  refine lv_istore (lv' := [(18, .int (iI (q 6 kv))), (22, .int (iI (q 6 kv))), (0, .ref b), (1, .ref ho), (2, .ref hm), (4, .int (iI (tv))), (6, .int (iI (r 7 0))), (7, .ref qw), (8, .ref qk), (9, .ref qz), (10, .int (iI (q 7 0))), (11, .int (iI (q 9 0 - r 9 0))), (16, .int (iI (r 5 (tv % 12)))), (17, .int (iI (bz))), (19, .int (iI (bn))), (20, .ref na1), (21, .int (iI (kv)))]) hx hb dL_law_626 hl (by decide) rfl (fun ls hl => ?_)
                  refine lv_iload hx hb dL_law_628 (lv_at hl 16 rfl) ?_
                  refine mf_if_le (tgt := 664) hx hb dL_law_630 (by decide) (i32_mk (by omega) (by omega)) (fun c32 => ?_) (fun c32 => ?_)
                  · skip
                    refine lv_iinc (v := iI (kv + 1)) (lv' := [(21, .int (iI (kv + 1))), (18, .int (iI (q 6 kv))), (22, .int (iI (q 6 kv))), (0, .ref b), (1, .ref ho), (2, .ref hm), (4, .int (iI (tv))), (6, .int (iI (r 7 0))), (7, .ref qw), (8, .ref qk), (9, .ref qz), (10, .int (iI (q 7 0))), (11, .int (iI (q 9 0 - r 9 0))), (16, .int (iI (r 5 (tv % 12)))), (17, .int (iI (bz))), (19, .int (iI (bn))), (20, .ref na1)]) hx hb dL_law_664 hl (k := 16) rfl (iI_add _ _).symm (by decide) rfl (fun ls hl => ?_)
                    refine lv_goto (tgt := 521) hx hb dL_law_667 (by decide) ?_
                    exact ih521 (kv + 1) (q 6 kv) bn xa21 raa23 ia_31 (cc + 2) (sc + 12) (by omega) (by first | assumption | omega) (by exact Or.inr (by rw [show kv + 1 - 1 = kv by omega])) (by first | assumption | omega) (by unfold bendN; rw [msum_s _ hk.1, bP_f (by omega)]; unfold bendN at hbn; omega) (by first | assumption | omega) (by first | assumption | omega) (by first | assumption | omega) (by intro c c0 c1; by_cases z : c = q 6 kv; (rw [z, f1_ia_31, hI.2.2.1.1 kv (by omega) (by omega), bP_t (by omega)]); (rw [f2_ia_31 c z, hi c c0 c1]; have z2 : ¬ q 10 c = kv := fun y => by { rcases hI.2.2.1.2 c c0 c1 with x1 | ⟨x1, x2, x3⟩; (omega); (rw [y] at x3; exact z x3.symm) }; exact bP_cg ⟨fun w => ⟨w.1, by omega⟩, fun w => ⟨w.1, by omega⟩⟩)) (by first | assumption | omega) (by first | assumption | omega) _ _ hP hD hS ls (lv_sub hl [3, 4, 5, 6, 7, 8, 9, 10, 11, 12, 13, 14, 1, 15, 16, 0] rfl)
                  · skip
                    refine lv_iload hx hb dL_law_633 (lv_at hl 16 rfl) ?_
                    refine lv_iload hx hb dL_law_635 (lv_at hl 10 rfl) ?_
                    refine mf_iconst hx hb dL_law_637 ?_
                    refine mf_isub hx hb dL_law_638 ?_
                    refine mf_icmp_ge (tgt := 664) hx hb dL_law_639 (by decide) (i32_mk (by omega) (by omega)) (i32_mk (by omega) (by omega)) (fun c33 => ?_) (fun c33 => ?_)
                    · skip
                      refine lv_iinc (v := iI (kv + 1)) (lv' := [(21, .int (iI (kv + 1))), (18, .int (iI (q 6 kv))), (22, .int (iI (q 6 kv))), (0, .ref b), (1, .ref ho), (2, .ref hm), (4, .int (iI (tv))), (6, .int (iI (r 7 0))), (7, .ref qw), (8, .ref qk), (9, .ref qz), (10, .int (iI (q 7 0))), (11, .int (iI (q 9 0 - r 9 0))), (16, .int (iI (r 5 (tv % 12)))), (17, .int (iI (bz))), (19, .int (iI (bn))), (20, .ref na1)]) hx hb dL_law_664 hl (k := 16) rfl (iI_add _ _).symm (by decide) rfl (fun ls hl => ?_)
                      refine lv_goto (tgt := 521) hx hb dL_law_667 (by decide) ?_
                      exact ih521 (kv + 1) (q 6 kv) bn xa21 raa23 ia_31 (cc + 2) (sc + 12) (by omega) (by first | assumption | omega) (by exact Or.inr (by rw [show kv + 1 - 1 = kv by omega])) (by first | assumption | omega) (by unfold bendN; rw [msum_s _ hk.1, bP_f (by omega)]; unfold bendN at hbn; omega) (by first | assumption | omega) (by first | assumption | omega) (by first | assumption | omega) (by intro c c0 c1; by_cases z : c = q 6 kv; (rw [z, f1_ia_31, hI.2.2.1.1 kv (by omega) (by omega), bP_t (by omega)]); (rw [f2_ia_31 c z, hi c c0 c1]; have z2 : ¬ q 10 c = kv := fun y => by { rcases hI.2.2.1.2 c c0 c1 with x1 | ⟨x1, x2, x3⟩; (omega); (rw [y] at x3; exact z x3.symm) }; exact bP_cg ⟨fun w => ⟨w.1, by omega⟩, fun w => ⟨w.1, by omega⟩⟩)) (by first | assumption | omega) (by first | assumption | omega) _ _ hP hD hS ls (lv_sub hl [3, 4, 5, 6, 7, 8, 9, 10, 11, 12, 13, 14, 1, 15, 16, 0] rfl)
                    · skip
                      refine lv_aload_n hx hb dL_law_642 rfl (lv_at hl 3 rfl) ?_
                      refine lv_iload hx hb dL_law_643 (lv_at hl 16 rfl) ?_
                      refine mf_iconst hx hb dL_law_645 ?_
                      have hk0 : kCourse q kv 1 = 0 := by exact mf_if_f (fun q => q ⟨inC_mk (by omega) (by omega), by omega, by omega⟩)
                      have hFc := va_free (wc := OW G ho pn pa pf ae xa21 ++ RW G pn adn q ++ RW G pa ada raa23 ++ FW G pf adf f) hD hS hA [0, 1, 2, 3, 4, 5, 6, 7, 8, 9, 10, 11, 12, 13, 14, 15, 16, 17, 18, 19, 20, 21, 22, 23, 24, 25, 26, 27, 28, 29, 30] sb_3e87190c88
                      refine vx_calli (vx_runV (As := [.int (iI (kv)), .int (iI (1))]) (rest := []) ⟨hx, hb, hml, hown, hts⟩ (c_X2_course l hl9 G ho pn pa pf ae xa21 adn q ada raa23 adf f (kv) (1) (i32_mk (by omega) (by omega)) (i32_mk (by decide) (by decide)) (by assumption) (by assumption) (by assumption) (by assumption) _) (cwV 2 hts gL_law_X2_course rfl rfl rfl (by decide +kernel) ⟨Nat.le_of_ble_eq_true rfl, Nat.le_of_ble_eq_true rfl⟩) (wrVx (wc := OW G ho pn pa pf ae xa21 ++ RW G pn adn q ++ RW G pa ada raa23 ++ FW G pf adf f) hSX hCX hZ hS hFc hK hP hD hN [0, 1, 2, 3, 4, 5, 6, 7, 8, 9, 10, 11, 12, 13, 14, 15, 16, 17, 18, 19, 20, 21, 22, 23, 24, 25, 26, 27, 28, 29, 30] (by decide +kernel) sb_874784283d sb_3e87190c88 (ci := 2) rfl rfl) rfl rfl hl.1 rfl (lv_room (Nat.le_of_ble_eq_true rfl)) dL_law_646 ⟨(by rw [hcR]; omega), (by rw [hsR]; omega)⟩) hS (fun q _ h => hFc q h) hFc (fun q _ h => hFc q h) (fun E ce q9 _ t H1 locs ht hvm _ hB hz1 hk1 hS hce hcv hcl => ?_) (fun q34 u35 t H1 locs ht hvm hw hB hz1 hk1 hS => ?_)
                      · exfalso
                        have hx9 := hB.1
                        rcases hx9 with ⟨-, hk9⟩ <;> omega
                      obtain ⟨xa36, q37, raa38, f39⟩ := u35
                      try dsimp only at hw hB
                      obtain ⟨hP, hD⟩ := wrJ2 (ws := OW G ho pn pa pf ae xa21 ++ RW G pn adn q ++ RW G pa ada raa23 ++ FW G pf adf f ++ SW G hm adm ca nn u ++ AW G qw 384 wv ++ AW G qk 384 bv ++ AZ G qz 384 zv ++ AZ G na1 384 ia_31) (wc := OW G ho pn pa pf ae xa21 ++ RW G pn adn q ++ RW G pa ada raa23 ++ FW G pf adf f) (wr := SW G hm adm ca nn u ++ AW G qw 384 wv ++ AW G qk 384 bv ++ AZ G qz 384 zv ++ AZ G na1 384 ia_31) (w1 := OW G ho pn pa pf ae xa36 ++ RW G pn adn q37 ++ RW G pa ada raa38 ++ FW G pf adf f39) hP hD [0, 1, 2, 3, 4, 5, 6, 7, 8, 9, 10, 11, 12, 13, 14, 15, 16, 17, 18, 19, 20, 21, 22, 23, 24, 25, 26, 27, 28, 29, 30] [31, 32, 33, 34, 35, 36, 37, 38, 39, 40, 41, 42] sb_3e87190c88 sb_3a53376573 (by decide +kernel) (by decide +kernel) hk1 ht hFc hB
                      have hP : va_P G.1 vwCl (OW G ho pn pa pf ae xa36 ++ RW G pn adn q37 ++ RW G pa ada raa38 ++ FW G pf adf f39 ++ SW G hm adm ca nn u ++ AW G qw 384 wv ++ AW G qk 384 bv ++ AZ G qz 384 zv ++ AZ G na1 384 ia_31) H1 := hP.sub [12, 13, 14, 15, 16, 17, 18, 19, 20, 21, 22, 23, 24, 25, 26, 27, 28, 29, 30, 31, 32, 33, 34, 35, 36, 37, 38, 39, 40, 41, 42, 0, 1, 2, 3, 4, 5, 6, 7, 8, 9, 10, 11] sb_bb583c380b
                      have hD : va_D A (OW G ho pn pa pf ae xa36 ++ RW G pn adn q37 ++ RW G pa ada raa38 ++ FW G pf adf f39 ++ SW G hm adm ca nn u ++ AW G qw 384 wv ++ AW G qk 384 bv ++ AZ G qz 384 zv ++ AZ G na1 384 ia_31) := hD.sub [12, 13, 14, 15, 16, 17, 18, 19, 20, 21, 22, 23, 24, 25, 26, 27, 28, 29, 30, 31, 32, 33, 34, 35, 36, 37, 38, 39, 40, 41, 42, 0, 1, 2, 3, 4, 5, 6, 7, 8, 9, 10, 11] (by decide +kernel) sb_8ad0923ef0
                      clear hB hk1 hFc ht hz1 hvm hk0
                      generalize H1 = H at hP hS ⊢
                      obtain ⟨z40, rfl, -, ⟨okxa36, okq37, okraa38, okf39⟩, w42, w43, w44⟩ := hw
                      have w42 := w42.symm
                      subst w42
                      have w43 := w43.symm
                      subst w43
                      subst w44
                      refine mf_top (vCourse q kv 1) (q 11 kv) (by unfold vCourse; rw [if_neg (by decide)]; rw [if_pos rfl]) ?_
                      have b_7d09f8 : (-1 : Int) ≤ q 11 kv ∧ q 11 kv ≤ 3 := ok 11 kv
                      skip
                      refine lv_aload_n hx hb dL_law_649 rfl (lv_at hl 3 rfl) ?_
                      refine lv_iload hx hb dL_law_650 (lv_at hl 16 rfl) ?_
                      refine mf_iconst hx hb dL_law_652 ?_
                      refine mf_isub hx hb dL_law_653 ?_
                      refine mf_iconst hx hb dL_law_654 ?_
                      have hk0 : kCourse q (kv - 1) 1 = 0 := by exact mf_if_f (fun q => q ⟨inC_mk (by omega) (by omega), by omega, by omega⟩)
                      have hFc := va_free (wc := OW G ho pn pa pf ae xa36 ++ RW G pn adn q ++ RW G pa ada raa38 ++ FW G pf adf f) hD hS hA [0, 1, 2, 3, 4, 5, 6, 7, 8, 9, 10, 11, 12, 13, 14, 15, 16, 17, 18, 19, 20, 21, 22, 23, 24, 25, 26, 27, 28, 29, 30] sb_3e87190c88
                      refine vx_calli (vx_runV (As := [.int (iI (kv - 1)), .int (iI (1))]) (rest := [.int (iI (q 11 kv))]) ⟨hx, hb, hml, hown, hts⟩ (c_X2_course l hl9 G ho pn pa pf ae xa36 adn q ada raa38 adf f (kv - 1) (1) (i32_mk (by omega) (by omega)) (i32_mk (by decide) (by decide)) (by assumption) (by assumption) (by assumption) (by assumption) _) (cwV 2 hts gL_law_X2_course rfl rfl rfl (by decide +kernel) ⟨Nat.le_of_ble_eq_true rfl, Nat.le_of_ble_eq_true rfl⟩) (wrVx (wc := OW G ho pn pa pf ae xa36 ++ RW G pn adn q ++ RW G pa ada raa38 ++ FW G pf adf f) hSX hCX hZ hS hFc hK hP hD hN [0, 1, 2, 3, 4, 5, 6, 7, 8, 9, 10, 11, 12, 13, 14, 15, 16, 17, 18, 19, 20, 21, 22, 23, 24, 25, 26, 27, 28, 29, 30] (by decide +kernel) sb_874784283d sb_3e87190c88 (ci := 2) rfl rfl) rfl rfl hl.1 rfl (lv_room (Nat.le_of_ble_eq_true rfl)) dL_law_655 ⟨(by rw [hcR]; omega), (by rw [hsR]; omega)⟩) hS (fun q _ h => hFc q h) hFc (fun q _ h => hFc q h) (fun E ce q9 _ t H1 locs ht hvm _ hB hz1 hk1 hS hce hcv hcl => ?_) (fun q45 u46 t H1 locs ht hvm hw hB hz1 hk1 hS => ?_)
                      · exfalso
                        have hx9 := hB.1
                        rcases hx9 with ⟨-, hk9⟩ <;> omega
                      obtain ⟨xa47, q48, raa49, f50⟩ := u46
                      try dsimp only at hw hB
                      obtain ⟨hP, hD⟩ := wrJ2 (ws := OW G ho pn pa pf ae xa36 ++ RW G pn adn q ++ RW G pa ada raa38 ++ FW G pf adf f ++ SW G hm adm ca nn u ++ AW G qw 384 wv ++ AW G qk 384 bv ++ AZ G qz 384 zv ++ AZ G na1 384 ia_31) (wc := OW G ho pn pa pf ae xa36 ++ RW G pn adn q ++ RW G pa ada raa38 ++ FW G pf adf f) (wr := SW G hm adm ca nn u ++ AW G qw 384 wv ++ AW G qk 384 bv ++ AZ G qz 384 zv ++ AZ G na1 384 ia_31) (w1 := OW G ho pn pa pf ae xa47 ++ RW G pn adn q48 ++ RW G pa ada raa49 ++ FW G pf adf f50) hP hD [0, 1, 2, 3, 4, 5, 6, 7, 8, 9, 10, 11, 12, 13, 14, 15, 16, 17, 18, 19, 20, 21, 22, 23, 24, 25, 26, 27, 28, 29, 30] [31, 32, 33, 34, 35, 36, 37, 38, 39, 40, 41, 42] sb_3e87190c88 sb_3a53376573 (by decide +kernel) (by decide +kernel) hk1 ht hFc hB
                      have hP : va_P G.1 vwCl (OW G ho pn pa pf ae xa47 ++ RW G pn adn q48 ++ RW G pa ada raa49 ++ FW G pf adf f50 ++ SW G hm adm ca nn u ++ AW G qw 384 wv ++ AW G qk 384 bv ++ AZ G qz 384 zv ++ AZ G na1 384 ia_31) H1 := hP.sub [12, 13, 14, 15, 16, 17, 18, 19, 20, 21, 22, 23, 24, 25, 26, 27, 28, 29, 30, 31, 32, 33, 34, 35, 36, 37, 38, 39, 40, 41, 42, 0, 1, 2, 3, 4, 5, 6, 7, 8, 9, 10, 11] sb_bb583c380b
                      have hD : va_D A (OW G ho pn pa pf ae xa47 ++ RW G pn adn q48 ++ RW G pa ada raa49 ++ FW G pf adf f50 ++ SW G hm adm ca nn u ++ AW G qw 384 wv ++ AW G qk 384 bv ++ AZ G qz 384 zv ++ AZ G na1 384 ia_31) := hD.sub [12, 13, 14, 15, 16, 17, 18, 19, 20, 21, 22, 23, 24, 25, 26, 27, 28, 29, 30, 31, 32, 33, 34, 35, 36, 37, 38, 39, 40, 41, 42, 0, 1, 2, 3, 4, 5, 6, 7, 8, 9, 10, 11] (by decide +kernel) sb_8ad0923ef0
                      clear hB hk1 hFc ht hz1 hvm hk0
                      generalize H1 = H at hP hS ⊢
                      obtain ⟨z51, rfl, -, ⟨okxa47, okq48, okraa49, okf50⟩, w53, w54, w55⟩ := hw
                      have w53 := w53.symm
                      subst w53
                      have w54 := w54.symm
                      subst w54
                      subst w55
                      refine mf_top (vCourse q (kv - 1) 1) (q 11 (kv - 1)) (by unfold vCourse; rw [if_neg (by decide)]; rw [if_pos rfl]) ?_
                      have b_00be66 : (-1 : Int) ≤ q 11 (kv - 1) ∧ q 11 (kv - 1) ≤ 3 := ok 11 (kv - 1)
                      skip
                      refine mf_icmp_eq (tgt := 664) hx hb dL_law_658 (by decide) (i32_mk (by omega) (by omega)) (i32_mk (by omega) (by omega)) (fun c56 => ?_) (fun c56 => ?_)
                      · skip
                        refine lv_iinc (v := iI (kv + 1)) (lv' := [(21, .int (iI (kv + 1))), (18, .int (iI (q 6 kv))), (22, .int (iI (q 6 kv))), (0, .ref b), (1, .ref ho), (2, .ref hm), (4, .int (iI (tv))), (6, .int (iI (r 7 0))), (7, .ref qw), (8, .ref qk), (9, .ref qz), (10, .int (iI (q 7 0))), (11, .int (iI (q 9 0 - r 9 0))), (16, .int (iI (r 5 (tv % 12)))), (17, .int (iI (bz))), (19, .int (iI (bn))), (20, .ref na1)]) hx hb dL_law_664 hl (k := 16) rfl (iI_add _ _).symm (by decide) rfl (fun ls hl => ?_)
                        refine lv_goto (tgt := 521) hx hb dL_law_667 (by decide) ?_
                        exact ih521 (kv + 1) (q 6 kv) bn xa47 raa49 ia_31 (cc + 4) (sc + 24) (by omega) (by first | assumption | omega) (by exact Or.inr (by rw [show kv + 1 - 1 = kv by omega])) (by first | assumption | omega) (by unfold bendN; rw [msum_s _ hk.1, bP_f (fun y => y.2 (by assumption))]; unfold bendN at hbn; omega) (by first | assumption | omega) (by first | assumption | omega) (by first | assumption | omega) (by intro c c0 c1; by_cases z : c = q 6 kv; (rw [z, f1_ia_31, hI.2.2.1.1 kv (by omega) (by omega), bP_t (by omega)]); (rw [f2_ia_31 c z, hi c c0 c1]; have z2 : ¬ q 10 c = kv := fun y => by { rcases hI.2.2.1.2 c c0 c1 with x1 | ⟨x1, x2, x3⟩; (omega); (rw [y] at x3; exact z x3.symm) }; exact bP_cg ⟨fun w => ⟨w.1, by omega⟩, fun w => ⟨w.1, by omega⟩⟩)) (by first | assumption | omega) (by first | assumption | omega) _ _ hP hD hS ls (lv_sub hl [3, 4, 5, 6, 7, 8, 9, 10, 11, 12, 13, 14, 1, 15, 16, 0] rfl)
                      · skip
                        refine lv_iinc (v := iI (bn + 1)) (lv' := [(19, .int (iI (bn + 1))), (18, .int (iI (q 6 kv))), (22, .int (iI (q 6 kv))), (0, .ref b), (1, .ref ho), (2, .ref hm), (4, .int (iI (tv))), (6, .int (iI (r 7 0))), (7, .ref qw), (8, .ref qk), (9, .ref qz), (10, .int (iI (q 7 0))), (11, .int (iI (q 9 0 - r 9 0))), (16, .int (iI (r 5 (tv % 12)))), (17, .int (iI (bz))), (20, .ref na1), (21, .int (iI (kv)))]) hx hb dL_law_661 hl (k := 14) rfl (iI_add _ _).symm (by decide) rfl (fun ls hl => ?_)
                        refine lv_iinc (v := iI (kv + 1)) (lv' := [(21, .int (iI (kv + 1))), (19, .int (iI (bn + 1))), (18, .int (iI (q 6 kv))), (22, .int (iI (q 6 kv))), (0, .ref b), (1, .ref ho), (2, .ref hm), (4, .int (iI (tv))), (6, .int (iI (r 7 0))), (7, .ref qw), (8, .ref qk), (9, .ref qz), (10, .int (iI (q 7 0))), (11, .int (iI (q 9 0 - r 9 0))), (16, .int (iI (r 5 (tv % 12)))), (17, .int (iI (bz))), (20, .ref na1)]) hx hb dL_law_664 hl (k := 16) rfl (iI_add _ _).symm (by decide) rfl (fun ls hl => ?_)
                        refine lv_goto (tgt := 521) hx hb dL_law_667 (by decide) ?_
                        exact ih521 (kv + 1) (q 6 kv) (bn + 1) xa47 raa49 ia_31 (cc + 4) (sc + 24) (by omega) (by first | assumption | omega) (by exact Or.inr (by rw [show kv + 1 - 1 = kv by omega])) (by first | assumption | omega) (by unfold bendN; rw [msum_s _ hk.1, bP_t ⟨⟨by omega, by omega⟩, by assumption⟩]; unfold bendN at hbn; omega) (by first | assumption | omega) (by first | assumption | omega) (by first | assumption | omega) (by intro c c0 c1; by_cases z : c = q 6 kv; (rw [z, f1_ia_31, hI.2.2.1.1 kv (by omega) (by omega), bP_t (by omega)]); (rw [f2_ia_31 c z, hi c c0 c1]; have z2 : ¬ q 10 c = kv := fun y => by { rcases hI.2.2.1.2 c c0 c1 with x1 | ⟨x1, x2, x3⟩; (omega); (rw [y] at x3; exact z x3.symm) }; exact bP_cg ⟨fun w => ⟨w.1, by omega⟩, fun w => ⟨w.1, by omega⟩⟩)) (by first | assumption | omega) (by first | assumption | omega) _ _ hP hD hS ls (lv_sub hl [4, 5, 6, 7, 8, 9, 10, 11, 12, 13, 14, 15, 2, 1, 16, 0] rfl)
                · skip
                  exact absurd rfl c30
              · skip
                have ep : pv = q 6 (kv - 1) := by rcases hp with z | z; (omega); (exact z)
                have bp : (0 : Int) ≤ q 6 (kv - 1) ∧ q 6 (kv - 1) ≤ 383 := ok 6 _
                refine lv_iload hx hb dL_law_563 (lv_at hl 0 rfl) ?_
                refine mf_bipush hx hb dL_law_565 rfl ?_
                refine mf_irem hx hb dL_law_567 (i32_mk (by omega) (by omega)) (by omega) (i32_mk (by decide) (by decide)) (by omega) ?_
                refine lv_iload hx hb dL_law_568 (lv_at hl 13 rfl) ?_
                refine mf_bipush hx hb dL_law_570 rfl ?_
                refine mf_irem hx hb dL_law_572 (i32_mk (by omega) (by omega)) (by omega) (i32_mk (by decide) (by decide)) (by omega) ?_
                refine mf_isub hx hb dL_law_573 ?_
                refine mf_abs hx hb (hml.trans hl.1.symm) hown (hts (.methodLink RL 110 Lib.Math.abs.name) (List.mem_of_getElem? (i := 6) rfl)) (hts (.static Lib.Math.abs.name) (List.mem_of_getElem? (i := 7) rfl)) (hts (.initialized "java/lang/Math") (List.mem_of_getElem? (i := 8) rfl)) (hts (.code Lib.Math.abs.name Lib.Math.abs.code 1 (some .int)) (List.mem_of_getElem? (i := 9) rfl)) (by decide) (Nat.le_of_ble_eq_true rfl) (by rw [hcR]; omega) (by rw [hsR]; omega) (i32_mk (by omega) (by omega)) dL_law_574 ?_
                refine mf_nm (fun y57 ey57 => ?_)
                have by57 := mf_absI_s (((q 6 kv) % 24) - (pv % 24))
                rw [← ey57] at by57
                refine lv_iload hx hb dL_law_577 (lv_at hl 0 rfl) ?_
                refine mf_bipush hx hb dL_law_579 rfl ?_
                refine mf_idiv hx hb dL_law_581 (i32_mk (by omega) (by omega)) (by omega) (i32_mk (by decide) (by decide)) (by omega) ?_
                refine lv_iload hx hb dL_law_582 (lv_at hl 13 rfl) ?_
                refine mf_bipush hx hb dL_law_584 rfl ?_
                refine mf_idiv hx hb dL_law_586 (i32_mk (by omega) (by omega)) (by omega) (i32_mk (by decide) (by decide)) (by omega) ?_
                refine mf_isub hx hb dL_law_587 ?_
                refine mf_abs hx hb (hml.trans hl.1.symm) hown (hts (.methodLink RL 110 Lib.Math.abs.name) (List.mem_of_getElem? (i := 6) rfl)) (hts (.static Lib.Math.abs.name) (List.mem_of_getElem? (i := 7) rfl)) (hts (.initialized "java/lang/Math") (List.mem_of_getElem? (i := 8) rfl)) (hts (.code Lib.Math.abs.name Lib.Math.abs.code 1 (some .int)) (List.mem_of_getElem? (i := 9) rfl)) (by decide) (Nat.le_of_ble_eq_true rfl) (by rw [hcR]; omega) (by rw [hsR]; omega) (i32_mk (by omega) (by omega)) dL_law_588 ?_
                refine mf_nm (fun y58 ey58 => ?_)
                have by58 := mf_absI_s (((q 6 kv) / 24) - (pv / 24))
                rw [← ey58] at by58
                refine mf_iadd hx hb dL_law_591 ?_
                refine mf_iconst hx hb dL_law_592 ?_
                refine mf_icmp_ne (tgt := 616) hx hb dL_law_593 (by decide) (i32_mk (by omega) (by omega)) (i32_mk (by decide) (by decide)) (fun c59 => ?_) (fun c59 => ?_)
                · skip
                  exact absurd (by rw [ey57, ey58, ep]; exact course_adj ok hI (by omega) (by omega)) c59
                · skip
                  refine lv_aload_n hx hb dL_law_596 rfl (lv_at hl 2 rfl) ?_
                  refine lv_iload hx hb dL_law_597 (lv_at hl 0 rfl) ?_
                  refine mf_bipush hx hb dL_law_599 rfl ?_
                  refine mf_irem hx hb dL_law_601 (i32_mk (by omega) (by omega)) (by omega) (i32_mk (by decide) (by decide)) (by omega) ?_
                  refine lv_iload hx hb dL_law_602 (lv_at hl 0 rfl) ?_
                  refine mf_bipush hx hb dL_law_604 rfl ?_
                  refine mf_idiv hx hb dL_law_606 (i32_mk (by omega) (by omega)) (by omega) (i32_mk (by decide) (by decide)) (by omega) ?_
                  refine mf_iconst hx hb dL_law_607 ?_
                  have hk0 : kCell2 ((q 6 kv) % 24) ((q 6 kv) / 24) 3 = 0 := by exact mf_if_f (fun q => q ⟨⟨⟨by omega, by omega⟩, by omega, by omega⟩, by omega, by omega⟩)
                  have hFc := va_free (wc := OW G ho pn pa pf ae xa6 ++ RW G pn adn q ++ RW G pa ada raa8 ++ FW G pf adf f) hD hS hA [0, 1, 2, 3, 4, 5, 6, 7, 8, 9, 10, 11, 12, 13, 14, 15, 16, 17, 18, 19, 20, 21, 22, 23, 24, 25, 26, 27, 28, 29, 30] sb_3e87190c88
                  refine vx_calli (vx_runV (As := [.int (iI ((q 6 kv) % 24)), .int (iI ((q 6 kv) / 24)), .int (iI (3))]) (rest := []) ⟨hx, hb, hml, hown, hts⟩ (c_X2_cell l hl9 G ho pn pa pf ae xa6 adn q ada raa8 adf f ((q 6 kv) % 24) ((q 6 kv) / 24) (3) (i32_mk (by omega) (by omega)) (i32_mk (by omega) (by omega)) (i32_mk (by decide) (by decide)) (by assumption) (by assumption) (by assumption) (by assumption) _) (cwV 3 hts gL_law_X2_cell rfl rfl rfl (by decide +kernel) ⟨Nat.le_of_ble_eq_true rfl, Nat.le_of_ble_eq_true rfl⟩) (wrVx (wc := OW G ho pn pa pf ae xa6 ++ RW G pn adn q ++ RW G pa ada raa8 ++ FW G pf adf f) hSX hCX hZ hS hFc hK hP hD hN [0, 1, 2, 3, 4, 5, 6, 7, 8, 9, 10, 11, 12, 13, 14, 15, 16, 17, 18, 19, 20, 21, 22, 23, 24, 25, 26, 27, 28, 29, 30] (by decide +kernel) sb_874784283d sb_3e87190c88 (ci := 2) rfl rfl) rfl rfl hl.1 rfl (lv_room (Nat.le_of_ble_eq_true rfl)) dL_law_608 ⟨(by rw [hcR]; omega), (by rw [hsR]; omega)⟩) hS (fun q _ h => hFc q h) hFc (fun q _ h => hFc q h) (fun E ce q9 _ t H1 locs ht hvm _ hB hz1 hk1 hS hce hcv hcl => ?_) (fun q60 u61 t H1 locs ht hvm hw hB hz1 hk1 hS => ?_)
                  · exfalso
                    have hx9 := hB.1
                    rcases hx9 with ⟨-, hk9⟩ <;> omega
                  obtain ⟨xa62, q63, raa64, f65⟩ := u61
                  try dsimp only at hw hB
                  obtain ⟨hP, hD⟩ := wrJ2 (ws := OW G ho pn pa pf ae xa6 ++ RW G pn adn q ++ RW G pa ada raa8 ++ FW G pf adf f ++ SW G hm adm ca nn u ++ AW G qw 384 wv ++ AW G qk 384 bv ++ AZ G qz 384 zv ++ AZ G na1 384 ia_) (wc := OW G ho pn pa pf ae xa6 ++ RW G pn adn q ++ RW G pa ada raa8 ++ FW G pf adf f) (wr := SW G hm adm ca nn u ++ AW G qw 384 wv ++ AW G qk 384 bv ++ AZ G qz 384 zv ++ AZ G na1 384 ia_) (w1 := OW G ho pn pa pf ae xa62 ++ RW G pn adn q63 ++ RW G pa ada raa64 ++ FW G pf adf f65) hP hD [0, 1, 2, 3, 4, 5, 6, 7, 8, 9, 10, 11, 12, 13, 14, 15, 16, 17, 18, 19, 20, 21, 22, 23, 24, 25, 26, 27, 28, 29, 30] [31, 32, 33, 34, 35, 36, 37, 38, 39, 40, 41, 42] sb_3e87190c88 sb_3a53376573 (by decide +kernel) (by decide +kernel) hk1 ht hFc hB
                  have hP : va_P G.1 vwCl (OW G ho pn pa pf ae xa62 ++ RW G pn adn q63 ++ RW G pa ada raa64 ++ FW G pf adf f65 ++ SW G hm adm ca nn u ++ AW G qw 384 wv ++ AW G qk 384 bv ++ AZ G qz 384 zv ++ AZ G na1 384 ia_) H1 := hP.sub [12, 13, 14, 15, 16, 17, 18, 19, 20, 21, 22, 23, 24, 25, 26, 27, 28, 29, 30, 31, 32, 33, 34, 35, 36, 37, 38, 39, 40, 41, 42, 0, 1, 2, 3, 4, 5, 6, 7, 8, 9, 10, 11] sb_bb583c380b
                  have hD : va_D A (OW G ho pn pa pf ae xa62 ++ RW G pn adn q63 ++ RW G pa ada raa64 ++ FW G pf adf f65 ++ SW G hm adm ca nn u ++ AW G qw 384 wv ++ AW G qk 384 bv ++ AZ G qz 384 zv ++ AZ G na1 384 ia_) := hD.sub [12, 13, 14, 15, 16, 17, 18, 19, 20, 21, 22, 23, 24, 25, 26, 27, 28, 29, 30, 31, 32, 33, 34, 35, 36, 37, 38, 39, 40, 41, 42, 0, 1, 2, 3, 4, 5, 6, 7, 8, 9, 10, 11] (by decide +kernel) sb_8ad0923ef0
                  clear hB hk1 hFc ht hz1 hvm hk0
                  generalize H1 = H at hP hS ⊢
                  obtain ⟨z66, rfl, -, ⟨okxa62, okq63, okraa64, okf65⟩, w68, w69, w70⟩ := hw
                  have w68 := w68.symm
                  subst w68
                  have w69 := w69.symm
                  subst w69
                  subst w70
                  refine mf_top (vCell q f ((q 6 kv) % 24) ((q 6 kv) / 24) 3) (kv) (by unfold vCell; rw [if_neg (by decide), if_neg (by decide), if_neg (by decide), if_pos rfl, show (q 6 kv) % 24 + 24 * ((q 6 kv) / 24) = q 6 kv by omega]; exact hI.2.2.1.1 kv (by omega) (by omega)) ?_
                  skip
                  refine lv_iload hx hb dL_law_611 (lv_at hl 16 rfl) ?_
                  refine mf_icmp_eq (tgt := 618) hx hb dL_law_613 (by decide) (i32_mk (by omega) (by omega)) (i32_mk (by omega) (by omega)) (fun c71 => ?_) (fun c71 => ?_)
                  · skip
                    refine lv_aload hx hb dL_law_618 (lv_at hl 15 rfl) ?_
                    refine lv_iload hx hb dL_law_620 (lv_at hl 0 rfl) ?_
                    refine mf_iconst hx hb dL_law_622 ?_
                    refine mf_zast (n := 384) (f := ia_ 0) hx hb hK hP hD hS 42 1 rfl rfl (z := q 6 kv) (x := 1) (by omega) (by omega) (by first | decide | omega) (by omega) dL_law_623 (fun H locs hP hD hS => ?_)
                    obtain ⟨ia_72, eia_72⟩ : ∃ z9 : mf_V, z9 = mf_sF ia_ 0 (mf_up (ia_ 0) (q 6 kv) (1)) := ⟨_, rfl⟩
                    have hP : va_P G.1 vwCl (OW G ho pn pa pf ae xa62 ++ RW G pn adn q ++ RW G pa ada raa64 ++ FW G pf adf f ++ SW G hm adm ca nn u ++ AW G qw 384 wv ++ AW G qk 384 bv ++ AZ G qz 384 zv ++ AZ G na1 384 ia_72) H := by rw [eia_72]; exact hP
                    have hD : va_D A (OW G ho pn pa pf ae xa62 ++ RW G pn adn q ++ RW G pa ada raa64 ++ FW G pf adf f ++ SW G hm adm ca nn u ++ AW G qw 384 wv ++ AW G qk 384 bv ++ AZ G qz 384 zv ++ AZ G na1 384 ia_72) := by rw [eia_72]; exact hD
                    have f1_ia_72 : ia_72 0 (q 6 kv) = 1 := by rw [eia_72, mf_sF_s, mf_up_s]
                    have f2_ia_72 : ∀ y, y ≠ (q 6 kv) → ia_72 0 y = ia_ 0 y := fun y hy => by rw [eia_72, mf_sF_s, mf_up_n hy]
                    have f3_ia_72 : ∀ q, q ≠ 0 → ia_72 q = ia_ q := fun q hq => by rw [eia_72, mf_sF_n hq]
                    refine lv_iload hx hb dL_law_624 (lv_at hl 0 rfl) ?_
                    refine lv_istore (lv' := [(18, .int (iI (q 6 kv))), (22, .int (iI (q 6 kv))), (0, .ref b), (1, .ref ho), (2, .ref hm), (4, .int (iI (tv))), (6, .int (iI (r 7 0))), (7, .ref qw), (8, .ref qk), (9, .ref qz), (10, .int (iI (q 7 0))), (11, .int (iI (q 9 0 - r 9 0))), (16, .int (iI (r 5 (tv % 12)))), (17, .int (iI (bz))), (19, .int (iI (bn))), (20, .ref na1), (21, .int (iI (kv)))]) hx hb dL_law_626 hl (by decide) rfl (fun ls hl => ?_)
                    refine lv_iload hx hb dL_law_628 (lv_at hl 16 rfl) ?_
                    refine mf_if_le (tgt := 664) hx hb dL_law_630 (by decide) (i32_mk (by omega) (by omega)) (fun c73 => ?_) (fun c73 => ?_)
                    · skip
                      refine lv_iinc (v := iI (kv + 1)) (lv' := [(21, .int (iI (kv + 1))), (18, .int (iI (q 6 kv))), (22, .int (iI (q 6 kv))), (0, .ref b), (1, .ref ho), (2, .ref hm), (4, .int (iI (tv))), (6, .int (iI (r 7 0))), (7, .ref qw), (8, .ref qk), (9, .ref qz), (10, .int (iI (q 7 0))), (11, .int (iI (q 9 0 - r 9 0))), (16, .int (iI (r 5 (tv % 12)))), (17, .int (iI (bz))), (19, .int (iI (bn))), (20, .ref na1)]) hx hb dL_law_664 hl (k := 16) rfl (iI_add _ _).symm (by decide) rfl (fun ls hl => ?_)
                      refine lv_goto (tgt := 521) hx hb dL_law_667 (by decide) ?_
                      exact ih521 (kv + 1) (q 6 kv) bn xa62 raa64 ia_72 (cc + 2) (sc + 12) (by omega) (by first | assumption | omega) (by exact Or.inr (by rw [show kv + 1 - 1 = kv by omega])) (by first | assumption | omega) (by unfold bendN; rw [msum_s _ hk.1, bP_f (by omega)]; unfold bendN at hbn; omega) (by first | assumption | omega) (by first | assumption | omega) (by first | assumption | omega) (by intro c c0 c1; by_cases z : c = q 6 kv; (rw [z, f1_ia_72, hI.2.2.1.1 kv (by omega) (by omega), bP_t (by omega)]); (rw [f2_ia_72 c z, hi c c0 c1]; have z2 : ¬ q 10 c = kv := fun y => by { rcases hI.2.2.1.2 c c0 c1 with x1 | ⟨x1, x2, x3⟩; (omega); (rw [y] at x3; exact z x3.symm) }; exact bP_cg ⟨fun w => ⟨w.1, by omega⟩, fun w => ⟨w.1, by omega⟩⟩)) (by first | assumption | omega) (by first | assumption | omega) _ _ hP hD hS ls (lv_sub hl [3, 4, 5, 6, 7, 8, 9, 10, 11, 12, 13, 14, 1, 15, 16, 0] rfl)
                    · skip
                      refine lv_iload hx hb dL_law_633 (lv_at hl 16 rfl) ?_
                      refine lv_iload hx hb dL_law_635 (lv_at hl 10 rfl) ?_
                      refine mf_iconst hx hb dL_law_637 ?_
                      refine mf_isub hx hb dL_law_638 ?_
                      refine mf_icmp_ge (tgt := 664) hx hb dL_law_639 (by decide) (i32_mk (by omega) (by omega)) (i32_mk (by omega) (by omega)) (fun c74 => ?_) (fun c74 => ?_)
                      · skip
                        refine lv_iinc (v := iI (kv + 1)) (lv' := [(21, .int (iI (kv + 1))), (18, .int (iI (q 6 kv))), (22, .int (iI (q 6 kv))), (0, .ref b), (1, .ref ho), (2, .ref hm), (4, .int (iI (tv))), (6, .int (iI (r 7 0))), (7, .ref qw), (8, .ref qk), (9, .ref qz), (10, .int (iI (q 7 0))), (11, .int (iI (q 9 0 - r 9 0))), (16, .int (iI (r 5 (tv % 12)))), (17, .int (iI (bz))), (19, .int (iI (bn))), (20, .ref na1)]) hx hb dL_law_664 hl (k := 16) rfl (iI_add _ _).symm (by decide) rfl (fun ls hl => ?_)
                        refine lv_goto (tgt := 521) hx hb dL_law_667 (by decide) ?_
                        exact ih521 (kv + 1) (q 6 kv) bn xa62 raa64 ia_72 (cc + 2) (sc + 12) (by omega) (by first | assumption | omega) (by exact Or.inr (by rw [show kv + 1 - 1 = kv by omega])) (by first | assumption | omega) (by unfold bendN; rw [msum_s _ hk.1, bP_f (by omega)]; unfold bendN at hbn; omega) (by first | assumption | omega) (by first | assumption | omega) (by first | assumption | omega) (by intro c c0 c1; by_cases z : c = q 6 kv; (rw [z, f1_ia_72, hI.2.2.1.1 kv (by omega) (by omega), bP_t (by omega)]); (rw [f2_ia_72 c z, hi c c0 c1]; have z2 : ¬ q 10 c = kv := fun y => by { rcases hI.2.2.1.2 c c0 c1 with x1 | ⟨x1, x2, x3⟩; (omega); (rw [y] at x3; exact z x3.symm) }; exact bP_cg ⟨fun w => ⟨w.1, by omega⟩, fun w => ⟨w.1, by omega⟩⟩)) (by first | assumption | omega) (by first | assumption | omega) _ _ hP hD hS ls (lv_sub hl [3, 4, 5, 6, 7, 8, 9, 10, 11, 12, 13, 14, 1, 15, 16, 0] rfl)
                      · skip
                        refine lv_aload_n hx hb dL_law_642 rfl (lv_at hl 3 rfl) ?_
                        refine lv_iload hx hb dL_law_643 (lv_at hl 16 rfl) ?_
                        refine mf_iconst hx hb dL_law_645 ?_
                        have hk0 : kCourse q kv 1 = 0 := by exact mf_if_f (fun q => q ⟨inC_mk (by omega) (by omega), by omega, by omega⟩)
                        have hFc := va_free (wc := OW G ho pn pa pf ae xa62 ++ RW G pn adn q ++ RW G pa ada raa64 ++ FW G pf adf f) hD hS hA [0, 1, 2, 3, 4, 5, 6, 7, 8, 9, 10, 11, 12, 13, 14, 15, 16, 17, 18, 19, 20, 21, 22, 23, 24, 25, 26, 27, 28, 29, 30] sb_3e87190c88
                        refine vx_calli (vx_runV (As := [.int (iI (kv)), .int (iI (1))]) (rest := []) ⟨hx, hb, hml, hown, hts⟩ (c_X2_course l hl9 G ho pn pa pf ae xa62 adn q ada raa64 adf f (kv) (1) (i32_mk (by omega) (by omega)) (i32_mk (by decide) (by decide)) (by assumption) (by assumption) (by assumption) (by assumption) _) (cwV 2 hts gL_law_X2_course rfl rfl rfl (by decide +kernel) ⟨Nat.le_of_ble_eq_true rfl, Nat.le_of_ble_eq_true rfl⟩) (wrVx (wc := OW G ho pn pa pf ae xa62 ++ RW G pn adn q ++ RW G pa ada raa64 ++ FW G pf adf f) hSX hCX hZ hS hFc hK hP hD hN [0, 1, 2, 3, 4, 5, 6, 7, 8, 9, 10, 11, 12, 13, 14, 15, 16, 17, 18, 19, 20, 21, 22, 23, 24, 25, 26, 27, 28, 29, 30] (by decide +kernel) sb_874784283d sb_3e87190c88 (ci := 2) rfl rfl) rfl rfl hl.1 rfl (lv_room (Nat.le_of_ble_eq_true rfl)) dL_law_646 ⟨(by rw [hcR]; omega), (by rw [hsR]; omega)⟩) hS (fun q _ h => hFc q h) hFc (fun q _ h => hFc q h) (fun E ce q9 _ t H1 locs ht hvm _ hB hz1 hk1 hS hce hcv hcl => ?_) (fun q75 u76 t H1 locs ht hvm hw hB hz1 hk1 hS => ?_)
                        · exfalso
                          have hx9 := hB.1
                          rcases hx9 with ⟨-, hk9⟩ <;> omega
                        obtain ⟨xa77, q78, raa79, f80⟩ := u76
                        try dsimp only at hw hB
                        obtain ⟨hP, hD⟩ := wrJ2 (ws := OW G ho pn pa pf ae xa62 ++ RW G pn adn q ++ RW G pa ada raa64 ++ FW G pf adf f ++ SW G hm adm ca nn u ++ AW G qw 384 wv ++ AW G qk 384 bv ++ AZ G qz 384 zv ++ AZ G na1 384 ia_72) (wc := OW G ho pn pa pf ae xa62 ++ RW G pn adn q ++ RW G pa ada raa64 ++ FW G pf adf f) (wr := SW G hm adm ca nn u ++ AW G qw 384 wv ++ AW G qk 384 bv ++ AZ G qz 384 zv ++ AZ G na1 384 ia_72) (w1 := OW G ho pn pa pf ae xa77 ++ RW G pn adn q78 ++ RW G pa ada raa79 ++ FW G pf adf f80) hP hD [0, 1, 2, 3, 4, 5, 6, 7, 8, 9, 10, 11, 12, 13, 14, 15, 16, 17, 18, 19, 20, 21, 22, 23, 24, 25, 26, 27, 28, 29, 30] [31, 32, 33, 34, 35, 36, 37, 38, 39, 40, 41, 42] sb_3e87190c88 sb_3a53376573 (by decide +kernel) (by decide +kernel) hk1 ht hFc hB
                        have hP : va_P G.1 vwCl (OW G ho pn pa pf ae xa77 ++ RW G pn adn q78 ++ RW G pa ada raa79 ++ FW G pf adf f80 ++ SW G hm adm ca nn u ++ AW G qw 384 wv ++ AW G qk 384 bv ++ AZ G qz 384 zv ++ AZ G na1 384 ia_72) H1 := hP.sub [12, 13, 14, 15, 16, 17, 18, 19, 20, 21, 22, 23, 24, 25, 26, 27, 28, 29, 30, 31, 32, 33, 34, 35, 36, 37, 38, 39, 40, 41, 42, 0, 1, 2, 3, 4, 5, 6, 7, 8, 9, 10, 11] sb_bb583c380b
                        have hD : va_D A (OW G ho pn pa pf ae xa77 ++ RW G pn adn q78 ++ RW G pa ada raa79 ++ FW G pf adf f80 ++ SW G hm adm ca nn u ++ AW G qw 384 wv ++ AW G qk 384 bv ++ AZ G qz 384 zv ++ AZ G na1 384 ia_72) := hD.sub [12, 13, 14, 15, 16, 17, 18, 19, 20, 21, 22, 23, 24, 25, 26, 27, 28, 29, 30, 31, 32, 33, 34, 35, 36, 37, 38, 39, 40, 41, 42, 0, 1, 2, 3, 4, 5, 6, 7, 8, 9, 10, 11] (by decide +kernel) sb_8ad0923ef0
                        clear hB hk1 hFc ht hz1 hvm hk0
                        generalize H1 = H at hP hS ⊢
                        obtain ⟨z81, rfl, -, ⟨okxa77, okq78, okraa79, okf80⟩, w83, w84, w85⟩ := hw
                        have w83 := w83.symm
                        subst w83
                        have w84 := w84.symm
                        subst w84
                        subst w85
                        refine mf_top (vCourse q kv 1) (q 11 kv) (by unfold vCourse; rw [if_neg (by decide)]; rw [if_pos rfl]) ?_
                        have b_7d09f8 : (-1 : Int) ≤ q 11 kv ∧ q 11 kv ≤ 3 := ok 11 kv
                        skip
                        refine lv_aload_n hx hb dL_law_649 rfl (lv_at hl 3 rfl) ?_
                        refine lv_iload hx hb dL_law_650 (lv_at hl 16 rfl) ?_
                        refine mf_iconst hx hb dL_law_652 ?_
                        refine mf_isub hx hb dL_law_653 ?_
                        refine mf_iconst hx hb dL_law_654 ?_
                        have hk0 : kCourse q (kv - 1) 1 = 0 := by exact mf_if_f (fun q => q ⟨inC_mk (by omega) (by omega), by omega, by omega⟩)
                        have hFc := va_free (wc := OW G ho pn pa pf ae xa77 ++ RW G pn adn q ++ RW G pa ada raa79 ++ FW G pf adf f) hD hS hA [0, 1, 2, 3, 4, 5, 6, 7, 8, 9, 10, 11, 12, 13, 14, 15, 16, 17, 18, 19, 20, 21, 22, 23, 24, 25, 26, 27, 28, 29, 30] sb_3e87190c88
                        refine vx_calli (vx_runV (As := [.int (iI (kv - 1)), .int (iI (1))]) (rest := [.int (iI (q 11 kv))]) ⟨hx, hb, hml, hown, hts⟩ (c_X2_course l hl9 G ho pn pa pf ae xa77 adn q ada raa79 adf f (kv - 1) (1) (i32_mk (by omega) (by omega)) (i32_mk (by decide) (by decide)) (by assumption) (by assumption) (by assumption) (by assumption) _) (cwV 2 hts gL_law_X2_course rfl rfl rfl (by decide +kernel) ⟨Nat.le_of_ble_eq_true rfl, Nat.le_of_ble_eq_true rfl⟩) (wrVx (wc := OW G ho pn pa pf ae xa77 ++ RW G pn adn q ++ RW G pa ada raa79 ++ FW G pf adf f) hSX hCX hZ hS hFc hK hP hD hN [0, 1, 2, 3, 4, 5, 6, 7, 8, 9, 10, 11, 12, 13, 14, 15, 16, 17, 18, 19, 20, 21, 22, 23, 24, 25, 26, 27, 28, 29, 30] (by decide +kernel) sb_874784283d sb_3e87190c88 (ci := 2) rfl rfl) rfl rfl hl.1 rfl (lv_room (Nat.le_of_ble_eq_true rfl)) dL_law_655 ⟨(by rw [hcR]; omega), (by rw [hsR]; omega)⟩) hS (fun q _ h => hFc q h) hFc (fun q _ h => hFc q h) (fun E ce q9 _ t H1 locs ht hvm _ hB hz1 hk1 hS hce hcv hcl => ?_) (fun q86 u87 t H1 locs ht hvm hw hB hz1 hk1 hS => ?_)
                        · exfalso
                          have hx9 := hB.1
                          rcases hx9 with ⟨-, hk9⟩ <;> omega
                        obtain ⟨xa88, q89, raa90, f91⟩ := u87
                        try dsimp only at hw hB
                        obtain ⟨hP, hD⟩ := wrJ2 (ws := OW G ho pn pa pf ae xa77 ++ RW G pn adn q ++ RW G pa ada raa79 ++ FW G pf adf f ++ SW G hm adm ca nn u ++ AW G qw 384 wv ++ AW G qk 384 bv ++ AZ G qz 384 zv ++ AZ G na1 384 ia_72) (wc := OW G ho pn pa pf ae xa77 ++ RW G pn adn q ++ RW G pa ada raa79 ++ FW G pf adf f) (wr := SW G hm adm ca nn u ++ AW G qw 384 wv ++ AW G qk 384 bv ++ AZ G qz 384 zv ++ AZ G na1 384 ia_72) (w1 := OW G ho pn pa pf ae xa88 ++ RW G pn adn q89 ++ RW G pa ada raa90 ++ FW G pf adf f91) hP hD [0, 1, 2, 3, 4, 5, 6, 7, 8, 9, 10, 11, 12, 13, 14, 15, 16, 17, 18, 19, 20, 21, 22, 23, 24, 25, 26, 27, 28, 29, 30] [31, 32, 33, 34, 35, 36, 37, 38, 39, 40, 41, 42] sb_3e87190c88 sb_3a53376573 (by decide +kernel) (by decide +kernel) hk1 ht hFc hB
                        have hP : va_P G.1 vwCl (OW G ho pn pa pf ae xa88 ++ RW G pn adn q89 ++ RW G pa ada raa90 ++ FW G pf adf f91 ++ SW G hm adm ca nn u ++ AW G qw 384 wv ++ AW G qk 384 bv ++ AZ G qz 384 zv ++ AZ G na1 384 ia_72) H1 := hP.sub [12, 13, 14, 15, 16, 17, 18, 19, 20, 21, 22, 23, 24, 25, 26, 27, 28, 29, 30, 31, 32, 33, 34, 35, 36, 37, 38, 39, 40, 41, 42, 0, 1, 2, 3, 4, 5, 6, 7, 8, 9, 10, 11] sb_bb583c380b
                        have hD : va_D A (OW G ho pn pa pf ae xa88 ++ RW G pn adn q89 ++ RW G pa ada raa90 ++ FW G pf adf f91 ++ SW G hm adm ca nn u ++ AW G qw 384 wv ++ AW G qk 384 bv ++ AZ G qz 384 zv ++ AZ G na1 384 ia_72) := hD.sub [12, 13, 14, 15, 16, 17, 18, 19, 20, 21, 22, 23, 24, 25, 26, 27, 28, 29, 30, 31, 32, 33, 34, 35, 36, 37, 38, 39, 40, 41, 42, 0, 1, 2, 3, 4, 5, 6, 7, 8, 9, 10, 11] (by decide +kernel) sb_8ad0923ef0
                        clear hB hk1 hFc ht hz1 hvm hk0
                        generalize H1 = H at hP hS ⊢
                        obtain ⟨z92, rfl, -, ⟨okxa88, okq89, okraa90, okf91⟩, w94, w95, w96⟩ := hw
                        have w94 := w94.symm
                        subst w94
                        have w95 := w95.symm
                        subst w95
                        subst w96
                        refine mf_top (vCourse q (kv - 1) 1) (q 11 (kv - 1)) (by unfold vCourse; rw [if_neg (by decide)]; rw [if_pos rfl]) ?_
                        have b_00be66 : (-1 : Int) ≤ q 11 (kv - 1) ∧ q 11 (kv - 1) ≤ 3 := ok 11 (kv - 1)
                        skip
                        refine mf_icmp_eq (tgt := 664) hx hb dL_law_658 (by decide) (i32_mk (by omega) (by omega)) (i32_mk (by omega) (by omega)) (fun c97 => ?_) (fun c97 => ?_)
                        · skip
                          refine lv_iinc (v := iI (kv + 1)) (lv' := [(21, .int (iI (kv + 1))), (18, .int (iI (q 6 kv))), (22, .int (iI (q 6 kv))), (0, .ref b), (1, .ref ho), (2, .ref hm), (4, .int (iI (tv))), (6, .int (iI (r 7 0))), (7, .ref qw), (8, .ref qk), (9, .ref qz), (10, .int (iI (q 7 0))), (11, .int (iI (q 9 0 - r 9 0))), (16, .int (iI (r 5 (tv % 12)))), (17, .int (iI (bz))), (19, .int (iI (bn))), (20, .ref na1)]) hx hb dL_law_664 hl (k := 16) rfl (iI_add _ _).symm (by decide) rfl (fun ls hl => ?_)
                          refine lv_goto (tgt := 521) hx hb dL_law_667 (by decide) ?_
                          exact ih521 (kv + 1) (q 6 kv) bn xa88 raa90 ia_72 (cc + 4) (sc + 24) (by omega) (by first | assumption | omega) (by exact Or.inr (by rw [show kv + 1 - 1 = kv by omega])) (by first | assumption | omega) (by unfold bendN; rw [msum_s _ hk.1, bP_f (fun y => y.2 (by assumption))]; unfold bendN at hbn; omega) (by first | assumption | omega) (by first | assumption | omega) (by first | assumption | omega) (by intro c c0 c1; by_cases z : c = q 6 kv; (rw [z, f1_ia_72, hI.2.2.1.1 kv (by omega) (by omega), bP_t (by omega)]); (rw [f2_ia_72 c z, hi c c0 c1]; have z2 : ¬ q 10 c = kv := fun y => by { rcases hI.2.2.1.2 c c0 c1 with x1 | ⟨x1, x2, x3⟩; (omega); (rw [y] at x3; exact z x3.symm) }; exact bP_cg ⟨fun w => ⟨w.1, by omega⟩, fun w => ⟨w.1, by omega⟩⟩)) (by first | assumption | omega) (by first | assumption | omega) _ _ hP hD hS ls (lv_sub hl [3, 4, 5, 6, 7, 8, 9, 10, 11, 12, 13, 14, 1, 15, 16, 0] rfl)
                        · skip
                          refine lv_iinc (v := iI (bn + 1)) (lv' := [(19, .int (iI (bn + 1))), (18, .int (iI (q 6 kv))), (22, .int (iI (q 6 kv))), (0, .ref b), (1, .ref ho), (2, .ref hm), (4, .int (iI (tv))), (6, .int (iI (r 7 0))), (7, .ref qw), (8, .ref qk), (9, .ref qz), (10, .int (iI (q 7 0))), (11, .int (iI (q 9 0 - r 9 0))), (16, .int (iI (r 5 (tv % 12)))), (17, .int (iI (bz))), (20, .ref na1), (21, .int (iI (kv)))]) hx hb dL_law_661 hl (k := 14) rfl (iI_add _ _).symm (by decide) rfl (fun ls hl => ?_)
                          refine lv_iinc (v := iI (kv + 1)) (lv' := [(21, .int (iI (kv + 1))), (19, .int (iI (bn + 1))), (18, .int (iI (q 6 kv))), (22, .int (iI (q 6 kv))), (0, .ref b), (1, .ref ho), (2, .ref hm), (4, .int (iI (tv))), (6, .int (iI (r 7 0))), (7, .ref qw), (8, .ref qk), (9, .ref qz), (10, .int (iI (q 7 0))), (11, .int (iI (q 9 0 - r 9 0))), (16, .int (iI (r 5 (tv % 12)))), (17, .int (iI (bz))), (20, .ref na1)]) hx hb dL_law_664 hl (k := 16) rfl (iI_add _ _).symm (by decide) rfl (fun ls hl => ?_)
                          refine lv_goto (tgt := 521) hx hb dL_law_667 (by decide) ?_
                          exact ih521 (kv + 1) (q 6 kv) (bn + 1) xa88 raa90 ia_72 (cc + 4) (sc + 24) (by omega) (by first | assumption | omega) (by exact Or.inr (by rw [show kv + 1 - 1 = kv by omega])) (by first | assumption | omega) (by unfold bendN; rw [msum_s _ hk.1, bP_t ⟨⟨by omega, by omega⟩, by assumption⟩]; unfold bendN at hbn; omega) (by first | assumption | omega) (by first | assumption | omega) (by first | assumption | omega) (by intro c c0 c1; by_cases z : c = q 6 kv; (rw [z, f1_ia_72, hI.2.2.1.1 kv (by omega) (by omega), bP_t (by omega)]); (rw [f2_ia_72 c z, hi c c0 c1]; have z2 : ¬ q 10 c = kv := fun y => by { rcases hI.2.2.1.2 c c0 c1 with x1 | ⟨x1, x2, x3⟩; (omega); (rw [y] at x3; exact z x3.symm) }; exact bP_cg ⟨fun w => ⟨w.1, by omega⟩, fun w => ⟨w.1, by omega⟩⟩)) (by first | assumption | omega) (by first | assumption | omega) _ _ hP hD hS ls (lv_sub hl [4, 5, 6, 7, 8, 9, 10, 11, 12, 13, 14, 15, 2, 1, 16, 0] rfl)
                  · skip
                    exact absurd rfl c71
  exact lp521 (_ + 1) 0 (-1) 0 x ra av2 (cells + 1) (slots + 384) (Nat.lt_succ_self _) (by first | assumption | omega) (by exact Or.inl rfl) (by first | assumption | omega) (by rfl) (by first | assumption | omega) (by exact okx) (by exact okra) (by intro c c0 c1; rw [eav2]; exact (bP_f (by omega)).symm) (by first | assumption | omega) (by first | assumption | omega) _ _ hP hD hS ls (lv_sub hl [4, 5, 6, 7, 8, 9, 10, 11, 12, 13, 14, 15, 3, 2, 1, 0] rfl)
