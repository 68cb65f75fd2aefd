/-! 65.lawloop: the law's loop, and what it makes -/
set_option maxHeartbeats 4000000 in
set_option maxRecDepth 100000 in
theorem law_loop {p : Program} {l : Launch} {e : Env} {s : State} {m : MethodId} {below : List Frame} {meth : Method} {c : Code} {Q : State → Prop} {b L : Nat} {xs : Nat → Int32} {G : mf_G} {gL gK : ClassId} {A : Nat → Prop} (E : LE p l s m meth c b L xs G gL gK A) {ho pn pa pf ae jw hm : Nat} {adn ada adf adm : Nat → Nat} (hL : L ≤ 2560)
    (fin : ∀ (H : Heap) (locs : List Loc) (ls : Array Slot) (cells slots : Nat), cells ≤ 601024 → slots ≤ 7293033 → va_S A s.heap H locs → W p l e room_1 s m #[Value.ref b] below meth c H locs cells slots Q (F0 m 1229 ls [])) :
    ∀ (n : Nat) (x r ra f u : mf_V) (o : Nat → Int64) (Y iv : Int) (cells slots : Nat) (H : Heap) (locs : List Loc) (ls : Array Slot), ((L : Int) - iv + 5).toNat < n → LI Y x r ra f u → 5 * Y = 101 * iv → (0 ≤ iv ∧ iv ≤ L + 4) → 5 * (cells : Int) ≤ 500 + 6 * iv → 5 * (slots : Int) ≤ 100000 + 933 * iv → va_P G.1 vwCl (OW G ho pn pa pf ae x ++ LW gL jw o ++ RW G pn adn r ++ RW G pa ada ra ++ FW G pf adf f ++ MW G hm adm u) H → va_D A (OW G ho pn pa pf ae x ++ LW gL jw o ++ RW G pn adn r ++ RW G pa ada ra ++ FW G pf adf f ++ MW G hm adm u) → va_S A s.heap H locs → lv_has ls 9 [(4, .int (iI (iv))), (0, .ref b), (1, .ref ho), (2, .ref hm), (3, .ref jw)] →
      W p l e room_1 s m #[Value.ref b] below meth c H locs cells slots Q (F0 m 23 ls []) := by
  intro n
  induction n with
  | zero => intro x r ra f u o Y iv cells slots H locs ls h; exact absurd h (Nat.not_lt_zero _)
  | succ n ih =>
    intro x r ra f u o Y iv cells slots H locs ls hn hI hYi hiv hc hs hP hD hS hl
    obtain ⟨hx, hb, hr, hml, hown, hts, hXs, hbl, hl9, hK2, hN, hX, hSX, hCX, hZ, hNX, hA, hbA⟩ := id E
    refine lv_iload hx hb dL_law_23 (lv_at hl 0 rfl) ?_
    refine lv_aload_n hx hb dL_law_25 rfl (lv_at hl 1 rfl) ?_
    refine mf_slen hx hb hXs hbl hbA hS dL_law_26 ?_
    refine mf_iconst hx hb dL_law_27 ?_
    refine mf_isub hx hb dL_law_28 ?_
    refine mf_icmp_gt (tgt := 1229) hx hb dL_law_29 (by decide) (i32_mk (by omega) (by omega)) (i32_mk (by omega) (by omega)) (fun c1 => ?_) (fun c1 => ?_)
    · exact fin H locs ls cells slots (by omega) (by omega) hS
    have kk : ∀ (x' : mf_V) (o' : Nat → Int64) (r' ra' f' u' : mf_V) (H : Heap) (locs : List Loc) (ls : Array Slot), LI (Y + 101) x' r' ra' f' u' → va_P G.1 vwCl (OW G ho pn pa pf ae x' ++ LW gL jw o' ++ RW G pn adn r' ++ RW G pa ada ra' ++ FW G pf adf f' ++ MW G hm adm u') H → va_D A (OW G ho pn pa pf ae x' ++ LW gL jw o' ++ RW G pn adn r' ++ RW G pa ada ra' ++ FW G pf adf f' ++ MW G hm adm u') → va_S A s.heap H locs → lv_has ls 9 [(4, .int (iI (iv))), (0, .ref b), (1, .ref ho), (2, .ref hm), (3, .ref jw)] → W p l e room_1 s m #[Value.ref b] below meth c H locs (cells + 6) (slots + 933) Q (F0 m 1223 ls []) := by
      intro x' o' r' ra' f' u' H locs ls hI hP hD hS hl
      refine lv_iinc (v := iI (iv + 5)) (lv' := [(4, .int (iI (iv + 5))), (0, .ref b), (1, .ref ho), (2, .ref hm), (3, .ref jw)]) hx hb dL_law_1223 hl (k := 0) rfl (iI_add _ _).symm (by decide) rfl (fun ls hl => ?_)
      refine lv_goto (tgt := 23) hx hb dL_law_1226 (by decide) ?_
      exact ih x' r' ra' f' u' o' (Y + 101) (iv + 5) (cells + 6) (slots + 933) H locs ls (by omega) hI (by omega) (by omega) (by omega) (by omega) hP hD hS hl
    have hY : 0 ≤ Y ∧ Y + 100 ≤ 60000 := by omega
    have hv : 0 ≤ iv ∧ iv + 5 ≤ L ∧ L ≤ 2560 := by omega
    have hcl : cells + 6 ≤ 601024 ∧ slots + 933 ≤ 7293033 := by omega
    refine lv_aload_n hx hb dL_law_32 rfl (lv_at hl 1 rfl) ?_
    refine lv_iload hx hb dL_law_33 (lv_at hl 0 rfl) ?_
    refine mf_sld hx hb hXs hbl hbA hS (z := iv) (by omega) (by omega) (by omega) dL_law_35 ?_
    refine mf_bipush hx hb dL_law_36 rfl ?_
    refine mf_and31 hx hb dL_law_38 (fun y y0 y1 => ?_)
    have hy : i32 y := i32_mk (by omega) (by omega)
    rcases (show y = 0 ∨ y = 1 ∨ y = 2 ∨ y = 3 ∨ y = 4 ∨ y = 5 ∨ y = 6 ∨ y = 7 ∨ y = 8 ∨ y = 9 ∨ y = 10 ∨ y = 11 ∨ y = 12 ∨ y = 13 ∨ y = 14 ∨ y = 15 ∨ y = 16 ∨ 16 < y by omega) with z | z | z | z | z | z | z | z | z | z | z | z | z | z | z | z | z | z
    · refine lv_tableIn (off := 81) (tgt := 120) hx hb dL_law_39 (by rw [iI_toInt hy]; omega) (by rw [iI_toInt hy]; omega) (by rw [iI_toInt hy, z]; rfl) (by decide) ?_
      exact lc_setHardness E hI hY hv hcl hP hD hS hl kk
    · refine lv_tableIn (off := 161) (tgt := 200) hx hb dL_law_39 (by rw [iI_toInt hy]; omega) (by rw [iI_toInt hy]; omega) (by rw [iI_toInt hy, z]; rfl) (by decide) ?_
      exact lc_setStones E hI hY hv hcl hP hD hS hl kk
    · refine lv_tableIn (off := 257) (tgt := 296) hx hb dL_law_39 (by rw [iI_toInt hy]; omega) (by rw [iI_toInt hy]; omega) (by rw [iI_toInt hy, z]; rfl) (by decide) ?_
      exact lc_setFlow E hI hY hv hcl hP hD hS hl kk
    · refine lv_tableIn (off := 325) (tgt := 364) hx hb dL_law_39 (by rw [iI_toInt hy]; omega) (by rw [iI_toInt hy]; omega) (by rw [iI_toInt hy, z]; rfl) (by decide) ?_
      exact lc_cell E hI hY hv hcl hP hD hS hl kk
    · refine lv_tableIn (off := 405) (tgt := 444) hx hb dL_law_39 (by rw [iI_toInt hy]; omega) (by rw [iI_toInt hy]; omega) (by rw [iI_toInt hy, z]; rfl) (by decide) ?_
      exact lc_course E hI hY hv hcl hP hD hS hl kk
    · refine lv_tableIn (off := 473) (tgt := 512) hx hb dL_law_39 (by rw [iI_toInt hy]; omega) (by rw [iI_toInt hy]; omega) (by rw [iI_toInt hy, z]; rfl) (by decide) ?_
      exact lc_slip E hI hY hv hcl hP hD hS hl kk
    · refine lv_tableIn (off := 541) (tgt := 580) hx hb dL_law_39 (by rw [iI_toInt hy]; omega) (by rw [iI_toInt hy]; omega) (by rw [iI_toInt hy, z]; rfl) (by decide) ?_
      exact lc_dig E hI hY hv hcl hP hD hS hl kk
    · refine lv_tableIn (off := 609) (tgt := 648) hx hb dL_law_39 (by rw [iI_toInt hy]; omega) (by rw [iI_toInt hy]; omega) (by rw [iI_toInt hy, z]; rfl) (by decide) ?_
      exact lc_neck E hI hY hv hcl hP hD hS hl kk
    · refine lv_tableIn (off := 665) (tgt := 704) hx hb dL_law_39 (by rw [iI_toInt hy]; omega) (by rw [iI_toInt hy]; omega) (by rw [iI_toInt hy, z]; rfl) (by decide) ?_
      exact lc_addFarm E hI hY hv hcl hP hD hS hl kk
    · refine lv_tableIn (off := 757) (tgt := 796) hx hb dL_law_39 (by rw [iI_toInt hy]; omega) (by rw [iI_toInt hy]; omega) (by rw [iI_toInt hy, z]; rfl) (by decide) ?_
      exact lc_farm E hI hY hv hcl hP hD hS hl kk
    · refine lv_tableIn (off := 825) (tgt := 864) hx hb dL_law_39 (by rw [iI_toInt hy]; omega) (by rw [iI_toInt hy]; omega) (by rw [iI_toInt hy, z]; rfl) (by decide) ?_
      exact lc_pass E hI hY hv hcl hP hD hS hl kk
    · refine lv_tableIn (off := 881) (tgt := 920) hx hb dL_law_39 (by rw [iI_toInt hy]; omega) (by rw [iI_toInt hy]; omega) (by rw [iI_toInt hy, z]; rfl) (by decide) ?_
      exact lc_count E hI hY hv hcl hP hD hS hl kk
    · refine lv_tableIn (off := 937) (tgt := 976) hx hb dL_law_39 (by rw [iI_toInt hy]; omega) (by rw [iI_toInt hy]; omega) (by rw [iI_toInt hy, z]; rfl) (by decide) ?_
      exact lc_foresee E hI hY hv hcl hP hD hS hl kk
    · refine lv_tableIn (off := 1005) (tgt := 1044) hx hb dL_law_39 (by rw [iI_toInt hy]; omega) (by rw [iI_toInt hy]; omega) (by rw [iI_toInt hy, z]; rfl) (by decide) ?_
      exact lc_loses E hI hY hv hcl hP hD hS hl kk
    · refine lv_tableIn (off := 1061) (tgt := 1100) hx hb dL_law_39 (by rw [iI_toInt hy]; omega) (by rw [iI_toInt hy]; omega) (by rw [iI_toInt hy, z]; rfl) (by decide) ?_
      exact lc_advise E hI hY hv hcl hP hD hS hl kk
    · refine lv_tableIn (off := 1129) (tgt := 1168) hx hb dL_law_39 (by rw [iI_toInt hy]; omega) (by rw [iI_toInt hy]; omega) (by rw [iI_toInt hy, z]; rfl) (by decide) ?_
      exact lc_winding E hI hY hv hcl hP hD hS hl kk
    · refine lv_tableIn (off := 1170) (tgt := 1209) hx hb dL_law_39 (by rw [iI_toInt hy]; omega) (by rw [iI_toInt hy]; omega) (by rw [iI_toInt hy, z]; rfl) (by decide) ?_
      exact lc_digest E hI hY hv hcl hP hD hS hl kk
    · refine lv_tableOut (tgt := 1223) hx hb dL_law_39 (by rw [iI_toInt hy]; omega) (by decide) ?_
      refine W.widen (k := cells + 6) (n := slots + 933) (by omega) (by omega) ?_
      have h9 := id hI
      exact kk x o r ra f u H locs ls (LI_same hI h9.1 rfl rfl h9.2.2.2.2.1 h9.2.2.2.2.2.1 h9.2.2.2.2.2.2) hP hD hS hl
