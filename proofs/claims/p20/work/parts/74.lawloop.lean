/-! 74.lawloop: the law's years -/
set_option maxHeartbeats 4000000 in
set_option maxRecDepth 100000 in
theorem law_loop {p : Program} {l : Launch} {e : Env} {s : State} {m : MethodId} {below : List Frame} {meth : Method} {c : Code} {Q : State → Prop} {b L : Nat} {xs : Nat → Int32} {G : mf_G} {A : Nat → Prop} (E : LEp p l s m meth c b L xs G A) (hL : L ≤ 260) {ho pn pa pf ae hm : Nat} {adn ada adf adm : Nat → Nat} {f : mf_V} (okf : rOK flo fhi f) (hf4 : f 4 0 = 1) (hFI : FInv f)
    (fin : ∀ (H : Heap) (locs : List Loc) (ls : Array Slot) (cells slots : Nat), cells ≤ 600104 → slots ≤ 7301314 → va_S A s.heap H locs → W p l e room_1 s m #[Value.ref b] below meth c H locs cells slots Q (F0 m 1054 ls [])) :
    ∀ (n : Nat) (x r ra u : mf_V) (ca nn : Nat) (tv : Int) (cells slots : Nat) (H : Heap) (locs : List Loc) (ls : Array Slot), (25 - tv).toNat < n → LQs (7 + 2 * tv) x r ra f nn u → r 8 0 = tv → (0 ≤ tv ∧ tv ≤ 24) → (cells : Int) ≤ 200 + 4000 * tv → (slots : Int) ≤ 11000 + 36000 * tv → va_P G.1 vwCl (OW G ho pn pa pf ae x ++ RW G pn adn r ++ RW G pa ada ra ++ FW G pf adf f ++ SW G hm adm ca nn u) H → va_D A (OW G ho pn pa pf ae x ++ RW G pn adn r ++ RW G pa ada ra ++ FW G pf adf f ++ SW G hm adm ca nn u) → va_S A s.heap H locs → lv_has ls 27 [(0, .ref b), (1, .ref ho), (2, .ref hm), (4, .int (iI (tv)))] →
      W p l e room_1 s m #[Value.ref b] below meth c H locs cells slots Q (F0 m 108 ls []) := by
  intro n
  induction n with
  | zero => intro x r ra u ca nn tv cells slots H locs ls h; exact absurd h (Nat.not_lt_zero _)
  | succ n ih =>
    intro x r ra u ca nn tv cells slots H locs ls hn hLQ h8 ht0 hc hs hP hD hS hl
    obtain ⟨hx, hb, hr, hml, hown, hts, hXs, hbl, hl9, hK, hN, hSX, hCX, hZ, hA, hbA⟩ := id E
    refine lv_iload hx hb dL_law_108 (lv_at hl 3 rfl) ?_
    refine mf_bipush hx hb dL_law_110 rfl ?_
    refine mf_icmp_ge (tgt := 1054) hx hb dL_law_112 (by decide) (i32_mk (by omega) (by omega)) (i32_mk (by decide) (by decide)) (fun c1 => ?_) (fun c1 => ?_)
    · exact fin H locs ls cells slots (by omega) (by omega) hS
    have ht : 0 ≤ tv ∧ tv < 24 := by omega
    have okr := hLQ.1.2.1
    refine sg_1 E hL okf hf4 hFI hLQ h8 ht (by omega) hP hD hS hl (fun x r ra u ca nn qw qk qz wv bv zv hLQ h8 hw hb0 hz H locs ls hP hD hS hl => ?_)
    refine sg_2 E hL okf hf4 hFI hLQ hb0 ht (by omega) hP hD hS hl (fun x ra bv okx okra hbk H locs ls hP hD hS hl => ?_)
    have hLQ := (⟨⟨okx, hLQ.1.2.1, okra, okf⟩, hLQ.2⟩ : LQs (8 + 2 * tv) x r ra f nn u)
    have hokr := hLQ.1.2.1
    refine sg_3 E hL okf hf4 hFI hLQ h8 ht (by omega) hP hD hS hl (fun x q ra u ca nn bz lv hLQ hyL h8 hlv hq2 H locs ls hP hD hS hl => ?_)
    refine sg_4 E hL okf hf4 hFI hLQ hyL hokr h8 ht hlv (by omega) hP hD hS hl (fun x ra okx okra H locs ls hP hD hS hl => ?_)
    have hLQ := (⟨⟨okx, hLQ.1.2.1, okra, okf⟩, hLQ.2⟩ : LQs (9 + 2 * tv) x q ra f nn u)
    refine sg_5 E hL okf hf4 hFI hLQ hyL hokr h8 ht (by omega) hP hD hS hl (fun x ra qi iv okx okra hi H locs ls hP hD hS hl => ?_)
    have hLQ := (⟨⟨okx, hLQ.1.2.1, okra, okf⟩, hLQ.2⟩ : LQs (9 + 2 * tv) x q ra f nn u)
    refine sg_6 E hL okf hf4 hFI hLQ hyL hokr h8 ht (by omega) hP hD hS hl (fun x ra okx okra H locs ls hP hD hS hl => ?_)
    have hLQ := (⟨⟨okx, hLQ.1.2.1, okra, okf⟩, hLQ.2⟩ : LQs (9 + 2 * tv) x q ra f nn u)
    refine sg_7 E hL okf hf4 hFI hLQ hyL hokr h8 ht hw hbk hz hi hq2 (by omega) hP hD hS hl (fun x ra okx okra H locs ls hP hD hS hl => ?_)
    have hLQ := (⟨⟨okx, hLQ.1.2.1, okra, okf⟩, hLQ.2⟩ : LQs (9 + 2 * tv) x q ra f nn u)
    refine sg_8 E hL okf hf4 hFI hLQ hyL hokr h8 ht (by omega) hP hD hS hl (fun x ra okx okra H locs ls hP hD hS hl => ?_)
    exact ih x q ra u ca nn (tv + 1) _ _ H locs ls (by omega) (LQs_mono ⟨⟨okx, hLQ.1.2.1, okra, okf⟩, hLQ.2⟩ (by omega)) h8 (by omega) (by omega) (by omega) hP hD hS hl
