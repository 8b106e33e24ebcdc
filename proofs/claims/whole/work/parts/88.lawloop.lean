/-! the law's loop -/
theorem lwV.S {G : aw_G} {A : Nat → Prop} {H0 : Heap} {ad sh ca rr am : Nat → Nat} {H : Heap} {locs : List Loc} (h : lwV G A H0 ad sh ca rr am H locs) : va_S A H0 H locs := by
  obtain ⟨_, _, _, _, _, _, _, _, _, _, _, _, _, _, _, _, _, _, _, _, _, _, _, _, _, _, _, _, _, _, _, _, _, _, _, _, _, _, _, _, _, _, _, _, _, -, hw⟩ := h
  exact hw.2.2
theorem sub6 {L : Nat} (h : L ≤ 3072) : (nI L - 6).toInt = (L : Int) - 6 := by
  rw [Int32.toInt_sub, nI_toInt (by omega), show (6 : Int32).toInt = 6 from rfl, Int.bmod_eq_of_le (by omega) (by omega)]
set_option maxRecDepth 100000 in
set_option maxHeartbeats 4000000 in
theorem law_loop {p : Program} {l : Launch} {e : Env} {s : State} {m : MethodId} {below : List Frame} {meth : Method} {c : Code} {G : aw_G} {b L : Nat} {xs : Nat → Int32} (hL : L ≤ 3072) (C0 : lw_At p s m meth c b L xs) (hE : aw_E G s) (ad sh ca rr am : Nat → Nat) :
    ∀ (k t : Nat), 6 * t ≤ L → L + 1 ≤ 6 * t + k → ∀ (H : Heap) (locs : List Loc) (ls : Array Slot), lv_has ls 4 [(0, .ref b), (1, .ref (ad 0)), (2, .ref (am 31)), (3, .int (nI (6 * t)))] → lwV G (fun q : Nat => s.heap.size ≤ q) s.heap ad sh ca rr am H locs → W p l e room_1 s m #[Value.ref b] below meth c H locs (67 + 6 * t) (3567 + 18 * t) (lw_Z below #[Value.ref b] s) (F0 m 18 ls []) := by
  obtain ⟨hx, hb, hr, hml, hown, hts, hX, hbl, hlocks, hgv⟩ := C0
  have S : CallFix p m c cL_law 4 s #[Value.ref b] wsL_law RL := ⟨hx, hb, hml, hown, fun w h => hts w (wsL_law_in w h)⟩
  have hA : ∀ q : Nat, s.heap.size ≤ q → (fun q : Nat => s.heap.size ≤ q) q := fun _ h => h
  have hbA : ¬ (fun q : Nat => s.heap.size ≤ q) b := Nat.not_le.mpr hbl
  intro k
  induction k with
  | zero =>
    intro t h1 h2
    exact absurd h2 (by omega)
  | succ k ih =>
    intro t ht hk H locs ls hl hV
    have hS := hV.S
    refine lv_iload_n hx hb dL_law_18 rfl (lv_at hl 3 rfl) ?_
    refine lv_aload_n hx hb dL_law_19 rfl (lv_at hl 0 rfl) ?_
    refine va_slen hx hb hX hbl hbA hS dL_law_20 ?_
    refine lv_bipush (v := 6) hx hb dL_law_21 (by decide) ?_
    refine lv_isub hx hb dL_law_23 ?_
    refine lv_icmp_gt (tgt := 1306) hx hb dL_law_24 (by decide) (fun c24 => ?_) (fun c24 => ?_)
    · refine lv_iconst (v := 1) hx hb dL_law_1306 (by decide) ?_
      refine va_forget (fun q hq => hS.2.2 q hq) ?_
      refine W.widen (k := 600000) (n := 7302250) (by omega) (by omega) ?_
      exact lw_ret hx hb hr hlocks dL_law_1307
    · have h6 : 6 * t + 6 ≤ L := by
        have q : ¬ (nI L - 6 < nI (6 * t)) := c24
        rw [fa_lt, sub6 hL, nI_toInt (by omega)] at q
        omega
      refine lv_aload_n hx hb dL_law_27 rfl (lv_at hl 0 rfl) ?_
      refine lv_iload_n hx hb dL_law_28 rfl (lv_at hl 3 rfl) ?_
      refine va_sld hx hb hX hbl hbA hS (vp_in_nI (n := 6 * t) (N := L) (by omega) (by omega)) dL_law_29 ?_
      refine lv_bipush (v := 63) hx hb dL_law_30 (by decide) ?_
      refine lv_iand hx hb dL_law_32 ?_
      have kk : ∀ (H : Heap) (locs : List Loc) (ls : Array Slot), lv_has ls 4 [(0, .ref b), (1, .ref (ad 0)), (2, .ref (am 31)), (3, .int (nI (6 * t)))] → lwV G (fun q : Nat => s.heap.size ≤ q) s.heap ad sh ca rr am H locs → W p l e room_1 s m #[Value.ref b] below meth c H locs (67 + 6 * t + 6) (3567 + 18 * t + 18) (lw_Z below #[Value.ref b] s) (F0 m 1300 ls []) := by
        intro H locs ls hl hV
        refine lv_iinc (v := nI (6 * (t + 1))) (lv' := [(3, .int (nI (6 * (t + 1)))), (0, .ref b), (1, .ref (ad 0)), (2, .ref (am 31))]) hx hb dL_law_1300 hl (k := 3) rfl (by rw [show 6 * (t + 1) = 6 * t + 6 by omega]; exact nI_add _ 6) (by decide) rfl (fun ls hl => ?_)
        refine lv_goto (tgt := 18) hx hb dL_law_1303 (by decide) ?_
        refine W.widen (k := 67 + 6 * (t + 1)) (n := 3567 + 18 * (t + 1)) (by omega) (by omega) ?_
        exact ih (t + 1) (by omega) (by omega) H locs ls (lv_sub hl [1, 2, 3, 0] rfl) hV
      generalize (xs (nI (6 * t)).toNatClampNeg &&& 63) = y
      by_cases d0 : y = 0
      · refine lv_tableIn (off := 151) (tgt := 184) hx hb dL_law_33 (by rw [d0]; decide) (by rw [d0]; decide) (by rw [d0]; rfl) (by decide) ?_
        exact lc_ship rfl S hE hA hX hbl hbA hL ad sh ca rr am t h6 _ _ (by omega) (by omega) kk H locs ls hl hV
      by_cases d1 : y = 1
      · refine lv_tableIn (off := 204) (tgt := 237) hx hb dL_law_33 (by rw [d1]; decide) (by rw [d1]; decide) (by rw [d1]; rfl) (by decide) ?_
        exact lc_ofSleeper rfl S hE hA hX hbl hbA hL ad sh ca rr am t h6 _ _ (by omega) (by omega) kk H locs ls hl hV
      by_cases d2 : y = 2
      · refine lv_tableIn (off := 237) (tgt := 270) hx hb dL_law_33 (by rw [d2]; decide) (by rw [d2]; decide) (by rw [d2]; rfl) (by decide) ?_
        exact lc_up rfl S hE hA hX hbl hbA hL ad sh ca rr am t h6 _ _ (by omega) (by omega) kk H locs ls hl hV
      by_cases d3 : y = 3
      · refine lv_tableIn (off := 296) (tgt := 329) hx hb dL_law_33 (by rw [d3]; decide) (by rw [d3]; decide) (by rw [d3]; rfl) (by decide) ?_
        exact lc_wants rfl S hE hA hX hbl hbA hL ad sh ca rr am t h6 _ _ (by omega) (by omega) kk H locs ls hl hV
      by_cases d4 : y = 4
      · refine lv_tableIn (off := 329) (tgt := 362) hx hb dL_law_33 (by rw [d4]; decide) (by rw [d4]; decide) (by rw [d4]; rfl) (by decide) ?_
        exact lc_law rfl S hE hA hX hbl hbA hL ad sh ca rr am t h6 _ _ (by omega) (by omega) kk H locs ls hl hV
      by_cases d5 : y = 5
      · refine lv_tableIn (off := 352) (tgt := 385) hx hb dL_law_33 (by rw [d5]; decide) (by rw [d5]; decide) (by rw [d5]; rfl) (by decide) ?_
        exact lc_note rfl S hE hA hX hbl hbA hL ad sh ca rr am t h6 _ _ (by omega) (by omega) kk H locs ls hl hV
      by_cases d6 : y = 6
      · refine lv_tableIn (off := 385) (tgt := 418) hx hb dL_law_33 (by rw [d6]; decide) (by rw [d6]; decide) (by rw [d6]; rfl) (by decide) ?_
        exact lc_tear rfl S hE hA hX hbl hbA hL ad sh ca rr am t h6 _ _ (by omega) (by omega) kk H locs ls hl hV
      by_cases d7 : y = 7
      · refine lv_tableIn (off := 408) (tgt := 441) hx hb dL_law_33 (by rw [d7]; decide) (by rw [d7]; decide) (by rw [d7]; rfl) (by decide) ?_
        exact lc_awake rfl S hE hA hX hbl hbA hL ad sh ca rr am t h6 _ _ (by omega) (by omega) kk H locs ls hl hV
      by_cases d8 : y = 8
      · refine lv_tableIn (off := 431) (tgt := 464) hx hb dL_law_33 (by rw [d8]; decide) (by rw [d8]; decide) (by rw [d8]; rfl) (by decide) ?_
        exact lc_harm rfl S hE hA hX hbl hbA hL ad sh ca rr am t h6 _ _ (by omega) (by omega) kk H locs ls hl hV
      by_cases d9 : y = 9
      · refine lv_tableIn (off := 464) (tgt := 497) hx hb dL_law_33 (by rw [d9]; decide) (by rw [d9]; decide) (by rw [d9]; rfl) (by decide) ?_
        exact lc_skills rfl S hE hA hX hbl hbA hL ad sh ca rr am t h6 _ _ (by omega) (by omega) kk H locs ls hl hV
      by_cases d10 : y = 10
      · refine lv_tableIn (off := 497) (tgt := 530) hx hb dL_law_33 (by rw [d10]; decide) (by rw [d10]; decide) (by rw [d10]; rfl) (by decide) ?_
        exact lc_lacks rfl S hE hA hX hbl hbA hL ad sh ca rr am t h6 _ _ (by omega) (by omega) kk H locs ls hl hV
      by_cases d11 : y = 11
      · refine lv_tableIn (off := 520) (tgt := 553) hx hb dL_law_33 (by rw [d11]; decide) (by rw [d11]; decide) (by rw [d11]; rfl) (by decide) ?_
        exact lc_wrong rfl S hE hA hX hbl hbA hL ad sh ca rr am t h6 _ _ (by omega) (by omega) kk H locs ls hl hV
      by_cases d12 : y = 12
      · refine lv_tableIn (off := 543) (tgt := 576) hx hb dL_law_33 (by rw [d12]; decide) (by rw [d12]; decide) (by rw [d12]; rfl) (by decide) ?_
        exact lc_cover rfl S hE hA hX hbl hbA hL ad sh ca rr am t h6 _ _ (by omega) (by omega) kk H locs ls hl hV
      by_cases d13 : y = 13
      · refine lv_tableIn (off := 566) (tgt := 599) hx hb dL_law_33 (by rw [d13]; decide) (by rw [d13]; decide) (by rw [d13]; rfl) (by decide) ?_
        exact lc_least rfl S hE hA hX hbl hbA hL ad sh ca rr am t h6 _ _ (by omega) (by omega) kk H locs ls hl hV
      by_cases d14 : y = 14
      · refine lv_tableIn (off := 589) (tgt := 622) hx hb dL_law_33 (by rw [d14]; decide) (by rw [d14]; decide) (by rw [d14]; rfl) (by decide) ?_
        exact lc_judge rfl S hE hA hX hbl hbA hL ad sh ca rr am t h6 _ _ (by omega) (by omega) kk H locs ls hl hV
      by_cases d15 : y = 15
      · refine lv_tableIn (off := 642) (tgt := 675) hx hb dL_law_33 (by rw [d15]; decide) (by rw [d15]; decide) (by rw [d15]; rfl) (by decide) ?_
        exact lc_trades rfl S hE hA hX hbl hbA hL ad sh ca rr am t h6 _ _ (by omega) (by omega) kk H locs ls hl hV
      by_cases d16 : y = 16
      · refine lv_tableIn (off := 665) (tgt := 698) hx hb dL_law_33 (by rw [d16]; decide) (by rw [d16]; decide) (by rw [d16]; rfl) (by decide) ?_
        exact lc_knows rfl S hE hA hX hbl hbA hL ad sh ca rr am t h6 _ _ (by omega) (by omega) kk H locs ls hl hV
      by_cases d17 : y = 17
      · refine lv_tableIn (off := 708) (tgt := 741) hx hb dL_law_33 (by rw [d17]; decide) (by rw [d17]; decide) (by rw [d17]; rfl) (by decide) ?_
        exact lc_kept rfl S hE hA hX hbl hbA hL ad sh ca rr am t h6 _ _ (by omega) (by omega) kk H locs ls hl hV
      by_cases d18 : y = 18
      · refine lv_tableIn (off := 741) (tgt := 774) hx hb dL_law_33 (by rw [d18]; decide) (by rw [d18]; decide) (by rw [d18]; rfl) (by decide) ?_
        exact lc_reading rfl S hE hA hX hbl hbA hL ad sh ca rr am t h6 _ _ (by omega) (by omega) kk H locs ls hl hV
      by_cases d19 : y = 19
      · refine lv_tableIn (off := 800) (tgt := 833) hx hb dL_law_33 (by rw [d19]; decide) (by rw [d19]; decide) (by rw [d19]; rfl) (by decide) ?_
        exact lc_back rfl S hE hA hX hbl hbA hL ad sh ca rr am t h6 _ _ (by omega) (by omega) kk H locs ls hl hV
      by_cases d20 : y = 20
      · refine lv_tableIn (off := 823) (tgt := 856) hx hb dL_law_33 (by rw [d20]; decide) (by rw [d20]; decide) (by rw [d20]; rfl) (by decide) ?_
        exact lc_began rfl S hE hA hX hbl hbA hL ad sh ca rr am t h6 _ _ (by omega) (by omega) kk H locs ls hl hV
      by_cases d21 : y = 21
      · refine lv_tableIn (off := 846) (tgt := 879) hx hb dL_law_33 (by rw [d21]; decide) (by rw [d21]; decide) (by rw [d21]; rfl) (by decide) ?_
        exact lc_woken rfl S hE hA hX hbl hbA hL ad sh ca rr am t h6 _ _ (by omega) (by omega) kk H locs ls hl hV
      by_cases d22 : y = 22
      · refine lv_tableIn (off := 889) (tgt := 922) hx hb dL_law_33 (by rw [d22]; decide) (by rw [d22]; decide) (by rw [d22]; rfl) (by decide) ?_
        exact lc_odds rfl S hE hA hX hbl hbA hL ad sh ca rr am t h6 _ _ (by omega) (by omega) kk H locs ls hl hV
      by_cases d23 : y = 23
      · refine lv_tableIn (off := 923) (tgt := 956) hx hb dL_law_33 (by rw [d23]; decide) (by rw [d23]; decide) (by rw [d23]; rfl) (by decide) ?_
        exact lc_sheet rfl S hE hA hX hbl hbA hL ad sh ca rr am t h6 _ _ (by omega) (by omega) kk H locs ls hl hV
      by_cases d24 : y = 24
      · refine lv_tableIn (off := 966) (tgt := 999) hx hb dL_law_33 (by rw [d24]; decide) (by rw [d24]; decide) (by rw [d24]; rfl) (by decide) ?_
        exact lc_lose rfl S hE hA hX hbl hbA hL ad sh ca rr am t h6 _ _ (by omega) (by omega) kk H locs ls hl hV
      by_cases d25 : y = 25
      · refine lv_tableIn (off := 989) (tgt := 1022) hx hb dL_law_33 (by rw [d25]; decide) (by rw [d25]; decide) (by rw [d25]; rfl) (by decide) ?_
        exact lc_put rfl S hE hA hX hbl hbA hL ad sh ca rr am t h6 _ _ (by omega) (by omega) kk H locs ls hl hV
      by_cases d26 : y = 26
      · refine lv_tableIn (off := 1032) (tgt := 1065) hx hb dL_law_33 (by rw [d26]; decide) (by rw [d26]; decide) (by rw [d26]; rfl) (by decide) ?_
        exact lc_cell rfl S hE hA hX hbl hbA hL ad sh ca rr am t h6 _ _ (by omega) (by omega) kk H locs ls hl hV
      by_cases d27 : y = 27
      · refine lv_tableIn (off := 1076) (tgt := 1109) hx hb dL_law_33 (by rw [d27]; decide) (by rw [d27]; decide) (by rw [d27]; rfl) (by decide) ?_
        exact lc_copy rfl S hE hA hX hbl hbA hL ad sh ca rr am t h6 _ _ (by omega) (by omega) kk H locs ls hl hV
      by_cases d28 : y = 28
      · refine lv_tableIn (off := 1139) (tgt := 1172) hx hb dL_law_33 (by rw [d28]; decide) (by rw [d28]; decide) (by rw [d28]; rfl) (by decide) ?_
        exact lc_tell rfl S hE hA hX hbl hbA hL ad sh ca rr am t h6 _ _ (by omega) (by omega) kk H locs ls hl hV
      by_cases d29 : y = 29
      · refine lv_tableIn (off := 1162) (tgt := 1195) hx hb dL_law_33 (by rw [d29]; decide) (by rw [d29]; decide) (by rw [d29]; rfl) (by decide) ?_
        exact lc_greet rfl S hE hA hX hbl hbA hL ad sh ca rr am t h6 _ _ (by omega) (by omega) kk H locs ls hl hV
      by_cases d30 : y = 30
      · refine lv_tableIn (off := 1185) (tgt := 1218) hx hb dL_law_33 (by rw [d30]; decide) (by rw [d30]; decide) (by rw [d30]; rfl) (by decide) ?_
        exact lc_as rfl S hE hA hX hbl hbA hL ad sh ca rr am t h6 _ _ (by omega) (by omega) kk H locs ls hl hV
      by_cases d31 : y = 31
      · refine lv_tableIn (off := 1218) (tgt := 1251) hx hb dL_law_33 (by rw [d31]; decide) (by rw [d31]; decide) (by rw [d31]; rfl) (by decide) ?_
        exact lc_trace rfl S hE hA hX hbl hbA hL ad sh ca rr am t h6 _ _ (by omega) (by omega) kk H locs ls hl hV
      by_cases d32 : y = 32
      · refine lv_tableIn (off := 1231) (tgt := 1264) hx hb dL_law_33 (by rw [d32]; decide) (by rw [d32]; decide) (by rw [d32]; rfl) (by decide) ?_
        exact lc_fault rfl S hE hA hX hbl hbA hL ad sh ca rr am t h6 _ _ (by omega) (by omega) kk H locs ls hl hV
      by_cases d33 : y = 33
      · refine lv_tableIn (off := 1244) (tgt := 1277) hx hb dL_law_33 (by rw [d33]; decide) (by rw [d33]; decide) (by rw [d33]; rfl) (by decide) ?_
        exact lc_many rfl S hE hA hX hbl hbA hL ad sh ca rr am t h6 _ _ (by omega) (by omega) kk H locs ls hl hV
      have hne : ∀ k : Nat, k < 34 → ¬ y.toInt = (k : Int) := by
        intro k hk h
        have e : y = nI k := by rw [fa_eq, nI_toInt (by omega)]; exact h
        have hall : k = 0 ∨ k = 1 ∨ k = 2 ∨ k = 3 ∨ k = 4 ∨ k = 5 ∨ k = 6 ∨ k = 7 ∨ k = 8 ∨ k = 9 ∨ k = 10 ∨ k = 11 ∨ k = 12 ∨ k = 13 ∨ k = 14 ∨ k = 15 ∨ k = 16 ∨ k = 17 ∨ k = 18 ∨ k = 19 ∨ k = 20 ∨ k = 21 ∨ k = 22 ∨ k = 23 ∨ k = 24 ∨ k = 25 ∨ k = 26 ∨ k = 27 ∨ k = 28 ∨ k = 29 ∨ k = 30 ∨ k = 31 ∨ k = 32 ∨ k = 33 := by omega
        rcases hall with rfl | rfl | rfl | rfl | rfl | rfl | rfl | rfl | rfl | rfl | rfl | rfl | rfl | rfl | rfl | rfl | rfl | rfl | rfl | rfl | rfl | rfl | rfl | rfl | rfl | rfl | rfl | rfl | rfl | rfl | rfl | rfl | rfl | rfl
        · exact d0 e
        · exact d1 e
        · exact d2 e
        · exact d3 e
        · exact d4 e
        · exact d5 e
        · exact d6 e
        · exact d7 e
        · exact d8 e
        · exact d9 e
        · exact d10 e
        · exact d11 e
        · exact d12 e
        · exact d13 e
        · exact d14 e
        · exact d15 e
        · exact d16 e
        · exact d17 e
        · exact d18 e
        · exact d19 e
        · exact d20 e
        · exact d21 e
        · exact d22 e
        · exact d23 e
        · exact d24 e
        · exact d25 e
        · exact d26 e
        · exact d27 e
        · exact d28 e
        · exact d29 e
        · exact d30 e
        · exact d31 e
        · exact d32 e
        · exact d33 e
      refine lv_tableOut (tgt := 1300) hx hb dL_law_33 (by
        rcases Int.lt_or_le y.toInt 0 with q | q
        · exact Or.inl q
        · right
          rcases Int.lt_or_le 33 y.toInt with z | z
          · exact z
          · exact absurd (Int.toNat_of_nonneg q).symm (hne y.toInt.toNat (by omega))) (by decide) ?_
      refine W.widen (k := 67 + 6 * t + 6) (n := 3567 + 18 * t + 18) (by omega) (by omega) ?_
      exact kk H locs ls hl hV
