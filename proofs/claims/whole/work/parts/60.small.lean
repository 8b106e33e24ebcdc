/-! the reference: its small parts -/
/-- the reference's object -/
abbrev mdO (am : Nat → Nat) (fl : Int32) (n : Nat) (lw : Int32) (nn ra rsn nr : Nat) (tr : Int32) : va_E := .inr (10, [.int fl, .int (nI n), .ref (am 2), .ref (am 3), .ref (am 4), .ref (am 5), .ref (am 6), .int lw, .int (nI nn), .ref (am 9), .ref (am 10), .int (nI ra), .int (nI rsn), .ref (am 13), .ref (am 14), .ref (am 15), .ref (am 16), .ref (am 17), .ref (am 18), .ref (am 19), .ref (am 20), .ref (am 21), .int (nI nr), .ref (am 23), .ref (am 24), .ref (am 25), .ref (am 26), .ref (am 27), .ref (am 28), .ref (am 29), .int tr])
theorem aw_ifi {P Q : Prop} [Decidable P] [Decidable Q] (h : P ↔ Q) : (if P then (1 : Int32) else 0) = if Q then 1 else 0 := by
  by_cases p : P
  · rw [if_pos p, if_pos (h.mp p)]
  · rw [if_neg p, if_neg (fun q => p (h.mpr q))]
theorem l64 (x : Int32) : x.toInt64.toInt = x.toInt := Int32.toInt_toInt64 x
theorem l64_0 : (0 : Int64).toInt = 0 := rfl
theorem l64_1 : (1 : Int64).toInt = 1 := rfl
theorem l64_2 : (2 : Int64).toInt = 2 := rfl
theorem l64_3 : (3 : Int64).toInt = 3 := rfl
theorem l64_7 : (7 : Int64).toInt = 7 := rfl
theorem l64_11 : (11 : Int64).toInt = 11 := rfl
theorem l64_sub1 {x : Int32} : (x.toInt64 - 1).toInt = x.toInt - 1 := by
  have h1 := Int32.toInt_lt x
  have h2 := Int32.le_toInt x
  rw [Int64.toInt_sub, l64, l64_1, Int.bmod_eq_of_le (by omega) (by omega)]
theorem l64_add {x : Int32} {y : Int64} (h : -4294967296 ≤ y.toInt ∧ y.toInt ≤ 4294967296) : (x.toInt64 + y).toInt = x.toInt + y.toInt := by
  have h1 := Int32.toInt_lt x
  have h2 := Int32.le_toInt x
  rw [Int64.toInt_add, l64, Int.bmod_eq_of_le (by omega) (by omega)]
theorem pcN_half : ∀ x, x < 64 → pcN x = x % 2 + pcN (x / 2) := by decide +kernel
theorem nI_m2 {x : Nat} (h : x < 2 ^ 31) : nI x &&& 1 = nI (x % 2) := by
  rw [show (1 : Int32) = nI 1 from rfl, nI_and, Nat.and_one_is_mod]
set_option maxRecDepth 100000 in
set_option maxHeartbeats 4000000 in
theorem c_X11_in (l : Launch) (G : aw_G) (vv lo hi : Int64)  : CT l G yX11_in wsX11_in ({ frames := 0, cells := 0, slots := 0, locals := 0 }) [.long vv, .long lo, .long hi] [] (dt (some (.int (if Int64.toInt lo ≤ Int64.toInt vv ∧ Int64.toInt vv ≤ Int64.toInt hi then 1 else 0))) []) := by
  refine CT.of (cc := cX11_in) (nL := 6) (ret := (some .boolean)) (by decide) rfl (Nat.le_of_ble_eq_true rfl) ?_
  intro p e s m below meth c R args Q A hRm ha hQ hAe hA S hE hr hlk hnm H locs hH0 hL0 ls hl hw
  have S : CallFix p m c cX11_in 6 s args wsX11_in RX11 := S
  have hl : lv_has ls 6 [(0, .long vv), (2, .long lo), (4, .long hi)] := hl
  refine lv_lload_n S.1 S.2.1 dX11_in_0 rfl (lv_at hl 0 rfl) ?_
  refine lv_lload_n S.1 S.2.1 dX11_in_1 rfl (lv_at hl 1 rfl) ?_
  refine W.lcmp S.1 S.2.1 dX11_in_2 ?_
  refine aw_lcmp_lt (tgt := 17) S dX11_in_3 (by decide) (fun c3 => ?_) (fun c3 => ?_)
  · rw [fa_lt64] at c3
    refine lv_iconst (v := 0) S.1 S.2.1 dX11_in_17 (by decide) ?_
    refine aw_eqi (show (0 : Int32) = if Int64.toInt lo ≤ Int64.toInt vv ∧ Int64.toInt vv ≤ Int64.toInt hi then 1 else 0 from (by first | rw [if_pos (by omega)] | rw [if_neg (by omega)])) ?_
    exact aw_iret S hr hlk ha hQ hAe hw dX11_in_18 (aw_nb _) (Nat.le_of_ble_eq_true rfl) (Nat.le_of_ble_eq_true rfl) ⟨rfl, rfl⟩
  · rw [fa_lt64] at c3
    refine lv_lload_n S.1 S.2.1 dX11_in_6 rfl (lv_at hl 0 rfl) ?_
    refine lv_lload S.1 S.2.1 dX11_in_7 (lv_at hl 2 rfl) ?_
    refine W.lcmp S.1 S.2.1 dX11_in_9 ?_
    refine aw_lcmp_gt (tgt := 17) S dX11_in_10 (by decide) (fun c10 => ?_) (fun c10 => ?_)
    · rw [fa_lt64] at c10
      refine lv_iconst (v := 0) S.1 S.2.1 dX11_in_17 (by decide) ?_
      refine aw_eqi (show (0 : Int32) = if Int64.toInt lo ≤ Int64.toInt vv ∧ Int64.toInt vv ≤ Int64.toInt hi then 1 else 0 from (by first | rw [if_pos (by omega)] | rw [if_neg (by omega)])) ?_
      exact aw_iret S hr hlk ha hQ hAe hw dX11_in_18 (aw_nb _) (Nat.le_of_ble_eq_true rfl) (Nat.le_of_ble_eq_true rfl) ⟨rfl, rfl⟩
    · rw [fa_lt64] at c10
      refine lv_iconst (v := 1) S.1 S.2.1 dX11_in_13 (by decide) ?_
      refine lv_goto (tgt := 18) S.1 S.2.1 dX11_in_14 (by decide) ?_
      refine aw_eqi (show (1 : Int32) = if Int64.toInt lo ≤ Int64.toInt vv ∧ Int64.toInt vv ≤ Int64.toInt hi then 1 else 0 from (by first | rw [if_pos (by omega)] | rw [if_neg (by omega)])) ?_
      exact aw_iret S hr hlk ha hQ hAe hw dX11_in_18 (aw_nb _) (Nat.le_of_ble_eq_true rfl) (Nat.le_of_ble_eq_true rfl) ⟨rfl, rfl⟩
set_option maxRecDepth 100000 in
set_option maxHeartbeats 4000000 in
theorem c_X11_lost (l : Launch) (G : aw_G) (u_ : Unit)  : CT l G yX11_lost wsX11_lost ({ frames := 0, cells := 0, slots := 0, locals := 0 }) [] [] (dt (some (.long (-9223372036854775808))) []) := by
  refine CT.of (cc := cX11_lost) (nL := 0) (ret := (some .long)) (by decide) rfl (Nat.le_of_ble_eq_true rfl) ?_
  intro p e s m below meth c R args Q A hRm ha hQ hAe hA S hE hr hlk hnm H locs hH0 hL0 ls hl hw
  have S : CallFix p m c cX11_lost 0 s args wsX11_lost RX11 := S
  have hl : lv_has ls 0 [] := hl
  refine lv_ldc2 (v := (-9223372036854775808)) S.1 S.2.1 S.2.2.2.1 (S.2.2.2.2 (.constantLong RX11 80 (-9223372036854775808)) (by decide +kernel)) dX11_lost_0 ?_
  exact aw_lret S hr hlk ha hQ hAe hw dX11_lost_3 (Nat.le_of_ble_eq_true rfl) (Nat.le_of_ble_eq_true rfl) ⟨rfl, rfl⟩
set_option maxRecDepth 100000 in
set_option maxHeartbeats 4000000 in
theorem c_X11_isIn (l : Launch) (G : aw_G) (set : Int32) (k : Nat) (hk : k < 32) : CT l G yX11_isIn wsX11_isIn ({ frames := 0, cells := 0, slots := 0, locals := 0 }) [.int set, .int (nI k)] [] (dt (some (.int (if bt set k = true then 1 else 0))) []) := by
  refine CT.of (cc := cX11_isIn) (nL := 2) (ret := (some .boolean)) (by decide) rfl (Nat.le_of_ble_eq_true rfl) ?_
  intro p e s m below meth c R args Q A hRm ha hQ hAe hA S hE hr hlk hnm H locs hH0 hL0 ls hl hw
  have S : CallFix p m c cX11_isIn 2 s args wsX11_isIn RX11 := S
  have hl : lv_has ls 2 [(0, .int set), (1, .int (nI k))] := hl
  refine lv_iload_n S.1 S.2.1 dX11_isIn_0 rfl (lv_at hl 0 rfl) ?_
  refine lv_iload_n S.1 S.2.1 dX11_isIn_1 rfl (lv_at hl 1 rfl) ?_
  refine lv_ishr S.1 S.2.1 dX11_isIn_2 ?_
  refine lv_iconst (v := 1) S.1 S.2.1 dX11_isIn_3 (by decide) ?_
  refine lv_iand S.1 S.2.1 dX11_isIn_4 ?_
  refine lv_iconst (v := 1) S.1 S.2.1 dX11_isIn_5 (by decide) ?_
  refine lv_icmp_ne (tgt := 13) S.1 S.2.1 dX11_isIn_6 (by decide) (fun c6 => ?_) (fun c6 => ?_)
  · refine lv_iconst (v := 0) S.1 S.2.1 dX11_isIn_13 (by decide) ?_
    refine aw_eqi (show (0 : Int32) = if bt set k = true then 1 else 0 from (by simp [← b_isIn set hk, c6])) ?_
    exact aw_iret S hr hlk ha hQ hAe hw dX11_isIn_14 (aw_nb _) (Nat.le_of_ble_eq_true rfl) (Nat.le_of_ble_eq_true rfl) ⟨rfl, rfl⟩
  · refine lv_iconst (v := 1) S.1 S.2.1 dX11_isIn_9 (by decide) ?_
    refine lv_goto (tgt := 14) S.1 S.2.1 dX11_isIn_10 (by decide) ?_
    refine aw_eqi (show (1 : Int32) = if bt set k = true then 1 else 0 from (by simp [← b_isIn set hk, c6])) ?_
    exact aw_iret S hr hlk ha hQ hAe hw dX11_isIn_14 (aw_nb _) (Nat.le_of_ble_eq_true rfl) (Nat.le_of_ble_eq_true rfl) ⟨rfl, rfl⟩
set_option maxRecDepth 100000 in
set_option maxHeartbeats 4000000 in
theorem c_X11_bits (l : Launch) (G : aw_G) (S_ : Nat) (hS : S_ < 64) : CT l G yX11_bits wsX11_bits ({ frames := 0, cells := 0, slots := 0, locals := 0 }) [.int (nI S_)] [] (dt (some (.int (nI (pcN S_)))) []) := by
  refine CT.of (cc := cX11_bits) (nL := 3) (ret := (some .int)) (by decide) rfl (Nat.le_of_ble_eq_true rfl) ?_
  intro p e s m below meth c R args Q A hRm ha hQ hAe hA S hE hr hlk hnm H locs hH0 hL0 ls hl hw
  have S : CallFix p m c cX11_bits 3 s args wsX11_bits RX11 := S
  have hl : lv_has ls 3 [(0, .int (nI S_))] := hl
  refine lv_iconst (v := 0) S.1 S.2.1 dX11_bits_0 (by decide) ?_
  refine lv_istore_n (lv' := [(1, .int 0), (0, .int (nI S_))]) S.1 S.2.1 dX11_bits_1 rfl hl (by decide) rfl (fun ls hl => ?_)
  refine lv_iload_n S.1 S.2.1 dX11_bits_2 rfl (lv_at hl 1 rfl) ?_
  refine lv_istore_n (lv' := [(2, .int (nI S_)), (1, .int 0), (0, .int (nI S_))]) S.1 S.2.1 dX11_bits_3 rfl hl (by decide) rfl (fun ls hl => ?_)
  have loop4 : ∀ (fu : Nat) (x : Nat) (cc_ : Nat), (x ≤ S_) → (cc_ + pcN x = pcN S_) → x < fu → ∀ (ls : Array Slot) (H : Heap) (locs : List Loc), lv_has ls 3 [(0, .int (nI S_)), (1, .int (nI cc_)), (2, .int (nI x))] → bW G A s.heap [] H locs → W p l e R s m args below meth c H locs 0 0 Q (F0 m 4 ls []) := by
    intro fu
    induction fu with
    | zero => intro x cc_ _ _ hm; exact absurd hm (Nat.not_lt_zero _)
    | succ fu ih4 =>
      intro x cc_ hx hc hm ls H locs hl hw
      refine lv_iload_n S.1 S.2.1 dX11_bits_4 rfl (lv_at hl 2 rfl) ?_
      refine aw_ifN_le (x := x) (tgt := 21) S (by omega) dX11_bits_5 (by decide) (fun c5 => ?_) (fun c5 => ?_)
      · have hz0 : pcN x = 0 := by rw [c5]; rfl
        refine lv_iload_n S.1 S.2.1 dX11_bits_21 rfl (lv_at hl 1 rfl) ?_
        refine aw_eqi (show (nI cc_ : Int32) = nI (pcN S_) from (congrArg nI (by omega))) ?_
        exact aw_iret S hr hlk ha hQ hAe hw dX11_bits_22 rfl (Nat.le_of_ble_eq_true rfl) (Nat.le_of_ble_eq_true rfl) ⟨rfl, rfl⟩
      · refine lv_iload_n S.1 S.2.1 dX11_bits_8 rfl (lv_at hl 1 rfl) ?_
        refine lv_iload_n S.1 S.2.1 dX11_bits_9 rfl (lv_at hl 2 rfl) ?_
        refine lv_iconst (v := 1) S.1 S.2.1 dX11_bits_10 (by decide) ?_
        refine lv_iand S.1 S.2.1 dX11_bits_11 ?_
        refine aw_eqi (show ((nI x) &&& 1 : Int32) = nI (x % 2) from (nI_m2 (by omega))) ?_
        refine lv_iadd S.1 S.2.1 dX11_bits_12 ?_
        refine aw_eqi (show ((nI cc_) + (nI (x % 2)) : Int32) = nI (cc_ + (x % 2)) from (nI_add cc_ (x % 2))) ?_
        refine lv_istore_n (lv' := [(1, .int (nI (cc_ + (x % 2)))), (0, .int (nI S_)), (2, .int (nI x))]) S.1 S.2.1 dX11_bits_13 rfl hl (by decide) rfl (fun ls hl => ?_)
        refine lv_iload_n S.1 S.2.1 dX11_bits_14 rfl (lv_at hl 2 rfl) ?_
        refine lv_iconst (v := 1) S.1 S.2.1 dX11_bits_15 (by decide) ?_
        refine lv_ishr S.1 S.2.1 dX11_bits_16 ?_
        refine aw_eqi (show ((nI x) >>> (1 &&& 31) : Int32) = nI (x / 2) from (pk_shrN (by omega) (1 &&& 31) 1 (by decide))) ?_
        refine lv_istore_n (lv' := [(2, .int (nI (x / 2))), (1, .int (nI (cc_ + (x % 2)))), (0, .int (nI S_))]) S.1 S.2.1 dX11_bits_17 rfl hl (by decide) rfl (fun ls hl => ?_)
        refine lv_goto (tgt := 4) S.1 S.2.1 dX11_bits_18 (by decide) ?_
        exact ih4 (x / 2) (cc_ + x % 2) (by first | assumption | omega) (by have := pcN_half x (by omega); omega) (by omega) _ _ _ (lv_sub hl [2, 1, 0] rfl) hw
  exact loop4 _ S_ 0 (Nat.le_refl _) (Nat.zero_add _) (Nat.lt_succ_self _) _ _ _ (lv_sub hl [2, 1, 0] rfl) hw
set_option maxRecDepth 100000 in
set_option maxHeartbeats 4000000 in
theorem c_X11_told (l : Launch) (G : aw_G) (u d : Nat) (wt : Int32) (hu : u < 2 ^ 31) (hd : 0 < d ∧ d < 2 ^ 31) : CT l G yX11_told wsX11_told ({ frames := 0, cells := 0, slots := 0, locals := 0 }) [.long (lN u), .long (lN d), .int wt] [] (dt (some (.long (lN ((if wt = 0 then u else d) / Nat.gcd u d)))) []) := by
  refine CT.of (cc := cX11_told) (nL := 11) (ret := (some .long)) (by decide) rfl (Nat.le_of_ble_eq_true rfl) ?_
  intro p e s m below meth c R args Q A hRm ha hQ hAe hA S hE hr hlk hnm H locs hH0 hL0 ls hl hw
  have S : CallFix p m c cX11_told 11 s args wsX11_told RX11 := S
  have hl : lv_has ls 11 [(0, .long (lN u)), (2, .long (lN d)), (4, .int wt)] := hl
  refine lv_lload_n S.1 S.2.1 dX11_told_0 rfl (lv_at hl 0 rfl) ?_
  refine lv_lstore (lv' := [(5, .long (lN u)), (0, .long (lN u)), (2, .long (lN d)), (4, .int wt)]) S.1 S.2.1 dX11_told_1 hl (by decide) rfl (fun ls hl => ?_)
  refine lv_lload_n S.1 S.2.1 dX11_told_3 rfl (lv_at hl 2 rfl) ?_
  refine lv_lstore (lv' := [(7, .long (lN d)), (5, .long (lN u)), (0, .long (lN u)), (2, .long (lN d)), (4, .int wt)]) S.1 S.2.1 dX11_told_4 hl (by decide) rfl (fun ls hl => ?_)
  have loop6 : ∀ (fu : Nat) (x : Nat) (y : Nat), (x < 2 ^ 31 ∧ y < 2 ^ 31) → (Nat.gcd x y = Nat.gcd u d) → y < fu → ∀ (ls : Array Slot) (H : Heap) (locs : List Loc), lv_has ls 11 [(0, .long (lN u)), (2, .long (lN d)), (4, .int wt), (5, .long (lN x)), (7, .long (lN y))] → bW G A s.heap [] H locs → W p l e R s m args below meth c H locs 0 0 Q (F0 m 6 ls []) := by
    intro fu
    induction fu with
    | zero => intro x y _ _ hm; exact absurd hm (Nat.not_lt_zero _)
    | succ fu ih6 =>
      intro x y hxy hg hm ls H locs hl hw
      refine lv_lload S.1 S.2.1 dX11_told_6 (lv_at hl 4 rfl) ?_
      refine lv_lconst (v := 0) S.1 S.2.1 dX11_told_8 (by decide) ?_
      refine W.lcmp S.1 S.2.1 dX11_told_9 ?_
      refine aw_lcmp_eq (tgt := 31) S dX11_told_10 (by decide) (fun c10 => ?_) (fun c10 => ?_)
      · have hy0 : y = 0 := (lN_eq (by omega) (by decide)).mp c10
        rw [hy0, Nat.gcd_zero_right] at hg
        have hgp : 0 < x := by rw [hg]; exact Nat.gcd_pos_of_pos_right u hd.1
        refine lv_iload S.1 S.2.1 dX11_told_31 (lv_at hl 2 rfl) ?_
        refine lv_if_ne (tgt := 40) S.1 S.2.1 dX11_told_33 (by decide) (fun c33 => ?_) (fun c33 => ?_)
        · refine lv_lload_n S.1 S.2.1 dX11_told_40 rfl (lv_at hl 1 rfl) ?_
          refine lv_lload S.1 S.2.1 dX11_told_41 (lv_at hl 3 rfl) ?_
          refine lv_ldiv S.1 S.2.1 dX11_told_43 (fun q => Nat.ne_of_gt hgp ((lN_eq (by omega) (by decide)).mp q)) ?_
          refine aw_eql (show ((lN d) / (lN x) : Int64) = lN ((if wt = 0 then u else d) / Nat.gcd u d) from (by first | (rw [if_pos c33, pk_lDiv (by omega) hgp (by omega), hg]) | (rw [if_neg c33, pk_lDiv (by omega) hgp (by omega), hg]))) ?_
          exact aw_lret S hr hlk ha hQ hAe hw dX11_told_44 (Nat.le_of_ble_eq_true rfl) (Nat.le_of_ble_eq_true rfl) ⟨rfl, rfl⟩
        · refine lv_lload_n S.1 S.2.1 dX11_told_36 rfl (lv_at hl 0 rfl) ?_
          refine lv_goto (tgt := 41) S.1 S.2.1 dX11_told_37 (by decide) ?_
          refine lv_lload S.1 S.2.1 dX11_told_41 (lv_at hl 3 rfl) ?_
          refine lv_ldiv S.1 S.2.1 dX11_told_43 (fun q => Nat.ne_of_gt hgp ((lN_eq (by omega) (by decide)).mp q)) ?_
          refine aw_eql (show ((lN u) / (lN x) : Int64) = lN ((if wt = 0 then u else d) / Nat.gcd u d) from (by first | (rw [if_pos c33, pk_lDiv (by omega) hgp (by omega), hg]) | (rw [if_neg c33, pk_lDiv (by omega) hgp (by omega), hg]))) ?_
          exact aw_lret S hr hlk ha hQ hAe hw dX11_told_44 (Nat.le_of_ble_eq_true rfl) (Nat.le_of_ble_eq_true rfl) ⟨rfl, rfl⟩
      · have hy0 : y ≠ 0 := fun q => c10 (by rw [q]; rfl)
        refine lv_lload S.1 S.2.1 dX11_told_13 (lv_at hl 3 rfl) ?_
        refine lv_lload S.1 S.2.1 dX11_told_15 (lv_at hl 4 rfl) ?_
        refine lv_lrem S.1 S.2.1 dX11_told_17 (fun q => hy0 ((lN_eq (by omega) (by decide)).mp q)) ?_
        refine aw_eql (pk_lRem (a := x) (b := y) (by omega) (by omega) (by omega)) ?_
        refine lv_lstore (lv' := [(9, .long (lN (x % y))), (0, .long (lN u)), (2, .long (lN d)), (4, .int wt), (5, .long (lN x)), (7, .long (lN y))]) S.1 S.2.1 dX11_told_18 hl (by decide) rfl (fun ls hl => ?_)
        refine lv_lload S.1 S.2.1 dX11_told_20 (lv_at hl 5 rfl) ?_
        refine lv_lstore (lv' := [(5, .long (lN y)), (9, .long (lN (x % y))), (0, .long (lN u)), (2, .long (lN d)), (4, .int wt), (7, .long (lN y))]) S.1 S.2.1 dX11_told_22 hl (by decide) rfl (fun ls hl => ?_)
        refine lv_lload S.1 S.2.1 dX11_told_24 (lv_at hl 1 rfl) ?_
        refine lv_lstore (lv' := [(7, .long (lN (x % y))), (5, .long (lN y)), (9, .long (lN (x % y))), (0, .long (lN u)), (2, .long (lN d)), (4, .int wt)]) S.1 S.2.1 dX11_told_26 hl (by decide) rfl (fun ls hl => ?_)
        refine lv_goto (tgt := 6) S.1 S.2.1 dX11_told_28 (by decide) ?_
        exact ih6 y (x % y) (by have := Nat.mod_lt x (show 0 < y by omega); omega) (by rw [← hg, Nat.gcd_comm x y, Nat.gcd_rec y x, Nat.gcd_comm]) (by have := Nat.mod_lt x (show 0 < y by omega); omega) _ _ _ (lv_sub hl [3, 4, 5, 1, 0] rfl) hw
  exact loop6 _ u d (by omega) rfl (Nat.lt_succ_self _) _ _ _ (lv_sub hl [2, 3, 4, 1, 0] rfl) hw
set_option maxRecDepth 100000 in
set_option maxHeartbeats 4000000 in
theorem c_X11_refused (l : Launch) (G : aw_G) (am : Nat → Nat) (fl : Int32) (n : Nat) (lw : Int32) (nn ra rsn nr : Nat) (tr : Int32) (an : Int32)  : CT l G yX11_refused wsX11_refused ({ frames := 0, cells := 0, slots := 0, locals := 0 }) [.ref (am 31), .int an] [[(am 31, mdO am fl n lw nn ra rsn nr tr)]] (dt (some (.int an)) [[(am 31, mdO am 0 n lw nn ra rsn nr tr)]]) := by
  refine CT.of (cc := cX11_refused) (nL := 2) (ret := (some .int)) (by decide) rfl (Nat.le_of_ble_eq_true rfl) ?_
  intro p e s m below meth c R args Q A hRm ha hQ hAe hA S hE hr hlk hnm H locs hH0 hL0 ls hl hw
  have S : CallFix p m c cX11_refused 2 s args wsX11_refused RX11 := S
  have hl : lv_has ls 2 [(0, .ref (am 31)), (1, .int an)] := hl
  have hinX11 : ∀ w ∈ u_ws RX11 TX11 31, w ∈ wsX11_refused := by decide +kernel
  have hf82 := S.2.2.2.2 (.fieldLink RX11 82 "AwakeTurnsModel" "fault" "I") (by decide +kernel)
  refine lv_aload_n S.1 S.2.1 dX11_refused_0 rfl (lv_at hl 0 rfl) ?_
  refine lv_iconst (v := 0) S.1 S.2.1 dX11_refused_1 (by decide) ?_
  refine aw_putf S hE hw 0 (C := RX11) (T := TX11) (N := 31) rfl rfl hinX11 tyX11 tyX11_ok nmX11 0 (by decide) hf82 rfl rfl rfl (Nat.le_of_ble_eq_true rfl) dX11_refused_2 (fun H locs hw => ?_)
  have hw : bW G A s.heap [[(am 31, mdO am 0 n lw nn ra rsn nr tr)]] H locs := hw
  refine lv_iload_n S.1 S.2.1 dX11_refused_5 rfl (lv_at hl 1 rfl) ?_
  exact aw_iret S hr hlk ha hQ hAe hw dX11_refused_6 rfl (Nat.le_of_ble_eq_true rfl) (Nat.le_of_ble_eq_true rfl) ⟨rfl, rfl⟩
set_option maxRecDepth 100000 in
set_option maxHeartbeats 4000000 in
theorem c_X11_failed (l : Launch) (G : aw_G) (am : Nat → Nat) (fl : Int32) (n : Nat) (lw : Int32) (nn ra rsn nr : Nat) (tr : Int32) (fa : Int32)  : CT l G yX11_failed wsX11_failed ({ frames := 0, cells := 0, slots := 0, locals := 0 }) [.ref (am 31), .int fa] [[(am 31, mdO am fl n lw nn ra rsn nr tr)]] (dt (some (.int (-10 - fa))) [[(am 31, mdO am fa n lw nn ra rsn nr tr)]]) := by
  refine CT.of (cc := cX11_failed) (nL := 2) (ret := (some .int)) (by decide) rfl (Nat.le_of_ble_eq_true rfl) ?_
  intro p e s m below meth c R args Q A hRm ha hQ hAe hA S hE hr hlk hnm H locs hH0 hL0 ls hl hw
  have S : CallFix p m c cX11_failed 2 s args wsX11_failed RX11 := S
  have hl : lv_has ls 2 [(0, .ref (am 31)), (1, .int fa)] := hl
  have hinX11 : ∀ w ∈ u_ws RX11 TX11 31, w ∈ wsX11_failed := by decide +kernel
  have hf82 := S.2.2.2.2 (.fieldLink RX11 82 "AwakeTurnsModel" "fault" "I") (by decide +kernel)
  refine lv_aload_n S.1 S.2.1 dX11_failed_0 rfl (lv_at hl 0 rfl) ?_
  refine lv_iload_n S.1 S.2.1 dX11_failed_1 rfl (lv_at hl 1 rfl) ?_
  refine aw_putf S hE hw 0 (C := RX11) (T := TX11) (N := 31) rfl rfl hinX11 tyX11 tyX11_ok nmX11 0 (by decide) hf82 rfl rfl rfl (Nat.le_of_ble_eq_true rfl) dX11_failed_2 (fun H locs hw => ?_)
  have hw : bW G A s.heap [[(am 31, mdO am fa n lw nn ra rsn nr tr)]] H locs := hw
  refine lv_bipush (v := (-10)) S.1 S.2.1 dX11_failed_5 (by decide) ?_
  refine lv_iload_n S.1 S.2.1 dX11_failed_7 rfl (lv_at hl 1 rfl) ?_
  refine lv_isub S.1 S.2.1 dX11_failed_8 ?_
  refine aw_eqi (show ((-10) - fa : Int32) = -10 - fa from rfl) ?_
  exact aw_iret S hr hlk ha hQ hAe hw dX11_failed_9 rfl (Nat.le_of_ble_eq_true rfl) (Nat.le_of_ble_eq_true rfl) ⟨rfl, rfl⟩
set_option maxRecDepth 100000 in
set_option maxHeartbeats 4000000 in
theorem c_X11_failedLong (l : Launch) (G : aw_G) (am : Nat → Nat) (fl : Int32) (n : Nat) (lw : Int32) (nn ra rsn nr : Nat) (tr : Int32) (fa : Int32)  : CT l G yX11_failedLong wsX11_failedLong ({ frames := 1, cells := 0, slots := 0, locals := 19 }) [.ref (am 31), .int fa] [[(am 31, mdO am fl n lw nn ra rsn nr tr)]] (dt (some (.long (-9223372036854775808))) [[(am 31, mdO am fa n lw nn ra rsn nr tr)]]) := by
  refine CT.of (cc := cX11_failedLong) (nL := 2) (ret := (some .long)) (by decide) rfl (Nat.le_of_ble_eq_true rfl) ?_
  intro p e s m below meth c R args Q A hRm ha hQ hAe hA S hE hr hlk hnm H locs hH0 hL0 ls hl hw
  have S : CallFix p m c cX11_failedLong 2 s args wsX11_failedLong RX11 := S
  have hl : lv_has ls 2 [(0, .ref (am 31)), (1, .int fa)] := hl
  have hinX11 : ∀ w ∈ u_ws RX11 TX11 31, w ∈ wsX11_failedLong := by decide +kernel
  have hf82 := S.2.2.2.2 (.fieldLink RX11 82 "AwakeTurnsModel" "fault" "I") (by decide +kernel)
  refine lv_aload_n S.1 S.2.1 dX11_failedLong_0 rfl (lv_at hl 0 rfl) ?_
  refine lv_iload_n S.1 S.2.1 dX11_failedLong_1 rfl (lv_at hl 1 rfl) ?_
  refine aw_putf S hE hw 0 (C := RX11) (T := TX11) (N := 31) rfl rfl hinX11 tyX11 tyX11_ok nmX11 0 (by decide) hf82 rfl rfl rfl (Nat.le_of_ble_eq_true rfl) dX11_failedLong_2 (fun H locs hw => ?_)
  have hw : bW G A s.heap [[(am 31, mdO am fa n lw nn ra rsn nr tr)]] H locs := hw
  refine aw_callS S hE (c_X11_lost l G ()) gX11_failedLong_X11_lost (n := 0) rfl (by decide +kernel) rfl (by rw [hRm]; exact ⟨Nat.le_of_ble_eq_true rfl, Nat.le_of_ble_eq_true rfl⟩) (by rw [hRm]; exact ⟨Nat.le_of_ble_eq_true rfl, Nat.le_of_ble_eq_true rfl⟩) hw hA hl.1 [] rfl rfl rfl (Nat.le_of_ble_eq_true rfl) dX11_failedLong_5 ?_
  rintro v w1 H locs ⟨rfl, rfl⟩ hw
  have hw : bW G A s.heap [[(am 31, mdO am fa n lw nn ra rsn nr tr)]] H locs := hw
  refine W.eq (g2 := (F0 m 8 ls [.long (-9223372036854775808)])) rfl ?_
  exact aw_lret S hr hlk ha hQ hAe hw dX11_failedLong_8 (Nat.le_of_ble_eq_true rfl) (Nat.le_of_ble_eq_true rfl) ⟨rfl, rfl⟩
set_option maxRecDepth 100000 in
set_option maxHeartbeats 4000000 in
theorem c_X11_noSleeper (l : Launch) (G : aw_G) (am : Nat → Nat) (fl : Int32) (n : Nat) (lw : Int32) (nn ra rsn nr : Nat) (tr : Int32) (sv : Int32) (hn : n ≤ 6) : CT l G yX11_noSleeper wsX11_noSleeper ({ frames := 1, cells := 0, slots := 0, locals := 25 }) [.ref (am 31), .int sv] [[(am 31, mdO am fl n lw nn ra rsn nr tr)]] (dt (some (.int (if ¬ (0 ≤ sv.toInt ∧ sv.toInt < n) then 1 else 0))) [[(am 31, mdO am fl n lw nn ra rsn nr tr)]]) := by
  refine CT.of (cc := cX11_noSleeper) (nL := 2) (ret := (some .boolean)) (by decide) rfl (Nat.le_of_ble_eq_true rfl) ?_
  intro p e s m below meth c R args Q A hRm ha hQ hAe hA S hE hr hlk hnm H locs hH0 hL0 ls hl hw
  have S : CallFix p m c cX11_noSleeper 2 s args wsX11_noSleeper RX11 := S
  have hl : lv_has ls 2 [(0, .ref (am 31)), (1, .int sv)] := hl
  have hinX11 : ∀ w ∈ u_ws RX11 TX11 31, w ∈ wsX11_noSleeper := by decide +kernel
  have hf90 := S.2.2.2.2 (.fieldLink RX11 90 "AwakeTurnsModel" "sleepers" "I") (by decide +kernel)
  have e1 := nI_toInt (show n < 2 ^ 31 by omega)
  refine lv_iload_n S.1 S.2.1 dX11_noSleeper_0 rfl (lv_at hl 1 rfl) ?_
  refine lv_i2l S.1 S.2.1 dX11_noSleeper_1 rfl ?_
  refine lv_lconst (v := 0) S.1 S.2.1 dX11_noSleeper_2 (by decide) ?_
  refine lv_aload_n S.1 S.2.1 dX11_noSleeper_3 rfl (lv_at hl 0 rfl) ?_
  refine aw_get S hE hw 0 (C := RX11) (T := TX11) (N := 31) rfl rfl hinX11 1 (by decide) hf90 rfl dX11_noSleeper_4 ?_
  refine lv_i2l S.1 S.2.1 dX11_noSleeper_7 rfl ?_
  refine lv_lconst (v := 1) S.1 S.2.1 dX11_noSleeper_8 (by decide) ?_
  refine lv_lsub S.1 S.2.1 dX11_noSleeper_9 ?_
  refine aw_callS S hE (c_X11_in l G sv.toInt64 0 (((nI n).toInt64) - 1)) gX11_noSleeper_X11_in (n := 3) rfl (by decide +kernel) rfl (by rw [hRm]; exact ⟨Nat.le_of_ble_eq_true rfl, Nat.le_of_ble_eq_true rfl⟩) (by rw [hRm]; exact ⟨Nat.le_of_ble_eq_true rfl, Nat.le_of_ble_eq_true rfl⟩) hw hA hl.1 [] rfl rfl rfl (Nat.le_of_ble_eq_true rfl) dX11_noSleeper_10 ?_
  rintro v w1 H locs ⟨rfl, rfl⟩ hw
  have hw : bW G A s.heap [[(am 31, mdO am fl n lw nn ra rsn nr tr)]] H locs := hw
  refine W.eq (g2 := (F0 m 13 ls [.int (if Int64.toInt 0 ≤ Int64.toInt sv.toInt64 ∧ Int64.toInt sv.toInt64 ≤ Int64.toInt (((nI n).toInt64) - 1) then 1 else 0)])) rfl ?_
  refine aw_ifne (P := Int64.toInt 0 ≤ Int64.toInt sv.toInt64 ∧ Int64.toInt sv.toInt64 ≤ Int64.toInt (((nI n).toInt64) - 1)) (tgt := 20) S dX11_noSleeper_13 (by decide) (fun c13 => ?_) (fun c13 => ?_)
  · rw [l64, l64_0, l64_sub1, e1] at c13
    refine lv_iconst (v := 0) S.1 S.2.1 dX11_noSleeper_20 (by decide) ?_
    refine aw_eqi (show (0 : Int32) = if ¬ (0 ≤ sv.toInt ∧ sv.toInt < n) then 1 else 0 from (by first | rw [if_pos (by omega)] | rw [if_neg (by omega)])) ?_
    exact aw_iret S hr hlk ha hQ hAe hw dX11_noSleeper_21 (aw_nb _) (Nat.le_of_ble_eq_true rfl) (Nat.le_of_ble_eq_true rfl) ⟨rfl, rfl⟩
  · rw [l64, l64_0, l64_sub1, e1] at c13
    refine lv_iconst (v := 1) S.1 S.2.1 dX11_noSleeper_16 (by decide) ?_
    refine lv_goto (tgt := 21) S.1 S.2.1 dX11_noSleeper_17 (by decide) ?_
    refine aw_eqi (show (1 : Int32) = if ¬ (0 ≤ sv.toInt ∧ sv.toInt < n) then 1 else 0 from (by first | rw [if_pos (by omega)] | rw [if_neg (by omega)])) ?_
    exact aw_iret S hr hlk ha hQ hAe hw dX11_noSleeper_21 (aw_nb _) (Nat.le_of_ble_eq_true rfl) (Nat.le_of_ble_eq_true rfl) ⟨rfl, rfl⟩
set_option maxRecDepth 100000 in
set_option maxHeartbeats 4000000 in
theorem c_X11_isMonth (l : Launch) (G : aw_G) (mo : Int32)  : CT l G yX11_isMonth wsX11_isMonth ({ frames := 1, cells := 0, slots := 0, locals := 25 }) [.int mo] [] (dt (some (.int (if 0 ≤ mo.toInt ∧ mo.toInt < 12 then 1 else 0))) []) := by
  refine CT.of (cc := cX11_isMonth) (nL := 1) (ret := (some .boolean)) (by decide) rfl (Nat.le_of_ble_eq_true rfl) ?_
  intro p e s m below meth c R args Q A hRm ha hQ hAe hA S hE hr hlk hnm H locs hH0 hL0 ls hl hw
  have S : CallFix p m c cX11_isMonth 1 s args wsX11_isMonth RX11 := S
  have hl : lv_has ls 1 [(0, .int mo)] := hl
  refine lv_iload_n S.1 S.2.1 dX11_isMonth_0 rfl (lv_at hl 0 rfl) ?_
  refine lv_i2l S.1 S.2.1 dX11_isMonth_1 rfl ?_
  refine lv_lconst (v := 0) S.1 S.2.1 dX11_isMonth_2 (by decide) ?_
  refine lv_ldc2 (v := 11) S.1 S.2.1 S.2.2.2.1 (S.2.2.2.2 (.constantLong RX11 97 11) (by decide +kernel)) dX11_isMonth_3 ?_
  refine aw_callS S hE (c_X11_in l G mo.toInt64 0 11) gX11_isMonth_X11_in (n := 3) rfl (by decide +kernel) rfl (by rw [hRm]; exact ⟨Nat.le_of_ble_eq_true rfl, Nat.le_of_ble_eq_true rfl⟩) (by rw [hRm]; exact ⟨Nat.le_of_ble_eq_true rfl, Nat.le_of_ble_eq_true rfl⟩) hw hA hl.1 [] rfl rfl rfl (Nat.le_of_ble_eq_true rfl) dX11_isMonth_6 ?_
  rintro v w1 H locs ⟨rfl, rfl⟩ hw
  have hw : bW G A s.heap [] H locs := hw
  refine W.eq (g2 := (F0 m 9 ls [.int (if Int64.toInt 0 ≤ Int64.toInt mo.toInt64 ∧ Int64.toInt mo.toInt64 ≤ Int64.toInt 11 then 1 else 0)])) rfl ?_
  refine aw_eqi (show (if Int64.toInt 0 ≤ Int64.toInt mo.toInt64 ∧ Int64.toInt mo.toInt64 ≤ Int64.toInt 11 then 1 else 0 : Int32) = if 0 ≤ mo.toInt ∧ mo.toInt < 12 then 1 else 0 from (aw_ifi (by rw [l64, l64_0, l64_11]; omega))) ?_
  exact aw_iret S hr hlk ha hQ hAe hw dX11_isMonth_9 (aw_nb _) (Nat.le_of_ble_eq_true rfl) (Nat.le_of_ble_eq_true rfl) ⟨rfl, rfl⟩
set_option maxRecDepth 100000 in
set_option maxHeartbeats 4000000 in
theorem c_X11_noSheet (l : Launch) (G : aw_G) (kv : Int32)  : CT l G yX11_noSheet wsX11_noSheet ({ frames := 1, cells := 0, slots := 0, locals := 25 }) [.int kv] [] (dt (some (.int (if ¬ (0 ≤ kv.toInt ∧ kv.toInt < 4) then 1 else 0))) []) := by
  refine CT.of (cc := cX11_noSheet) (nL := 1) (ret := (some .boolean)) (by decide) rfl (Nat.le_of_ble_eq_true rfl) ?_
  intro p e s m below meth c R args Q A hRm ha hQ hAe hA S hE hr hlk hnm H locs hH0 hL0 ls hl hw
  have S : CallFix p m c cX11_noSheet 1 s args wsX11_noSheet RX11 := S
  have hl : lv_has ls 1 [(0, .int kv)] := hl
  refine lv_iload_n S.1 S.2.1 dX11_noSheet_0 rfl (lv_at hl 0 rfl) ?_
  refine lv_i2l S.1 S.2.1 dX11_noSheet_1 rfl ?_
  refine lv_lconst (v := 0) S.1 S.2.1 dX11_noSheet_2 (by decide) ?_
  refine lv_ldc2 (v := 3) S.1 S.2.1 S.2.2.2.1 (S.2.2.2.2 (.constantLong RX11 225 3) (by decide +kernel)) dX11_noSheet_3 ?_
  refine aw_callS S hE (c_X11_in l G kv.toInt64 0 3) gX11_noSheet_X11_in (n := 3) rfl (by decide +kernel) rfl (by rw [hRm]; exact ⟨Nat.le_of_ble_eq_true rfl, Nat.le_of_ble_eq_true rfl⟩) (by rw [hRm]; exact ⟨Nat.le_of_ble_eq_true rfl, Nat.le_of_ble_eq_true rfl⟩) hw hA hl.1 [] rfl rfl rfl (Nat.le_of_ble_eq_true rfl) dX11_noSheet_6 ?_
  rintro v w1 H locs ⟨rfl, rfl⟩ hw
  have hw : bW G A s.heap [] H locs := hw
  refine W.eq (g2 := (F0 m 9 ls [.int (if Int64.toInt 0 ≤ Int64.toInt kv.toInt64 ∧ Int64.toInt kv.toInt64 ≤ Int64.toInt 3 then 1 else 0)])) rfl ?_
  refine aw_ifne (P := Int64.toInt 0 ≤ Int64.toInt kv.toInt64 ∧ Int64.toInt kv.toInt64 ≤ Int64.toInt 3) (tgt := 16) S dX11_noSheet_9 (by decide) (fun c9 => ?_) (fun c9 => ?_)
  · rw [l64, l64_0, l64_3] at c9
    refine lv_iconst (v := 0) S.1 S.2.1 dX11_noSheet_16 (by decide) ?_
    refine aw_eqi (show (0 : Int32) = if ¬ (0 ≤ kv.toInt ∧ kv.toInt < 4) then 1 else 0 from (by first | rw [if_pos (by omega)] | rw [if_neg (by omega)])) ?_
    exact aw_iret S hr hlk ha hQ hAe hw dX11_noSheet_17 (aw_nb _) (Nat.le_of_ble_eq_true rfl) (Nat.le_of_ble_eq_true rfl) ⟨rfl, rfl⟩
  · rw [l64, l64_0, l64_3] at c9
    refine lv_iconst (v := 1) S.1 S.2.1 dX11_noSheet_12 (by decide) ?_
    refine lv_goto (tgt := 17) S.1 S.2.1 dX11_noSheet_13 (by decide) ?_
    refine aw_eqi (show (1 : Int32) = if ¬ (0 ≤ kv.toInt ∧ kv.toInt < 4) then 1 else 0 from (by first | rw [if_pos (by omega)] | rw [if_neg (by omega)])) ?_
    exact aw_iret S hr hlk ha hQ hAe hw dX11_noSheet_17 (aw_nb _) (Nat.le_of_ble_eq_true rfl) (Nat.le_of_ble_eq_true rfl) ⟨rfl, rfl⟩
set_option maxRecDepth 100000 in
set_option maxHeartbeats 4000000 in
theorem c_X11_all (l : Launch) (G : aw_G) (am : Nat → Nat) (fl : Int32) (n : Nat) (lw : Int32) (nn ra rsn nr : Nat) (tr : Int32) (hn : n ≤ 6) : CT l G yX11_all wsX11_all ({ frames := 0, cells := 0, slots := 0, locals := 0 }) [.ref (am 31)] [[(am 31, mdO am fl n lw nn ra rsn nr tr)]] (dt (some (.int (nI (2 ^ n - 1)))) [[(am 31, mdO am fl n lw nn ra rsn nr tr)]]) := by
  refine CT.of (cc := cX11_all) (nL := 1) (ret := (some .int)) (by decide) rfl (Nat.le_of_ble_eq_true rfl) ?_
  intro p e s m below meth c R args Q A hRm ha hQ hAe hA S hE hr hlk hnm H locs hH0 hL0 ls hl hw
  have S : CallFix p m c cX11_all 1 s args wsX11_all RX11 := S
  have hl : lv_has ls 1 [(0, .ref (am 31))] := hl
  have hinX11 : ∀ w ∈ u_ws RX11 TX11 31, w ∈ wsX11_all := by decide +kernel
  have hf90 := S.2.2.2.2 (.fieldLink RX11 90 "AwakeTurnsModel" "sleepers" "I") (by decide +kernel)
  refine lv_iconst (v := 1) S.1 S.2.1 dX11_all_0 (by decide) ?_
  refine lv_aload_n S.1 S.2.1 dX11_all_1 rfl (lv_at hl 0 rfl) ?_
  refine aw_get S hE hw 0 (C := RX11) (T := TX11) (N := 31) rfl rfl hinX11 1 (by decide) hf90 rfl dX11_all_2 ?_
  refine lv_ishl S.1 S.2.1 dX11_all_5 ?_
  refine aw_eqi (show (1 <<< ((nI n) &&& 31) : Int32) = nI (2 ^ n) from (nI_bit n (by omega))) ?_
  refine lv_iconst (v := 1) S.1 S.2.1 dX11_all_6 (by decide) ?_
  refine lv_isub S.1 S.2.1 dX11_all_7 ?_
  refine aw_eqi (show ((nI (2 ^ n)) - 1 : Int32) = nI ((2 ^ n) - 1) from (pk_sub (a := 2 ^ n) (b := 1) Nat.one_le_two_pow)) ?_
  refine aw_eqi (show (nI ((2 ^ n) - 1) : Int32) = nI (2 ^ n - 1) from (by simp [])) ?_
  exact aw_iret S hr hlk ha hQ hAe hw dX11_all_8 rfl (Nat.le_of_ble_eq_true rfl) (Nat.le_of_ble_eq_true rfl) ⟨rfl, rfl⟩
set_option maxRecDepth 100000 in
set_option maxHeartbeats 4000000 in
theorem c_X11_traced (l : Launch) (G : aw_G) (am : Nat → Nat) (fl : Int32) (n : Nat) (lw : Int32) (nn ra rsn nr : Nat) (tr : Int32) (nu : Int32)  : CT l G yX11_traced wsX11_traced ({ frames := 0, cells := 0, slots := 0, locals := 0 }) [.ref (am 31), .int nu] [[(am 31, mdO am fl n lw nn ra rsn nr tr)]] (dt none [[(am 31, mdO am fl n lw nn ra rsn nr (31 * tr + nu))]]) := by
  refine CT.of (cc := cX11_traced) (nL := 2) (ret := none) (by decide) rfl (Nat.le_of_ble_eq_true rfl) ?_
  intro p e s m below meth c R args Q A hRm ha hQ hAe hA S hE hr hlk hnm H locs hH0 hL0 ls hl hw
  have S : CallFix p m c cX11_traced 2 s args wsX11_traced RX11 := S
  have hl : lv_has ls 2 [(0, .ref (am 31)), (1, .int nu)] := hl
  have hinX11 : ∀ w ∈ u_ws RX11 TX11 31, w ∈ wsX11_traced := by decide +kernel
  have hf234 := S.2.2.2.2 (.fieldLink RX11 234 "AwakeTurnsModel" "traceNow" "I") (by decide +kernel)
  refine lv_aload_n S.1 S.2.1 dX11_traced_0 rfl (lv_at hl 0 rfl) ?_
  refine lv_bipush (v := 31) S.1 S.2.1 dX11_traced_1 (by decide) ?_
  refine lv_aload_n S.1 S.2.1 dX11_traced_3 rfl (lv_at hl 0 rfl) ?_
  refine aw_get S hE hw 0 (C := RX11) (T := TX11) (N := 31) rfl rfl hinX11 30 (by decide) hf234 rfl dX11_traced_4 ?_
  refine lv_imul S.1 S.2.1 dX11_traced_7 ?_
  refine lv_iload_n S.1 S.2.1 dX11_traced_8 rfl (lv_at hl 1 rfl) ?_
  refine lv_iadd S.1 S.2.1 dX11_traced_9 ?_
  refine aw_putf S hE hw 0 (C := RX11) (T := TX11) (N := 31) rfl rfl hinX11 tyX11 tyX11_ok nmX11 30 (by decide) hf234 rfl rfl rfl (Nat.le_of_ble_eq_true rfl) dX11_traced_10 (fun H locs hw => ?_)
  have hw : bW G A s.heap [[(am 31, mdO am fl n lw nn ra rsn nr ((31 * tr) + nu))]] H locs := hw
  exact aw_vret S hr hlk ha hQ hAe hw dX11_traced_13 (Nat.le_of_ble_eq_true rfl) (Nat.le_of_ble_eq_true rfl) ⟨rfl, rfl⟩
set_option maxRecDepth 100000 in
set_option maxHeartbeats 4000000 in
theorem c_X11_harmOnce (l : Launch) (G : aw_G) (am : Nat → Nat) (fl : Int32) (n : Nat) (lw : Int32) (nn ra rsn nr : Nat) (tr : Int32) (kd : Nat → Int32) (k : Nat) (hk : k < 6) : CT l G yX11_harmOnce wsX11_harmOnce ({ frames := 0, cells := 0, slots := 0, locals := 0 }) [.ref (am 31), .int (nI k)] [[(am 31, mdO am fl n lw nn ra rsn nr tr)], [(am 2, .inl (gI G, 6, .inl kd))]] (dt (some (.int (hoK (kd k)))) [[(am 31, mdO am fl n lw nn ra rsn nr tr)], [(am 2, .inl (gI G, 6, .inl kd))]]) := by
  refine CT.of (cc := cX11_harmOnce) (nL := 2) (ret := (some .int)) (by decide) rfl (Nat.le_of_ble_eq_true rfl) ?_
  intro p e s m below meth c R args Q A hRm ha hQ hAe hA S hE hr hlk hnm H locs hH0 hL0 ls hl hw
  have S : CallFix p m c cX11_harmOnce 2 s args wsX11_harmOnce RX11 := S
  have hl : lv_has ls 2 [(0, .ref (am 31)), (1, .int (nI k))] := hl
  have hinX11 : ∀ w ∈ u_ws RX11 TX11 31, w ∈ wsX11_harmOnce := by decide +kernel
  have hf7 := S.2.2.2.2 (.fieldLink RX11 7 "AwakeTurnsModel" "kindOf" "[I") (by decide +kernel)
  refine lv_aload_n S.1 S.2.1 dX11_harmOnce_0 rfl (lv_at hl 0 rfl) ?_
  refine aw_get S hE hw 0 (C := RX11) (T := TX11) (N := 31) rfl rfl hinX11 2 (by decide) hf7 rfl dX11_harmOnce_1 ?_
  refine lv_iload_n S.1 S.2.1 dX11_harmOnce_4 rfl (lv_at hl 1 rfl) ?_
  refine aw_iald S hE hw 1 (k := k) rfl (by omega) (by decide) dX11_harmOnce_5 ?_
  refine lv_if_ne (tgt := 13) S.1 S.2.1 dX11_harmOnce_6 (by decide) (fun c6 => ?_) (fun c6 => ?_)
  · refine lv_aload_n S.1 S.2.1 dX11_harmOnce_13 rfl (lv_at hl 0 rfl) ?_
    refine aw_get S hE hw 0 (C := RX11) (T := TX11) (N := 31) rfl rfl hinX11 2 (by decide) hf7 rfl dX11_harmOnce_14 ?_
    refine lv_iload_n S.1 S.2.1 dX11_harmOnce_17 rfl (lv_at hl 1 rfl) ?_
    refine aw_iald S hE hw 1 (k := k) rfl (by omega) (by decide) dX11_harmOnce_18 ?_
    refine lv_iconst (v := 1) S.1 S.2.1 dX11_harmOnce_19 (by decide) ?_
    refine lv_icmp_ne (tgt := 27) S.1 S.2.1 dX11_harmOnce_20 (by decide) (fun c20 => ?_) (fun c20 => ?_)
    · refine lv_iconst (v := 4) S.1 S.2.1 dX11_harmOnce_27 (by decide) ?_
      refine aw_eqi (show (4 : Int32) = hoK (kd k) from (by unfold hoK; simp [c6, c20])) ?_
      exact aw_iret S hr hlk ha hQ hAe hw dX11_harmOnce_28 rfl (Nat.le_of_ble_eq_true rfl) (Nat.le_of_ble_eq_true rfl) ⟨rfl, rfl⟩
    · refine lv_iconst (v := 2) S.1 S.2.1 dX11_harmOnce_23 (by decide) ?_
      refine lv_goto (tgt := 28) S.1 S.2.1 dX11_harmOnce_24 (by decide) ?_
      refine aw_eqi (show (2 : Int32) = hoK (kd k) from (by unfold hoK; simp [c6, c20])) ?_
      exact aw_iret S hr hlk ha hQ hAe hw dX11_harmOnce_28 rfl (Nat.le_of_ble_eq_true rfl) (Nat.le_of_ble_eq_true rfl) ⟨rfl, rfl⟩
  · refine lv_iconst (v := 1) S.1 S.2.1 dX11_harmOnce_9 (by decide) ?_
    refine lv_goto (tgt := 28) S.1 S.2.1 dX11_harmOnce_10 (by decide) ?_
    refine aw_eqi (show (1 : Int32) = hoK (kd k) from (by unfold hoK; simp [c6])) ?_
    exact aw_iret S hr hlk ha hQ hAe hw dX11_harmOnce_28 rfl (Nat.le_of_ble_eq_true rfl) (Nat.le_of_ble_eq_true rfl) ⟨rfl, rfl⟩
set_option maxRecDepth 100000 in
set_option maxHeartbeats 4000000 in
theorem c_X11_isBeyond (l : Launch) (G : aw_G) (iv : Int32) (nv : Int64) (al : Int32) (hnv : -4294967296 ≤ nv.toInt ∧ nv.toInt ≤ 4294967296) : CT l G yX11_isBeyond wsX11_isBeyond ({ frames := 0, cells := 0, slots := 0, locals := 0 }) [.int iv, .long nv, .int al] [] (dt (some (.int (if iv.toInt < 0 ∨ nv.toInt < 0 ∨ al.toInt < iv.toInt + nv.toInt then 1 else 0))) []) := by
  refine CT.of (cc := cX11_isBeyond) (nL := 4) (ret := (some .boolean)) (by decide) rfl (Nat.le_of_ble_eq_true rfl) ?_
  intro p e s m below meth c R args Q A hRm ha hQ hAe hA S hE hr hlk hnm H locs hH0 hL0 ls hl hw
  have S : CallFix p m c cX11_isBeyond 4 s args wsX11_isBeyond RX11 := S
  have hl : lv_has ls 4 [(0, .int iv), (1, .long nv), (3, .int al)] := hl
  refine lv_iload_n S.1 S.2.1 dX11_isBeyond_0 rfl (lv_at hl 0 rfl) ?_
  refine lv_if_lt (tgt := 20) S.1 S.2.1 dX11_isBeyond_1 (by decide) (fun c1 => ?_) (fun c1 => ?_)
  · rw [fa_lt, li_0] at c1
    refine lv_iconst (v := 1) S.1 S.2.1 dX11_isBeyond_20 (by decide) ?_
    refine lv_goto (tgt := 25) S.1 S.2.1 dX11_isBeyond_21 (by decide) ?_
    refine aw_eqi (show (1 : Int32) = if iv.toInt < 0 ∨ nv.toInt < 0 ∨ al.toInt < iv.toInt + nv.toInt then 1 else 0 from (by first | rw [if_pos (by omega)] | rw [if_neg (by omega)])) ?_
    exact aw_iret S hr hlk ha hQ hAe hw dX11_isBeyond_25 (aw_nb _) (Nat.le_of_ble_eq_true rfl) (Nat.le_of_ble_eq_true rfl) ⟨rfl, rfl⟩
  · rw [fa_lt, li_0] at c1
    refine lv_lload_n S.1 S.2.1 dX11_isBeyond_4 rfl (lv_at hl 1 rfl) ?_
    refine lv_lconst (v := 0) S.1 S.2.1 dX11_isBeyond_5 (by decide) ?_
    refine W.lcmp S.1 S.2.1 dX11_isBeyond_6 ?_
    refine aw_lcmp_lt (tgt := 20) S dX11_isBeyond_7 (by decide) (fun c7 => ?_) (fun c7 => ?_)
    · rw [fa_lt64, l64_0] at c7
      refine lv_iconst (v := 1) S.1 S.2.1 dX11_isBeyond_20 (by decide) ?_
      refine lv_goto (tgt := 25) S.1 S.2.1 dX11_isBeyond_21 (by decide) ?_
      refine aw_eqi (show (1 : Int32) = if iv.toInt < 0 ∨ nv.toInt < 0 ∨ al.toInt < iv.toInt + nv.toInt then 1 else 0 from (by first | rw [if_pos (by omega)] | rw [if_neg (by omega)])) ?_
      exact aw_iret S hr hlk ha hQ hAe hw dX11_isBeyond_25 (aw_nb _) (Nat.le_of_ble_eq_true rfl) (Nat.le_of_ble_eq_true rfl) ⟨rfl, rfl⟩
    · rw [fa_lt64, l64_0] at c7
      refine lv_iload_n S.1 S.2.1 dX11_isBeyond_10 rfl (lv_at hl 0 rfl) ?_
      refine lv_i2l S.1 S.2.1 dX11_isBeyond_11 rfl ?_
      refine lv_lload_n S.1 S.2.1 dX11_isBeyond_12 rfl (lv_at hl 1 rfl) ?_
      refine lv_ladd S.1 S.2.1 dX11_isBeyond_13 ?_
      refine lv_iload_n S.1 S.2.1 dX11_isBeyond_14 rfl (lv_at hl 2 rfl) ?_
      refine lv_i2l S.1 S.2.1 dX11_isBeyond_15 rfl ?_
      refine W.lcmp S.1 S.2.1 dX11_isBeyond_16 ?_
      refine aw_lcmp_le (tgt := 24) S dX11_isBeyond_17 (by decide) (fun c17 => ?_) (fun c17 => ?_)
      · rw [fa_lt64, l64, l64_add hnv] at c17
        refine lv_iconst (v := 0) S.1 S.2.1 dX11_isBeyond_24 (by decide) ?_
        refine aw_eqi (show (0 : Int32) = if iv.toInt < 0 ∨ nv.toInt < 0 ∨ al.toInt < iv.toInt + nv.toInt then 1 else 0 from (by first | rw [if_pos (by omega)] | rw [if_neg (by omega)])) ?_
        exact aw_iret S hr hlk ha hQ hAe hw dX11_isBeyond_25 (aw_nb _) (Nat.le_of_ble_eq_true rfl) (Nat.le_of_ble_eq_true rfl) ⟨rfl, rfl⟩
      · rw [fa_lt64, l64, l64_add hnv] at c17
        refine lv_iconst (v := 1) S.1 S.2.1 dX11_isBeyond_20 (by decide) ?_
        refine lv_goto (tgt := 25) S.1 S.2.1 dX11_isBeyond_21 (by decide) ?_
        refine aw_eqi (show (1 : Int32) = if iv.toInt < 0 ∨ nv.toInt < 0 ∨ al.toInt < iv.toInt + nv.toInt then 1 else 0 from (by first | rw [if_pos (by omega)] | rw [if_neg (by omega)])) ?_
        exact aw_iret S hr hlk ha hQ hAe hw dX11_isBeyond_25 (aw_nb _) (Nat.le_of_ble_eq_true rfl) (Nat.le_of_ble_eq_true rfl) ⟨rfl, rfl⟩
