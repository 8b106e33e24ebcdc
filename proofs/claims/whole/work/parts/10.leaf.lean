/-! leaves of the class -/
/-- what a sheet's fault is, if so many of its cells are taken as a row of a lane -/
def flF (ln asl : Int32) : Int32 := if ln = -1 then 1 else if ln = asl then 0 else 2
def frF (ln : Int32) (le : Nat) (asl i nn : Int32) : Int32 := if ln = -1 then 1 else if ¬ ln = asl then 2 else if nn.toInt < 0 then 4 else if 0 ≤ i.toInt ∧ i.toInt ≤ le ∧ nn.toInt ≤ le - i.toInt then 0 else 3
def fcF (ln : Int32) (le : Nat) (asl i : Int32) : Int32 := if ln = -1 then 1 else if ¬ ln = asl then 2 else if 0 ≤ i.toInt ∧ i.toInt < le then 0 else 3
theorem flF_t {ln asl : Int32} (h : flF ln asl = 0) : ¬ ln = -1 ∧ asl = ln := by
  unfold flF at h
  by_cases h1 : ln = -1
  · rw [if_pos h1] at h; exact absurd h (by decide)
  · by_cases h2 : ln = asl
    · exact ⟨h1, h2.symm⟩
    · rw [if_neg h1, if_neg h2] at h; exact absurd h (by decide)
theorem flF_c {ln asl : Int32} (h : ¬ flF ln asl = 0) : (ln = -1 ∧ flF ln asl = 1) ∨ (¬ ln = -1 ∧ ¬ ln = asl ∧ flF ln asl = 2) := by
  unfold flF at h ⊢
  by_cases h1 : ln = -1
  · exact Or.inl ⟨h1, if_pos h1⟩
  · by_cases h2 : ln = asl
    · rw [if_neg h1, if_pos h2] at h; exact absurd rfl h
    · exact Or.inr ⟨h1, h2, by rw [if_neg h1, if_neg h2]⟩
theorem frF_f {ln asl i nn : Int32} {le : Nat} (h : ¬ flF ln asl = 0) : flF ln asl = frF ln le asl i nn := by
  rcases flF_c h with ⟨h1, h2⟩ | ⟨h1, h2, h3⟩
  · rw [h2, frF, if_pos h1]
  · rw [h3, frF, if_neg h1, if_pos h2]
theorem fcF_f {ln asl i : Int32} {le : Nat} (h : ¬ flF ln asl = 0) : flF ln asl = fcF ln le asl i := by
  rcases flF_c h with ⟨h1, h2⟩ | ⟨h1, h2, h3⟩
  · rw [h2, fcF, if_pos h1]
  · rw [h3, fcF, if_neg h1, if_pos h2]
def cutF (ln v : Int32) : Int32 := if ln = 0 then v.toInt8.toInt32 else if ln = 1 then v.toInt16.toInt32 else v
set_option maxRecDepth 100000 in
set_option maxHeartbeats 4000000 in
theorem c_X10_isIn (l : Launch) (G : aw_G) (set : Int32) (k : Nat) (hk : k < 32) : CT l G yX10_isIn wsX10_isIn ({ frames := 0, cells := 0, slots := 0, locals := 0 }) [.int set, .int (nI k)] [] (dt (some (.int (if bt set k = true then 1 else 0))) []) := by
  refine CT.of (cc := cX10_isIn) (nL := 2) (ret := (some .boolean)) (by decide) rfl (Nat.le_of_ble_eq_true rfl) ?_
  intro p e s m below meth c R args Q A hRm ha hQ hAe hA S hE hr hlk hnm H locs hH0 hL0 ls hl hw
  have S : CallFix p m c cX10_isIn 2 s args wsX10_isIn RX10 := S
  have hl : lv_has ls 2 [(0, .int set), (1, .int (nI k))] := hl
  refine lv_iload_n S.1 S.2.1 dX10_isIn_0 rfl (lv_at hl 0 rfl) ?_
  refine lv_iload_n S.1 S.2.1 dX10_isIn_1 rfl (lv_at hl 1 rfl) ?_
  refine lv_ishr S.1 S.2.1 dX10_isIn_2 ?_
  refine lv_iconst (v := 1) S.1 S.2.1 dX10_isIn_3 (by decide) ?_
  refine lv_iand S.1 S.2.1 dX10_isIn_4 ?_
  refine lv_iconst (v := 1) S.1 S.2.1 dX10_isIn_5 (by decide) ?_
  refine lv_icmp_ne (tgt := 13) S.1 S.2.1 dX10_isIn_6 (by decide) (fun c6 => ?_) (fun c6 => ?_)
  · refine lv_iconst (v := 0) S.1 S.2.1 dX10_isIn_13 (by decide) ?_
    refine aw_eqi (show (0 : Int32) = if bt set k = true then 1 else 0 from (by simp [← b_isIn set hk, c6])) ?_
    exact aw_iret S hr hlk ha hQ hAe hw dX10_isIn_14 (aw_nb _) (Nat.le_of_ble_eq_true rfl) (Nat.le_of_ble_eq_true rfl) ⟨rfl, rfl⟩
  · refine lv_iconst (v := 1) S.1 S.2.1 dX10_isIn_9 (by decide) ?_
    refine lv_goto (tgt := 14) S.1 S.2.1 dX10_isIn_10 (by decide) ?_
    refine aw_eqi (show (1 : Int32) = if bt set k = true then 1 else 0 from (by simp [← b_isIn set hk, c6])) ?_
    exact aw_iret S hr hlk ha hQ hAe hw dX10_isIn_14 (aw_nb _) (Nat.le_of_ble_eq_true rfl) (Nat.le_of_ble_eq_true rfl) ⟨rfl, rfl⟩
set_option maxRecDepth 100000 in
set_option maxHeartbeats 4000000 in
theorem c_X2_leave (l : Launch) (G : aw_G) (ad : Nat → Nat) (tr nu : Int32)  : CT l G yX2_leave wsX2_leave ({ frames := 0, cells := 0, slots := 0, locals := 0 }) [.ref (ad 6), .int nu] [[(ad 6, .inr (2, [.int tr]))]] (dt none [[(ad 6, .inr (2, [.int (31 * tr + nu)]))]]) := by
  refine CT.of (cc := cX2_leave) (nL := 2) (ret := none) (by decide) rfl (Nat.le_of_ble_eq_true rfl) ?_
  intro p e s m below meth c R args Q A hRm ha hQ hAe hA S hE hr hlk hnm H locs hH0 hL0 ls hl hw
  have S : CallFix p m c cX2_leave 2 s args wsX2_leave RX2 := S
  have hl : lv_has ls 2 [(0, .ref (ad 6)), (1, .int nu)] := hl
  have hinX2 : ∀ w ∈ u_ws RX2 TX2 1, w ∈ wsX2_leave := by decide +kernel
  have hf7 := S.2.2.2.2 (.fieldLink RX2 7 "AwakeTurns$Marks" "value" "I") (by decide +kernel)
  refine lv_aload_n S.1 S.2.1 dX2_leave_0 rfl (lv_at hl 0 rfl) ?_
  refine lv_bipush (v := 31) S.1 S.2.1 dX2_leave_1 (by decide) ?_
  refine lv_aload_n S.1 S.2.1 dX2_leave_3 rfl (lv_at hl 0 rfl) ?_
  refine aw_get S hE hw 0 (C := RX2) (T := TX2) (N := 1) rfl rfl hinX2 0 (by decide) hf7 rfl dX2_leave_4 ?_
  refine lv_imul S.1 S.2.1 dX2_leave_7 ?_
  refine lv_iload_n S.1 S.2.1 dX2_leave_8 rfl (lv_at hl 1 rfl) ?_
  refine lv_iadd S.1 S.2.1 dX2_leave_9 ?_
  refine aw_putf S hE hw 0 (C := RX2) (T := TX2) (N := 1) rfl rfl hinX2 tyX2 tyX2_ok nmX2 0 (by decide) hf7 rfl rfl rfl (Nat.le_of_ble_eq_true rfl) dX2_leave_10 (fun H locs hw => ?_)
  have hw : bW G A s.heap [[(ad 6, .inr (2, [.int ((31 * tr) + nu)]))]] H locs := hw
  exact aw_vret S hr hlk ha hQ hAe hw dX2_leave_13 (Nat.le_of_ble_eq_true rfl) (Nat.le_of_ble_eq_true rfl) ⟨rfl, rfl⟩
set_option maxRecDepth 100000 in
set_option maxHeartbeats 4000000 in
theorem c_X10_isMonth (l : Launch) (G : aw_G) (mo : Int32)  : CT l G yX10_isMonth wsX10_isMonth ({ frames := 0, cells := 0, slots := 0, locals := 0 }) [.int mo] [] (dt (some (.int (if 0 ≤ mo.toInt ∧ mo.toInt < 12 then 1 else 0))) []) := by
  refine CT.of (cc := cX10_isMonth) (nL := 1) (ret := (some .boolean)) (by decide) rfl (Nat.le_of_ble_eq_true rfl) ?_
  intro p e s m below meth c R args Q A hRm ha hQ hAe hA S hE hr hlk hnm H locs hH0 hL0 ls hl hw
  have S : CallFix p m c cX10_isMonth 1 s args wsX10_isMonth RX10 := S
  have hl : lv_has ls 1 [(0, .int mo)] := hl
  refine lv_iload_n S.1 S.2.1 dX10_isMonth_0 rfl (lv_at hl 0 rfl) ?_
  refine lv_if_lt (tgt := 14) S.1 S.2.1 dX10_isMonth_1 (by decide) (fun c1 => ?_) (fun c1 => ?_)
  · refine lv_iconst (v := 0) S.1 S.2.1 dX10_isMonth_14 (by decide) ?_
    refine aw_eqi (show (0 : Int32) = if 0 ≤ mo.toInt ∧ mo.toInt < 12 then 1 else 0 from (by (try simp only [fa_lt, fa_le, fa_eq, li_m1, li_m2, li_m3, li_m4, li_m9, li_0, li_1, li_2, li_3, li_4, li_6, li_7, li_8, li_12, li_60, li_64] at c1); first | rw [if_pos (by omega)] | rw [if_neg (by omega)])) ?_
    exact aw_iret S hr hlk ha hQ hAe hw dX10_isMonth_15 (aw_nb _) (Nat.le_of_ble_eq_true rfl) (Nat.le_of_ble_eq_true rfl) ⟨rfl, rfl⟩
  · refine lv_iload_n S.1 S.2.1 dX10_isMonth_4 rfl (lv_at hl 0 rfl) ?_
    refine lv_bipush (v := 12) S.1 S.2.1 dX10_isMonth_5 (by decide) ?_
    refine lv_icmp_ge (tgt := 14) S.1 S.2.1 dX10_isMonth_7 (by decide) (fun c7 => ?_) (fun c7 => ?_)
    · refine lv_iconst (v := 0) S.1 S.2.1 dX10_isMonth_14 (by decide) ?_
      refine aw_eqi (show (0 : Int32) = if 0 ≤ mo.toInt ∧ mo.toInt < 12 then 1 else 0 from (by (try simp only [fa_lt, fa_le, fa_eq, li_m1, li_m2, li_m3, li_m4, li_m9, li_0, li_1, li_2, li_3, li_4, li_6, li_7, li_8, li_12, li_60, li_64] at c1); (try simp only [fa_lt, fa_le, fa_eq, li_m1, li_m2, li_m3, li_m4, li_m9, li_0, li_1, li_2, li_3, li_4, li_6, li_7, li_8, li_12, li_60, li_64] at c7); first | rw [if_pos (by omega)] | rw [if_neg (by omega)])) ?_
      exact aw_iret S hr hlk ha hQ hAe hw dX10_isMonth_15 (aw_nb _) (Nat.le_of_ble_eq_true rfl) (Nat.le_of_ble_eq_true rfl) ⟨rfl, rfl⟩
    · refine lv_iconst (v := 1) S.1 S.2.1 dX10_isMonth_10 (by decide) ?_
      refine lv_goto (tgt := 15) S.1 S.2.1 dX10_isMonth_11 (by decide) ?_
      refine aw_eqi (show (1 : Int32) = if 0 ≤ mo.toInt ∧ mo.toInt < 12 then 1 else 0 from (by (try simp only [fa_lt, fa_le, fa_eq, li_m1, li_m2, li_m3, li_m4, li_m9, li_0, li_1, li_2, li_3, li_4, li_6, li_7, li_8, li_12, li_60, li_64] at c1); (try simp only [fa_lt, fa_le, fa_eq, li_m1, li_m2, li_m3, li_m4, li_m9, li_0, li_1, li_2, li_3, li_4, li_6, li_7, li_8, li_12, li_60, li_64] at c7); first | rw [if_pos (by omega)] | rw [if_neg (by omega)])) ?_
      exact aw_iret S hr hlk ha hQ hAe hw dX10_isMonth_15 (aw_nb _) (Nat.le_of_ble_eq_true rfl) (Nat.le_of_ble_eq_true rfl) ⟨rfl, rfl⟩
set_option maxRecDepth 100000 in
set_option maxHeartbeats 4000000 in
theorem c_X10_isLane (l : Launch) (G : aw_G) (la : Int32)  : CT l G yX10_isLane wsX10_isLane ({ frames := 0, cells := 0, slots := 0, locals := 0 }) [.int la] [] (dt (some (.int (if 0 ≤ la.toInt ∧ la.toInt < 3 then 1 else 0))) []) := by
  refine CT.of (cc := cX10_isLane) (nL := 1) (ret := (some .boolean)) (by decide) rfl (Nat.le_of_ble_eq_true rfl) ?_
  intro p e s m below meth c R args Q A hRm ha hQ hAe hA S hE hr hlk hnm H locs hH0 hL0 ls hl hw
  have S : CallFix p m c cX10_isLane 1 s args wsX10_isLane RX10 := S
  have hl : lv_has ls 1 [(0, .int la)] := hl
  refine lv_iload_n S.1 S.2.1 dX10_isLane_0 rfl (lv_at hl 0 rfl) ?_
  refine lv_if_lt (tgt := 13) S.1 S.2.1 dX10_isLane_1 (by decide) (fun c1 => ?_) (fun c1 => ?_)
  · refine lv_iconst (v := 0) S.1 S.2.1 dX10_isLane_13 (by decide) ?_
    refine aw_eqi (show (0 : Int32) = if 0 ≤ la.toInt ∧ la.toInt < 3 then 1 else 0 from (by (try simp only [fa_lt, fa_le, fa_eq, li_m1, li_m2, li_m3, li_m4, li_m9, li_0, li_1, li_2, li_3, li_4, li_6, li_7, li_8, li_12, li_60, li_64] at c1); first | rw [if_pos (by omega)] | rw [if_neg (by omega)])) ?_
    exact aw_iret S hr hlk ha hQ hAe hw dX10_isLane_14 (aw_nb _) (Nat.le_of_ble_eq_true rfl) (Nat.le_of_ble_eq_true rfl) ⟨rfl, rfl⟩
  · refine lv_iload_n S.1 S.2.1 dX10_isLane_4 rfl (lv_at hl 0 rfl) ?_
    refine lv_iconst (v := 3) S.1 S.2.1 dX10_isLane_5 (by decide) ?_
    refine lv_icmp_ge (tgt := 13) S.1 S.2.1 dX10_isLane_6 (by decide) (fun c6 => ?_) (fun c6 => ?_)
    · refine lv_iconst (v := 0) S.1 S.2.1 dX10_isLane_13 (by decide) ?_
      refine aw_eqi (show (0 : Int32) = if 0 ≤ la.toInt ∧ la.toInt < 3 then 1 else 0 from (by (try simp only [fa_lt, fa_le, fa_eq, li_m1, li_m2, li_m3, li_m4, li_m9, li_0, li_1, li_2, li_3, li_4, li_6, li_7, li_8, li_12, li_60, li_64] at c1); (try simp only [fa_lt, fa_le, fa_eq, li_m1, li_m2, li_m3, li_m4, li_m9, li_0, li_1, li_2, li_3, li_4, li_6, li_7, li_8, li_12, li_60, li_64] at c6); first | rw [if_pos (by omega)] | rw [if_neg (by omega)])) ?_
      exact aw_iret S hr hlk ha hQ hAe hw dX10_isLane_14 (aw_nb _) (Nat.le_of_ble_eq_true rfl) (Nat.le_of_ble_eq_true rfl) ⟨rfl, rfl⟩
    · refine lv_iconst (v := 1) S.1 S.2.1 dX10_isLane_9 (by decide) ?_
      refine lv_goto (tgt := 14) S.1 S.2.1 dX10_isLane_10 (by decide) ?_
      refine aw_eqi (show (1 : Int32) = if 0 ≤ la.toInt ∧ la.toInt < 3 then 1 else 0 from (by (try simp only [fa_lt, fa_le, fa_eq, li_m1, li_m2, li_m3, li_m4, li_m9, li_0, li_1, li_2, li_3, li_4, li_6, li_7, li_8, li_12, li_60, li_64] at c1); (try simp only [fa_lt, fa_le, fa_eq, li_m1, li_m2, li_m3, li_m4, li_m9, li_0, li_1, li_2, li_3, li_4, li_6, li_7, li_8, li_12, li_60, li_64] at c6); first | rw [if_pos (by omega)] | rw [if_neg (by omega)])) ?_
      exact aw_iret S hr hlk ha hQ hAe hw dX10_isLane_14 (aw_nb _) (Nat.le_of_ble_eq_true rfl) (Nat.le_of_ble_eq_true rfl) ⟨rfl, rfl⟩
set_option maxRecDepth 100000 in
set_option maxHeartbeats 4000000 in
theorem c_X0_has (l : Launch) (G : aw_G) (ad : Nat → Nat) (n : Nat) (lw sv : Int32) (hn : n ≤ 6) : CT l G yX0_has wsX0_has ({ frames := 0, cells := 0, slots := 0, locals := 0 }) [.ref (ad 2), .int sv] [[(ad 2, .inr (0, [.ref (ad 8), .ref (ad 9), .ref (ad 10), .ref (ad 11), .ref (ad 12), .int (nI n), .int lw]))]] (dt (some (.int (if 0 ≤ sv.toInt ∧ sv.toInt < n then 1 else 0))) [[(ad 2, .inr (0, [.ref (ad 8), .ref (ad 9), .ref (ad 10), .ref (ad 11), .ref (ad 12), .int (nI n), .int lw]))]]) := by
  refine CT.of (cc := cX0_has) (nL := 2) (ret := (some .boolean)) (by decide) rfl (Nat.le_of_ble_eq_true rfl) ?_
  intro p e s m below meth c R args Q A hRm ha hQ hAe hA S hE hr hlk hnm H locs hH0 hL0 ls hl hw
  have S : CallFix p m c cX0_has 2 s args wsX0_has RX0 := S
  have hl : lv_has ls 2 [(0, .ref (ad 2)), (1, .int sv)] := hl
  have hinX0 : ∀ w ∈ u_ws RX0 TX0 7, w ∈ wsX0_has := by decide +kernel
  have hf30 := S.2.2.2.2 (.fieldLink RX0 30 "AwakeTurns$Crew" "count" "I") (by decide +kernel)
  refine lv_iload_n S.1 S.2.1 dX0_has_0 rfl (lv_at hl 1 rfl) ?_
  refine lv_if_lt (tgt := 16) S.1 S.2.1 dX0_has_1 (by decide) (fun c1 => ?_) (fun c1 => ?_)
  · refine lv_iconst (v := 0) S.1 S.2.1 dX0_has_16 (by decide) ?_
    refine aw_eqi (show (0 : Int32) = if 0 ≤ sv.toInt ∧ sv.toInt < n then 1 else 0 from (by (try simp only [fa_lt, fa_le, fa_eq, li_m1, li_m2, li_m3, li_m4, li_m9, li_0, li_1, li_2, li_3, li_4, li_6, li_7, li_8, li_12, li_60, li_64, nI_toInt (show n < 2 ^ 31 by omega)] at c1); first | rw [if_pos (by omega)] | rw [if_neg (by omega)])) ?_
    exact aw_iret S hr hlk ha hQ hAe hw dX0_has_17 (aw_nb _) (Nat.le_of_ble_eq_true rfl) (Nat.le_of_ble_eq_true rfl) ⟨rfl, rfl⟩
  · refine lv_iload_n S.1 S.2.1 dX0_has_4 rfl (lv_at hl 1 rfl) ?_
    refine lv_aload_n S.1 S.2.1 dX0_has_5 rfl (lv_at hl 0 rfl) ?_
    refine aw_get S hE hw 0 (C := RX0) (T := TX0) (N := 7) rfl rfl hinX0 5 (by decide) hf30 rfl dX0_has_6 ?_
    refine lv_icmp_ge (tgt := 16) S.1 S.2.1 dX0_has_9 (by decide) (fun c9 => ?_) (fun c9 => ?_)
    · refine lv_iconst (v := 0) S.1 S.2.1 dX0_has_16 (by decide) ?_
      refine aw_eqi (show (0 : Int32) = if 0 ≤ sv.toInt ∧ sv.toInt < n then 1 else 0 from (by (try simp only [fa_lt, fa_le, fa_eq, li_m1, li_m2, li_m3, li_m4, li_m9, li_0, li_1, li_2, li_3, li_4, li_6, li_7, li_8, li_12, li_60, li_64, nI_toInt (show n < 2 ^ 31 by omega)] at c1); (try simp only [fa_lt, fa_le, fa_eq, li_m1, li_m2, li_m3, li_m4, li_m9, li_0, li_1, li_2, li_3, li_4, li_6, li_7, li_8, li_12, li_60, li_64, nI_toInt (show n < 2 ^ 31 by omega)] at c9); first | rw [if_pos (by omega)] | rw [if_neg (by omega)])) ?_
      exact aw_iret S hr hlk ha hQ hAe hw dX0_has_17 (aw_nb _) (Nat.le_of_ble_eq_true rfl) (Nat.le_of_ble_eq_true rfl) ⟨rfl, rfl⟩
    · refine lv_iconst (v := 1) S.1 S.2.1 dX0_has_12 (by decide) ?_
      refine lv_goto (tgt := 17) S.1 S.2.1 dX0_has_13 (by decide) ?_
      refine aw_eqi (show (1 : Int32) = if 0 ≤ sv.toInt ∧ sv.toInt < n then 1 else 0 from (by (try simp only [fa_lt, fa_le, fa_eq, li_m1, li_m2, li_m3, li_m4, li_m9, li_0, li_1, li_2, li_3, li_4, li_6, li_7, li_8, li_12, li_60, li_64, nI_toInt (show n < 2 ^ 31 by omega)] at c1); (try simp only [fa_lt, fa_le, fa_eq, li_m1, li_m2, li_m3, li_m4, li_m9, li_0, li_1, li_2, li_3, li_4, li_6, li_7, li_8, li_12, li_60, li_64, nI_toInt (show n < 2 ^ 31 by omega)] at c9); first | rw [if_pos (by omega)] | rw [if_neg (by omega)])) ?_
      exact aw_iret S hr hlk ha hQ hAe hw dX0_has_17 (aw_nb _) (Nat.le_of_ble_eq_true rfl) (Nat.le_of_ble_eq_true rfl) ⟨rfl, rfl⟩
set_option maxRecDepth 100000 in
set_option maxHeartbeats 4000000 in
theorem c_X0_setCount (l : Launch) (G : aw_G) (ad : Nat → Nat) (n : Nat) (lw : Int32) (hn : n ≤ 6) : CT l G yX0_setCount wsX0_setCount ({ frames := 0, cells := 0, slots := 0, locals := 0 }) [.ref (ad 2)] [[(ad 2, .inr (0, [.ref (ad 8), .ref (ad 9), .ref (ad 10), .ref (ad 11), .ref (ad 12), .int (nI n), .int lw]))]] (dt (some (.int (nI (2 ^ n)))) [[(ad 2, .inr (0, [.ref (ad 8), .ref (ad 9), .ref (ad 10), .ref (ad 11), .ref (ad 12), .int (nI n), .int lw]))]]) := by
  refine CT.of (cc := cX0_setCount) (nL := 1) (ret := (some .int)) (by decide) rfl (Nat.le_of_ble_eq_true rfl) ?_
  intro p e s m below meth c R args Q A hRm ha hQ hAe hA S hE hr hlk hnm H locs hH0 hL0 ls hl hw
  have S : CallFix p m c cX0_setCount 1 s args wsX0_setCount RX0 := S
  have hl : lv_has ls 1 [(0, .ref (ad 2))] := hl
  have hinX0 : ∀ w ∈ u_ws RX0 TX0 7, w ∈ wsX0_setCount := by decide +kernel
  have hf30 := S.2.2.2.2 (.fieldLink RX0 30 "AwakeTurns$Crew" "count" "I") (by decide +kernel)
  refine lv_iconst (v := 1) S.1 S.2.1 dX0_setCount_0 (by decide) ?_
  refine lv_aload_n S.1 S.2.1 dX0_setCount_1 rfl (lv_at hl 0 rfl) ?_
  refine aw_get S hE hw 0 (C := RX0) (T := TX0) (N := 7) rfl rfl hinX0 5 (by decide) hf30 rfl dX0_setCount_2 ?_
  refine lv_ishl S.1 S.2.1 dX0_setCount_5 ?_
  refine aw_eqi (show (1 <<< ((nI n) &&& 31) : Int32) = nI (2 ^ n) from (nI_bit n (by omega))) ?_
  exact aw_iret S hr hlk ha hQ hAe hw dX0_setCount_6 rfl (Nat.le_of_ble_eq_true rfl) (Nat.le_of_ble_eq_true rfl) ⟨rfl, rfl⟩
set_option maxRecDepth 100000 in
set_option maxHeartbeats 4000000 in
theorem c_X0_everybody (l : Launch) (G : aw_G) (ad : Nat → Nat) (n : Nat) (lw : Int32) (hn : n ≤ 6) : CT l G yX0_everybody wsX0_everybody ({ frames := 1, cells := 0, slots := 0, locals := 20 }) [.ref (ad 2)] [[(ad 2, .inr (0, [.ref (ad 8), .ref (ad 9), .ref (ad 10), .ref (ad 11), .ref (ad 12), .int (nI n), .int lw]))]] (dt (some (.int (nI (2 ^ n - 1)))) [[(ad 2, .inr (0, [.ref (ad 8), .ref (ad 9), .ref (ad 10), .ref (ad 11), .ref (ad 12), .int (nI n), .int lw]))]]) := by
  refine CT.of (cc := cX0_everybody) (nL := 1) (ret := (some .int)) (by decide) rfl (Nat.le_of_ble_eq_true rfl) ?_
  intro p e s m below meth c R args Q A hRm ha hQ hAe hA S hE hr hlk hnm H locs hH0 hL0 ls hl hw
  have S : CallFix p m c cX0_everybody 1 s args wsX0_everybody RX0 := S
  have hl : lv_has ls 1 [(0, .ref (ad 2))] := hl
  refine lv_aload_n S.1 S.2.1 dX0_everybody_0 rfl (lv_at hl 0 rfl) ?_
  refine aw_callV S hE (c_X0_setCount l G ad n lw (by first | assumption | omega)) gX0_everybody_X0_setCount (n := 0) rfl (by decide +kernel) rfl (by rw [hRm]; exact ⟨Nat.le_of_ble_eq_true rfl, Nat.le_of_ble_eq_true rfl⟩) (by rw [hRm]; exact ⟨Nat.le_of_ble_eq_true rfl, Nat.le_of_ble_eq_true rfl⟩) hw hA hl.1 [0] rfl rfl (aw_recv (i := 0) hE hw rfl rfl rfl) rfl (Nat.le_of_ble_eq_true rfl) dX0_everybody_1 ?_
  rintro v w1 H locs ⟨rfl, rfl⟩ hw
  have hw : bW G A s.heap [[(ad 2, .inr (0, [.ref (ad 8), .ref (ad 9), .ref (ad 10), .ref (ad 11), .ref (ad 12), .int (nI n), .int lw]))]] H locs := hw
  refine W.eq (g2 := (F0 m 4 ls [.int (nI (2 ^ n))])) rfl ?_
  refine lv_iconst (v := 1) S.1 S.2.1 dX0_everybody_4 (by decide) ?_
  refine lv_isub S.1 S.2.1 dX0_everybody_5 ?_
  refine aw_eqi (show ((nI (2 ^ n)) - 1 : Int32) = nI ((2 ^ n) - 1) from (pk_sub (a := 2 ^ n) (b := 1) Nat.one_le_two_pow)) ?_
  refine aw_eqi (show (nI ((2 ^ n) - 1) : Int32) = nI (2 ^ n - 1) from (by simp [])) ?_
  exact aw_iret S hr hlk ha hQ hAe hw dX0_everybody_6 rfl (Nat.le_of_ble_eq_true rfl) (Nat.le_of_ble_eq_true rfl) ⟨rfl, rfl⟩
set_option maxRecDepth 100000 in
set_option maxHeartbeats 4000000 in
theorem c_X7_isNothing (l : Launch) (G : aw_G) (a b : Nat) (lne : Int32) (le : Nat)  : CT l G yX7_isNothing wsX7_isNothing ({ frames := 0, cells := 0, slots := 0, locals := 0 }) [.ref a] [[(a, .inr (7, [.ref b, .int lne, .int (nI le)]))]] (dt (some (.int (if lne = -1 then 1 else 0))) [[(a, .inr (7, [.ref b, .int lne, .int (nI le)]))]]) := by
  refine CT.of (cc := cX7_isNothing) (nL := 1) (ret := (some .boolean)) (by decide) rfl (Nat.le_of_ble_eq_true rfl) ?_
  intro p e s m below meth c R args Q A hRm ha hQ hAe hA S hE hr hlk hnm H locs hH0 hL0 ls hl hw
  have S : CallFix p m c cX7_isNothing 1 s args wsX7_isNothing RX7 := S
  have hl : lv_has ls 1 [(0, .ref a)] := hl
  have hinX7 : ∀ w ∈ u_ws RX7 TX7 3, w ∈ wsX7_isNothing := by decide +kernel
  have hf15 := S.2.2.2.2 (.fieldLink RX7 15 "AwakeTurns$Sheet" "lane" "I") (by decide +kernel)
  refine lv_aload_n S.1 S.2.1 dX7_isNothing_0 rfl (lv_at hl 0 rfl) ?_
  refine aw_get S hE hw 0 (C := RX7) (T := TX7) (N := 3) rfl rfl hinX7 1 (by decide) hf15 rfl dX7_isNothing_1 ?_
  refine lv_iconst (v := (-1)) S.1 S.2.1 dX7_isNothing_4 (by decide) ?_
  refine lv_icmp_ne (tgt := 12) S.1 S.2.1 dX7_isNothing_5 (by decide) (fun c5 => ?_) (fun c5 => ?_)
  · refine lv_iconst (v := 0) S.1 S.2.1 dX7_isNothing_12 (by decide) ?_
    refine aw_eqi (show (0 : Int32) = if lne = -1 then 1 else 0 from (by simp [c5])) ?_
    exact aw_iret S hr hlk ha hQ hAe hw dX7_isNothing_13 (aw_nb _) (Nat.le_of_ble_eq_true rfl) (Nat.le_of_ble_eq_true rfl) ⟨rfl, rfl⟩
  · refine lv_iconst (v := 1) S.1 S.2.1 dX7_isNothing_8 (by decide) ?_
    refine lv_goto (tgt := 13) S.1 S.2.1 dX7_isNothing_9 (by decide) ?_
    refine aw_eqi (show (1 : Int32) = if lne = -1 then 1 else 0 from (by simp [c5])) ?_
    exact aw_iret S hr hlk ha hQ hAe hw dX7_isNothing_13 (aw_nb _) (Nat.le_of_ble_eq_true rfl) (Nat.le_of_ble_eq_true rfl) ⟨rfl, rfl⟩
set_option maxRecDepth 100000 in
set_option maxHeartbeats 4000000 in
theorem c_X7_drop (l : Launch) (G : aw_G) (a b : Nat) (lne : Int32) (le : Nat)  : CT l G yX7_drop wsX7_drop ({ frames := 0, cells := 0, slots := 0, locals := 0 }) [.ref a] [[(a, .inr (7, [.ref b, .int lne, .int (nI le)]))]] (dt none [[(a, .inr (7, [.ref b, .int (-1), .int (nI 0)]))]]) := by
  refine CT.of (cc := cX7_drop) (nL := 1) (ret := none) (by decide) rfl (Nat.le_of_ble_eq_true rfl) ?_
  intro p e s m below meth c R args Q A hRm ha hQ hAe hA S hE hr hlk hnm H locs hH0 hL0 ls hl hw
  have S : CallFix p m c cX7_drop 1 s args wsX7_drop RX7 := S
  have hl : lv_has ls 1 [(0, .ref a)] := hl
  have hinX7 : ∀ w ∈ u_ws RX7 TX7 3, w ∈ wsX7_drop := by decide +kernel
  have hf15 := S.2.2.2.2 (.fieldLink RX7 15 "AwakeTurns$Sheet" "lane" "I") (by decide +kernel)
  have hf19 := S.2.2.2.2 (.fieldLink RX7 19 "AwakeTurns$Sheet" "length" "I") (by decide +kernel)
  refine lv_aload_n S.1 S.2.1 dX7_drop_0 rfl (lv_at hl 0 rfl) ?_
  refine lv_iconst (v := (-1)) S.1 S.2.1 dX7_drop_1 (by decide) ?_
  refine aw_putf S hE hw 0 (C := RX7) (T := TX7) (N := 3) rfl rfl hinX7 tyX7 tyX7_ok nmX7 1 (by decide) hf15 rfl rfl rfl (Nat.le_of_ble_eq_true rfl) dX7_drop_2 (fun H locs hw => ?_)
  have hw : bW G A s.heap [[(a, .inr (7, [.ref b, .int (-1), .int (nI le)]))]] H locs := hw
  refine lv_aload_n S.1 S.2.1 dX7_drop_5 rfl (lv_at hl 0 rfl) ?_
  refine lv_iconst (v := 0) S.1 S.2.1 dX7_drop_6 (by decide) ?_
  refine aw_putf S hE hw 0 (C := RX7) (T := TX7) (N := 3) rfl rfl hinX7 tyX7 tyX7_ok nmX7 2 (by decide) hf19 rfl rfl rfl (Nat.le_of_ble_eq_true rfl) dX7_drop_7 (fun H locs hw => ?_)
  have hw : bW G A s.heap [[(a, .inr (7, [.ref b, .int (-1), .int 0]))]] H locs := hw
  exact aw_vret S hr hlk ha hQ hAe hw dX7_drop_10 (Nat.le_of_ble_eq_true rfl) (Nat.le_of_ble_eq_true rfl) ⟨rfl, rfl⟩
set_option maxRecDepth 100000 in
set_option maxHeartbeats 4000000 in
theorem c_X7_hasRange (l : Launch) (G : aw_G) (a b : Nat) (lne : Int32) (le : Nat) (i nn : Int32) (hle : le ≤ 60) : CT l G yX7_hasRange wsX7_hasRange ({ frames := 0, cells := 0, slots := 0, locals := 0 }) [.ref a, .int i, .int nn] [[(a, .inr (7, [.ref b, .int lne, .int (nI le)]))]] (dt (some (.int (if 0 ≤ i.toInt ∧ i.toInt ≤ le ∧ nn.toInt ≤ le - i.toInt then 1 else 0))) [[(a, .inr (7, [.ref b, .int lne, .int (nI le)]))]]) := by
  refine CT.of (cc := cX7_hasRange) (nL := 3) (ret := (some .boolean)) (by decide) rfl (Nat.le_of_ble_eq_true rfl) ?_
  intro p e s m below meth c R args Q A hRm ha hQ hAe hA S hE hr hlk hnm H locs hH0 hL0 ls hl hw
  have S : CallFix p m c cX7_hasRange 3 s args wsX7_hasRange RX7 := S
  have hl : lv_has ls 3 [(0, .ref a), (1, .int i), (2, .int nn)] := hl
  have hinX7 : ∀ w ∈ u_ws RX7 TX7 3, w ∈ wsX7_hasRange := by decide +kernel
  have hf19 := S.2.2.2.2 (.fieldLink RX7 19 "AwakeTurns$Sheet" "length" "I") (by decide +kernel)
  have e1 := nI_toInt (show le < 2 ^ 31 by omega)
  refine lv_iload_n S.1 S.2.1 dX7_hasRange_0 rfl (lv_at hl 1 rfl) ?_
  refine lv_if_lt (tgt := 26) S.1 S.2.1 dX7_hasRange_1 (by decide) (fun c1 => ?_) (fun c1 => ?_)
  · refine lv_iconst (v := 0) S.1 S.2.1 dX7_hasRange_26 (by decide) ?_
    refine aw_eqi (show (0 : Int32) = if 0 ≤ i.toInt ∧ i.toInt ≤ le ∧ nn.toInt ≤ le - i.toInt then 1 else 0 from (by (try simp only [fa_lt, fa_le, fa_eq, li_m1, li_m2, li_m3, li_m4, li_m9, li_0, li_1, li_2, li_3, li_4, li_6, li_7, li_8, li_12, li_60, li_64] at c1); first | rw [if_pos (by omega)] | rw [if_neg (by omega)])) ?_
    exact aw_iret S hr hlk ha hQ hAe hw dX7_hasRange_27 (aw_nb _) (Nat.le_of_ble_eq_true rfl) (Nat.le_of_ble_eq_true rfl) ⟨rfl, rfl⟩
  · rw [fa_lt, li_0] at c1
    have e2 := aw_subI (a := le) (x := i) (by omega) (by omega)
    refine lv_iload_n S.1 S.2.1 dX7_hasRange_4 rfl (lv_at hl 1 rfl) ?_
    refine lv_aload_n S.1 S.2.1 dX7_hasRange_5 rfl (lv_at hl 0 rfl) ?_
    refine aw_get S hE hw 0 (C := RX7) (T := TX7) (N := 3) rfl rfl hinX7 2 (by decide) hf19 rfl dX7_hasRange_6 ?_
    refine lv_icmp_gt (tgt := 26) S.1 S.2.1 dX7_hasRange_9 (by decide) (fun c9 => ?_) (fun c9 => ?_)
    · rw [fa_lt, e1] at c9
      refine lv_iconst (v := 0) S.1 S.2.1 dX7_hasRange_26 (by decide) ?_
      refine aw_eqi (show (0 : Int32) = if 0 ≤ i.toInt ∧ i.toInt ≤ le ∧ nn.toInt ≤ le - i.toInt then 1 else 0 from (by (try simp only [fa_lt, fa_le, fa_eq, li_m1, li_m2, li_m3, li_m4, li_m9, li_0, li_1, li_2, li_3, li_4, li_6, li_7, li_8, li_12, li_60, li_64] at c1); (try simp only [fa_lt, fa_le, fa_eq, li_m1, li_m2, li_m3, li_m4, li_m9, li_0, li_1, li_2, li_3, li_4, li_6, li_7, li_8, li_12, li_60, li_64] at c9); first | rw [if_pos (by omega)] | rw [if_neg (by omega)])) ?_
      exact aw_iret S hr hlk ha hQ hAe hw dX7_hasRange_27 (aw_nb _) (Nat.le_of_ble_eq_true rfl) (Nat.le_of_ble_eq_true rfl) ⟨rfl, rfl⟩
    · rw [fa_lt, e1] at c9
      refine lv_iload_n S.1 S.2.1 dX7_hasRange_12 rfl (lv_at hl 2 rfl) ?_
      refine lv_aload_n S.1 S.2.1 dX7_hasRange_13 rfl (lv_at hl 0 rfl) ?_
      refine aw_get S hE hw 0 (C := RX7) (T := TX7) (N := 3) rfl rfl hinX7 2 (by decide) hf19 rfl dX7_hasRange_14 ?_
      refine lv_iload_n S.1 S.2.1 dX7_hasRange_17 rfl (lv_at hl 1 rfl) ?_
      refine lv_isub S.1 S.2.1 dX7_hasRange_18 ?_
      refine lv_icmp_gt (tgt := 26) S.1 S.2.1 dX7_hasRange_19 (by decide) (fun c19 => ?_) (fun c19 => ?_)
      · rw [fa_lt, e2] at c19
        refine lv_iconst (v := 0) S.1 S.2.1 dX7_hasRange_26 (by decide) ?_
        refine aw_eqi (show (0 : Int32) = if 0 ≤ i.toInt ∧ i.toInt ≤ le ∧ nn.toInt ≤ le - i.toInt then 1 else 0 from (by (try simp only [fa_lt, fa_le, fa_eq, li_m1, li_m2, li_m3, li_m4, li_m9, li_0, li_1, li_2, li_3, li_4, li_6, li_7, li_8, li_12, li_60, li_64] at c1); (try simp only [fa_lt, fa_le, fa_eq, li_m1, li_m2, li_m3, li_m4, li_m9, li_0, li_1, li_2, li_3, li_4, li_6, li_7, li_8, li_12, li_60, li_64] at c9); (try simp only [fa_lt, fa_le, fa_eq, li_m1, li_m2, li_m3, li_m4, li_m9, li_0, li_1, li_2, li_3, li_4, li_6, li_7, li_8, li_12, li_60, li_64] at c19); first | rw [if_pos (by omega)] | rw [if_neg (by omega)])) ?_
        exact aw_iret S hr hlk ha hQ hAe hw dX7_hasRange_27 (aw_nb _) (Nat.le_of_ble_eq_true rfl) (Nat.le_of_ble_eq_true rfl) ⟨rfl, rfl⟩
      · rw [fa_lt, e2] at c19
        refine lv_iconst (v := 1) S.1 S.2.1 dX7_hasRange_22 (by decide) ?_
        refine lv_goto (tgt := 27) S.1 S.2.1 dX7_hasRange_23 (by decide) ?_
        refine aw_eqi (show (1 : Int32) = if 0 ≤ i.toInt ∧ i.toInt ≤ le ∧ nn.toInt ≤ le - i.toInt then 1 else 0 from (by (try simp only [fa_lt, fa_le, fa_eq, li_m1, li_m2, li_m3, li_m4, li_m9, li_0, li_1, li_2, li_3, li_4, li_6, li_7, li_8, li_12, li_60, li_64] at c1); (try simp only [fa_lt, fa_le, fa_eq, li_m1, li_m2, li_m3, li_m4, li_m9, li_0, li_1, li_2, li_3, li_4, li_6, li_7, li_8, li_12, li_60, li_64] at c9); (try simp only [fa_lt, fa_le, fa_eq, li_m1, li_m2, li_m3, li_m4, li_m9, li_0, li_1, li_2, li_3, li_4, li_6, li_7, li_8, li_12, li_60, li_64] at c19); first | rw [if_pos (by omega)] | rw [if_neg (by omega)])) ?_
        exact aw_iret S hr hlk ha hQ hAe hw dX7_hasRange_27 (aw_nb _) (Nat.le_of_ble_eq_true rfl) (Nat.le_of_ble_eq_true rfl) ⟨rfl, rfl⟩
set_option maxRecDepth 100000 in
set_option maxHeartbeats 4000000 in
theorem c_X7_faultOfLane (l : Launch) (G : aw_G) (a b : Nat) (lne : Int32) (le : Nat) (asl : Int32)  : CT l G yX7_faultOfLane wsX7_faultOfLane ({ frames := 1, cells := 0, slots := 0, locals := 20 }) [.ref a, .int asl] [[(a, .inr (7, [.ref b, .int lne, .int (nI le)]))]] (dt (some (.int (flF lne asl))) [[(a, .inr (7, [.ref b, .int lne, .int (nI le)]))]]) := by
  refine CT.of (cc := cX7_faultOfLane) (nL := 2) (ret := (some .int)) (by decide) rfl (Nat.le_of_ble_eq_true rfl) ?_
  intro p e s m below meth c R args Q A hRm ha hQ hAe hA S hE hr hlk hnm H locs hH0 hL0 ls hl hw
  have S : CallFix p m c cX7_faultOfLane 2 s args wsX7_faultOfLane RX7 := S
  have hl : lv_has ls 2 [(0, .ref a), (1, .int asl)] := hl
  have hinX7 : ∀ w ∈ u_ws RX7 TX7 3, w ∈ wsX7_faultOfLane := by decide +kernel
  have hf15 := S.2.2.2.2 (.fieldLink RX7 15 "AwakeTurns$Sheet" "lane" "I") (by decide +kernel)
  refine lv_aload_n S.1 S.2.1 dX7_faultOfLane_0 rfl (lv_at hl 0 rfl) ?_
  refine aw_callV S hE (c_X7_isNothing l G a b lne le) gX7_faultOfLane_X7_isNothing (n := 0) rfl (by decide +kernel) rfl (by rw [hRm]; exact ⟨Nat.le_of_ble_eq_true rfl, Nat.le_of_ble_eq_true rfl⟩) (by rw [hRm]; exact ⟨Nat.le_of_ble_eq_true rfl, Nat.le_of_ble_eq_true rfl⟩) hw hA hl.1 [0] rfl rfl (aw_recv (i := 0) hE hw rfl rfl rfl) rfl (Nat.le_of_ble_eq_true rfl) dX7_faultOfLane_1 ?_
  rintro v w1 H locs ⟨rfl, rfl⟩ hw
  have hw : bW G A s.heap [[(a, .inr (7, [.ref b, .int lne, .int (nI le)]))]] H locs := hw
  refine W.eq (g2 := (F0 m 4 ls [.int (if lne = -1 then 1 else 0)])) rfl ?_
  refine aw_ifeq (P := lne = -1) (tgt := 9) S dX7_faultOfLane_4 (by decide) (fun c4 => ?_) (fun c4 => ?_)
  · refine lv_aload_n S.1 S.2.1 dX7_faultOfLane_9 rfl (lv_at hl 0 rfl) ?_
    refine aw_get S hE hw 0 (C := RX7) (T := TX7) (N := 3) rfl rfl hinX7 1 (by decide) hf15 rfl dX7_faultOfLane_10 ?_
    refine lv_iload_n S.1 S.2.1 dX7_faultOfLane_13 rfl (lv_at hl 1 rfl) ?_
    refine lv_icmp_ne (tgt := 21) S.1 S.2.1 dX7_faultOfLane_14 (by decide) (fun c14 => ?_) (fun c14 => ?_)
    · refine lv_iconst (v := 2) S.1 S.2.1 dX7_faultOfLane_21 (by decide) ?_
      refine aw_eqi (show (2 : Int32) = flF lne asl from (by simp [flF, c4, c14])) ?_
      exact aw_iret S hr hlk ha hQ hAe hw dX7_faultOfLane_22 rfl (Nat.le_of_ble_eq_true rfl) (Nat.le_of_ble_eq_true rfl) ⟨rfl, rfl⟩
    · have c14 := c14.symm
      refine lv_iconst (v := 0) S.1 S.2.1 dX7_faultOfLane_17 (by decide) ?_
      refine lv_goto (tgt := 22) S.1 S.2.1 dX7_faultOfLane_18 (by decide) ?_
      refine aw_eqi (show (0 : Int32) = flF lne asl from (by simp [flF, c4, c14])) ?_
      exact aw_iret S hr hlk ha hQ hAe hw dX7_faultOfLane_22 rfl (Nat.le_of_ble_eq_true rfl) (Nat.le_of_ble_eq_true rfl) ⟨rfl, rfl⟩
  · refine lv_iconst (v := 1) S.1 S.2.1 dX7_faultOfLane_7 (by decide) ?_
    refine aw_eqi (show (1 : Int32) = flF lne asl from (by simp [flF, c4])) ?_
    exact aw_iret S hr hlk ha hQ hAe hw dX7_faultOfLane_8 rfl (Nat.le_of_ble_eq_true rfl) (Nat.le_of_ble_eq_true rfl) ⟨rfl, rfl⟩
set_option maxRecDepth 100000 in
set_option maxHeartbeats 4000000 in
theorem c_X7_faultOfRange (l : Launch) (G : aw_G) (a b : Nat) (lne : Int32) (le : Nat) (asl i nn : Int32) (hle : le ≤ 60) : CT l G yX7_faultOfRange wsX7_faultOfRange ({ frames := 2, cells := 0, slots := 0, locals := 41 }) [.ref a, .int asl, .int i, .int nn] [[(a, .inr (7, [.ref b, .int lne, .int (nI le)]))]] (dt (some (.int (frF lne le asl i nn))) [[(a, .inr (7, [.ref b, .int lne, .int (nI le)]))]]) := by
  refine CT.of (cc := cX7_faultOfRange) (nL := 5) (ret := (some .int)) (by decide) rfl (Nat.le_of_ble_eq_true rfl) ?_
  intro p e s m below meth c R args Q A hRm ha hQ hAe hA S hE hr hlk hnm H locs hH0 hL0 ls hl hw
  have S : CallFix p m c cX7_faultOfRange 5 s args wsX7_faultOfRange RX7 := S
  have hl : lv_has ls 5 [(0, .ref a), (1, .int asl), (2, .int i), (3, .int nn)] := hl
  refine lv_aload_n S.1 S.2.1 dX7_faultOfRange_0 rfl (lv_at hl 0 rfl) ?_
  refine lv_iload_n S.1 S.2.1 dX7_faultOfRange_1 rfl (lv_at hl 1 rfl) ?_
  refine aw_callV S hE (c_X7_faultOfLane l G a b lne le asl) gX7_faultOfRange_X7_faultOfLane (n := 1) rfl (by decide +kernel) rfl (by rw [hRm]; exact ⟨Nat.le_of_ble_eq_true rfl, Nat.le_of_ble_eq_true rfl⟩) (by rw [hRm]; exact ⟨Nat.le_of_ble_eq_true rfl, Nat.le_of_ble_eq_true rfl⟩) hw hA hl.1 [0] rfl rfl (aw_recv (i := 0) hE hw rfl rfl rfl) rfl (Nat.le_of_ble_eq_true rfl) dX7_faultOfRange_2 ?_
  rintro v w1 H locs ⟨rfl, rfl⟩ hw
  have hw : bW G A s.heap [[(a, .inr (7, [.ref b, .int lne, .int (nI le)]))]] H locs := hw
  refine W.eq (g2 := (F0 m 5 ls [.int (flF lne asl)])) rfl ?_
  refine lv_istore (lv' := [(4, .int (flF lne asl)), (0, .ref a), (1, .int asl), (2, .int i), (3, .int nn)]) S.1 S.2.1 dX7_faultOfRange_5 hl (by decide) rfl (fun ls hl => ?_)
  refine lv_iload S.1 S.2.1 dX7_faultOfRange_7 (lv_at hl 0 rfl) ?_
  refine lv_if_eq (tgt := 15) S.1 S.2.1 dX7_faultOfRange_9 (by decide) (fun c9 => ?_) (fun c9 => ?_)
  · obtain ⟨z1, z2⟩ := flF_t c9
    refine lv_iload_n S.1 S.2.1 dX7_faultOfRange_15 rfl (lv_at hl 4 rfl) ?_
    refine lv_if_ge (tgt := 21) S.1 S.2.1 dX7_faultOfRange_16 (by decide) (fun c16 => ?_) (fun c16 => ?_)
    · rw [fa_le, li_0] at c16
      have c16 : ¬ nn.toInt < 0 := by omega
      refine lv_aload_n S.1 S.2.1 dX7_faultOfRange_21 rfl (lv_at hl 1 rfl) ?_
      refine lv_iload_n S.1 S.2.1 dX7_faultOfRange_22 rfl (lv_at hl 3 rfl) ?_
      refine lv_iload_n S.1 S.2.1 dX7_faultOfRange_23 rfl (lv_at hl 4 rfl) ?_
      refine aw_callV S hE (c_X7_hasRange l G a b lne le i nn (by first | assumption | omega)) gX7_faultOfRange_X7_hasRange (n := 2) rfl (by decide +kernel) rfl (by rw [hRm]; exact ⟨Nat.le_of_ble_eq_true rfl, Nat.le_of_ble_eq_true rfl⟩) (by rw [hRm]; exact ⟨Nat.le_of_ble_eq_true rfl, Nat.le_of_ble_eq_true rfl⟩) hw hA hl.1 [0] rfl rfl (aw_recv (i := 0) hE hw rfl rfl rfl) rfl (Nat.le_of_ble_eq_true rfl) dX7_faultOfRange_24 ?_
      rintro v w1 H locs ⟨rfl, rfl⟩ hw
      have hw : bW G A s.heap [[(a, .inr (7, [.ref b, .int lne, .int (nI le)]))]] H locs := hw
      refine W.eq (g2 := (F0 m 27 ls [.int (if 0 ≤ i.toInt ∧ i.toInt ≤ le ∧ nn.toInt ≤ le - i.toInt then 1 else 0)])) rfl ?_
      refine aw_ifeq (P := 0 ≤ i.toInt ∧ i.toInt ≤ le ∧ nn.toInt ≤ le - i.toInt) (tgt := 34) S dX7_faultOfRange_27 (by decide) (fun c27 => ?_) (fun c27 => ?_)
      · refine lv_iconst (v := 3) S.1 S.2.1 dX7_faultOfRange_34 (by decide) ?_
        refine aw_eqi (show (3 : Int32) = frF lne le asl i nn from (by simp [frF, z1, z2, c16, c27])) ?_
        exact aw_iret S hr hlk ha hQ hAe hw dX7_faultOfRange_35 rfl (Nat.le_of_ble_eq_true rfl) (Nat.le_of_ble_eq_true rfl) ⟨rfl, rfl⟩
      · refine lv_iconst (v := 0) S.1 S.2.1 dX7_faultOfRange_30 (by decide) ?_
        refine lv_goto (tgt := 35) S.1 S.2.1 dX7_faultOfRange_31 (by decide) ?_
        refine aw_eqi (show (0 : Int32) = frF lne le asl i nn from (by simp [frF, z1, z2, c16, c27])) ?_
        exact aw_iret S hr hlk ha hQ hAe hw dX7_faultOfRange_35 rfl (Nat.le_of_ble_eq_true rfl) (Nat.le_of_ble_eq_true rfl) ⟨rfl, rfl⟩
    · rw [fa_le, li_0] at c16
      have c16 : nn.toInt < 0 := by omega
      refine lv_iconst (v := 4) S.1 S.2.1 dX7_faultOfRange_19 (by decide) ?_
      refine aw_eqi (show (4 : Int32) = frF lne le asl i nn from (by simp [frF, z1, z2, c16])) ?_
      exact aw_iret S hr hlk ha hQ hAe hw dX7_faultOfRange_20 rfl (Nat.le_of_ble_eq_true rfl) (Nat.le_of_ble_eq_true rfl) ⟨rfl, rfl⟩
  · refine lv_iload S.1 S.2.1 dX7_faultOfRange_12 (lv_at hl 0 rfl) ?_
    refine aw_eqi (show (flF lne asl : Int32) = frF lne le asl i nn from (frF_f c9)) ?_
    exact aw_iret S hr hlk ha hQ hAe hw dX7_faultOfRange_14 rfl (Nat.le_of_ble_eq_true rfl) (Nat.le_of_ble_eq_true rfl) ⟨rfl, rfl⟩
set_option maxRecDepth 100000 in
set_option maxHeartbeats 4000000 in
theorem c_X7_faultOfCell (l : Launch) (G : aw_G) (a b : Nat) (lne : Int32) (le : Nat) (asl i : Int32) (hle : le ≤ 60) : CT l G yX7_faultOfCell wsX7_faultOfCell ({ frames := 2, cells := 0, slots := 0, locals := 41 }) [.ref a, .int asl, .int i] [[(a, .inr (7, [.ref b, .int lne, .int (nI le)]))]] (dt (some (.int (fcF lne le asl i))) [[(a, .inr (7, [.ref b, .int lne, .int (nI le)]))]]) := by
  refine CT.of (cc := cX7_faultOfCell) (nL := 4) (ret := (some .int)) (by decide) rfl (Nat.le_of_ble_eq_true rfl) ?_
  intro p e s m below meth c R args Q A hRm ha hQ hAe hA S hE hr hlk hnm H locs hH0 hL0 ls hl hw
  have S : CallFix p m c cX7_faultOfCell 4 s args wsX7_faultOfCell RX7 := S
  have hl : lv_has ls 4 [(0, .ref a), (1, .int asl), (2, .int i)] := hl
  have hinX7 : ∀ w ∈ u_ws RX7 TX7 3, w ∈ wsX7_faultOfCell := by decide +kernel
  have hf19 := S.2.2.2.2 (.fieldLink RX7 19 "AwakeTurns$Sheet" "length" "I") (by decide +kernel)
  have e1 := nI_toInt (show le < 2 ^ 31 by omega)
  refine lv_aload_n S.1 S.2.1 dX7_faultOfCell_0 rfl (lv_at hl 0 rfl) ?_
  refine lv_iload_n S.1 S.2.1 dX7_faultOfCell_1 rfl (lv_at hl 1 rfl) ?_
  refine aw_callV S hE (c_X7_faultOfLane l G a b lne le asl) gX7_faultOfCell_X7_faultOfLane (n := 1) rfl (by decide +kernel) rfl (by rw [hRm]; exact ⟨Nat.le_of_ble_eq_true rfl, Nat.le_of_ble_eq_true rfl⟩) (by rw [hRm]; exact ⟨Nat.le_of_ble_eq_true rfl, Nat.le_of_ble_eq_true rfl⟩) hw hA hl.1 [0] rfl rfl (aw_recv (i := 0) hE hw rfl rfl rfl) rfl (Nat.le_of_ble_eq_true rfl) dX7_faultOfCell_2 ?_
  rintro v w1 H locs ⟨rfl, rfl⟩ hw
  have hw : bW G A s.heap [[(a, .inr (7, [.ref b, .int lne, .int (nI le)]))]] H locs := hw
  refine W.eq (g2 := (F0 m 5 ls [.int (flF lne asl)])) rfl ?_
  refine lv_istore_n (lv' := [(3, .int (flF lne asl)), (0, .ref a), (1, .int asl), (2, .int i)]) S.1 S.2.1 dX7_faultOfCell_5 rfl hl (by decide) rfl (fun ls hl => ?_)
  refine lv_iload_n S.1 S.2.1 dX7_faultOfCell_6 rfl (lv_at hl 0 rfl) ?_
  refine lv_if_eq (tgt := 12) S.1 S.2.1 dX7_faultOfCell_7 (by decide) (fun c7 => ?_) (fun c7 => ?_)
  · obtain ⟨z1, z2⟩ := flF_t c7
    refine lv_iload_n S.1 S.2.1 dX7_faultOfCell_12 rfl (lv_at hl 3 rfl) ?_
    refine lv_if_lt (tgt := 28) S.1 S.2.1 dX7_faultOfCell_13 (by decide) (fun c13 => ?_) (fun c13 => ?_)
    · rw [fa_lt, li_0] at c13
      have c13 : ¬ 0 ≤ i.toInt := by omega
      refine lv_iconst (v := 3) S.1 S.2.1 dX7_faultOfCell_28 (by decide) ?_
      refine aw_eqi (show (3 : Int32) = fcF lne le asl i from (by simp [fcF, z1, z2, c13])) ?_
      exact aw_iret S hr hlk ha hQ hAe hw dX7_faultOfCell_29 rfl (Nat.le_of_ble_eq_true rfl) (Nat.le_of_ble_eq_true rfl) ⟨rfl, rfl⟩
    · rw [fa_lt, li_0] at c13
      have c13 : 0 ≤ i.toInt := by omega
      refine lv_iload_n S.1 S.2.1 dX7_faultOfCell_16 rfl (lv_at hl 3 rfl) ?_
      refine lv_aload_n S.1 S.2.1 dX7_faultOfCell_17 rfl (lv_at hl 1 rfl) ?_
      refine aw_get S hE hw 0 (C := RX7) (T := TX7) (N := 3) rfl rfl hinX7 2 (by decide) hf19 rfl dX7_faultOfCell_18 ?_
      refine lv_icmp_ge (tgt := 28) S.1 S.2.1 dX7_faultOfCell_21 (by decide) (fun c21 => ?_) (fun c21 => ?_)
      · rw [fa_le, e1] at c21
        have c21 : ¬ i.toInt < le := by omega
        refine lv_iconst (v := 3) S.1 S.2.1 dX7_faultOfCell_28 (by decide) ?_
        refine aw_eqi (show (3 : Int32) = fcF lne le asl i from (by simp [fcF, z1, z2, c13, c21])) ?_
        exact aw_iret S hr hlk ha hQ hAe hw dX7_faultOfCell_29 rfl (Nat.le_of_ble_eq_true rfl) (Nat.le_of_ble_eq_true rfl) ⟨rfl, rfl⟩
      · rw [fa_le, e1] at c21
        have c21 : i.toInt < le := by omega
        refine lv_iconst (v := 0) S.1 S.2.1 dX7_faultOfCell_24 (by decide) ?_
        refine lv_goto (tgt := 29) S.1 S.2.1 dX7_faultOfCell_25 (by decide) ?_
        refine aw_eqi (show (0 : Int32) = fcF lne le asl i from (by simp [fcF, z1, z2, c13, c21])) ?_
        exact aw_iret S hr hlk ha hQ hAe hw dX7_faultOfCell_29 rfl (Nat.le_of_ble_eq_true rfl) (Nat.le_of_ble_eq_true rfl) ⟨rfl, rfl⟩
  · refine lv_iload_n S.1 S.2.1 dX7_faultOfCell_10 rfl (lv_at hl 0 rfl) ?_
    refine aw_eqi (show (flF lne asl : Int32) = fcF lne le asl i from (fcF_f c7)) ?_
    exact aw_iret S hr hlk ha hQ hAe hw dX7_faultOfCell_11 rfl (Nat.le_of_ble_eq_true rfl) (Nat.le_of_ble_eq_true rfl) ⟨rfl, rfl⟩
set_option maxRecDepth 100000 in
set_option maxHeartbeats 4000000 in
theorem c_X7_cut (l : Launch) (G : aw_G) (a b : Nat) (lne : Int32) (le : Nat) (v : Int32)  : CT l G yX7_cut wsX7_cut ({ frames := 0, cells := 0, slots := 0, locals := 0 }) [.ref a, .int v] [[(a, .inr (7, [.ref b, .int lne, .int (nI le)]))]] (dt (some (.int (cutF lne v))) [[(a, .inr (7, [.ref b, .int lne, .int (nI le)]))]]) := by
  refine CT.of (cc := cX7_cut) (nL := 2) (ret := (some .int)) (by decide) rfl (Nat.le_of_ble_eq_true rfl) ?_
  intro p e s m below meth c R args Q A hRm ha hQ hAe hA S hE hr hlk hnm H locs hH0 hL0 ls hl hw
  have S : CallFix p m c cX7_cut 2 s args wsX7_cut RX7 := S
  have hl : lv_has ls 2 [(0, .ref a), (1, .int v)] := hl
  have hinX7 : ∀ w ∈ u_ws RX7 TX7 3, w ∈ wsX7_cut := by decide +kernel
  have hf15 := S.2.2.2.2 (.fieldLink RX7 15 "AwakeTurns$Sheet" "lane" "I") (by decide +kernel)
  refine lv_aload_n S.1 S.2.1 dX7_cut_0 rfl (lv_at hl 0 rfl) ?_
  refine aw_get S hE hw 0 (C := RX7) (T := TX7) (N := 3) rfl rfl hinX7 1 (by decide) hf15 rfl dX7_cut_1 ?_
  by_cases c4_0 : lne = 0
  · refine lv_lookup (off := 28) (tgt := 32) S.1 S.2.1 dX7_cut_4 (by decide) (by rw [c4_0]; rfl) (by decide) ?_
    refine lv_iload_n S.1 S.2.1 dX7_cut_32 rfl (lv_at hl 1 rfl) ?_
    refine lv_i2b S.1 S.2.1 dX7_cut_33 rfl ?_
    refine aw_eqi (show (v.toInt8.toInt32 : Int32) = cutF lne v from (by simp [cutF, c4_0])) ?_
    exact aw_iret S hr hlk ha hQ hAe hw dX7_cut_34 rfl (Nat.le_of_ble_eq_true rfl) (Nat.le_of_ble_eq_true rfl) ⟨rfl, rfl⟩
  · by_cases c4_1 : lne = 1
    · refine lv_lookup (off := 31) (tgt := 35) S.1 S.2.1 dX7_cut_4 (by decide) (by rw [c4_1]; rfl) (by decide) ?_
      refine lv_iload_n S.1 S.2.1 dX7_cut_35 rfl (lv_at hl 1 rfl) ?_
      refine lv_i2s S.1 S.2.1 dX7_cut_36 rfl ?_
      refine aw_eqi (show (v.toInt16.toInt32 : Int32) = cutF lne v from (by simp [cutF, c4_0, c4_1])) ?_
      exact aw_iret S hr hlk ha hQ hAe hw dX7_cut_37 rfl (Nat.le_of_ble_eq_true rfl) (Nat.le_of_ble_eq_true rfl) ⟨rfl, rfl⟩
    · refine lv_lookup (off := 34) (tgt := 38) S.1 S.2.1 dX7_cut_4 (by decide) ((lv_osw (k := 0) c4_0 rfl).trans ((lv_osw (k := 1) c4_1 rfl).trans rfl)) (by decide) ?_
      refine lv_iload_n S.1 S.2.1 dX7_cut_38 rfl (lv_at hl 1 rfl) ?_
      refine aw_eqi (show (v : Int32) = cutF lne v from (by simp [cutF, c4_0, c4_1])) ?_
      exact aw_iret S hr hlk ha hQ hAe hw dX7_cut_39 rfl (Nat.le_of_ble_eq_true rfl) (Nat.le_of_ble_eq_true rfl) ⟨rfl, rfl⟩
set_option maxRecDepth 100000 in
set_option maxHeartbeats 4000000 in
theorem c_J7_fill_53178 (l : Launch) (G : aw_G) (a n : Nat) (f : Nat → Int32) (v : Int32) (hn : n < 2 ^ 31) : CT l G yJ7_fill_53178 wsJ7_fill_53178 ({ frames := 0, cells := 0, slots := 0, locals := 0 }) [.ref a, .int v] [[(a, .inl (gI G, n, .inl f))]] (dt none [[(a, .inl (gI G, n, .inl (fa_fill (fun _ => v) f n)))]]) := by
  refine CT.of (cc := cJ7_fill_53178) (nL := 4) (ret := none) (by decide) rfl (Nat.le_of_ble_eq_true rfl) ?_
  intro p e s m below meth c R args Q A hRm ha hQ hAe hA S hE hr hlk hnm H locs hH0 hL0 ls hl hw
  have S : CallFix p m c cJ7_fill_53178 4 s args wsJ7_fill_53178 RJ7 := S
  have hl : lv_has ls 4 [(0, .ref a), (1, .int v)] := hl
  refine lv_iconst (v := 0) S.1 S.2.1 dJ7_fill_53178_0 (by decide) ?_
  refine lv_istore_n (lv' := [(2, .int 0), (0, .ref a), (1, .int v)]) S.1 S.2.1 dJ7_fill_53178_1 rfl hl (by decide) rfl (fun ls hl => ?_)
  refine lv_aload_n S.1 S.2.1 dJ7_fill_53178_2 rfl (lv_at hl 1 rfl) ?_
  refine aw_alen S hE hw 0 rfl dJ7_fill_53178_3 ?_
  refine lv_istore_n (lv' := [(3, .int (nI n)), (2, .int 0), (0, .ref a), (1, .int v)]) S.1 S.2.1 dJ7_fill_53178_4 rfl hl (by decide) rfl (fun ls hl => ?_)
  have hw := aw_arr hw 0 rfl (fa_fill (fun _ => v) f 0) (fun _ _ => by rw [fa_fill_0])
  have hw : bW G A s.heap [[(a, .inl (gI G, n, .inl (fa_fill (fun _ => v) f 0)))]] H locs := hw
  have loop5 : ∀ (fu : Nat) (i : Nat), (i ≤ n) → (n - i) < fu → ∀ (ls : Array Slot) (H : Heap) (locs : List Loc), lv_has ls 4 [(0, .ref a), (1, .int v), (2, .int (nI i)), (3, .int (nI n))] → bW G A s.heap [[(a, .inl (gI G, n, .inl (fa_fill (fun _ => v) f i)))]] H locs → W p l e R s m args below meth c H locs 0 0 Q (F0 m 5 ls []) := by
    intro fu
    induction fu with
    | zero => intro i _ hm; exact absurd hm (Nat.not_lt_zero _)
    | succ fu ih5 =>
      intro i hi hm ls H locs hl hw
      refine lv_iload_n S.1 S.2.1 dJ7_fill_53178_5 rfl (lv_at hl 2 rfl) ?_
      refine lv_iload_n S.1 S.2.1 dJ7_fill_53178_6 rfl (lv_at hl 3 rfl) ?_
      refine aw_icmpN_ge (x := i) (y := n) (tgt := 20) S (by omega) (by omega) dJ7_fill_53178_7 (by decide) (fun c7 => ?_) (fun c7 => ?_)
      · have ex_i : i = n := by omega
        try rw [ex_i] at hl
        try rw [ex_i] at hw
        exact aw_vret S hr hlk ha hQ hAe hw dJ7_fill_53178_20 (Nat.le_of_ble_eq_true rfl) (Nat.le_of_ble_eq_true rfl) ⟨rfl, rfl⟩
      · refine lv_aload_n S.1 S.2.1 dJ7_fill_53178_10 rfl (lv_at hl 0 rfl) ?_
        refine lv_iload_n S.1 S.2.1 dJ7_fill_53178_11 rfl (lv_at hl 2 rfl) ?_
        refine lv_iload_n S.1 S.2.1 dJ7_fill_53178_12 rfl (lv_at hl 1 rfl) ?_
        refine aw_iast S hE hw 0 (k := i) rfl (by omega) (by omega) dJ7_fill_53178_13 (fun H locs hw => ?_)
        have hw : bW G A s.heap [[(a, .inl (gI G, n, .inl (upd (fa_fill (fun _ => v) f i) i v)))]] H locs := hw
        refine lv_iinc (v := nI (i + 1)) (lv' := [(2, .int (nI (i + 1))), (0, .ref a), (1, .int v), (3, .int (nI n))]) S.1 S.2.1 dJ7_fill_53178_14 hl (k := 2) rfl (by first | exact nI_1 _ | exact nI_add _ _ | rfl) (by decide) rfl (fun ls hl => ?_)
        refine lv_goto (tgt := 5) S.1 S.2.1 dJ7_fill_53178_17 (by decide) ?_
        have hw := aw_arr hw 0 rfl (fa_fill (fun _ => v) f (i + 1)) (fun _ _ => by rw [← fa_fill_succ])
        have hw : bW G A s.heap [[(a, .inl (gI G, n, .inl (fa_fill (fun _ => v) f (i + 1))))]] H locs := hw
        exact ih5 (i + 1) (by first | assumption | omega) (by omega) _ _ _ (lv_sub hl [1, 2, 0, 3] rfl) hw
  exact loop5 _ 0 (by first | assumption | omega) (Nat.lt_succ_self _) _ _ _ (lv_sub hl [2, 3, 1, 0] rfl) hw
set_option maxRecDepth 100000 in
set_option maxHeartbeats 4000000 in
theorem c_X7_renew (l : Launch) (G : aw_G) (a b : Nat) (lne : Int32) (le : Nat) (f : Nat → Int32) (nl : Int32) (n2 : Nat)  : CT l G yX7_renew wsX7_renew ({ frames := 1, cells := 0, slots := 0, locals := 23 }) [.ref a, .int nl, .int (nI n2)] [[(a, .inr (7, [.ref b, .int lne, .int (nI le)]))], [(b, .inl (gI G, 60, .inl f))]] (dt none [[(a, .inr (7, [.ref b, .int nl, .int (nI n2)]))], [(b, .inl (gI G, 60, .inl (fun _ => 0)))]]) := by
  refine CT.of (cc := cX7_renew) (nL := 3) (ret := none) (by decide) rfl (Nat.le_of_ble_eq_true rfl) ?_
  intro p e s m below meth c R args Q A hRm ha hQ hAe hA S hE hr hlk hnm H locs hH0 hL0 ls hl hw
  have S : CallFix p m c cX7_renew 3 s args wsX7_renew RX7 := S
  have hl : lv_has ls 3 [(0, .ref a), (1, .int nl), (2, .int (nI n2))] := hl
  have hinX7 : ∀ w ∈ u_ws RX7 TX7 3, w ∈ wsX7_renew := by decide +kernel
  have hf9 := S.2.2.2.2 (.fieldLink RX7 9 "AwakeTurns$Sheet" "cells" "[I") (by decide +kernel)
  have hf15 := S.2.2.2.2 (.fieldLink RX7 15 "AwakeTurns$Sheet" "lane" "I") (by decide +kernel)
  have hf19 := S.2.2.2.2 (.fieldLink RX7 19 "AwakeTurns$Sheet" "length" "I") (by decide +kernel)
  refine lv_aload_n S.1 S.2.1 dX7_renew_0 rfl (lv_at hl 0 rfl) ?_
  refine aw_get S hE hw 0 (C := RX7) (T := TX7) (N := 3) rfl rfl hinX7 0 (by decide) hf9 rfl dX7_renew_1 ?_
  refine lv_iconst (v := 0) S.1 S.2.1 dX7_renew_4 (by decide) ?_
  refine aw_callS S hE (c_J7_fill_53178 l G b 60 f 0 (by decide)) gX7_renew_J7_fill_53178 (n := 2) rfl (by decide +kernel) rfl (by rw [hRm]; exact ⟨Nat.le_of_ble_eq_true rfl, Nat.le_of_ble_eq_true rfl⟩) (by rw [hRm]; exact ⟨Nat.le_of_ble_eq_true rfl, Nat.le_of_ble_eq_true rfl⟩) hw hA hl.1 [1] rfl rfl rfl (Nat.le_of_ble_eq_true rfl) dX7_renew_5 ?_
  rintro v w1 H locs ⟨rfl, rfl⟩ hw
  have hw : bW G A s.heap [[(a, .inr (7, [.ref b, .int lne, .int (nI le)]))], [(b, .inl (gI G, 60, .inl (fa_fill (fun _ => 0) f 60)))]] H locs := hw
  refine W.eq (g2 := (F0 m 8 ls [])) rfl ?_
  refine lv_aload_n S.1 S.2.1 dX7_renew_8 rfl (lv_at hl 0 rfl) ?_
  refine lv_iload_n S.1 S.2.1 dX7_renew_9 rfl (lv_at hl 1 rfl) ?_
  refine aw_putf S hE hw 0 (C := RX7) (T := TX7) (N := 3) rfl rfl hinX7 tyX7 tyX7_ok nmX7 1 (by decide) hf15 rfl rfl rfl (Nat.le_of_ble_eq_true rfl) dX7_renew_10 (fun H locs hw => ?_)
  have hw : bW G A s.heap [[(a, .inr (7, [.ref b, .int nl, .int (nI le)]))], [(b, .inl (gI G, 60, .inl (fa_fill (fun _ => 0) f 60)))]] H locs := hw
  refine lv_aload_n S.1 S.2.1 dX7_renew_13 rfl (lv_at hl 0 rfl) ?_
  refine lv_iload_n S.1 S.2.1 dX7_renew_14 rfl (lv_at hl 2 rfl) ?_
  refine aw_putf S hE hw 0 (C := RX7) (T := TX7) (N := 3) rfl rfl hinX7 tyX7 tyX7_ok nmX7 2 (by decide) hf19 rfl rfl rfl (Nat.le_of_ble_eq_true rfl) dX7_renew_15 (fun H locs hw => ?_)
  have hw : bW G A s.heap [[(a, .inr (7, [.ref b, .int nl, .int (nI n2)]))], [(b, .inl (gI G, 60, .inl (fa_fill (fun _ => 0) f 60)))]] H locs := hw
  have hw := aw_arr hw 1 rfl (fun _ => 0) (fun j hj => by rw [fa_fill_in hj])
  have hw : bW G A s.heap [[(a, .inr (7, [.ref b, .int nl, .int (nI n2)]))], [(b, .inl (gI G, 60, .inl (fun _ => 0)))]] H locs := hw
  exact aw_vret S hr hlk ha hQ hAe hw dX7_renew_18 (Nat.le_of_ble_eq_true rfl) (Nat.le_of_ble_eq_true rfl) ⟨rfl, rfl⟩
