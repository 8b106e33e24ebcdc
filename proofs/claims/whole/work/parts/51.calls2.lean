/-! more calls -/
theorem prow_cong {n : Nat} {so so2 hs hs2 wa : Nat → Int32} (hn : n ≤ 6) (h1 : ∀ S, S < 2 ^ n → so S = so2 S) (h2 : ∀ S, S < 2 ^ n → hs S = hs2 S) : ∀ k S, S < 2 ^ n → prow n so hs wa k S = prow n so2 hs2 wa k S
  | 0, _, _ => rfl
  | k + 1, S, hS => by
    have ih := prow_cong (wa := wa) hn h1 h2 k
    have hc : ∀ (f : Nat → Int32) s, s ≤ n → ∀ S, chs n hs f s S = chs n hs2 f s S := by
      intro f s
      induction s with
      | zero => intro _ S; rfl
      | succ s ihs =>
        intro hs3 S
        have e : chs n hs f s = chs n hs2 f s := funext (ihs (by omega))
        unfold chs
        rw [e, h2 (2 ^ s) (Nat.pow_lt_pow_right (by omega) (by omega))]
    unfold prow
    rw [hc _ n (Nat.le_refl n)]
    exact chs_cong hn (fun T hT => by rw [mtP, mtP, h1 T hT, ih T hT]) n (Nat.le_refl n) S hS
theorem adN_le : ∀ S, S < 64 → ∀ b, b < 64 → adN S b ≤ S := by decide +kernel
theorem wuN_cong {n : Nat} {so so2 hs hs2 wa : Nat → Int32} {rs rs2 : Nat → Nat → Int32} (hn : n ≤ 6) (h1 : ∀ S, S < 2 ^ n → so S = so2 S) (h2 : ∀ S, S < 2 ^ n → hs S = hs2 S) (h3 : ∀ m, m ≤ 12 → ∀ S, S < 2 ^ n → rs m S = rs2 m S) : ∀ m, m ≤ 12 → wuN n so hs wa rs m = wuN n so2 hs2 wa rs2 m
  | 0, _ => rfl
  | m + 1, hm => by
    have ih := wuN_cong (wa := wa) hn h1 h2 h3 m (by omega)
    have h64 := pow6' hn
    have hb := wuN_lt n so hs wa rs m
    unfold wuN
    rw [← ih]
    have e : fF (fbP so hs wa rs m (wuN n so hs wa rs m)) (2 ^ n) = fF (fbP so2 hs2 wa rs2 m (wuN n so hs wa rs m)) (2 ^ n) := by
      refine fF_cong (fun S hS => ?_)
      unfold fbP rwF mtP
      rw [h1 S hS, h3 (m + 1) (by omega) S hS, h3 m (by omega) _ hb, h2 (adN S (wuN n so hs wa rs m)) (Nat.lt_of_le_of_lt (adN_le S (by omega) _ (by omega)) hS)]
    unfold fbN
    rw [e]
theorem rsR_all {n : Nat} {so hs wa : Nat → Int32} {rs : Nat → Nat → Int32} (hn : n ≤ 6) (h12 : ∀ S, S < 64 → rs 12 S = 0) {m : Nat} (hm : m ≤ 12) {S : Nat} (hS : S < 2 ^ n) : rsR n so hs wa rs 0 m S = prow n so hs wa (12 - m) S := by
  have h64 := pow6' hn
  unfold rsR
  by_cases e : m < 12
  · rw [if_pos ⟨by omega, e⟩, fa_fill_in hS]
  · rw [if_neg (fun z => e z.2), show m = 12 by omega, h12 S (by omega)]
    rfl
theorem kof8 {ki : Int32} (h : 0 ≤ ki.toInt ∧ ki.toInt < 3) : (¬ ki = 1 ∧ ¬ ki = 2) ↔ ki.toInt ≤ (0 : Int32).toInt := by
  rw [fa_eq, fa_eq, li_1, li_2, li_0]; omega
theorem kof1 {ki : Int32} (h : 0 ≤ ki.toInt ∧ ki.toInt < 3) : (¬ ki = 2) ↔ ki.toInt ≤ (1 : Int32).toInt := by
  rw [fa_eq, li_1, li_2]; omega
def f_knows (n : Nat) (sv so_ mo : Int32) (kn : Nat → Int32) : Int32 := if (0 ≤ sv.toInt ∧ sv.toInt < n) ∧ 0 ≤ so_.toInt ∧ so_.toInt < n then (if 0 ≤ mo.toInt ∧ mo.toInt < 12 then noI (fF (fun m => bt (kn m) (tn so_)) 12) 12 else -2) else -1
def f_smP (n : Nat) (sv mo : Int32) : Prop := (0 ≤ sv.toInt ∧ sv.toInt < n) ∧ 0 ≤ mo.toInt ∧ mo.toInt < 12
set_option maxRecDepth 100000 in
set_option maxHeartbeats 4000000 in
theorem c_X10_harm (l : Launch) (G : aw_G) (ad : Nat → Nat) (fl : Int32) (n : Nat) (lw : Int32) (sg : Nat → Option Nat) (sa : Nat → Nat) (kd sk br : Nat → Int32) (la ub : Int32) (wh wk tu wa : Nat → Int32) (sv mo : Int32) (hn : n ≤ 6) (hsg : ∀ i, i < n → sg i = some (sa i)) : CT l G yX10_harm wsX10_harm ({ frames := 6, cells := 0, slots := 0, locals := 127 }) [.ref (ad 0), .int sv, .int mo] [[(ad 0, .inr (9, [.ref (ad 1), .ref (ad 2), .ref (ad 3), .ref (ad 4), .ref (ad 5), .ref (ad 6), .ref (ad 7), .int fl]))], [(ad 2, .inr (0, [.ref (ad 8), .ref (ad 9), .ref (ad 10), .ref (ad 11), .ref (ad 12), .int (nI n), .int lw]))], [(ad 3, .inr (3, [.ref (ad 2), .ref (ad 13), .ref (ad 14), .int la, .int ub]))], [(ad 13, .inl (gI G, 6, .inl wh))], [(ad 14, .inl (gI G, 6, .inl wk))], [(ad 8, .inl (gL G, 6, .inr (.inr (.inr (.inr sg)))))], fam n sa (slE kd sk br), [(ad 9, .inl (gI G, 12, .inl tu))], [(ad 10, .inl (gI G, 12, .inl wa))]] (fun v w => v = some (.int (f_sm n sv mo (hB n (fun j => hoK (kd j)) tu (tn mo + 1) (tn sv)))) ∧ ∃ (la ub : Int32) (wh wk : Nat → Int32), w = [[(ad 0, .inr (9, [.ref (ad 1), .ref (ad 2), .ref (ad 3), .ref (ad 4), .ref (ad 5), .ref (ad 6), .ref (ad 7), .int fl]))], [(ad 2, .inr (0, [.ref (ad 8), .ref (ad 9), .ref (ad 10), .ref (ad 11), .ref (ad 12), .int (nI n), .int lw]))], [(ad 3, .inr (3, [.ref (ad 2), .ref (ad 13), .ref (ad 14), .int la, .int ub]))], [(ad 13, .inl (gI G, 6, .inl wh))], [(ad 14, .inl (gI G, 6, .inl wk))], [(ad 8, .inl (gL G, 6, .inr (.inr (.inr (.inr sg)))))], fam n sa (slE kd sk br), [(ad 9, .inl (gI G, 12, .inl tu))], [(ad 10, .inl (gI G, 12, .inl wa))]]) := by
  refine CT.of (cc := cX10_harm) (nL := 3) (ret := (some .int)) (by decide) rfl (Nat.le_of_ble_eq_true rfl) ?_
  intro p e s m below meth c R args Q A hRm ha hQ hAe hA S hE hr hlk hnm H locs hH0 hL0 ls hl hw
  have S : CallFix p m c cX10_harm 3 s args wsX10_harm RX10 := S
  have hl : lv_has ls 3 [(0, .ref (ad 0)), (1, .int sv), (2, .int mo)] := hl
  have hinX10 : ∀ w ∈ u_ws RX10 TX10 8, w ∈ wsX10_harm := by decide +kernel
  have hf21 := S.2.2.2.2 (.fieldLink RX10 21 "AwakeTurns" "crew" "LAwakeTurns$Crew;") (by decide +kernel)
  have hf30 := S.2.2.2.2 (.fieldLink RX10 30 "AwakeTurns" "walk" "LAwakeTurns$MonthWalk;") (by decide +kernel)
  have hinX0 : ∀ w ∈ u_ws RX0 TX0 7, w ∈ wsX10_harm := by decide +kernel
  have hf126 := S.2.2.2.2 (.fieldLink RX10 126 "AwakeTurns$Crew" "turns" "[I") (by decide +kernel)
  have hinX3 : ∀ w ∈ u_ws RX3 TX3 5, w ∈ wsX10_harm := by decide +kernel
  have hf150 := S.2.2.2.2 (.fieldLink RX10 150 "AwakeTurns$MonthWalk" "harmSoFar" "[I") (by decide +kernel)
  refine lv_aload_n S.1 S.2.1 dX10_harm_0 rfl (lv_at hl 0 rfl) ?_
  refine aw_get S hE hw 0 (C := RX10) (T := TX10) (N := 8) rfl rfl hinX10 1 (by decide) hf21 rfl dX10_harm_1 ?_
  refine lv_iload_n S.1 S.2.1 dX10_harm_4 rfl (lv_at hl 1 rfl) ?_
  refine aw_callV S hE (c_X0_has l G ad n lw sv (by first | assumption | omega)) gX10_harm_X0_has (n := 1) rfl (by decide +kernel) rfl (by rw [hRm]; exact ⟨Nat.le_of_ble_eq_true rfl, Nat.le_of_ble_eq_true rfl⟩) (by rw [hRm]; exact ⟨Nat.le_of_ble_eq_true rfl, Nat.le_of_ble_eq_true rfl⟩) hw hA hl.1 [1] rfl rfl (aw_recv (i := 1) hE hw rfl rfl rfl) rfl (Nat.le_of_ble_eq_true rfl) dX10_harm_5 ?_
  rintro v w1 H locs ⟨rfl, rfl⟩ hw
  have hw : bW G A s.heap [[(ad 0, .inr (9, [.ref (ad 1), .ref (ad 2), .ref (ad 3), .ref (ad 4), .ref (ad 5), .ref (ad 6), .ref (ad 7), .int fl]))], [(ad 2, .inr (0, [.ref (ad 8), .ref (ad 9), .ref (ad 10), .ref (ad 11), .ref (ad 12), .int (nI n), .int lw]))], [(ad 3, .inr (3, [.ref (ad 2), .ref (ad 13), .ref (ad 14), .int la, .int ub]))], [(ad 13, .inl (gI G, 6, .inl wh))], [(ad 14, .inl (gI G, 6, .inl wk))], [(ad 8, .inl (gL G, 6, .inr (.inr (.inr (.inr sg)))))], fam n sa (slE kd sk br), [(ad 9, .inl (gI G, 12, .inl tu))], [(ad 10, .inl (gI G, 12, .inl wa))]] H locs := hw
  refine W.eq (g2 := (F0 m 8 ls [.int (if 0 ≤ sv.toInt ∧ sv.toInt < n then 1 else 0)])) rfl ?_
  refine aw_ifne (P := 0 ≤ sv.toInt ∧ sv.toInt < n) (tgt := 13) S dX10_harm_8 (by decide) (fun c8 => ?_) (fun c8 => ?_)
  · have hb_sv : tn sv < n := aw_tnL c8
    have hl := Eq.mp (congrArg (fun z_ : Int32 => lv_has ls 3 [(0, .ref (ad 0)), (1, .int z_), (2, .int mo)]) (show (sv : Int32) = nI (tn sv) from (aw_tnE c8))) hl
    have hl : lv_has ls 3 [(0, .ref (ad 0)), (1, .int (nI (tn sv))), (2, .int mo)] := hl
    refine lv_iload_n S.1 S.2.1 dX10_harm_13 rfl (lv_at hl 2 rfl) ?_
    refine aw_callS S hE (c_X10_isMonth l G mo) gX10_harm_X10_isMonth (n := 1) rfl (by decide +kernel) rfl (by rw [hRm]; exact ⟨Nat.le_of_ble_eq_true rfl, Nat.le_of_ble_eq_true rfl⟩) (by rw [hRm]; exact ⟨Nat.le_of_ble_eq_true rfl, Nat.le_of_ble_eq_true rfl⟩) hw hA hl.1 [] rfl rfl rfl (Nat.le_of_ble_eq_true rfl) dX10_harm_14 ?_
    rintro v w1 H locs ⟨rfl, rfl⟩ hw
    have hw : bW G A s.heap [[(ad 0, .inr (9, [.ref (ad 1), .ref (ad 2), .ref (ad 3), .ref (ad 4), .ref (ad 5), .ref (ad 6), .ref (ad 7), .int fl]))], [(ad 2, .inr (0, [.ref (ad 8), .ref (ad 9), .ref (ad 10), .ref (ad 11), .ref (ad 12), .int (nI n), .int lw]))], [(ad 3, .inr (3, [.ref (ad 2), .ref (ad 13), .ref (ad 14), .int la, .int ub]))], [(ad 13, .inl (gI G, 6, .inl wh))], [(ad 14, .inl (gI G, 6, .inl wk))], [(ad 8, .inl (gL G, 6, .inr (.inr (.inr (.inr sg)))))], fam n sa (slE kd sk br), [(ad 9, .inl (gI G, 12, .inl tu))], [(ad 10, .inl (gI G, 12, .inl wa))]] H locs := hw
    refine W.eq (g2 := (F0 m 17 ls [.int (if 0 ≤ mo.toInt ∧ mo.toInt < 12 then 1 else 0)])) rfl ?_
    refine aw_ifne (P := 0 ≤ mo.toInt ∧ mo.toInt < 12) (tgt := 23) S dX10_harm_17 (by decide) (fun c17 => ?_) (fun c17 => ?_)
    · have hb_mo : tn mo < 12 := aw_tnL c17
      have hl := Eq.mp (congrArg (fun z_ : Int32 => lv_has ls 3 [(0, .ref (ad 0)), (1, .int (nI (tn sv))), (2, .int z_)]) (show (mo : Int32) = nI (tn mo) from (aw_tnE c17))) hl
      have hl : lv_has ls 3 [(0, .ref (ad 0)), (1, .int (nI (tn sv))), (2, .int (nI (tn mo)))] := hl
      refine lv_aload_n S.1 S.2.1 dX10_harm_23 rfl (lv_at hl 0 rfl) ?_
      refine aw_get S hE hw 0 (C := RX10) (T := TX10) (N := 8) rfl rfl hinX10 2 (by decide) hf30 rfl dX10_harm_24 ?_
      refine lv_aload_n S.1 S.2.1 dX10_harm_27 rfl (lv_at hl 0 rfl) ?_
      refine aw_get S hE hw 0 (C := RX10) (T := TX10) (N := 8) rfl rfl hinX10 1 (by decide) hf21 rfl dX10_harm_28 ?_
      refine aw_get S hE hw 1 (C := RX0) (T := TX0) (N := 7) rfl rfl hinX0 1 (by decide) hf126 rfl dX10_harm_31 ?_
      refine lv_iload_n S.1 S.2.1 dX10_harm_34 rfl (lv_at hl 2 rfl) ?_
      refine aw_callV S hE (c_X3_goTo l G ad n lw sg sa kd sk br la ub wh wk (ad 9) tu wa (tn mo) (by first | assumption | omega) (by first | assumption | omega) (by first | assumption | omega)) gX10_harm_X3_goTo (n := 2) rfl (by decide +kernel) rfl (by rw [hRm]; exact ⟨Nat.le_of_ble_eq_true rfl, Nat.le_of_ble_eq_true rfl⟩) (by rw [hRm]; exact ⟨Nat.le_of_ble_eq_true rfl, Nat.le_of_ble_eq_true rfl⟩) hw hA hl.1 [2, 3, 4, 1, 5, 6, 7, 8] rfl rfl (aw_recv (i := 2) hE hw rfl rfl rfl) rfl (Nat.le_of_ble_eq_true rfl) dX10_harm_35 ?_
      rintro v w1 H locs ⟨rfl, rfl⟩ hw
      have hw : bW G A s.heap [[(ad 0, .inr (9, [.ref (ad 1), .ref (ad 2), .ref (ad 3), .ref (ad 4), .ref (ad 5), .ref (ad 6), .ref (ad 7), .int fl]))], [(ad 2, .inr (0, [.ref (ad 8), .ref (ad 9), .ref (ad 10), .ref (ad 11), .ref (ad 12), .int (nI n), .int lw]))], [(ad 3, .inr (3, [.ref (ad 2), .ref (ad 13), .ref (ad 14), .int (laB n lw sk tu wa ((tn mo) + 1)), .int (uB tu ((tn mo) + 1))]))], [(ad 13, .inl (gI G, 6, .inl (fa_fill (hB n (fun j => hoK (kd j)) tu ((tn mo) + 1)) wh n)))], [(ad 14, .inl (gI G, 6, .inl (fa_fill (kA n lw sk tu ((tn mo) + 1 - 1)) wk n)))], [(ad 8, .inl (gL G, 6, .inr (.inr (.inr (.inr sg)))))], fam n sa (slE kd sk br), [(ad 9, .inl (gI G, 12, .inl tu))], [(ad 10, .inl (gI G, 12, .inl wa))]] H locs := hw
      refine W.eq (g2 := (F0 m 38 ls [])) rfl ?_
      refine lv_aload_n S.1 S.2.1 dX10_harm_38 rfl (lv_at hl 0 rfl) ?_
      refine aw_get S hE hw 0 (C := RX10) (T := TX10) (N := 8) rfl rfl hinX10 2 (by decide) hf30 rfl dX10_harm_39 ?_
      refine aw_get S hE hw 2 (C := RX3) (T := TX3) (N := 5) rfl rfl hinX3 1 (by decide) hf150 rfl dX10_harm_42 ?_
      refine lv_iload_n S.1 S.2.1 dX10_harm_45 rfl (lv_at hl 1 rfl) ?_
      refine aw_iald S hE hw 3 (k := (tn sv)) rfl (by omega) (by decide) dX10_harm_46 ?_
      refine aw_eqi (show ((fa_fill (hB n (fun j => hoK (kd j)) tu ((tn mo) + 1)) wh n) (tn sv) : Int32) = f_sm n sv mo (hB n (fun j => hoK (kd j)) tu (tn mo + 1) (tn sv)) from (by rw [f_sm]; first | rw [if_neg c8] | (rw [if_pos c8]; first | rw [if_neg c17] | (rw [if_pos c17, fa_fill_in hb_sv])))) ?_
      exact aw_iret S hr hlk ha hQ hAe hw dX10_harm_47 rfl (Nat.le_of_ble_eq_true rfl) (Nat.le_of_ble_eq_true rfl) ⟨rfl, _, _, _, _, rfl⟩
    · refine lv_bipush (v := (-2)) S.1 S.2.1 dX10_harm_20 (by decide) ?_
      refine aw_eqi (show ((-2) : Int32) = f_sm n sv mo (hB n (fun j => hoK (kd j)) tu (tn mo + 1) (tn sv)) from (by rw [f_sm]; first | rw [if_neg c8] | (rw [if_pos c8]; first | rw [if_neg c17] | (rw [if_pos c17, fa_fill_in hb_sv])))) ?_
      exact aw_iret S hr hlk ha hQ hAe hw dX10_harm_22 rfl (Nat.le_of_ble_eq_true rfl) (Nat.le_of_ble_eq_true rfl) ⟨rfl, _, _, _, _, rfl⟩
  · refine lv_iconst (v := (-1)) S.1 S.2.1 dX10_harm_11 (by decide) ?_
    refine aw_eqi (show ((-1) : Int32) = f_sm n sv mo (hB n (fun j => hoK (kd j)) tu (tn mo + 1) (tn sv)) from (by rw [f_sm]; first | rw [if_neg c8] | (rw [if_pos c8]; first | rw [if_neg c17] | (rw [if_pos c17, fa_fill_in hb_sv])))) ?_
    exact aw_iret S hr hlk ha hQ hAe hw dX10_harm_12 rfl (Nat.le_of_ble_eq_true rfl) (Nat.le_of_ble_eq_true rfl) ⟨rfl, _, _, _, _, rfl⟩
set_option maxRecDepth 100000 in
set_option maxHeartbeats 4000000 in
theorem c_X10_skills (l : Launch) (G : aw_G) (ad : Nat → Nat) (fl : Int32) (n : Nat) (lw : Int32) (sg : Nat → Option Nat) (sa : Nat → Nat) (kd sk br : Nat → Int32) (la ub : Int32) (wh wk tu wa : Nat → Int32) (sv mo : Int32) (hn : n ≤ 6) (hsg : ∀ i, i < n → sg i = some (sa i)) : CT l G yX10_skills wsX10_skills ({ frames := 6, cells := 0, slots := 0, locals := 127 }) [.ref (ad 0), .int sv, .int mo] [[(ad 0, .inr (9, [.ref (ad 1), .ref (ad 2), .ref (ad 3), .ref (ad 4), .ref (ad 5), .ref (ad 6), .ref (ad 7), .int fl]))], [(ad 2, .inr (0, [.ref (ad 8), .ref (ad 9), .ref (ad 10), .ref (ad 11), .ref (ad 12), .int (nI n), .int lw]))], [(ad 3, .inr (3, [.ref (ad 2), .ref (ad 13), .ref (ad 14), .int la, .int ub]))], [(ad 13, .inl (gI G, 6, .inl wh))], [(ad 14, .inl (gI G, 6, .inl wk))], [(ad 8, .inl (gL G, 6, .inr (.inr (.inr (.inr sg)))))], fam n sa (slE kd sk br), [(ad 9, .inl (gI G, 12, .inl tu))], [(ad 10, .inl (gI G, 12, .inl wa))]] (fun v w => v = some (.int (f_sm n sv mo (kA n lw sk tu (tn mo) (tn sv)))) ∧ ∃ (la ub : Int32) (wh wk : Nat → Int32), w = [[(ad 0, .inr (9, [.ref (ad 1), .ref (ad 2), .ref (ad 3), .ref (ad 4), .ref (ad 5), .ref (ad 6), .ref (ad 7), .int fl]))], [(ad 2, .inr (0, [.ref (ad 8), .ref (ad 9), .ref (ad 10), .ref (ad 11), .ref (ad 12), .int (nI n), .int lw]))], [(ad 3, .inr (3, [.ref (ad 2), .ref (ad 13), .ref (ad 14), .int la, .int ub]))], [(ad 13, .inl (gI G, 6, .inl wh))], [(ad 14, .inl (gI G, 6, .inl wk))], [(ad 8, .inl (gL G, 6, .inr (.inr (.inr (.inr sg)))))], fam n sa (slE kd sk br), [(ad 9, .inl (gI G, 12, .inl tu))], [(ad 10, .inl (gI G, 12, .inl wa))]]) := by
  refine CT.of (cc := cX10_skills) (nL := 3) (ret := (some .int)) (by decide) rfl (Nat.le_of_ble_eq_true rfl) ?_
  intro p e s m below meth c R args Q A hRm ha hQ hAe hA S hE hr hlk hnm H locs hH0 hL0 ls hl hw
  have S : CallFix p m c cX10_skills 3 s args wsX10_skills RX10 := S
  have hl : lv_has ls 3 [(0, .ref (ad 0)), (1, .int sv), (2, .int mo)] := hl
  have hinX10 : ∀ w ∈ u_ws RX10 TX10 8, w ∈ wsX10_skills := by decide +kernel
  have hf21 := S.2.2.2.2 (.fieldLink RX10 21 "AwakeTurns" "crew" "LAwakeTurns$Crew;") (by decide +kernel)
  have hf30 := S.2.2.2.2 (.fieldLink RX10 30 "AwakeTurns" "walk" "LAwakeTurns$MonthWalk;") (by decide +kernel)
  have hinX0 : ∀ w ∈ u_ws RX0 TX0 7, w ∈ wsX10_skills := by decide +kernel
  have hf126 := S.2.2.2.2 (.fieldLink RX10 126 "AwakeTurns$Crew" "turns" "[I") (by decide +kernel)
  have hinX3 : ∀ w ∈ u_ws RX3 TX3 5, w ∈ wsX10_skills := by decide +kernel
  have hf153 := S.2.2.2.2 (.fieldLink RX10 153 "AwakeTurns$MonthWalk" "known" "[I") (by decide +kernel)
  refine lv_aload_n S.1 S.2.1 dX10_skills_0 rfl (lv_at hl 0 rfl) ?_
  refine aw_get S hE hw 0 (C := RX10) (T := TX10) (N := 8) rfl rfl hinX10 1 (by decide) hf21 rfl dX10_skills_1 ?_
  refine lv_iload_n S.1 S.2.1 dX10_skills_4 rfl (lv_at hl 1 rfl) ?_
  refine aw_callV S hE (c_X0_has l G ad n lw sv (by first | assumption | omega)) gX10_skills_X0_has (n := 1) rfl (by decide +kernel) rfl (by rw [hRm]; exact ⟨Nat.le_of_ble_eq_true rfl, Nat.le_of_ble_eq_true rfl⟩) (by rw [hRm]; exact ⟨Nat.le_of_ble_eq_true rfl, Nat.le_of_ble_eq_true rfl⟩) hw hA hl.1 [1] rfl rfl (aw_recv (i := 1) hE hw rfl rfl rfl) rfl (Nat.le_of_ble_eq_true rfl) dX10_skills_5 ?_
  rintro v w1 H locs ⟨rfl, rfl⟩ hw
  have hw : bW G A s.heap [[(ad 0, .inr (9, [.ref (ad 1), .ref (ad 2), .ref (ad 3), .ref (ad 4), .ref (ad 5), .ref (ad 6), .ref (ad 7), .int fl]))], [(ad 2, .inr (0, [.ref (ad 8), .ref (ad 9), .ref (ad 10), .ref (ad 11), .ref (ad 12), .int (nI n), .int lw]))], [(ad 3, .inr (3, [.ref (ad 2), .ref (ad 13), .ref (ad 14), .int la, .int ub]))], [(ad 13, .inl (gI G, 6, .inl wh))], [(ad 14, .inl (gI G, 6, .inl wk))], [(ad 8, .inl (gL G, 6, .inr (.inr (.inr (.inr sg)))))], fam n sa (slE kd sk br), [(ad 9, .inl (gI G, 12, .inl tu))], [(ad 10, .inl (gI G, 12, .inl wa))]] H locs := hw
  refine W.eq (g2 := (F0 m 8 ls [.int (if 0 ≤ sv.toInt ∧ sv.toInt < n then 1 else 0)])) rfl ?_
  refine aw_ifne (P := 0 ≤ sv.toInt ∧ sv.toInt < n) (tgt := 13) S dX10_skills_8 (by decide) (fun c8 => ?_) (fun c8 => ?_)
  · have hb_sv : tn sv < n := aw_tnL c8
    have hl := Eq.mp (congrArg (fun z_ : Int32 => lv_has ls 3 [(0, .ref (ad 0)), (1, .int z_), (2, .int mo)]) (show (sv : Int32) = nI (tn sv) from (aw_tnE c8))) hl
    have hl : lv_has ls 3 [(0, .ref (ad 0)), (1, .int (nI (tn sv))), (2, .int mo)] := hl
    refine lv_iload_n S.1 S.2.1 dX10_skills_13 rfl (lv_at hl 2 rfl) ?_
    refine aw_callS S hE (c_X10_isMonth l G mo) gX10_skills_X10_isMonth (n := 1) rfl (by decide +kernel) rfl (by rw [hRm]; exact ⟨Nat.le_of_ble_eq_true rfl, Nat.le_of_ble_eq_true rfl⟩) (by rw [hRm]; exact ⟨Nat.le_of_ble_eq_true rfl, Nat.le_of_ble_eq_true rfl⟩) hw hA hl.1 [] rfl rfl rfl (Nat.le_of_ble_eq_true rfl) dX10_skills_14 ?_
    rintro v w1 H locs ⟨rfl, rfl⟩ hw
    have hw : bW G A s.heap [[(ad 0, .inr (9, [.ref (ad 1), .ref (ad 2), .ref (ad 3), .ref (ad 4), .ref (ad 5), .ref (ad 6), .ref (ad 7), .int fl]))], [(ad 2, .inr (0, [.ref (ad 8), .ref (ad 9), .ref (ad 10), .ref (ad 11), .ref (ad 12), .int (nI n), .int lw]))], [(ad 3, .inr (3, [.ref (ad 2), .ref (ad 13), .ref (ad 14), .int la, .int ub]))], [(ad 13, .inl (gI G, 6, .inl wh))], [(ad 14, .inl (gI G, 6, .inl wk))], [(ad 8, .inl (gL G, 6, .inr (.inr (.inr (.inr sg)))))], fam n sa (slE kd sk br), [(ad 9, .inl (gI G, 12, .inl tu))], [(ad 10, .inl (gI G, 12, .inl wa))]] H locs := hw
    refine W.eq (g2 := (F0 m 17 ls [.int (if 0 ≤ mo.toInt ∧ mo.toInt < 12 then 1 else 0)])) rfl ?_
    refine aw_ifne (P := 0 ≤ mo.toInt ∧ mo.toInt < 12) (tgt := 23) S dX10_skills_17 (by decide) (fun c17 => ?_) (fun c17 => ?_)
    · have hb_mo : tn mo < 12 := aw_tnL c17
      have hl := Eq.mp (congrArg (fun z_ : Int32 => lv_has ls 3 [(0, .ref (ad 0)), (1, .int (nI (tn sv))), (2, .int z_)]) (show (mo : Int32) = nI (tn mo) from (aw_tnE c17))) hl
      have hl : lv_has ls 3 [(0, .ref (ad 0)), (1, .int (nI (tn sv))), (2, .int (nI (tn mo)))] := hl
      refine lv_aload_n S.1 S.2.1 dX10_skills_23 rfl (lv_at hl 0 rfl) ?_
      refine aw_get S hE hw 0 (C := RX10) (T := TX10) (N := 8) rfl rfl hinX10 2 (by decide) hf30 rfl dX10_skills_24 ?_
      refine lv_aload_n S.1 S.2.1 dX10_skills_27 rfl (lv_at hl 0 rfl) ?_
      refine aw_get S hE hw 0 (C := RX10) (T := TX10) (N := 8) rfl rfl hinX10 1 (by decide) hf21 rfl dX10_skills_28 ?_
      refine aw_get S hE hw 1 (C := RX0) (T := TX0) (N := 7) rfl rfl hinX0 1 (by decide) hf126 rfl dX10_skills_31 ?_
      refine lv_iload_n S.1 S.2.1 dX10_skills_34 rfl (lv_at hl 2 rfl) ?_
      refine aw_callV S hE (c_X3_goTo l G ad n lw sg sa kd sk br la ub wh wk (ad 9) tu wa (tn mo) (by first | assumption | omega) (by first | assumption | omega) (by first | assumption | omega)) gX10_skills_X3_goTo (n := 2) rfl (by decide +kernel) rfl (by rw [hRm]; exact ⟨Nat.le_of_ble_eq_true rfl, Nat.le_of_ble_eq_true rfl⟩) (by rw [hRm]; exact ⟨Nat.le_of_ble_eq_true rfl, Nat.le_of_ble_eq_true rfl⟩) hw hA hl.1 [2, 3, 4, 1, 5, 6, 7, 8] rfl rfl (aw_recv (i := 2) hE hw rfl rfl rfl) rfl (Nat.le_of_ble_eq_true rfl) dX10_skills_35 ?_
      rintro v w1 H locs ⟨rfl, rfl⟩ hw
      have hw : bW G A s.heap [[(ad 0, .inr (9, [.ref (ad 1), .ref (ad 2), .ref (ad 3), .ref (ad 4), .ref (ad 5), .ref (ad 6), .ref (ad 7), .int fl]))], [(ad 2, .inr (0, [.ref (ad 8), .ref (ad 9), .ref (ad 10), .ref (ad 11), .ref (ad 12), .int (nI n), .int lw]))], [(ad 3, .inr (3, [.ref (ad 2), .ref (ad 13), .ref (ad 14), .int (laB n lw sk tu wa ((tn mo) + 1)), .int (uB tu ((tn mo) + 1))]))], [(ad 13, .inl (gI G, 6, .inl (fa_fill (hB n (fun j => hoK (kd j)) tu ((tn mo) + 1)) wh n)))], [(ad 14, .inl (gI G, 6, .inl (fa_fill (kA n lw sk tu ((tn mo) + 1 - 1)) wk n)))], [(ad 8, .inl (gL G, 6, .inr (.inr (.inr (.inr sg)))))], fam n sa (slE kd sk br), [(ad 9, .inl (gI G, 12, .inl tu))], [(ad 10, .inl (gI G, 12, .inl wa))]] H locs := hw
      refine W.eq (g2 := (F0 m 38 ls [])) rfl ?_
      refine lv_aload_n S.1 S.2.1 dX10_skills_38 rfl (lv_at hl 0 rfl) ?_
      refine aw_get S hE hw 0 (C := RX10) (T := TX10) (N := 8) rfl rfl hinX10 2 (by decide) hf30 rfl dX10_skills_39 ?_
      refine aw_get S hE hw 2 (C := RX3) (T := TX3) (N := 5) rfl rfl hinX3 2 (by decide) hf153 rfl dX10_skills_42 ?_
      refine lv_iload_n S.1 S.2.1 dX10_skills_45 rfl (lv_at hl 1 rfl) ?_
      refine aw_iald S hE hw 4 (k := (tn sv)) rfl (by omega) (by decide) dX10_skills_46 ?_
      refine aw_eqi (show ((fa_fill (kA n lw sk tu ((tn mo) + 1 - 1)) wk n) (tn sv) : Int32) = f_sm n sv mo (kA n lw sk tu (tn mo) (tn sv)) from (by rw [f_sm]; first | rw [if_neg c8] | (rw [if_pos c8]; first | rw [if_neg c17] | (rw [if_pos c17, fa_fill_in hb_sv]; rfl)))) ?_
      exact aw_iret S hr hlk ha hQ hAe hw dX10_skills_47 rfl (Nat.le_of_ble_eq_true rfl) (Nat.le_of_ble_eq_true rfl) ⟨rfl, _, _, _, _, rfl⟩
    · refine lv_bipush (v := (-2)) S.1 S.2.1 dX10_skills_20 (by decide) ?_
      refine aw_eqi (show ((-2) : Int32) = f_sm n sv mo (kA n lw sk tu (tn mo) (tn sv)) from (by rw [f_sm]; first | rw [if_neg c8] | (rw [if_pos c8]; first | rw [if_neg c17] | (rw [if_pos c17, fa_fill_in hb_sv]; rfl)))) ?_
      exact aw_iret S hr hlk ha hQ hAe hw dX10_skills_22 rfl (Nat.le_of_ble_eq_true rfl) (Nat.le_of_ble_eq_true rfl) ⟨rfl, _, _, _, _, rfl⟩
  · refine lv_iconst (v := (-1)) S.1 S.2.1 dX10_skills_11 (by decide) ?_
    refine aw_eqi (show ((-1) : Int32) = f_sm n sv mo (kA n lw sk tu (tn mo) (tn sv)) from (by rw [f_sm]; first | rw [if_neg c8] | (rw [if_pos c8]; first | rw [if_neg c17] | (rw [if_pos c17, fa_fill_in hb_sv]; rfl)))) ?_
    exact aw_iret S hr hlk ha hQ hAe hw dX10_skills_12 rfl (Nat.le_of_ble_eq_true rfl) (Nat.le_of_ble_eq_true rfl) ⟨rfl, _, _, _, _, rfl⟩
set_option maxRecDepth 100000 in
set_option maxHeartbeats 4000000 in
theorem c_X10_lacks (l : Launch) (G : aw_G) (ad : Nat → Nat) (fl : Int32) (n : Nat) (lw : Int32) (sg : Nat → Option Nat) (sa : Nat → Nat) (kd sk br : Nat → Int32) (la ub : Int32) (wh wk tu wa : Nat → Int32) (mo : Int32) (hn : n ≤ 6) (hsg : ∀ i, i < n → sg i = some (sa i)) : CT l G yX10_lacks wsX10_lacks ({ frames := 6, cells := 0, slots := 0, locals := 127 }) [.ref (ad 0), .int mo] [[(ad 0, .inr (9, [.ref (ad 1), .ref (ad 2), .ref (ad 3), .ref (ad 4), .ref (ad 5), .ref (ad 6), .ref (ad 7), .int fl]))], [(ad 2, .inr (0, [.ref (ad 8), .ref (ad 9), .ref (ad 10), .ref (ad 11), .ref (ad 12), .int (nI n), .int lw]))], [(ad 3, .inr (3, [.ref (ad 2), .ref (ad 13), .ref (ad 14), .int la, .int ub]))], [(ad 13, .inl (gI G, 6, .inl wh))], [(ad 14, .inl (gI G, 6, .inl wk))], [(ad 8, .inl (gL G, 6, .inr (.inr (.inr (.inr sg)))))], fam n sa (slE kd sk br), [(ad 9, .inl (gI G, 12, .inl tu))], [(ad 10, .inl (gI G, 12, .inl wa))]] (fun v w => v = some (.int (f_ms n mo (lkF n lw sk tu wa (tn mo)))) ∧ ∃ (la ub : Int32) (wh wk : Nat → Int32), w = [[(ad 0, .inr (9, [.ref (ad 1), .ref (ad 2), .ref (ad 3), .ref (ad 4), .ref (ad 5), .ref (ad 6), .ref (ad 7), .int fl]))], [(ad 2, .inr (0, [.ref (ad 8), .ref (ad 9), .ref (ad 10), .ref (ad 11), .ref (ad 12), .int (nI n), .int lw]))], [(ad 3, .inr (3, [.ref (ad 2), .ref (ad 13), .ref (ad 14), .int la, .int ub]))], [(ad 13, .inl (gI G, 6, .inl wh))], [(ad 14, .inl (gI G, 6, .inl wk))], [(ad 8, .inl (gL G, 6, .inr (.inr (.inr (.inr sg)))))], fam n sa (slE kd sk br), [(ad 9, .inl (gI G, 12, .inl tu))], [(ad 10, .inl (gI G, 12, .inl wa))]]) := by
  refine CT.of (cc := cX10_lacks) (nL := 2) (ret := (some .int)) (by decide) rfl (Nat.le_of_ble_eq_true rfl) ?_
  intro p e s m below meth c R args Q A hRm ha hQ hAe hA S hE hr hlk hnm H locs hH0 hL0 ls hl hw
  have S : CallFix p m c cX10_lacks 2 s args wsX10_lacks RX10 := S
  have hl : lv_has ls 2 [(0, .ref (ad 0)), (1, .int mo)] := hl
  have hinX10 : ∀ w ∈ u_ws RX10 TX10 8, w ∈ wsX10_lacks := by decide +kernel
  have hf30 := S.2.2.2.2 (.fieldLink RX10 30 "AwakeTurns" "walk" "LAwakeTurns$MonthWalk;") (by decide +kernel)
  have hf21 := S.2.2.2.2 (.fieldLink RX10 21 "AwakeTurns" "crew" "LAwakeTurns$Crew;") (by decide +kernel)
  have hinX0 : ∀ w ∈ u_ws RX0 TX0 7, w ∈ wsX10_lacks := by decide +kernel
  have hf126 := S.2.2.2.2 (.fieldLink RX10 126 "AwakeTurns$Crew" "turns" "[I") (by decide +kernel)
  have hinX3 : ∀ w ∈ u_ws RX3 TX3 5, w ∈ wsX10_lacks := by decide +kernel
  have hf156 := S.2.2.2.2 (.fieldLink RX10 156 "AwakeTurns$MonthWalk" "lacking" "I") (by decide +kernel)
  refine lv_iload_n S.1 S.2.1 dX10_lacks_0 rfl (lv_at hl 1 rfl) ?_
  refine aw_callS S hE (c_X10_isMonth l G mo) gX10_lacks_X10_isMonth (n := 1) rfl (by decide +kernel) rfl (by rw [hRm]; exact ⟨Nat.le_of_ble_eq_true rfl, Nat.le_of_ble_eq_true rfl⟩) (by rw [hRm]; exact ⟨Nat.le_of_ble_eq_true rfl, Nat.le_of_ble_eq_true rfl⟩) hw hA hl.1 [] rfl rfl rfl (Nat.le_of_ble_eq_true rfl) dX10_lacks_1 ?_
  rintro v w1 H locs ⟨rfl, rfl⟩ hw
  have hw : bW G A s.heap [[(ad 0, .inr (9, [.ref (ad 1), .ref (ad 2), .ref (ad 3), .ref (ad 4), .ref (ad 5), .ref (ad 6), .ref (ad 7), .int fl]))], [(ad 2, .inr (0, [.ref (ad 8), .ref (ad 9), .ref (ad 10), .ref (ad 11), .ref (ad 12), .int (nI n), .int lw]))], [(ad 3, .inr (3, [.ref (ad 2), .ref (ad 13), .ref (ad 14), .int la, .int ub]))], [(ad 13, .inl (gI G, 6, .inl wh))], [(ad 14, .inl (gI G, 6, .inl wk))], [(ad 8, .inl (gL G, 6, .inr (.inr (.inr (.inr sg)))))], fam n sa (slE kd sk br), [(ad 9, .inl (gI G, 12, .inl tu))], [(ad 10, .inl (gI G, 12, .inl wa))]] H locs := hw
  refine W.eq (g2 := (F0 m 4 ls [.int (if 0 ≤ mo.toInt ∧ mo.toInt < 12 then 1 else 0)])) rfl ?_
  refine aw_ifne (P := 0 ≤ mo.toInt ∧ mo.toInt < 12) (tgt := 10) S dX10_lacks_4 (by decide) (fun c4 => ?_) (fun c4 => ?_)
  · have hb_mo : tn mo < 12 := aw_tnL c4
    have hl := Eq.mp (congrArg (fun z_ : Int32 => lv_has ls 2 [(0, .ref (ad 0)), (1, .int z_)]) (show (mo : Int32) = nI (tn mo) from (aw_tnE c4))) hl
    have hl : lv_has ls 2 [(0, .ref (ad 0)), (1, .int (nI (tn mo)))] := hl
    refine lv_aload_n S.1 S.2.1 dX10_lacks_10 rfl (lv_at hl 0 rfl) ?_
    refine aw_callV S hE (c_X10_noShip l G ad fl n lw (by first | assumption | omega)) gX10_lacks_X10_noShip (n := 0) rfl (by decide +kernel) rfl (by rw [hRm]; exact ⟨Nat.le_of_ble_eq_true rfl, Nat.le_of_ble_eq_true rfl⟩) (by rw [hRm]; exact ⟨Nat.le_of_ble_eq_true rfl, Nat.le_of_ble_eq_true rfl⟩) hw hA hl.1 [0, 1] rfl rfl (aw_recv (i := 0) hE hw rfl rfl rfl) rfl (Nat.le_of_ble_eq_true rfl) dX10_lacks_11 ?_
    rintro v w1 H locs ⟨rfl, rfl⟩ hw
    have hw : bW G A s.heap [[(ad 0, .inr (9, [.ref (ad 1), .ref (ad 2), .ref (ad 3), .ref (ad 4), .ref (ad 5), .ref (ad 6), .ref (ad 7), .int fl]))], [(ad 2, .inr (0, [.ref (ad 8), .ref (ad 9), .ref (ad 10), .ref (ad 11), .ref (ad 12), .int (nI n), .int lw]))], [(ad 3, .inr (3, [.ref (ad 2), .ref (ad 13), .ref (ad 14), .int la, .int ub]))], [(ad 13, .inl (gI G, 6, .inl wh))], [(ad 14, .inl (gI G, 6, .inl wk))], [(ad 8, .inl (gL G, 6, .inr (.inr (.inr (.inr sg)))))], fam n sa (slE kd sk br), [(ad 9, .inl (gI G, 12, .inl tu))], [(ad 10, .inl (gI G, 12, .inl wa))]] H locs := hw
    refine W.eq (g2 := (F0 m 14 ls [.int (if n = 0 then 1 else 0)])) rfl ?_
    refine aw_ifeq (P := n = 0) (tgt := 20) S dX10_lacks_14 (by decide) (fun c14 => ?_) (fun c14 => ?_)
    · refine lv_aload_n S.1 S.2.1 dX10_lacks_20 rfl (lv_at hl 0 rfl) ?_
      refine aw_get S hE hw 0 (C := RX10) (T := TX10) (N := 8) rfl rfl hinX10 2 (by decide) hf30 rfl dX10_lacks_21 ?_
      refine lv_aload_n S.1 S.2.1 dX10_lacks_24 rfl (lv_at hl 0 rfl) ?_
      refine aw_get S hE hw 0 (C := RX10) (T := TX10) (N := 8) rfl rfl hinX10 1 (by decide) hf21 rfl dX10_lacks_25 ?_
      refine aw_get S hE hw 1 (C := RX0) (T := TX0) (N := 7) rfl rfl hinX0 1 (by decide) hf126 rfl dX10_lacks_28 ?_
      refine lv_iload_n S.1 S.2.1 dX10_lacks_31 rfl (lv_at hl 1 rfl) ?_
      refine aw_callV S hE (c_X3_goTo l G ad n lw sg sa kd sk br la ub wh wk (ad 9) tu wa (tn mo) (by first | assumption | omega) (by first | assumption | omega) (by first | assumption | omega)) gX10_lacks_X3_goTo (n := 2) rfl (by decide +kernel) rfl (by rw [hRm]; exact ⟨Nat.le_of_ble_eq_true rfl, Nat.le_of_ble_eq_true rfl⟩) (by rw [hRm]; exact ⟨Nat.le_of_ble_eq_true rfl, Nat.le_of_ble_eq_true rfl⟩) hw hA hl.1 [2, 3, 4, 1, 5, 6, 7, 8] rfl rfl (aw_recv (i := 2) hE hw rfl rfl rfl) rfl (Nat.le_of_ble_eq_true rfl) dX10_lacks_32 ?_
      rintro v w1 H locs ⟨rfl, rfl⟩ hw
      have hw : bW G A s.heap [[(ad 0, .inr (9, [.ref (ad 1), .ref (ad 2), .ref (ad 3), .ref (ad 4), .ref (ad 5), .ref (ad 6), .ref (ad 7), .int fl]))], [(ad 2, .inr (0, [.ref (ad 8), .ref (ad 9), .ref (ad 10), .ref (ad 11), .ref (ad 12), .int (nI n), .int lw]))], [(ad 3, .inr (3, [.ref (ad 2), .ref (ad 13), .ref (ad 14), .int (laB n lw sk tu wa ((tn mo) + 1)), .int (uB tu ((tn mo) + 1))]))], [(ad 13, .inl (gI G, 6, .inl (fa_fill (hB n (fun j => hoK (kd j)) tu ((tn mo) + 1)) wh n)))], [(ad 14, .inl (gI G, 6, .inl (fa_fill (kA n lw sk tu ((tn mo) + 1 - 1)) wk n)))], [(ad 8, .inl (gL G, 6, .inr (.inr (.inr (.inr sg)))))], fam n sa (slE kd sk br), [(ad 9, .inl (gI G, 12, .inl tu))], [(ad 10, .inl (gI G, 12, .inl wa))]] H locs := hw
      refine W.eq (g2 := (F0 m 35 ls [])) rfl ?_
      refine lv_aload_n S.1 S.2.1 dX10_lacks_35 rfl (lv_at hl 0 rfl) ?_
      refine aw_get S hE hw 0 (C := RX10) (T := TX10) (N := 8) rfl rfl hinX10 2 (by decide) hf30 rfl dX10_lacks_36 ?_
      refine aw_get S hE hw 2 (C := RX3) (T := TX3) (N := 5) rfl rfl hinX3 3 (by decide) hf156 rfl dX10_lacks_39 ?_
      refine aw_eqi (show (laB n lw sk tu wa ((tn mo) + 1) : Int32) = f_ms n mo (lkF n lw sk tu wa (tn mo)) from (by rw [f_ms]; first | rw [if_neg c4] | (rw [if_pos c4]; first | rw [if_pos c14] | (rw [if_neg c14]; rfl)))) ?_
      exact aw_iret S hr hlk ha hQ hAe hw dX10_lacks_42 rfl (Nat.le_of_ble_eq_true rfl) (Nat.le_of_ble_eq_true rfl) ⟨rfl, _, _, _, _, rfl⟩
    · refine lv_bipush (v := (-3)) S.1 S.2.1 dX10_lacks_17 (by decide) ?_
      refine aw_eqi (show ((-3) : Int32) = f_ms n mo (lkF n lw sk tu wa (tn mo)) from (by rw [f_ms]; first | rw [if_neg c4] | (rw [if_pos c4]; first | rw [if_pos c14] | (rw [if_neg c14]; rfl)))) ?_
      exact aw_iret S hr hlk ha hQ hAe hw dX10_lacks_19 rfl (Nat.le_of_ble_eq_true rfl) (Nat.le_of_ble_eq_true rfl) ⟨rfl, _, _, _, _, rfl⟩
  · refine lv_bipush (v := (-2)) S.1 S.2.1 dX10_lacks_7 (by decide) ?_
    refine aw_eqi (show ((-2) : Int32) = f_ms n mo (lkF n lw sk tu wa (tn mo)) from (by rw [f_ms]; first | rw [if_neg c4] | (rw [if_pos c4]; first | rw [if_pos c14] | (rw [if_neg c14]; rfl)))) ?_
    exact aw_iret S hr hlk ha hQ hAe hw dX10_lacks_9 rfl (Nat.le_of_ble_eq_true rfl) (Nat.le_of_ble_eq_true rfl) ⟨rfl, _, _, _, _, rfl⟩
set_option maxRecDepth 100000 in
set_option maxHeartbeats 4000000 in
theorem c_X10_wrong (l : Launch) (G : aw_G) (ad : Nat → Nat) (fl : Int32) (n : Nat) (lw : Int32) (sg : Nat → Option Nat) (sa : Nat → Nat) (kd sk br : Nat → Int32) (la ub : Int32) (wh wk tu wa : Nat → Int32) (wt : Int32) (hn : n ≤ 6) (hsg : ∀ i, i < n → sg i = some (sa i)) : CT l G yX10_wrong wsX10_wrong ({ frames := 6, cells := 0, slots := 0, locals := 129 }) [.ref (ad 0), .int wt] [[(ad 0, .inr (9, [.ref (ad 1), .ref (ad 2), .ref (ad 3), .ref (ad 4), .ref (ad 5), .ref (ad 6), .ref (ad 7), .int fl]))], [(ad 2, .inr (0, [.ref (ad 8), .ref (ad 9), .ref (ad 10), .ref (ad 11), .ref (ad 12), .int (nI n), .int lw]))], [(ad 3, .inr (3, [.ref (ad 2), .ref (ad 13), .ref (ad 14), .int la, .int ub]))], [(ad 13, .inl (gI G, 6, .inl wh))], [(ad 14, .inl (gI G, 6, .inl wk))], [(ad 8, .inl (gL G, 6, .inr (.inr (.inr (.inr sg)))))], fam n sa (slE kd sk br), [(ad 9, .inl (gI G, 12, .inl tu))], [(ad 10, .inl (gI G, 12, .inl wa))]] (fun v w => v = some (.int (f_wrong n lw sk (fun j => hoK (kd j)) br tu wa wt)) ∧ ∃ (la ub : Int32) (wh wk : Nat → Int32), w = [[(ad 0, .inr (9, [.ref (ad 1), .ref (ad 2), .ref (ad 3), .ref (ad 4), .ref (ad 5), .ref (ad 6), .ref (ad 7), .int fl]))], [(ad 2, .inr (0, [.ref (ad 8), .ref (ad 9), .ref (ad 10), .ref (ad 11), .ref (ad 12), .int (nI n), .int lw]))], [(ad 3, .inr (3, [.ref (ad 2), .ref (ad 13), .ref (ad 14), .int la, .int ub]))], [(ad 13, .inl (gI G, 6, .inl wh))], [(ad 14, .inl (gI G, 6, .inl wk))], [(ad 8, .inl (gL G, 6, .inr (.inr (.inr (.inr sg)))))], fam n sa (slE kd sk br), [(ad 9, .inl (gI G, 12, .inl tu))], [(ad 10, .inl (gI G, 12, .inl wa))]]) := by
  refine CT.of (cc := cX10_wrong) (nL := 3) (ret := (some .int)) (by decide) rfl (Nat.le_of_ble_eq_true rfl) ?_
  intro p e s m below meth c R args Q A hRm ha hQ hAe hA S hE hr hlk hnm H locs hH0 hL0 ls hl hw
  have S : CallFix p m c cX10_wrong 3 s args wsX10_wrong RX10 := S
  have hl : lv_has ls 3 [(0, .ref (ad 0)), (1, .int wt)] := hl
  have hinX10 : ∀ w ∈ u_ws RX10 TX10 8, w ∈ wsX10_wrong := by decide +kernel
  have hf30 := S.2.2.2.2 (.fieldLink RX10 30 "AwakeTurns" "walk" "LAwakeTurns$MonthWalk;") (by decide +kernel)
  have hf21 := S.2.2.2.2 (.fieldLink RX10 21 "AwakeTurns" "crew" "LAwakeTurns$Crew;") (by decide +kernel)
  have hinX0 : ∀ w ∈ u_ws RX0 TX0 7, w ∈ wsX10_wrong := by decide +kernel
  have hf126 := S.2.2.2.2 (.fieldLink RX10 126 "AwakeTurns$Crew" "turns" "[I") (by decide +kernel)
  refine lv_iload_n S.1 S.2.1 dX10_wrong_0 rfl (lv_at hl 1 rfl) ?_
  refine lv_if_lt (tgt := 9) S.1 S.2.1 dX10_wrong_1 (by decide) (fun c1 => ?_) (fun c1 => ?_)
  · rw [fa_lt, li_0] at c1
    refine lv_bipush (v := (-2)) S.1 S.2.1 dX10_wrong_9 (by decide) ?_
    refine aw_eqi (show ((-2) : Int32) = f_wrong n lw sk (fun j => hoK (kd j)) br tu wa wt from (by rw [f_wrong]; first | rw [if_neg (by omega)] | (rw [if_pos (by omega)]; first | rw [if_pos c16] | (rw [if_neg c16]; first | rw [if_pos c23] | (rw [if_neg c23]; first | rw [if_pos c66] | (rw [if_neg c66]; exact en_sp)))))) ?_
    exact aw_iret S hr hlk ha hQ hAe hw dX10_wrong_11 rfl (Nat.le_of_ble_eq_true rfl) (Nat.le_of_ble_eq_true rfl) ⟨rfl, _, _, _, _, rfl⟩
  · rw [fa_lt, li_0] at c1
    refine lv_iload_n S.1 S.2.1 dX10_wrong_4 rfl (lv_at hl 1 rfl) ?_
    refine lv_iconst (v := 2) S.1 S.2.1 dX10_wrong_5 (by decide) ?_
    refine lv_icmp_le (tgt := 12) S.1 S.2.1 dX10_wrong_6 (by decide) (fun c6 => ?_) (fun c6 => ?_)
    · rw [fa_le, li_2] at c6
      refine lv_aload_n S.1 S.2.1 dX10_wrong_12 rfl (lv_at hl 0 rfl) ?_
      refine aw_callV S hE (c_X10_noShip l G ad fl n lw (by first | assumption | omega)) gX10_wrong_X10_noShip (n := 0) rfl (by decide +kernel) rfl (by rw [hRm]; exact ⟨Nat.le_of_ble_eq_true rfl, Nat.le_of_ble_eq_true rfl⟩) (by rw [hRm]; exact ⟨Nat.le_of_ble_eq_true rfl, Nat.le_of_ble_eq_true rfl⟩) hw hA hl.1 [0, 1] rfl rfl (aw_recv (i := 0) hE hw rfl rfl rfl) rfl (Nat.le_of_ble_eq_true rfl) dX10_wrong_13 ?_
      rintro v w1 H locs ⟨rfl, rfl⟩ hw
      have hw : bW G A s.heap [[(ad 0, .inr (9, [.ref (ad 1), .ref (ad 2), .ref (ad 3), .ref (ad 4), .ref (ad 5), .ref (ad 6), .ref (ad 7), .int fl]))], [(ad 2, .inr (0, [.ref (ad 8), .ref (ad 9), .ref (ad 10), .ref (ad 11), .ref (ad 12), .int (nI n), .int lw]))], [(ad 3, .inr (3, [.ref (ad 2), .ref (ad 13), .ref (ad 14), .int la, .int ub]))], [(ad 13, .inl (gI G, 6, .inl wh))], [(ad 14, .inl (gI G, 6, .inl wk))], [(ad 8, .inl (gL G, 6, .inr (.inr (.inr (.inr sg)))))], fam n sa (slE kd sk br), [(ad 9, .inl (gI G, 12, .inl tu))], [(ad 10, .inl (gI G, 12, .inl wa))]] H locs := hw
      refine W.eq (g2 := (F0 m 16 ls [.int (if n = 0 then 1 else 0)])) rfl ?_
      refine aw_ifeq (P := n = 0) (tgt := 22) S dX10_wrong_16 (by decide) (fun c16 => ?_) (fun c16 => ?_)
      · refine lv_iload_n S.1 S.2.1 dX10_wrong_22 rfl (lv_at hl 1 rfl) ?_
        refine lv_if_ne (tgt := 45) S.1 S.2.1 dX10_wrong_23 (by decide) (fun c23 => ?_) (fun c23 => ?_)
        · refine lv_aload_n S.1 S.2.1 dX10_wrong_45 rfl (lv_at hl 0 rfl) ?_
          refine aw_get S hE hw 0 (C := RX10) (T := TX10) (N := 8) rfl rfl hinX10 2 (by decide) hf30 rfl dX10_wrong_46 ?_
          refine lv_aload_n S.1 S.2.1 dX10_wrong_49 rfl (lv_at hl 0 rfl) ?_
          refine aw_get S hE hw 0 (C := RX10) (T := TX10) (N := 8) rfl rfl hinX10 1 (by decide) hf21 rfl dX10_wrong_50 ?_
          refine aw_get S hE hw 1 (C := RX0) (T := TX0) (N := 7) rfl rfl hinX0 1 (by decide) hf126 rfl dX10_wrong_53 ?_
          refine lv_bipush (v := 12) S.1 S.2.1 dX10_wrong_56 (by decide) ?_
          refine lv_iconst (v := 0) S.1 S.2.1 dX10_wrong_58 (by decide) ?_
          refine lv_iconst (v := 1) S.1 S.2.1 dX10_wrong_59 (by decide) ?_
          refine aw_callV S hE (c_X3_firstWrong l G ad n lw sg sa kd sk br la ub wh wk (ad 9) tu wa 12 false true (by first | assumption | omega) (by first | assumption | omega) (by first | assumption | omega)) gX10_wrong_X3_firstWrong (n := 4) rfl (by decide +kernel) rfl (by rw [hRm]; exact ⟨Nat.le_of_ble_eq_true rfl, Nat.le_of_ble_eq_true rfl⟩) (by rw [hRm]; exact ⟨Nat.le_of_ble_eq_true rfl, Nat.le_of_ble_eq_true rfl⟩) hw hA hl.1 [2, 3, 4, 1, 5, 6, 7, 8] rfl rfl (aw_recv (i := 2) hE hw rfl rfl rfl) rfl (Nat.le_of_ble_eq_true rfl) dX10_wrong_60 ?_
          rintro v w1 H locs ⟨rfl, rfl⟩ hw
          have hw : bW G A s.heap [[(ad 0, .inr (9, [.ref (ad 1), .ref (ad 2), .ref (ad 3), .ref (ad 4), .ref (ad 5), .ref (ad 6), .ref (ad 7), .int fl]))], [(ad 2, .inr (0, [.ref (ad 8), .ref (ad 9), .ref (ad 10), .ref (ad 11), .ref (ad 12), .int (nI n), .int lw]))], [(ad 3, .inr (3, [.ref (ad 2), .ref (ad 13), .ref (ad 14), .int (laB n lw sk tu wa (min (fwF n lw sk (fun j => hoK (kd j)) br tu wa 12 false true + 1) 12)), .int (uB tu (min (fwF n lw sk (fun j => hoK (kd j)) br tu wa 12 false true + 1) 12))]))], [(ad 13, .inl (gI G, 6, .inl (fa_fill (hB n (fun j => hoK (kd j)) tu (min (fwF n lw sk (fun j => hoK (kd j)) br tu wa 12 false true + 1) 12)) wh n)))], [(ad 14, .inl (gI G, 6, .inl (fa_fill (kA n lw sk tu ((min (fwF n lw sk (fun j => hoK (kd j)) br tu wa 12 false true + 1) 12) - 1)) wk n)))], [(ad 8, .inl (gL G, 6, .inr (.inr (.inr (.inr sg)))))], fam n sa (slE kd sk br), [(ad 9, .inl (gI G, 12, .inl tu))], [(ad 10, .inl (gI G, 12, .inl wa))]] H locs := hw
          refine W.eq (g2 := (F0 m 63 ls [.int (noI (fwF n lw sk (fun j => hoK (kd j)) br tu wa 12 false true) 12)])) rfl ?_
          refine lv_istore_n (lv' := [(2, .int (noI (fwF n lw sk (fun j => hoK (kd j)) br tu wa 12 false true) 12)), (0, .ref (ad 0)), (1, .int wt)]) S.1 S.2.1 dX10_wrong_63 rfl hl (by decide) rfl (fun ls hl => ?_)
          refine lv_iload_n S.1 S.2.1 dX10_wrong_64 rfl (lv_at hl 2 rfl) ?_
          refine lv_iconst (v := 1) S.1 S.2.1 dX10_wrong_65 (by decide) ?_
          refine lv_icmp_ne (tgt := 73) S.1 S.2.1 dX10_wrong_66 (by decide) (fun c66 => ?_) (fun c66 => ?_)
          · refine lv_aload_n S.1 S.2.1 dX10_wrong_73 rfl (lv_at hl 1 rfl) ?_
            refine aw_get S hE hw 0 (C := RX10) (T := TX10) (N := 8) rfl rfl hinX10 2 (by decide) hf30 rfl dX10_wrong_74 ?_
            refine aw_callV S hE (c_X3_whoIsSpent l G ad n lw sg sa kd sk br (laB n lw sk tu wa (min (fwF n lw sk (fun j => hoK (kd j)) br tu wa 12 false true + 1) 12)) (uB tu (min (fwF n lw sk (fun j => hoK (kd j)) br tu wa 12 false true + 1) 12)) (fa_fill (hB n (fun j => hoK (kd j)) tu (min (fwF n lw sk (fun j => hoK (kd j)) br tu wa 12 false true + 1) 12)) wh n) wk (by first | assumption | omega) (by first | assumption | omega)) gX10_wrong_X3_whoIsSpent (n := 0) rfl (by decide +kernel) rfl (by rw [hRm]; exact ⟨Nat.le_of_ble_eq_true rfl, Nat.le_of_ble_eq_true rfl⟩) (by rw [hRm]; exact ⟨Nat.le_of_ble_eq_true rfl, Nat.le_of_ble_eq_true rfl⟩) hw hA hl.1 [2, 3, 1, 5, 6] rfl rfl (aw_recv (i := 2) hE hw rfl rfl rfl) rfl (Nat.le_of_ble_eq_true rfl) dX10_wrong_77 ?_
            rintro v w1 H locs ⟨rfl, rfl⟩ hw
            have hw : bW G A s.heap [[(ad 0, .inr (9, [.ref (ad 1), .ref (ad 2), .ref (ad 3), .ref (ad 4), .ref (ad 5), .ref (ad 6), .ref (ad 7), .int fl]))], [(ad 2, .inr (0, [.ref (ad 8), .ref (ad 9), .ref (ad 10), .ref (ad 11), .ref (ad 12), .int (nI n), .int lw]))], [(ad 3, .inr (3, [.ref (ad 2), .ref (ad 13), .ref (ad 14), .int (laB n lw sk tu wa (min (fwF n lw sk (fun j => hoK (kd j)) br tu wa 12 false true + 1) 12)), .int (uB tu (min (fwF n lw sk (fun j => hoK (kd j)) br tu wa 12 false true + 1) 12))]))], [(ad 13, .inl (gI G, 6, .inl (fa_fill (hB n (fun j => hoK (kd j)) tu (min (fwF n lw sk (fun j => hoK (kd j)) br tu wa 12 false true + 1) 12)) wh n)))], [(ad 14, .inl (gI G, 6, .inl (fa_fill (kA n lw sk tu ((min (fwF n lw sk (fun j => hoK (kd j)) br tu wa 12 false true + 1) 12) - 1)) wk n)))], [(ad 8, .inl (gL G, 6, .inr (.inr (.inr (.inr sg)))))], fam n sa (slE kd sk br), [(ad 9, .inl (gI G, 12, .inl tu))], [(ad 10, .inl (gI G, 12, .inl wa))]] H locs := hw
            refine W.eq (g2 := (F0 m 80 ls [.int (spF n br (fa_fill (hB n (fun j => hoK (kd j)) tu (min (fwF n lw sk (fun j => hoK (kd j)) br tu wa 12 false true + 1) 12)) wh n))])) rfl ?_
            refine aw_eqi (show (spF n br (fa_fill (hB n (fun j => hoK (kd j)) tu (min (fwF n lw sk (fun j => hoK (kd j)) br tu wa 12 false true + 1) 12)) wh n) : Int32) = f_wrong n lw sk (fun j => hoK (kd j)) br tu wa wt from (by rw [f_wrong]; first | rw [if_neg (by omega)] | (rw [if_pos (by omega)]; first | rw [if_pos c16] | (rw [if_neg c16]; first | rw [if_pos c23] | (rw [if_neg c23]; first | rw [if_pos c66] | (rw [if_neg c66]; exact en_sp)))))) ?_
            exact aw_iret S hr hlk ha hQ hAe hw dX10_wrong_80 rfl (Nat.le_of_ble_eq_true rfl) (Nat.le_of_ble_eq_true rfl) ⟨rfl, _, _, _, _, rfl⟩
          · refine lv_iload_n S.1 S.2.1 dX10_wrong_69 rfl (lv_at hl 0 rfl) ?_
            refine lv_goto (tgt := 80) S.1 S.2.1 dX10_wrong_70 (by decide) ?_
            refine aw_eqi (show (noI (fwF n lw sk (fun j => hoK (kd j)) br tu wa 12 false true) 12 : Int32) = f_wrong n lw sk (fun j => hoK (kd j)) br tu wa wt from (by rw [f_wrong]; first | rw [if_neg (by omega)] | (rw [if_pos (by omega)]; first | rw [if_pos c16] | (rw [if_neg c16]; first | rw [if_pos c23] | (rw [if_neg c23]; first | rw [if_pos c66] | (rw [if_neg c66]; exact en_sp)))))) ?_
            exact aw_iret S hr hlk ha hQ hAe hw dX10_wrong_80 rfl (Nat.le_of_ble_eq_true rfl) (Nat.le_of_ble_eq_true rfl) ⟨rfl, _, _, _, _, rfl⟩
        · refine lv_aload_n S.1 S.2.1 dX10_wrong_26 rfl (lv_at hl 0 rfl) ?_
          refine aw_get S hE hw 0 (C := RX10) (T := TX10) (N := 8) rfl rfl hinX10 2 (by decide) hf30 rfl dX10_wrong_27 ?_
          refine lv_aload_n S.1 S.2.1 dX10_wrong_30 rfl (lv_at hl 0 rfl) ?_
          refine aw_get S hE hw 0 (C := RX10) (T := TX10) (N := 8) rfl rfl hinX10 1 (by decide) hf21 rfl dX10_wrong_31 ?_
          refine aw_get S hE hw 1 (C := RX0) (T := TX0) (N := 7) rfl rfl hinX0 1 (by decide) hf126 rfl dX10_wrong_34 ?_
          refine lv_bipush (v := 12) S.1 S.2.1 dX10_wrong_37 (by decide) ?_
          refine lv_iconst (v := 1) S.1 S.2.1 dX10_wrong_39 (by decide) ?_
          refine lv_iconst (v := 0) S.1 S.2.1 dX10_wrong_40 (by decide) ?_
          refine aw_callV S hE (c_X3_firstWrong l G ad n lw sg sa kd sk br la ub wh wk (ad 9) tu wa 12 true false (by first | assumption | omega) (by first | assumption | omega) (by first | assumption | omega)) gX10_wrong_X3_firstWrong (n := 4) rfl (by decide +kernel) rfl (by rw [hRm]; exact ⟨Nat.le_of_ble_eq_true rfl, Nat.le_of_ble_eq_true rfl⟩) (by rw [hRm]; exact ⟨Nat.le_of_ble_eq_true rfl, Nat.le_of_ble_eq_true rfl⟩) hw hA hl.1 [2, 3, 4, 1, 5, 6, 7, 8] rfl rfl (aw_recv (i := 2) hE hw rfl rfl rfl) rfl (Nat.le_of_ble_eq_true rfl) dX10_wrong_41 ?_
          rintro v w1 H locs ⟨rfl, rfl⟩ hw
          have hw : bW G A s.heap [[(ad 0, .inr (9, [.ref (ad 1), .ref (ad 2), .ref (ad 3), .ref (ad 4), .ref (ad 5), .ref (ad 6), .ref (ad 7), .int fl]))], [(ad 2, .inr (0, [.ref (ad 8), .ref (ad 9), .ref (ad 10), .ref (ad 11), .ref (ad 12), .int (nI n), .int lw]))], [(ad 3, .inr (3, [.ref (ad 2), .ref (ad 13), .ref (ad 14), .int (laB n lw sk tu wa (min (fwF n lw sk (fun j => hoK (kd j)) br tu wa 12 true false + 1) 12)), .int (uB tu (min (fwF n lw sk (fun j => hoK (kd j)) br tu wa 12 true false + 1) 12))]))], [(ad 13, .inl (gI G, 6, .inl (fa_fill (hB n (fun j => hoK (kd j)) tu (min (fwF n lw sk (fun j => hoK (kd j)) br tu wa 12 true false + 1) 12)) wh n)))], [(ad 14, .inl (gI G, 6, .inl (fa_fill (kA n lw sk tu ((min (fwF n lw sk (fun j => hoK (kd j)) br tu wa 12 true false + 1) 12) - 1)) wk n)))], [(ad 8, .inl (gL G, 6, .inr (.inr (.inr (.inr sg)))))], fam n sa (slE kd sk br), [(ad 9, .inl (gI G, 12, .inl tu))], [(ad 10, .inl (gI G, 12, .inl wa))]] H locs := hw
          refine W.eq (g2 := (F0 m 44 ls [.int (noI (fwF n lw sk (fun j => hoK (kd j)) br tu wa 12 true false) 12)])) rfl ?_
          refine aw_eqi (show (noI (fwF n lw sk (fun j => hoK (kd j)) br tu wa 12 true false) 12 : Int32) = f_wrong n lw sk (fun j => hoK (kd j)) br tu wa wt from (by rw [f_wrong]; first | rw [if_neg (by omega)] | (rw [if_pos (by omega)]; first | rw [if_pos c16] | (rw [if_neg c16]; first | rw [if_pos c23] | (rw [if_neg c23]; first | rw [if_pos c66] | (rw [if_neg c66]; exact en_sp)))))) ?_
          exact aw_iret S hr hlk ha hQ hAe hw dX10_wrong_44 rfl (Nat.le_of_ble_eq_true rfl) (Nat.le_of_ble_eq_true rfl) ⟨rfl, _, _, _, _, rfl⟩
      · refine lv_bipush (v := (-3)) S.1 S.2.1 dX10_wrong_19 (by decide) ?_
        refine aw_eqi (show ((-3) : Int32) = f_wrong n lw sk (fun j => hoK (kd j)) br tu wa wt from (by rw [f_wrong]; first | rw [if_neg (by omega)] | (rw [if_pos (by omega)]; first | rw [if_pos c16] | (rw [if_neg c16]; first | rw [if_pos c23] | (rw [if_neg c23]; first | rw [if_pos c66] | (rw [if_neg c66]; exact en_sp)))))) ?_
        exact aw_iret S hr hlk ha hQ hAe hw dX10_wrong_21 rfl (Nat.le_of_ble_eq_true rfl) (Nat.le_of_ble_eq_true rfl) ⟨rfl, _, _, _, _, rfl⟩
    · rw [fa_le, li_2] at c6
      refine lv_bipush (v := (-2)) S.1 S.2.1 dX10_wrong_9 (by decide) ?_
      refine aw_eqi (show ((-2) : Int32) = f_wrong n lw sk (fun j => hoK (kd j)) br tu wa wt from (by rw [f_wrong]; first | rw [if_neg (by omega)] | (rw [if_pos (by omega)]; first | rw [if_pos c16] | (rw [if_neg c16]; first | rw [if_pos c23] | (rw [if_neg c23]; first | rw [if_pos c66] | (rw [if_neg c66]; exact en_sp)))))) ?_
      exact aw_iret S hr hlk ha hQ hAe hw dX10_wrong_11 rfl (Nat.le_of_ble_eq_true rfl) (Nat.le_of_ble_eq_true rfl) ⟨rfl, _, _, _, _, rfl⟩
set_option maxRecDepth 100000 in
set_option maxHeartbeats 4000000 in
theorem c_X10_cover (l : Launch) (G : aw_G) (ad : Nat → Nat) (fl : Int32) (n : Nat) (lw : Int32) (sk so wa : Nat → Int32) (mo : Int32) (hn : n ≤ 6) (hso : ∀ S, S < 2 ^ n → so S = soC n sk S) : CT l G yX10_cover wsX10_cover ({ frames := 2, cells := 0, slots := 0, locals := 45 }) [.ref (ad 0), .int mo] [[(ad 0, .inr (9, [.ref (ad 1), .ref (ad 2), .ref (ad 3), .ref (ad 4), .ref (ad 5), .ref (ad 6), .ref (ad 7), .int fl]))], [(ad 2, .inr (0, [.ref (ad 8), .ref (ad 9), .ref (ad 10), .ref (ad 11), .ref (ad 12), .int (nI n), .int lw]))], [(ad 11, .inl (gI G, 64, .inl so))], [(ad 10, .inl (gI G, 12, .inl wa))]] (dt (some (.int (f_ms n mo (f_cover n sk (wa (tn mo)))))) [[(ad 0, .inr (9, [.ref (ad 1), .ref (ad 2), .ref (ad 3), .ref (ad 4), .ref (ad 5), .ref (ad 6), .ref (ad 7), .int fl]))], [(ad 2, .inr (0, [.ref (ad 8), .ref (ad 9), .ref (ad 10), .ref (ad 11), .ref (ad 12), .int (nI n), .int lw]))], [(ad 11, .inl (gI G, 64, .inl so))], [(ad 10, .inl (gI G, 12, .inl wa))]]) := by
  refine CT.of (cc := cX10_cover) (nL := 2) (ret := (some .int)) (by decide) rfl (Nat.le_of_ble_eq_true rfl) ?_
  intro p e s m below meth c R args Q A hRm ha hQ hAe hA S hE hr hlk hnm H locs hH0 hL0 ls hl hw
  have S : CallFix p m c cX10_cover 2 s args wsX10_cover RX10 := S
  have hl : lv_has ls 2 [(0, .ref (ad 0)), (1, .int mo)] := hl
  have hinX10 : ∀ w ∈ u_ws RX10 TX10 8, w ∈ wsX10_cover := by decide +kernel
  have hf21 := S.2.2.2.2 (.fieldLink RX10 21 "AwakeTurns" "crew" "LAwakeTurns$Crew;") (by decide +kernel)
  have hinX0 : ∀ w ∈ u_ws RX0 TX0 7, w ∈ wsX10_cover := by decide +kernel
  have hf133 := S.2.2.2.2 (.fieldLink RX10 133 "AwakeTurns$Crew" "wanted" "[I") (by decide +kernel)
  refine lv_iload_n S.1 S.2.1 dX10_cover_0 rfl (lv_at hl 1 rfl) ?_
  refine aw_callS S hE (c_X10_isMonth l G mo) gX10_cover_X10_isMonth (n := 1) rfl (by decide +kernel) rfl (by rw [hRm]; exact ⟨Nat.le_of_ble_eq_true rfl, Nat.le_of_ble_eq_true rfl⟩) (by rw [hRm]; exact ⟨Nat.le_of_ble_eq_true rfl, Nat.le_of_ble_eq_true rfl⟩) hw hA hl.1 [] rfl rfl rfl (Nat.le_of_ble_eq_true rfl) dX10_cover_1 ?_
  rintro v w1 H locs ⟨rfl, rfl⟩ hw
  have hw : bW G A s.heap [[(ad 0, .inr (9, [.ref (ad 1), .ref (ad 2), .ref (ad 3), .ref (ad 4), .ref (ad 5), .ref (ad 6), .ref (ad 7), .int fl]))], [(ad 2, .inr (0, [.ref (ad 8), .ref (ad 9), .ref (ad 10), .ref (ad 11), .ref (ad 12), .int (nI n), .int lw]))], [(ad 11, .inl (gI G, 64, .inl so))], [(ad 10, .inl (gI G, 12, .inl wa))]] H locs := hw
  refine W.eq (g2 := (F0 m 4 ls [.int (if 0 ≤ mo.toInt ∧ mo.toInt < 12 then 1 else 0)])) rfl ?_
  refine aw_ifne (P := 0 ≤ mo.toInt ∧ mo.toInt < 12) (tgt := 10) S dX10_cover_4 (by decide) (fun c4 => ?_) (fun c4 => ?_)
  · have hb_mo : tn mo < 12 := aw_tnL c4
    have hl := Eq.mp (congrArg (fun z_ : Int32 => lv_has ls 2 [(0, .ref (ad 0)), (1, .int z_)]) (show (mo : Int32) = nI (tn mo) from (aw_tnE c4))) hl
    have hl : lv_has ls 2 [(0, .ref (ad 0)), (1, .int (nI (tn mo)))] := hl
    refine lv_aload_n S.1 S.2.1 dX10_cover_10 rfl (lv_at hl 0 rfl) ?_
    refine aw_callV S hE (c_X10_noShip l G ad fl n lw (by first | assumption | omega)) gX10_cover_X10_noShip (n := 0) rfl (by decide +kernel) rfl (by rw [hRm]; exact ⟨Nat.le_of_ble_eq_true rfl, Nat.le_of_ble_eq_true rfl⟩) (by rw [hRm]; exact ⟨Nat.le_of_ble_eq_true rfl, Nat.le_of_ble_eq_true rfl⟩) hw hA hl.1 [0, 1] rfl rfl (aw_recv (i := 0) hE hw rfl rfl rfl) rfl (Nat.le_of_ble_eq_true rfl) dX10_cover_11 ?_
    rintro v w1 H locs ⟨rfl, rfl⟩ hw
    have hw : bW G A s.heap [[(ad 0, .inr (9, [.ref (ad 1), .ref (ad 2), .ref (ad 3), .ref (ad 4), .ref (ad 5), .ref (ad 6), .ref (ad 7), .int fl]))], [(ad 2, .inr (0, [.ref (ad 8), .ref (ad 9), .ref (ad 10), .ref (ad 11), .ref (ad 12), .int (nI n), .int lw]))], [(ad 11, .inl (gI G, 64, .inl so))], [(ad 10, .inl (gI G, 12, .inl wa))]] H locs := hw
    refine W.eq (g2 := (F0 m 14 ls [.int (if n = 0 then 1 else 0)])) rfl ?_
    refine aw_ifeq (P := n = 0) (tgt := 22) S dX10_cover_14 (by decide) (fun c14 => ?_) (fun c14 => ?_)
    · refine lv_aload_n S.1 S.2.1 dX10_cover_22 rfl (lv_at hl 0 rfl) ?_
      refine aw_get S hE hw 0 (C := RX10) (T := TX10) (N := 8) rfl rfl hinX10 1 (by decide) hf21 rfl dX10_cover_23 ?_
      refine lv_aload_n S.1 S.2.1 dX10_cover_26 rfl (lv_at hl 0 rfl) ?_
      refine aw_get S hE hw 0 (C := RX10) (T := TX10) (N := 8) rfl rfl hinX10 1 (by decide) hf21 rfl dX10_cover_27 ?_
      refine aw_get S hE hw 1 (C := RX0) (T := TX0) (N := 7) rfl rfl hinX0 2 (by decide) hf133 rfl dX10_cover_30 ?_
      refine lv_iload_n S.1 S.2.1 dX10_cover_33 rfl (lv_at hl 1 rfl) ?_
      refine aw_iald S hE hw 3 (k := (tn mo)) rfl (by omega) (by decide) dX10_cover_34 ?_
      refine aw_callV S hE (c_X0_fewestWith l G ad n lw so (wa (tn mo)) (by first | assumption | omega)) gX10_cover_X0_fewestWith (n := 1) rfl (by decide +kernel) rfl (by rw [hRm]; exact ⟨Nat.le_of_ble_eq_true rfl, Nat.le_of_ble_eq_true rfl⟩) (by rw [hRm]; exact ⟨Nat.le_of_ble_eq_true rfl, Nat.le_of_ble_eq_true rfl⟩) hw hA hl.1 [1, 2] rfl rfl (aw_recv (i := 1) hE hw rfl rfl rfl) rfl (Nat.le_of_ble_eq_true rfl) dX10_cover_35 ?_
      rintro v w1 H locs ⟨rfl, rfl⟩ hw
      have hw : bW G A s.heap [[(ad 0, .inr (9, [.ref (ad 1), .ref (ad 2), .ref (ad 3), .ref (ad 4), .ref (ad 5), .ref (ad 6), .ref (ad 7), .int fl]))], [(ad 2, .inr (0, [.ref (ad 8), .ref (ad 9), .ref (ad 10), .ref (ad 11), .ref (ad 12), .int (nI n), .int lw]))], [(ad 11, .inl (gI G, 64, .inl so))], [(ad 10, .inl (gI G, 12, .inl wa))]] H locs := hw
      refine W.eq (g2 := (F0 m 38 ls [.int (cvI (cvO (mtP so (wa (tn mo))) (2 ^ n)))])) rfl ?_
      refine aw_eqi (show (cvI (cvO (mtP so (wa (tn mo))) (2 ^ n)) : Int32) = f_ms n mo (f_cover n sk (wa (tn mo))) from (by rw [f_ms]; first | rw [if_neg c4] | (rw [if_pos c4]; first | rw [if_pos c14] | (rw [if_neg c14, f_cover]; exact congrArg cvI (cvO_cong (fun S hS => by unfold mtP; rw [hso S hS])))))) ?_
      exact aw_iret S hr hlk ha hQ hAe hw dX10_cover_38 rfl (Nat.le_of_ble_eq_true rfl) (Nat.le_of_ble_eq_true rfl) ⟨rfl, rfl⟩
    · refine lv_bipush (v := (-3)) S.1 S.2.1 dX10_cover_17 (by decide) ?_
      refine lv_goto (tgt := 38) S.1 S.2.1 dX10_cover_19 (by decide) ?_
      refine aw_eqi (show ((-3) : Int32) = f_ms n mo (f_cover n sk (wa (tn mo))) from (by rw [f_ms]; first | rw [if_neg c4] | (rw [if_pos c4]; first | rw [if_pos c14] | (rw [if_neg c14, f_cover]; exact congrArg cvI (cvO_cong (fun S hS => by unfold mtP; rw [hso S hS])))))) ?_
      exact aw_iret S hr hlk ha hQ hAe hw dX10_cover_38 rfl (Nat.le_of_ble_eq_true rfl) (Nat.le_of_ble_eq_true rfl) ⟨rfl, rfl⟩
  · refine lv_bipush (v := (-2)) S.1 S.2.1 dX10_cover_7 (by decide) ?_
    refine aw_eqi (show ((-2) : Int32) = f_ms n mo (f_cover n sk (wa (tn mo))) from (by rw [f_ms]; first | rw [if_neg c4] | (rw [if_pos c4]; first | rw [if_pos c14] | (rw [if_neg c14, f_cover]; exact congrArg cvI (cvO_cong (fun S hS => by unfold mtP; rw [hso S hS])))))) ?_
    exact aw_iret S hr hlk ha hQ hAe hw dX10_cover_9 rfl (Nat.le_of_ble_eq_true rfl) (Nat.le_of_ble_eq_true rfl) ⟨rfl, rfl⟩
set_option maxRecDepth 100000 in
set_option maxHeartbeats 4000000 in
theorem c_X10_least (l : Launch) (G : aw_G) (ad : Nat → Nat) (fl : Int32) (n : Nat) (lw : Int32) (kd sk so hs wa : Nat → Int32) (rr : Nat → Nat) (rs : Nat → Nat → Int32) (mo : Int32) (hn : n ≤ 6) (hso : ∀ S, S < 2 ^ n → so S = soC n sk S) (hhs : ∀ S, S < 2 ^ n → hs S = hsC n (fun j => hoK (kd j)) S) (h12 : ∀ S, S < 64 → rs 12 S = 0) : CT l G yX10_least wsX10_least ({ frames := 4, cells := 0, slots := 0, locals := 90 }) [.ref (ad 0), .int mo] [[(ad 0, .inr (9, [.ref (ad 1), .ref (ad 2), .ref (ad 3), .ref (ad 4), .ref (ad 5), .ref (ad 6), .ref (ad 7), .int fl]))], [(ad 2, .inr (0, [.ref (ad 8), .ref (ad 9), .ref (ad 10), .ref (ad 11), .ref (ad 12), .int (nI n), .int lw]))], [(ad 4, .inr (6, [.ref (ad 2), .ref (ad 15)]))], [(ad 11, .inl (gI G, 64, .inl so))], [(ad 12, .inl (gI G, 64, .inl hs))], [(ad 10, .inl (gI G, 12, .inl wa))], [(ad 15, .inl (gA G, 13, .inr (.inr (.inr (.inr (fun q_ => some (rr q_)))))))], fam 13 rr (rrE G rs)] (fun v w => v = some (.int (f_least n sk (fun j => hoK (kd j)) wa mo)) ∧ ∃ (rs : Nat → Nat → Int32), (∀ S, S < 64 → rs 12 S = 0) ∧ w = [[(ad 0, .inr (9, [.ref (ad 1), .ref (ad 2), .ref (ad 3), .ref (ad 4), .ref (ad 5), .ref (ad 6), .ref (ad 7), .int fl]))], [(ad 2, .inr (0, [.ref (ad 8), .ref (ad 9), .ref (ad 10), .ref (ad 11), .ref (ad 12), .int (nI n), .int lw]))], [(ad 4, .inr (6, [.ref (ad 2), .ref (ad 15)]))], [(ad 11, .inl (gI G, 64, .inl so))], [(ad 12, .inl (gI G, 64, .inl hs))], [(ad 10, .inl (gI G, 12, .inl wa))], [(ad 15, .inl (gA G, 13, .inr (.inr (.inr (.inr (fun q_ => some (rr q_)))))))], fam 13 rr (rrE G rs)]) := by
  refine CT.of (cc := cX10_least) (nL := 3) (ret := (some .int)) (by decide) rfl (Nat.le_of_ble_eq_true rfl) ?_
  intro p e s m below meth c R args Q A hRm ha hQ hAe hA S hE hr hlk hnm H locs hH0 hL0 ls hl hw
  have S : CallFix p m c cX10_least 3 s args wsX10_least RX10 := S
  have hl : lv_has ls 3 [(0, .ref (ad 0)), (1, .int mo)] := hl
  have hinX10 : ∀ w ∈ u_ws RX10 TX10 8, w ∈ wsX10_least := by decide +kernel
  have hf37 := S.2.2.2.2 (.fieldLink RX10 37 "AwakeTurns" "plan" "LAwakeTurns$Plan;") (by decide +kernel)
  have hp0 := Nat.two_pow_pos n
  have hr0 : rsR n so hs wa rs 0 0 0 = prow n (soC n sk) (hsC n (fun j => hoK (kd j))) wa 12 0 := by rw [rsR_all hn h12 (by omega) hp0]; exact prow_cong hn hso hhs 12 0 hp0
  have hr12 : ∀ S, S < 64 → rsR n so hs wa rs 0 12 S = 0 := fun S hS => by unfold rsR; rw [if_neg (by omega)]; exact h12 S hS
  have hwu : ∀ k, k ≤ 12 → wuN n so hs wa (rsR n so hs wa rs 0) k = wuN n (soC n sk) (hsC n (fun j => hoK (kd j))) wa (f_rsX n sk (fun j => hoK (kd j)) wa) k := wuN_cong hn hso hhs (fun m hm S hS => by rw [rsR_all hn h12 hm hS]; exact prow_cong hn hso hhs _ S hS)
  refine lv_iload_n S.1 S.2.1 dX10_least_0 rfl (lv_at hl 1 rfl) ?_
  refine lv_iconst (v := (-1)) S.1 S.2.1 dX10_least_1 (by decide) ?_
  refine lv_icmp_eq (tgt := 15) S.1 S.2.1 dX10_least_2 (by decide) (fun c2 => ?_) (fun c2 => ?_)
  · have hmo : mo = -1 ∨ (0 ≤ mo.toInt ∧ mo.toInt < 12) := Or.inl c2
    refine lv_aload_n S.1 S.2.1 dX10_least_15 rfl (lv_at hl 0 rfl) ?_
    refine aw_callV S hE (c_X10_noShip l G ad fl n lw (by first | assumption | omega)) gX10_least_X10_noShip (n := 0) rfl (by decide +kernel) rfl (by rw [hRm]; exact ⟨Nat.le_of_ble_eq_true rfl, Nat.le_of_ble_eq_true rfl⟩) (by rw [hRm]; exact ⟨Nat.le_of_ble_eq_true rfl, Nat.le_of_ble_eq_true rfl⟩) hw hA hl.1 [0, 1] rfl rfl (aw_recv (i := 0) hE hw rfl rfl rfl) rfl (Nat.le_of_ble_eq_true rfl) dX10_least_16 ?_
    rintro v w1 H locs ⟨rfl, rfl⟩ hw
    have hw : bW G A s.heap [[(ad 0, .inr (9, [.ref (ad 1), .ref (ad 2), .ref (ad 3), .ref (ad 4), .ref (ad 5), .ref (ad 6), .ref (ad 7), .int fl]))], [(ad 2, .inr (0, [.ref (ad 8), .ref (ad 9), .ref (ad 10), .ref (ad 11), .ref (ad 12), .int (nI n), .int lw]))], [(ad 4, .inr (6, [.ref (ad 2), .ref (ad 15)]))], [(ad 11, .inl (gI G, 64, .inl so))], [(ad 12, .inl (gI G, 64, .inl hs))], [(ad 10, .inl (gI G, 12, .inl wa))], [(ad 15, .inl (gA G, 13, .inr (.inr (.inr (.inr (fun q_ => some (rr q_)))))))], fam 13 rr (rrE G rs)] H locs := hw
    refine W.eq (g2 := (F0 m 19 ls [.int (if n = 0 then 1 else 0)])) rfl ?_
    refine aw_ifeq (P := n = 0) (tgt := 25) S dX10_least_19 (by decide) (fun c19 => ?_) (fun c19 => ?_)
    · refine lv_aload_n S.1 S.2.1 dX10_least_25 rfl (lv_at hl 0 rfl) ?_
      refine aw_get S hE hw 0 (C := RX10) (T := TX10) (N := 8) rfl rfl hinX10 3 (by decide) hf37 rfl dX10_least_26 ?_
      refine aw_callV S hE (c_X6_reckon l G ad n lw so hs wa rr rs (by first | assumption | omega) (by first | assumption | omega)) gX10_least_X6_reckon (n := 0) rfl (by decide +kernel) rfl (by rw [hRm]; exact ⟨Nat.le_of_ble_eq_true rfl, Nat.le_of_ble_eq_true rfl⟩) (by rw [hRm]; exact ⟨Nat.le_of_ble_eq_true rfl, Nat.le_of_ble_eq_true rfl⟩) hw hA hl.1 [2, 1, 3, 4, 5, 6, 7] rfl rfl (aw_recv (i := 2) hE hw rfl rfl rfl) rfl (Nat.le_of_ble_eq_true rfl) dX10_least_29 ?_
      rintro v w1 H locs ⟨rfl, rfl⟩ hw
      have hw : bW G A s.heap [[(ad 0, .inr (9, [.ref (ad 1), .ref (ad 2), .ref (ad 3), .ref (ad 4), .ref (ad 5), .ref (ad 6), .ref (ad 7), .int fl]))], [(ad 2, .inr (0, [.ref (ad 8), .ref (ad 9), .ref (ad 10), .ref (ad 11), .ref (ad 12), .int (nI n), .int lw]))], [(ad 4, .inr (6, [.ref (ad 2), .ref (ad 15)]))], [(ad 11, .inl (gI G, 64, .inl so))], [(ad 12, .inl (gI G, 64, .inl hs))], [(ad 10, .inl (gI G, 12, .inl wa))], [(ad 15, .inl (gA G, 13, .inr (.inr (.inr (.inr (fun q_ => some (rr q_)))))))], fam 13 rr (rrE G (rsR n so hs wa rs 0))] H locs := hw
      refine W.eq (g2 := (F0 m 32 ls [])) rfl ?_
      refine lv_aload_n S.1 S.2.1 dX10_least_32 rfl (lv_at hl 0 rfl) ?_
      refine aw_get S hE hw 0 (C := RX10) (T := TX10) (N := 8) rfl rfl hinX10 3 (by decide) hf37 rfl dX10_least_33 ?_
      refine aw_callV S hE (c_X6_leastHarm l G ad rr (rsR n so hs wa rs 0)) gX10_least_X6_leastHarm (n := 0) rfl (by decide +kernel) rfl (by rw [hRm]; exact ⟨Nat.le_of_ble_eq_true rfl, Nat.le_of_ble_eq_true rfl⟩) (by rw [hRm]; exact ⟨Nat.le_of_ble_eq_true rfl, Nat.le_of_ble_eq_true rfl⟩) hw hA hl.1 [2, 6, 7] rfl rfl (aw_recv (i := 2) hE hw rfl rfl rfl) rfl (Nat.le_of_ble_eq_true rfl) dX10_least_36 ?_
      rintro v w1 H locs ⟨rfl, rfl⟩ hw
      have hw : bW G A s.heap [[(ad 0, .inr (9, [.ref (ad 1), .ref (ad 2), .ref (ad 3), .ref (ad 4), .ref (ad 5), .ref (ad 6), .ref (ad 7), .int fl]))], [(ad 2, .inr (0, [.ref (ad 8), .ref (ad 9), .ref (ad 10), .ref (ad 11), .ref (ad 12), .int (nI n), .int lw]))], [(ad 4, .inr (6, [.ref (ad 2), .ref (ad 15)]))], [(ad 11, .inl (gI G, 64, .inl so))], [(ad 12, .inl (gI G, 64, .inl hs))], [(ad 10, .inl (gI G, 12, .inl wa))], [(ad 15, .inl (gA G, 13, .inr (.inr (.inr (.inr (fun q_ => some (rr q_)))))))], fam 13 rr (rrE G (rsR n so hs wa rs 0))] H locs := hw
      refine W.eq (g2 := (F0 m 39 ls [.int (if (rsR n so hs wa rs 0) 0 0 < 1048576 then (rsR n so hs wa rs 0) 0 0 else -9)])) rfl ?_
      refine aw_eqi (show (if (rsR n so hs wa rs 0) 0 0 < 1048576 then (rsR n so hs wa rs 0) 0 0 else -9 : Int32) = if prow n (soC n sk) (hsC n (fun j => hoK (kd j))) wa 12 0 < 1048576 then prow n (soC n sk) (hsC n (fun j => hoK (kd j))) wa 12 0 else -9 from (by rw [hr0])) ?_
      refine lv_istore_n (lv' := [(2, .int (if prow n (soC n sk) (hsC n (fun j => hoK (kd j))) wa 12 0 < 1048576 then prow n (soC n sk) (hsC n (fun j => hoK (kd j))) wa 12 0 else -9)), (0, .ref (ad 0)), (1, .int mo)]) S.1 S.2.1 dX10_least_39 rfl hl (by decide) rfl (fun ls hl => ?_)
      refine lv_iload_n S.1 S.2.1 dX10_least_40 rfl (lv_at hl 0 rfl) ?_
      refine lv_bipush (v := (-9)) S.1 S.2.1 dX10_least_41 (by decide) ?_
      refine lv_icmp_eq (tgt := 51) S.1 S.2.1 dX10_least_43 (by decide) (fun c43 => ?_) (fun c43 => ?_)
      · refine lv_iload_n S.1 S.2.1 dX10_least_51 rfl (lv_at hl 0 rfl) ?_
        refine lv_goto (tgt := 63) S.1 S.2.1 dX10_least_52 (by decide) ?_
        refine aw_eqi (show (if prow n (soC n sk) (hsC n (fun j => hoK (kd j))) wa 12 0 < 1048576 then prow n (soC n sk) (hsC n (fun j => hoK (kd j))) wa 12 0 else -9 : Int32) = f_least n sk (fun j => hoK (kd j)) wa mo from (by rw [f_least, if_pos hmo, if_neg c19, f_leastV]; rw [if_pos (Or.inl c43)])) ?_
        exact aw_iret S hr hlk ha hQ hAe hw dX10_least_63 rfl (Nat.le_of_ble_eq_true rfl) (Nat.le_of_ble_eq_true rfl) ⟨rfl, _, hr12, rfl⟩
      · refine lv_iload_n S.1 S.2.1 dX10_least_46 rfl (lv_at hl 2 rfl) ?_
        refine lv_iconst (v := (-1)) S.1 S.2.1 dX10_least_47 (by decide) ?_
        refine lv_icmp_ne (tgt := 55) S.1 S.2.1 dX10_least_48 (by decide) (fun c48 => ?_) (fun c48 => ?_)
        · have hmm : 0 ≤ mo.toInt ∧ mo.toInt < 12 := hmo.resolve_left c48
          have hb_mo : tn mo < 12 := aw_tnL hmm
          have hl := Eq.mp (congrArg (fun z_ : Int32 => lv_has ls 3 [(2, .int (if prow n (soC n sk) (hsC n (fun j => hoK (kd j))) wa 12 0 < 1048576 then prow n (soC n sk) (hsC n (fun j => hoK (kd j))) wa 12 0 else -9)), (0, .ref (ad 0)), (1, .int z_)]) (show (mo : Int32) = nI (tn mo) from (aw_tnE hmm))) hl
          have hl : lv_has ls 3 [(2, .int (if prow n (soC n sk) (hsC n (fun j => hoK (kd j))) wa 12 0 < 1048576 then prow n (soC n sk) (hsC n (fun j => hoK (kd j))) wa 12 0 else -9)), (0, .ref (ad 0)), (1, .int (nI (tn mo)))] := hl
          refine lv_aload_n S.1 S.2.1 dX10_least_55 rfl (lv_at hl 1 rfl) ?_
          refine aw_get S hE hw 0 (C := RX10) (T := TX10) (N := 8) rfl rfl hinX10 3 (by decide) hf37 rfl dX10_least_56 ?_
          refine lv_iload_n S.1 S.2.1 dX10_least_59 rfl (lv_at hl 2 rfl) ?_
          refine aw_callV S hE (c_X6_whoIsUp l G ad n lw so hs wa rr (rsR n so hs wa rs 0) (tn mo) (by first | assumption | omega) (by first | assumption | omega)) gX10_least_X6_whoIsUp (n := 1) rfl (by decide +kernel) rfl (by rw [hRm]; exact ⟨Nat.le_of_ble_eq_true rfl, Nat.le_of_ble_eq_true rfl⟩) (by rw [hRm]; exact ⟨Nat.le_of_ble_eq_true rfl, Nat.le_of_ble_eq_true rfl⟩) hw hA hl.1 [2, 1, 3, 4, 5, 6, 7] rfl rfl (aw_recv (i := 2) hE hw rfl rfl rfl) rfl (Nat.le_of_ble_eq_true rfl) dX10_least_60 ?_
          rintro v w1 H locs ⟨rfl, rfl⟩ hw
          have hw : bW G A s.heap [[(ad 0, .inr (9, [.ref (ad 1), .ref (ad 2), .ref (ad 3), .ref (ad 4), .ref (ad 5), .ref (ad 6), .ref (ad 7), .int fl]))], [(ad 2, .inr (0, [.ref (ad 8), .ref (ad 9), .ref (ad 10), .ref (ad 11), .ref (ad 12), .int (nI n), .int lw]))], [(ad 4, .inr (6, [.ref (ad 2), .ref (ad 15)]))], [(ad 11, .inl (gI G, 64, .inl so))], [(ad 12, .inl (gI G, 64, .inl hs))], [(ad 10, .inl (gI G, 12, .inl wa))], [(ad 15, .inl (gA G, 13, .inr (.inr (.inr (.inr (fun q_ => some (rr q_)))))))], fam 13 rr (rrE G (rsR n so hs wa rs 0))] H locs := hw
          refine W.eq (g2 := (F0 m 63 ls [.int (nI (wuN n so hs wa (rsR n so hs wa rs 0) ((tn mo) + 1)))])) rfl ?_
          refine aw_eqi (show (nI (wuN n so hs wa (rsR n so hs wa rs 0) ((tn mo) + 1)) : Int32) = f_least n sk (fun j => hoK (kd j)) wa mo from (by rw [f_least, if_pos hmo, if_neg c19, f_leastV]; rw [if_neg (fun q => q.elim c43 c48), hwu _ (by omega)])) ?_
          exact aw_iret S hr hlk ha hQ hAe hw dX10_least_63 rfl (Nat.le_of_ble_eq_true rfl) (Nat.le_of_ble_eq_true rfl) ⟨rfl, _, hr12, rfl⟩
        · refine lv_iload_n S.1 S.2.1 dX10_least_51 rfl (lv_at hl 0 rfl) ?_
          refine lv_goto (tgt := 63) S.1 S.2.1 dX10_least_52 (by decide) ?_
          refine aw_eqi (show (if prow n (soC n sk) (hsC n (fun j => hoK (kd j))) wa 12 0 < 1048576 then prow n (soC n sk) (hsC n (fun j => hoK (kd j))) wa 12 0 else -9 : Int32) = f_least n sk (fun j => hoK (kd j)) wa mo from (by rw [f_least, if_pos hmo, if_neg c19, f_leastV]; rw [if_pos (Or.inr c48)])) ?_
          exact aw_iret S hr hlk ha hQ hAe hw dX10_least_63 rfl (Nat.le_of_ble_eq_true rfl) (Nat.le_of_ble_eq_true rfl) ⟨rfl, _, hr12, rfl⟩
    · refine lv_bipush (v := (-3)) S.1 S.2.1 dX10_least_22 (by decide) ?_
      refine aw_eqi (show ((-3) : Int32) = f_least n sk (fun j => hoK (kd j)) wa mo from (by rw [f_least, if_pos hmo, if_pos c19])) ?_
      exact aw_iret S hr hlk ha hQ hAe hw dX10_least_24 rfl (Nat.le_of_ble_eq_true rfl) (Nat.le_of_ble_eq_true rfl) ⟨rfl, _, h12, rfl⟩
  · refine lv_iload_n S.1 S.2.1 dX10_least_5 rfl (lv_at hl 1 rfl) ?_
    refine aw_callS S hE (c_X10_isMonth l G mo) gX10_least_X10_isMonth (n := 1) rfl (by decide +kernel) rfl (by rw [hRm]; exact ⟨Nat.le_of_ble_eq_true rfl, Nat.le_of_ble_eq_true rfl⟩) (by rw [hRm]; exact ⟨Nat.le_of_ble_eq_true rfl, Nat.le_of_ble_eq_true rfl⟩) hw hA hl.1 [] rfl rfl rfl (Nat.le_of_ble_eq_true rfl) dX10_least_6 ?_
    rintro v w1 H locs ⟨rfl, rfl⟩ hw
    have hw : bW G A s.heap [[(ad 0, .inr (9, [.ref (ad 1), .ref (ad 2), .ref (ad 3), .ref (ad 4), .ref (ad 5), .ref (ad 6), .ref (ad 7), .int fl]))], [(ad 2, .inr (0, [.ref (ad 8), .ref (ad 9), .ref (ad 10), .ref (ad 11), .ref (ad 12), .int (nI n), .int lw]))], [(ad 4, .inr (6, [.ref (ad 2), .ref (ad 15)]))], [(ad 11, .inl (gI G, 64, .inl so))], [(ad 12, .inl (gI G, 64, .inl hs))], [(ad 10, .inl (gI G, 12, .inl wa))], [(ad 15, .inl (gA G, 13, .inr (.inr (.inr (.inr (fun q_ => some (rr q_)))))))], fam 13 rr (rrE G rs)] H locs := hw
    refine W.eq (g2 := (F0 m 9 ls [.int (if 0 ≤ mo.toInt ∧ mo.toInt < 12 then 1 else 0)])) rfl ?_
    refine aw_ifne (P := 0 ≤ mo.toInt ∧ mo.toInt < 12) (tgt := 15) S dX10_least_9 (by decide) (fun c9 => ?_) (fun c9 => ?_)
    · have hmo : mo = -1 ∨ (0 ≤ mo.toInt ∧ mo.toInt < 12) := Or.inr c9
      refine lv_aload_n S.1 S.2.1 dX10_least_15 rfl (lv_at hl 0 rfl) ?_
      refine aw_callV S hE (c_X10_noShip l G ad fl n lw (by first | assumption | omega)) gX10_least_X10_noShip (n := 0) rfl (by decide +kernel) rfl (by rw [hRm]; exact ⟨Nat.le_of_ble_eq_true rfl, Nat.le_of_ble_eq_true rfl⟩) (by rw [hRm]; exact ⟨Nat.le_of_ble_eq_true rfl, Nat.le_of_ble_eq_true rfl⟩) hw hA hl.1 [0, 1] rfl rfl (aw_recv (i := 0) hE hw rfl rfl rfl) rfl (Nat.le_of_ble_eq_true rfl) dX10_least_16 ?_
      rintro v w1 H locs ⟨rfl, rfl⟩ hw
      have hw : bW G A s.heap [[(ad 0, .inr (9, [.ref (ad 1), .ref (ad 2), .ref (ad 3), .ref (ad 4), .ref (ad 5), .ref (ad 6), .ref (ad 7), .int fl]))], [(ad 2, .inr (0, [.ref (ad 8), .ref (ad 9), .ref (ad 10), .ref (ad 11), .ref (ad 12), .int (nI n), .int lw]))], [(ad 4, .inr (6, [.ref (ad 2), .ref (ad 15)]))], [(ad 11, .inl (gI G, 64, .inl so))], [(ad 12, .inl (gI G, 64, .inl hs))], [(ad 10, .inl (gI G, 12, .inl wa))], [(ad 15, .inl (gA G, 13, .inr (.inr (.inr (.inr (fun q_ => some (rr q_)))))))], fam 13 rr (rrE G rs)] H locs := hw
      refine W.eq (g2 := (F0 m 19 ls [.int (if n = 0 then 1 else 0)])) rfl ?_
      refine aw_ifeq (P := n = 0) (tgt := 25) S dX10_least_19 (by decide) (fun c19 => ?_) (fun c19 => ?_)
      · refine lv_aload_n S.1 S.2.1 dX10_least_25 rfl (lv_at hl 0 rfl) ?_
        refine aw_get S hE hw 0 (C := RX10) (T := TX10) (N := 8) rfl rfl hinX10 3 (by decide) hf37 rfl dX10_least_26 ?_
        refine aw_callV S hE (c_X6_reckon l G ad n lw so hs wa rr rs (by first | assumption | omega) (by first | assumption | omega)) gX10_least_X6_reckon (n := 0) rfl (by decide +kernel) rfl (by rw [hRm]; exact ⟨Nat.le_of_ble_eq_true rfl, Nat.le_of_ble_eq_true rfl⟩) (by rw [hRm]; exact ⟨Nat.le_of_ble_eq_true rfl, Nat.le_of_ble_eq_true rfl⟩) hw hA hl.1 [2, 1, 3, 4, 5, 6, 7] rfl rfl (aw_recv (i := 2) hE hw rfl rfl rfl) rfl (Nat.le_of_ble_eq_true rfl) dX10_least_29 ?_
        rintro v w1 H locs ⟨rfl, rfl⟩ hw
        have hw : bW G A s.heap [[(ad 0, .inr (9, [.ref (ad 1), .ref (ad 2), .ref (ad 3), .ref (ad 4), .ref (ad 5), .ref (ad 6), .ref (ad 7), .int fl]))], [(ad 2, .inr (0, [.ref (ad 8), .ref (ad 9), .ref (ad 10), .ref (ad 11), .ref (ad 12), .int (nI n), .int lw]))], [(ad 4, .inr (6, [.ref (ad 2), .ref (ad 15)]))], [(ad 11, .inl (gI G, 64, .inl so))], [(ad 12, .inl (gI G, 64, .inl hs))], [(ad 10, .inl (gI G, 12, .inl wa))], [(ad 15, .inl (gA G, 13, .inr (.inr (.inr (.inr (fun q_ => some (rr q_)))))))], fam 13 rr (rrE G (rsR n so hs wa rs 0))] H locs := hw
        refine W.eq (g2 := (F0 m 32 ls [])) rfl ?_
        refine lv_aload_n S.1 S.2.1 dX10_least_32 rfl (lv_at hl 0 rfl) ?_
        refine aw_get S hE hw 0 (C := RX10) (T := TX10) (N := 8) rfl rfl hinX10 3 (by decide) hf37 rfl dX10_least_33 ?_
        refine aw_callV S hE (c_X6_leastHarm l G ad rr (rsR n so hs wa rs 0)) gX10_least_X6_leastHarm (n := 0) rfl (by decide +kernel) rfl (by rw [hRm]; exact ⟨Nat.le_of_ble_eq_true rfl, Nat.le_of_ble_eq_true rfl⟩) (by rw [hRm]; exact ⟨Nat.le_of_ble_eq_true rfl, Nat.le_of_ble_eq_true rfl⟩) hw hA hl.1 [2, 6, 7] rfl rfl (aw_recv (i := 2) hE hw rfl rfl rfl) rfl (Nat.le_of_ble_eq_true rfl) dX10_least_36 ?_
        rintro v w1 H locs ⟨rfl, rfl⟩ hw
        have hw : bW G A s.heap [[(ad 0, .inr (9, [.ref (ad 1), .ref (ad 2), .ref (ad 3), .ref (ad 4), .ref (ad 5), .ref (ad 6), .ref (ad 7), .int fl]))], [(ad 2, .inr (0, [.ref (ad 8), .ref (ad 9), .ref (ad 10), .ref (ad 11), .ref (ad 12), .int (nI n), .int lw]))], [(ad 4, .inr (6, [.ref (ad 2), .ref (ad 15)]))], [(ad 11, .inl (gI G, 64, .inl so))], [(ad 12, .inl (gI G, 64, .inl hs))], [(ad 10, .inl (gI G, 12, .inl wa))], [(ad 15, .inl (gA G, 13, .inr (.inr (.inr (.inr (fun q_ => some (rr q_)))))))], fam 13 rr (rrE G (rsR n so hs wa rs 0))] H locs := hw
        refine W.eq (g2 := (F0 m 39 ls [.int (if (rsR n so hs wa rs 0) 0 0 < 1048576 then (rsR n so hs wa rs 0) 0 0 else -9)])) rfl ?_
        refine aw_eqi (show (if (rsR n so hs wa rs 0) 0 0 < 1048576 then (rsR n so hs wa rs 0) 0 0 else -9 : Int32) = if prow n (soC n sk) (hsC n (fun j => hoK (kd j))) wa 12 0 < 1048576 then prow n (soC n sk) (hsC n (fun j => hoK (kd j))) wa 12 0 else -9 from (by rw [hr0])) ?_
        refine lv_istore_n (lv' := [(2, .int (if prow n (soC n sk) (hsC n (fun j => hoK (kd j))) wa 12 0 < 1048576 then prow n (soC n sk) (hsC n (fun j => hoK (kd j))) wa 12 0 else -9)), (0, .ref (ad 0)), (1, .int mo)]) S.1 S.2.1 dX10_least_39 rfl hl (by decide) rfl (fun ls hl => ?_)
        refine lv_iload_n S.1 S.2.1 dX10_least_40 rfl (lv_at hl 0 rfl) ?_
        refine lv_bipush (v := (-9)) S.1 S.2.1 dX10_least_41 (by decide) ?_
        refine lv_icmp_eq (tgt := 51) S.1 S.2.1 dX10_least_43 (by decide) (fun c43 => ?_) (fun c43 => ?_)
        · refine lv_iload_n S.1 S.2.1 dX10_least_51 rfl (lv_at hl 0 rfl) ?_
          refine lv_goto (tgt := 63) S.1 S.2.1 dX10_least_52 (by decide) ?_
          refine aw_eqi (show (if prow n (soC n sk) (hsC n (fun j => hoK (kd j))) wa 12 0 < 1048576 then prow n (soC n sk) (hsC n (fun j => hoK (kd j))) wa 12 0 else -9 : Int32) = f_least n sk (fun j => hoK (kd j)) wa mo from (by rw [f_least, if_pos hmo, if_neg c19, f_leastV]; rw [if_pos (Or.inl c43)])) ?_
          exact aw_iret S hr hlk ha hQ hAe hw dX10_least_63 rfl (Nat.le_of_ble_eq_true rfl) (Nat.le_of_ble_eq_true rfl) ⟨rfl, _, hr12, rfl⟩
        · refine lv_iload_n S.1 S.2.1 dX10_least_46 rfl (lv_at hl 2 rfl) ?_
          refine lv_iconst (v := (-1)) S.1 S.2.1 dX10_least_47 (by decide) ?_
          refine lv_icmp_ne (tgt := 55) S.1 S.2.1 dX10_least_48 (by decide) (fun c48 => ?_) (fun c48 => ?_)
          · have hmm : 0 ≤ mo.toInt ∧ mo.toInt < 12 := hmo.resolve_left c48
            have hb_mo : tn mo < 12 := aw_tnL hmm
            have hl := Eq.mp (congrArg (fun z_ : Int32 => lv_has ls 3 [(2, .int (if prow n (soC n sk) (hsC n (fun j => hoK (kd j))) wa 12 0 < 1048576 then prow n (soC n sk) (hsC n (fun j => hoK (kd j))) wa 12 0 else -9)), (0, .ref (ad 0)), (1, .int z_)]) (show (mo : Int32) = nI (tn mo) from (aw_tnE hmm))) hl
            have hl : lv_has ls 3 [(2, .int (if prow n (soC n sk) (hsC n (fun j => hoK (kd j))) wa 12 0 < 1048576 then prow n (soC n sk) (hsC n (fun j => hoK (kd j))) wa 12 0 else -9)), (0, .ref (ad 0)), (1, .int (nI (tn mo)))] := hl
            refine lv_aload_n S.1 S.2.1 dX10_least_55 rfl (lv_at hl 1 rfl) ?_
            refine aw_get S hE hw 0 (C := RX10) (T := TX10) (N := 8) rfl rfl hinX10 3 (by decide) hf37 rfl dX10_least_56 ?_
            refine lv_iload_n S.1 S.2.1 dX10_least_59 rfl (lv_at hl 2 rfl) ?_
            refine aw_callV S hE (c_X6_whoIsUp l G ad n lw so hs wa rr (rsR n so hs wa rs 0) (tn mo) (by first | assumption | omega) (by first | assumption | omega)) gX10_least_X6_whoIsUp (n := 1) rfl (by decide +kernel) rfl (by rw [hRm]; exact ⟨Nat.le_of_ble_eq_true rfl, Nat.le_of_ble_eq_true rfl⟩) (by rw [hRm]; exact ⟨Nat.le_of_ble_eq_true rfl, Nat.le_of_ble_eq_true rfl⟩) hw hA hl.1 [2, 1, 3, 4, 5, 6, 7] rfl rfl (aw_recv (i := 2) hE hw rfl rfl rfl) rfl (Nat.le_of_ble_eq_true rfl) dX10_least_60 ?_
            rintro v w1 H locs ⟨rfl, rfl⟩ hw
            have hw : bW G A s.heap [[(ad 0, .inr (9, [.ref (ad 1), .ref (ad 2), .ref (ad 3), .ref (ad 4), .ref (ad 5), .ref (ad 6), .ref (ad 7), .int fl]))], [(ad 2, .inr (0, [.ref (ad 8), .ref (ad 9), .ref (ad 10), .ref (ad 11), .ref (ad 12), .int (nI n), .int lw]))], [(ad 4, .inr (6, [.ref (ad 2), .ref (ad 15)]))], [(ad 11, .inl (gI G, 64, .inl so))], [(ad 12, .inl (gI G, 64, .inl hs))], [(ad 10, .inl (gI G, 12, .inl wa))], [(ad 15, .inl (gA G, 13, .inr (.inr (.inr (.inr (fun q_ => some (rr q_)))))))], fam 13 rr (rrE G (rsR n so hs wa rs 0))] H locs := hw
            refine W.eq (g2 := (F0 m 63 ls [.int (nI (wuN n so hs wa (rsR n so hs wa rs 0) ((tn mo) + 1)))])) rfl ?_
            refine aw_eqi (show (nI (wuN n so hs wa (rsR n so hs wa rs 0) ((tn mo) + 1)) : Int32) = f_least n sk (fun j => hoK (kd j)) wa mo from (by rw [f_least, if_pos hmo, if_neg c19, f_leastV]; rw [if_neg (fun q => q.elim c43 c48), hwu _ (by omega)])) ?_
            exact aw_iret S hr hlk ha hQ hAe hw dX10_least_63 rfl (Nat.le_of_ble_eq_true rfl) (Nat.le_of_ble_eq_true rfl) ⟨rfl, _, hr12, rfl⟩
          · refine lv_iload_n S.1 S.2.1 dX10_least_51 rfl (lv_at hl 0 rfl) ?_
            refine lv_goto (tgt := 63) S.1 S.2.1 dX10_least_52 (by decide) ?_
            refine aw_eqi (show (if prow n (soC n sk) (hsC n (fun j => hoK (kd j))) wa 12 0 < 1048576 then prow n (soC n sk) (hsC n (fun j => hoK (kd j))) wa 12 0 else -9 : Int32) = f_least n sk (fun j => hoK (kd j)) wa mo from (by rw [f_least, if_pos hmo, if_neg c19, f_leastV]; rw [if_pos (Or.inr c48)])) ?_
            exact aw_iret S hr hlk ha hQ hAe hw dX10_least_63 rfl (Nat.le_of_ble_eq_true rfl) (Nat.le_of_ble_eq_true rfl) ⟨rfl, _, hr12, rfl⟩
      · refine lv_bipush (v := (-3)) S.1 S.2.1 dX10_least_22 (by decide) ?_
        refine aw_eqi (show ((-3) : Int32) = f_least n sk (fun j => hoK (kd j)) wa mo from (by rw [f_least, if_pos hmo, if_pos c19])) ?_
        exact aw_iret S hr hlk ha hQ hAe hw dX10_least_24 rfl (Nat.le_of_ble_eq_true rfl) (Nat.le_of_ble_eq_true rfl) ⟨rfl, _, h12, rfl⟩
    · have hmo : ¬ (mo = -1 ∨ (0 ≤ mo.toInt ∧ mo.toInt < 12)) := fun q => q.elim c2 c9
      refine lv_bipush (v := (-2)) S.1 S.2.1 dX10_least_12 (by decide) ?_
      refine aw_eqi (show ((-2) : Int32) = f_least n sk (fun j => hoK (kd j)) wa mo from (by rw [f_least, if_neg hmo])) ?_
      exact aw_iret S hr hlk ha hQ hAe hw dX10_least_14 rfl (Nat.le_of_ble_eq_true rfl) (Nat.le_of_ble_eq_true rfl) ⟨rfl, _, h12, rfl⟩
set_option maxRecDepth 100000 in
set_option maxHeartbeats 4000000 in
theorem c_X10_knows (l : Launch) (G : aw_G) (ad : Nat → Nat) (fl : Int32) (n : Nat) (lw : Int32) (nn nr : Nat) (nf nt : Nat → Nat) (kn tu : Nat → Int32) (sv mo so_ : Int32) (hn : n ≤ 6) (hnn : nn ≤ 8) (hnf : ∀ k, k < nn → nf k < 6) : CT l G yX10_knows wsX10_knows ({ frames := 3, cells := 0, slots := 0, locals := 70 }) [.ref (ad 0), .int sv, .int mo, .int so_] [[(ad 0, .inr (9, [.ref (ad 1), .ref (ad 2), .ref (ad 3), .ref (ad 4), .ref (ad 5), .ref (ad 6), .ref (ad 7), .int fl]))], [(ad 2, .inr (0, [.ref (ad 8), .ref (ad 9), .ref (ad 10), .ref (ad 11), .ref (ad 12), .int (nI n), .int lw]))], [(ad 5, .inr (4, [.ref (ad 16), .ref (ad 17), .ref (ad 18), .ref (ad 19), .ref (ad 20), .ref (ad 21), .int (nI nn), .int (nI nr)]))], [(ad 16, .inl (gI G, 8, .inl (fun k => nI (nf k))))], [(ad 17, .inl (gI G, 8, .inl (fun k => nI (nt k))))], [(ad 21, .inl (gI G, 12, .inl kn))], [(ad 9, .inl (gI G, 12, .inl tu))]] (fun v w => v = some (.int (f_knows n sv so_ mo (nwE nf nt nn (tn sv) (tn mo) tu))) ∧ ∃ (kn : Nat → Int32), w = [[(ad 0, .inr (9, [.ref (ad 1), .ref (ad 2), .ref (ad 3), .ref (ad 4), .ref (ad 5), .ref (ad 6), .ref (ad 7), .int fl]))], [(ad 2, .inr (0, [.ref (ad 8), .ref (ad 9), .ref (ad 10), .ref (ad 11), .ref (ad 12), .int (nI n), .int lw]))], [(ad 5, .inr (4, [.ref (ad 16), .ref (ad 17), .ref (ad 18), .ref (ad 19), .ref (ad 20), .ref (ad 21), .int (nI nn), .int (nI nr)]))], [(ad 16, .inl (gI G, 8, .inl (fun k => nI (nf k))))], [(ad 17, .inl (gI G, 8, .inl (fun k => nI (nt k))))], [(ad 21, .inl (gI G, 12, .inl kn))], [(ad 9, .inl (gI G, 12, .inl tu))]]) := by
  refine CT.of (cc := cX10_knows) (nL := 4) (ret := (some .int)) (by decide) rfl (Nat.le_of_ble_eq_true rfl) ?_
  intro p e s m below meth c R args Q A hRm ha hQ hAe hA S hE hr hlk hnm H locs hH0 hL0 ls hl hw
  have S : CallFix p m c cX10_knows 4 s args wsX10_knows RX10 := S
  have hl : lv_has ls 4 [(0, .ref (ad 0)), (1, .int sv), (2, .int mo), (3, .int so_)] := hl
  have hinX10 : ∀ w ∈ u_ws RX10 TX10 8, w ∈ wsX10_knows := by decide +kernel
  have hf21 := S.2.2.2.2 (.fieldLink RX10 21 "AwakeTurns" "crew" "LAwakeTurns$Crew;") (by decide +kernel)
  have hf44 := S.2.2.2.2 (.fieldLink RX10 44 "AwakeTurns" "news" "LAwakeTurns$News;") (by decide +kernel)
  have hinX0 : ∀ w ∈ u_ws RX0 TX0 7, w ∈ wsX10_knows := by decide +kernel
  have hf126 := S.2.2.2.2 (.fieldLink RX10 126 "AwakeTurns$Crew" "turns" "[I") (by decide +kernel)
  refine lv_aload_n S.1 S.2.1 dX10_knows_0 rfl (lv_at hl 0 rfl) ?_
  refine aw_get S hE hw 0 (C := RX10) (T := TX10) (N := 8) rfl rfl hinX10 1 (by decide) hf21 rfl dX10_knows_1 ?_
  refine lv_iload_n S.1 S.2.1 dX10_knows_4 rfl (lv_at hl 1 rfl) ?_
  refine aw_callV S hE (c_X0_has l G ad n lw sv (by first | assumption | omega)) gX10_knows_X0_has (n := 1) rfl (by decide +kernel) rfl (by rw [hRm]; exact ⟨Nat.le_of_ble_eq_true rfl, Nat.le_of_ble_eq_true rfl⟩) (by rw [hRm]; exact ⟨Nat.le_of_ble_eq_true rfl, Nat.le_of_ble_eq_true rfl⟩) hw hA hl.1 [1] rfl rfl (aw_recv (i := 1) hE hw rfl rfl rfl) rfl (Nat.le_of_ble_eq_true rfl) dX10_knows_5 ?_
  rintro v w1 H locs ⟨rfl, rfl⟩ hw
  have hw : bW G A s.heap [[(ad 0, .inr (9, [.ref (ad 1), .ref (ad 2), .ref (ad 3), .ref (ad 4), .ref (ad 5), .ref (ad 6), .ref (ad 7), .int fl]))], [(ad 2, .inr (0, [.ref (ad 8), .ref (ad 9), .ref (ad 10), .ref (ad 11), .ref (ad 12), .int (nI n), .int lw]))], [(ad 5, .inr (4, [.ref (ad 16), .ref (ad 17), .ref (ad 18), .ref (ad 19), .ref (ad 20), .ref (ad 21), .int (nI nn), .int (nI nr)]))], [(ad 16, .inl (gI G, 8, .inl (fun k => nI (nf k))))], [(ad 17, .inl (gI G, 8, .inl (fun k => nI (nt k))))], [(ad 21, .inl (gI G, 12, .inl kn))], [(ad 9, .inl (gI G, 12, .inl tu))]] H locs := hw
  refine W.eq (g2 := (F0 m 8 ls [.int (if 0 ≤ sv.toInt ∧ sv.toInt < n then 1 else 0)])) rfl ?_
  refine aw_ifeq (P := 0 ≤ sv.toInt ∧ sv.toInt < n) (tgt := 22) S dX10_knows_8 (by decide) (fun c8 => ?_) (fun c8 => ?_)
  · refine lv_iconst (v := (-1)) S.1 S.2.1 dX10_knows_22 (by decide) ?_
    refine aw_eqi (show ((-1) : Int32) = f_knows n sv so_ mo (nwE nf nt nn (tn sv) (tn mo) tu) from (by rw [f_knows]; first | rw [if_neg (fun q => c8 q.1)] | rw [if_neg (fun q => c19 q.2)] | (rw [if_pos ⟨c8, c19⟩]; first | rw [if_neg c28] | rw [if_pos c28]))) ?_
    exact aw_iret S hr hlk ha hQ hAe hw dX10_knows_23 rfl (Nat.le_of_ble_eq_true rfl) (Nat.le_of_ble_eq_true rfl) ⟨rfl, _, rfl⟩
  · have hb_sv : tn sv < n := aw_tnL c8
    have hl := Eq.mp (congrArg (fun z_ : Int32 => lv_has ls 4 [(0, .ref (ad 0)), (1, .int z_), (2, .int mo), (3, .int so_)]) (show (sv : Int32) = nI (tn sv) from (aw_tnE c8))) hl
    have hl : lv_has ls 4 [(0, .ref (ad 0)), (1, .int (nI (tn sv))), (2, .int mo), (3, .int so_)] := hl
    refine lv_aload_n S.1 S.2.1 dX10_knows_11 rfl (lv_at hl 0 rfl) ?_
    refine aw_get S hE hw 0 (C := RX10) (T := TX10) (N := 8) rfl rfl hinX10 1 (by decide) hf21 rfl dX10_knows_12 ?_
    refine lv_iload_n S.1 S.2.1 dX10_knows_15 rfl (lv_at hl 3 rfl) ?_
    refine aw_callV S hE (c_X0_has l G ad n lw so_ (by first | assumption | omega)) gX10_knows_X0_has (n := 1) rfl (by decide +kernel) rfl (by rw [hRm]; exact ⟨Nat.le_of_ble_eq_true rfl, Nat.le_of_ble_eq_true rfl⟩) (by rw [hRm]; exact ⟨Nat.le_of_ble_eq_true rfl, Nat.le_of_ble_eq_true rfl⟩) hw hA hl.1 [1] rfl rfl (aw_recv (i := 1) hE hw rfl rfl rfl) rfl (Nat.le_of_ble_eq_true rfl) dX10_knows_16 ?_
    rintro v w1 H locs ⟨rfl, rfl⟩ hw
    have hw : bW G A s.heap [[(ad 0, .inr (9, [.ref (ad 1), .ref (ad 2), .ref (ad 3), .ref (ad 4), .ref (ad 5), .ref (ad 6), .ref (ad 7), .int fl]))], [(ad 2, .inr (0, [.ref (ad 8), .ref (ad 9), .ref (ad 10), .ref (ad 11), .ref (ad 12), .int (nI n), .int lw]))], [(ad 5, .inr (4, [.ref (ad 16), .ref (ad 17), .ref (ad 18), .ref (ad 19), .ref (ad 20), .ref (ad 21), .int (nI nn), .int (nI nr)]))], [(ad 16, .inl (gI G, 8, .inl (fun k => nI (nf k))))], [(ad 17, .inl (gI G, 8, .inl (fun k => nI (nt k))))], [(ad 21, .inl (gI G, 12, .inl kn))], [(ad 9, .inl (gI G, 12, .inl tu))]] H locs := hw
    refine W.eq (g2 := (F0 m 19 ls [.int (if 0 ≤ so_.toInt ∧ so_.toInt < n then 1 else 0)])) rfl ?_
    refine aw_ifne (P := 0 ≤ so_.toInt ∧ so_.toInt < n) (tgt := 24) S dX10_knows_19 (by decide) (fun c19 => ?_) (fun c19 => ?_)
    · have hb_so_ : tn so_ < n := aw_tnL c19
      have hl := Eq.mp (congrArg (fun z_ : Int32 => lv_has ls 4 [(0, .ref (ad 0)), (1, .int (nI (tn sv))), (2, .int mo), (3, .int z_)]) (show (so_ : Int32) = nI (tn so_) from (aw_tnE c19))) hl
      have hl : lv_has ls 4 [(0, .ref (ad 0)), (1, .int (nI (tn sv))), (2, .int mo), (3, .int (nI (tn so_)))] := hl
      refine lv_iload_n S.1 S.2.1 dX10_knows_24 rfl (lv_at hl 2 rfl) ?_
      refine aw_callS S hE (c_X10_isMonth l G mo) gX10_knows_X10_isMonth (n := 1) rfl (by decide +kernel) rfl (by rw [hRm]; exact ⟨Nat.le_of_ble_eq_true rfl, Nat.le_of_ble_eq_true rfl⟩) (by rw [hRm]; exact ⟨Nat.le_of_ble_eq_true rfl, Nat.le_of_ble_eq_true rfl⟩) hw hA hl.1 [] rfl rfl rfl (Nat.le_of_ble_eq_true rfl) dX10_knows_25 ?_
      rintro v w1 H locs ⟨rfl, rfl⟩ hw
      have hw : bW G A s.heap [[(ad 0, .inr (9, [.ref (ad 1), .ref (ad 2), .ref (ad 3), .ref (ad 4), .ref (ad 5), .ref (ad 6), .ref (ad 7), .int fl]))], [(ad 2, .inr (0, [.ref (ad 8), .ref (ad 9), .ref (ad 10), .ref (ad 11), .ref (ad 12), .int (nI n), .int lw]))], [(ad 5, .inr (4, [.ref (ad 16), .ref (ad 17), .ref (ad 18), .ref (ad 19), .ref (ad 20), .ref (ad 21), .int (nI nn), .int (nI nr)]))], [(ad 16, .inl (gI G, 8, .inl (fun k => nI (nf k))))], [(ad 17, .inl (gI G, 8, .inl (fun k => nI (nt k))))], [(ad 21, .inl (gI G, 12, .inl kn))], [(ad 9, .inl (gI G, 12, .inl tu))]] H locs := hw
      refine W.eq (g2 := (F0 m 28 ls [.int (if 0 ≤ mo.toInt ∧ mo.toInt < 12 then 1 else 0)])) rfl ?_
      refine aw_ifne (P := 0 ≤ mo.toInt ∧ mo.toInt < 12) (tgt := 34) S dX10_knows_28 (by decide) (fun c28 => ?_) (fun c28 => ?_)
      · have hb_mo : tn mo < 12 := aw_tnL c28
        have hl := Eq.mp (congrArg (fun z_ : Int32 => lv_has ls 4 [(0, .ref (ad 0)), (1, .int (nI (tn sv))), (2, .int z_), (3, .int (nI (tn so_)))]) (show (mo : Int32) = nI (tn mo) from (aw_tnE c28))) hl
        have hl : lv_has ls 4 [(0, .ref (ad 0)), (1, .int (nI (tn sv))), (2, .int (nI (tn mo))), (3, .int (nI (tn so_)))] := hl
        refine lv_aload_n S.1 S.2.1 dX10_knows_34 rfl (lv_at hl 0 rfl) ?_
        refine aw_get S hE hw 0 (C := RX10) (T := TX10) (N := 8) rfl rfl hinX10 4 (by decide) hf44 rfl dX10_knows_35 ?_
        refine lv_iload_n S.1 S.2.1 dX10_knows_38 rfl (lv_at hl 1 rfl) ?_
        refine lv_iload_n S.1 S.2.1 dX10_knows_39 rfl (lv_at hl 2 rfl) ?_
        refine lv_aload_n S.1 S.2.1 dX10_knows_40 rfl (lv_at hl 0 rfl) ?_
        refine aw_get S hE hw 0 (C := RX10) (T := TX10) (N := 8) rfl rfl hinX10 1 (by decide) hf21 rfl dX10_knows_41 ?_
        refine aw_get S hE hw 1 (C := RX0) (T := TX0) (N := 7) rfl rfl hinX0 1 (by decide) hf126 rfl dX10_knows_44 ?_
        refine aw_callV S hE (c_X4_spread l G ad nn nr nf nt kn (tn sv) (tn mo) (ad 9) tu (by first | assumption | omega) (by first | assumption | omega) (by first | assumption | omega)) gX10_knows_X4_spread (n := 3) rfl (by decide +kernel) rfl (by rw [hRm]; exact ⟨Nat.le_of_ble_eq_true rfl, Nat.le_of_ble_eq_true rfl⟩) (by rw [hRm]; exact ⟨Nat.le_of_ble_eq_true rfl, Nat.le_of_ble_eq_true rfl⟩) hw hA hl.1 [2, 3, 4, 5, 6] rfl rfl (aw_recv (i := 2) hE hw rfl rfl rfl) rfl (Nat.le_of_ble_eq_true rfl) dX10_knows_47 ?_
        rintro v w1 H locs ⟨rfl, rfl⟩ hw
        have hw : bW G A s.heap [[(ad 0, .inr (9, [.ref (ad 1), .ref (ad 2), .ref (ad 3), .ref (ad 4), .ref (ad 5), .ref (ad 6), .ref (ad 7), .int fl]))], [(ad 2, .inr (0, [.ref (ad 8), .ref (ad 9), .ref (ad 10), .ref (ad 11), .ref (ad 12), .int (nI n), .int lw]))], [(ad 5, .inr (4, [.ref (ad 16), .ref (ad 17), .ref (ad 18), .ref (ad 19), .ref (ad 20), .ref (ad 21), .int (nI nn), .int (nI nr)]))], [(ad 16, .inl (gI G, 8, .inl (fun k => nI (nf k))))], [(ad 17, .inl (gI G, 8, .inl (fun k => nI (nt k))))], [(ad 21, .inl (gI G, 12, .inl (nwE nf nt nn (tn sv) (tn mo) tu)))], [(ad 9, .inl (gI G, 12, .inl tu))]] H locs := hw
        refine W.eq (g2 := (F0 m 50 ls [])) rfl ?_
        refine lv_aload_n S.1 S.2.1 dX10_knows_50 rfl (lv_at hl 0 rfl) ?_
        refine aw_get S hE hw 0 (C := RX10) (T := TX10) (N := 8) rfl rfl hinX10 4 (by decide) hf44 rfl dX10_knows_51 ?_
        refine lv_iload_n S.1 S.2.1 dX10_knows_54 rfl (lv_at hl 3 rfl) ?_
        refine aw_callV S hE (c_X4_firstMonthOf l G ad nn nr (nwE nf nt nn (tn sv) (tn mo) tu) (tn so_) (by first | assumption | omega)) gX10_knows_X4_firstMonthOf (n := 1) rfl (by decide +kernel) rfl (by rw [hRm]; exact ⟨Nat.le_of_ble_eq_true rfl, Nat.le_of_ble_eq_true rfl⟩) (by rw [hRm]; exact ⟨Nat.le_of_ble_eq_true rfl, Nat.le_of_ble_eq_true rfl⟩) hw hA hl.1 [2, 5] rfl rfl (aw_recv (i := 2) hE hw rfl rfl rfl) rfl (Nat.le_of_ble_eq_true rfl) dX10_knows_55 ?_
        rintro v w1 H locs ⟨rfl, rfl⟩ hw
        have hw : bW G A s.heap [[(ad 0, .inr (9, [.ref (ad 1), .ref (ad 2), .ref (ad 3), .ref (ad 4), .ref (ad 5), .ref (ad 6), .ref (ad 7), .int fl]))], [(ad 2, .inr (0, [.ref (ad 8), .ref (ad 9), .ref (ad 10), .ref (ad 11), .ref (ad 12), .int (nI n), .int lw]))], [(ad 5, .inr (4, [.ref (ad 16), .ref (ad 17), .ref (ad 18), .ref (ad 19), .ref (ad 20), .ref (ad 21), .int (nI nn), .int (nI nr)]))], [(ad 16, .inl (gI G, 8, .inl (fun k => nI (nf k))))], [(ad 17, .inl (gI G, 8, .inl (fun k => nI (nt k))))], [(ad 21, .inl (gI G, 12, .inl (nwE nf nt nn (tn sv) (tn mo) tu)))], [(ad 9, .inl (gI G, 12, .inl tu))]] H locs := hw
        refine W.eq (g2 := (F0 m 58 ls [.int (noI (fF (fun m => bt ((nwE nf nt nn (tn sv) (tn mo) tu) m) (tn so_)) 12) 12)])) rfl ?_
        refine aw_eqi (show (noI (fF (fun m => bt ((nwE nf nt nn (tn sv) (tn mo) tu) m) (tn so_)) 12) 12 : Int32) = f_knows n sv so_ mo (nwE nf nt nn (tn sv) (tn mo) tu) from (by rw [f_knows]; first | rw [if_neg (fun q => c8 q.1)] | rw [if_neg (fun q => c19 q.2)] | (rw [if_pos ⟨c8, c19⟩]; first | rw [if_neg c28] | rw [if_pos c28]))) ?_
        exact aw_iret S hr hlk ha hQ hAe hw dX10_knows_58 rfl (Nat.le_of_ble_eq_true rfl) (Nat.le_of_ble_eq_true rfl) ⟨rfl, _, rfl⟩
      · refine lv_bipush (v := (-2)) S.1 S.2.1 dX10_knows_31 (by decide) ?_
        refine aw_eqi (show ((-2) : Int32) = f_knows n sv so_ mo (nwE nf nt nn (tn sv) (tn mo) tu) from (by rw [f_knows]; first | rw [if_neg (fun q => c8 q.1)] | rw [if_neg (fun q => c19 q.2)] | (rw [if_pos ⟨c8, c19⟩]; first | rw [if_neg c28] | rw [if_pos c28]))) ?_
        exact aw_iret S hr hlk ha hQ hAe hw dX10_knows_33 rfl (Nat.le_of_ble_eq_true rfl) (Nat.le_of_ble_eq_true rfl) ⟨rfl, _, rfl⟩
    · refine lv_iconst (v := (-1)) S.1 S.2.1 dX10_knows_22 (by decide) ?_
      refine aw_eqi (show ((-1) : Int32) = f_knows n sv so_ mo (nwE nf nt nn (tn sv) (tn mo) tu) from (by rw [f_knows]; first | rw [if_neg (fun q => c8 q.1)] | rw [if_neg (fun q => c19 q.2)] | (rw [if_pos ⟨c8, c19⟩]; first | rw [if_neg c28] | rw [if_pos c28]))) ?_
      exact aw_iret S hr hlk ha hQ hAe hw dX10_knows_23 rfl (Nat.le_of_ble_eq_true rfl) (Nat.le_of_ble_eq_true rfl) ⟨rfl, _, rfl⟩
set_option maxRecDepth 100000 in
set_option maxHeartbeats 4000000 in
theorem c_X10_kept (l : Launch) (G : aw_G) (ad : Nat → Nat) (fl : Int32) (n : Nat) (lw : Int32) (nn nr : Nat) (nf nt : Nat → Nat) (kn tu : Nat → Int32) (sv mo : Int32) (hn : n ≤ 6) (hnn : nn ≤ 8) (hnf : ∀ k, k < nn → nf k < 6) : CT l G yX10_kept wsX10_kept ({ frames := 3, cells := 0, slots := 0, locals := 70 }) [.ref (ad 0), .int sv, .int mo] [[(ad 0, .inr (9, [.ref (ad 1), .ref (ad 2), .ref (ad 3), .ref (ad 4), .ref (ad 5), .ref (ad 6), .ref (ad 7), .int fl]))], [(ad 2, .inr (0, [.ref (ad 8), .ref (ad 9), .ref (ad 10), .ref (ad 11), .ref (ad 12), .int (nI n), .int lw]))], [(ad 5, .inr (4, [.ref (ad 16), .ref (ad 17), .ref (ad 18), .ref (ad 19), .ref (ad 20), .ref (ad 21), .int (nI nn), .int (nI nr)]))], [(ad 16, .inl (gI G, 8, .inl (fun k => nI (nf k))))], [(ad 17, .inl (gI G, 8, .inl (fun k => nI (nt k))))], [(ad 21, .inl (gI G, 12, .inl kn))], [(ad 9, .inl (gI G, 12, .inl tu))]] (fun v w => v = some (.int (f_sm n sv mo (nI (2 ^ n - 1) &&& (nwE nf nt nn (tn sv) (tn mo) tu 11 ^^^ (-1))))) ∧ ∃ (kn : Nat → Int32), w = [[(ad 0, .inr (9, [.ref (ad 1), .ref (ad 2), .ref (ad 3), .ref (ad 4), .ref (ad 5), .ref (ad 6), .ref (ad 7), .int fl]))], [(ad 2, .inr (0, [.ref (ad 8), .ref (ad 9), .ref (ad 10), .ref (ad 11), .ref (ad 12), .int (nI n), .int lw]))], [(ad 5, .inr (4, [.ref (ad 16), .ref (ad 17), .ref (ad 18), .ref (ad 19), .ref (ad 20), .ref (ad 21), .int (nI nn), .int (nI nr)]))], [(ad 16, .inl (gI G, 8, .inl (fun k => nI (nf k))))], [(ad 17, .inl (gI G, 8, .inl (fun k => nI (nt k))))], [(ad 21, .inl (gI G, 12, .inl kn))], [(ad 9, .inl (gI G, 12, .inl tu))]]) := by
  refine CT.of (cc := cX10_kept) (nL := 3) (ret := (some .int)) (by decide) rfl (Nat.le_of_ble_eq_true rfl) ?_
  intro p e s m below meth c R args Q A hRm ha hQ hAe hA S hE hr hlk hnm H locs hH0 hL0 ls hl hw
  have S : CallFix p m c cX10_kept 3 s args wsX10_kept RX10 := S
  have hl : lv_has ls 3 [(0, .ref (ad 0)), (1, .int sv), (2, .int mo)] := hl
  have hinX10 : ∀ w ∈ u_ws RX10 TX10 8, w ∈ wsX10_kept := by decide +kernel
  have hf21 := S.2.2.2.2 (.fieldLink RX10 21 "AwakeTurns" "crew" "LAwakeTurns$Crew;") (by decide +kernel)
  have hf44 := S.2.2.2.2 (.fieldLink RX10 44 "AwakeTurns" "news" "LAwakeTurns$News;") (by decide +kernel)
  have hinX0 : ∀ w ∈ u_ws RX0 TX0 7, w ∈ wsX10_kept := by decide +kernel
  have hf126 := S.2.2.2.2 (.fieldLink RX10 126 "AwakeTurns$Crew" "turns" "[I") (by decide +kernel)
  have hinX4 : ∀ w ∈ u_ws RX4 TX4 8, w ∈ wsX10_kept := by decide +kernel
  have hf202 := S.2.2.2.2 (.fieldLink RX10 202 "AwakeTurns$News" "knowing" "[I") (by decide +kernel)
  refine lv_aload_n S.1 S.2.1 dX10_kept_0 rfl (lv_at hl 0 rfl) ?_
  refine aw_get S hE hw 0 (C := RX10) (T := TX10) (N := 8) rfl rfl hinX10 1 (by decide) hf21 rfl dX10_kept_1 ?_
  refine lv_iload_n S.1 S.2.1 dX10_kept_4 rfl (lv_at hl 1 rfl) ?_
  refine aw_callV S hE (c_X0_has l G ad n lw sv (by first | assumption | omega)) gX10_kept_X0_has (n := 1) rfl (by decide +kernel) rfl (by rw [hRm]; exact ⟨Nat.le_of_ble_eq_true rfl, Nat.le_of_ble_eq_true rfl⟩) (by rw [hRm]; exact ⟨Nat.le_of_ble_eq_true rfl, Nat.le_of_ble_eq_true rfl⟩) hw hA hl.1 [1] rfl rfl (aw_recv (i := 1) hE hw rfl rfl rfl) rfl (Nat.le_of_ble_eq_true rfl) dX10_kept_5 ?_
  rintro v w1 H locs ⟨rfl, rfl⟩ hw
  have hw : bW G A s.heap [[(ad 0, .inr (9, [.ref (ad 1), .ref (ad 2), .ref (ad 3), .ref (ad 4), .ref (ad 5), .ref (ad 6), .ref (ad 7), .int fl]))], [(ad 2, .inr (0, [.ref (ad 8), .ref (ad 9), .ref (ad 10), .ref (ad 11), .ref (ad 12), .int (nI n), .int lw]))], [(ad 5, .inr (4, [.ref (ad 16), .ref (ad 17), .ref (ad 18), .ref (ad 19), .ref (ad 20), .ref (ad 21), .int (nI nn), .int (nI nr)]))], [(ad 16, .inl (gI G, 8, .inl (fun k => nI (nf k))))], [(ad 17, .inl (gI G, 8, .inl (fun k => nI (nt k))))], [(ad 21, .inl (gI G, 12, .inl kn))], [(ad 9, .inl (gI G, 12, .inl tu))]] H locs := hw
  refine W.eq (g2 := (F0 m 8 ls [.int (if 0 ≤ sv.toInt ∧ sv.toInt < n then 1 else 0)])) rfl ?_
  refine aw_ifne (P := 0 ≤ sv.toInt ∧ sv.toInt < n) (tgt := 13) S dX10_kept_8 (by decide) (fun c8 => ?_) (fun c8 => ?_)
  · have hb_sv : tn sv < n := aw_tnL c8
    have hl := Eq.mp (congrArg (fun z_ : Int32 => lv_has ls 3 [(0, .ref (ad 0)), (1, .int z_), (2, .int mo)]) (show (sv : Int32) = nI (tn sv) from (aw_tnE c8))) hl
    have hl : lv_has ls 3 [(0, .ref (ad 0)), (1, .int (nI (tn sv))), (2, .int mo)] := hl
    refine lv_iload_n S.1 S.2.1 dX10_kept_13 rfl (lv_at hl 2 rfl) ?_
    refine aw_callS S hE (c_X10_isMonth l G mo) gX10_kept_X10_isMonth (n := 1) rfl (by decide +kernel) rfl (by rw [hRm]; exact ⟨Nat.le_of_ble_eq_true rfl, Nat.le_of_ble_eq_true rfl⟩) (by rw [hRm]; exact ⟨Nat.le_of_ble_eq_true rfl, Nat.le_of_ble_eq_true rfl⟩) hw hA hl.1 [] rfl rfl rfl (Nat.le_of_ble_eq_true rfl) dX10_kept_14 ?_
    rintro v w1 H locs ⟨rfl, rfl⟩ hw
    have hw : bW G A s.heap [[(ad 0, .inr (9, [.ref (ad 1), .ref (ad 2), .ref (ad 3), .ref (ad 4), .ref (ad 5), .ref (ad 6), .ref (ad 7), .int fl]))], [(ad 2, .inr (0, [.ref (ad 8), .ref (ad 9), .ref (ad 10), .ref (ad 11), .ref (ad 12), .int (nI n), .int lw]))], [(ad 5, .inr (4, [.ref (ad 16), .ref (ad 17), .ref (ad 18), .ref (ad 19), .ref (ad 20), .ref (ad 21), .int (nI nn), .int (nI nr)]))], [(ad 16, .inl (gI G, 8, .inl (fun k => nI (nf k))))], [(ad 17, .inl (gI G, 8, .inl (fun k => nI (nt k))))], [(ad 21, .inl (gI G, 12, .inl kn))], [(ad 9, .inl (gI G, 12, .inl tu))]] H locs := hw
    refine W.eq (g2 := (F0 m 17 ls [.int (if 0 ≤ mo.toInt ∧ mo.toInt < 12 then 1 else 0)])) rfl ?_
    refine aw_ifne (P := 0 ≤ mo.toInt ∧ mo.toInt < 12) (tgt := 23) S dX10_kept_17 (by decide) (fun c17 => ?_) (fun c17 => ?_)
    · have hb_mo : tn mo < 12 := aw_tnL c17
      have hl := Eq.mp (congrArg (fun z_ : Int32 => lv_has ls 3 [(0, .ref (ad 0)), (1, .int (nI (tn sv))), (2, .int z_)]) (show (mo : Int32) = nI (tn mo) from (aw_tnE c17))) hl
      have hl : lv_has ls 3 [(0, .ref (ad 0)), (1, .int (nI (tn sv))), (2, .int (nI (tn mo)))] := hl
      refine lv_aload_n S.1 S.2.1 dX10_kept_23 rfl (lv_at hl 0 rfl) ?_
      refine aw_get S hE hw 0 (C := RX10) (T := TX10) (N := 8) rfl rfl hinX10 4 (by decide) hf44 rfl dX10_kept_24 ?_
      refine lv_iload_n S.1 S.2.1 dX10_kept_27 rfl (lv_at hl 1 rfl) ?_
      refine lv_iload_n S.1 S.2.1 dX10_kept_28 rfl (lv_at hl 2 rfl) ?_
      refine lv_aload_n S.1 S.2.1 dX10_kept_29 rfl (lv_at hl 0 rfl) ?_
      refine aw_get S hE hw 0 (C := RX10) (T := TX10) (N := 8) rfl rfl hinX10 1 (by decide) hf21 rfl dX10_kept_30 ?_
      refine aw_get S hE hw 1 (C := RX0) (T := TX0) (N := 7) rfl rfl hinX0 1 (by decide) hf126 rfl dX10_kept_33 ?_
      refine aw_callV S hE (c_X4_spread l G ad nn nr nf nt kn (tn sv) (tn mo) (ad 9) tu (by first | assumption | omega) (by first | assumption | omega) (by first | assumption | omega)) gX10_kept_X4_spread (n := 3) rfl (by decide +kernel) rfl (by rw [hRm]; exact ⟨Nat.le_of_ble_eq_true rfl, Nat.le_of_ble_eq_true rfl⟩) (by rw [hRm]; exact ⟨Nat.le_of_ble_eq_true rfl, Nat.le_of_ble_eq_true rfl⟩) hw hA hl.1 [2, 3, 4, 5, 6] rfl rfl (aw_recv (i := 2) hE hw rfl rfl rfl) rfl (Nat.le_of_ble_eq_true rfl) dX10_kept_36 ?_
      rintro v w1 H locs ⟨rfl, rfl⟩ hw
      have hw : bW G A s.heap [[(ad 0, .inr (9, [.ref (ad 1), .ref (ad 2), .ref (ad 3), .ref (ad 4), .ref (ad 5), .ref (ad 6), .ref (ad 7), .int fl]))], [(ad 2, .inr (0, [.ref (ad 8), .ref (ad 9), .ref (ad 10), .ref (ad 11), .ref (ad 12), .int (nI n), .int lw]))], [(ad 5, .inr (4, [.ref (ad 16), .ref (ad 17), .ref (ad 18), .ref (ad 19), .ref (ad 20), .ref (ad 21), .int (nI nn), .int (nI nr)]))], [(ad 16, .inl (gI G, 8, .inl (fun k => nI (nf k))))], [(ad 17, .inl (gI G, 8, .inl (fun k => nI (nt k))))], [(ad 21, .inl (gI G, 12, .inl (nwE nf nt nn (tn sv) (tn mo) tu)))], [(ad 9, .inl (gI G, 12, .inl tu))]] H locs := hw
      refine W.eq (g2 := (F0 m 39 ls [])) rfl ?_
      refine lv_aload_n S.1 S.2.1 dX10_kept_39 rfl (lv_at hl 0 rfl) ?_
      refine aw_get S hE hw 0 (C := RX10) (T := TX10) (N := 8) rfl rfl hinX10 1 (by decide) hf21 rfl dX10_kept_40 ?_
      refine aw_callV S hE (c_X0_everybody l G ad n lw (by first | assumption | omega)) gX10_kept_X0_everybody (n := 0) rfl (by decide +kernel) rfl (by rw [hRm]; exact ⟨Nat.le_of_ble_eq_true rfl, Nat.le_of_ble_eq_true rfl⟩) (by rw [hRm]; exact ⟨Nat.le_of_ble_eq_true rfl, Nat.le_of_ble_eq_true rfl⟩) hw hA hl.1 [1] rfl rfl (aw_recv (i := 1) hE hw rfl rfl rfl) rfl (Nat.le_of_ble_eq_true rfl) dX10_kept_43 ?_
      rintro v w1 H locs ⟨rfl, rfl⟩ hw
      have hw : bW G A s.heap [[(ad 0, .inr (9, [.ref (ad 1), .ref (ad 2), .ref (ad 3), .ref (ad 4), .ref (ad 5), .ref (ad 6), .ref (ad 7), .int fl]))], [(ad 2, .inr (0, [.ref (ad 8), .ref (ad 9), .ref (ad 10), .ref (ad 11), .ref (ad 12), .int (nI n), .int lw]))], [(ad 5, .inr (4, [.ref (ad 16), .ref (ad 17), .ref (ad 18), .ref (ad 19), .ref (ad 20), .ref (ad 21), .int (nI nn), .int (nI nr)]))], [(ad 16, .inl (gI G, 8, .inl (fun k => nI (nf k))))], [(ad 17, .inl (gI G, 8, .inl (fun k => nI (nt k))))], [(ad 21, .inl (gI G, 12, .inl (nwE nf nt nn (tn sv) (tn mo) tu)))], [(ad 9, .inl (gI G, 12, .inl tu))]] H locs := hw
      refine W.eq (g2 := (F0 m 46 ls [.int (nI (2 ^ n - 1))])) rfl ?_
      refine lv_aload_n S.1 S.2.1 dX10_kept_46 rfl (lv_at hl 0 rfl) ?_
      refine aw_get S hE hw 0 (C := RX10) (T := TX10) (N := 8) rfl rfl hinX10 4 (by decide) hf44 rfl dX10_kept_47 ?_
      refine aw_get S hE hw 2 (C := RX4) (T := TX4) (N := 8) rfl rfl hinX4 5 (by decide) hf202 rfl dX10_kept_50 ?_
      refine lv_bipush (v := 11) S.1 S.2.1 dX10_kept_53 (by decide) ?_
      refine aw_iald S hE hw 5 (k := 11) rfl (by omega) (by decide) dX10_kept_55 ?_
      refine lv_iconst (v := (-1)) S.1 S.2.1 dX10_kept_56 (by decide) ?_
      refine lv_ixor S.1 S.2.1 dX10_kept_57 ?_
      refine lv_iand S.1 S.2.1 dX10_kept_58 ?_
      refine aw_eqi (show ((nI (2 ^ n - 1)) &&& (((nwE nf nt nn (tn sv) (tn mo) tu) 11) ^^^ (-1)) : Int32) = f_sm n sv mo (nI (2 ^ n - 1) &&& (nwE nf nt nn (tn sv) (tn mo) tu 11 ^^^ (-1))) from (by rw [f_sm]; first | rw [if_neg c8] | (rw [if_pos c8]; first | rw [if_neg c17] | rw [if_pos c17]))) ?_
      exact aw_iret S hr hlk ha hQ hAe hw dX10_kept_59 rfl (Nat.le_of_ble_eq_true rfl) (Nat.le_of_ble_eq_true rfl) ⟨rfl, _, rfl⟩
    · refine lv_bipush (v := (-2)) S.1 S.2.1 dX10_kept_20 (by decide) ?_
      refine aw_eqi (show ((-2) : Int32) = f_sm n sv mo (nI (2 ^ n - 1) &&& (nwE nf nt nn (tn sv) (tn mo) tu 11 ^^^ (-1))) from (by rw [f_sm]; first | rw [if_neg c8] | (rw [if_pos c8]; first | rw [if_neg c17] | rw [if_pos c17]))) ?_
      exact aw_iret S hr hlk ha hQ hAe hw dX10_kept_22 rfl (Nat.le_of_ble_eq_true rfl) (Nat.le_of_ble_eq_true rfl) ⟨rfl, _, rfl⟩
  · refine lv_iconst (v := (-1)) S.1 S.2.1 dX10_kept_11 (by decide) ?_
    refine aw_eqi (show ((-1) : Int32) = f_sm n sv mo (nI (2 ^ n - 1) &&& (nwE nf nt nn (tn sv) (tn mo) tu 11 ^^^ (-1))) from (by rw [f_sm]; first | rw [if_neg c8] | (rw [if_pos c8]; first | rw [if_neg c17] | rw [if_pos c17]))) ?_
    exact aw_iret S hr hlk ha hQ hAe hw dX10_kept_12 rfl (Nat.le_of_ble_eq_true rfl) (Nat.le_of_ble_eq_true rfl) ⟨rfl, _, rfl⟩
set_option maxRecDepth 100000 in
set_option maxHeartbeats 4000000 in
theorem c_X10_reading (l : Launch) (G : aw_G) (ad : Nat → Nat) (fl : Int32) (n : Nat) (lw : Int32) (nn nr : Nat) (ro rmo : Nat → Nat) (rb : Nat → Bool) (sv mo : Int32) (kw : Bool) (hn : n ≤ 6) (hnr : nr ≤ 8) : CT l G yX10_reading wsX10_reading ({ frames := 1, cells := 0, slots := 0, locals := 23 }) [.ref (ad 0), .int sv, .int mo, .int (if kw = true then 1 else 0)] [[(ad 0, .inr (9, [.ref (ad 1), .ref (ad 2), .ref (ad 3), .ref (ad 4), .ref (ad 5), .ref (ad 6), .ref (ad 7), .int fl]))], [(ad 2, .inr (0, [.ref (ad 8), .ref (ad 9), .ref (ad 10), .ref (ad 11), .ref (ad 12), .int (nI n), .int lw]))], [(ad 5, .inr (4, [.ref (ad 16), .ref (ad 17), .ref (ad 18), .ref (ad 19), .ref (ad 20), .ref (ad 21), .int (nI nn), .int (nI nr)]))], [(ad 18, .inl (gI G, 8, .inl (fun k => nI (ro k))))], [(ad 19, .inl (gI G, 8, .inl (fun k => nI (rmo k))))], [(ad 20, .inl (gI G, 8, .inl (fun k => if rb k = true then 1 else 0)))]] (fun v w => v = some (.int (f_sm n sv mo (if nr < 8 then nI nr else -4))) ∧ ((f_smP n sv mo ∧ w = [[(ad 0, .inr (9, [.ref (ad 1), .ref (ad 2), .ref (ad 3), .ref (ad 4), .ref (ad 5), .ref (ad 6), .ref (ad 7), .int fl]))], [(ad 2, .inr (0, [.ref (ad 8), .ref (ad 9), .ref (ad 10), .ref (ad 11), .ref (ad 12), .int (nI n), .int lw]))], [(ad 5, .inr (4, [.ref (ad 16), .ref (ad 17), .ref (ad 18), .ref (ad 19), .ref (ad 20), .ref (ad 21), .int (nI nn), .int (nI (min (nr + 1) 8))]))], [(ad 18, .inl (gI G, 8, .inl (fun k => nI ((nupd nr (tn sv) ro) k))))], [(ad 19, .inl (gI G, 8, .inl (fun k => nI ((nupd nr (tn mo) rmo) k))))], [(ad 20, .inl (gI G, 8, .inl (fun k => if (nupd nr kw rb) k = true then 1 else 0)))]]) ∨ (¬ f_smP n sv mo ∧ w = [[(ad 0, .inr (9, [.ref (ad 1), .ref (ad 2), .ref (ad 3), .ref (ad 4), .ref (ad 5), .ref (ad 6), .ref (ad 7), .int fl]))], [(ad 2, .inr (0, [.ref (ad 8), .ref (ad 9), .ref (ad 10), .ref (ad 11), .ref (ad 12), .int (nI n), .int lw]))], [(ad 5, .inr (4, [.ref (ad 16), .ref (ad 17), .ref (ad 18), .ref (ad 19), .ref (ad 20), .ref (ad 21), .int (nI nn), .int (nI nr)]))], [(ad 18, .inl (gI G, 8, .inl (fun k => nI (ro k))))], [(ad 19, .inl (gI G, 8, .inl (fun k => nI (rmo k))))], [(ad 20, .inl (gI G, 8, .inl (fun k => if rb k = true then 1 else 0)))]]))) := by
  refine CT.of (cc := cX10_reading) (nL := 4) (ret := (some .int)) (by decide) rfl (Nat.le_of_ble_eq_true rfl) ?_
  intro p e s m below meth c R args Q A hRm ha hQ hAe hA S hE hr hlk hnm H locs hH0 hL0 ls hl hw
  have S : CallFix p m c cX10_reading 4 s args wsX10_reading RX10 := S
  have hl : lv_has ls 4 [(0, .ref (ad 0)), (1, .int sv), (2, .int mo), (3, .int (if kw = true then 1 else 0))] := hl
  have hinX10 : ∀ w ∈ u_ws RX10 TX10 8, w ∈ wsX10_reading := by decide +kernel
  have hf21 := S.2.2.2.2 (.fieldLink RX10 21 "AwakeTurns" "crew" "LAwakeTurns$Crew;") (by decide +kernel)
  have hf44 := S.2.2.2.2 (.fieldLink RX10 44 "AwakeTurns" "news" "LAwakeTurns$News;") (by decide +kernel)
  refine lv_aload_n S.1 S.2.1 dX10_reading_0 rfl (lv_at hl 0 rfl) ?_
  refine aw_get S hE hw 0 (C := RX10) (T := TX10) (N := 8) rfl rfl hinX10 1 (by decide) hf21 rfl dX10_reading_1 ?_
  refine lv_iload_n S.1 S.2.1 dX10_reading_4 rfl (lv_at hl 1 rfl) ?_
  refine aw_callV S hE (c_X0_has l G ad n lw sv (by first | assumption | omega)) gX10_reading_X0_has (n := 1) rfl (by decide +kernel) rfl (by rw [hRm]; exact ⟨Nat.le_of_ble_eq_true rfl, Nat.le_of_ble_eq_true rfl⟩) (by rw [hRm]; exact ⟨Nat.le_of_ble_eq_true rfl, Nat.le_of_ble_eq_true rfl⟩) hw hA hl.1 [1] rfl rfl (aw_recv (i := 1) hE hw rfl rfl rfl) rfl (Nat.le_of_ble_eq_true rfl) dX10_reading_5 ?_
  rintro v w1 H locs ⟨rfl, rfl⟩ hw
  have hw : bW G A s.heap [[(ad 0, .inr (9, [.ref (ad 1), .ref (ad 2), .ref (ad 3), .ref (ad 4), .ref (ad 5), .ref (ad 6), .ref (ad 7), .int fl]))], [(ad 2, .inr (0, [.ref (ad 8), .ref (ad 9), .ref (ad 10), .ref (ad 11), .ref (ad 12), .int (nI n), .int lw]))], [(ad 5, .inr (4, [.ref (ad 16), .ref (ad 17), .ref (ad 18), .ref (ad 19), .ref (ad 20), .ref (ad 21), .int (nI nn), .int (nI nr)]))], [(ad 18, .inl (gI G, 8, .inl (fun k => nI (ro k))))], [(ad 19, .inl (gI G, 8, .inl (fun k => nI (rmo k))))], [(ad 20, .inl (gI G, 8, .inl (fun k => if rb k = true then 1 else 0)))]] H locs := hw
  refine W.eq (g2 := (F0 m 8 ls [.int (if 0 ≤ sv.toInt ∧ sv.toInt < n then 1 else 0)])) rfl ?_
  refine aw_ifne (P := 0 ≤ sv.toInt ∧ sv.toInt < n) (tgt := 13) S dX10_reading_8 (by decide) (fun c8 => ?_) (fun c8 => ?_)
  · have hb_sv : tn sv < n := aw_tnL c8
    have hl := Eq.mp (congrArg (fun z_ : Int32 => lv_has ls 4 [(0, .ref (ad 0)), (1, .int z_), (2, .int mo), (3, .int (if kw = true then 1 else 0))]) (show (sv : Int32) = nI (tn sv) from (aw_tnE c8))) hl
    have hl : lv_has ls 4 [(0, .ref (ad 0)), (1, .int (nI (tn sv))), (2, .int mo), (3, .int (if kw = true then 1 else 0))] := hl
    refine lv_iload_n S.1 S.2.1 dX10_reading_13 rfl (lv_at hl 2 rfl) ?_
    refine aw_callS S hE (c_X10_isMonth l G mo) gX10_reading_X10_isMonth (n := 1) rfl (by decide +kernel) rfl (by rw [hRm]; exact ⟨Nat.le_of_ble_eq_true rfl, Nat.le_of_ble_eq_true rfl⟩) (by rw [hRm]; exact ⟨Nat.le_of_ble_eq_true rfl, Nat.le_of_ble_eq_true rfl⟩) hw hA hl.1 [] rfl rfl rfl (Nat.le_of_ble_eq_true rfl) dX10_reading_14 ?_
    rintro v w1 H locs ⟨rfl, rfl⟩ hw
    have hw : bW G A s.heap [[(ad 0, .inr (9, [.ref (ad 1), .ref (ad 2), .ref (ad 3), .ref (ad 4), .ref (ad 5), .ref (ad 6), .ref (ad 7), .int fl]))], [(ad 2, .inr (0, [.ref (ad 8), .ref (ad 9), .ref (ad 10), .ref (ad 11), .ref (ad 12), .int (nI n), .int lw]))], [(ad 5, .inr (4, [.ref (ad 16), .ref (ad 17), .ref (ad 18), .ref (ad 19), .ref (ad 20), .ref (ad 21), .int (nI nn), .int (nI nr)]))], [(ad 18, .inl (gI G, 8, .inl (fun k => nI (ro k))))], [(ad 19, .inl (gI G, 8, .inl (fun k => nI (rmo k))))], [(ad 20, .inl (gI G, 8, .inl (fun k => if rb k = true then 1 else 0)))]] H locs := hw
    refine W.eq (g2 := (F0 m 17 ls [.int (if 0 ≤ mo.toInt ∧ mo.toInt < 12 then 1 else 0)])) rfl ?_
    refine aw_ifne (P := 0 ≤ mo.toInt ∧ mo.toInt < 12) (tgt := 23) S dX10_reading_17 (by decide) (fun c17 => ?_) (fun c17 => ?_)
    · have hb_mo : tn mo < 12 := aw_tnL c17
      have hl := Eq.mp (congrArg (fun z_ : Int32 => lv_has ls 4 [(0, .ref (ad 0)), (1, .int (nI (tn sv))), (2, .int z_), (3, .int (if kw = true then 1 else 0))]) (show (mo : Int32) = nI (tn mo) from (aw_tnE c17))) hl
      have hl : lv_has ls 4 [(0, .ref (ad 0)), (1, .int (nI (tn sv))), (2, .int (nI (tn mo))), (3, .int (if kw = true then 1 else 0))] := hl
      refine lv_aload_n S.1 S.2.1 dX10_reading_23 rfl (lv_at hl 0 rfl) ?_
      refine aw_get S hE hw 0 (C := RX10) (T := TX10) (N := 8) rfl rfl hinX10 4 (by decide) hf44 rfl dX10_reading_24 ?_
      refine lv_iload_n S.1 S.2.1 dX10_reading_27 rfl (lv_at hl 1 rfl) ?_
      refine lv_iload_n S.1 S.2.1 dX10_reading_28 rfl (lv_at hl 2 rfl) ?_
      refine lv_iload_n S.1 S.2.1 dX10_reading_29 rfl (lv_at hl 3 rfl) ?_
      refine aw_callV S hE (c_X4_addReading l G ad nn nr ro rmo rb (tn sv) (tn mo) kw (by first | assumption | omega)) gX10_reading_X4_addReading (n := 3) rfl (by decide +kernel) rfl (by rw [hRm]; exact ⟨Nat.le_of_ble_eq_true rfl, Nat.le_of_ble_eq_true rfl⟩) (by rw [hRm]; exact ⟨Nat.le_of_ble_eq_true rfl, Nat.le_of_ble_eq_true rfl⟩) hw hA hl.1 [2, 3, 4, 5] rfl rfl (aw_recv (i := 2) hE hw rfl rfl rfl) rfl (Nat.le_of_ble_eq_true rfl) dX10_reading_30 ?_
      rintro v w1 H locs ⟨rfl, rfl⟩ hw
      have hw : bW G A s.heap [[(ad 0, .inr (9, [.ref (ad 1), .ref (ad 2), .ref (ad 3), .ref (ad 4), .ref (ad 5), .ref (ad 6), .ref (ad 7), .int fl]))], [(ad 2, .inr (0, [.ref (ad 8), .ref (ad 9), .ref (ad 10), .ref (ad 11), .ref (ad 12), .int (nI n), .int lw]))], [(ad 5, .inr (4, [.ref (ad 16), .ref (ad 17), .ref (ad 18), .ref (ad 19), .ref (ad 20), .ref (ad 21), .int (nI nn), .int (nI (min (nr + 1) 8))]))], [(ad 18, .inl (gI G, 8, .inl (fun k => nI ((nupd nr (tn sv) ro) k))))], [(ad 19, .inl (gI G, 8, .inl (fun k => nI ((nupd nr (tn mo) rmo) k))))], [(ad 20, .inl (gI G, 8, .inl (fun k => if (nupd nr kw rb) k = true then 1 else 0)))]] H locs := hw
      refine W.eq (g2 := (F0 m 33 ls [.int (if nr < 8 then nI nr else -4)])) rfl ?_
      refine aw_eqi (show (if nr < 8 then nI nr else -4 : Int32) = f_sm n sv mo (if nr < 8 then nI nr else -4) from (by rw [f_sm]; first | rw [if_neg c8] | (rw [if_pos c8]; first | rw [if_neg c17] | rw [if_pos c17]))) ?_
      exact aw_iret S hr hlk ha hQ hAe hw dX10_reading_33 rfl (Nat.le_of_ble_eq_true rfl) (Nat.le_of_ble_eq_true rfl) ⟨rfl, Or.inl ⟨⟨c8, c17⟩, rfl⟩⟩
    · refine lv_bipush (v := (-2)) S.1 S.2.1 dX10_reading_20 (by decide) ?_
      refine aw_eqi (show ((-2) : Int32) = f_sm n sv mo (if nr < 8 then nI nr else -4) from (by rw [f_sm]; first | rw [if_neg c8] | (rw [if_pos c8]; first | rw [if_neg c17] | rw [if_pos c17]))) ?_
      exact aw_iret S hr hlk ha hQ hAe hw dX10_reading_22 rfl (Nat.le_of_ble_eq_true rfl) (Nat.le_of_ble_eq_true rfl) ⟨rfl, Or.inr ⟨fun q => c17 q.2, rfl⟩⟩
  · refine lv_iconst (v := (-1)) S.1 S.2.1 dX10_reading_11 (by decide) ?_
    refine aw_eqi (show ((-1) : Int32) = f_sm n sv mo (if nr < 8 then nI nr else -4) from (by rw [f_sm]; first | rw [if_neg c8] | (rw [if_pos c8]; first | rw [if_neg c17] | rw [if_pos c17]))) ?_
    exact aw_iret S hr hlk ha hQ hAe hw dX10_reading_12 rfl (Nat.le_of_ble_eq_true rfl) (Nat.le_of_ble_eq_true rfl) ⟨rfl, Or.inr ⟨fun q => c8 q.1, rfl⟩⟩
set_option maxRecDepth 100000 in
set_option maxHeartbeats 4000000 in
theorem c_X10_tell (l : Launch) (G : aw_G) (ad : Nat → Nat) (fl : Int32) (n : Nat) (lw : Int32) (sg : Nat → Option Nat) (sa : Nat → Nat) (kd sk br : Nat → Int32) (tr sv : Int32) (hn : n ≤ 6) (hsg : ∀ i, i < n → sg i = some (sa i)) : CT l G yX10_tell wsX10_tell ({ frames := 5, cells := 0, slots := 0, locals := 106 }) [.ref (ad 0), .int sv] [[(ad 0, .inr (9, [.ref (ad 1), .ref (ad 2), .ref (ad 3), .ref (ad 4), .ref (ad 5), .ref (ad 6), .ref (ad 7), .int fl]))], [(ad 2, .inr (0, [.ref (ad 8), .ref (ad 9), .ref (ad 10), .ref (ad 11), .ref (ad 12), .int (nI n), .int lw]))], [(ad 8, .inl (gL G, 6, .inr (.inr (.inr (.inr sg)))))], fam n sa (slE kd sk br), [(ad 6, .inr (2, [.int tr]))]] (dt (some (.int (f_tell n kd br sv))) [[(ad 0, .inr (9, [.ref (ad 1), .ref (ad 2), .ref (ad 3), .ref (ad 4), .ref (ad 5), .ref (ad 6), .ref (ad 7), .int fl]))], [(ad 2, .inr (0, [.ref (ad 8), .ref (ad 9), .ref (ad 10), .ref (ad 11), .ref (ad 12), .int (nI n), .int lw]))], [(ad 8, .inl (gL G, 6, .inr (.inr (.inr (.inr sg)))))], fam n sa (slE kd sk br), [(ad 6, .inr (2, [.int (f_tellT n kd tr sv)]))]]) := by
  refine CT.of (cc := cX10_tell) (nL := 3) (ret := (some .int)) (by decide) rfl (Nat.le_of_ble_eq_true rfl) ?_
  intro p e s m below meth c R args Q A hRm ha hQ hAe hA S hE hr hlk hnm H locs hH0 hL0 ls hl hw
  have S : CallFix p m c cX10_tell 3 s args wsX10_tell RX10 := S
  have hl : lv_has ls 3 [(0, .ref (ad 0)), (1, .int sv)] := hl
  have hinX10 : ∀ w ∈ u_ws RX10 TX10 8, w ∈ wsX10_tell := by decide +kernel
  have hf21 := S.2.2.2.2 (.fieldLink RX10 21 "AwakeTurns" "crew" "LAwakeTurns$Crew;") (by decide +kernel)
  have hf51 := S.2.2.2.2 (.fieldLink RX10 51 "AwakeTurns" "marks" "LAwakeTurns$Marks;") (by decide +kernel)
  by_cases hz_s : 0 ≤ sv.toInt ∧ sv.toInt < n
  · have hb_sv : tn sv < n := aw_tnL hz_s
    have hl := Eq.mp (congrArg (fun z_ : Int32 => lv_has ls 3 [(0, .ref (ad 0)), (1, .int z_)]) (show (sv : Int32) = nI (tn sv) from (aw_tnE hz_s))) hl
    have hl : lv_has ls 3 [(0, .ref (ad 0)), (1, .int (nI (tn sv)))] := hl
    refine lv_aload_n S.1 S.2.1 dX10_tell_0 rfl (lv_at hl 0 rfl) ?_
    refine aw_get S hE hw 0 (C := RX10) (T := TX10) (N := 8) rfl rfl hinX10 1 (by decide) hf21 rfl dX10_tell_1 ?_
    refine lv_iload_n S.1 S.2.1 dX10_tell_4 rfl (lv_at hl 1 rfl) ?_
    refine aw_callV S hE (c_X0_at_in l G ad n lw sg sa (tn sv) (by first | assumption | omega) hb_sv (by first | assumption | omega)) gX10_tell_X0_at (n := 1) rfl (by decide +kernel) rfl (by rw [hRm]; exact ⟨Nat.le_of_ble_eq_true rfl, Nat.le_of_ble_eq_true rfl⟩) (by rw [hRm]; exact ⟨Nat.le_of_ble_eq_true rfl, Nat.le_of_ble_eq_true rfl⟩) hw hA hl.1 [1, 2] rfl rfl (aw_recv (i := 1) hE hw rfl rfl rfl) rfl (Nat.le_of_ble_eq_true rfl) dX10_tell_5 ?_
    rintro v w1 H locs ⟨rfl, rfl⟩ hw
    have hw : bW G A s.heap [[(ad 0, .inr (9, [.ref (ad 1), .ref (ad 2), .ref (ad 3), .ref (ad 4), .ref (ad 5), .ref (ad 6), .ref (ad 7), .int fl]))], [(ad 2, .inr (0, [.ref (ad 8), .ref (ad 9), .ref (ad 10), .ref (ad 11), .ref (ad 12), .int (nI n), .int lw]))], [(ad 8, .inl (gL G, 6, .inr (.inr (.inr (.inr sg)))))], fam n sa (slE kd sk br), [(ad 6, .inr (2, [.int tr]))]] H locs := hw
    refine W.eq (g2 := (F0 m 8 ls [.ref (sa (tn sv))])) rfl ?_
    refine lv_astore_n (lv' := [(2, .ref (sa (tn sv))), (0, .ref (ad 0)), (1, .int (nI (tn sv)))]) S.1 S.2.1 dX10_tell_8 rfl hl (by decide) rfl (fun ls hl => ?_)
    refine lv_aload_n S.1 S.2.1 dX10_tell_9 rfl (lv_at hl 0 rfl) ?_
    refine lv_ifnonnull (tgt := 17) S.1 S.2.1 dX10_tell_10 (by decide) ?_
    refine lv_aload_n S.1 S.2.1 dX10_tell_17 rfl (lv_at hl 0 rfl) ?_
    refine lv_aload_n S.1 S.2.1 dX10_tell_18 rfl (lv_at hl 1 rfl) ?_
    refine aw_get S hE hw 0 (C := RX10) (T := TX10) (N := 8) rfl rfl hinX10 5 (by decide) hf51 rfl dX10_tell_19 ?_
    have join25 : ∀ (H : Heap) (locs : List Loc), bW G A s.heap [[(ad 0, .inr (9, [.ref (ad 1), .ref (ad 2), .ref (ad 3), .ref (ad 4), .ref (ad 5), .ref (ad 6), .ref (ad 7), .int fl]))], [(ad 2, .inr (0, [.ref (ad 8), .ref (ad 9), .ref (ad 10), .ref (ad 11), .ref (ad 12), .int (nI n), .int lw]))], [(ad 8, .inl (gL G, 6, .inr (.inr (.inr (.inr sg)))))], fam n sa (slE kd sk br), [(ad 6, .inr (2, [.int (if kd (tn sv) = 0 then 31 * tr + 1 else if kd (tn sv) = 1 then 31 * (31 * tr + 2) + 1 else 31 * (31 * (31 * (31 * tr + 3) + 2) + 1) + 1)]))]] H locs → W p l e R s m args below meth c H locs 0 0 Q (F0 m 25 ls [.int (if kd (tn sv) = 0 then br (tn sv) else if kd (tn sv) = 1 then br (tn sv) + 100 else br (tn sv) + 100 + br (tn sv))]) := by
      intro H locs hw
      have hw := Eq.mp (congrArg (fun z_ : Int32 => bW G A s.heap [[(ad 0, .inr (9, [.ref (ad 1), .ref (ad 2), .ref (ad 3), .ref (ad 4), .ref (ad 5), .ref (ad 6), .ref (ad 7), .int fl]))], [(ad 2, .inr (0, [.ref (ad 8), .ref (ad 9), .ref (ad 10), .ref (ad 11), .ref (ad 12), .int (nI n), .int lw]))], [(ad 8, .inl (gL G, 6, .inr (.inr (.inr (.inr sg)))))], fam n sa (slE kd sk br), [(ad 6, .inr (2, [.int z_]))]] H locs) (show (if kd (tn sv) = 0 then 31 * tr + 1 else if kd (tn sv) = 1 then 31 * (31 * tr + 2) + 1 else 31 * (31 * (31 * (31 * tr + 3) + 2) + 1) + 1 : Int32) = f_tellT n kd tr sv from (by rw [f_tellT]; first | rw [if_pos hz_s] | rw [if_neg hz_s]))) hw
      have hw : bW G A s.heap [[(ad 0, .inr (9, [.ref (ad 1), .ref (ad 2), .ref (ad 3), .ref (ad 4), .ref (ad 5), .ref (ad 6), .ref (ad 7), .int fl]))], [(ad 2, .inr (0, [.ref (ad 8), .ref (ad 9), .ref (ad 10), .ref (ad 11), .ref (ad 12), .int (nI n), .int lw]))], [(ad 8, .inl (gL G, 6, .inr (.inr (.inr (.inr sg)))))], fam n sa (slE kd sk br), [(ad 6, .inr (2, [.int (f_tellT n kd tr sv)]))]] H locs := hw
      refine aw_eqi (show (if kd (tn sv) = 0 then br (tn sv) else if kd (tn sv) = 1 then br (tn sv) + 100 else br (tn sv) + 100 + br (tn sv) : Int32) = f_tell n kd br sv from (by rw [f_tell]; first | rw [if_pos hz_s] | rw [if_neg hz_s])) ?_
      exact aw_iret S hr hlk ha hQ hAe hw dX10_tell_25 rfl (Nat.le_of_ble_eq_true rfl) (Nat.le_of_ble_eq_true rfl) ⟨rfl, rfl⟩
    have hw := aw_out hw 3 rfl (tn sv) (by omega)
    have hw : bW G A s.heap [[(ad 0, .inr (9, [.ref (ad 1), .ref (ad 2), .ref (ad 3), .ref (ad 4), .ref (ad 5), .ref (ad 6), .ref (ad 7), .int fl]))], [(ad 2, .inr (0, [.ref (ad 8), .ref (ad 9), .ref (ad 10), .ref (ad 11), .ref (ad 12), .int (nI n), .int lw]))], [(ad 8, .inl (gL G, 6, .inr (.inr (.inr (.inr sg)))))], famX n sa (slE kd sk br) (tn sv), [(ad 6, .inr (2, [.int tr]))], [(sa (tn sv), slE kd sk br (tn sv))]] H locs := hw
    rcases slE_cases kd sk br (tn sv) with ⟨hz, ez⟩ | ⟨hz, ez⟩ | ⟨hz, ez⟩
    · rw [ez] at hw
      have hw : bW G A s.heap [[(ad 0, .inr (9, [.ref (ad 1), .ref (ad 2), .ref (ad 3), .ref (ad 4), .ref (ad 5), .ref (ad 6), .ref (ad 7), .int fl]))], [(ad 2, .inr (0, [.ref (ad 8), .ref (ad 9), .ref (ad 10), .ref (ad 11), .ref (ad 12), .int (nI n), .int lw]))], [(ad 8, .inl (gL G, 6, .inr (.inr (.inr (.inr sg)))))], famX n sa (slE kd sk br) (tn sv), [(ad 6, .inr (2, [.int tr]))], [(sa (tn sv), .inr (8, [.int (nI (tn sv)), .int (sk (tn sv)), .int (br (tn sv))]))]] H locs := hw
      refine aw_callV S hE (c_X8_telling_X8 l G (sa (tn sv)) (nI (tn sv)) (sk (tn sv)) (br (tn sv)) ad tr) gX10_tell_X8_telling (n := 1) rfl (by decide +kernel) rfl (by rw [hRm]; exact ⟨Nat.le_of_ble_eq_true rfl, Nat.le_of_ble_eq_true rfl⟩) (by rw [hRm]; exact ⟨Nat.le_of_ble_eq_true rfl, Nat.le_of_ble_eq_true rfl⟩) hw hA hl.1 [5, 4] rfl rfl (aw_recv (i := 5) hE hw rfl rfl rfl) rfl (Nat.le_of_ble_eq_true rfl) dX10_tell_22 ?_
      rintro v w1 H locs ⟨rfl, rfl⟩ hw
      have hw : bW G A s.heap [[(ad 0, .inr (9, [.ref (ad 1), .ref (ad 2), .ref (ad 3), .ref (ad 4), .ref (ad 5), .ref (ad 6), .ref (ad 7), .int fl]))], [(ad 2, .inr (0, [.ref (ad 8), .ref (ad 9), .ref (ad 10), .ref (ad 11), .ref (ad 12), .int (nI n), .int lw]))], [(ad 8, .inl (gL G, 6, .inr (.inr (.inr (.inr sg)))))], famX n sa (slE kd sk br) (tn sv), [(ad 6, .inr (2, [.int (31 * tr + 1)]))], [(sa (tn sv), .inr (8, [.int (nI (tn sv)), .int (sk (tn sv)), .int (br (tn sv))]))]] H locs := hw
      refine W.eq (g2 := (F0 m 25 ls [.int (br (tn sv))])) rfl ?_
      have hw := Eq.mp (congrArg (fun z_ : Int32 => bW G A s.heap [[(ad 0, .inr (9, [.ref (ad 1), .ref (ad 2), .ref (ad 3), .ref (ad 4), .ref (ad 5), .ref (ad 6), .ref (ad 7), .int fl]))], [(ad 2, .inr (0, [.ref (ad 8), .ref (ad 9), .ref (ad 10), .ref (ad 11), .ref (ad 12), .int (nI n), .int lw]))], [(ad 8, .inl (gL G, 6, .inr (.inr (.inr (.inr sg)))))], famX n sa (slE kd sk br) (tn sv), [(ad 6, .inr (2, [.int z_]))], [(sa (tn sv), .inr (8, [.int (nI (tn sv)), .int (sk (tn sv)), .int (br (tn sv))]))]] H locs) (show (31 * tr + 1 : Int32) = if kd (tn sv) = 0 then 31 * tr + 1 else if kd (tn sv) = 1 then 31 * (31 * tr + 2) + 1 else 31 * (31 * (31 * (31 * tr + 3) + 2) + 1) + 1 from (by rw [if_pos hz]))) hw
      have hw : bW G A s.heap [[(ad 0, .inr (9, [.ref (ad 1), .ref (ad 2), .ref (ad 3), .ref (ad 4), .ref (ad 5), .ref (ad 6), .ref (ad 7), .int fl]))], [(ad 2, .inr (0, [.ref (ad 8), .ref (ad 9), .ref (ad 10), .ref (ad 11), .ref (ad 12), .int (nI n), .int lw]))], [(ad 8, .inl (gL G, 6, .inr (.inr (.inr (.inr sg)))))], famX n sa (slE kd sk br) (tn sv), [(ad 6, .inr (2, [.int (if kd (tn sv) = 0 then 31 * tr + 1 else if kd (tn sv) = 1 then 31 * (31 * tr + 2) + 1 else 31 * (31 * (31 * (31 * tr + 3) + 2) + 1) + 1)]))], [(sa (tn sv), .inr (8, [.int (nI (tn sv)), .int (sk (tn sv)), .int (br (tn sv))]))]] H locs := hw
      refine aw_eqi (show ((br (tn sv)) : Int32) = if kd (tn sv) = 0 then br (tn sv) else if kd (tn sv) = 1 then br (tn sv) + 100 else br (tn sv) + 100 + br (tn sv) from (by rw [if_pos hz])) ?_
      rw [show (.inr (8, [.int (nI (tn sv)), .int (sk (tn sv)), .int (br (tn sv))]) : va_E) = slE kd sk br (tn sv) from ez.symm] at hw
      have hw := aw_inS [[(ad 0, .inr (9, [.ref (ad 1), .ref (ad 2), .ref (ad 3), .ref (ad 4), .ref (ad 5), .ref (ad 6), .ref (ad 7), .int fl]))], [(ad 2, .inr (0, [.ref (ad 8), .ref (ad 9), .ref (ad 10), .ref (ad 11), .ref (ad 12), .int (nI n), .int lw]))], [(ad 8, .inl (gL G, 6, .inr (.inr (.inr (.inr sg)))))], famX n sa (slE kd sk br) (tn sv), [(ad 6, .inr (2, [.int (if kd (tn sv) = 0 then 31 * tr + 1 else if kd (tn sv) = 1 then 31 * (31 * tr + 2) + 1 else 31 * (31 * (31 * (31 * tr + 3) + 2) + 1) + 1)]))]] hw 3 rfl (by omega)
      have hw : bW G A s.heap [[(ad 0, .inr (9, [.ref (ad 1), .ref (ad 2), .ref (ad 3), .ref (ad 4), .ref (ad 5), .ref (ad 6), .ref (ad 7), .int fl]))], [(ad 2, .inr (0, [.ref (ad 8), .ref (ad 9), .ref (ad 10), .ref (ad 11), .ref (ad 12), .int (nI n), .int lw]))], [(ad 8, .inl (gL G, 6, .inr (.inr (.inr (.inr sg)))))], fam n sa (slE kd sk br), [(ad 6, .inr (2, [.int (if kd (tn sv) = 0 then 31 * tr + 1 else if kd (tn sv) = 1 then 31 * (31 * tr + 2) + 1 else 31 * (31 * (31 * (31 * tr + 3) + 2) + 1) + 1)]))]] H locs := hw
      exact join25 _ _ hw
    · rw [ez] at hw
      have hw : bW G A s.heap [[(ad 0, .inr (9, [.ref (ad 1), .ref (ad 2), .ref (ad 3), .ref (ad 4), .ref (ad 5), .ref (ad 6), .ref (ad 7), .int fl]))], [(ad 2, .inr (0, [.ref (ad 8), .ref (ad 9), .ref (ad 10), .ref (ad 11), .ref (ad 12), .int (nI n), .int lw]))], [(ad 8, .inl (gL G, 6, .inr (.inr (.inr (.inr sg)))))], famX n sa (slE kd sk br) (tn sv), [(ad 6, .inr (2, [.int tr]))], [(sa (tn sv), .inr (1, [.int (nI (tn sv)), .int (sk (tn sv)), .int (br (tn sv))]))]] H locs := hw
      refine aw_callU (n := 1) S hE (c_X1_telling_X1 l G (sa (tn sv)) (nI (tn sv)) (sk (tn sv)) (br (tn sv)) ad tr) gX10_tell_X1_telling_u248X1 rfl (show Cond.code ⟨"AwakeTurns$Sleeper", "telling", "(LAwakeTurns$Marks;)I"⟩ cX8_telling 2 (some .int) ∈ wsX10_tell by decide +kernel) (by decide +kernel) rfl (by rw [hRm]; exact ⟨Nat.le_of_ble_eq_true rfl, Nat.le_of_ble_eq_true rfl⟩) (by rw [hRm]; exact ⟨Nat.le_of_ble_eq_true rfl, Nat.le_of_ble_eq_true rfl⟩) hw hA hl.1 [5, 4] rfl rfl (aw_recv (i := 5) hE hw rfl rfl rfl) rfl (Nat.le_of_ble_eq_true rfl) dX10_tell_22 ?_
      rintro v w1 H locs ⟨rfl, rfl⟩ hw
      have hw : bW G A s.heap [[(ad 0, .inr (9, [.ref (ad 1), .ref (ad 2), .ref (ad 3), .ref (ad 4), .ref (ad 5), .ref (ad 6), .ref (ad 7), .int fl]))], [(ad 2, .inr (0, [.ref (ad 8), .ref (ad 9), .ref (ad 10), .ref (ad 11), .ref (ad 12), .int (nI n), .int lw]))], [(ad 8, .inl (gL G, 6, .inr (.inr (.inr (.inr sg)))))], famX n sa (slE kd sk br) (tn sv), [(ad 6, .inr (2, [.int (31 * (31 * tr + 2) + 1)]))], [(sa (tn sv), .inr (1, [.int (nI (tn sv)), .int (sk (tn sv)), .int (br (tn sv))]))]] H locs := hw
      refine W.eq (g2 := (F0 m 25 ls [.int ((br (tn sv)) + 100)])) rfl ?_
      have hw := Eq.mp (congrArg (fun z_ : Int32 => bW G A s.heap [[(ad 0, .inr (9, [.ref (ad 1), .ref (ad 2), .ref (ad 3), .ref (ad 4), .ref (ad 5), .ref (ad 6), .ref (ad 7), .int fl]))], [(ad 2, .inr (0, [.ref (ad 8), .ref (ad 9), .ref (ad 10), .ref (ad 11), .ref (ad 12), .int (nI n), .int lw]))], [(ad 8, .inl (gL G, 6, .inr (.inr (.inr (.inr sg)))))], famX n sa (slE kd sk br) (tn sv), [(ad 6, .inr (2, [.int z_]))], [(sa (tn sv), .inr (1, [.int (nI (tn sv)), .int (sk (tn sv)), .int (br (tn sv))]))]] H locs) (show (31 * (31 * tr + 2) + 1 : Int32) = if kd (tn sv) = 0 then 31 * tr + 1 else if kd (tn sv) = 1 then 31 * (31 * tr + 2) + 1 else 31 * (31 * (31 * (31 * tr + 3) + 2) + 1) + 1 from (by rw [if_neg (by rw [hz]; decide), if_pos hz]))) hw
      have hw : bW G A s.heap [[(ad 0, .inr (9, [.ref (ad 1), .ref (ad 2), .ref (ad 3), .ref (ad 4), .ref (ad 5), .ref (ad 6), .ref (ad 7), .int fl]))], [(ad 2, .inr (0, [.ref (ad 8), .ref (ad 9), .ref (ad 10), .ref (ad 11), .ref (ad 12), .int (nI n), .int lw]))], [(ad 8, .inl (gL G, 6, .inr (.inr (.inr (.inr sg)))))], famX n sa (slE kd sk br) (tn sv), [(ad 6, .inr (2, [.int (if kd (tn sv) = 0 then 31 * tr + 1 else if kd (tn sv) = 1 then 31 * (31 * tr + 2) + 1 else 31 * (31 * (31 * (31 * tr + 3) + 2) + 1) + 1)]))], [(sa (tn sv), .inr (1, [.int (nI (tn sv)), .int (sk (tn sv)), .int (br (tn sv))]))]] H locs := hw
      refine aw_eqi (show ((br (tn sv)) + 100 : Int32) = if kd (tn sv) = 0 then br (tn sv) else if kd (tn sv) = 1 then br (tn sv) + 100 else br (tn sv) + 100 + br (tn sv) from (by rw [if_neg (by rw [hz]; decide), if_pos hz])) ?_
      rw [show (.inr (1, [.int (nI (tn sv)), .int (sk (tn sv)), .int (br (tn sv))]) : va_E) = slE kd sk br (tn sv) from ez.symm] at hw
      have hw := aw_inS [[(ad 0, .inr (9, [.ref (ad 1), .ref (ad 2), .ref (ad 3), .ref (ad 4), .ref (ad 5), .ref (ad 6), .ref (ad 7), .int fl]))], [(ad 2, .inr (0, [.ref (ad 8), .ref (ad 9), .ref (ad 10), .ref (ad 11), .ref (ad 12), .int (nI n), .int lw]))], [(ad 8, .inl (gL G, 6, .inr (.inr (.inr (.inr sg)))))], famX n sa (slE kd sk br) (tn sv), [(ad 6, .inr (2, [.int (if kd (tn sv) = 0 then 31 * tr + 1 else if kd (tn sv) = 1 then 31 * (31 * tr + 2) + 1 else 31 * (31 * (31 * (31 * tr + 3) + 2) + 1) + 1)]))]] hw 3 rfl (by omega)
      have hw : bW G A s.heap [[(ad 0, .inr (9, [.ref (ad 1), .ref (ad 2), .ref (ad 3), .ref (ad 4), .ref (ad 5), .ref (ad 6), .ref (ad 7), .int fl]))], [(ad 2, .inr (0, [.ref (ad 8), .ref (ad 9), .ref (ad 10), .ref (ad 11), .ref (ad 12), .int (nI n), .int lw]))], [(ad 8, .inl (gL G, 6, .inr (.inr (.inr (.inr sg)))))], fam n sa (slE kd sk br), [(ad 6, .inr (2, [.int (if kd (tn sv) = 0 then 31 * tr + 1 else if kd (tn sv) = 1 then 31 * (31 * tr + 2) + 1 else 31 * (31 * (31 * (31 * tr + 3) + 2) + 1) + 1)]))]] H locs := hw
      exact join25 _ _ hw
    · rw [ez] at hw
      have hw : bW G A s.heap [[(ad 0, .inr (9, [.ref (ad 1), .ref (ad 2), .ref (ad 3), .ref (ad 4), .ref (ad 5), .ref (ad 6), .ref (ad 7), .int fl]))], [(ad 2, .inr (0, [.ref (ad 8), .ref (ad 9), .ref (ad 10), .ref (ad 11), .ref (ad 12), .int (nI n), .int lw]))], [(ad 8, .inl (gL G, 6, .inr (.inr (.inr (.inr sg)))))], famX n sa (slE kd sk br) (tn sv), [(ad 6, .inr (2, [.int tr]))], [(sa (tn sv), .inr (5, [.int (nI (tn sv)), .int (sk (tn sv)), .int (br (tn sv))]))]] H locs := hw
      refine aw_callU (n := 1) S hE (c_X5_telling l G (sa (tn sv)) (nI (tn sv)) (sk (tn sv)) (br (tn sv)) ad tr) gX10_tell_X5_telling_u248X5 rfl (show Cond.code ⟨"AwakeTurns$Sleeper", "telling", "(LAwakeTurns$Marks;)I"⟩ cX8_telling 2 (some .int) ∈ wsX10_tell by decide +kernel) (by decide +kernel) rfl (by rw [hRm]; exact ⟨Nat.le_of_ble_eq_true rfl, Nat.le_of_ble_eq_true rfl⟩) (by rw [hRm]; exact ⟨Nat.le_of_ble_eq_true rfl, Nat.le_of_ble_eq_true rfl⟩) hw hA hl.1 [5, 4] rfl rfl (aw_recv (i := 5) hE hw rfl rfl rfl) rfl (Nat.le_of_ble_eq_true rfl) dX10_tell_22 ?_
      rintro v w1 H locs ⟨rfl, rfl⟩ hw
      have hw : bW G A s.heap [[(ad 0, .inr (9, [.ref (ad 1), .ref (ad 2), .ref (ad 3), .ref (ad 4), .ref (ad 5), .ref (ad 6), .ref (ad 7), .int fl]))], [(ad 2, .inr (0, [.ref (ad 8), .ref (ad 9), .ref (ad 10), .ref (ad 11), .ref (ad 12), .int (nI n), .int lw]))], [(ad 8, .inl (gL G, 6, .inr (.inr (.inr (.inr sg)))))], famX n sa (slE kd sk br) (tn sv), [(ad 6, .inr (2, [.int (31 * (31 * (31 * (31 * tr + 3) + 2) + 1) + 1)]))], [(sa (tn sv), .inr (5, [.int (nI (tn sv)), .int (sk (tn sv)), .int (br (tn sv))]))]] H locs := hw
      refine W.eq (g2 := (F0 m 25 ls [.int (((br (tn sv)) + 100) + (br (tn sv)))])) rfl ?_
      have hw := Eq.mp (congrArg (fun z_ : Int32 => bW G A s.heap [[(ad 0, .inr (9, [.ref (ad 1), .ref (ad 2), .ref (ad 3), .ref (ad 4), .ref (ad 5), .ref (ad 6), .ref (ad 7), .int fl]))], [(ad 2, .inr (0, [.ref (ad 8), .ref (ad 9), .ref (ad 10), .ref (ad 11), .ref (ad 12), .int (nI n), .int lw]))], [(ad 8, .inl (gL G, 6, .inr (.inr (.inr (.inr sg)))))], famX n sa (slE kd sk br) (tn sv), [(ad 6, .inr (2, [.int z_]))], [(sa (tn sv), .inr (5, [.int (nI (tn sv)), .int (sk (tn sv)), .int (br (tn sv))]))]] H locs) (show (31 * (31 * (31 * (31 * tr + 3) + 2) + 1) + 1 : Int32) = if kd (tn sv) = 0 then 31 * tr + 1 else if kd (tn sv) = 1 then 31 * (31 * tr + 2) + 1 else 31 * (31 * (31 * (31 * tr + 3) + 2) + 1) + 1 from (by rw [if_neg hz.1, if_neg hz.2]))) hw
      have hw : bW G A s.heap [[(ad 0, .inr (9, [.ref (ad 1), .ref (ad 2), .ref (ad 3), .ref (ad 4), .ref (ad 5), .ref (ad 6), .ref (ad 7), .int fl]))], [(ad 2, .inr (0, [.ref (ad 8), .ref (ad 9), .ref (ad 10), .ref (ad 11), .ref (ad 12), .int (nI n), .int lw]))], [(ad 8, .inl (gL G, 6, .inr (.inr (.inr (.inr sg)))))], famX n sa (slE kd sk br) (tn sv), [(ad 6, .inr (2, [.int (if kd (tn sv) = 0 then 31 * tr + 1 else if kd (tn sv) = 1 then 31 * (31 * tr + 2) + 1 else 31 * (31 * (31 * (31 * tr + 3) + 2) + 1) + 1)]))], [(sa (tn sv), .inr (5, [.int (nI (tn sv)), .int (sk (tn sv)), .int (br (tn sv))]))]] H locs := hw
      refine aw_eqi (show (((br (tn sv)) + 100) + (br (tn sv)) : Int32) = if kd (tn sv) = 0 then br (tn sv) else if kd (tn sv) = 1 then br (tn sv) + 100 else br (tn sv) + 100 + br (tn sv) from (by rw [if_neg hz.1, if_neg hz.2])) ?_
      rw [show (.inr (5, [.int (nI (tn sv)), .int (sk (tn sv)), .int (br (tn sv))]) : va_E) = slE kd sk br (tn sv) from ez.symm] at hw
      have hw := aw_inS [[(ad 0, .inr (9, [.ref (ad 1), .ref (ad 2), .ref (ad 3), .ref (ad 4), .ref (ad 5), .ref (ad 6), .ref (ad 7), .int fl]))], [(ad 2, .inr (0, [.ref (ad 8), .ref (ad 9), .ref (ad 10), .ref (ad 11), .ref (ad 12), .int (nI n), .int lw]))], [(ad 8, .inl (gL G, 6, .inr (.inr (.inr (.inr sg)))))], famX n sa (slE kd sk br) (tn sv), [(ad 6, .inr (2, [.int (if kd (tn sv) = 0 then 31 * tr + 1 else if kd (tn sv) = 1 then 31 * (31 * tr + 2) + 1 else 31 * (31 * (31 * (31 * tr + 3) + 2) + 1) + 1)]))]] hw 3 rfl (by omega)
      have hw : bW G A s.heap [[(ad 0, .inr (9, [.ref (ad 1), .ref (ad 2), .ref (ad 3), .ref (ad 4), .ref (ad 5), .ref (ad 6), .ref (ad 7), .int fl]))], [(ad 2, .inr (0, [.ref (ad 8), .ref (ad 9), .ref (ad 10), .ref (ad 11), .ref (ad 12), .int (nI n), .int lw]))], [(ad 8, .inl (gL G, 6, .inr (.inr (.inr (.inr sg)))))], fam n sa (slE kd sk br), [(ad 6, .inr (2, [.int (if kd (tn sv) = 0 then 31 * tr + 1 else if kd (tn sv) = 1 then 31 * (31 * tr + 2) + 1 else 31 * (31 * (31 * (31 * tr + 3) + 2) + 1) + 1)]))]] H locs := hw
      exact join25 _ _ hw
  · refine lv_aload_n S.1 S.2.1 dX10_tell_0 rfl (lv_at hl 0 rfl) ?_
    refine aw_get S hE hw 0 (C := RX10) (T := TX10) (N := 8) rfl rfl hinX10 1 (by decide) hf21 rfl dX10_tell_1 ?_
    refine lv_iload_n S.1 S.2.1 dX10_tell_4 rfl (lv_at hl 1 rfl) ?_
    refine aw_callV S hE (c_X0_at_out l G ad n lw sv (by first | assumption | omega) hz_s) gX10_tell_X0_at (n := 1) rfl (by decide +kernel) rfl (by rw [hRm]; exact ⟨Nat.le_of_ble_eq_true rfl, Nat.le_of_ble_eq_true rfl⟩) (by rw [hRm]; exact ⟨Nat.le_of_ble_eq_true rfl, Nat.le_of_ble_eq_true rfl⟩) hw hA hl.1 [1] rfl rfl (aw_recv (i := 1) hE hw rfl rfl rfl) rfl (Nat.le_of_ble_eq_true rfl) dX10_tell_5 ?_
    rintro v w1 H locs ⟨rfl, rfl⟩ hw
    have hw : bW G A s.heap [[(ad 0, .inr (9, [.ref (ad 1), .ref (ad 2), .ref (ad 3), .ref (ad 4), .ref (ad 5), .ref (ad 6), .ref (ad 7), .int fl]))], [(ad 2, .inr (0, [.ref (ad 8), .ref (ad 9), .ref (ad 10), .ref (ad 11), .ref (ad 12), .int (nI n), .int lw]))], [(ad 8, .inl (gL G, 6, .inr (.inr (.inr (.inr sg)))))], fam n sa (slE kd sk br), [(ad 6, .inr (2, [.int tr]))]] H locs := hw
    refine W.eq (g2 := (F0 m 8 ls [.null])) rfl ?_
    refine lv_astore_nN (lv' := [(2, .null), (0, .ref (ad 0)), (1, .int sv)]) S.1 S.2.1 dX10_tell_8 rfl hl (by decide) rfl (fun ls hl => ?_)
    refine lv_aload_nN S.1 S.2.1 dX10_tell_9 rfl (lv_at hl 0 rfl) ?_
    refine lv_ifnonnullN S.1 S.2.1 dX10_tell_10 ?_
    refine lv_iconst (v := (-1)) S.1 S.2.1 dX10_tell_13 (by decide) ?_
    refine lv_goto (tgt := 25) S.1 S.2.1 dX10_tell_14 (by decide) ?_
    have hw := Eq.mp (congrArg (fun z_ : Int32 => bW G A s.heap [[(ad 0, .inr (9, [.ref (ad 1), .ref (ad 2), .ref (ad 3), .ref (ad 4), .ref (ad 5), .ref (ad 6), .ref (ad 7), .int fl]))], [(ad 2, .inr (0, [.ref (ad 8), .ref (ad 9), .ref (ad 10), .ref (ad 11), .ref (ad 12), .int (nI n), .int lw]))], [(ad 8, .inl (gL G, 6, .inr (.inr (.inr (.inr sg)))))], fam n sa (slE kd sk br), [(ad 6, .inr (2, [.int z_]))]] H locs) (show (tr : Int32) = f_tellT n kd tr sv from (by rw [f_tellT]; first | rw [if_pos hz_s] | rw [if_neg hz_s]))) hw
    have hw : bW G A s.heap [[(ad 0, .inr (9, [.ref (ad 1), .ref (ad 2), .ref (ad 3), .ref (ad 4), .ref (ad 5), .ref (ad 6), .ref (ad 7), .int fl]))], [(ad 2, .inr (0, [.ref (ad 8), .ref (ad 9), .ref (ad 10), .ref (ad 11), .ref (ad 12), .int (nI n), .int lw]))], [(ad 8, .inl (gL G, 6, .inr (.inr (.inr (.inr sg)))))], fam n sa (slE kd sk br), [(ad 6, .inr (2, [.int (f_tellT n kd tr sv)]))]] H locs := hw
    refine aw_eqi (show ((-1) : Int32) = f_tell n kd br sv from (by rw [f_tell]; first | rw [if_pos hz_s] | rw [if_neg hz_s])) ?_
    exact aw_iret S hr hlk ha hQ hAe hw dX10_tell_25 rfl (Nat.le_of_ble_eq_true rfl) (Nat.le_of_ble_eq_true rfl) ⟨rfl, rfl⟩
set_option maxRecDepth 100000 in
set_option maxHeartbeats 4000000 in
theorem c_X10_greet (l : Launch) (G : aw_G) (ad : Nat → Nat) (fl : Int32) (n : Nat) (lw : Int32) (sg : Nat → Option Nat) (sa : Nat → Nat) (kd sk br : Nat → Int32) (tr sv : Int32) (hn : n ≤ 6) (hsg : ∀ i, i < n → sg i = some (sa i)) : CT l G yX10_greet wsX10_greet ({ frames := 2, cells := 0, slots := 0, locals := 42 }) [.ref (ad 0), .int sv] [[(ad 0, .inr (9, [.ref (ad 1), .ref (ad 2), .ref (ad 3), .ref (ad 4), .ref (ad 5), .ref (ad 6), .ref (ad 7), .int fl]))], [(ad 2, .inr (0, [.ref (ad 8), .ref (ad 9), .ref (ad 10), .ref (ad 11), .ref (ad 12), .int (nI n), .int lw]))], [(ad 8, .inl (gL G, 6, .inr (.inr (.inr (.inr sg)))))], fam n sa (slE kd sk br), [(ad 6, .inr (2, [.int tr]))]] (dt (some (.int (f_greet n kd sv))) [[(ad 0, .inr (9, [.ref (ad 1), .ref (ad 2), .ref (ad 3), .ref (ad 4), .ref (ad 5), .ref (ad 6), .ref (ad 7), .int fl]))], [(ad 2, .inr (0, [.ref (ad 8), .ref (ad 9), .ref (ad 10), .ref (ad 11), .ref (ad 12), .int (nI n), .int lw]))], [(ad 8, .inl (gL G, 6, .inr (.inr (.inr (.inr sg)))))], fam n sa (slE kd sk br), [(ad 6, .inr (2, [.int (f_greetT n kd tr sv)]))]]) := by
  refine CT.of (cc := cX10_greet) (nL := 3) (ret := (some .int)) (by decide) rfl (Nat.le_of_ble_eq_true rfl) ?_
  intro p e s m below meth c R args Q A hRm ha hQ hAe hA S hE hr hlk hnm H locs hH0 hL0 ls hl hw
  have S : CallFix p m c cX10_greet 3 s args wsX10_greet RX10 := S
  have hl : lv_has ls 3 [(0, .ref (ad 0)), (1, .int sv)] := hl
  have hinX10 : ∀ w ∈ u_ws RX10 TX10 8, w ∈ wsX10_greet := by decide +kernel
  have hf21 := S.2.2.2.2 (.fieldLink RX10 21 "AwakeTurns" "crew" "LAwakeTurns$Crew;") (by decide +kernel)
  have hf51 := S.2.2.2.2 (.fieldLink RX10 51 "AwakeTurns" "marks" "LAwakeTurns$Marks;") (by decide +kernel)
  by_cases hz_s : 0 ≤ sv.toInt ∧ sv.toInt < n
  · have hb_sv : tn sv < n := aw_tnL hz_s
    have hl := Eq.mp (congrArg (fun z_ : Int32 => lv_has ls 3 [(0, .ref (ad 0)), (1, .int z_)]) (show (sv : Int32) = nI (tn sv) from (aw_tnE hz_s))) hl
    have hl : lv_has ls 3 [(0, .ref (ad 0)), (1, .int (nI (tn sv)))] := hl
    refine lv_aload_n S.1 S.2.1 dX10_greet_0 rfl (lv_at hl 0 rfl) ?_
    refine aw_get S hE hw 0 (C := RX10) (T := TX10) (N := 8) rfl rfl hinX10 1 (by decide) hf21 rfl dX10_greet_1 ?_
    refine lv_iload_n S.1 S.2.1 dX10_greet_4 rfl (lv_at hl 1 rfl) ?_
    refine aw_callV S hE (c_X0_at_in l G ad n lw sg sa (tn sv) (by first | assumption | omega) hb_sv (by first | assumption | omega)) gX10_greet_X0_at (n := 1) rfl (by decide +kernel) rfl (by rw [hRm]; exact ⟨Nat.le_of_ble_eq_true rfl, Nat.le_of_ble_eq_true rfl⟩) (by rw [hRm]; exact ⟨Nat.le_of_ble_eq_true rfl, Nat.le_of_ble_eq_true rfl⟩) hw hA hl.1 [1, 2] rfl rfl (aw_recv (i := 1) hE hw rfl rfl rfl) rfl (Nat.le_of_ble_eq_true rfl) dX10_greet_5 ?_
    rintro v w1 H locs ⟨rfl, rfl⟩ hw
    have hw : bW G A s.heap [[(ad 0, .inr (9, [.ref (ad 1), .ref (ad 2), .ref (ad 3), .ref (ad 4), .ref (ad 5), .ref (ad 6), .ref (ad 7), .int fl]))], [(ad 2, .inr (0, [.ref (ad 8), .ref (ad 9), .ref (ad 10), .ref (ad 11), .ref (ad 12), .int (nI n), .int lw]))], [(ad 8, .inl (gL G, 6, .inr (.inr (.inr (.inr sg)))))], fam n sa (slE kd sk br), [(ad 6, .inr (2, [.int tr]))]] H locs := hw
    refine W.eq (g2 := (F0 m 8 ls [.ref (sa (tn sv))])) rfl ?_
    refine lv_astore_n (lv' := [(2, .ref (sa (tn sv))), (0, .ref (ad 0)), (1, .int (nI (tn sv)))]) S.1 S.2.1 dX10_greet_8 rfl hl (by decide) rfl (fun ls hl => ?_)
    refine lv_aload_n S.1 S.2.1 dX10_greet_9 rfl (lv_at hl 0 rfl) ?_
    refine lv_ifnonnull (tgt := 17) S.1 S.2.1 dX10_greet_10 (by decide) ?_
    refine lv_aload_n S.1 S.2.1 dX10_greet_17 rfl (lv_at hl 0 rfl) ?_
    refine lv_aload_n S.1 S.2.1 dX10_greet_18 rfl (lv_at hl 1 rfl) ?_
    refine aw_get S hE hw 0 (C := RX10) (T := TX10) (N := 8) rfl rfl hinX10 5 (by decide) hf51 rfl dX10_greet_19 ?_
    have join25 : ∀ (H : Heap) (locs : List Loc), bW G A s.heap [[(ad 0, .inr (9, [.ref (ad 1), .ref (ad 2), .ref (ad 3), .ref (ad 4), .ref (ad 5), .ref (ad 6), .ref (ad 7), .int fl]))], [(ad 2, .inr (0, [.ref (ad 8), .ref (ad 9), .ref (ad 10), .ref (ad 11), .ref (ad 12), .int (nI n), .int lw]))], [(ad 8, .inl (gL G, 6, .inr (.inr (.inr (.inr sg)))))], fam n sa (slE kd sk br), [(ad 6, .inr (2, [.int (if kd (tn sv) = 0 ∨ kd (tn sv) = 1 then 31 * tr + 4 else 31 * tr + 5)]))]] H locs → W p l e R s m args below meth c H locs 0 0 Q (F0 m 25 ls [.int (if kd (tn sv) = 0 ∨ kd (tn sv) = 1 then nI (tn sv) else 60)]) := by
      intro H locs hw
      have hw := Eq.mp (congrArg (fun z_ : Int32 => bW G A s.heap [[(ad 0, .inr (9, [.ref (ad 1), .ref (ad 2), .ref (ad 3), .ref (ad 4), .ref (ad 5), .ref (ad 6), .ref (ad 7), .int fl]))], [(ad 2, .inr (0, [.ref (ad 8), .ref (ad 9), .ref (ad 10), .ref (ad 11), .ref (ad 12), .int (nI n), .int lw]))], [(ad 8, .inl (gL G, 6, .inr (.inr (.inr (.inr sg)))))], fam n sa (slE kd sk br), [(ad 6, .inr (2, [.int z_]))]] H locs) (show (if kd (tn sv) = 0 ∨ kd (tn sv) = 1 then 31 * tr + 4 else 31 * tr + 5 : Int32) = f_greetT n kd tr sv from (by rw [f_greetT]; first | rw [if_pos hz_s] | rw [if_neg hz_s]))) hw
      have hw : bW G A s.heap [[(ad 0, .inr (9, [.ref (ad 1), .ref (ad 2), .ref (ad 3), .ref (ad 4), .ref (ad 5), .ref (ad 6), .ref (ad 7), .int fl]))], [(ad 2, .inr (0, [.ref (ad 8), .ref (ad 9), .ref (ad 10), .ref (ad 11), .ref (ad 12), .int (nI n), .int lw]))], [(ad 8, .inl (gL G, 6, .inr (.inr (.inr (.inr sg)))))], fam n sa (slE kd sk br), [(ad 6, .inr (2, [.int (f_greetT n kd tr sv)]))]] H locs := hw
      refine aw_eqi (show (if kd (tn sv) = 0 ∨ kd (tn sv) = 1 then nI (tn sv) else 60 : Int32) = f_greet n kd sv from (by rw [f_greet]; first | rw [if_pos hz_s] | rw [if_neg hz_s])) ?_
      exact aw_iret S hr hlk ha hQ hAe hw dX10_greet_25 rfl (Nat.le_of_ble_eq_true rfl) (Nat.le_of_ble_eq_true rfl) ⟨rfl, rfl⟩
    have hw := aw_out hw 3 rfl (tn sv) (by omega)
    have hw : bW G A s.heap [[(ad 0, .inr (9, [.ref (ad 1), .ref (ad 2), .ref (ad 3), .ref (ad 4), .ref (ad 5), .ref (ad 6), .ref (ad 7), .int fl]))], [(ad 2, .inr (0, [.ref (ad 8), .ref (ad 9), .ref (ad 10), .ref (ad 11), .ref (ad 12), .int (nI n), .int lw]))], [(ad 8, .inl (gL G, 6, .inr (.inr (.inr (.inr sg)))))], famX n sa (slE kd sk br) (tn sv), [(ad 6, .inr (2, [.int tr]))], [(sa (tn sv), slE kd sk br (tn sv))]] H locs := hw
    rcases slE_cases kd sk br (tn sv) with ⟨hz, ez⟩ | ⟨hz, ez⟩ | ⟨hz, ez⟩
    · rw [ez] at hw
      have hw : bW G A s.heap [[(ad 0, .inr (9, [.ref (ad 1), .ref (ad 2), .ref (ad 3), .ref (ad 4), .ref (ad 5), .ref (ad 6), .ref (ad 7), .int fl]))], [(ad 2, .inr (0, [.ref (ad 8), .ref (ad 9), .ref (ad 10), .ref (ad 11), .ref (ad 12), .int (nI n), .int lw]))], [(ad 8, .inl (gL G, 6, .inr (.inr (.inr (.inr sg)))))], famX n sa (slE kd sk br) (tn sv), [(ad 6, .inr (2, [.int tr]))], [(sa (tn sv), .inr (8, [.int (nI (tn sv)), .int (sk (tn sv)), .int (br (tn sv))]))]] H locs := hw
      refine aw_callV S hE (c_X8_greeting_X8 l G (sa (tn sv)) (nI (tn sv)) (sk (tn sv)) (br (tn sv)) ad tr) gX10_greet_X8_greeting (n := 1) rfl (by decide +kernel) rfl (by rw [hRm]; exact ⟨Nat.le_of_ble_eq_true rfl, Nat.le_of_ble_eq_true rfl⟩) (by rw [hRm]; exact ⟨Nat.le_of_ble_eq_true rfl, Nat.le_of_ble_eq_true rfl⟩) hw hA hl.1 [5, 4] rfl rfl (aw_recv (i := 5) hE hw rfl rfl rfl) rfl (Nat.le_of_ble_eq_true rfl) dX10_greet_22 ?_
      rintro v w1 H locs ⟨rfl, rfl⟩ hw
      have hw : bW G A s.heap [[(ad 0, .inr (9, [.ref (ad 1), .ref (ad 2), .ref (ad 3), .ref (ad 4), .ref (ad 5), .ref (ad 6), .ref (ad 7), .int fl]))], [(ad 2, .inr (0, [.ref (ad 8), .ref (ad 9), .ref (ad 10), .ref (ad 11), .ref (ad 12), .int (nI n), .int lw]))], [(ad 8, .inl (gL G, 6, .inr (.inr (.inr (.inr sg)))))], famX n sa (slE kd sk br) (tn sv), [(ad 6, .inr (2, [.int (31 * tr + 4)]))], [(sa (tn sv), .inr (8, [.int (nI (tn sv)), .int (sk (tn sv)), .int (br (tn sv))]))]] H locs := hw
      refine W.eq (g2 := (F0 m 25 ls [.int (nI (tn sv))])) rfl ?_
      have hw := Eq.mp (congrArg (fun z_ : Int32 => bW G A s.heap [[(ad 0, .inr (9, [.ref (ad 1), .ref (ad 2), .ref (ad 3), .ref (ad 4), .ref (ad 5), .ref (ad 6), .ref (ad 7), .int fl]))], [(ad 2, .inr (0, [.ref (ad 8), .ref (ad 9), .ref (ad 10), .ref (ad 11), .ref (ad 12), .int (nI n), .int lw]))], [(ad 8, .inl (gL G, 6, .inr (.inr (.inr (.inr sg)))))], famX n sa (slE kd sk br) (tn sv), [(ad 6, .inr (2, [.int z_]))], [(sa (tn sv), .inr (8, [.int (nI (tn sv)), .int (sk (tn sv)), .int (br (tn sv))]))]] H locs) (show (31 * tr + 4 : Int32) = if kd (tn sv) = 0 ∨ kd (tn sv) = 1 then 31 * tr + 4 else 31 * tr + 5 from (by rw [if_pos (Or.inl hz)]))) hw
      have hw : bW G A s.heap [[(ad 0, .inr (9, [.ref (ad 1), .ref (ad 2), .ref (ad 3), .ref (ad 4), .ref (ad 5), .ref (ad 6), .ref (ad 7), .int fl]))], [(ad 2, .inr (0, [.ref (ad 8), .ref (ad 9), .ref (ad 10), .ref (ad 11), .ref (ad 12), .int (nI n), .int lw]))], [(ad 8, .inl (gL G, 6, .inr (.inr (.inr (.inr sg)))))], famX n sa (slE kd sk br) (tn sv), [(ad 6, .inr (2, [.int (if kd (tn sv) = 0 ∨ kd (tn sv) = 1 then 31 * tr + 4 else 31 * tr + 5)]))], [(sa (tn sv), .inr (8, [.int (nI (tn sv)), .int (sk (tn sv)), .int (br (tn sv))]))]] H locs := hw
      refine aw_eqi (show ((nI (tn sv)) : Int32) = if kd (tn sv) = 0 ∨ kd (tn sv) = 1 then nI (tn sv) else 60 from (by rw [if_pos (Or.inl hz)])) ?_
      rw [show (.inr (8, [.int (nI (tn sv)), .int (sk (tn sv)), .int (br (tn sv))]) : va_E) = slE kd sk br (tn sv) from ez.symm] at hw
      have hw := aw_inS [[(ad 0, .inr (9, [.ref (ad 1), .ref (ad 2), .ref (ad 3), .ref (ad 4), .ref (ad 5), .ref (ad 6), .ref (ad 7), .int fl]))], [(ad 2, .inr (0, [.ref (ad 8), .ref (ad 9), .ref (ad 10), .ref (ad 11), .ref (ad 12), .int (nI n), .int lw]))], [(ad 8, .inl (gL G, 6, .inr (.inr (.inr (.inr sg)))))], famX n sa (slE kd sk br) (tn sv), [(ad 6, .inr (2, [.int (if kd (tn sv) = 0 ∨ kd (tn sv) = 1 then 31 * tr + 4 else 31 * tr + 5)]))]] hw 3 rfl (by omega)
      have hw : bW G A s.heap [[(ad 0, .inr (9, [.ref (ad 1), .ref (ad 2), .ref (ad 3), .ref (ad 4), .ref (ad 5), .ref (ad 6), .ref (ad 7), .int fl]))], [(ad 2, .inr (0, [.ref (ad 8), .ref (ad 9), .ref (ad 10), .ref (ad 11), .ref (ad 12), .int (nI n), .int lw]))], [(ad 8, .inl (gL G, 6, .inr (.inr (.inr (.inr sg)))))], fam n sa (slE kd sk br), [(ad 6, .inr (2, [.int (if kd (tn sv) = 0 ∨ kd (tn sv) = 1 then 31 * tr + 4 else 31 * tr + 5)]))]] H locs := hw
      exact join25 _ _ hw
    · rw [ez] at hw
      have hw : bW G A s.heap [[(ad 0, .inr (9, [.ref (ad 1), .ref (ad 2), .ref (ad 3), .ref (ad 4), .ref (ad 5), .ref (ad 6), .ref (ad 7), .int fl]))], [(ad 2, .inr (0, [.ref (ad 8), .ref (ad 9), .ref (ad 10), .ref (ad 11), .ref (ad 12), .int (nI n), .int lw]))], [(ad 8, .inl (gL G, 6, .inr (.inr (.inr (.inr sg)))))], famX n sa (slE kd sk br) (tn sv), [(ad 6, .inr (2, [.int tr]))], [(sa (tn sv), .inr (1, [.int (nI (tn sv)), .int (sk (tn sv)), .int (br (tn sv))]))]] H locs := hw
      refine aw_callW (n := 1) S hE (c_X8_greeting_X1 l G (sa (tn sv)) (nI (tn sv)) (sk (tn sv)) (br (tn sv)) ad tr) gX10_greet_X8_greeting_u252X1 rfl rfl (by decide +kernel) rfl (by rw [hRm]; exact ⟨Nat.le_of_ble_eq_true rfl, Nat.le_of_ble_eq_true rfl⟩) (by rw [hRm]; exact ⟨Nat.le_of_ble_eq_true rfl, Nat.le_of_ble_eq_true rfl⟩) hw hA hl.1 [5, 4] rfl rfl (aw_recv (i := 5) hE hw rfl rfl rfl) rfl (Nat.le_of_ble_eq_true rfl) dX10_greet_22 ?_
      rintro v w1 H locs ⟨rfl, rfl⟩ hw
      have hw : bW G A s.heap [[(ad 0, .inr (9, [.ref (ad 1), .ref (ad 2), .ref (ad 3), .ref (ad 4), .ref (ad 5), .ref (ad 6), .ref (ad 7), .int fl]))], [(ad 2, .inr (0, [.ref (ad 8), .ref (ad 9), .ref (ad 10), .ref (ad 11), .ref (ad 12), .int (nI n), .int lw]))], [(ad 8, .inl (gL G, 6, .inr (.inr (.inr (.inr sg)))))], famX n sa (slE kd sk br) (tn sv), [(ad 6, .inr (2, [.int (31 * tr + 4)]))], [(sa (tn sv), .inr (1, [.int (nI (tn sv)), .int (sk (tn sv)), .int (br (tn sv))]))]] H locs := hw
      refine W.eq (g2 := (F0 m 25 ls [.int (nI (tn sv))])) rfl ?_
      have hw := Eq.mp (congrArg (fun z_ : Int32 => bW G A s.heap [[(ad 0, .inr (9, [.ref (ad 1), .ref (ad 2), .ref (ad 3), .ref (ad 4), .ref (ad 5), .ref (ad 6), .ref (ad 7), .int fl]))], [(ad 2, .inr (0, [.ref (ad 8), .ref (ad 9), .ref (ad 10), .ref (ad 11), .ref (ad 12), .int (nI n), .int lw]))], [(ad 8, .inl (gL G, 6, .inr (.inr (.inr (.inr sg)))))], famX n sa (slE kd sk br) (tn sv), [(ad 6, .inr (2, [.int z_]))], [(sa (tn sv), .inr (1, [.int (nI (tn sv)), .int (sk (tn sv)), .int (br (tn sv))]))]] H locs) (show (31 * tr + 4 : Int32) = if kd (tn sv) = 0 ∨ kd (tn sv) = 1 then 31 * tr + 4 else 31 * tr + 5 from (by rw [if_pos (Or.inr hz)]))) hw
      have hw : bW G A s.heap [[(ad 0, .inr (9, [.ref (ad 1), .ref (ad 2), .ref (ad 3), .ref (ad 4), .ref (ad 5), .ref (ad 6), .ref (ad 7), .int fl]))], [(ad 2, .inr (0, [.ref (ad 8), .ref (ad 9), .ref (ad 10), .ref (ad 11), .ref (ad 12), .int (nI n), .int lw]))], [(ad 8, .inl (gL G, 6, .inr (.inr (.inr (.inr sg)))))], famX n sa (slE kd sk br) (tn sv), [(ad 6, .inr (2, [.int (if kd (tn sv) = 0 ∨ kd (tn sv) = 1 then 31 * tr + 4 else 31 * tr + 5)]))], [(sa (tn sv), .inr (1, [.int (nI (tn sv)), .int (sk (tn sv)), .int (br (tn sv))]))]] H locs := hw
      refine aw_eqi (show ((nI (tn sv)) : Int32) = if kd (tn sv) = 0 ∨ kd (tn sv) = 1 then nI (tn sv) else 60 from (by rw [if_pos (Or.inr hz)])) ?_
      rw [show (.inr (1, [.int (nI (tn sv)), .int (sk (tn sv)), .int (br (tn sv))]) : va_E) = slE kd sk br (tn sv) from ez.symm] at hw
      have hw := aw_inS [[(ad 0, .inr (9, [.ref (ad 1), .ref (ad 2), .ref (ad 3), .ref (ad 4), .ref (ad 5), .ref (ad 6), .ref (ad 7), .int fl]))], [(ad 2, .inr (0, [.ref (ad 8), .ref (ad 9), .ref (ad 10), .ref (ad 11), .ref (ad 12), .int (nI n), .int lw]))], [(ad 8, .inl (gL G, 6, .inr (.inr (.inr (.inr sg)))))], famX n sa (slE kd sk br) (tn sv), [(ad 6, .inr (2, [.int (if kd (tn sv) = 0 ∨ kd (tn sv) = 1 then 31 * tr + 4 else 31 * tr + 5)]))]] hw 3 rfl (by omega)
      have hw : bW G A s.heap [[(ad 0, .inr (9, [.ref (ad 1), .ref (ad 2), .ref (ad 3), .ref (ad 4), .ref (ad 5), .ref (ad 6), .ref (ad 7), .int fl]))], [(ad 2, .inr (0, [.ref (ad 8), .ref (ad 9), .ref (ad 10), .ref (ad 11), .ref (ad 12), .int (nI n), .int lw]))], [(ad 8, .inl (gL G, 6, .inr (.inr (.inr (.inr sg)))))], fam n sa (slE kd sk br), [(ad 6, .inr (2, [.int (if kd (tn sv) = 0 ∨ kd (tn sv) = 1 then 31 * tr + 4 else 31 * tr + 5)]))]] H locs := hw
      exact join25 _ _ hw
    · rw [ez] at hw
      have hw : bW G A s.heap [[(ad 0, .inr (9, [.ref (ad 1), .ref (ad 2), .ref (ad 3), .ref (ad 4), .ref (ad 5), .ref (ad 6), .ref (ad 7), .int fl]))], [(ad 2, .inr (0, [.ref (ad 8), .ref (ad 9), .ref (ad 10), .ref (ad 11), .ref (ad 12), .int (nI n), .int lw]))], [(ad 8, .inl (gL G, 6, .inr (.inr (.inr (.inr sg)))))], famX n sa (slE kd sk br) (tn sv), [(ad 6, .inr (2, [.int tr]))], [(sa (tn sv), .inr (5, [.int (nI (tn sv)), .int (sk (tn sv)), .int (br (tn sv))]))]] H locs := hw
      refine aw_callU (n := 1) S hE (c_X5_greeting l G (sa (tn sv)) (nI (tn sv)) (sk (tn sv)) (br (tn sv)) ad tr) gX10_greet_X5_greeting_u252X5 rfl (show Cond.code ⟨"AwakeTurns$Sleeper", "greeting", "(LAwakeTurns$Marks;)I"⟩ cX8_greeting 2 (some .int) ∈ wsX10_greet by decide +kernel) (by decide +kernel) rfl (by rw [hRm]; exact ⟨Nat.le_of_ble_eq_true rfl, Nat.le_of_ble_eq_true rfl⟩) (by rw [hRm]; exact ⟨Nat.le_of_ble_eq_true rfl, Nat.le_of_ble_eq_true rfl⟩) hw hA hl.1 [5, 4] rfl rfl (aw_recv (i := 5) hE hw rfl rfl rfl) rfl (Nat.le_of_ble_eq_true rfl) dX10_greet_22 ?_
      rintro v w1 H locs ⟨rfl, rfl⟩ hw
      have hw : bW G A s.heap [[(ad 0, .inr (9, [.ref (ad 1), .ref (ad 2), .ref (ad 3), .ref (ad 4), .ref (ad 5), .ref (ad 6), .ref (ad 7), .int fl]))], [(ad 2, .inr (0, [.ref (ad 8), .ref (ad 9), .ref (ad 10), .ref (ad 11), .ref (ad 12), .int (nI n), .int lw]))], [(ad 8, .inl (gL G, 6, .inr (.inr (.inr (.inr sg)))))], famX n sa (slE kd sk br) (tn sv), [(ad 6, .inr (2, [.int (31 * tr + 5)]))], [(sa (tn sv), .inr (5, [.int (nI (tn sv)), .int (sk (tn sv)), .int (br (tn sv))]))]] H locs := hw
      refine W.eq (g2 := (F0 m 25 ls [.int 60])) rfl ?_
      have hw := Eq.mp (congrArg (fun z_ : Int32 => bW G A s.heap [[(ad 0, .inr (9, [.ref (ad 1), .ref (ad 2), .ref (ad 3), .ref (ad 4), .ref (ad 5), .ref (ad 6), .ref (ad 7), .int fl]))], [(ad 2, .inr (0, [.ref (ad 8), .ref (ad 9), .ref (ad 10), .ref (ad 11), .ref (ad 12), .int (nI n), .int lw]))], [(ad 8, .inl (gL G, 6, .inr (.inr (.inr (.inr sg)))))], famX n sa (slE kd sk br) (tn sv), [(ad 6, .inr (2, [.int z_]))], [(sa (tn sv), .inr (5, [.int (nI (tn sv)), .int (sk (tn sv)), .int (br (tn sv))]))]] H locs) (show (31 * tr + 5 : Int32) = if kd (tn sv) = 0 ∨ kd (tn sv) = 1 then 31 * tr + 4 else 31 * tr + 5 from (by rw [if_neg (fun q => q.elim hz.1 hz.2)]))) hw
      have hw : bW G A s.heap [[(ad 0, .inr (9, [.ref (ad 1), .ref (ad 2), .ref (ad 3), .ref (ad 4), .ref (ad 5), .ref (ad 6), .ref (ad 7), .int fl]))], [(ad 2, .inr (0, [.ref (ad 8), .ref (ad 9), .ref (ad 10), .ref (ad 11), .ref (ad 12), .int (nI n), .int lw]))], [(ad 8, .inl (gL G, 6, .inr (.inr (.inr (.inr sg)))))], famX n sa (slE kd sk br) (tn sv), [(ad 6, .inr (2, [.int (if kd (tn sv) = 0 ∨ kd (tn sv) = 1 then 31 * tr + 4 else 31 * tr + 5)]))], [(sa (tn sv), .inr (5, [.int (nI (tn sv)), .int (sk (tn sv)), .int (br (tn sv))]))]] H locs := hw
      refine aw_eqi (show (60 : Int32) = if kd (tn sv) = 0 ∨ kd (tn sv) = 1 then nI (tn sv) else 60 from (by rw [if_neg (fun q => q.elim hz.1 hz.2)])) ?_
      rw [show (.inr (5, [.int (nI (tn sv)), .int (sk (tn sv)), .int (br (tn sv))]) : va_E) = slE kd sk br (tn sv) from ez.symm] at hw
      have hw := aw_inS [[(ad 0, .inr (9, [.ref (ad 1), .ref (ad 2), .ref (ad 3), .ref (ad 4), .ref (ad 5), .ref (ad 6), .ref (ad 7), .int fl]))], [(ad 2, .inr (0, [.ref (ad 8), .ref (ad 9), .ref (ad 10), .ref (ad 11), .ref (ad 12), .int (nI n), .int lw]))], [(ad 8, .inl (gL G, 6, .inr (.inr (.inr (.inr sg)))))], famX n sa (slE kd sk br) (tn sv), [(ad 6, .inr (2, [.int (if kd (tn sv) = 0 ∨ kd (tn sv) = 1 then 31 * tr + 4 else 31 * tr + 5)]))]] hw 3 rfl (by omega)
      have hw : bW G A s.heap [[(ad 0, .inr (9, [.ref (ad 1), .ref (ad 2), .ref (ad 3), .ref (ad 4), .ref (ad 5), .ref (ad 6), .ref (ad 7), .int fl]))], [(ad 2, .inr (0, [.ref (ad 8), .ref (ad 9), .ref (ad 10), .ref (ad 11), .ref (ad 12), .int (nI n), .int lw]))], [(ad 8, .inl (gL G, 6, .inr (.inr (.inr (.inr sg)))))], fam n sa (slE kd sk br), [(ad 6, .inr (2, [.int (if kd (tn sv) = 0 ∨ kd (tn sv) = 1 then 31 * tr + 4 else 31 * tr + 5)]))]] H locs := hw
      exact join25 _ _ hw
  · refine lv_aload_n S.1 S.2.1 dX10_greet_0 rfl (lv_at hl 0 rfl) ?_
    refine aw_get S hE hw 0 (C := RX10) (T := TX10) (N := 8) rfl rfl hinX10 1 (by decide) hf21 rfl dX10_greet_1 ?_
    refine lv_iload_n S.1 S.2.1 dX10_greet_4 rfl (lv_at hl 1 rfl) ?_
    refine aw_callV S hE (c_X0_at_out l G ad n lw sv (by first | assumption | omega) hz_s) gX10_greet_X0_at (n := 1) rfl (by decide +kernel) rfl (by rw [hRm]; exact ⟨Nat.le_of_ble_eq_true rfl, Nat.le_of_ble_eq_true rfl⟩) (by rw [hRm]; exact ⟨Nat.le_of_ble_eq_true rfl, Nat.le_of_ble_eq_true rfl⟩) hw hA hl.1 [1] rfl rfl (aw_recv (i := 1) hE hw rfl rfl rfl) rfl (Nat.le_of_ble_eq_true rfl) dX10_greet_5 ?_
    rintro v w1 H locs ⟨rfl, rfl⟩ hw
    have hw : bW G A s.heap [[(ad 0, .inr (9, [.ref (ad 1), .ref (ad 2), .ref (ad 3), .ref (ad 4), .ref (ad 5), .ref (ad 6), .ref (ad 7), .int fl]))], [(ad 2, .inr (0, [.ref (ad 8), .ref (ad 9), .ref (ad 10), .ref (ad 11), .ref (ad 12), .int (nI n), .int lw]))], [(ad 8, .inl (gL G, 6, .inr (.inr (.inr (.inr sg)))))], fam n sa (slE kd sk br), [(ad 6, .inr (2, [.int tr]))]] H locs := hw
    refine W.eq (g2 := (F0 m 8 ls [.null])) rfl ?_
    refine lv_astore_nN (lv' := [(2, .null), (0, .ref (ad 0)), (1, .int sv)]) S.1 S.2.1 dX10_greet_8 rfl hl (by decide) rfl (fun ls hl => ?_)
    refine lv_aload_nN S.1 S.2.1 dX10_greet_9 rfl (lv_at hl 0 rfl) ?_
    refine lv_ifnonnullN S.1 S.2.1 dX10_greet_10 ?_
    refine lv_iconst (v := (-1)) S.1 S.2.1 dX10_greet_13 (by decide) ?_
    refine lv_goto (tgt := 25) S.1 S.2.1 dX10_greet_14 (by decide) ?_
    have hw := Eq.mp (congrArg (fun z_ : Int32 => bW G A s.heap [[(ad 0, .inr (9, [.ref (ad 1), .ref (ad 2), .ref (ad 3), .ref (ad 4), .ref (ad 5), .ref (ad 6), .ref (ad 7), .int fl]))], [(ad 2, .inr (0, [.ref (ad 8), .ref (ad 9), .ref (ad 10), .ref (ad 11), .ref (ad 12), .int (nI n), .int lw]))], [(ad 8, .inl (gL G, 6, .inr (.inr (.inr (.inr sg)))))], fam n sa (slE kd sk br), [(ad 6, .inr (2, [.int z_]))]] H locs) (show (tr : Int32) = f_greetT n kd tr sv from (by rw [f_greetT]; first | rw [if_pos hz_s] | rw [if_neg hz_s]))) hw
    have hw : bW G A s.heap [[(ad 0, .inr (9, [.ref (ad 1), .ref (ad 2), .ref (ad 3), .ref (ad 4), .ref (ad 5), .ref (ad 6), .ref (ad 7), .int fl]))], [(ad 2, .inr (0, [.ref (ad 8), .ref (ad 9), .ref (ad 10), .ref (ad 11), .ref (ad 12), .int (nI n), .int lw]))], [(ad 8, .inl (gL G, 6, .inr (.inr (.inr (.inr sg)))))], fam n sa (slE kd sk br), [(ad 6, .inr (2, [.int (f_greetT n kd tr sv)]))]] H locs := hw
    refine aw_eqi (show ((-1) : Int32) = f_greet n kd sv from (by rw [f_greet]; first | rw [if_pos hz_s] | rw [if_neg hz_s])) ?_
    exact aw_iret S hr hlk ha hQ hAe hw dX10_greet_25 rfl (Nat.le_of_ble_eq_true rfl) (Nat.le_of_ble_eq_true rfl) ⟨rfl, rfl⟩
set_option maxRecDepth 100000 in
set_option maxHeartbeats 4000000 in
theorem c_X10_isOfKind_X8 (l : Launch) (G : aw_G) (a : Nat) (nu ski bri : Int32) (ki : Int32)  : CT l G yX10_isOfKind wsX10_isOfKind ({ frames := 0, cells := 0, slots := 0, locals := 0 }) [.ref a, .int ki] [[(a, .inr (8, [.int nu, .int ski, .int bri]))]] (dt (some (.int (if ¬ ki = 1 ∧ ¬ ki = 2 then 1 else 0))) [[(a, .inr (8, [.int nu, .int ski, .int bri]))]]) := by
  refine CT.of (cc := cX10_isOfKind) (nL := 2) (ret := (some .boolean)) (by decide) rfl (Nat.le_of_ble_eq_true rfl) ?_
  intro p e s m below meth c R args Q A hRm ha hQ hAe hA S hE hr hlk hnm H locs hH0 hL0 ls hl hw
  have S : CallFix p m c cX10_isOfKind 2 s args wsX10_isOfKind RX10 := S
  have hl : lv_has ls 2 [(0, .ref a), (1, .int ki)] := hl
  have hz_cl268 := S.2.2.2.2 (.classLink RX10 268 "AwakeTurns$Frail") (by decide +kernel)
  have hz_cl270 := S.2.2.2.2 (.classLink RX10 270 "AwakeTurns$Old") (by decide +kernel)
  refine lv_iload_n S.1 S.2.1 dX10_isOfKind_0 rfl (lv_at hl 1 rfl) ?_
  by_cases c1_0 : ki = 1
  · refine lv_lookup (off := 27) (tgt := 28) S.1 S.2.1 dX10_isOfKind_1 (by decide) (by rw [c1_0]; rfl) (by decide) ?_
    refine lv_aload_n S.1 S.2.1 dX10_isOfKind_28 rfl (lv_at hl 0 rfl) ?_
    refine va_instNo S.1 S.2.1 S.2.2.2.1 hz_cl268 hE.2.2.2.2.1.1 (aw_recv (i := 0) hE hw rfl rfl rfl) dX10_isOfKind_29 ?_
    refine aw_eqi (show (0 : Int32) = if ¬ ki = 1 ∧ ¬ ki = 2 then 1 else 0 from (by simp [c1_0])) ?_
    exact aw_iret S hr hlk ha hQ hAe hw dX10_isOfKind_32 (aw_nb _) (Nat.le_of_ble_eq_true rfl) (Nat.le_of_ble_eq_true rfl) ⟨rfl, rfl⟩
  · by_cases c1_1 : ki = 2
    · refine lv_lookup (off := 32) (tgt := 33) S.1 S.2.1 dX10_isOfKind_1 (by decide) (by rw [c1_1]; rfl) (by decide) ?_
      refine lv_aload_n S.1 S.2.1 dX10_isOfKind_33 rfl (lv_at hl 0 rfl) ?_
      refine va_instNo S.1 S.2.1 S.2.2.2.1 hz_cl270 hE.2.2.2.2.1.2.1 (aw_recv (i := 0) hE hw rfl rfl rfl) dX10_isOfKind_34 ?_
      refine aw_eqi (show (0 : Int32) = if ¬ ki = 1 ∧ ¬ ki = 2 then 1 else 0 from (by simp [c1_0, c1_1])) ?_
      exact aw_iret S hr hlk ha hQ hAe hw dX10_isOfKind_37 (aw_nb _) (Nat.le_of_ble_eq_true rfl) (Nat.le_of_ble_eq_true rfl) ⟨rfl, rfl⟩
    · refine lv_lookup (off := 37) (tgt := 38) S.1 S.2.1 dX10_isOfKind_1 (by decide) ((lv_osw (k := 1) c1_0 rfl).trans ((lv_osw (k := 2) c1_1 rfl).trans rfl)) (by decide) ?_
      refine lv_iconst (v := 1) S.1 S.2.1 dX10_isOfKind_38 (by decide) ?_
      refine aw_eqi (show (1 : Int32) = if ¬ ki = 1 ∧ ¬ ki = 2 then 1 else 0 from (by simp [c1_0, c1_1])) ?_
      exact aw_iret S hr hlk ha hQ hAe hw dX10_isOfKind_39 (aw_nb _) (Nat.le_of_ble_eq_true rfl) (Nat.le_of_ble_eq_true rfl) ⟨rfl, rfl⟩
set_option maxRecDepth 100000 in
set_option maxHeartbeats 4000000 in
theorem c_X10_isOfKind_X1 (l : Launch) (G : aw_G) (a : Nat) (nu ski bri : Int32) (ki : Int32)  : CT l G yX10_isOfKind wsX10_isOfKind ({ frames := 0, cells := 0, slots := 0, locals := 0 }) [.ref a, .int ki] [[(a, .inr (1, [.int nu, .int ski, .int bri]))]] (dt (some (.int (if ¬ ki = 2 then 1 else 0))) [[(a, .inr (1, [.int nu, .int ski, .int bri]))]]) := by
  refine CT.of (cc := cX10_isOfKind) (nL := 2) (ret := (some .boolean)) (by decide) rfl (Nat.le_of_ble_eq_true rfl) ?_
  intro p e s m below meth c R args Q A hRm ha hQ hAe hA S hE hr hlk hnm H locs hH0 hL0 ls hl hw
  have S : CallFix p m c cX10_isOfKind 2 s args wsX10_isOfKind RX10 := S
  have hl : lv_has ls 2 [(0, .ref a), (1, .int ki)] := hl
  have hz_cl268 := S.2.2.2.2 (.classLink RX10 268 "AwakeTurns$Frail") (by decide +kernel)
  have hz_cl270 := S.2.2.2.2 (.classLink RX10 270 "AwakeTurns$Old") (by decide +kernel)
  refine lv_iload_n S.1 S.2.1 dX10_isOfKind_0 rfl (lv_at hl 1 rfl) ?_
  by_cases c1_0 : ki = 1
  · refine lv_lookup (off := 27) (tgt := 28) S.1 S.2.1 dX10_isOfKind_1 (by decide) (by rw [c1_0]; rfl) (by decide) ?_
    refine lv_aload_n S.1 S.2.1 dX10_isOfKind_28 rfl (lv_at hl 0 rfl) ?_
    refine va_instS S.1 S.2.1 S.2.2.2.1 hz_cl268 (hE.1.1 1 _ rfl).2 (aw_recv (i := 0) hE hw rfl rfl rfl) dX10_isOfKind_29 ?_
    refine aw_eqi (show (1 : Int32) = if ¬ ki = 2 then 1 else 0 from (by simp [c1_0])) ?_
    exact aw_iret S hr hlk ha hQ hAe hw dX10_isOfKind_32 (aw_nb _) (Nat.le_of_ble_eq_true rfl) (Nat.le_of_ble_eq_true rfl) ⟨rfl, rfl⟩
  · by_cases c1_1 : ki = 2
    · refine lv_lookup (off := 32) (tgt := 33) S.1 S.2.1 dX10_isOfKind_1 (by decide) (by rw [c1_1]; rfl) (by decide) ?_
      refine lv_aload_n S.1 S.2.1 dX10_isOfKind_33 rfl (lv_at hl 0 rfl) ?_
      refine va_instNo S.1 S.2.1 S.2.2.2.1 hz_cl270 hE.2.2.2.2.1.2.2.1 (aw_recv (i := 0) hE hw rfl rfl rfl) dX10_isOfKind_34 ?_
      refine aw_eqi (show (0 : Int32) = if ¬ ki = 2 then 1 else 0 from (by simp [c1_0, c1_1])) ?_
      exact aw_iret S hr hlk ha hQ hAe hw dX10_isOfKind_37 (aw_nb _) (Nat.le_of_ble_eq_true rfl) (Nat.le_of_ble_eq_true rfl) ⟨rfl, rfl⟩
    · refine lv_lookup (off := 37) (tgt := 38) S.1 S.2.1 dX10_isOfKind_1 (by decide) ((lv_osw (k := 1) c1_0 rfl).trans ((lv_osw (k := 2) c1_1 rfl).trans rfl)) (by decide) ?_
      refine lv_iconst (v := 1) S.1 S.2.1 dX10_isOfKind_38 (by decide) ?_
      refine aw_eqi (show (1 : Int32) = if ¬ ki = 2 then 1 else 0 from (by simp [c1_0, c1_1])) ?_
      exact aw_iret S hr hlk ha hQ hAe hw dX10_isOfKind_39 (aw_nb _) (Nat.le_of_ble_eq_true rfl) (Nat.le_of_ble_eq_true rfl) ⟨rfl, rfl⟩
set_option maxRecDepth 100000 in
set_option maxHeartbeats 4000000 in
theorem c_X10_isOfKind_X5 (l : Launch) (G : aw_G) (a : Nat) (nu ski bri : Int32) (ki : Int32)  : CT l G yX10_isOfKind wsX10_isOfKind ({ frames := 0, cells := 0, slots := 0, locals := 0 }) [.ref a, .int ki] [[(a, .inr (5, [.int nu, .int ski, .int bri]))]] (dt (some (.int 1)) [[(a, .inr (5, [.int nu, .int ski, .int bri]))]]) := by
  refine CT.of (cc := cX10_isOfKind) (nL := 2) (ret := (some .boolean)) (by decide) rfl (Nat.le_of_ble_eq_true rfl) ?_
  intro p e s m below meth c R args Q A hRm ha hQ hAe hA S hE hr hlk hnm H locs hH0 hL0 ls hl hw
  have S : CallFix p m c cX10_isOfKind 2 s args wsX10_isOfKind RX10 := S
  have hl : lv_has ls 2 [(0, .ref a), (1, .int ki)] := hl
  have hz_cl268 := S.2.2.2.2 (.classLink RX10 268 "AwakeTurns$Frail") (by decide +kernel)
  have hz_cl270 := S.2.2.2.2 (.classLink RX10 270 "AwakeTurns$Old") (by decide +kernel)
  refine lv_iload_n S.1 S.2.1 dX10_isOfKind_0 rfl (lv_at hl 1 rfl) ?_
  by_cases c1_0 : ki = 1
  · refine lv_lookup (off := 27) (tgt := 28) S.1 S.2.1 dX10_isOfKind_1 (by decide) (by rw [c1_0]; rfl) (by decide) ?_
    refine lv_aload_n S.1 S.2.1 dX10_isOfKind_28 rfl (lv_at hl 0 rfl) ?_
    refine va_instY S.1 S.2.1 S.2.2.2.1 hz_cl268 hE.2.2.2.2.1.2.2.2.1 (aw_recv (i := 0) hE hw rfl rfl rfl) dX10_isOfKind_29 ?_
    exact aw_iret S hr hlk ha hQ hAe hw dX10_isOfKind_32 (by rfl) (Nat.le_of_ble_eq_true rfl) (Nat.le_of_ble_eq_true rfl) ⟨rfl, rfl⟩
  · by_cases c1_1 : ki = 2
    · refine lv_lookup (off := 32) (tgt := 33) S.1 S.2.1 dX10_isOfKind_1 (by decide) (by rw [c1_1]; rfl) (by decide) ?_
      refine lv_aload_n S.1 S.2.1 dX10_isOfKind_33 rfl (lv_at hl 0 rfl) ?_
      refine va_instS S.1 S.2.1 S.2.2.2.1 hz_cl270 (hE.1.1 5 _ rfl).2 (aw_recv (i := 0) hE hw rfl rfl rfl) dX10_isOfKind_34 ?_
      exact aw_iret S hr hlk ha hQ hAe hw dX10_isOfKind_37 (by rfl) (Nat.le_of_ble_eq_true rfl) (Nat.le_of_ble_eq_true rfl) ⟨rfl, rfl⟩
    · refine lv_lookup (off := 37) (tgt := 38) S.1 S.2.1 dX10_isOfKind_1 (by decide) ((lv_osw (k := 1) c1_0 rfl).trans ((lv_osw (k := 2) c1_1 rfl).trans rfl)) (by decide) ?_
      refine lv_iconst (v := 1) S.1 S.2.1 dX10_isOfKind_38 (by decide) ?_
      exact aw_iret S hr hlk ha hQ hAe hw dX10_isOfKind_39 (by rfl) (Nat.le_of_ble_eq_true rfl) (Nat.le_of_ble_eq_true rfl) ⟨rfl, rfl⟩
set_option maxRecDepth 100000 in
set_option maxHeartbeats 4000000 in
theorem c_X10_as (l : Launch) (G : aw_G) (ad : Nat → Nat) (fl : Int32) (n : Nat) (lw : Int32) (sg : Nat → Option Nat) (sa : Nat → Nat) (kd sk br : Nat → Int32) (sv ki : Int32) (hn : n ≤ 6) (hsg : ∀ i, i < n → sg i = some (sa i)) (hkd : ∀ i, i < n → kd i = 0 ∨ kd i = 1 ∨ kd i = 2) : CT l G yX10_as wsX10_as ({ frames := 2, cells := 0, slots := 0, locals := 42 }) [.ref (ad 0), .int sv, .int ki] [[(ad 0, .inr (9, [.ref (ad 1), .ref (ad 2), .ref (ad 3), .ref (ad 4), .ref (ad 5), .ref (ad 6), .ref (ad 7), .int fl]))], [(ad 2, .inr (0, [.ref (ad 8), .ref (ad 9), .ref (ad 10), .ref (ad 11), .ref (ad 12), .int (nI n), .int lw]))], [(ad 8, .inl (gL G, 6, .inr (.inr (.inr (.inr sg)))))], fam n sa (slE kd sk br)] (dt (some (.int (f_as n kd sv ki))) [[(ad 0, .inr (9, [.ref (ad 1), .ref (ad 2), .ref (ad 3), .ref (ad 4), .ref (ad 5), .ref (ad 6), .ref (ad 7), .int (f_asT n kd sv ki)]))], [(ad 2, .inr (0, [.ref (ad 8), .ref (ad 9), .ref (ad 10), .ref (ad 11), .ref (ad 12), .int (nI n), .int lw]))], [(ad 8, .inl (gL G, 6, .inr (.inr (.inr (.inr sg)))))], fam n sa (slE kd sk br)]) := by
  refine CT.of (cc := cX10_as) (nL := 4) (ret := (some .int)) (by decide) rfl (Nat.le_of_ble_eq_true rfl) ?_
  intro p e s m below meth c R args Q A hRm ha hQ hAe hA S hE hr hlk hnm H locs hH0 hL0 ls hl hw
  have S : CallFix p m c cX10_as 4 s args wsX10_as RX10 := S
  have hl : lv_has ls 4 [(0, .ref (ad 0)), (1, .int sv), (2, .int ki)] := hl
  have hinX10 : ∀ w ∈ u_ws RX10 TX10 8, w ∈ wsX10_as := by decide +kernel
  have hf21 := S.2.2.2.2 (.fieldLink RX10 21 "AwakeTurns" "crew" "LAwakeTurns$Crew;") (by decide +kernel)
  have hf59 := S.2.2.2.2 (.fieldLink RX10 59 "AwakeTurns" "lastFault" "I") (by decide +kernel)
  by_cases hz_s : 0 ≤ sv.toInt ∧ sv.toInt < n
  · have hb_sv : tn sv < n := aw_tnL hz_s
    have hl := Eq.mp (congrArg (fun z_ : Int32 => lv_has ls 4 [(0, .ref (ad 0)), (1, .int z_), (2, .int ki)]) (show (sv : Int32) = nI (tn sv) from (aw_tnE hz_s))) hl
    have hl : lv_has ls 4 [(0, .ref (ad 0)), (1, .int (nI (tn sv))), (2, .int ki)] := hl
    refine lv_aload_n S.1 S.2.1 dX10_as_0 rfl (lv_at hl 0 rfl) ?_
    refine aw_get S hE hw 0 (C := RX10) (T := TX10) (N := 8) rfl rfl hinX10 1 (by decide) hf21 rfl dX10_as_1 ?_
    refine lv_iload_n S.1 S.2.1 dX10_as_4 rfl (lv_at hl 1 rfl) ?_
    refine aw_callV S hE (c_X0_at_in l G ad n lw sg sa (tn sv) (by first | assumption | omega) hb_sv (by first | assumption | omega)) gX10_as_X0_at (n := 1) rfl (by decide +kernel) rfl (by rw [hRm]; exact ⟨Nat.le_of_ble_eq_true rfl, Nat.le_of_ble_eq_true rfl⟩) (by rw [hRm]; exact ⟨Nat.le_of_ble_eq_true rfl, Nat.le_of_ble_eq_true rfl⟩) hw hA hl.1 [1, 2] rfl rfl (aw_recv (i := 1) hE hw rfl rfl rfl) rfl (Nat.le_of_ble_eq_true rfl) dX10_as_5 ?_
    rintro v w1 H locs ⟨rfl, rfl⟩ hw
    have hw : bW G A s.heap [[(ad 0, .inr (9, [.ref (ad 1), .ref (ad 2), .ref (ad 3), .ref (ad 4), .ref (ad 5), .ref (ad 6), .ref (ad 7), .int fl]))], [(ad 2, .inr (0, [.ref (ad 8), .ref (ad 9), .ref (ad 10), .ref (ad 11), .ref (ad 12), .int (nI n), .int lw]))], [(ad 8, .inl (gL G, 6, .inr (.inr (.inr (.inr sg)))))], fam n sa (slE kd sk br)] H locs := hw
    refine W.eq (g2 := (F0 m 8 ls [.ref (sa (tn sv))])) rfl ?_
    refine lv_astore_n (lv' := [(3, .ref (sa (tn sv))), (0, .ref (ad 0)), (1, .int (nI (tn sv))), (2, .int ki)]) S.1 S.2.1 dX10_as_8 rfl hl (by decide) rfl (fun ls hl => ?_)
    refine lv_aload_n S.1 S.2.1 dX10_as_9 rfl (lv_at hl 0 rfl) ?_
    refine lv_ifnonnull (tgt := 19) S.1 S.2.1 dX10_as_10 (by decide) ?_
    refine lv_iload_n S.1 S.2.1 dX10_as_19 rfl (lv_at hl 3 rfl) ?_
    refine lv_if_lt (tgt := 28) S.1 S.2.1 dX10_as_20 (by decide) (fun c20 => ?_) (fun c20 => ?_)
    · rw [fa_lt, li_0] at c20
      refine lv_aload_n S.1 S.2.1 dX10_as_28 rfl (lv_at hl 1 rfl) ?_
      refine lv_bipush (v := (-2)) S.1 S.2.1 dX10_as_29 (by decide) ?_
      refine aw_callV S hE (c_X10_refused l G ad fl (-2)) gX10_as_X10_refused (n := 1) rfl (by decide +kernel) rfl (by rw [hRm]; exact ⟨Nat.le_of_ble_eq_true rfl, Nat.le_of_ble_eq_true rfl⟩) (by rw [hRm]; exact ⟨Nat.le_of_ble_eq_true rfl, Nat.le_of_ble_eq_true rfl⟩) hw hA hl.1 [0] rfl rfl (aw_recv (i := 0) hE hw rfl rfl rfl) rfl (Nat.le_of_ble_eq_true rfl) dX10_as_31 ?_
      rintro v w1 H locs ⟨rfl, rfl⟩ hw
      have hw : bW G A s.heap [[(ad 0, .inr (9, [.ref (ad 1), .ref (ad 2), .ref (ad 3), .ref (ad 4), .ref (ad 5), .ref (ad 6), .ref (ad 7), .int 0]))], [(ad 2, .inr (0, [.ref (ad 8), .ref (ad 9), .ref (ad 10), .ref (ad 11), .ref (ad 12), .int (nI n), .int lw]))], [(ad 8, .inl (gL G, 6, .inr (.inr (.inr (.inr sg)))))], fam n sa (slE kd sk br)] H locs := hw
      refine W.eq (g2 := (F0 m 34 ls [.int (-2)])) rfl ?_
      have hw := Eq.mp (congrArg (fun z_ : Int32 => bW G A s.heap [[(ad 0, .inr (9, [.ref (ad 1), .ref (ad 2), .ref (ad 3), .ref (ad 4), .ref (ad 5), .ref (ad 6), .ref (ad 7), .int z_]))], [(ad 2, .inr (0, [.ref (ad 8), .ref (ad 9), .ref (ad 10), .ref (ad 11), .ref (ad 12), .int (nI n), .int lw]))], [(ad 8, .inl (gL G, 6, .inr (.inr (.inr (.inr sg)))))], fam n sa (slE kd sk br)] H locs) (show (0 : Int32) = f_asT n kd sv ki from (by rw [f_asT]; first | rw [if_neg (fun q => hz_s q.1)] | rw [if_neg (by omega)] | rw [if_pos ⟨hz_s, hki, c40⟩] | rw [if_neg (fun q => q.2.2 c40)]))) hw
      have hw : bW G A s.heap [[(ad 0, .inr (9, [.ref (ad 1), .ref (ad 2), .ref (ad 3), .ref (ad 4), .ref (ad 5), .ref (ad 6), .ref (ad 7), .int (f_asT n kd sv ki)]))], [(ad 2, .inr (0, [.ref (ad 8), .ref (ad 9), .ref (ad 10), .ref (ad 11), .ref (ad 12), .int (nI n), .int lw]))], [(ad 8, .inl (gL G, 6, .inr (.inr (.inr (.inr sg)))))], fam n sa (slE kd sk br)] H locs := hw
      refine aw_eqi (show ((-2) : Int32) = f_as n kd sv ki from (by rw [f_as]; first | rw [if_neg hz_s] | (rw [if_pos hz_s]; first | rw [if_neg (by omega)] | (rw [if_pos hki]; first | (rw [if_pos c40]) | (rw [if_neg c40]; rfl))))) ?_
      exact aw_iret S hr hlk ha hQ hAe hw dX10_as_34 rfl (Nat.le_of_ble_eq_true rfl) (Nat.le_of_ble_eq_true rfl) ⟨rfl, rfl⟩
    · rw [fa_lt, li_0] at c20
      refine lv_iload_n S.1 S.2.1 dX10_as_23 rfl (lv_at hl 3 rfl) ?_
      refine lv_iconst (v := 3) S.1 S.2.1 dX10_as_24 (by decide) ?_
      refine lv_icmp_lt (tgt := 35) S.1 S.2.1 dX10_as_25 (by decide) (fun c25 => ?_) (fun c25 => ?_)
      · rw [fa_lt, li_3] at c25
        have hki : 0 ≤ ki.toInt ∧ ki.toInt < 3 := by omega
        refine lv_aload_n S.1 S.2.1 dX10_as_35 rfl (lv_at hl 0 rfl) ?_
        refine lv_iload_n S.1 S.2.1 dX10_as_36 rfl (lv_at hl 3 rfl) ?_
        have join40 : ∀ (H : Heap) (locs : List Loc), bW G A s.heap [[(ad 0, .inr (9, [.ref (ad 1), .ref (ad 2), .ref (ad 3), .ref (ad 4), .ref (ad 5), .ref (ad 6), .ref (ad 7), .int fl]))], [(ad 2, .inr (0, [.ref (ad 8), .ref (ad 9), .ref (ad 10), .ref (ad 11), .ref (ad 12), .int (nI n), .int lw]))], [(ad 8, .inl (gL G, 6, .inr (.inr (.inr (.inr sg)))))], fam n sa (slE kd sk br)] H locs → W p l e R s m args below meth c H locs 0 0 Q (F0 m 40 ls [.int (if ki.toInt ≤ (kd (tn sv)).toInt then 1 else 0)]) := by
          intro H locs hw
          refine aw_ifne (P := ki.toInt ≤ (kd (tn sv)).toInt) (tgt := 49) S dX10_as_40 (by decide) (fun c40 => ?_) (fun c40 => ?_)
          · refine lv_aload_n S.1 S.2.1 dX10_as_49 rfl (lv_at hl 1 rfl) ?_
            refine lv_iconst (v := 0) S.1 S.2.1 dX10_as_50 (by decide) ?_
            refine aw_putf S hE hw 0 (C := RX10) (T := TX10) (N := 8) rfl rfl hinX10 tyX10 tyX10_ok nmX10 7 (by decide) hf59 rfl rfl rfl (Nat.le_of_ble_eq_true rfl) dX10_as_51 (fun H locs hw => ?_)
            have hw : bW G A s.heap [[(ad 0, .inr (9, [.ref (ad 1), .ref (ad 2), .ref (ad 3), .ref (ad 4), .ref (ad 5), .ref (ad 6), .ref (ad 7), .int 0]))], [(ad 2, .inr (0, [.ref (ad 8), .ref (ad 9), .ref (ad 10), .ref (ad 11), .ref (ad 12), .int (nI n), .int lw]))], [(ad 8, .inl (gL G, 6, .inr (.inr (.inr (.inr sg)))))], fam n sa (slE kd sk br)] H locs := hw
            refine lv_iconst (v := 1) S.1 S.2.1 dX10_as_54 (by decide) ?_
            have hw := Eq.mp (congrArg (fun z_ : Int32 => bW G A s.heap [[(ad 0, .inr (9, [.ref (ad 1), .ref (ad 2), .ref (ad 3), .ref (ad 4), .ref (ad 5), .ref (ad 6), .ref (ad 7), .int z_]))], [(ad 2, .inr (0, [.ref (ad 8), .ref (ad 9), .ref (ad 10), .ref (ad 11), .ref (ad 12), .int (nI n), .int lw]))], [(ad 8, .inl (gL G, 6, .inr (.inr (.inr (.inr sg)))))], fam n sa (slE kd sk br)] H locs) (show (0 : Int32) = f_asT n kd sv ki from (by rw [f_asT]; first | rw [if_neg (fun q => hz_s q.1)] | rw [if_neg (by omega)] | rw [if_pos ⟨hz_s, hki, c40⟩] | rw [if_neg (fun q => q.2.2 c40)]))) hw
            have hw : bW G A s.heap [[(ad 0, .inr (9, [.ref (ad 1), .ref (ad 2), .ref (ad 3), .ref (ad 4), .ref (ad 5), .ref (ad 6), .ref (ad 7), .int (f_asT n kd sv ki)]))], [(ad 2, .inr (0, [.ref (ad 8), .ref (ad 9), .ref (ad 10), .ref (ad 11), .ref (ad 12), .int (nI n), .int lw]))], [(ad 8, .inl (gL G, 6, .inr (.inr (.inr (.inr sg)))))], fam n sa (slE kd sk br)] H locs := hw
            refine aw_eqi (show (1 : Int32) = f_as n kd sv ki from (by rw [f_as]; first | rw [if_neg hz_s] | (rw [if_pos hz_s]; first | rw [if_neg (by omega)] | (rw [if_pos hki]; first | (rw [if_pos c40]) | (rw [if_neg c40]; rfl))))) ?_
            exact aw_iret S hr hlk ha hQ hAe hw dX10_as_55 rfl (Nat.le_of_ble_eq_true rfl) (Nat.le_of_ble_eq_true rfl) ⟨rfl, rfl⟩
          · refine lv_aload_n S.1 S.2.1 dX10_as_43 rfl (lv_at hl 1 rfl) ?_
            refine lv_iconst (v := 2) S.1 S.2.1 dX10_as_44 (by decide) ?_
            refine aw_callV S hE (c_X10_failed l G ad fl 2) gX10_as_X10_failed (n := 1) rfl (by decide +kernel) rfl (by rw [hRm]; exact ⟨Nat.le_of_ble_eq_true rfl, Nat.le_of_ble_eq_true rfl⟩) (by rw [hRm]; exact ⟨Nat.le_of_ble_eq_true rfl, Nat.le_of_ble_eq_true rfl⟩) hw hA hl.1 [0] rfl rfl (aw_recv (i := 0) hE hw rfl rfl rfl) rfl (Nat.le_of_ble_eq_true rfl) dX10_as_45 ?_
            rintro v w1 H locs ⟨rfl, rfl⟩ hw
            have hw : bW G A s.heap [[(ad 0, .inr (9, [.ref (ad 1), .ref (ad 2), .ref (ad 3), .ref (ad 4), .ref (ad 5), .ref (ad 6), .ref (ad 7), .int 2]))], [(ad 2, .inr (0, [.ref (ad 8), .ref (ad 9), .ref (ad 10), .ref (ad 11), .ref (ad 12), .int (nI n), .int lw]))], [(ad 8, .inl (gL G, 6, .inr (.inr (.inr (.inr sg)))))], fam n sa (slE kd sk br)] H locs := hw
            refine W.eq (g2 := (F0 m 48 ls [.int (-10 - 2)])) rfl ?_
            have hw := Eq.mp (congrArg (fun z_ : Int32 => bW G A s.heap [[(ad 0, .inr (9, [.ref (ad 1), .ref (ad 2), .ref (ad 3), .ref (ad 4), .ref (ad 5), .ref (ad 6), .ref (ad 7), .int z_]))], [(ad 2, .inr (0, [.ref (ad 8), .ref (ad 9), .ref (ad 10), .ref (ad 11), .ref (ad 12), .int (nI n), .int lw]))], [(ad 8, .inl (gL G, 6, .inr (.inr (.inr (.inr sg)))))], fam n sa (slE kd sk br)] H locs) (show (2 : Int32) = f_asT n kd sv ki from (by rw [f_asT]; first | rw [if_neg (fun q => hz_s q.1)] | rw [if_neg (by omega)] | rw [if_pos ⟨hz_s, hki, c40⟩] | rw [if_neg (fun q => q.2.2 c40)]))) hw
            have hw : bW G A s.heap [[(ad 0, .inr (9, [.ref (ad 1), .ref (ad 2), .ref (ad 3), .ref (ad 4), .ref (ad 5), .ref (ad 6), .ref (ad 7), .int (f_asT n kd sv ki)]))], [(ad 2, .inr (0, [.ref (ad 8), .ref (ad 9), .ref (ad 10), .ref (ad 11), .ref (ad 12), .int (nI n), .int lw]))], [(ad 8, .inl (gL G, 6, .inr (.inr (.inr (.inr sg)))))], fam n sa (slE kd sk br)] H locs := hw
            refine aw_eqi (show (-10 - 2 : Int32) = f_as n kd sv ki from (by rw [f_as]; first | rw [if_neg hz_s] | (rw [if_pos hz_s]; first | rw [if_neg (by omega)] | (rw [if_pos hki]; first | (rw [if_pos c40]) | (rw [if_neg c40]; rfl))))) ?_
            exact aw_iret S hr hlk ha hQ hAe hw dX10_as_48 rfl (Nat.le_of_ble_eq_true rfl) (Nat.le_of_ble_eq_true rfl) ⟨rfl, rfl⟩
        have hw := aw_out hw 3 rfl (tn sv) (by omega)
        have hw : bW G A s.heap [[(ad 0, .inr (9, [.ref (ad 1), .ref (ad 2), .ref (ad 3), .ref (ad 4), .ref (ad 5), .ref (ad 6), .ref (ad 7), .int fl]))], [(ad 2, .inr (0, [.ref (ad 8), .ref (ad 9), .ref (ad 10), .ref (ad 11), .ref (ad 12), .int (nI n), .int lw]))], [(ad 8, .inl (gL G, 6, .inr (.inr (.inr (.inr sg)))))], famX n sa (slE kd sk br) (tn sv), [(sa (tn sv), slE kd sk br (tn sv))]] H locs := hw
        rcases slE_cases kd sk br (tn sv) with ⟨hz, ez⟩ | ⟨hz, ez⟩ | ⟨hz, ez⟩
        · rw [ez] at hw
          have hw : bW G A s.heap [[(ad 0, .inr (9, [.ref (ad 1), .ref (ad 2), .ref (ad 3), .ref (ad 4), .ref (ad 5), .ref (ad 6), .ref (ad 7), .int fl]))], [(ad 2, .inr (0, [.ref (ad 8), .ref (ad 9), .ref (ad 10), .ref (ad 11), .ref (ad 12), .int (nI n), .int lw]))], [(ad 8, .inl (gL G, 6, .inr (.inr (.inr (.inr sg)))))], famX n sa (slE kd sk br) (tn sv), [(sa (tn sv), .inr (8, [.int (nI (tn sv)), .int (sk (tn sv)), .int (br (tn sv))]))]] H locs := hw
          refine aw_callS S hE (c_X10_isOfKind_X8 l G (sa (tn sv)) (nI (tn sv)) (sk (tn sv)) (br (tn sv)) ki) gX10_as_X10_isOfKind (n := 2) rfl (by decide +kernel) rfl (by rw [hRm]; exact ⟨Nat.le_of_ble_eq_true rfl, Nat.le_of_ble_eq_true rfl⟩) (by rw [hRm]; exact ⟨Nat.le_of_ble_eq_true rfl, Nat.le_of_ble_eq_true rfl⟩) hw hA hl.1 [4] rfl rfl rfl (Nat.le_of_ble_eq_true rfl) dX10_as_37 ?_
          rintro v w1 H locs ⟨rfl, rfl⟩ hw
          have hw : bW G A s.heap [[(ad 0, .inr (9, [.ref (ad 1), .ref (ad 2), .ref (ad 3), .ref (ad 4), .ref (ad 5), .ref (ad 6), .ref (ad 7), .int fl]))], [(ad 2, .inr (0, [.ref (ad 8), .ref (ad 9), .ref (ad 10), .ref (ad 11), .ref (ad 12), .int (nI n), .int lw]))], [(ad 8, .inl (gL G, 6, .inr (.inr (.inr (.inr sg)))))], famX n sa (slE kd sk br) (tn sv), [(sa (tn sv), .inr (8, [.int (nI (tn sv)), .int (sk (tn sv)), .int (br (tn sv))]))]] H locs := hw
          refine W.eq (g2 := (F0 m 40 ls [.int (if ¬ ki = 1 ∧ ¬ ki = 2 then 1 else 0)])) rfl ?_
          refine aw_eqi (show (if ¬ ki = 1 ∧ ¬ ki = 2 then 1 else 0 : Int32) = if ki.toInt ≤ (kd (tn sv)).toInt then 1 else 0 from (by rw [hz]; simp only [kof8 hki])) ?_
          rw [show (.inr (8, [.int (nI (tn sv)), .int (sk (tn sv)), .int (br (tn sv))]) : va_E) = slE kd sk br (tn sv) from ez.symm] at hw
          have hw := aw_inS [[(ad 0, .inr (9, [.ref (ad 1), .ref (ad 2), .ref (ad 3), .ref (ad 4), .ref (ad 5), .ref (ad 6), .ref (ad 7), .int fl]))], [(ad 2, .inr (0, [.ref (ad 8), .ref (ad 9), .ref (ad 10), .ref (ad 11), .ref (ad 12), .int (nI n), .int lw]))], [(ad 8, .inl (gL G, 6, .inr (.inr (.inr (.inr sg)))))], famX n sa (slE kd sk br) (tn sv)] hw 3 rfl (by omega)
          have hw : bW G A s.heap [[(ad 0, .inr (9, [.ref (ad 1), .ref (ad 2), .ref (ad 3), .ref (ad 4), .ref (ad 5), .ref (ad 6), .ref (ad 7), .int fl]))], [(ad 2, .inr (0, [.ref (ad 8), .ref (ad 9), .ref (ad 10), .ref (ad 11), .ref (ad 12), .int (nI n), .int lw]))], [(ad 8, .inl (gL G, 6, .inr (.inr (.inr (.inr sg)))))], fam n sa (slE kd sk br)] H locs := hw
          exact join40 _ _ hw
        · rw [ez] at hw
          have hw : bW G A s.heap [[(ad 0, .inr (9, [.ref (ad 1), .ref (ad 2), .ref (ad 3), .ref (ad 4), .ref (ad 5), .ref (ad 6), .ref (ad 7), .int fl]))], [(ad 2, .inr (0, [.ref (ad 8), .ref (ad 9), .ref (ad 10), .ref (ad 11), .ref (ad 12), .int (nI n), .int lw]))], [(ad 8, .inl (gL G, 6, .inr (.inr (.inr (.inr sg)))))], famX n sa (slE kd sk br) (tn sv), [(sa (tn sv), .inr (1, [.int (nI (tn sv)), .int (sk (tn sv)), .int (br (tn sv))]))]] H locs := hw
          refine aw_callS S hE (c_X10_isOfKind_X1 l G (sa (tn sv)) (nI (tn sv)) (sk (tn sv)) (br (tn sv)) ki) gX10_as_X10_isOfKind (n := 2) rfl (by decide +kernel) rfl (by rw [hRm]; exact ⟨Nat.le_of_ble_eq_true rfl, Nat.le_of_ble_eq_true rfl⟩) (by rw [hRm]; exact ⟨Nat.le_of_ble_eq_true rfl, Nat.le_of_ble_eq_true rfl⟩) hw hA hl.1 [4] rfl rfl rfl (Nat.le_of_ble_eq_true rfl) dX10_as_37 ?_
          rintro v w1 H locs ⟨rfl, rfl⟩ hw
          have hw : bW G A s.heap [[(ad 0, .inr (9, [.ref (ad 1), .ref (ad 2), .ref (ad 3), .ref (ad 4), .ref (ad 5), .ref (ad 6), .ref (ad 7), .int fl]))], [(ad 2, .inr (0, [.ref (ad 8), .ref (ad 9), .ref (ad 10), .ref (ad 11), .ref (ad 12), .int (nI n), .int lw]))], [(ad 8, .inl (gL G, 6, .inr (.inr (.inr (.inr sg)))))], famX n sa (slE kd sk br) (tn sv), [(sa (tn sv), .inr (1, [.int (nI (tn sv)), .int (sk (tn sv)), .int (br (tn sv))]))]] H locs := hw
          refine W.eq (g2 := (F0 m 40 ls [.int (if ¬ ki = 2 then 1 else 0)])) rfl ?_
          refine aw_eqi (show (if ¬ ki = 2 then 1 else 0 : Int32) = if ki.toInt ≤ (kd (tn sv)).toInt then 1 else 0 from (by rw [hz]; simp only [kof1 hki])) ?_
          rw [show (.inr (1, [.int (nI (tn sv)), .int (sk (tn sv)), .int (br (tn sv))]) : va_E) = slE kd sk br (tn sv) from ez.symm] at hw
          have hw := aw_inS [[(ad 0, .inr (9, [.ref (ad 1), .ref (ad 2), .ref (ad 3), .ref (ad 4), .ref (ad 5), .ref (ad 6), .ref (ad 7), .int fl]))], [(ad 2, .inr (0, [.ref (ad 8), .ref (ad 9), .ref (ad 10), .ref (ad 11), .ref (ad 12), .int (nI n), .int lw]))], [(ad 8, .inl (gL G, 6, .inr (.inr (.inr (.inr sg)))))], famX n sa (slE kd sk br) (tn sv)] hw 3 rfl (by omega)
          have hw : bW G A s.heap [[(ad 0, .inr (9, [.ref (ad 1), .ref (ad 2), .ref (ad 3), .ref (ad 4), .ref (ad 5), .ref (ad 6), .ref (ad 7), .int fl]))], [(ad 2, .inr (0, [.ref (ad 8), .ref (ad 9), .ref (ad 10), .ref (ad 11), .ref (ad 12), .int (nI n), .int lw]))], [(ad 8, .inl (gL G, 6, .inr (.inr (.inr (.inr sg)))))], fam n sa (slE kd sk br)] H locs := hw
          exact join40 _ _ hw
        · rw [ez] at hw
          have hw : bW G A s.heap [[(ad 0, .inr (9, [.ref (ad 1), .ref (ad 2), .ref (ad 3), .ref (ad 4), .ref (ad 5), .ref (ad 6), .ref (ad 7), .int fl]))], [(ad 2, .inr (0, [.ref (ad 8), .ref (ad 9), .ref (ad 10), .ref (ad 11), .ref (ad 12), .int (nI n), .int lw]))], [(ad 8, .inl (gL G, 6, .inr (.inr (.inr (.inr sg)))))], famX n sa (slE kd sk br) (tn sv), [(sa (tn sv), .inr (5, [.int (nI (tn sv)), .int (sk (tn sv)), .int (br (tn sv))]))]] H locs := hw
          refine aw_callS S hE (c_X10_isOfKind_X5 l G (sa (tn sv)) (nI (tn sv)) (sk (tn sv)) (br (tn sv)) ki) gX10_as_X10_isOfKind (n := 2) rfl (by decide +kernel) rfl (by rw [hRm]; exact ⟨Nat.le_of_ble_eq_true rfl, Nat.le_of_ble_eq_true rfl⟩) (by rw [hRm]; exact ⟨Nat.le_of_ble_eq_true rfl, Nat.le_of_ble_eq_true rfl⟩) hw hA hl.1 [4] rfl rfl rfl (Nat.le_of_ble_eq_true rfl) dX10_as_37 ?_
          rintro v w1 H locs ⟨rfl, rfl⟩ hw
          have hw : bW G A s.heap [[(ad 0, .inr (9, [.ref (ad 1), .ref (ad 2), .ref (ad 3), .ref (ad 4), .ref (ad 5), .ref (ad 6), .ref (ad 7), .int fl]))], [(ad 2, .inr (0, [.ref (ad 8), .ref (ad 9), .ref (ad 10), .ref (ad 11), .ref (ad 12), .int (nI n), .int lw]))], [(ad 8, .inl (gL G, 6, .inr (.inr (.inr (.inr sg)))))], famX n sa (slE kd sk br) (tn sv), [(sa (tn sv), .inr (5, [.int (nI (tn sv)), .int (sk (tn sv)), .int (br (tn sv))]))]] H locs := hw
          refine W.eq (g2 := (F0 m 40 ls [.int 1])) rfl ?_
          refine aw_eqi (show (1 : Int32) = if ki.toInt ≤ (kd (tn sv)).toInt then 1 else 0 from (by rw [if_pos]; rcases hkd _ hb_sv with q | q | q; exact absurd q hz.1; exact absurd q hz.2; rw [q, li_2]; omega)) ?_
          rw [show (.inr (5, [.int (nI (tn sv)), .int (sk (tn sv)), .int (br (tn sv))]) : va_E) = slE kd sk br (tn sv) from ez.symm] at hw
          have hw := aw_inS [[(ad 0, .inr (9, [.ref (ad 1), .ref (ad 2), .ref (ad 3), .ref (ad 4), .ref (ad 5), .ref (ad 6), .ref (ad 7), .int fl]))], [(ad 2, .inr (0, [.ref (ad 8), .ref (ad 9), .ref (ad 10), .ref (ad 11), .ref (ad 12), .int (nI n), .int lw]))], [(ad 8, .inl (gL G, 6, .inr (.inr (.inr (.inr sg)))))], famX n sa (slE kd sk br) (tn sv)] hw 3 rfl (by omega)
          have hw : bW G A s.heap [[(ad 0, .inr (9, [.ref (ad 1), .ref (ad 2), .ref (ad 3), .ref (ad 4), .ref (ad 5), .ref (ad 6), .ref (ad 7), .int fl]))], [(ad 2, .inr (0, [.ref (ad 8), .ref (ad 9), .ref (ad 10), .ref (ad 11), .ref (ad 12), .int (nI n), .int lw]))], [(ad 8, .inl (gL G, 6, .inr (.inr (.inr (.inr sg)))))], fam n sa (slE kd sk br)] H locs := hw
          exact join40 _ _ hw
      · rw [fa_lt, li_3] at c25
        refine lv_aload_n S.1 S.2.1 dX10_as_28 rfl (lv_at hl 1 rfl) ?_
        refine lv_bipush (v := (-2)) S.1 S.2.1 dX10_as_29 (by decide) ?_
        refine aw_callV S hE (c_X10_refused l G ad fl (-2)) gX10_as_X10_refused (n := 1) rfl (by decide +kernel) rfl (by rw [hRm]; exact ⟨Nat.le_of_ble_eq_true rfl, Nat.le_of_ble_eq_true rfl⟩) (by rw [hRm]; exact ⟨Nat.le_of_ble_eq_true rfl, Nat.le_of_ble_eq_true rfl⟩) hw hA hl.1 [0] rfl rfl (aw_recv (i := 0) hE hw rfl rfl rfl) rfl (Nat.le_of_ble_eq_true rfl) dX10_as_31 ?_
        rintro v w1 H locs ⟨rfl, rfl⟩ hw
        have hw : bW G A s.heap [[(ad 0, .inr (9, [.ref (ad 1), .ref (ad 2), .ref (ad 3), .ref (ad 4), .ref (ad 5), .ref (ad 6), .ref (ad 7), .int 0]))], [(ad 2, .inr (0, [.ref (ad 8), .ref (ad 9), .ref (ad 10), .ref (ad 11), .ref (ad 12), .int (nI n), .int lw]))], [(ad 8, .inl (gL G, 6, .inr (.inr (.inr (.inr sg)))))], fam n sa (slE kd sk br)] H locs := hw
        refine W.eq (g2 := (F0 m 34 ls [.int (-2)])) rfl ?_
        have hw := Eq.mp (congrArg (fun z_ : Int32 => bW G A s.heap [[(ad 0, .inr (9, [.ref (ad 1), .ref (ad 2), .ref (ad 3), .ref (ad 4), .ref (ad 5), .ref (ad 6), .ref (ad 7), .int z_]))], [(ad 2, .inr (0, [.ref (ad 8), .ref (ad 9), .ref (ad 10), .ref (ad 11), .ref (ad 12), .int (nI n), .int lw]))], [(ad 8, .inl (gL G, 6, .inr (.inr (.inr (.inr sg)))))], fam n sa (slE kd sk br)] H locs) (show (0 : Int32) = f_asT n kd sv ki from (by rw [f_asT]; first | rw [if_neg (fun q => hz_s q.1)] | rw [if_neg (by omega)] | rw [if_pos ⟨hz_s, hki, c40⟩] | rw [if_neg (fun q => q.2.2 c40)]))) hw
        have hw : bW G A s.heap [[(ad 0, .inr (9, [.ref (ad 1), .ref (ad 2), .ref (ad 3), .ref (ad 4), .ref (ad 5), .ref (ad 6), .ref (ad 7), .int (f_asT n kd sv ki)]))], [(ad 2, .inr (0, [.ref (ad 8), .ref (ad 9), .ref (ad 10), .ref (ad 11), .ref (ad 12), .int (nI n), .int lw]))], [(ad 8, .inl (gL G, 6, .inr (.inr (.inr (.inr sg)))))], fam n sa (slE kd sk br)] H locs := hw
        refine aw_eqi (show ((-2) : Int32) = f_as n kd sv ki from (by rw [f_as]; first | rw [if_neg hz_s] | (rw [if_pos hz_s]; first | rw [if_neg (by omega)] | (rw [if_pos hki]; first | (rw [if_pos c40]) | (rw [if_neg c40]; rfl))))) ?_
        exact aw_iret S hr hlk ha hQ hAe hw dX10_as_34 rfl (Nat.le_of_ble_eq_true rfl) (Nat.le_of_ble_eq_true rfl) ⟨rfl, rfl⟩
  · refine lv_aload_n S.1 S.2.1 dX10_as_0 rfl (lv_at hl 0 rfl) ?_
    refine aw_get S hE hw 0 (C := RX10) (T := TX10) (N := 8) rfl rfl hinX10 1 (by decide) hf21 rfl dX10_as_1 ?_
    refine lv_iload_n S.1 S.2.1 dX10_as_4 rfl (lv_at hl 1 rfl) ?_
    refine aw_callV S hE (c_X0_at_out l G ad n lw sv (by first | assumption | omega) hz_s) gX10_as_X0_at (n := 1) rfl (by decide +kernel) rfl (by rw [hRm]; exact ⟨Nat.le_of_ble_eq_true rfl, Nat.le_of_ble_eq_true rfl⟩) (by rw [hRm]; exact ⟨Nat.le_of_ble_eq_true rfl, Nat.le_of_ble_eq_true rfl⟩) hw hA hl.1 [1] rfl rfl (aw_recv (i := 1) hE hw rfl rfl rfl) rfl (Nat.le_of_ble_eq_true rfl) dX10_as_5 ?_
    rintro v w1 H locs ⟨rfl, rfl⟩ hw
    have hw : bW G A s.heap [[(ad 0, .inr (9, [.ref (ad 1), .ref (ad 2), .ref (ad 3), .ref (ad 4), .ref (ad 5), .ref (ad 6), .ref (ad 7), .int fl]))], [(ad 2, .inr (0, [.ref (ad 8), .ref (ad 9), .ref (ad 10), .ref (ad 11), .ref (ad 12), .int (nI n), .int lw]))], [(ad 8, .inl (gL G, 6, .inr (.inr (.inr (.inr sg)))))], fam n sa (slE kd sk br)] H locs := hw
    refine W.eq (g2 := (F0 m 8 ls [.null])) rfl ?_
    refine lv_astore_nN (lv' := [(3, .null), (0, .ref (ad 0)), (1, .int sv), (2, .int ki)]) S.1 S.2.1 dX10_as_8 rfl hl (by decide) rfl (fun ls hl => ?_)
    refine lv_aload_nN S.1 S.2.1 dX10_as_9 rfl (lv_at hl 0 rfl) ?_
    refine lv_ifnonnullN S.1 S.2.1 dX10_as_10 ?_
    refine lv_aload_n S.1 S.2.1 dX10_as_13 rfl (lv_at hl 1 rfl) ?_
    refine lv_iconst (v := (-1)) S.1 S.2.1 dX10_as_14 (by decide) ?_
    refine aw_callV S hE (c_X10_refused l G ad fl (-1)) gX10_as_X10_refused (n := 1) rfl (by decide +kernel) rfl (by rw [hRm]; exact ⟨Nat.le_of_ble_eq_true rfl, Nat.le_of_ble_eq_true rfl⟩) (by rw [hRm]; exact ⟨Nat.le_of_ble_eq_true rfl, Nat.le_of_ble_eq_true rfl⟩) hw hA hl.1 [0] rfl rfl (aw_recv (i := 0) hE hw rfl rfl rfl) rfl (Nat.le_of_ble_eq_true rfl) dX10_as_15 ?_
    rintro v w1 H locs ⟨rfl, rfl⟩ hw
    have hw : bW G A s.heap [[(ad 0, .inr (9, [.ref (ad 1), .ref (ad 2), .ref (ad 3), .ref (ad 4), .ref (ad 5), .ref (ad 6), .ref (ad 7), .int 0]))], [(ad 2, .inr (0, [.ref (ad 8), .ref (ad 9), .ref (ad 10), .ref (ad 11), .ref (ad 12), .int (nI n), .int lw]))], [(ad 8, .inl (gL G, 6, .inr (.inr (.inr (.inr sg)))))], fam n sa (slE kd sk br)] H locs := hw
    refine W.eq (g2 := (F0 m 18 ls [.int (-1)])) rfl ?_
    have hw := Eq.mp (congrArg (fun z_ : Int32 => bW G A s.heap [[(ad 0, .inr (9, [.ref (ad 1), .ref (ad 2), .ref (ad 3), .ref (ad 4), .ref (ad 5), .ref (ad 6), .ref (ad 7), .int z_]))], [(ad 2, .inr (0, [.ref (ad 8), .ref (ad 9), .ref (ad 10), .ref (ad 11), .ref (ad 12), .int (nI n), .int lw]))], [(ad 8, .inl (gL G, 6, .inr (.inr (.inr (.inr sg)))))], fam n sa (slE kd sk br)] H locs) (show (0 : Int32) = f_asT n kd sv ki from (by rw [f_asT]; first | rw [if_neg (fun q => hz_s q.1)] | rw [if_neg (by omega)] | rw [if_pos ⟨hz_s, hki, c40⟩] | rw [if_neg (fun q => q.2.2 c40)]))) hw
    have hw : bW G A s.heap [[(ad 0, .inr (9, [.ref (ad 1), .ref (ad 2), .ref (ad 3), .ref (ad 4), .ref (ad 5), .ref (ad 6), .ref (ad 7), .int (f_asT n kd sv ki)]))], [(ad 2, .inr (0, [.ref (ad 8), .ref (ad 9), .ref (ad 10), .ref (ad 11), .ref (ad 12), .int (nI n), .int lw]))], [(ad 8, .inl (gL G, 6, .inr (.inr (.inr (.inr sg)))))], fam n sa (slE kd sk br)] H locs := hw
    refine aw_eqi (show ((-1) : Int32) = f_as n kd sv ki from (by rw [f_as]; first | rw [if_neg hz_s] | (rw [if_pos hz_s]; first | rw [if_neg (by omega)] | (rw [if_pos hki]; first | (rw [if_pos c40]) | (rw [if_neg c40]; rfl))))) ?_
    exact aw_iret S hr hlk ha hQ hAe hw dX10_as_18 rfl (Nat.le_of_ble_eq_true rfl) (Nat.le_of_ble_eq_true rfl) ⟨rfl, rfl⟩
set_option maxRecDepth 100000 in
set_option maxHeartbeats 4000000 in
theorem c_X10_trace (l : Launch) (G : aw_G) (ad : Nat → Nat) (fl : Int32) (tr : Int32)  : CT l G yX10_trace wsX10_trace ({ frames := 0, cells := 0, slots := 0, locals := 0 }) [.ref (ad 0)] [[(ad 0, .inr (9, [.ref (ad 1), .ref (ad 2), .ref (ad 3), .ref (ad 4), .ref (ad 5), .ref (ad 6), .ref (ad 7), .int fl]))], [(ad 6, .inr (2, [.int tr]))]] (dt (some (.int tr)) [[(ad 0, .inr (9, [.ref (ad 1), .ref (ad 2), .ref (ad 3), .ref (ad 4), .ref (ad 5), .ref (ad 6), .ref (ad 7), .int fl]))], [(ad 6, .inr (2, [.int tr]))]]) := by
  refine CT.of (cc := cX10_trace) (nL := 1) (ret := (some .int)) (by decide) rfl (Nat.le_of_ble_eq_true rfl) ?_
  intro p e s m below meth c R args Q A hRm ha hQ hAe hA S hE hr hlk hnm H locs hH0 hL0 ls hl hw
  have S : CallFix p m c cX10_trace 1 s args wsX10_trace RX10 := S
  have hl : lv_has ls 1 [(0, .ref (ad 0))] := hl
  have hinX10 : ∀ w ∈ u_ws RX10 TX10 8, w ∈ wsX10_trace := by decide +kernel
  have hf51 := S.2.2.2.2 (.fieldLink RX10 51 "AwakeTurns" "marks" "LAwakeTurns$Marks;") (by decide +kernel)
  have hinX2 : ∀ w ∈ u_ws RX2 TX2 1, w ∈ wsX10_trace := by decide +kernel
  have hf259 := S.2.2.2.2 (.fieldLink RX10 259 "AwakeTurns$Marks" "value" "I") (by decide +kernel)
  refine lv_aload_n S.1 S.2.1 dX10_trace_0 rfl (lv_at hl 0 rfl) ?_
  refine aw_get S hE hw 0 (C := RX10) (T := TX10) (N := 8) rfl rfl hinX10 5 (by decide) hf51 rfl dX10_trace_1 ?_
  refine aw_get S hE hw 1 (C := RX2) (T := TX2) (N := 1) rfl rfl hinX2 0 (by decide) hf259 rfl dX10_trace_4 ?_
  exact aw_iret S hr hlk ha hQ hAe hw dX10_trace_7 rfl (Nat.le_of_ble_eq_true rfl) (Nat.le_of_ble_eq_true rfl) ⟨rfl, rfl⟩
set_option maxRecDepth 100000 in
set_option maxHeartbeats 4000000 in
theorem c_X10_fault (l : Launch) (G : aw_G) (ad : Nat → Nat) (fl : Int32)  : CT l G yX10_fault wsX10_fault ({ frames := 0, cells := 0, slots := 0, locals := 0 }) [.ref (ad 0)] [[(ad 0, .inr (9, [.ref (ad 1), .ref (ad 2), .ref (ad 3), .ref (ad 4), .ref (ad 5), .ref (ad 6), .ref (ad 7), .int fl]))]] (dt (some (.int fl)) [[(ad 0, .inr (9, [.ref (ad 1), .ref (ad 2), .ref (ad 3), .ref (ad 4), .ref (ad 5), .ref (ad 6), .ref (ad 7), .int fl]))]]) := by
  refine CT.of (cc := cX10_fault) (nL := 1) (ret := (some .int)) (by decide) rfl (Nat.le_of_ble_eq_true rfl) ?_
  intro p e s m below meth c R args Q A hRm ha hQ hAe hA S hE hr hlk hnm H locs hH0 hL0 ls hl hw
  have S : CallFix p m c cX10_fault 1 s args wsX10_fault RX10 := S
  have hl : lv_has ls 1 [(0, .ref (ad 0))] := hl
  have hinX10 : ∀ w ∈ u_ws RX10 TX10 8, w ∈ wsX10_fault := by decide +kernel
  have hf59 := S.2.2.2.2 (.fieldLink RX10 59 "AwakeTurns" "lastFault" "I") (by decide +kernel)
  refine lv_aload_n S.1 S.2.1 dX10_fault_0 rfl (lv_at hl 0 rfl) ?_
  refine aw_get S hE hw 0 (C := RX10) (T := TX10) (N := 8) rfl rfl hinX10 7 (by decide) hf59 rfl dX10_fault_1 ?_
  exact aw_iret S hr hlk ha hQ hAe hw dX10_fault_4 rfl (Nat.le_of_ble_eq_true rfl) (Nat.le_of_ble_eq_true rfl) ⟨rfl, rfl⟩
set_option maxRecDepth 100000 in
set_option maxHeartbeats 4000000 in
theorem c_X10_many (l : Launch) (G : aw_G) (ad : Nat → Nat) (fl : Int32) (n : Nat) (lw : Int32) (nn nr : Nat) (wt : Int32)  : CT l G yX10_many wsX10_many ({ frames := 0, cells := 0, slots := 0, locals := 0 }) [.ref (ad 0), .int wt] [[(ad 0, .inr (9, [.ref (ad 1), .ref (ad 2), .ref (ad 3), .ref (ad 4), .ref (ad 5), .ref (ad 6), .ref (ad 7), .int fl]))], [(ad 2, .inr (0, [.ref (ad 8), .ref (ad 9), .ref (ad 10), .ref (ad 11), .ref (ad 12), .int (nI n), .int lw]))], [(ad 5, .inr (4, [.ref (ad 16), .ref (ad 17), .ref (ad 18), .ref (ad 19), .ref (ad 20), .ref (ad 21), .int (nI nn), .int (nI nr)]))]] (dt (some (.int (f_many n nn nr lw wt))) [[(ad 0, .inr (9, [.ref (ad 1), .ref (ad 2), .ref (ad 3), .ref (ad 4), .ref (ad 5), .ref (ad 6), .ref (ad 7), .int fl]))], [(ad 2, .inr (0, [.ref (ad 8), .ref (ad 9), .ref (ad 10), .ref (ad 11), .ref (ad 12), .int (nI n), .int lw]))], [(ad 5, .inr (4, [.ref (ad 16), .ref (ad 17), .ref (ad 18), .ref (ad 19), .ref (ad 20), .ref (ad 21), .int (nI nn), .int (nI nr)]))]]) := by
  refine CT.of (cc := cX10_many) (nL := 2) (ret := (some .int)) (by decide) rfl (Nat.le_of_ble_eq_true rfl) ?_
  intro p e s m below meth c R args Q A hRm ha hQ hAe hA S hE hr hlk hnm H locs hH0 hL0 ls hl hw
  have S : CallFix p m c cX10_many 2 s args wsX10_many RX10 := S
  have hl : lv_has ls 2 [(0, .ref (ad 0)), (1, .int wt)] := hl
  have hinX10 : ∀ w ∈ u_ws RX10 TX10 8, w ∈ wsX10_many := by decide +kernel
  have hf21 := S.2.2.2.2 (.fieldLink RX10 21 "AwakeTurns" "crew" "LAwakeTurns$Crew;") (by decide +kernel)
  have hinX0 : ∀ w ∈ u_ws RX0 TX0 7, w ∈ wsX10_many := by decide +kernel
  have hf98 := S.2.2.2.2 (.fieldLink RX10 98 "AwakeTurns$Crew" "count" "I") (by decide +kernel)
  have hf44 := S.2.2.2.2 (.fieldLink RX10 44 "AwakeTurns" "news" "LAwakeTurns$News;") (by decide +kernel)
  have hinX4 : ∀ w ∈ u_ws RX4 TX4 8, w ∈ wsX10_many := by decide +kernel
  have hf143 := S.2.2.2.2 (.fieldLink RX10 143 "AwakeTurns$News" "notes" "I") (by decide +kernel)
  have hf209 := S.2.2.2.2 (.fieldLink RX10 209 "AwakeTurns$News" "readings" "I") (by decide +kernel)
  have hf136 := S.2.2.2.2 (.fieldLink RX10 136 "AwakeTurns$Crew" "lawNow" "I") (by decide +kernel)
  refine lv_iload_n S.1 S.2.1 dX10_many_0 rfl (lv_at hl 1 rfl) ?_
  by_cases c1_0 : wt = 0
  · refine lv_tableIn (off := 31) (tgt := 32) S.1 S.2.1 dX10_many_1 (by rw [c1_0]; decide) (by rw [c1_0]; decide) (by rw [c1_0]; rfl) (by decide) ?_
    refine lv_aload_n S.1 S.2.1 dX10_many_32 rfl (lv_at hl 0 rfl) ?_
    refine aw_get S hE hw 0 (C := RX10) (T := TX10) (N := 8) rfl rfl hinX10 1 (by decide) hf21 rfl dX10_many_33 ?_
    refine aw_get S hE hw 1 (C := RX0) (T := TX0) (N := 7) rfl rfl hinX0 5 (by decide) hf98 rfl dX10_many_36 ?_
    refine aw_eqi (show (nI n : Int32) = f_many n nn nr lw wt from (by simp [f_many, c1_0])) ?_
    exact aw_iret S hr hlk ha hQ hAe hw dX10_many_39 rfl (Nat.le_of_ble_eq_true rfl) (Nat.le_of_ble_eq_true rfl) ⟨rfl, rfl⟩
  · by_cases c1_1 : wt = 1
    · refine lv_tableIn (off := 39) (tgt := 40) S.1 S.2.1 dX10_many_1 (by rw [c1_1]; decide) (by rw [c1_1]; decide) (by rw [c1_1]; rfl) (by decide) ?_
      refine lv_aload_n S.1 S.2.1 dX10_many_40 rfl (lv_at hl 0 rfl) ?_
      refine aw_get S hE hw 0 (C := RX10) (T := TX10) (N := 8) rfl rfl hinX10 4 (by decide) hf44 rfl dX10_many_41 ?_
      refine aw_get S hE hw 2 (C := RX4) (T := TX4) (N := 8) rfl rfl hinX4 6 (by decide) hf143 rfl dX10_many_44 ?_
      refine aw_eqi (show (nI nn : Int32) = f_many n nn nr lw wt from (by simp [f_many, c1_0, c1_1])) ?_
      exact aw_iret S hr hlk ha hQ hAe hw dX10_many_47 rfl (Nat.le_of_ble_eq_true rfl) (Nat.le_of_ble_eq_true rfl) ⟨rfl, rfl⟩
    · by_cases c1_2 : wt = 2
      · refine lv_tableIn (off := 47) (tgt := 48) S.1 S.2.1 dX10_many_1 (by rw [c1_2]; decide) (by rw [c1_2]; decide) (by rw [c1_2]; rfl) (by decide) ?_
        refine lv_aload_n S.1 S.2.1 dX10_many_48 rfl (lv_at hl 0 rfl) ?_
        refine aw_get S hE hw 0 (C := RX10) (T := TX10) (N := 8) rfl rfl hinX10 4 (by decide) hf44 rfl dX10_many_49 ?_
        refine aw_get S hE hw 2 (C := RX4) (T := TX4) (N := 8) rfl rfl hinX4 7 (by decide) hf209 rfl dX10_many_52 ?_
        refine aw_eqi (show (nI nr : Int32) = f_many n nn nr lw wt from (by simp [f_many, c1_0, c1_1, c1_2])) ?_
        exact aw_iret S hr hlk ha hQ hAe hw dX10_many_55 rfl (Nat.le_of_ble_eq_true rfl) (Nat.le_of_ble_eq_true rfl) ⟨rfl, rfl⟩
      · by_cases c1_3 : wt = 3
        · refine lv_tableIn (off := 55) (tgt := 56) S.1 S.2.1 dX10_many_1 (by rw [c1_3]; decide) (by rw [c1_3]; decide) (by rw [c1_3]; rfl) (by decide) ?_
          refine lv_aload_n S.1 S.2.1 dX10_many_56 rfl (lv_at hl 0 rfl) ?_
          refine aw_get S hE hw 0 (C := RX10) (T := TX10) (N := 8) rfl rfl hinX10 1 (by decide) hf21 rfl dX10_many_57 ?_
          refine aw_get S hE hw 1 (C := RX0) (T := TX0) (N := 7) rfl rfl hinX0 6 (by decide) hf136 rfl dX10_many_60 ?_
          refine aw_eqi (show (lw : Int32) = f_many n nn nr lw wt from (by simp [f_many, c1_0, c1_1, c1_2, c1_3])) ?_
          exact aw_iret S hr hlk ha hQ hAe hw dX10_many_63 rfl (Nat.le_of_ble_eq_true rfl) (Nat.le_of_ble_eq_true rfl) ⟨rfl, rfl⟩
        · refine lv_tableOut (tgt := 64) S.1 S.2.1 dX10_many_1 (by have := lv_neT (k := 0) (a := 0) c1_0 rfl; have := lv_neT (k := 1) (a := 1) c1_1 rfl; have := lv_neT (k := 2) (a := 2) c1_2 rfl; have := lv_neT (k := 3) (a := 3) c1_3 rfl; omega) (by decide) ?_
          refine lv_bipush (v := (-2)) S.1 S.2.1 dX10_many_64 (by decide) ?_
          refine aw_eqi (show ((-2) : Int32) = f_many n nn nr lw wt from (by simp [f_many, c1_0, c1_1, c1_2, c1_3])) ?_
          exact aw_iret S hr hlk ha hQ hAe hw dX10_many_66 rfl (Nat.le_of_ble_eq_true rfl) (Nat.le_of_ble_eq_true rfl) ⟨rfl, rfl⟩
