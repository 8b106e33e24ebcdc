/-! the reference: what the months bring -/
theorem lk_tb {n : Nat} {lw : Int32} {sk tu wa cn : Nat → Int32} {m : Nat} (hn : n ≤ 6) (hm : m < 12) : wa m &&& (tgF (tu m) (fun s => tbF (kA n lw sk tu) n 72 cn (6 * m + s)) n ^^^ (-1)) = lkF n lw sk tu wa m := by
  unfold lkF
  rw [tgF_cong (k2 := kA n lw sk tu m) (fun j hj => tbF_at hj hn (by omega))]
theorem sp_tb {n : Nat} {br ho tu hb : Nat → Int32} {m : Nat} (hn : n ≤ 6) (hm : m < 12) : spF n br (fun s => tbF (fun m => hB n ho tu (m + 1)) n 72 hb (6 * m + s)) = spF n br (hB n ho tu (m + 1)) := spF_n (fun _ hs => tbF_at hs hn (by omega))
theorem and_nn {a b : Int32} (h : 0 ≤ a.toInt) : 0 ≤ (a &&& b).toInt := by
  have h1 : a.toBitVec.msb = false := by rw [BitVec.msb_eq_toInt]; exact decide_eq_false (Int.not_lt.mpr h)
  have h2 : (a &&& b).toBitVec.msb = false := by rw [Int32.toBitVec_and, BitVec.msb_and, h1, Bool.false_and]
  rw [BitVec.msb_eq_toInt] at h2
  exact Int.not_lt.mp (of_decide_eq_false h2)
theorem lk_pos {n : Nat} {lw : Int32} {sk tu wa : Nat → Int32} {m : Nat} (h : 0 ≤ (wa m).toInt) : 0 < lkF n lw sk tu wa m ↔ ¬ lkF n lw sk tu wa m = 0 := by
  have q : 0 ≤ (lkF n lw sk tu wa m).toInt := and_nn h
  rw [fa_lt, fa_eq, li_0]; omega
theorem sp_neg {n : Nat} {br h : Nat → Int32} (hn : n ≤ 6) : spF n br h < 0 ↔ spF n br h = -9 := by
  unfold spF
  rw [noI_none (by omega), ← noI_neg (show n < 2 ^ 31 by omega), fa_lt, fa_le]; omega
theorem sp_pos {n : Nat} {br h : Nat → Int32} (hn : n ≤ 6) : 0 ≤ spF n br h ↔ ¬ spF n br h = -9 := by
  rw [← sp_neg hn, fa_lt, fa_le]; omega
theorem f_wrong_at {n : Nat} {lw : Int32} {sk ho br tu wa : Nat → Int32} {wt : Int32} {i : Nat} (h0 : 0 ≤ wt.toInt ∧ wt.toInt ≤ 2) (hn0 : ¬ n = 0) (hi : i < 12) (hat : wrP n lw sk ho br tu wa (decide (wt = 0)) (decide (¬ wt = 0)) i = true)
    (hlt : ∀ j, j < i → wrP n lw sk ho br tu wa (decide (wt = 0)) (decide (¬ wt = 0)) j = false) : f_wrong n lw sk ho br tu wa wt = if wt = 2 then spF n br (hB n ho tu (i + 1)) else nI i := by
  have e : fwF n lw sk ho br tu wa 12 (decide (wt = 0)) (decide (¬ wt = 0)) = i := fF_is hi hat hlt
  rw [f_wrong, if_pos h0, if_neg hn0]
  by_cases w0 : wt = 0
  · subst w0
    have e2 : fwF n lw sk ho br tu wa 12 true false = i := e
    rw [if_pos rfl, e2, noI, if_pos hi, if_neg (by decide)]
  · have e2 : fwF n lw sk ho br tu wa 12 false true = i := by rw [decide_eq_false w0, decide_eq_true w0] at e; exact e
    rw [if_neg w0]
    by_cases w1 : wt = 1
    · rw [if_pos w1, e2, noI, if_pos hi, if_neg (by rw [w1]; decide)]
    · have w2 : wt = 2 := by rw [fa_eq, li_0] at w0; rw [fa_eq, li_1] at w1; rw [fa_eq, li_2]; omega
      rw [if_neg w1, if_pos w2, e2, show min (i + 1) 12 = i + 1 by omega]
theorem f_wrong_no {n : Nat} {lw : Int32} {sk ho br tu wa : Nat → Int32} {wt : Int32} (h0 : 0 ≤ wt.toInt ∧ wt.toInt ≤ 2) (hn0 : ¬ n = 0)
    (hlt : ∀ j, j < 12 → wrP n lw sk ho br tu wa (decide (wt = 0)) (decide (¬ wt = 0)) j = false) : f_wrong n lw sk ho br tu wa wt = -9 := by
  have e : fwF n lw sk ho br tu wa 12 (decide (wt = 0)) (decide (¬ wt = 0)) = 12 := fF_none hlt
  rw [f_wrong, if_pos h0, if_neg hn0]
  by_cases w0 : wt = 0
  · subst w0
    have e2 : fwF n lw sk ho br tu wa 12 true false = 12 := e
    rw [if_pos rfl, e2]
    rfl
  · have h11 := hlt 11 (by omega)
    rw [decide_eq_false w0, decide_eq_true w0] at e h11
    rw [if_neg w0, e]
    by_cases w1 : wt = 1
    · rw [if_pos w1]
      rfl
    · rw [if_neg w1]
      unfold wrP at h11
      rw [Bool.false_and, Bool.false_or, Bool.true_and, Bool.not_eq_false', decide_eq_true_eq] at h11
      exact h11
theorem wrP_l {n : Nat} {lw : Int32} {sk ho br tu wa : Nat → Int32} {wt : Int32} {i : Nat} (h : wt = 0) : wrP n lw sk ho br tu wa (decide (wt = 0)) (decide (¬ wt = 0)) i = !decide (lkF n lw sk tu wa i = 0) := by
  unfold wrP; rw [decide_eq_true h, show decide (¬ wt = 0) = false from decide_eq_false (fun q => q h), Bool.true_and, Bool.false_and, Bool.or_false]
theorem wrP_s {n : Nat} {lw : Int32} {sk ho br tu wa : Nat → Int32} {wt : Int32} {i : Nat} (h : ¬ wt = 0) : wrP n lw sk ho br tu wa (decide (wt = 0)) (decide (¬ wt = 0)) i = !decide (spF n br (hB n ho tu (i + 1)) = -9) := by
  unfold wrP; rw [decide_eq_false h, decide_eq_true h, Bool.true_and, Bool.false_and, Bool.false_or]
theorem pcN_m : ∀ S, S < 64 → pcN S ≤ 6 := by decide +kernel
theorem lt_next {p : Nat → Bool} {i : Nat} (h : ∀ j, j < i → p j = false) (h2 : p i = false) : ∀ j, j < i + 1 → p j = false := fun j hj => (Nat.lt_or_ge j i).elim (h j) (fun q => by rw [show j = i by omega]; exact h2)
set_option maxRecDepth 100000 in
set_option maxHeartbeats 4000000 in
theorem c_X11_goTold (l : Launch) (G : aw_G) (am : Nat → Nat) (fl : Int32) (n : Nat) (lw : Int32) (nn ra rsn nr : Nat) (tr : Int32) (kd sk tu me cn hb : Nat → Int32) (hn : n ≤ 6) : CT l G yX11_goTold wsX11_goTold ({ frames := 3, cells := 0, slots := 0, locals := 69 }) [.ref (am 31)] [[(am 31, mdO am fl n lw nn ra rsn nr tr)], [(am 2, .inl (gI G, 6, .inl kd))], [(am 3, .inl (gI G, 6, .inl sk))], [(am 5, .inl (gI G, 12, .inl tu))], [(am 16, .inl (gI G, 12, .inl me))], [(am 17, .inl (gI G, 72, .inl cn))], [(am 18, .inl (gI G, 72, .inl hb))]] (dt none [[(am 31, mdO am fl n lw nn ra rsn nr tr)], [(am 2, .inl (gI G, 6, .inl kd))], [(am 3, .inl (gI G, 6, .inl sk))], [(am 5, .inl (gI G, 12, .inl tu))], [(am 16, .inl (gI G, 12, .inl tu))], [(am 17, .inl (gI G, 72, .inl (tbF (kA n lw sk tu) n 72 cn)))], [(am 18, .inl (gI G, 72, .inl (tbF (fun m => hB n (fun j => hoK (kd j)) tu (m + 1)) n 72 hb)))]]) := by
  refine CT.of (cc := cX11_goTold) (nL := 1) (ret := none) (by decide) rfl (Nat.le_of_ble_eq_true rfl) ?_
  intro p e s m below meth c R args Q A hRm ha hQ hAe hA S hE hr hlk hnm H locs hH0 hL0 ls hl hw
  have S : CallFix p m c cX11_goTold 1 s args wsX11_goTold RX11 := S
  have hl : lv_has ls 1 [(0, .ref (am 31))] := hl
  refine lv_aload_n S.1 S.2.1 dX11_goTold_0 rfl (lv_at hl 0 rfl) ?_
  refine aw_callV S hE (c_X11_meanTold l G am fl n lw nn ra rsn nr tr tu me) gX11_goTold_X11_meanTold (n := 0) rfl (by decide +kernel) rfl (by rw [hRm]; exact ⟨Nat.le_of_ble_eq_true rfl, Nat.le_of_ble_eq_true rfl⟩) (by rw [hRm]; exact ⟨Nat.le_of_ble_eq_true rfl, Nat.le_of_ble_eq_true rfl⟩) hw hA hl.1 [0, 3, 4] rfl rfl (aw_recv (i := 0) hE hw rfl rfl rfl) rfl (Nat.le_of_ble_eq_true rfl) dX11_goTold_1 ?_
  rintro v w1 H locs ⟨rfl, rfl⟩ hw
  have hw : bW G A s.heap [[(am 31, mdO am fl n lw nn ra rsn nr tr)], [(am 2, .inl (gI G, 6, .inl kd))], [(am 3, .inl (gI G, 6, .inl sk))], [(am 5, .inl (gI G, 12, .inl tu))], [(am 16, .inl (gI G, 12, .inl tu))], [(am 17, .inl (gI G, 72, .inl cn))], [(am 18, .inl (gI G, 72, .inl hb))]] H locs := hw
  refine W.eq (g2 := (F0 m 4 ls [])) rfl ?_
  refine lv_aload_n S.1 S.2.1 dX11_goTold_4 rfl (lv_at hl 0 rfl) ?_
  refine aw_callV S hE (c_X11_goMonths l G am fl n lw nn ra rsn nr tr kd sk tu cn hb (by first | assumption | omega)) gX11_goTold_X11_goMonths (n := 0) rfl (by decide +kernel) rfl (by rw [hRm]; exact ⟨Nat.le_of_ble_eq_true rfl, Nat.le_of_ble_eq_true rfl⟩) (by rw [hRm]; exact ⟨Nat.le_of_ble_eq_true rfl, Nat.le_of_ble_eq_true rfl⟩) hw hA hl.1 [0, 1, 2, 4, 5, 6] rfl rfl (aw_recv (i := 0) hE hw rfl rfl rfl) rfl (Nat.le_of_ble_eq_true rfl) dX11_goTold_5 ?_
  rintro v w1 H locs ⟨rfl, rfl⟩ hw
  have hw : bW G A s.heap [[(am 31, mdO am fl n lw nn ra rsn nr tr)], [(am 2, .inl (gI G, 6, .inl kd))], [(am 3, .inl (gI G, 6, .inl sk))], [(am 5, .inl (gI G, 12, .inl tu))], [(am 16, .inl (gI G, 12, .inl tu))], [(am 17, .inl (gI G, 72, .inl (tbF (kA n lw sk tu) n 72 cn)))], [(am 18, .inl (gI G, 72, .inl (tbF (fun m => hB n (fun j => hoK (kd j)) tu (m + 1)) n 72 hb)))]] H locs := hw
  refine W.eq (g2 := (F0 m 8 ls [])) rfl ?_
  exact aw_vret S hr hlk ha hQ hAe hw dX11_goTold_8 (Nat.le_of_ble_eq_true rfl) (Nat.le_of_ble_eq_true rfl) ⟨rfl, rfl⟩
set_option maxRecDepth 100000 in
set_option maxHeartbeats 4000000 in
theorem c_X11_harm (l : Launch) (G : aw_G) (am : Nat → Nat) (fl : Int32) (n : Nat) (lw : Int32) (nn ra rsn nr : Nat) (tr : Int32) (kd sk br tu wa me cn hb : Nat → Int32) (sv mo : Int32) (hn : n ≤ 6) : CT l G yX11_harm wsX11_harm ({ frames := 4, cells := 0, slots := 0, locals := 89 }) [.ref (am 31), .int sv, .int mo] [[(am 31, mdO am fl n lw nn ra rsn nr tr)], [(am 2, .inl (gI G, 6, .inl kd))], [(am 3, .inl (gI G, 6, .inl sk))], [(am 4, .inl (gI G, 6, .inl br))], [(am 5, .inl (gI G, 12, .inl tu))], [(am 6, .inl (gI G, 12, .inl wa))], [(am 16, .inl (gI G, 12, .inl me))], [(am 17, .inl (gI G, 72, .inl cn))], [(am 18, .inl (gI G, 72, .inl hb))]] (fun v w => v = some (.int (f_sm n sv mo (hB n (fun j => hoK (kd j)) tu (tn mo + 1) (tn sv)))) ∧ ∃ (me cn hb : Nat → Int32), w = [[(am 31, mdO am fl n lw nn ra rsn nr tr)], [(am 2, .inl (gI G, 6, .inl kd))], [(am 3, .inl (gI G, 6, .inl sk))], [(am 4, .inl (gI G, 6, .inl br))], [(am 5, .inl (gI G, 12, .inl tu))], [(am 6, .inl (gI G, 12, .inl wa))], [(am 16, .inl (gI G, 12, .inl me))], [(am 17, .inl (gI G, 72, .inl cn))], [(am 18, .inl (gI G, 72, .inl hb))]]) := by
  refine CT.of (cc := cX11_harm) (nL := 3) (ret := (some .int)) (by decide) rfl (Nat.le_of_ble_eq_true rfl) ?_
  intro p e s m below meth c R args Q A hRm ha hQ hAe hA S hE hr hlk hnm H locs hH0 hL0 ls hl hw
  have S : CallFix p m c cX11_harm 3 s args wsX11_harm RX11 := S
  have hl : lv_has ls 3 [(0, .ref (am 31)), (1, .int sv), (2, .int mo)] := hl
  have hinX11 : ∀ w ∈ u_ws RX11 TX11 31, w ∈ wsX11_harm := by decide +kernel
  have hf46 := S.2.2.2.2 (.fieldLink RX11 46 "AwakeTurnsModel" "harmBy" "[I") (by decide +kernel)
  refine lv_aload_n S.1 S.2.1 dX11_harm_0 rfl (lv_at hl 0 rfl) ?_
  refine lv_iload_n S.1 S.2.1 dX11_harm_1 rfl (lv_at hl 1 rfl) ?_
  refine aw_callV S hE (c_X11_noSleeper l G am fl n lw nn ra rsn nr tr sv (by first | assumption | omega)) gX11_harm_X11_noSleeper (n := 1) rfl (by decide +kernel) rfl (by rw [hRm]; exact ⟨Nat.le_of_ble_eq_true rfl, Nat.le_of_ble_eq_true rfl⟩) (by rw [hRm]; exact ⟨Nat.le_of_ble_eq_true rfl, Nat.le_of_ble_eq_true rfl⟩) hw hA hl.1 [0] rfl rfl (aw_recv (i := 0) hE hw rfl rfl rfl) rfl (Nat.le_of_ble_eq_true rfl) dX11_harm_2 ?_
  rintro v w1 H locs ⟨rfl, rfl⟩ hw
  have hw : bW G A s.heap [[(am 31, mdO am fl n lw nn ra rsn nr tr)], [(am 2, .inl (gI G, 6, .inl kd))], [(am 3, .inl (gI G, 6, .inl sk))], [(am 4, .inl (gI G, 6, .inl br))], [(am 5, .inl (gI G, 12, .inl tu))], [(am 6, .inl (gI G, 12, .inl wa))], [(am 16, .inl (gI G, 12, .inl me))], [(am 17, .inl (gI G, 72, .inl cn))], [(am 18, .inl (gI G, 72, .inl hb))]] H locs := hw
  refine W.eq (g2 := (F0 m 5 ls [.int (if ¬ (0 ≤ sv.toInt ∧ sv.toInt < n) then 1 else 0)])) rfl ?_
  refine aw_ifeq (P := ¬ (0 ≤ sv.toInt ∧ sv.toInt < n)) (tgt := 10) S dX11_harm_5 (by decide) (fun c5 => ?_) (fun c5 => ?_)
  · have c5 := Decidable.not_not.mp c5
    have hb_sv : tn sv < n := aw_tnL c5
    have hl := Eq.mp (congrArg (fun z_ : Int32 => lv_has ls 3 [(0, .ref (am 31)), (1, .int z_), (2, .int mo)]) (show (sv : Int32) = nI (tn sv) from (aw_tnE c5))) hl
    have hl : lv_has ls 3 [(0, .ref (am 31)), (1, .int (nI (tn sv))), (2, .int mo)] := hl
    refine lv_iload_n S.1 S.2.1 dX11_harm_10 rfl (lv_at hl 2 rfl) ?_
    refine aw_callS S hE (c_X11_isMonth l G mo) gX11_harm_X11_isMonth (n := 1) rfl (by decide +kernel) rfl (by rw [hRm]; exact ⟨Nat.le_of_ble_eq_true rfl, Nat.le_of_ble_eq_true rfl⟩) (by rw [hRm]; exact ⟨Nat.le_of_ble_eq_true rfl, Nat.le_of_ble_eq_true rfl⟩) hw hA hl.1 [] rfl rfl rfl (Nat.le_of_ble_eq_true rfl) dX11_harm_11 ?_
    rintro v w1 H locs ⟨rfl, rfl⟩ hw
    have hw : bW G A s.heap [[(am 31, mdO am fl n lw nn ra rsn nr tr)], [(am 2, .inl (gI G, 6, .inl kd))], [(am 3, .inl (gI G, 6, .inl sk))], [(am 4, .inl (gI G, 6, .inl br))], [(am 5, .inl (gI G, 12, .inl tu))], [(am 6, .inl (gI G, 12, .inl wa))], [(am 16, .inl (gI G, 12, .inl me))], [(am 17, .inl (gI G, 72, .inl cn))], [(am 18, .inl (gI G, 72, .inl hb))]] H locs := hw
    refine W.eq (g2 := (F0 m 14 ls [.int (if 0 ≤ mo.toInt ∧ mo.toInt < 12 then 1 else 0)])) rfl ?_
    refine aw_ifne (P := 0 ≤ mo.toInt ∧ mo.toInt < 12) (tgt := 20) S dX11_harm_14 (by decide) (fun c14 => ?_) (fun c14 => ?_)
    · have hb_mo : tn mo < 12 := aw_tnL c14
      have hl := Eq.mp (congrArg (fun z_ : Int32 => lv_has ls 3 [(0, .ref (am 31)), (1, .int (nI (tn sv))), (2, .int z_)]) (show (mo : Int32) = nI (tn mo) from (aw_tnE c14))) hl
      have hl : lv_has ls 3 [(0, .ref (am 31)), (1, .int (nI (tn sv))), (2, .int (nI (tn mo)))] := hl
      refine lv_aload_n S.1 S.2.1 dX11_harm_20 rfl (lv_at hl 0 rfl) ?_
      refine aw_callV S hE (c_X11_goTold l G am fl n lw nn ra rsn nr tr kd sk tu me cn hb (by first | assumption | omega)) gX11_harm_X11_goTold (n := 0) rfl (by decide +kernel) rfl (by rw [hRm]; exact ⟨Nat.le_of_ble_eq_true rfl, Nat.le_of_ble_eq_true rfl⟩) (by rw [hRm]; exact ⟨Nat.le_of_ble_eq_true rfl, Nat.le_of_ble_eq_true rfl⟩) hw hA hl.1 [0, 1, 2, 4, 6, 7, 8] rfl rfl (aw_recv (i := 0) hE hw rfl rfl rfl) rfl (Nat.le_of_ble_eq_true rfl) dX11_harm_21 ?_
      rintro v w1 H locs ⟨rfl, rfl⟩ hw
      have hw : bW G A s.heap [[(am 31, mdO am fl n lw nn ra rsn nr tr)], [(am 2, .inl (gI G, 6, .inl kd))], [(am 3, .inl (gI G, 6, .inl sk))], [(am 4, .inl (gI G, 6, .inl br))], [(am 5, .inl (gI G, 12, .inl tu))], [(am 6, .inl (gI G, 12, .inl wa))], [(am 16, .inl (gI G, 12, .inl tu))], [(am 17, .inl (gI G, 72, .inl (tbF (kA n lw sk tu) n 72 cn)))], [(am 18, .inl (gI G, 72, .inl (tbF (fun m => hB n (fun j => hoK (kd j)) tu (m + 1)) n 72 hb)))]] H locs := hw
      refine W.eq (g2 := (F0 m 24 ls [])) rfl ?_
      refine lv_aload_n S.1 S.2.1 dX11_harm_24 rfl (lv_at hl 0 rfl) ?_
      refine aw_get S hE hw 0 (C := RX11) (T := TX11) (N := 31) rfl rfl hinX11 18 (by decide) hf46 rfl dX11_harm_25 ?_
      refine lv_bipush (v := 6) S.1 S.2.1 dX11_harm_28 (by decide) ?_
      refine lv_iload_n S.1 S.2.1 dX11_harm_30 rfl (lv_at hl 2 rfl) ?_
      refine lv_imul S.1 S.2.1 dX11_harm_31 ?_
      refine aw_eqi (show (6 * (nI (tn mo)) : Int32) = nI (6 * (tn mo)) from (pk_mul 6 (tn mo))) ?_
      refine lv_iload_n S.1 S.2.1 dX11_harm_32 rfl (lv_at hl 1 rfl) ?_
      refine lv_iadd S.1 S.2.1 dX11_harm_33 ?_
      refine aw_eqi (show ((nI (6 * (tn mo))) + (nI (tn sv)) : Int32) = nI ((6 * (tn mo)) + (tn sv)) from (nI_add (6 * (tn mo)) (tn sv))) ?_
      refine aw_iald S hE hw 8 (k := ((6 * (tn mo)) + (tn sv))) rfl (by omega) (by decide) dX11_harm_34 ?_
      refine aw_eqi (show ((tbF (fun m => hB n (fun j => hoK (kd j)) tu (m + 1)) n 72 hb) ((6 * (tn mo)) + (tn sv)) : Int32) = f_sm n sv mo (hB n (fun j => hoK (kd j)) tu (tn mo + 1) (tn sv)) from (by rw [f_sm, if_pos c5, if_pos c14]; exact tbF_at (by omega) hn (by omega))) ?_
      exact aw_iret S hr hlk ha hQ hAe hw dX11_harm_35 rfl (Nat.le_of_ble_eq_true rfl) (Nat.le_of_ble_eq_true rfl) ⟨rfl, _, _, _, rfl⟩
    · refine lv_bipush (v := (-2)) S.1 S.2.1 dX11_harm_17 (by decide) ?_
      refine aw_eqi (show ((-2) : Int32) = f_sm n sv mo (hB n (fun j => hoK (kd j)) tu (tn mo + 1) (tn sv)) from (by rw [f_sm, if_pos c5, if_neg c14])) ?_
      exact aw_iret S hr hlk ha hQ hAe hw dX11_harm_19 rfl (Nat.le_of_ble_eq_true rfl) (Nat.le_of_ble_eq_true rfl) ⟨rfl, _, _, _, rfl⟩
  · refine lv_iconst (v := (-1)) S.1 S.2.1 dX11_harm_8 (by decide) ?_
    refine aw_eqi (show ((-1) : Int32) = f_sm n sv mo (hB n (fun j => hoK (kd j)) tu (tn mo + 1) (tn sv)) from (by rw [f_sm, if_neg c5])) ?_
    exact aw_iret S hr hlk ha hQ hAe hw dX11_harm_9 rfl (Nat.le_of_ble_eq_true rfl) (Nat.le_of_ble_eq_true rfl) ⟨rfl, _, _, _, rfl⟩
set_option maxRecDepth 100000 in
set_option maxHeartbeats 4000000 in
theorem c_X11_skills (l : Launch) (G : aw_G) (am : Nat → Nat) (fl : Int32) (n : Nat) (lw : Int32) (nn ra rsn nr : Nat) (tr : Int32) (kd sk br tu wa me cn hb : Nat → Int32) (sv mo : Int32) (hn : n ≤ 6) : CT l G yX11_skills wsX11_skills ({ frames := 4, cells := 0, slots := 0, locals := 89 }) [.ref (am 31), .int sv, .int mo] [[(am 31, mdO am fl n lw nn ra rsn nr tr)], [(am 2, .inl (gI G, 6, .inl kd))], [(am 3, .inl (gI G, 6, .inl sk))], [(am 4, .inl (gI G, 6, .inl br))], [(am 5, .inl (gI G, 12, .inl tu))], [(am 6, .inl (gI G, 12, .inl wa))], [(am 16, .inl (gI G, 12, .inl me))], [(am 17, .inl (gI G, 72, .inl cn))], [(am 18, .inl (gI G, 72, .inl hb))]] (fun v w => v = some (.int (f_sm n sv mo (kA n lw sk tu (tn mo) (tn sv)))) ∧ ∃ (me cn hb : Nat → Int32), w = [[(am 31, mdO am fl n lw nn ra rsn nr tr)], [(am 2, .inl (gI G, 6, .inl kd))], [(am 3, .inl (gI G, 6, .inl sk))], [(am 4, .inl (gI G, 6, .inl br))], [(am 5, .inl (gI G, 12, .inl tu))], [(am 6, .inl (gI G, 12, .inl wa))], [(am 16, .inl (gI G, 12, .inl me))], [(am 17, .inl (gI G, 72, .inl cn))], [(am 18, .inl (gI G, 72, .inl hb))]]) := by
  refine CT.of (cc := cX11_skills) (nL := 3) (ret := (some .int)) (by decide) rfl (Nat.le_of_ble_eq_true rfl) ?_
  intro p e s m below meth c R args Q A hRm ha hQ hAe hA S hE hr hlk hnm H locs hH0 hL0 ls hl hw
  have S : CallFix p m c cX11_skills 3 s args wsX11_skills RX11 := S
  have hl : lv_has ls 3 [(0, .ref (am 31)), (1, .int sv), (2, .int mo)] := hl
  have hinX11 : ∀ w ∈ u_ws RX11 TX11 31, w ∈ wsX11_skills := by decide +kernel
  have hf43 := S.2.2.2.2 (.fieldLink RX11 43 "AwakeTurnsModel" "canIn" "[I") (by decide +kernel)
  refine lv_aload_n S.1 S.2.1 dX11_skills_0 rfl (lv_at hl 0 rfl) ?_
  refine lv_iload_n S.1 S.2.1 dX11_skills_1 rfl (lv_at hl 1 rfl) ?_
  refine aw_callV S hE (c_X11_noSleeper l G am fl n lw nn ra rsn nr tr sv (by first | assumption | omega)) gX11_skills_X11_noSleeper (n := 1) rfl (by decide +kernel) rfl (by rw [hRm]; exact ⟨Nat.le_of_ble_eq_true rfl, Nat.le_of_ble_eq_true rfl⟩) (by rw [hRm]; exact ⟨Nat.le_of_ble_eq_true rfl, Nat.le_of_ble_eq_true rfl⟩) hw hA hl.1 [0] rfl rfl (aw_recv (i := 0) hE hw rfl rfl rfl) rfl (Nat.le_of_ble_eq_true rfl) dX11_skills_2 ?_
  rintro v w1 H locs ⟨rfl, rfl⟩ hw
  have hw : bW G A s.heap [[(am 31, mdO am fl n lw nn ra rsn nr tr)], [(am 2, .inl (gI G, 6, .inl kd))], [(am 3, .inl (gI G, 6, .inl sk))], [(am 4, .inl (gI G, 6, .inl br))], [(am 5, .inl (gI G, 12, .inl tu))], [(am 6, .inl (gI G, 12, .inl wa))], [(am 16, .inl (gI G, 12, .inl me))], [(am 17, .inl (gI G, 72, .inl cn))], [(am 18, .inl (gI G, 72, .inl hb))]] H locs := hw
  refine W.eq (g2 := (F0 m 5 ls [.int (if ¬ (0 ≤ sv.toInt ∧ sv.toInt < n) then 1 else 0)])) rfl ?_
  refine aw_ifeq (P := ¬ (0 ≤ sv.toInt ∧ sv.toInt < n)) (tgt := 10) S dX11_skills_5 (by decide) (fun c5 => ?_) (fun c5 => ?_)
  · have c5 := Decidable.not_not.mp c5
    have hb_sv : tn sv < n := aw_tnL c5
    have hl := Eq.mp (congrArg (fun z_ : Int32 => lv_has ls 3 [(0, .ref (am 31)), (1, .int z_), (2, .int mo)]) (show (sv : Int32) = nI (tn sv) from (aw_tnE c5))) hl
    have hl : lv_has ls 3 [(0, .ref (am 31)), (1, .int (nI (tn sv))), (2, .int mo)] := hl
    refine lv_iload_n S.1 S.2.1 dX11_skills_10 rfl (lv_at hl 2 rfl) ?_
    refine aw_callS S hE (c_X11_isMonth l G mo) gX11_skills_X11_isMonth (n := 1) rfl (by decide +kernel) rfl (by rw [hRm]; exact ⟨Nat.le_of_ble_eq_true rfl, Nat.le_of_ble_eq_true rfl⟩) (by rw [hRm]; exact ⟨Nat.le_of_ble_eq_true rfl, Nat.le_of_ble_eq_true rfl⟩) hw hA hl.1 [] rfl rfl rfl (Nat.le_of_ble_eq_true rfl) dX11_skills_11 ?_
    rintro v w1 H locs ⟨rfl, rfl⟩ hw
    have hw : bW G A s.heap [[(am 31, mdO am fl n lw nn ra rsn nr tr)], [(am 2, .inl (gI G, 6, .inl kd))], [(am 3, .inl (gI G, 6, .inl sk))], [(am 4, .inl (gI G, 6, .inl br))], [(am 5, .inl (gI G, 12, .inl tu))], [(am 6, .inl (gI G, 12, .inl wa))], [(am 16, .inl (gI G, 12, .inl me))], [(am 17, .inl (gI G, 72, .inl cn))], [(am 18, .inl (gI G, 72, .inl hb))]] H locs := hw
    refine W.eq (g2 := (F0 m 14 ls [.int (if 0 ≤ mo.toInt ∧ mo.toInt < 12 then 1 else 0)])) rfl ?_
    refine aw_ifne (P := 0 ≤ mo.toInt ∧ mo.toInt < 12) (tgt := 20) S dX11_skills_14 (by decide) (fun c14 => ?_) (fun c14 => ?_)
    · have hb_mo : tn mo < 12 := aw_tnL c14
      have hl := Eq.mp (congrArg (fun z_ : Int32 => lv_has ls 3 [(0, .ref (am 31)), (1, .int (nI (tn sv))), (2, .int z_)]) (show (mo : Int32) = nI (tn mo) from (aw_tnE c14))) hl
      have hl : lv_has ls 3 [(0, .ref (am 31)), (1, .int (nI (tn sv))), (2, .int (nI (tn mo)))] := hl
      refine lv_aload_n S.1 S.2.1 dX11_skills_20 rfl (lv_at hl 0 rfl) ?_
      refine aw_callV S hE (c_X11_goTold l G am fl n lw nn ra rsn nr tr kd sk tu me cn hb (by first | assumption | omega)) gX11_skills_X11_goTold (n := 0) rfl (by decide +kernel) rfl (by rw [hRm]; exact ⟨Nat.le_of_ble_eq_true rfl, Nat.le_of_ble_eq_true rfl⟩) (by rw [hRm]; exact ⟨Nat.le_of_ble_eq_true rfl, Nat.le_of_ble_eq_true rfl⟩) hw hA hl.1 [0, 1, 2, 4, 6, 7, 8] rfl rfl (aw_recv (i := 0) hE hw rfl rfl rfl) rfl (Nat.le_of_ble_eq_true rfl) dX11_skills_21 ?_
      rintro v w1 H locs ⟨rfl, rfl⟩ hw
      have hw : bW G A s.heap [[(am 31, mdO am fl n lw nn ra rsn nr tr)], [(am 2, .inl (gI G, 6, .inl kd))], [(am 3, .inl (gI G, 6, .inl sk))], [(am 4, .inl (gI G, 6, .inl br))], [(am 5, .inl (gI G, 12, .inl tu))], [(am 6, .inl (gI G, 12, .inl wa))], [(am 16, .inl (gI G, 12, .inl tu))], [(am 17, .inl (gI G, 72, .inl (tbF (kA n lw sk tu) n 72 cn)))], [(am 18, .inl (gI G, 72, .inl (tbF (fun m => hB n (fun j => hoK (kd j)) tu (m + 1)) n 72 hb)))]] H locs := hw
      refine W.eq (g2 := (F0 m 24 ls [])) rfl ?_
      refine lv_aload_n S.1 S.2.1 dX11_skills_24 rfl (lv_at hl 0 rfl) ?_
      refine aw_get S hE hw 0 (C := RX11) (T := TX11) (N := 31) rfl rfl hinX11 17 (by decide) hf43 rfl dX11_skills_25 ?_
      refine lv_bipush (v := 6) S.1 S.2.1 dX11_skills_28 (by decide) ?_
      refine lv_iload_n S.1 S.2.1 dX11_skills_30 rfl (lv_at hl 2 rfl) ?_
      refine lv_imul S.1 S.2.1 dX11_skills_31 ?_
      refine aw_eqi (show (6 * (nI (tn mo)) : Int32) = nI (6 * (tn mo)) from (pk_mul 6 (tn mo))) ?_
      refine lv_iload_n S.1 S.2.1 dX11_skills_32 rfl (lv_at hl 1 rfl) ?_
      refine lv_iadd S.1 S.2.1 dX11_skills_33 ?_
      refine aw_eqi (show ((nI (6 * (tn mo))) + (nI (tn sv)) : Int32) = nI ((6 * (tn mo)) + (tn sv)) from (nI_add (6 * (tn mo)) (tn sv))) ?_
      refine aw_iald S hE hw 7 (k := ((6 * (tn mo)) + (tn sv))) rfl (by omega) (by decide) dX11_skills_34 ?_
      refine aw_eqi (show ((tbF (kA n lw sk tu) n 72 cn) ((6 * (tn mo)) + (tn sv)) : Int32) = f_sm n sv mo (kA n lw sk tu (tn mo) (tn sv)) from (by rw [f_sm, if_pos c5, if_pos c14]; exact tbF_at (by omega) hn (by omega))) ?_
      exact aw_iret S hr hlk ha hQ hAe hw dX11_skills_35 rfl (Nat.le_of_ble_eq_true rfl) (Nat.le_of_ble_eq_true rfl) ⟨rfl, _, _, _, rfl⟩
    · refine lv_bipush (v := (-2)) S.1 S.2.1 dX11_skills_17 (by decide) ?_
      refine aw_eqi (show ((-2) : Int32) = f_sm n sv mo (kA n lw sk tu (tn mo) (tn sv)) from (by rw [f_sm, if_pos c5, if_neg c14])) ?_
      exact aw_iret S hr hlk ha hQ hAe hw dX11_skills_19 rfl (Nat.le_of_ble_eq_true rfl) (Nat.le_of_ble_eq_true rfl) ⟨rfl, _, _, _, rfl⟩
  · refine lv_iconst (v := (-1)) S.1 S.2.1 dX11_skills_8 (by decide) ?_
    refine aw_eqi (show ((-1) : Int32) = f_sm n sv mo (kA n lw sk tu (tn mo) (tn sv)) from (by rw [f_sm, if_neg c5])) ?_
    exact aw_iret S hr hlk ha hQ hAe hw dX11_skills_9 rfl (Nat.le_of_ble_eq_true rfl) (Nat.le_of_ble_eq_true rfl) ⟨rfl, _, _, _, rfl⟩
set_option maxRecDepth 100000 in
set_option maxHeartbeats 4000000 in
theorem c_X11_lacks (l : Launch) (G : aw_G) (am : Nat → Nat) (fl : Int32) (n : Nat) (lw : Int32) (nn ra rsn nr : Nat) (tr : Int32) (kd sk br tu wa me cn hb : Nat → Int32) (mo : Int32) (hn : n ≤ 6) : CT l G yX11_lacks wsX11_lacks ({ frames := 4, cells := 0, slots := 0, locals := 89 }) [.ref (am 31), .int mo] [[(am 31, mdO am fl n lw nn ra rsn nr tr)], [(am 2, .inl (gI G, 6, .inl kd))], [(am 3, .inl (gI G, 6, .inl sk))], [(am 4, .inl (gI G, 6, .inl br))], [(am 5, .inl (gI G, 12, .inl tu))], [(am 6, .inl (gI G, 12, .inl wa))], [(am 16, .inl (gI G, 12, .inl me))], [(am 17, .inl (gI G, 72, .inl cn))], [(am 18, .inl (gI G, 72, .inl hb))]] (fun v w => v = some (.int (f_ms n mo (lkF n lw sk tu wa (tn mo)))) ∧ ∃ (me cn hb : Nat → Int32), w = [[(am 31, mdO am fl n lw nn ra rsn nr tr)], [(am 2, .inl (gI G, 6, .inl kd))], [(am 3, .inl (gI G, 6, .inl sk))], [(am 4, .inl (gI G, 6, .inl br))], [(am 5, .inl (gI G, 12, .inl tu))], [(am 6, .inl (gI G, 12, .inl wa))], [(am 16, .inl (gI G, 12, .inl me))], [(am 17, .inl (gI G, 72, .inl cn))], [(am 18, .inl (gI G, 72, .inl hb))]]) := by
  refine CT.of (cc := cX11_lacks) (nL := 2) (ret := (some .int)) (by decide) rfl (Nat.le_of_ble_eq_true rfl) ?_
  intro p e s m below meth c R args Q A hRm ha hQ hAe hA S hE hr hlk hnm H locs hH0 hL0 ls hl hw
  have S : CallFix p m c cX11_lacks 2 s args wsX11_lacks RX11 := S
  have hl : lv_has ls 2 [(0, .ref (am 31)), (1, .int mo)] := hl
  have hinX11 : ∀ w ∈ u_ws RX11 TX11 31, w ∈ wsX11_lacks := by decide +kernel
  have hf90 := S.2.2.2.2 (.fieldLink RX11 90 "AwakeTurnsModel" "sleepers" "I") (by decide +kernel)
  refine lv_iload_n S.1 S.2.1 dX11_lacks_0 rfl (lv_at hl 1 rfl) ?_
  refine aw_callS S hE (c_X11_isMonth l G mo) gX11_lacks_X11_isMonth (n := 1) rfl (by decide +kernel) rfl (by rw [hRm]; exact ⟨Nat.le_of_ble_eq_true rfl, Nat.le_of_ble_eq_true rfl⟩) (by rw [hRm]; exact ⟨Nat.le_of_ble_eq_true rfl, Nat.le_of_ble_eq_true rfl⟩) hw hA hl.1 [] rfl rfl rfl (Nat.le_of_ble_eq_true rfl) dX11_lacks_1 ?_
  rintro v w1 H locs ⟨rfl, rfl⟩ hw
  have hw : bW G A s.heap [[(am 31, mdO am fl n lw nn ra rsn nr tr)], [(am 2, .inl (gI G, 6, .inl kd))], [(am 3, .inl (gI G, 6, .inl sk))], [(am 4, .inl (gI G, 6, .inl br))], [(am 5, .inl (gI G, 12, .inl tu))], [(am 6, .inl (gI G, 12, .inl wa))], [(am 16, .inl (gI G, 12, .inl me))], [(am 17, .inl (gI G, 72, .inl cn))], [(am 18, .inl (gI G, 72, .inl hb))]] H locs := hw
  refine W.eq (g2 := (F0 m 4 ls [.int (if 0 ≤ mo.toInt ∧ mo.toInt < 12 then 1 else 0)])) rfl ?_
  refine aw_ifne (P := 0 ≤ mo.toInt ∧ mo.toInt < 12) (tgt := 10) S dX11_lacks_4 (by decide) (fun c4 => ?_) (fun c4 => ?_)
  · have hb_mo : tn mo < 12 := aw_tnL c4
    have hl := Eq.mp (congrArg (fun z_ : Int32 => lv_has ls 2 [(0, .ref (am 31)), (1, .int z_)]) (show (mo : Int32) = nI (tn mo) from (aw_tnE c4))) hl
    have hl : lv_has ls 2 [(0, .ref (am 31)), (1, .int (nI (tn mo)))] := hl
    refine lv_aload_n S.1 S.2.1 dX11_lacks_10 rfl (lv_at hl 0 rfl) ?_
    refine aw_get S hE hw 0 (C := RX11) (T := TX11) (N := 31) rfl rfl hinX11 1 (by decide) hf90 rfl dX11_lacks_11 ?_
    refine aw_ifN_ne (x := n) (tgt := 20) S (by omega) dX11_lacks_14 (by decide) (fun c14 => ?_) (fun c14 => ?_)
    · refine lv_aload_n S.1 S.2.1 dX11_lacks_20 rfl (lv_at hl 0 rfl) ?_
      refine aw_callV S hE (c_X11_goTold l G am fl n lw nn ra rsn nr tr kd sk tu me cn hb (by first | assumption | omega)) gX11_lacks_X11_goTold (n := 0) rfl (by decide +kernel) rfl (by rw [hRm]; exact ⟨Nat.le_of_ble_eq_true rfl, Nat.le_of_ble_eq_true rfl⟩) (by rw [hRm]; exact ⟨Nat.le_of_ble_eq_true rfl, Nat.le_of_ble_eq_true rfl⟩) hw hA hl.1 [0, 1, 2, 4, 6, 7, 8] rfl rfl (aw_recv (i := 0) hE hw rfl rfl rfl) rfl (Nat.le_of_ble_eq_true rfl) dX11_lacks_21 ?_
      rintro v w1 H locs ⟨rfl, rfl⟩ hw
      have hw : bW G A s.heap [[(am 31, mdO am fl n lw nn ra rsn nr tr)], [(am 2, .inl (gI G, 6, .inl kd))], [(am 3, .inl (gI G, 6, .inl sk))], [(am 4, .inl (gI G, 6, .inl br))], [(am 5, .inl (gI G, 12, .inl tu))], [(am 6, .inl (gI G, 12, .inl wa))], [(am 16, .inl (gI G, 12, .inl tu))], [(am 17, .inl (gI G, 72, .inl (tbF (kA n lw sk tu) n 72 cn)))], [(am 18, .inl (gI G, 72, .inl (tbF (fun m => hB n (fun j => hoK (kd j)) tu (m + 1)) n 72 hb)))]] H locs := hw
      refine W.eq (g2 := (F0 m 24 ls [])) rfl ?_
      refine lv_aload_n S.1 S.2.1 dX11_lacks_24 rfl (lv_at hl 0 rfl) ?_
      refine lv_iload_n S.1 S.2.1 dX11_lacks_25 rfl (lv_at hl 1 rfl) ?_
      refine aw_callV S hE (c_X11_lackedIn l G am fl n lw nn ra rsn nr tr wa tu (tbF (kA n lw sk tu) n 72 cn) (tn mo) (by first | assumption | omega) (by first | assumption | omega)) gX11_lacks_X11_lackedIn (n := 1) rfl (by decide +kernel) rfl (by rw [hRm]; exact ⟨Nat.le_of_ble_eq_true rfl, Nat.le_of_ble_eq_true rfl⟩) (by rw [hRm]; exact ⟨Nat.le_of_ble_eq_true rfl, Nat.le_of_ble_eq_true rfl⟩) hw hA hl.1 [0, 5, 6, 7] rfl rfl (aw_recv (i := 0) hE hw rfl rfl rfl) rfl (Nat.le_of_ble_eq_true rfl) dX11_lacks_26 ?_
      rintro v w1 H locs ⟨rfl, rfl⟩ hw
      have hw : bW G A s.heap [[(am 31, mdO am fl n lw nn ra rsn nr tr)], [(am 2, .inl (gI G, 6, .inl kd))], [(am 3, .inl (gI G, 6, .inl sk))], [(am 4, .inl (gI G, 6, .inl br))], [(am 5, .inl (gI G, 12, .inl tu))], [(am 6, .inl (gI G, 12, .inl wa))], [(am 16, .inl (gI G, 12, .inl tu))], [(am 17, .inl (gI G, 72, .inl (tbF (kA n lw sk tu) n 72 cn)))], [(am 18, .inl (gI G, 72, .inl (tbF (fun m => hB n (fun j => hoK (kd j)) tu (m + 1)) n 72 hb)))]] H locs := hw
      refine W.eq (g2 := (F0 m 29 ls [.int (wa (tn mo) &&& (tgF (tu (tn mo)) (fun s => (tbF (kA n lw sk tu) n 72 cn) (6 * (tn mo) + s)) n ^^^ (-1)))])) rfl ?_
      refine aw_eqi (show (wa (tn mo) &&& (tgF (tu (tn mo)) (fun s => (tbF (kA n lw sk tu) n 72 cn) (6 * (tn mo) + s)) n ^^^ (-1)) : Int32) = f_ms n mo (lkF n lw sk tu wa (tn mo)) from (by rw [f_ms, if_pos c4, if_neg c14]; exact lk_tb hn (by omega))) ?_
      exact aw_iret S hr hlk ha hQ hAe hw dX11_lacks_29 rfl (Nat.le_of_ble_eq_true rfl) (Nat.le_of_ble_eq_true rfl) ⟨rfl, _, _, _, rfl⟩
    · refine lv_bipush (v := (-3)) S.1 S.2.1 dX11_lacks_17 (by decide) ?_
      refine aw_eqi (show ((-3) : Int32) = f_ms n mo (lkF n lw sk tu wa (tn mo)) from (by rw [f_ms, if_pos c4, if_pos c14])) ?_
      exact aw_iret S hr hlk ha hQ hAe hw dX11_lacks_19 rfl (Nat.le_of_ble_eq_true rfl) (Nat.le_of_ble_eq_true rfl) ⟨rfl, _, _, _, rfl⟩
  · refine lv_bipush (v := (-2)) S.1 S.2.1 dX11_lacks_7 (by decide) ?_
    refine aw_eqi (show ((-2) : Int32) = f_ms n mo (lkF n lw sk tu wa (tn mo)) from (by rw [f_ms, if_neg c4])) ?_
    exact aw_iret S hr hlk ha hQ hAe hw dX11_lacks_9 rfl (Nat.le_of_ble_eq_true rfl) (Nat.le_of_ble_eq_true rfl) ⟨rfl, _, _, _, rfl⟩
set_option maxRecDepth 100000 in
set_option maxHeartbeats 4000000 in
theorem c_X11_wrong (l : Launch) (G : aw_G) (am : Nat → Nat) (fl : Int32) (n : Nat) (lw : Int32) (nn ra rsn nr : Nat) (tr : Int32) (kd sk br tu wa me cn hb : Nat → Int32) (wt : Int32) (hn : n ≤ 6) (hwa : ∀ m, m < 12 → 0 ≤ (wa m).toInt) : CT l G yX11_wrong wsX11_wrong ({ frames := 4, cells := 0, slots := 0, locals := 89 }) [.ref (am 31), .int wt] [[(am 31, mdO am fl n lw nn ra rsn nr tr)], [(am 2, .inl (gI G, 6, .inl kd))], [(am 3, .inl (gI G, 6, .inl sk))], [(am 4, .inl (gI G, 6, .inl br))], [(am 5, .inl (gI G, 12, .inl tu))], [(am 6, .inl (gI G, 12, .inl wa))], [(am 16, .inl (gI G, 12, .inl me))], [(am 17, .inl (gI G, 72, .inl cn))], [(am 18, .inl (gI G, 72, .inl hb))]] (fun v w => v = some (.int (f_wrong n lw sk (fun j => hoK (kd j)) br tu wa wt)) ∧ ∃ (me cn hb : Nat → Int32), w = [[(am 31, mdO am fl n lw nn ra rsn nr tr)], [(am 2, .inl (gI G, 6, .inl kd))], [(am 3, .inl (gI G, 6, .inl sk))], [(am 4, .inl (gI G, 6, .inl br))], [(am 5, .inl (gI G, 12, .inl tu))], [(am 6, .inl (gI G, 12, .inl wa))], [(am 16, .inl (gI G, 12, .inl me))], [(am 17, .inl (gI G, 72, .inl cn))], [(am 18, .inl (gI G, 72, .inl hb))]]) := by
  refine CT.of (cc := cX11_wrong) (nL := 3) (ret := (some .int)) (by decide) rfl (Nat.le_of_ble_eq_true rfl) ?_
  intro p e s m below meth c R args Q A hRm ha hQ hAe hA S hE hr hlk hnm H locs hH0 hL0 ls hl hw
  have S : CallFix p m c cX11_wrong 3 s args wsX11_wrong RX11 := S
  have hl : lv_has ls 3 [(0, .ref (am 31)), (1, .int wt)] := hl
  have hinX11 : ∀ w ∈ u_ws RX11 TX11 31, w ∈ wsX11_wrong := by decide +kernel
  have hf90 := S.2.2.2.2 (.fieldLink RX11 90 "AwakeTurnsModel" "sleepers" "I") (by decide +kernel)
  refine lv_iload_n S.1 S.2.1 dX11_wrong_0 rfl (lv_at hl 1 rfl) ?_
  refine lv_i2l S.1 S.2.1 dX11_wrong_1 rfl ?_
  refine lv_lconst (v := 0) S.1 S.2.1 dX11_wrong_2 (by decide) ?_
  refine lv_ldc2 (v := 2) S.1 S.2.1 S.2.2.2.1 (S.2.2.2.2 (.constantLong RX11 132 2) (by decide +kernel)) dX11_wrong_3 ?_
  refine aw_callS S hE (c_X11_in l G wt.toInt64 0 2) gX11_wrong_X11_in (n := 3) rfl (by decide +kernel) rfl (by rw [hRm]; exact ⟨Nat.le_of_ble_eq_true rfl, Nat.le_of_ble_eq_true rfl⟩) (by rw [hRm]; exact ⟨Nat.le_of_ble_eq_true rfl, Nat.le_of_ble_eq_true rfl⟩) hw hA hl.1 [] rfl rfl rfl (Nat.le_of_ble_eq_true rfl) dX11_wrong_6 ?_
  rintro v w1 H locs ⟨rfl, rfl⟩ hw
  have hw : bW G A s.heap [[(am 31, mdO am fl n lw nn ra rsn nr tr)], [(am 2, .inl (gI G, 6, .inl kd))], [(am 3, .inl (gI G, 6, .inl sk))], [(am 4, .inl (gI G, 6, .inl br))], [(am 5, .inl (gI G, 12, .inl tu))], [(am 6, .inl (gI G, 12, .inl wa))], [(am 16, .inl (gI G, 12, .inl me))], [(am 17, .inl (gI G, 72, .inl cn))], [(am 18, .inl (gI G, 72, .inl hb))]] H locs := hw
  refine W.eq (g2 := (F0 m 9 ls [.int (if Int64.toInt 0 ≤ Int64.toInt wt.toInt64 ∧ Int64.toInt wt.toInt64 ≤ Int64.toInt 2 then 1 else 0)])) rfl ?_
  refine aw_ifne (P := Int64.toInt 0 ≤ Int64.toInt wt.toInt64 ∧ Int64.toInt wt.toInt64 ≤ Int64.toInt 2) (tgt := 15) S dX11_wrong_9 (by decide) (fun c9 => ?_) (fun c9 => ?_)
  · rw [l64, l64_0, l64_2] at c9
    refine lv_aload_n S.1 S.2.1 dX11_wrong_15 rfl (lv_at hl 0 rfl) ?_
    refine aw_get S hE hw 0 (C := RX11) (T := TX11) (N := 31) rfl rfl hinX11 1 (by decide) hf90 rfl dX11_wrong_16 ?_
    refine aw_ifN_ne (x := n) (tgt := 25) S (by omega) dX11_wrong_19 (by decide) (fun c19 => ?_) (fun c19 => ?_)
    · refine lv_aload_n S.1 S.2.1 dX11_wrong_25 rfl (lv_at hl 0 rfl) ?_
      refine aw_callV S hE (c_X11_goTold l G am fl n lw nn ra rsn nr tr kd sk tu me cn hb (by first | assumption | omega)) gX11_wrong_X11_goTold (n := 0) rfl (by decide +kernel) rfl (by rw [hRm]; exact ⟨Nat.le_of_ble_eq_true rfl, Nat.le_of_ble_eq_true rfl⟩) (by rw [hRm]; exact ⟨Nat.le_of_ble_eq_true rfl, Nat.le_of_ble_eq_true rfl⟩) hw hA hl.1 [0, 1, 2, 4, 6, 7, 8] rfl rfl (aw_recv (i := 0) hE hw rfl rfl rfl) rfl (Nat.le_of_ble_eq_true rfl) dX11_wrong_26 ?_
      rintro v w1 H locs ⟨rfl, rfl⟩ hw
      have hw : bW G A s.heap [[(am 31, mdO am fl n lw nn ra rsn nr tr)], [(am 2, .inl (gI G, 6, .inl kd))], [(am 3, .inl (gI G, 6, .inl sk))], [(am 4, .inl (gI G, 6, .inl br))], [(am 5, .inl (gI G, 12, .inl tu))], [(am 6, .inl (gI G, 12, .inl wa))], [(am 16, .inl (gI G, 12, .inl tu))], [(am 17, .inl (gI G, 72, .inl (tbF (kA n lw sk tu) n 72 cn)))], [(am 18, .inl (gI G, 72, .inl (tbF (fun m => hB n (fun j => hoK (kd j)) tu (m + 1)) n 72 hb)))]] H locs := hw
      refine W.eq (g2 := (F0 m 29 ls [])) rfl ?_
      refine lv_iconst (v := 0) S.1 S.2.1 dX11_wrong_29 (by decide) ?_
      refine lv_istore_n (lv' := [(2, .int 0), (0, .ref (am 31)), (1, .int wt)]) S.1 S.2.1 dX11_wrong_30 rfl hl (by decide) rfl (fun ls hl => ?_)
      have loop31 : ∀ (fu : Nat) (i : Nat), (i ≤ 12) → (∀ j, j < i → wrP n lw sk (fun j => hoK (kd j)) br tu wa (decide (wt = 0)) (decide (¬ wt = 0)) j = false) → (12 - i) < fu → ∀ (ls : Array Slot) (H : Heap) (locs : List Loc), lv_has ls 3 [(0, .ref (am 31)), (1, .int wt), (2, .int (nI i))] → bW G A s.heap [[(am 31, mdO am fl n lw nn ra rsn nr tr)], [(am 2, .inl (gI G, 6, .inl kd))], [(am 3, .inl (gI G, 6, .inl sk))], [(am 4, .inl (gI G, 6, .inl br))], [(am 5, .inl (gI G, 12, .inl tu))], [(am 6, .inl (gI G, 12, .inl wa))], [(am 16, .inl (gI G, 12, .inl tu))], [(am 17, .inl (gI G, 72, .inl (tbF (kA n lw sk tu) n 72 cn)))], [(am 18, .inl (gI G, 72, .inl (tbF (fun m => hB n (fun j => hoK (kd j)) tu (m + 1)) n 72 hb)))]] H locs → W p l e R s m args below meth c H locs 0 0 Q (F0 m 31 ls []) := by
        intro fu
        induction fu with
        | zero => intro i _ _ hm; exact absurd hm (Nat.not_lt_zero _)
        | succ fu ih31 =>
          intro i hi hlt hm ls H locs hl hw
          refine lv_iload_n S.1 S.2.1 dX11_wrong_31 rfl (lv_at hl 2 rfl) ?_
          refine lv_bipush (v := 12) S.1 S.2.1 dX11_wrong_32 (by decide) ?_
          refine aw_icmpN_ge (x := i) (y := 12) (tgt := 82) S (by omega) (by omega) dX11_wrong_34 (by decide) (fun c34 => ?_) (fun c34 => ?_)
          · have ex_i : i = 12 := by omega
            rw [ex_i] at hlt
            refine lv_bipush (v := (-9)) S.1 S.2.1 dX11_wrong_82 (by decide) ?_
            refine aw_eqi (show ((-9) : Int32) = f_wrong n lw sk (fun j => hoK (kd j)) br tu wa wt from (f_wrong_no c9 c19 hlt).symm) ?_
            exact aw_iret S hr hlk ha hQ hAe hw dX11_wrong_84 rfl (Nat.le_of_ble_eq_true rfl) (Nat.le_of_ble_eq_true rfl) ⟨rfl, _, _, _, rfl⟩
          · refine lv_iload_n S.1 S.2.1 dX11_wrong_37 rfl (lv_at hl 1 rfl) ?_
            refine lv_if_ne (tgt := 49) S.1 S.2.1 dX11_wrong_38 (by decide) (fun c38 => ?_) (fun c38 => ?_)
            · refine lv_iload_n S.1 S.2.1 dX11_wrong_49 rfl (lv_at hl 1 rfl) ?_
              refine lv_if_le (tgt := 76) S.1 S.2.1 dX11_wrong_50 (by decide) (fun c50 => ?_) (fun c50 => ?_)
              · exact absurd c50 (by rw [fa_le, li_0]; rw [fa_eq, li_0] at c38; omega)
              · refine lv_aload_n S.1 S.2.1 dX11_wrong_53 rfl (lv_at hl 0 rfl) ?_
                refine lv_iload_n S.1 S.2.1 dX11_wrong_54 rfl (lv_at hl 2 rfl) ?_
                refine aw_callV S hE (c_X11_spentIn l G am fl n lw nn ra rsn nr tr br (tbF (fun m => hB n (fun j => hoK (kd j)) tu (m + 1)) n 72 hb) i (by first | assumption | omega) (by first | assumption | omega)) gX11_wrong_X11_spentIn (n := 1) rfl (by decide +kernel) rfl (by rw [hRm]; exact ⟨Nat.le_of_ble_eq_true rfl, Nat.le_of_ble_eq_true rfl⟩) (by rw [hRm]; exact ⟨Nat.le_of_ble_eq_true rfl, Nat.le_of_ble_eq_true rfl⟩) hw hA hl.1 [0, 3, 8] rfl rfl (aw_recv (i := 0) hE hw rfl rfl rfl) rfl (Nat.le_of_ble_eq_true rfl) dX11_wrong_55 ?_
                rintro v w1 H locs ⟨rfl, rfl⟩ hw
                have hw : bW G A s.heap [[(am 31, mdO am fl n lw nn ra rsn nr tr)], [(am 2, .inl (gI G, 6, .inl kd))], [(am 3, .inl (gI G, 6, .inl sk))], [(am 4, .inl (gI G, 6, .inl br))], [(am 5, .inl (gI G, 12, .inl tu))], [(am 6, .inl (gI G, 12, .inl wa))], [(am 16, .inl (gI G, 12, .inl tu))], [(am 17, .inl (gI G, 72, .inl (tbF (kA n lw sk tu) n 72 cn)))], [(am 18, .inl (gI G, 72, .inl (tbF (fun m => hB n (fun j => hoK (kd j)) tu (m + 1)) n 72 hb)))]] H locs := hw
                refine W.eq (g2 := (F0 m 58 ls [.int (spF n br (fun s => (tbF (fun m => hB n (fun j => hoK (kd j)) tu (m + 1)) n 72 hb) (6 * i + s)))])) rfl ?_
                refine aw_eqi (show (spF n br (fun s => (tbF (fun m => hB n (fun j => hoK (kd j)) tu (m + 1)) n 72 hb) (6 * i + s)) : Int32) = spF n br (hB n (fun j => hoK (kd j)) tu (i + 1)) from (sp_tb hn (by omega))) ?_
                refine lv_if_lt (tgt := 76) S.1 S.2.1 dX11_wrong_58 (by decide) (fun c58 => ?_) (fun c58 => ?_)
                · have hz : wrP n lw sk (fun j => hoK (kd j)) br tu wa (decide (wt = 0)) (decide (¬ wt = 0)) i = false := by rw [wrP_s c38, Bool.not_eq_false', decide_eq_true_eq]; exact (sp_neg hn).mp c58
                  refine lv_iinc (v := nI (i + 1)) (lv' := [(2, .int (nI (i + 1))), (0, .ref (am 31)), (1, .int wt)]) S.1 S.2.1 dX11_wrong_76 hl (k := 2) rfl (by first | exact nI_1 _ | exact nI_add _ _ | rfl) (by decide) rfl (fun ls hl => ?_)
                  refine lv_goto (tgt := 31) S.1 S.2.1 dX11_wrong_79 (by decide) ?_
                  exact ih31 (i + 1) (by first | assumption | omega) (lt_next hlt hz) (by omega) _ _ _ (lv_sub hl [1, 2, 0] rfl) hw
                · have hat : wrP n lw sk (fun j => hoK (kd j)) br tu wa (decide (wt = 0)) (decide (¬ wt = 0)) i = true := by rw [wrP_s c38, Bool.not_eq_true', decide_eq_false_iff_not]; exact fun q => c58 ((sp_neg hn).mpr q)
                  refine lv_iload_n S.1 S.2.1 dX11_wrong_61 rfl (lv_at hl 1 rfl) ?_
                  refine lv_iconst (v := 2) S.1 S.2.1 dX11_wrong_62 (by decide) ?_
                  refine lv_icmp_ne (tgt := 74) S.1 S.2.1 dX11_wrong_63 (by decide) (fun c63 => ?_) (fun c63 => ?_)
                  · refine lv_iload_n S.1 S.2.1 dX11_wrong_74 rfl (lv_at hl 2 rfl) ?_
                    refine aw_eqi (show (nI i : Int32) = f_wrong n lw sk (fun j => hoK (kd j)) br tu wa wt from (by rw [f_wrong_at c9 c19 c34 hat hlt, if_neg c63])) ?_
                    exact aw_iret S hr hlk ha hQ hAe hw dX11_wrong_75 rfl (Nat.le_of_ble_eq_true rfl) (Nat.le_of_ble_eq_true rfl) ⟨rfl, _, _, _, rfl⟩
                  · refine lv_aload_n S.1 S.2.1 dX11_wrong_66 rfl (lv_at hl 0 rfl) ?_
                    refine lv_iload_n S.1 S.2.1 dX11_wrong_67 rfl (lv_at hl 2 rfl) ?_
                    refine aw_callV S hE (c_X11_spentIn l G am fl n lw nn ra rsn nr tr br (tbF (fun m => hB n (fun j => hoK (kd j)) tu (m + 1)) n 72 hb) i (by first | assumption | omega) (by first | assumption | omega)) gX11_wrong_X11_spentIn (n := 1) rfl (by decide +kernel) rfl (by rw [hRm]; exact ⟨Nat.le_of_ble_eq_true rfl, Nat.le_of_ble_eq_true rfl⟩) (by rw [hRm]; exact ⟨Nat.le_of_ble_eq_true rfl, Nat.le_of_ble_eq_true rfl⟩) hw hA hl.1 [0, 3, 8] rfl rfl (aw_recv (i := 0) hE hw rfl rfl rfl) rfl (Nat.le_of_ble_eq_true rfl) dX11_wrong_68 ?_
                    rintro v w1 H locs ⟨rfl, rfl⟩ hw
                    have hw : bW G A s.heap [[(am 31, mdO am fl n lw nn ra rsn nr tr)], [(am 2, .inl (gI G, 6, .inl kd))], [(am 3, .inl (gI G, 6, .inl sk))], [(am 4, .inl (gI G, 6, .inl br))], [(am 5, .inl (gI G, 12, .inl tu))], [(am 6, .inl (gI G, 12, .inl wa))], [(am 16, .inl (gI G, 12, .inl tu))], [(am 17, .inl (gI G, 72, .inl (tbF (kA n lw sk tu) n 72 cn)))], [(am 18, .inl (gI G, 72, .inl (tbF (fun m => hB n (fun j => hoK (kd j)) tu (m + 1)) n 72 hb)))]] H locs := hw
                    refine W.eq (g2 := (F0 m 71 ls [.int (spF n br (fun s => (tbF (fun m => hB n (fun j => hoK (kd j)) tu (m + 1)) n 72 hb) (6 * i + s)))])) rfl ?_
                    refine aw_eqi (show (spF n br (fun s => (tbF (fun m => hB n (fun j => hoK (kd j)) tu (m + 1)) n 72 hb) (6 * i + s)) : Int32) = spF n br (hB n (fun j => hoK (kd j)) tu (i + 1)) from (sp_tb hn (by omega))) ?_
                    refine lv_goto (tgt := 75) S.1 S.2.1 dX11_wrong_71 (by decide) ?_
                    refine aw_eqi (show (spF n br (hB n (fun j => hoK (kd j)) tu (i + 1)) : Int32) = f_wrong n lw sk (fun j => hoK (kd j)) br tu wa wt from (by rw [f_wrong_at c9 c19 c34 hat hlt, if_pos c63])) ?_
                    exact aw_iret S hr hlk ha hQ hAe hw dX11_wrong_75 rfl (Nat.le_of_ble_eq_true rfl) (Nat.le_of_ble_eq_true rfl) ⟨rfl, _, _, _, rfl⟩
            · refine lv_aload_n S.1 S.2.1 dX11_wrong_41 rfl (lv_at hl 0 rfl) ?_
              refine lv_iload_n S.1 S.2.1 dX11_wrong_42 rfl (lv_at hl 2 rfl) ?_
              refine aw_callV S hE (c_X11_lackedIn l G am fl n lw nn ra rsn nr tr wa tu (tbF (kA n lw sk tu) n 72 cn) i (by first | assumption | omega) (by first | assumption | omega)) gX11_wrong_X11_lackedIn (n := 1) rfl (by decide +kernel) rfl (by rw [hRm]; exact ⟨Nat.le_of_ble_eq_true rfl, Nat.le_of_ble_eq_true rfl⟩) (by rw [hRm]; exact ⟨Nat.le_of_ble_eq_true rfl, Nat.le_of_ble_eq_true rfl⟩) hw hA hl.1 [0, 5, 6, 7] rfl rfl (aw_recv (i := 0) hE hw rfl rfl rfl) rfl (Nat.le_of_ble_eq_true rfl) dX11_wrong_43 ?_
              rintro v w1 H locs ⟨rfl, rfl⟩ hw
              have hw : bW G A s.heap [[(am 31, mdO am fl n lw nn ra rsn nr tr)], [(am 2, .inl (gI G, 6, .inl kd))], [(am 3, .inl (gI G, 6, .inl sk))], [(am 4, .inl (gI G, 6, .inl br))], [(am 5, .inl (gI G, 12, .inl tu))], [(am 6, .inl (gI G, 12, .inl wa))], [(am 16, .inl (gI G, 12, .inl tu))], [(am 17, .inl (gI G, 72, .inl (tbF (kA n lw sk tu) n 72 cn)))], [(am 18, .inl (gI G, 72, .inl (tbF (fun m => hB n (fun j => hoK (kd j)) tu (m + 1)) n 72 hb)))]] H locs := hw
              refine W.eq (g2 := (F0 m 46 ls [.int (wa i &&& (tgF (tu i) (fun s => (tbF (kA n lw sk tu) n 72 cn) (6 * i + s)) n ^^^ (-1)))])) rfl ?_
              refine aw_eqi (show (wa i &&& (tgF (tu i) (fun s => (tbF (kA n lw sk tu) n 72 cn) (6 * i + s)) n ^^^ (-1)) : Int32) = lkF n lw sk tu wa i from (lk_tb hn (by omega))) ?_
              refine lv_if_gt (tgt := 61) S.1 S.2.1 dX11_wrong_46 (by decide) (fun c46 => ?_) (fun c46 => ?_)
              · have hat : wrP n lw sk (fun j => hoK (kd j)) br tu wa (decide (wt = 0)) (decide (¬ wt = 0)) i = true := by rw [wrP_l c38, Bool.not_eq_true', decide_eq_false_iff_not]; exact (lk_pos (hwa i (by omega))).mp c46
                refine lv_iload_n S.1 S.2.1 dX11_wrong_61 rfl (lv_at hl 1 rfl) ?_
                refine lv_iconst (v := 2) S.1 S.2.1 dX11_wrong_62 (by decide) ?_
                refine lv_icmp_ne (tgt := 74) S.1 S.2.1 dX11_wrong_63 (by decide) (fun c63 => ?_) (fun c63 => ?_)
                · refine lv_iload_n S.1 S.2.1 dX11_wrong_74 rfl (lv_at hl 2 rfl) ?_
                  refine aw_eqi (show (nI i : Int32) = f_wrong n lw sk (fun j => hoK (kd j)) br tu wa wt from (by rw [f_wrong_at c9 c19 c34 hat hlt, if_neg c63])) ?_
                  exact aw_iret S hr hlk ha hQ hAe hw dX11_wrong_75 rfl (Nat.le_of_ble_eq_true rfl) (Nat.le_of_ble_eq_true rfl) ⟨rfl, _, _, _, rfl⟩
                · exact absurd (c38.symm.trans c63) (by decide)
              · have hz : wrP n lw sk (fun j => hoK (kd j)) br tu wa (decide (wt = 0)) (decide (¬ wt = 0)) i = false := by rw [wrP_l c38, Bool.not_eq_false', decide_eq_true_eq]; exact Decidable.not_not.mp (fun q => c46 ((lk_pos (hwa i (by omega))).mpr q))
                refine lv_iload_n S.1 S.2.1 dX11_wrong_49 rfl (lv_at hl 1 rfl) ?_
                refine lv_if_le (tgt := 76) S.1 S.2.1 dX11_wrong_50 (by decide) (fun c50 => ?_) (fun c50 => ?_)
                · refine lv_iinc (v := nI (i + 1)) (lv' := [(2, .int (nI (i + 1))), (0, .ref (am 31)), (1, .int wt)]) S.1 S.2.1 dX11_wrong_76 hl (k := 2) rfl (by first | exact nI_1 _ | exact nI_add _ _ | rfl) (by decide) rfl (fun ls hl => ?_)
                  refine lv_goto (tgt := 31) S.1 S.2.1 dX11_wrong_79 (by decide) ?_
                  exact ih31 (i + 1) (by first | assumption | omega) (lt_next hlt hz) (by omega) _ _ _ (lv_sub hl [1, 2, 0] rfl) hw
                · exact absurd c50 (by rw [c38]; decide)
      exact loop31 _ 0 (by first | assumption | omega) (fun j hj => absurd hj (Nat.not_lt_zero j)) (Nat.lt_succ_self _) _ _ _ (lv_sub hl [1, 2, 0] rfl) hw
    · refine lv_bipush (v := (-3)) S.1 S.2.1 dX11_wrong_22 (by decide) ?_
      refine aw_eqi (show ((-3) : Int32) = f_wrong n lw sk (fun j => hoK (kd j)) br tu wa wt from (by rw [f_wrong, if_pos c9, if_pos c19])) ?_
      exact aw_iret S hr hlk ha hQ hAe hw dX11_wrong_24 rfl (Nat.le_of_ble_eq_true rfl) (Nat.le_of_ble_eq_true rfl) ⟨rfl, _, _, _, rfl⟩
  · rw [l64, l64_0, l64_2] at c9
    refine lv_bipush (v := (-2)) S.1 S.2.1 dX11_wrong_12 (by decide) ?_
    refine aw_eqi (show ((-2) : Int32) = f_wrong n lw sk (fun j => hoK (kd j)) br tu wa wt from (by rw [f_wrong, if_neg c9])) ?_
    exact aw_iret S hr hlk ha hQ hAe hw dX11_wrong_14 rfl (Nat.le_of_ble_eq_true rfl) (Nat.le_of_ble_eq_true rfl) ⟨rfl, _, _, _, rfl⟩
set_option maxRecDepth 100000 in
set_option maxHeartbeats 4000000 in
theorem c_X11_doMeet (l : Launch) (G : aw_G) (am : Nat → Nat) (fl : Int32) (n : Nat) (lw : Int32) (nn ra rsn nr : Nat) (tr : Int32) (sk wa : Nat → Int32) (S_ mo : Nat) (hn : n ≤ 6) (hS : S_ < 64) (hmo : mo < 12) : CT l G yX11_doMeet wsX11_doMeet ({ frames := 1, cells := 0, slots := 0, locals := 21 }) [.ref (am 31), .int (nI S_), .int (nI mo)] [[(am 31, mdO am fl n lw nn ra rsn nr tr)], [(am 3, .inl (gI G, 6, .inl sk))], [(am 6, .inl (gI G, 12, .inl wa))]] (dt (some (.int (if mtP (soC n sk) (wa mo) S_ = true then 1 else 0))) [[(am 31, mdO am fl n lw nn ra rsn nr tr)], [(am 3, .inl (gI G, 6, .inl sk))], [(am 6, .inl (gI G, 12, .inl wa))]]) := by
  refine CT.of (cc := cX11_doMeet) (nL := 5) (ret := (some .boolean)) (by decide) rfl (Nat.le_of_ble_eq_true rfl) ?_
  intro p e s m below meth c R args Q A hRm ha hQ hAe hA S hE hr hlk hnm H locs hH0 hL0 ls hl hw
  have S : CallFix p m c cX11_doMeet 5 s args wsX11_doMeet RX11 := S
  have hl : lv_has ls 5 [(0, .ref (am 31)), (1, .int (nI S_)), (2, .int (nI mo))] := hl
  have hinX11 : ∀ w ∈ u_ws RX11 TX11 31, w ∈ wsX11_doMeet := by decide +kernel
  have hf90 := S.2.2.2.2 (.fieldLink RX11 90 "AwakeTurnsModel" "sleepers" "I") (by decide +kernel)
  have hf22 := S.2.2.2.2 (.fieldLink RX11 22 "AwakeTurnsModel" "wantedIn" "[I") (by decide +kernel)
  have hf13 := S.2.2.2.2 (.fieldLink RX11 13 "AwakeTurnsModel" "skillsOf" "[I") (by decide +kernel)
  refine lv_iconst (v := 0) S.1 S.2.1 dX11_doMeet_0 (by decide) ?_
  refine lv_istore_n (lv' := [(3, .int 0), (0, .ref (am 31)), (1, .int (nI S_)), (2, .int (nI mo))]) S.1 S.2.1 dX11_doMeet_1 rfl hl (by decide) rfl (fun ls hl => ?_)
  refine lv_iconst (v := 0) S.1 S.2.1 dX11_doMeet_2 (by decide) ?_
  refine lv_istore (lv' := [(4, .int 0), (3, .int 0), (0, .ref (am 31)), (1, .int (nI S_)), (2, .int (nI mo))]) S.1 S.2.1 dX11_doMeet_3 hl (by decide) rfl (fun ls hl => ?_)
  have loop5 : ∀ (fu : Nat) (i : Nat), (i ≤ n) → (n - i) < fu → ∀ (ls : Array Slot) (H : Heap) (locs : List Loc), lv_has ls 5 [(0, .ref (am 31)), (1, .int (nI S_)), (2, .int (nI mo)), (3, .int (tgF (nI S_) sk i)), (4, .int (nI i))] → bW G A s.heap [[(am 31, mdO am fl n lw nn ra rsn nr tr)], [(am 3, .inl (gI G, 6, .inl sk))], [(am 6, .inl (gI G, 12, .inl wa))]] H locs → W p l e R s m args below meth c H locs 0 0 Q (F0 m 5 ls []) := by
    intro fu
    induction fu with
    | zero => intro i _ hm; exact absurd hm (Nat.not_lt_zero _)
    | succ fu ih5 =>
      intro i hi hm ls H locs hl hw
      refine lv_iload S.1 S.2.1 dX11_doMeet_5 (lv_at hl 4 rfl) ?_
      refine lv_aload_n S.1 S.2.1 dX11_doMeet_7 rfl (lv_at hl 0 rfl) ?_
      refine aw_get S hE hw 0 (C := RX11) (T := TX11) (N := 31) rfl rfl hinX11 1 (by decide) hf90 rfl dX11_doMeet_8 ?_
      refine aw_icmpN_ge (x := i) (y := n) (tgt := 43) S (by omega) (by omega) dX11_doMeet_11 (by decide) (fun c11 => ?_) (fun c11 => ?_)
      · have ex_i : i = n := by omega
        try rw [ex_i] at hl
        try rw [ex_i] at hw
        refine lv_aload_n S.1 S.2.1 dX11_doMeet_43 rfl (lv_at hl 0 rfl) ?_
        refine aw_get S hE hw 0 (C := RX11) (T := TX11) (N := 31) rfl rfl hinX11 6 (by decide) hf22 rfl dX11_doMeet_44 ?_
        refine lv_iload_n S.1 S.2.1 dX11_doMeet_47 rfl (lv_at hl 2 rfl) ?_
        refine aw_iald S hE hw 2 (k := mo) rfl (by omega) (by decide) dX11_doMeet_48 ?_
        refine lv_iload_n S.1 S.2.1 dX11_doMeet_49 rfl (lv_at hl 3 rfl) ?_
        refine lv_iconst (v := (-1)) S.1 S.2.1 dX11_doMeet_50 (by decide) ?_
        refine lv_ixor S.1 S.2.1 dX11_doMeet_51 ?_
        refine lv_iand S.1 S.2.1 dX11_doMeet_52 ?_
        refine lv_if_ne (tgt := 60) S.1 S.2.1 dX11_doMeet_53 (by decide) (fun c53 => ?_) (fun c53 => ?_)
        · refine lv_iconst (v := 0) S.1 S.2.1 dX11_doMeet_60 (by decide) ?_
          refine aw_eqi (show (0 : Int32) = if mtP (soC n sk) (wa mo) S_ = true then 1 else 0 from (by rw [if_neg (show ¬ mtP (soC n sk) (wa mo) S_ = true from fun q => c53 (of_decide_eq_true q))])) ?_
          exact aw_iret S hr hlk ha hQ hAe hw dX11_doMeet_61 (aw_nb _) (Nat.le_of_ble_eq_true rfl) (Nat.le_of_ble_eq_true rfl) ⟨rfl, rfl⟩
        · refine lv_iconst (v := 1) S.1 S.2.1 dX11_doMeet_56 (by decide) ?_
          refine lv_goto (tgt := 61) S.1 S.2.1 dX11_doMeet_57 (by decide) ?_
          refine aw_eqi (show (1 : Int32) = if mtP (soC n sk) (wa mo) S_ = true then 1 else 0 from (by rw [if_pos (show mtP (soC n sk) (wa mo) S_ = true from decide_eq_true c53)])) ?_
          exact aw_iret S hr hlk ha hQ hAe hw dX11_doMeet_61 (aw_nb _) (Nat.le_of_ble_eq_true rfl) (Nat.le_of_ble_eq_true rfl) ⟨rfl, rfl⟩
      · refine lv_iload_n S.1 S.2.1 dX11_doMeet_14 rfl (lv_at hl 3 rfl) ?_
        refine lv_iload_n S.1 S.2.1 dX11_doMeet_15 rfl (lv_at hl 1 rfl) ?_
        refine lv_iload S.1 S.2.1 dX11_doMeet_16 (lv_at hl 4 rfl) ?_
        refine aw_callS S hE (c_X11_isIn l G (nI S_) i (by first | assumption | omega)) gX11_doMeet_X11_isIn (n := 2) rfl (by decide +kernel) rfl (by rw [hRm]; exact ⟨Nat.le_of_ble_eq_true rfl, Nat.le_of_ble_eq_true rfl⟩) (by rw [hRm]; exact ⟨Nat.le_of_ble_eq_true rfl, Nat.le_of_ble_eq_true rfl⟩) hw hA hl.1 [] rfl rfl rfl (Nat.le_of_ble_eq_true rfl) dX11_doMeet_18 ?_
        rintro v w1 H locs ⟨rfl, rfl⟩ hw
        have hw : bW G A s.heap [[(am 31, mdO am fl n lw nn ra rsn nr tr)], [(am 3, .inl (gI G, 6, .inl sk))], [(am 6, .inl (gI G, 12, .inl wa))]] H locs := hw
        refine W.eq (g2 := (F0 m 21 ls [.int (if bt (nI S_) i = true then 1 else 0), .int (tgF (nI S_) sk i)])) rfl ?_
        have join35 : ∀ (H : Heap) (locs : List Loc), ∀ (ls : Array Slot), lv_has ls 5 [(0, .ref (am 31)), (1, .int (nI S_)), (2, .int (nI mo)), (3, .int (tgF (nI S_) sk i)), (4, .int (nI i))] → bW G A s.heap [[(am 31, mdO am fl n lw nn ra rsn nr tr)], [(am 3, .inl (gI G, 6, .inl sk))], [(am 6, .inl (gI G, 12, .inl wa))]] H locs → W p l e R s m args below meth c H locs 0 0 Q (F0 m 35 ls [.int (if bt (nI S_) i = true then sk i else 0), .int (tgF (nI S_) sk i)]) := by
          intro  H locs ls hl hw
          refine lv_ior S.1 S.2.1 dX11_doMeet_35 ?_
          refine aw_eqi (show ((tgF (nI S_) sk i) ||| (if bt (nI S_) i = true then sk i else 0) : Int32) = tgF (nI S_) sk (i + 1) from (or_if _ _)) ?_
          refine lv_istore_n (lv' := [(3, .int (tgF (nI S_) sk (i + 1))), (0, .ref (am 31)), (1, .int (nI S_)), (2, .int (nI mo)), (4, .int (nI i))]) S.1 S.2.1 dX11_doMeet_36 rfl hl (by decide) rfl (fun ls hl => ?_)
          refine lv_iinc (v := nI (i + 1)) (lv' := [(4, .int (nI (i + 1))), (3, .int (tgF (nI S_) sk (i + 1))), (0, .ref (am 31)), (1, .int (nI S_)), (2, .int (nI mo))]) S.1 S.2.1 dX11_doMeet_37 hl (k := 4) rfl (by first | exact nI_1 _ | exact nI_add _ _ | rfl) (by decide) rfl (fun ls hl => ?_)
          refine lv_goto (tgt := 5) S.1 S.2.1 dX11_doMeet_40 (by decide) ?_
          exact ih5 (i + 1) (by first | assumption | omega) (by omega) _ _ _ (lv_sub hl [2, 3, 4, 1, 0] rfl) hw
        refine aw_ifeq (P := bt (nI S_) i = true) (tgt := 34) S dX11_doMeet_21 (by decide) (fun c21 => ?_) (fun c21 => ?_)
        · refine lv_iconst (v := 0) S.1 S.2.1 dX11_doMeet_34 (by decide) ?_
          refine aw_eqi (show (0 : Int32) = if bt (nI S_) i = true then sk i else 0 from (by rw [if_neg c21])) ?_
          exact join35  _ _ _ (lv_sub hl [0, 1, 2, 3, 4] rfl) hw
        · refine lv_aload_n S.1 S.2.1 dX11_doMeet_24 rfl (lv_at hl 0 rfl) ?_
          refine aw_get S hE hw 0 (C := RX11) (T := TX11) (N := 31) rfl rfl hinX11 3 (by decide) hf13 rfl dX11_doMeet_25 ?_
          refine lv_iload S.1 S.2.1 dX11_doMeet_28 (lv_at hl 4 rfl) ?_
          refine aw_iald S hE hw 1 (k := i) rfl (by omega) (by decide) dX11_doMeet_30 ?_
          refine lv_goto (tgt := 35) S.1 S.2.1 dX11_doMeet_31 (by decide) ?_
          refine aw_eqi (show (sk i : Int32) = if bt (nI S_) i = true then sk i else 0 from (by rw [if_pos c21])) ?_
          exact join35  _ _ _ (lv_sub hl [0, 1, 2, 3, 4] rfl) hw
  exact loop5 _ 0 (by first | assumption | omega) (Nat.lt_succ_self _) _ _ _ (lv_sub hl [2, 3, 4, 1, 0] rfl) hw
set_option maxRecDepth 100000 in
set_option maxHeartbeats 4000000 in
theorem c_X11_harmOf (l : Launch) (G : aw_G) (am : Nat → Nat) (fl : Int32) (n : Nat) (lw : Int32) (nn ra rsn nr : Nat) (tr : Int32) (kd : Nat → Int32) (S_ : Nat) (hn : n ≤ 6) (hS : S_ < 64) : CT l G yX11_harmOf wsX11_harmOf ({ frames := 1, cells := 0, slots := 0, locals := 21 }) [.ref (am 31), .int (nI S_)] [[(am 31, mdO am fl n lw nn ra rsn nr tr)], [(am 2, .inl (gI G, 6, .inl kd))]] (dt (some (.int (hsC n (fun j => hoK (kd j)) S_))) [[(am 31, mdO am fl n lw nn ra rsn nr tr)], [(am 2, .inl (gI G, 6, .inl kd))]]) := by
  refine CT.of (cc := cX11_harmOf) (nL := 4) (ret := (some .int)) (by decide) rfl (Nat.le_of_ble_eq_true rfl) ?_
  intro p e s m below meth c R args Q A hRm ha hQ hAe hA S hE hr hlk hnm H locs hH0 hL0 ls hl hw
  have S : CallFix p m c cX11_harmOf 4 s args wsX11_harmOf RX11 := S
  have hl : lv_has ls 4 [(0, .ref (am 31)), (1, .int (nI S_))] := hl
  have hinX11 : ∀ w ∈ u_ws RX11 TX11 31, w ∈ wsX11_harmOf := by decide +kernel
  have hf90 := S.2.2.2.2 (.fieldLink RX11 90 "AwakeTurnsModel" "sleepers" "I") (by decide +kernel)
  refine lv_iconst (v := 0) S.1 S.2.1 dX11_harmOf_0 (by decide) ?_
  refine lv_istore_n (lv' := [(2, .int 0), (0, .ref (am 31)), (1, .int (nI S_))]) S.1 S.2.1 dX11_harmOf_1 rfl hl (by decide) rfl (fun ls hl => ?_)
  refine lv_iconst (v := 0) S.1 S.2.1 dX11_harmOf_2 (by decide) ?_
  refine lv_istore_n (lv' := [(3, .int 0), (2, .int 0), (0, .ref (am 31)), (1, .int (nI S_))]) S.1 S.2.1 dX11_harmOf_3 rfl hl (by decide) rfl (fun ls hl => ?_)
  have loop4 : ∀ (fu : Nat) (i : Nat), (i ≤ n) → (n - i) < fu → ∀ (ls : Array Slot) (H : Heap) (locs : List Loc), lv_has ls 4 [(0, .ref (am 31)), (1, .int (nI S_)), (2, .int (hmF (nI S_) (fun j => hoK (kd j)) i)), (3, .int (nI i))] → bW G A s.heap [[(am 31, mdO am fl n lw nn ra rsn nr tr)], [(am 2, .inl (gI G, 6, .inl kd))]] H locs → W p l e R s m args below meth c H locs 0 0 Q (F0 m 4 ls []) := by
    intro fu
    induction fu with
    | zero => intro i _ hm; exact absurd hm (Nat.not_lt_zero _)
    | succ fu ih4 =>
      intro i hi hm ls H locs hl hw
      refine lv_iload_n S.1 S.2.1 dX11_harmOf_4 rfl (lv_at hl 3 rfl) ?_
      refine lv_aload_n S.1 S.2.1 dX11_harmOf_5 rfl (lv_at hl 0 rfl) ?_
      refine aw_get S hE hw 0 (C := RX11) (T := TX11) (N := 31) rfl rfl hinX11 1 (by decide) hf90 rfl dX11_harmOf_6 ?_
      refine aw_icmpN_ge (x := i) (y := n) (tgt := 38) S (by omega) (by omega) dX11_harmOf_9 (by decide) (fun c9 => ?_) (fun c9 => ?_)
      · have ex_i : i = n := by omega
        try rw [ex_i] at hl
        try rw [ex_i] at hw
        refine lv_iload_n S.1 S.2.1 dX11_harmOf_38 rfl (lv_at hl 2 rfl) ?_
        refine aw_eqi (show (hmF (nI S_) (fun j => hoK (kd j)) n : Int32) = hsC n (fun j => hoK (kd j)) S_ from rfl) ?_
        exact aw_iret S hr hlk ha hQ hAe hw dX11_harmOf_39 rfl (Nat.le_of_ble_eq_true rfl) (Nat.le_of_ble_eq_true rfl) ⟨rfl, rfl⟩
      · refine lv_iload_n S.1 S.2.1 dX11_harmOf_12 rfl (lv_at hl 2 rfl) ?_
        refine lv_iload_n S.1 S.2.1 dX11_harmOf_13 rfl (lv_at hl 1 rfl) ?_
        refine lv_iload_n S.1 S.2.1 dX11_harmOf_14 rfl (lv_at hl 3 rfl) ?_
        refine aw_callS S hE (c_X11_isIn l G (nI S_) i (by first | assumption | omega)) gX11_harmOf_X11_isIn (n := 2) rfl (by decide +kernel) rfl (by rw [hRm]; exact ⟨Nat.le_of_ble_eq_true rfl, Nat.le_of_ble_eq_true rfl⟩) (by rw [hRm]; exact ⟨Nat.le_of_ble_eq_true rfl, Nat.le_of_ble_eq_true rfl⟩) hw hA hl.1 [] rfl rfl rfl (Nat.le_of_ble_eq_true rfl) dX11_harmOf_15 ?_
        rintro v w1 H locs ⟨rfl, rfl⟩ hw
        have hw : bW G A s.heap [[(am 31, mdO am fl n lw nn ra rsn nr tr)], [(am 2, .inl (gI G, 6, .inl kd))]] H locs := hw
        refine W.eq (g2 := (F0 m 18 ls [.int (if bt (nI S_) i = true then 1 else 0), .int (hmF (nI S_) (fun j => hoK (kd j)) i)])) rfl ?_
        have join30 : ∀ (H : Heap) (locs : List Loc), ∀ (ls : Array Slot), lv_has ls 4 [(0, .ref (am 31)), (1, .int (nI S_)), (2, .int (hmF (nI S_) (fun j => hoK (kd j)) i)), (3, .int (nI i))] → bW G A s.heap [[(am 31, mdO am fl n lw nn ra rsn nr tr)], [(am 2, .inl (gI G, 6, .inl kd))]] H locs → W p l e R s m args below meth c H locs 0 0 Q (F0 m 30 ls [.int (if bt (nI S_) i = true then hoK (kd i) else 0), .int (hmF (nI S_) (fun j => hoK (kd j)) i)]) := by
          intro  H locs ls hl hw
          refine lv_iadd S.1 S.2.1 dX11_harmOf_30 ?_
          refine aw_eqi (show ((hmF (nI S_) (fun j => hoK (kd j)) i) + (if bt (nI S_) i = true then hoK (kd i) else 0) : Int32) = hmF (nI S_) (fun j => hoK (kd j)) (i + 1) from (add_if _ _)) ?_
          refine lv_istore_n (lv' := [(2, .int (hmF (nI S_) (fun j => hoK (kd j)) (i + 1))), (0, .ref (am 31)), (1, .int (nI S_)), (3, .int (nI i))]) S.1 S.2.1 dX11_harmOf_31 rfl hl (by decide) rfl (fun ls hl => ?_)
          refine lv_iinc (v := nI (i + 1)) (lv' := [(3, .int (nI (i + 1))), (2, .int (hmF (nI S_) (fun j => hoK (kd j)) (i + 1))), (0, .ref (am 31)), (1, .int (nI S_))]) S.1 S.2.1 dX11_harmOf_32 hl (k := 3) rfl (by first | exact nI_1 _ | exact nI_add _ _ | rfl) (by decide) rfl (fun ls hl => ?_)
          refine lv_goto (tgt := 4) S.1 S.2.1 dX11_harmOf_35 (by decide) ?_
          exact ih4 (i + 1) (by first | assumption | omega) (by omega) _ _ _ (lv_sub hl [2, 3, 1, 0] rfl) hw
        refine aw_ifeq (P := bt (nI S_) i = true) (tgt := 29) S dX11_harmOf_18 (by decide) (fun c18 => ?_) (fun c18 => ?_)
        · refine lv_iconst (v := 0) S.1 S.2.1 dX11_harmOf_29 (by decide) ?_
          refine aw_eqi (show (0 : Int32) = if bt (nI S_) i = true then hoK (kd i) else 0 from (by rw [if_neg c18])) ?_
          exact join30  _ _ _ (lv_sub hl [0, 1, 2, 3] rfl) hw
        · refine lv_aload_n S.1 S.2.1 dX11_harmOf_21 rfl (lv_at hl 0 rfl) ?_
          refine lv_iload_n S.1 S.2.1 dX11_harmOf_22 rfl (lv_at hl 3 rfl) ?_
          refine aw_callV S hE (c_X11_harmOnce l G am fl n lw nn ra rsn nr tr kd i (by first | assumption | omega)) gX11_harmOf_X11_harmOnce (n := 1) rfl (by decide +kernel) rfl (by rw [hRm]; exact ⟨Nat.le_of_ble_eq_true rfl, Nat.le_of_ble_eq_true rfl⟩) (by rw [hRm]; exact ⟨Nat.le_of_ble_eq_true rfl, Nat.le_of_ble_eq_true rfl⟩) hw hA hl.1 [0, 1] rfl rfl (aw_recv (i := 0) hE hw rfl rfl rfl) rfl (Nat.le_of_ble_eq_true rfl) dX11_harmOf_23 ?_
          rintro v w1 H locs ⟨rfl, rfl⟩ hw
          have hw : bW G A s.heap [[(am 31, mdO am fl n lw nn ra rsn nr tr)], [(am 2, .inl (gI G, 6, .inl kd))]] H locs := hw
          refine W.eq (g2 := (F0 m 26 ls [.int (hoK (kd i)), .int (hmF (nI S_) (fun j => hoK (kd j)) i)])) rfl ?_
          refine lv_goto (tgt := 30) S.1 S.2.1 dX11_harmOf_26 (by decide) ?_
          refine aw_eqi (show (hoK (kd i) : Int32) = if bt (nI S_) i = true then hoK (kd i) else 0 from (by rw [if_pos c18])) ?_
          exact join30  _ _ _ (lv_sub hl [0, 1, 2, 3] rfl) hw
  exact loop4 _ 0 (by first | assumption | omega) (Nat.lt_succ_self _) _ _ _ (lv_sub hl [2, 3, 1, 0] rfl) hw
set_option maxRecDepth 100000 in
set_option maxHeartbeats 4000000 in
theorem c_X11_cover (l : Launch) (G : aw_G) (am : Nat → Nat) (fl : Int32) (n : Nat) (lw : Int32) (nn ra rsn nr : Nat) (tr : Int32) (sk wa : Nat → Int32) (mo : Int32) (hn : n ≤ 6) : CT l G yX11_cover wsX11_cover ({ frames := 2, cells := 0, slots := 0, locals := 45 }) [.ref (am 31), .int mo] [[(am 31, mdO am fl n lw nn ra rsn nr tr)], [(am 3, .inl (gI G, 6, .inl sk))], [(am 6, .inl (gI G, 12, .inl wa))]] (dt (some (.int (f_ms n mo (f_cover n sk (wa (tn mo)))))) [[(am 31, mdO am fl n lw nn ra rsn nr tr)], [(am 3, .inl (gI G, 6, .inl sk))], [(am 6, .inl (gI G, 12, .inl wa))]]) := by
  refine CT.of (cc := cX11_cover) (nL := 4) (ret := (some .int)) (by decide) rfl (Nat.le_of_ble_eq_true rfl) ?_
  intro p e s m below meth c R args Q A hRm ha hQ hAe hA S hE hr hlk hnm H locs hH0 hL0 ls hl hw
  have S : CallFix p m c cX11_cover 4 s args wsX11_cover RX11 := S
  have hl : lv_has ls 4 [(0, .ref (am 31)), (1, .int mo)] := hl
  have hinX11 : ∀ w ∈ u_ws RX11 TX11 31, w ∈ wsX11_cover := by decide +kernel
  have hf90 := S.2.2.2.2 (.fieldLink RX11 90 "AwakeTurnsModel" "sleepers" "I") (by decide +kernel)
  have h64 := pow6' hn
  have hp1 : 1 ≤ 2 ^ n := Nat.one_le_two_pow
  refine lv_iload_n S.1 S.2.1 dX11_cover_0 rfl (lv_at hl 1 rfl) ?_
  refine aw_callS S hE (c_X11_isMonth l G mo) gX11_cover_X11_isMonth (n := 1) rfl (by decide +kernel) rfl (by rw [hRm]; exact ⟨Nat.le_of_ble_eq_true rfl, Nat.le_of_ble_eq_true rfl⟩) (by rw [hRm]; exact ⟨Nat.le_of_ble_eq_true rfl, Nat.le_of_ble_eq_true rfl⟩) hw hA hl.1 [] rfl rfl rfl (Nat.le_of_ble_eq_true rfl) dX11_cover_1 ?_
  rintro v w1 H locs ⟨rfl, rfl⟩ hw
  have hw : bW G A s.heap [[(am 31, mdO am fl n lw nn ra rsn nr tr)], [(am 3, .inl (gI G, 6, .inl sk))], [(am 6, .inl (gI G, 12, .inl wa))]] H locs := hw
  refine W.eq (g2 := (F0 m 4 ls [.int (if 0 ≤ mo.toInt ∧ mo.toInt < 12 then 1 else 0)])) rfl ?_
  refine aw_ifne (P := 0 ≤ mo.toInt ∧ mo.toInt < 12) (tgt := 10) S dX11_cover_4 (by decide) (fun c4 => ?_) (fun c4 => ?_)
  · have hb_mo : tn mo < 12 := aw_tnL c4
    have hl := Eq.mp (congrArg (fun z_ : Int32 => lv_has ls 4 [(0, .ref (am 31)), (1, .int z_)]) (show (mo : Int32) = nI (tn mo) from (aw_tnE c4))) hl
    have hl : lv_has ls 4 [(0, .ref (am 31)), (1, .int (nI (tn mo)))] := hl
    refine lv_aload_n S.1 S.2.1 dX11_cover_10 rfl (lv_at hl 0 rfl) ?_
    refine aw_get S hE hw 0 (C := RX11) (T := TX11) (N := 31) rfl rfl hinX11 1 (by decide) hf90 rfl dX11_cover_11 ?_
    refine aw_ifN_ne (x := n) (tgt := 20) S (by omega) dX11_cover_14 (by decide) (fun c14 => ?_) (fun c14 => ?_)
    · refine lv_bipush (v := (-9)) S.1 S.2.1 dX11_cover_20 (by decide) ?_
      refine lv_istore_n (lv' := [(2, .int (-9)), (0, .ref (am 31)), (1, .int (nI (tn mo)))]) S.1 S.2.1 dX11_cover_22 rfl hl (by decide) rfl (fun ls hl => ?_)
      refine lv_iconst (v := 0) S.1 S.2.1 dX11_cover_23 (by decide) ?_
      refine lv_istore_n (lv' := [(3, .int 0), (2, .int (-9)), (0, .ref (am 31)), (1, .int (nI (tn mo)))]) S.1 S.2.1 dX11_cover_24 rfl hl (by decide) rfl (fun ls hl => ?_)
      have loop25 : ∀ (fu : Nat) (Sx : Nat), (Sx ≤ 2 ^ n) → (2 ^ n - Sx) < fu → ∀ (ls : Array Slot) (H : Heap) (locs : List Loc), lv_has ls 4 [(0, .ref (am 31)), (1, .int (nI (tn mo))), (2, .int (cvI (cvO (mtP (soC n sk) (wa (tn mo)))  Sx))), (3, .int (nI Sx))] → bW G A s.heap [[(am 31, mdO am fl n lw nn ra rsn nr tr)], [(am 3, .inl (gI G, 6, .inl sk))], [(am 6, .inl (gI G, 12, .inl wa))]] H locs → W p l e R s m args below meth c H locs 0 0 Q (F0 m 25 ls []) := by
        intro fu
        induction fu with
        | zero => intro Sx _ hm; exact absurd hm (Nat.not_lt_zero _)
        | succ fu ih25 =>
          intro Sx hS hm ls H locs hl hw
          refine lv_iload_n S.1 S.2.1 dX11_cover_25 rfl (lv_at hl 3 rfl) ?_
          refine lv_aload_n S.1 S.2.1 dX11_cover_26 rfl (lv_at hl 0 rfl) ?_
          refine aw_callV S hE (c_X11_all l G am fl n lw nn ra rsn nr tr (by first | assumption | omega)) gX11_cover_X11_all (n := 0) rfl (by decide +kernel) rfl (by rw [hRm]; exact ⟨Nat.le_of_ble_eq_true rfl, Nat.le_of_ble_eq_true rfl⟩) (by rw [hRm]; exact ⟨Nat.le_of_ble_eq_true rfl, Nat.le_of_ble_eq_true rfl⟩) hw hA hl.1 [0] rfl rfl (aw_recv (i := 0) hE hw rfl rfl rfl) rfl (Nat.le_of_ble_eq_true rfl) dX11_cover_27 ?_
          rintro v w1 H locs ⟨rfl, rfl⟩ hw
          have hw : bW G A s.heap [[(am 31, mdO am fl n lw nn ra rsn nr tr)], [(am 3, .inl (gI G, 6, .inl sk))], [(am 6, .inl (gI G, 12, .inl wa))]] H locs := hw
          refine W.eq (g2 := (F0 m 30 ls [.int (nI (2 ^ n - 1)), .int (nI Sx)])) rfl ?_
          refine aw_icmpN_gt (x := Sx) (y := 2 ^ n - 1) (tgt := 69) S (by omega) (by omega) dX11_cover_30 (by decide) (fun c30 => ?_) (fun c30 => ?_)
          · have ex_S : Sx = 2 ^ n := by omega
            try rw [ex_S] at hl
            try rw [ex_S] at hw
            refine lv_iload_n S.1 S.2.1 dX11_cover_69 rfl (lv_at hl 2 rfl) ?_
            refine aw_eqi (show (cvI (cvO (mtP (soC n sk) (wa (tn mo)))  (2 ^ n)) : Int32) = f_ms n mo (f_cover n sk (wa (tn mo))) from (by rw [f_ms, if_pos c4, if_neg c14]; rfl)) ?_
            exact aw_iret S hr hlk ha hQ hAe hw dX11_cover_70 rfl (Nat.le_of_ble_eq_true rfl) (Nat.le_of_ble_eq_true rfl) ⟨rfl, rfl⟩
          · have hb64 : ∀ b, cvO (mtP (soC n sk) (wa (tn mo)))  Sx = some b → b < 64 := fun b hb => Nat.lt_trans (cvO_lt hb) (by omega)
            refine lv_aload_n S.1 S.2.1 dX11_cover_33 rfl (lv_at hl 0 rfl) ?_
            refine lv_iload_n S.1 S.2.1 dX11_cover_34 rfl (lv_at hl 3 rfl) ?_
            refine lv_iload_n S.1 S.2.1 dX11_cover_35 rfl (lv_at hl 1 rfl) ?_
            refine aw_callV S hE (c_X11_doMeet l G am fl n lw nn ra rsn nr tr sk wa Sx (tn mo) (by first | assumption | omega) (by first | assumption | omega) (by first | assumption | omega)) gX11_cover_X11_doMeet (n := 2) rfl (by decide +kernel) rfl (by rw [hRm]; exact ⟨Nat.le_of_ble_eq_true rfl, Nat.le_of_ble_eq_true rfl⟩) (by rw [hRm]; exact ⟨Nat.le_of_ble_eq_true rfl, Nat.le_of_ble_eq_true rfl⟩) hw hA hl.1 [0, 1, 2] rfl rfl (aw_recv (i := 0) hE hw rfl rfl rfl) rfl (Nat.le_of_ble_eq_true rfl) dX11_cover_36 ?_
            rintro v w1 H locs ⟨rfl, rfl⟩ hw
            have hw : bW G A s.heap [[(am 31, mdO am fl n lw nn ra rsn nr tr)], [(am 3, .inl (gI G, 6, .inl sk))], [(am 6, .inl (gI G, 12, .inl wa))]] H locs := hw
            refine W.eq (g2 := (F0 m 39 ls [.int (if mtP (soC n sk) (wa (tn mo)) Sx = true then 1 else 0)])) rfl ?_
            refine aw_ifeq (P := mtP (soC n sk) (wa (tn mo)) Sx = true) (tgt := 61) S dX11_cover_39 (by decide) (fun c39 => ?_) (fun c39 => ?_)
            · have hcv := (cvO_no c39)
              refine lv_iload_n S.1 S.2.1 dX11_cover_61 rfl (lv_at hl 2 rfl) ?_
              refine aw_eqi (show (cvI (cvO (mtP (soC n sk) (wa (tn mo)))  Sx) : Int32) = cvI (cvO (mtP (soC n sk) (wa (tn mo)))  (Sx + 1)) from (by rw [hcv])) ?_
              refine lv_istore_n (lv' := [(2, .int (cvI (cvO (mtP (soC n sk) (wa (tn mo)))  (Sx + 1)))), (0, .ref (am 31)), (1, .int (nI (tn mo))), (3, .int (nI Sx))]) S.1 S.2.1 dX11_cover_62 rfl hl (by decide) rfl (fun ls hl => ?_)
              refine lv_iinc (v := nI (Sx + 1)) (lv' := [(3, .int (nI (Sx + 1))), (2, .int (cvI (cvO (mtP (soC n sk) (wa (tn mo)))  (Sx + 1)))), (0, .ref (am 31)), (1, .int (nI (tn mo)))]) S.1 S.2.1 dX11_cover_63 hl (k := 3) rfl (by first | exact nI_1 _ | exact nI_add _ _ | rfl) (by decide) rfl (fun ls hl => ?_)
              refine lv_goto (tgt := 25) S.1 S.2.1 dX11_cover_66 (by decide) ?_
              exact ih25 (Sx + 1) (by first | assumption | omega) (by omega) _ _ _ (lv_sub hl [2, 3, 1, 0] rfl) hw
            · refine lv_iload_n S.1 S.2.1 dX11_cover_42 rfl (lv_at hl 2 rfl) ?_
              refine lv_if_lt (tgt := 57) S.1 S.2.1 dX11_cover_43 (by decide) (fun c43 => ?_) (fun c43 => ?_)
              · have hno : cvO (mtP (soC n sk) (wa (tn mo)))  Sx = none := (cvI_none hb64).mp (by cases hq : cvO (mtP (soC n sk) (wa (tn mo)))  Sx with | none => rfl | some b => rw [hq] at c43; exact absurd c43 (by show ¬ (nI b < 0); rw [fa_lt, nI_toInt (by have := hb64 b hq; omega), li_0]; omega))
                have hcv := (cvO_new c39 hno)
                refine lv_iload_n S.1 S.2.1 dX11_cover_57 rfl (lv_at hl 3 rfl) ?_
                refine lv_goto (tgt := 62) S.1 S.2.1 dX11_cover_58 (by decide) ?_
                refine aw_eqi (show (nI Sx : Int32) = cvI (cvO (mtP (soC n sk) (wa (tn mo)))  (Sx + 1)) from (by rw [hcv]; first | rfl | (rw [hcb]; rfl))) ?_
                refine lv_istore_n (lv' := [(2, .int (cvI (cvO (mtP (soC n sk) (wa (tn mo)))  (Sx + 1)))), (0, .ref (am 31)), (1, .int (nI (tn mo))), (3, .int (nI Sx))]) S.1 S.2.1 dX11_cover_62 rfl hl (by decide) rfl (fun ls hl => ?_)
                refine lv_iinc (v := nI (Sx + 1)) (lv' := [(3, .int (nI (Sx + 1))), (2, .int (cvI (cvO (mtP (soC n sk) (wa (tn mo)))  (Sx + 1)))), (0, .ref (am 31)), (1, .int (nI (tn mo)))]) S.1 S.2.1 dX11_cover_63 hl (k := 3) rfl (by first | exact nI_1 _ | exact nI_add _ _ | rfl) (by decide) rfl (fun ls hl => ?_)
                refine lv_goto (tgt := 25) S.1 S.2.1 dX11_cover_66 (by decide) ?_
                exact ih25 (Sx + 1) (by first | assumption | omega) (by omega) _ _ _ (lv_sub hl [2, 3, 1, 0] rfl) hw
              · obtain ⟨b, hcb⟩ : ∃ b, cvO (mtP (soC n sk) (wa (tn mo)))  Sx = some b := by cases hq : cvO (mtP (soC n sk) (wa (tn mo)))  Sx with | none => rw [hq] at c43; exact absurd (show cvI none < 0 by decide) c43 | some b => exact ⟨b, rfl⟩
                have hb6 := hb64 b hcb
                have hpb := pcN_m b hb6
                have hps := pcN_m Sx (by omega)
                have hl := Eq.mp (congrArg (fun z_ : Int32 => lv_has ls 4 [(0, .ref (am 31)), (1, .int (nI (tn mo))), (2, .int z_), (3, .int (nI Sx))]) (show (cvI (cvO (mtP (soC n sk) (wa (tn mo)))  Sx) : Int32) = nI b from (by rw [hcb]; rfl))) hl
                have hl : lv_has ls 4 [(0, .ref (am 31)), (1, .int (nI (tn mo))), (2, .int (nI b)), (3, .int (nI Sx))] := hl
                refine lv_iload_n S.1 S.2.1 dX11_cover_46 rfl (lv_at hl 3 rfl) ?_
                refine aw_callS S hE (c_X11_bits l G Sx (by first | assumption | omega)) gX11_cover_X11_bits (n := 1) rfl (by decide +kernel) rfl (by rw [hRm]; exact ⟨Nat.le_of_ble_eq_true rfl, Nat.le_of_ble_eq_true rfl⟩) (by rw [hRm]; exact ⟨Nat.le_of_ble_eq_true rfl, Nat.le_of_ble_eq_true rfl⟩) hw hA hl.1 [] rfl rfl rfl (Nat.le_of_ble_eq_true rfl) dX11_cover_47 ?_
                rintro v w1 H locs ⟨rfl, rfl⟩ hw
                have hw : bW G A s.heap [[(am 31, mdO am fl n lw nn ra rsn nr tr)], [(am 3, .inl (gI G, 6, .inl sk))], [(am 6, .inl (gI G, 12, .inl wa))]] H locs := hw
                refine W.eq (g2 := (F0 m 50 ls [.int (nI (pcN Sx))])) rfl ?_
                refine lv_iload_n S.1 S.2.1 dX11_cover_50 rfl (lv_at hl 2 rfl) ?_
                refine aw_callS S hE (c_X11_bits l G b (by first | assumption | omega)) gX11_cover_X11_bits (n := 1) rfl (by decide +kernel) rfl (by rw [hRm]; exact ⟨Nat.le_of_ble_eq_true rfl, Nat.le_of_ble_eq_true rfl⟩) (by rw [hRm]; exact ⟨Nat.le_of_ble_eq_true rfl, Nat.le_of_ble_eq_true rfl⟩) hw hA hl.1 [] rfl rfl rfl (Nat.le_of_ble_eq_true rfl) dX11_cover_51 ?_
                rintro v w1 H locs ⟨rfl, rfl⟩ hw
                have hw : bW G A s.heap [[(am 31, mdO am fl n lw nn ra rsn nr tr)], [(am 3, .inl (gI G, 6, .inl sk))], [(am 6, .inl (gI G, 12, .inl wa))]] H locs := hw
                refine W.eq (g2 := (F0 m 54 ls [.int (nI (pcN b)), .int (nI (pcN Sx))])) rfl ?_
                refine aw_icmpN_ge (x := pcN Sx) (y := pcN b) (tgt := 61) S (by omega) (by omega) dX11_cover_54 (by decide) (fun c54 => ?_) (fun c54 => ?_)
                · have hcv := (cvO_ge hcb (by omega))
                  refine lv_iload_n S.1 S.2.1 dX11_cover_61 rfl (lv_at hl 2 rfl) ?_
                  refine aw_eqi (show (nI b : Int32) = cvI (cvO (mtP (soC n sk) (wa (tn mo)))  (Sx + 1)) from (by rw [hcv]; first | rfl | (rw [hcb]; rfl))) ?_
                  refine lv_istore_n (lv' := [(2, .int (cvI (cvO (mtP (soC n sk) (wa (tn mo)))  (Sx + 1)))), (0, .ref (am 31)), (1, .int (nI (tn mo))), (3, .int (nI Sx))]) S.1 S.2.1 dX11_cover_62 rfl hl (by decide) rfl (fun ls hl => ?_)
                  refine lv_iinc (v := nI (Sx + 1)) (lv' := [(3, .int (nI (Sx + 1))), (2, .int (cvI (cvO (mtP (soC n sk) (wa (tn mo)))  (Sx + 1)))), (0, .ref (am 31)), (1, .int (nI (tn mo)))]) S.1 S.2.1 dX11_cover_63 hl (k := 3) rfl (by first | exact nI_1 _ | exact nI_add _ _ | rfl) (by decide) rfl (fun ls hl => ?_)
                  refine lv_goto (tgt := 25) S.1 S.2.1 dX11_cover_66 (by decide) ?_
                  exact ih25 (Sx + 1) (by first | assumption | omega) (by omega) _ _ _ (lv_sub hl [2, 3, 1, 0] rfl) hw
                · have hcv := (cvO_lt2 c39 hcb (by omega))
                  refine lv_iload_n S.1 S.2.1 dX11_cover_57 rfl (lv_at hl 3 rfl) ?_
                  refine lv_goto (tgt := 62) S.1 S.2.1 dX11_cover_58 (by decide) ?_
                  refine aw_eqi (show (nI Sx : Int32) = cvI (cvO (mtP (soC n sk) (wa (tn mo)))  (Sx + 1)) from (by rw [hcv]; first | rfl | (rw [hcb]; rfl))) ?_
                  refine lv_istore_n (lv' := [(2, .int (cvI (cvO (mtP (soC n sk) (wa (tn mo)))  (Sx + 1)))), (0, .ref (am 31)), (1, .int (nI (tn mo))), (3, .int (nI Sx))]) S.1 S.2.1 dX11_cover_62 rfl hl (by decide) rfl (fun ls hl => ?_)
                  refine lv_iinc (v := nI (Sx + 1)) (lv' := [(3, .int (nI (Sx + 1))), (2, .int (cvI (cvO (mtP (soC n sk) (wa (tn mo)))  (Sx + 1)))), (0, .ref (am 31)), (1, .int (nI (tn mo)))]) S.1 S.2.1 dX11_cover_63 hl (k := 3) rfl (by first | exact nI_1 _ | exact nI_add _ _ | rfl) (by decide) rfl (fun ls hl => ?_)
                  refine lv_goto (tgt := 25) S.1 S.2.1 dX11_cover_66 (by decide) ?_
                  exact ih25 (Sx + 1) (by first | assumption | omega) (by omega) _ _ _ (lv_sub hl [2, 3, 1, 0] rfl) hw
      exact loop25 _ 0 (Nat.zero_le _) (Nat.lt_succ_self _) _ _ _ (lv_sub hl [2, 3, 1, 0] rfl) hw
    · refine lv_bipush (v := (-3)) S.1 S.2.1 dX11_cover_17 (by decide) ?_
      refine aw_eqi (show ((-3) : Int32) = f_ms n mo (f_cover n sk (wa (tn mo))) from (by rw [f_ms, if_pos c4, if_pos c14])) ?_
      exact aw_iret S hr hlk ha hQ hAe hw dX11_cover_19 rfl (Nat.le_of_ble_eq_true rfl) (Nat.le_of_ble_eq_true rfl) ⟨rfl, rfl⟩
  · refine lv_bipush (v := (-2)) S.1 S.2.1 dX11_cover_7 (by decide) ?_
    refine aw_eqi (show ((-2) : Int32) = f_ms n mo (f_cover n sk (wa (tn mo))) from (by rw [f_ms, if_neg c4])) ?_
    exact aw_iret S hr hlk ha hQ hAe hw dX11_cover_9 rfl (Nat.le_of_ble_eq_true rfl) (Nat.le_of_ble_eq_true rfl) ⟨rfl, rfl⟩
