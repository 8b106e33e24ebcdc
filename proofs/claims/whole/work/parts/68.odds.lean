/-! the reference: odds -/
theorem lN_ad (a b : Nat) : lN a + lN b = lN (a + b) := (Int64.ofNat_add a b).symm
theorem od_all : ∀ n, n < 7 → (nI (2 ^ n - 1)).toInt64 + 1 = lN (2 ^ n) := by decide +kernel
theorem od_out : ∀ n, n < 7 → ∀ u, u < 65 → (lN (u / Nat.gcd u (2 ^ n)) = (nI (hv 7 u (2 ^ n)).1).toInt64 ∧ lN (2 ^ n / Nat.gcd u (2 ^ n)) = (nI (hv 7 u (2 ^ n)).2).toInt64) := by decide +kernel
theorem wrP_o {n : Nat} {lw : Int32} {sk ho br tu wa : Nat → Int32} {i : Nat} : wrP n lw sk ho br tu wa true false i = false ↔ lkF n lw sk tu wa i = 0 := by
  unfold wrP
  rw [Bool.true_and, Bool.false_and, Bool.or_false, Bool.not_eq_false', decide_eq_true_eq]
set_option maxRecDepth 100000 in
set_option maxHeartbeats 4000000 in
theorem c_X11_odds (l : Launch) (G : aw_G) (am : Nat → Nat) (fl : Int32) (n : Nat) (lw : Int32) (nn ra rsn nr : Nat) (tr : Int32) (kd sk br tu wa me cn hb : Nat → Int32) (mo wt : Int32) (hn : n ≤ 6) : CT l G yX11_odds wsX11_odds ({ frames := 3, cells := 0, slots := 0, locals := 69 }) [.ref (am 31), .int mo, .int wt] [[(am 31, mdO am fl n lw nn ra rsn nr tr)], [(am 2, .inl (gI G, 6, .inl kd))], [(am 3, .inl (gI G, 6, .inl sk))], [(am 4, .inl (gI G, 6, .inl br))], [(am 5, .inl (gI G, 12, .inl tu))], [(am 6, .inl (gI G, 12, .inl wa))], [(am 16, .inl (gI G, 12, .inl me))], [(am 17, .inl (gI G, 72, .inl cn))], [(am 18, .inl (gI G, 72, .inl hb))]] (fun v w => v = some (.long (f_odds n (wyP n lw sk (fun j => hoK (kd j)) br tu wa) mo wt)) ∧ ∃ (me cn hb : Nat → Int32), w = [[(am 31, mdO am fl n lw nn ra rsn nr tr)], [(am 2, .inl (gI G, 6, .inl kd))], [(am 3, .inl (gI G, 6, .inl sk))], [(am 4, .inl (gI G, 6, .inl br))], [(am 5, .inl (gI G, 12, .inl tu))], [(am 6, .inl (gI G, 12, .inl wa))], [(am 16, .inl (gI G, 12, .inl me))], [(am 17, .inl (gI G, 72, .inl cn))], [(am 18, .inl (gI G, 72, .inl hb))]]) := by
  refine CT.of (cc := cX11_odds) (nL := 8) (ret := (some .long)) (by decide) rfl (Nat.le_of_ble_eq_true rfl) ?_
  intro p e s m below meth c R args Q A hRm ha hQ hAe hA S hE hr hlk hnm H locs hH0 hL0 ls hl hw
  have S : CallFix p m c cX11_odds 8 s args wsX11_odds RX11 := S
  have hl : lv_has ls 8 [(0, .ref (am 31)), (1, .int mo), (2, .int wt)] := hl
  have hinX11 : ∀ w ∈ u_ws RX11 TX11 31, w ∈ wsX11_odds := by decide +kernel
  have hf90 := S.2.2.2.2 (.fieldLink RX11 90 "AwakeTurnsModel" "sleepers" "I") (by decide +kernel)
  have hf40 := S.2.2.2.2 (.fieldLink RX11 40 "AwakeTurnsModel" "meant" "[I") (by decide +kernel)
  have hf19 := S.2.2.2.2 (.fieldLink RX11 19 "AwakeTurnsModel" "upIn" "[I") (by decide +kernel)
  have hp6 := pow6' hn
  have hp1 : 1 ≤ 2 ^ n := Nat.one_le_two_pow
  have hcl := ct_le ((wyP n lw sk (fun j => hoK (kd j)) br tu wa) (tn mo)) (2 ^ n)
  refine lv_iload_n S.1 S.2.1 dX11_odds_0 rfl (lv_at hl 1 rfl) ?_
  refine aw_callS S hE (c_X11_isMonth l G mo) gX11_odds_X11_isMonth (n := 1) rfl (by decide +kernel) rfl (by rw [hRm]; exact ⟨Nat.le_of_ble_eq_true rfl, Nat.le_of_ble_eq_true rfl⟩) (by rw [hRm]; exact ⟨Nat.le_of_ble_eq_true rfl, Nat.le_of_ble_eq_true rfl⟩) hw hA hl.1 [] rfl rfl rfl (Nat.le_of_ble_eq_true rfl) dX11_odds_1 ?_
  rintro v w1 H locs ⟨rfl, rfl⟩ hw
  have hw : bW G A s.heap [[(am 31, mdO am fl n lw nn ra rsn nr tr)], [(am 2, .inl (gI G, 6, .inl kd))], [(am 3, .inl (gI G, 6, .inl sk))], [(am 4, .inl (gI G, 6, .inl br))], [(am 5, .inl (gI G, 12, .inl tu))], [(am 6, .inl (gI G, 12, .inl wa))], [(am 16, .inl (gI G, 12, .inl me))], [(am 17, .inl (gI G, 72, .inl cn))], [(am 18, .inl (gI G, 72, .inl hb))]] H locs := hw
  refine W.eq (g2 := (F0 m 4 ls [.int (if 0 ≤ mo.toInt ∧ mo.toInt < 12 then 1 else 0)])) rfl ?_
  refine aw_ifeq (P := 0 ≤ mo.toInt ∧ mo.toInt < 12) (tgt := 24) S dX11_odds_4 (by decide) (fun c4 => ?_) (fun c4 => ?_)
  · refine aw_callS S hE (c_X11_lost l G ()) gX11_odds_X11_lost (n := 0) rfl (by decide +kernel) rfl (by rw [hRm]; exact ⟨Nat.le_of_ble_eq_true rfl, Nat.le_of_ble_eq_true rfl⟩) (by rw [hRm]; exact ⟨Nat.le_of_ble_eq_true rfl, Nat.le_of_ble_eq_true rfl⟩) hw hA hl.1 [] rfl rfl rfl (Nat.le_of_ble_eq_true rfl) dX11_odds_24 ?_
    rintro v w1 H locs ⟨rfl, rfl⟩ hw
    have hw : bW G A s.heap [[(am 31, mdO am fl n lw nn ra rsn nr tr)], [(am 2, .inl (gI G, 6, .inl kd))], [(am 3, .inl (gI G, 6, .inl sk))], [(am 4, .inl (gI G, 6, .inl br))], [(am 5, .inl (gI G, 12, .inl tu))], [(am 6, .inl (gI G, 12, .inl wa))], [(am 16, .inl (gI G, 12, .inl me))], [(am 17, .inl (gI G, 72, .inl cn))], [(am 18, .inl (gI G, 72, .inl hb))]] H locs := hw
    refine W.eq (g2 := (F0 m 27 ls [.long (-9223372036854775808)])) rfl ?_
    refine aw_eql (show (-9223372036854775808 : Int64) = f_odds n (wyP n lw sk (fun j => hoK (kd j)) br tu wa) mo wt from (by rw [f_odds, if_neg (by omega)])) ?_
    exact aw_lret S hr hlk ha hQ hAe hw dX11_odds_27 (Nat.le_of_ble_eq_true rfl) (Nat.le_of_ble_eq_true rfl) ⟨rfl, _, _, _, rfl⟩
  · have hb_mo : tn mo < 12 := aw_tnL c4
    have hl := Eq.mp (congrArg (fun z_ : Int32 => lv_has ls 8 [(0, .ref (am 31)), (1, .int z_), (2, .int wt)]) (show (mo : Int32) = nI (tn mo) from (aw_tnE c4))) hl
    have hl : lv_has ls 8 [(0, .ref (am 31)), (1, .int (nI (tn mo))), (2, .int wt)] := hl
    refine lv_iload_n S.1 S.2.1 dX11_odds_7 rfl (lv_at hl 2 rfl) ?_
    refine lv_i2l S.1 S.2.1 dX11_odds_8 rfl ?_
    refine lv_lconst (v := 0) S.1 S.2.1 dX11_odds_9 (by decide) ?_
    refine lv_lconst (v := 1) S.1 S.2.1 dX11_odds_10 (by decide) ?_
    refine aw_callS S hE (c_X11_in l G wt.toInt64 0 1) gX11_odds_X11_in (n := 3) rfl (by decide +kernel) rfl (by rw [hRm]; exact ⟨Nat.le_of_ble_eq_true rfl, Nat.le_of_ble_eq_true rfl⟩) (by rw [hRm]; exact ⟨Nat.le_of_ble_eq_true rfl, Nat.le_of_ble_eq_true rfl⟩) hw hA hl.1 [] rfl rfl rfl (Nat.le_of_ble_eq_true rfl) dX11_odds_11 ?_
    rintro v w1 H locs ⟨rfl, rfl⟩ hw
    have hw : bW G A s.heap [[(am 31, mdO am fl n lw nn ra rsn nr tr)], [(am 2, .inl (gI G, 6, .inl kd))], [(am 3, .inl (gI G, 6, .inl sk))], [(am 4, .inl (gI G, 6, .inl br))], [(am 5, .inl (gI G, 12, .inl tu))], [(am 6, .inl (gI G, 12, .inl wa))], [(am 16, .inl (gI G, 12, .inl me))], [(am 17, .inl (gI G, 72, .inl cn))], [(am 18, .inl (gI G, 72, .inl hb))]] H locs := hw
    refine W.eq (g2 := (F0 m 14 ls [.int (if Int64.toInt 0 ≤ Int64.toInt wt.toInt64 ∧ Int64.toInt wt.toInt64 ≤ Int64.toInt 1 then 1 else 0)])) rfl ?_
    refine aw_ifeq (P := Int64.toInt 0 ≤ Int64.toInt wt.toInt64 ∧ Int64.toInt wt.toInt64 ≤ Int64.toInt 1) (tgt := 24) S dX11_odds_14 (by decide) (fun c14 => ?_) (fun c14 => ?_)
    · rw [l64, l64_0, l64_1] at c14
      refine aw_callS S hE (c_X11_lost l G ()) gX11_odds_X11_lost (n := 0) rfl (by decide +kernel) rfl (by rw [hRm]; exact ⟨Nat.le_of_ble_eq_true rfl, Nat.le_of_ble_eq_true rfl⟩) (by rw [hRm]; exact ⟨Nat.le_of_ble_eq_true rfl, Nat.le_of_ble_eq_true rfl⟩) hw hA hl.1 [] rfl rfl rfl (Nat.le_of_ble_eq_true rfl) dX11_odds_24 ?_
      rintro v w1 H locs ⟨rfl, rfl⟩ hw
      have hw : bW G A s.heap [[(am 31, mdO am fl n lw nn ra rsn nr tr)], [(am 2, .inl (gI G, 6, .inl kd))], [(am 3, .inl (gI G, 6, .inl sk))], [(am 4, .inl (gI G, 6, .inl br))], [(am 5, .inl (gI G, 12, .inl tu))], [(am 6, .inl (gI G, 12, .inl wa))], [(am 16, .inl (gI G, 12, .inl me))], [(am 17, .inl (gI G, 72, .inl cn))], [(am 18, .inl (gI G, 72, .inl hb))]] H locs := hw
      refine W.eq (g2 := (F0 m 27 ls [.long (-9223372036854775808)])) rfl ?_
      refine aw_eql (show (-9223372036854775808 : Int64) = f_odds n (wyP n lw sk (fun j => hoK (kd j)) br tu wa) mo wt from (by rw [f_odds, if_neg (by omega)])) ?_
      exact aw_lret S hr hlk ha hQ hAe hw dX11_odds_27 (Nat.le_of_ble_eq_true rfl) (Nat.le_of_ble_eq_true rfl) ⟨rfl, _, _, _, rfl⟩
    · rw [l64, l64_0, l64_1] at c14
      refine lv_aload_n S.1 S.2.1 dX11_odds_17 rfl (lv_at hl 0 rfl) ?_
      refine aw_get S hE hw 0 (C := RX11) (T := TX11) (N := 31) rfl rfl hinX11 1 (by decide) hf90 rfl dX11_odds_18 ?_
      refine aw_ifN_ne (x := n) (tgt := 28) S (by omega) dX11_odds_21 (by decide) (fun c21 => ?_) (fun c21 => ?_)
      · refine lv_lconst (v := 0) S.1 S.2.1 dX11_odds_28 (by decide) ?_
        refine lv_lstore_n (lv' := [(3, .long 0), (0, .ref (am 31)), (1, .int (nI (tn mo))), (2, .int wt)]) S.1 S.2.1 dX11_odds_29 rfl hl (by decide) rfl (fun ls hl => ?_)
        refine lv_iconst (v := 0) S.1 S.2.1 dX11_odds_30 (by decide) ?_
        refine lv_istore (lv' := [(5, .int 0), (3, .long 0), (0, .ref (am 31)), (1, .int (nI (tn mo))), (2, .int wt)]) S.1 S.2.1 dX11_odds_31 hl (by decide) rfl (fun ls hl => ?_)
        have loop33 : ∀ (fu : Nat) (w : Nat) (me1 : Nat → Int32) (cn1 : Nat → Int32) (hb1 : Nat → Int32), (w ≤ 2 ^ n) → (2 ^ n - w) < fu → ∀ (ls : Array Slot) (H : Heap) (locs : List Loc), lv_has ls 8 [(0, .ref (am 31)), (1, .int (nI (tn mo))), (2, .int wt), (3, .long (lN (ct ((wyP n lw sk (fun j => hoK (kd j)) br tu wa) (tn mo)) w))), (5, .int (nI w))] → bW G A s.heap [[(am 31, mdO am fl n lw nn ra rsn nr tr)], [(am 2, .inl (gI G, 6, .inl kd))], [(am 3, .inl (gI G, 6, .inl sk))], [(am 4, .inl (gI G, 6, .inl br))], [(am 5, .inl (gI G, 12, .inl tu))], [(am 6, .inl (gI G, 12, .inl wa))], [(am 16, .inl (gI G, 12, .inl me1))], [(am 17, .inl (gI G, 72, .inl cn1))], [(am 18, .inl (gI G, 72, .inl hb1))]] H locs → W p l e R s m args below meth c H locs 0 0 Q (F0 m 33 ls []) := by
          intro fu
          induction fu with
          | zero => intro w me1 cn1 hb1 _ hm; exact absurd hm (Nat.not_lt_zero _)
          | succ fu ih33 =>
            intro w me1 cn1 hb1 hw_ hm ls H locs hl hw
            refine lv_iload S.1 S.2.1 dX11_odds_33 (lv_at hl 4 rfl) ?_
            refine lv_aload_n S.1 S.2.1 dX11_odds_35 rfl (lv_at hl 0 rfl) ?_
            refine aw_callV S hE (c_X11_all l G am fl n lw nn ra rsn nr tr (by first | assumption | omega)) gX11_odds_X11_all (n := 0) rfl (by decide +kernel) rfl (by rw [hRm]; exact ⟨Nat.le_of_ble_eq_true rfl, Nat.le_of_ble_eq_true rfl⟩) (by rw [hRm]; exact ⟨Nat.le_of_ble_eq_true rfl, Nat.le_of_ble_eq_true rfl⟩) hw hA hl.1 [0] rfl rfl (aw_recv (i := 0) hE hw rfl rfl rfl) rfl (Nat.le_of_ble_eq_true rfl) dX11_odds_36 ?_
            rintro v w1 H locs ⟨rfl, rfl⟩ hw
            have hw : bW G A s.heap [[(am 31, mdO am fl n lw nn ra rsn nr tr)], [(am 2, .inl (gI G, 6, .inl kd))], [(am 3, .inl (gI G, 6, .inl sk))], [(am 4, .inl (gI G, 6, .inl br))], [(am 5, .inl (gI G, 12, .inl tu))], [(am 6, .inl (gI G, 12, .inl wa))], [(am 16, .inl (gI G, 12, .inl me1))], [(am 17, .inl (gI G, 72, .inl cn1))], [(am 18, .inl (gI G, 72, .inl hb1))]] H locs := hw
            refine W.eq (g2 := (F0 m 39 ls [.int (nI (2 ^ n - 1)), .int (nI w)])) rfl ?_
            refine aw_icmpN_gt (x := w) (y := 2 ^ n - 1) (tgt := 137) S (by omega) (by omega) dX11_odds_39 (by decide) (fun c39 => ?_) (fun c39 => ?_)
            · have ex_w : w = 2 ^ n := by omega
              try rw [ex_w] at hl
              try rw [ex_w] at hw
              refine lv_lload_n S.1 S.2.1 dX11_odds_137 rfl (lv_at hl 3 rfl) ?_
              refine lv_aload_n S.1 S.2.1 dX11_odds_138 rfl (lv_at hl 0 rfl) ?_
              refine aw_callV S hE (c_X11_all l G am fl n lw nn ra rsn nr tr (by first | assumption | omega)) gX11_odds_X11_all (n := 0) rfl (by decide +kernel) rfl (by rw [hRm]; exact ⟨Nat.le_of_ble_eq_true rfl, Nat.le_of_ble_eq_true rfl⟩) (by rw [hRm]; exact ⟨Nat.le_of_ble_eq_true rfl, Nat.le_of_ble_eq_true rfl⟩) hw hA hl.1 [0] rfl rfl (aw_recv (i := 0) hE hw rfl rfl rfl) rfl (Nat.le_of_ble_eq_true rfl) dX11_odds_139 ?_
              rintro v w1 H locs ⟨rfl, rfl⟩ hw
              have hw : bW G A s.heap [[(am 31, mdO am fl n lw nn ra rsn nr tr)], [(am 2, .inl (gI G, 6, .inl kd))], [(am 3, .inl (gI G, 6, .inl sk))], [(am 4, .inl (gI G, 6, .inl br))], [(am 5, .inl (gI G, 12, .inl tu))], [(am 6, .inl (gI G, 12, .inl wa))], [(am 16, .inl (gI G, 12, .inl me1))], [(am 17, .inl (gI G, 72, .inl cn1))], [(am 18, .inl (gI G, 72, .inl hb1))]] H locs := hw
              refine W.eq (g2 := (F0 m 142 ls [.int (nI (2 ^ n - 1)), .long (lN (ct ((wyP n lw sk (fun j => hoK (kd j)) br tu wa) (tn mo)) (2 ^ n)))])) rfl ?_
              refine lv_i2l S.1 S.2.1 dX11_odds_142 rfl ?_
              refine lv_lconst (v := 1) S.1 S.2.1 dX11_odds_143 (by decide) ?_
              refine lv_ladd S.1 S.2.1 dX11_odds_144 ?_
              refine aw_eql (show (((nI (2 ^ n - 1)).toInt64) + 1 : Int64) = lN (2 ^ n) from od_all n (by omega)) ?_
              refine lv_iload_n S.1 S.2.1 dX11_odds_145 rfl (lv_at hl 2 rfl) ?_
              refine aw_callS S hE (c_X11_told l G (ct ((wyP n lw sk (fun j => hoK (kd j)) br tu wa) (tn mo)) (2 ^ n)) (2 ^ n) wt (by first | assumption | omega) (by first | assumption | omega)) gX11_odds_X11_told (n := 3) rfl (by decide +kernel) rfl (by rw [hRm]; exact ⟨Nat.le_of_ble_eq_true rfl, Nat.le_of_ble_eq_true rfl⟩) (by rw [hRm]; exact ⟨Nat.le_of_ble_eq_true rfl, Nat.le_of_ble_eq_true rfl⟩) hw hA hl.1 [] rfl rfl rfl (Nat.le_of_ble_eq_true rfl) dX11_odds_146 ?_
              rintro v w1 H locs ⟨rfl, rfl⟩ hw
              have hw : bW G A s.heap [[(am 31, mdO am fl n lw nn ra rsn nr tr)], [(am 2, .inl (gI G, 6, .inl kd))], [(am 3, .inl (gI G, 6, .inl sk))], [(am 4, .inl (gI G, 6, .inl br))], [(am 5, .inl (gI G, 12, .inl tu))], [(am 6, .inl (gI G, 12, .inl wa))], [(am 16, .inl (gI G, 12, .inl me1))], [(am 17, .inl (gI G, 72, .inl cn1))], [(am 18, .inl (gI G, 72, .inl hb1))]] H locs := hw
              refine W.eq (g2 := (F0 m 149 ls [.long (lN ((if wt = 0 then (ct ((wyP n lw sk (fun j => hoK (kd j)) br tu wa) (tn mo)) (2 ^ n)) else (2 ^ n)) / Nat.gcd (ct ((wyP n lw sk (fun j => hoK (kd j)) br tu wa) (tn mo)) (2 ^ n)) (2 ^ n)))])) rfl ?_
              refine aw_eql (show (lN ((if wt = 0 then (ct ((wyP n lw sk (fun j => hoK (kd j)) br tu wa) (tn mo)) (2 ^ n)) else (2 ^ n)) / Nat.gcd (ct ((wyP n lw sk (fun j => hoK (kd j)) br tu wa) (tn mo)) (2 ^ n)) (2 ^ n)) : Int64) = f_odds n (wyP n lw sk (fun j => hoK (kd j)) br tu wa) mo wt from (by rw [f_odds, if_pos (show ((0 ≤ mo.toInt ∧ mo.toInt < 12) ∧ 0 ≤ wt.toInt ∧ wt.toInt ≤ 1) ∧ ¬ n = 0 from ⟨⟨c4, c14⟩, c21⟩)]; by_cases z : wt = 0; (rw [if_pos z, if_pos z]; exact (od_out n (by omega) (ct ((wyP n lw sk (fun j => hoK (kd j)) br tu wa) (tn mo)) (2 ^ n)) (by omega)).1); (rw [if_neg z, if_neg z]; exact (od_out n (by omega) (ct ((wyP n lw sk (fun j => hoK (kd j)) br tu wa) (tn mo)) (2 ^ n)) (by omega)).2))) ?_
              exact aw_lret S hr hlk ha hQ hAe hw dX11_odds_149 (Nat.le_of_ble_eq_true rfl) (Nat.le_of_ble_eq_true rfl) ⟨rfl, _, _, _, rfl⟩
            · refine lv_iconst (v := 0) S.1 S.2.1 dX11_odds_42 (by decide) ?_
              refine lv_istore (lv' := [(6, .int 0), (0, .ref (am 31)), (1, .int (nI (tn mo))), (2, .int wt), (3, .long (lN (ct ((wyP n lw sk (fun j => hoK (kd j)) br tu wa) (tn mo)) w))), (5, .int (nI w))]) S.1 S.2.1 dX11_odds_43 hl (by decide) rfl (fun ls hl => ?_)
              have hw := aw_arr hw 6 rfl (fa_fill (fun m => tu m &&& nI w) me1 0) (fun _ _ => by rw [fa_fill_0])
              have hw : bW G A s.heap [[(am 31, mdO am fl n lw nn ra rsn nr tr)], [(am 2, .inl (gI G, 6, .inl kd))], [(am 3, .inl (gI G, 6, .inl sk))], [(am 4, .inl (gI G, 6, .inl br))], [(am 5, .inl (gI G, 12, .inl tu))], [(am 6, .inl (gI G, 12, .inl wa))], [(am 16, .inl (gI G, 12, .inl (fa_fill (fun m => tu m &&& nI w) me1 0)))], [(am 17, .inl (gI G, 72, .inl cn1))], [(am 18, .inl (gI G, 72, .inl hb1))]] H locs := hw
              have loop45 : ∀ (fu : Nat) (i : Nat), (i ≤ 12) → (12 - i) < fu → ∀ (ls : Array Slot) (H : Heap) (locs : List Loc), lv_has ls 8 [(0, .ref (am 31)), (1, .int (nI (tn mo))), (2, .int wt), (3, .long (lN (ct ((wyP n lw sk (fun j => hoK (kd j)) br tu wa) (tn mo)) w))), (5, .int (nI w)), (6, .int (nI i))] → bW G A s.heap [[(am 31, mdO am fl n lw nn ra rsn nr tr)], [(am 2, .inl (gI G, 6, .inl kd))], [(am 3, .inl (gI G, 6, .inl sk))], [(am 4, .inl (gI G, 6, .inl br))], [(am 5, .inl (gI G, 12, .inl tu))], [(am 6, .inl (gI G, 12, .inl wa))], [(am 16, .inl (gI G, 12, .inl (fa_fill (fun m => tu m &&& nI w) me1 i)))], [(am 17, .inl (gI G, 72, .inl cn1))], [(am 18, .inl (gI G, 72, .inl hb1))]] H locs → W p l e R s m args below meth c H locs 0 0 Q (F0 m 45 ls []) := by
                intro fu
                induction fu with
                | zero => intro i _ hm; exact absurd hm (Nat.not_lt_zero _)
                | succ fu ih45 =>
                  intro i hi hm ls H locs hl hw
                  refine lv_iload S.1 S.2.1 dX11_odds_45 (lv_at hl 5 rfl) ?_
                  refine lv_bipush (v := 12) S.1 S.2.1 dX11_odds_47 (by decide) ?_
                  refine aw_icmpN_ge (x := i) (y := 12) (tgt := 75) S (by omega) (by omega) dX11_odds_49 (by decide) (fun c49 => ?_) (fun c49 => ?_)
                  · have ex_i : i = 12 := by omega
                    try rw [ex_i] at hl
                    try rw [ex_i] at hw
                    have hw := aw_arr hw 6 rfl (fun m => tu m &&& nI w) (fun j hj => by rw [fa_fill_in hj])
                    have hw : bW G A s.heap [[(am 31, mdO am fl n lw nn ra rsn nr tr)], [(am 2, .inl (gI G, 6, .inl kd))], [(am 3, .inl (gI G, 6, .inl sk))], [(am 4, .inl (gI G, 6, .inl br))], [(am 5, .inl (gI G, 12, .inl tu))], [(am 6, .inl (gI G, 12, .inl wa))], [(am 16, .inl (gI G, 12, .inl (fun m => tu m &&& nI w)))], [(am 17, .inl (gI G, 72, .inl cn1))], [(am 18, .inl (gI G, 72, .inl hb1))]] H locs := hw
                    refine lv_aload_n S.1 S.2.1 dX11_odds_75 rfl (lv_at hl 0 rfl) ?_
                    refine aw_callV S hE (c_X11_goMonths l G am fl n lw nn ra rsn nr tr kd sk (fun m => tu m &&& nI w) cn1 hb1 (by first | assumption | omega)) gX11_odds_X11_goMonths (n := 0) rfl (by decide +kernel) rfl (by rw [hRm]; exact ⟨Nat.le_of_ble_eq_true rfl, Nat.le_of_ble_eq_true rfl⟩) (by rw [hRm]; exact ⟨Nat.le_of_ble_eq_true rfl, Nat.le_of_ble_eq_true rfl⟩) hw hA hl.1 [0, 1, 2, 6, 7, 8] rfl rfl (aw_recv (i := 0) hE hw rfl rfl rfl) rfl (Nat.le_of_ble_eq_true rfl) dX11_odds_76 ?_
                    rintro v w1 H locs ⟨rfl, rfl⟩ hw
                    have hw : bW G A s.heap [[(am 31, mdO am fl n lw nn ra rsn nr tr)], [(am 2, .inl (gI G, 6, .inl kd))], [(am 3, .inl (gI G, 6, .inl sk))], [(am 4, .inl (gI G, 6, .inl br))], [(am 5, .inl (gI G, 12, .inl tu))], [(am 6, .inl (gI G, 12, .inl wa))], [(am 16, .inl (gI G, 12, .inl (fun m => tu m &&& nI w)))], [(am 17, .inl (gI G, 72, .inl (tbF (kA n lw sk (fun m => tu m &&& nI w)) n 72 cn1)))], [(am 18, .inl (gI G, 72, .inl (tbF (fun m => hB n (fun j => hoK (kd j)) (fun m => tu m &&& nI w) (m + 1)) n 72 hb1)))]] H locs := hw
                    refine W.eq (g2 := (F0 m 79 ls [])) rfl ?_
                    refine lv_iconst (v := 1) S.1 S.2.1 dX11_odds_79 (by decide) ?_
                    refine lv_istore (lv' := [(6, .int 1), (0, .ref (am 31)), (1, .int (nI (tn mo))), (2, .int wt), (3, .long (lN (ct ((wyP n lw sk (fun j => hoK (kd j)) br tu wa) (tn mo)) w))), (5, .int (nI w))]) S.1 S.2.1 dX11_odds_80 hl (by decide) rfl (fun ls hl => ?_)
                    refine lv_iconst (v := 0) S.1 S.2.1 dX11_odds_82 (by decide) ?_
                    refine lv_istore (lv' := [(7, .int 0), (6, .int 1), (0, .ref (am 31)), (1, .int (nI (tn mo))), (2, .int wt), (3, .long (lN (ct ((wyP n lw sk (fun j => hoK (kd j)) br tu wa) (tn mo)) w))), (5, .int (nI w))]) S.1 S.2.1 dX11_odds_83 hl (by decide) rfl (fun ls hl => ?_)
                    have hl := Eq.mp (congrArg (fun z_ : Int32 => lv_has ls 8 [(7, .int 0), (6, .int z_), (0, .ref (am 31)), (1, .int (nI (tn mo))), (2, .int wt), (3, .long (lN (ct ((wyP n lw sk (fun j => hoK (kd j)) br tu wa) (tn mo)) w))), (5, .int (nI w))]) (show (1 : Int32) = if fF (wrP n lw sk (fun j => hoK (kd j)) br (fun m => tu m &&& nI w) wa true false) 0 = 0 then 1 else 0 from rfl)) hl
                    have hl : lv_has ls 8 [(7, .int 0), (6, .int (if fF (wrP n lw sk (fun j => hoK (kd j)) br (fun m => tu m &&& nI w) wa true false) 0 = 0 then 1 else 0)), (0, .ref (am 31)), (1, .int (nI (tn mo))), (2, .int wt), (3, .long (lN (ct ((wyP n lw sk (fun j => hoK (kd j)) br tu wa) (tn mo)) w))), (5, .int (nI w))] := hl
                    have loop85 : ∀ (fu : Nat) (i : Nat), (i ≤ tn mo + 1) → (tn mo + 1 - i) < fu → ∀ (ls : Array Slot) (H : Heap) (locs : List Loc), lv_has ls 8 [(0, .ref (am 31)), (1, .int (nI (tn mo))), (2, .int wt), (3, .long (lN (ct ((wyP n lw sk (fun j => hoK (kd j)) br tu wa) (tn mo)) w))), (5, .int (nI w)), (6, .int (if fF (wrP n lw sk (fun j => hoK (kd j)) br (fun m => tu m &&& nI w) wa true false) i = i then 1 else 0)), (7, .int (nI i))] → bW G A s.heap [[(am 31, mdO am fl n lw nn ra rsn nr tr)], [(am 2, .inl (gI G, 6, .inl kd))], [(am 3, .inl (gI G, 6, .inl sk))], [(am 4, .inl (gI G, 6, .inl br))], [(am 5, .inl (gI G, 12, .inl tu))], [(am 6, .inl (gI G, 12, .inl wa))], [(am 16, .inl (gI G, 12, .inl (fun m => tu m &&& nI w)))], [(am 17, .inl (gI G, 72, .inl (tbF (kA n lw sk (fun m => tu m &&& nI w)) n 72 cn1)))], [(am 18, .inl (gI G, 72, .inl (tbF (fun m => hB n (fun j => hoK (kd j)) (fun m => tu m &&& nI w) (m + 1)) n 72 hb1)))]] H locs → W p l e R s m args below meth c H locs 0 0 Q (F0 m 85 ls []) := by
                      intro fu
                      induction fu with
                      | zero => intro i _ hm; exact absurd hm (Nat.not_lt_zero _)
                      | succ fu ih85 =>
                        intro i hi hm ls H locs hl hw
                        refine lv_iload S.1 S.2.1 dX11_odds_85 (lv_at hl 6 rfl) ?_
                        refine lv_iload_n S.1 S.2.1 dX11_odds_87 rfl (lv_at hl 1 rfl) ?_
                        refine aw_icmpN_gt (x := i) (y := tn mo) (tgt := 118) S (by omega) (by omega) dX11_odds_88 (by decide) (fun c88 => ?_) (fun c88 => ?_)
                        · have ex_i : i = tn mo + 1 := by omega
                          try rw [ex_i] at hl
                          try rw [ex_i] at hw
                          refine lv_lload_n S.1 S.2.1 dX11_odds_118 rfl (lv_at hl 3 rfl) ?_
                          refine lv_iload S.1 S.2.1 dX11_odds_119 (lv_at hl 5 rfl) ?_
                          have join129 : ∀ (H : Heap) (locs : List Loc), ∀ (ls : Array Slot), lv_has ls 8 [(0, .ref (am 31)), (1, .int (nI (tn mo))), (2, .int wt), (3, .long (lN (ct ((wyP n lw sk (fun j => hoK (kd j)) br tu wa) (tn mo)) w))), (5, .int (nI w)), (6, .int (if fF (wrP n lw sk (fun j => hoK (kd j)) br (fun m => tu m &&& nI w) wa true false) (tn mo + 1) = (tn mo + 1) then 1 else 0)), (7, .int (nI (tn mo + 1)))] → bW G A s.heap [[(am 31, mdO am fl n lw nn ra rsn nr tr)], [(am 2, .inl (gI G, 6, .inl kd))], [(am 3, .inl (gI G, 6, .inl sk))], [(am 4, .inl (gI G, 6, .inl br))], [(am 5, .inl (gI G, 12, .inl tu))], [(am 6, .inl (gI G, 12, .inl wa))], [(am 16, .inl (gI G, 12, .inl (fun m => tu m &&& nI w)))], [(am 17, .inl (gI G, 72, .inl (tbF (kA n lw sk (fun m => tu m &&& nI w)) n 72 cn1)))], [(am 18, .inl (gI G, 72, .inl (tbF (fun m => hB n (fun j => hoK (kd j)) (fun m => tu m &&& nI w) (m + 1)) n 72 hb1)))]] H locs → W p l e R s m args below meth c H locs 0 0 Q (F0 m 129 ls [.long (lN (if (wyP n lw sk (fun j => hoK (kd j)) br tu wa) (tn mo) w = true then 1 else 0)), .long (lN (ct ((wyP n lw sk (fun j => hoK (kd j)) br tu wa) (tn mo)) w))]) := by
                            intro  H locs ls hl hw
                            refine lv_ladd S.1 S.2.1 dX11_odds_129 ?_
                            refine aw_eql (show ((lN (ct ((wyP n lw sk (fun j => hoK (kd j)) br tu wa) (tn mo)) w)) + (lN (if (wyP n lw sk (fun j => hoK (kd j)) br tu wa) (tn mo) w = true then 1 else 0)) : Int64) = lN (ct ((wyP n lw sk (fun j => hoK (kd j)) br tu wa) (tn mo)) (w + 1)) from lN_ad _ _) ?_
                            refine lv_lstore_n (lv' := [(3, .long (lN (ct ((wyP n lw sk (fun j => hoK (kd j)) br tu wa) (tn mo)) (w + 1)))), (0, .ref (am 31)), (1, .int (nI (tn mo))), (2, .int wt), (5, .int (nI w)), (6, .int (if fF (wrP n lw sk (fun j => hoK (kd j)) br (fun m => tu m &&& nI w) wa true false) (tn mo + 1) = (tn mo + 1) then 1 else 0)), (7, .int (nI (tn mo + 1)))]) S.1 S.2.1 dX11_odds_130 rfl hl (by decide) rfl (fun ls hl => ?_)
                            refine lv_iinc (v := nI (w + 1)) (lv' := [(5, .int (nI (w + 1))), (3, .long (lN (ct ((wyP n lw sk (fun j => hoK (kd j)) br tu wa) (tn mo)) (w + 1)))), (0, .ref (am 31)), (1, .int (nI (tn mo))), (2, .int wt), (6, .int (if fF (wrP n lw sk (fun j => hoK (kd j)) br (fun m => tu m &&& nI w) wa true false) (tn mo + 1) = (tn mo + 1) then 1 else 0)), (7, .int (nI (tn mo + 1)))]) S.1 S.2.1 dX11_odds_131 hl (k := 4) rfl (by first | exact nI_1 _ | exact nI_add _ _ | rfl) (by decide) rfl (fun ls hl => ?_)
                            refine lv_goto (tgt := 33) S.1 S.2.1 dX11_odds_134 (by decide) ?_
                            exact ih33 (w + 1) (fun m => tu m &&& nI w) (tbF (kA n lw sk (fun m => tu m &&& nI w)) n 72 cn1) (tbF (fun m => hB n (fun j => hoK (kd j)) (fun m => tu m &&& nI w) (m + 1)) n 72 hb1) (by first | assumption | omega) (by omega) _ _ _ (lv_sub hl [2, 3, 4, 1, 0] rfl) hw
                          refine aw_ifeq (P := fF (wrP n lw sk (fun j => hoK (kd j)) br (fun m => tu m &&& nI w) wa true false) (tn mo + 1) = (tn mo + 1)) (tgt := 128) S dX11_odds_121 (by decide) (fun c121 => ?_) (fun c121 => ?_)
                          · refine lv_lconst (v := 0) S.1 S.2.1 dX11_odds_128 (by decide) ?_
                            refine aw_eql (show (0 : Int64) = lN (if (wyP n lw sk (fun j => hoK (kd j)) br tu wa) (tn mo) w = true then 1 else 0) from (by rw [if_neg (show ¬ (wyP n lw sk (fun j => hoK (kd j)) br tu wa) (tn mo) w = true from fun q => c121 (of_decide_eq_true q))]; rfl)) ?_
                            exact join129  _ _ _ (lv_sub hl [0, 1, 2, 3, 4, 5, 6] rfl) hw
                          · refine lv_lconst (v := 1) S.1 S.2.1 dX11_odds_124 (by decide) ?_
                            refine lv_goto (tgt := 129) S.1 S.2.1 dX11_odds_125 (by decide) ?_
                            refine aw_eql (show (1 : Int64) = lN (if (wyP n lw sk (fun j => hoK (kd j)) br tu wa) (tn mo) w = true then 1 else 0) from (by rw [if_pos (show (wyP n lw sk (fun j => hoK (kd j)) br tu wa) (tn mo) w = true from decide_eq_true c121)]; rfl)) ?_
                            exact join129  _ _ _ (lv_sub hl [0, 1, 2, 3, 4, 5, 6] rfl) hw
                        · refine lv_iload S.1 S.2.1 dX11_odds_91 (lv_at hl 5 rfl) ?_
                          have join110 : ∀ (H : Heap) (locs : List Loc), ∀ (ls : Array Slot), lv_has ls 8 [(0, .ref (am 31)), (1, .int (nI (tn mo))), (2, .int wt), (3, .long (lN (ct ((wyP n lw sk (fun j => hoK (kd j)) br tu wa) (tn mo)) w))), (5, .int (nI w)), (6, .int (if fF (wrP n lw sk (fun j => hoK (kd j)) br (fun m => tu m &&& nI w) wa true false) i = i then 1 else 0)), (7, .int (nI i))] → bW G A s.heap [[(am 31, mdO am fl n lw nn ra rsn nr tr)], [(am 2, .inl (gI G, 6, .inl kd))], [(am 3, .inl (gI G, 6, .inl sk))], [(am 4, .inl (gI G, 6, .inl br))], [(am 5, .inl (gI G, 12, .inl tu))], [(am 6, .inl (gI G, 12, .inl wa))], [(am 16, .inl (gI G, 12, .inl (fun m => tu m &&& nI w)))], [(am 17, .inl (gI G, 72, .inl (tbF (kA n lw sk (fun m => tu m &&& nI w)) n 72 cn1)))], [(am 18, .inl (gI G, 72, .inl (tbF (fun m => hB n (fun j => hoK (kd j)) (fun m => tu m &&& nI w) (m + 1)) n 72 hb1)))]] H locs → W p l e R s m args below meth c H locs 0 0 Q (F0 m 110 ls [.int (if fF (wrP n lw sk (fun j => hoK (kd j)) br (fun m => tu m &&& nI w) wa true false) (i + 1) = i + 1 then 1 else 0)]) := by
                            intro  H locs ls hl hw
                            refine lv_istore (lv' := [(6, .int (if fF (wrP n lw sk (fun j => hoK (kd j)) br (fun m => tu m &&& nI w) wa true false) (i + 1) = i + 1 then 1 else 0)), (0, .ref (am 31)), (1, .int (nI (tn mo))), (2, .int wt), (3, .long (lN (ct ((wyP n lw sk (fun j => hoK (kd j)) br tu wa) (tn mo)) w))), (5, .int (nI w)), (7, .int (nI i))]) S.1 S.2.1 dX11_odds_110 hl (by decide) rfl (fun ls hl => ?_)
                            refine lv_iinc (v := nI (i + 1)) (lv' := [(7, .int (nI (i + 1))), (6, .int (if fF (wrP n lw sk (fun j => hoK (kd j)) br (fun m => tu m &&& nI w) wa true false) (i + 1) = i + 1 then 1 else 0)), (0, .ref (am 31)), (1, .int (nI (tn mo))), (2, .int wt), (3, .long (lN (ct ((wyP n lw sk (fun j => hoK (kd j)) br tu wa) (tn mo)) w))), (5, .int (nI w))]) S.1 S.2.1 dX11_odds_112 hl (k := 6) rfl (by first | exact nI_1 _ | exact nI_add _ _ | rfl) (by decide) rfl (fun ls hl => ?_)
                            refine lv_goto (tgt := 85) S.1 S.2.1 dX11_odds_115 (by decide) ?_
                            exact ih85 (i + 1) (by first | assumption | omega) (by omega) _ _ _ (lv_sub hl [2, 3, 4, 5, 6, 1, 0] rfl) hw
                          refine aw_ifeq (P := fF (wrP n lw sk (fun j => hoK (kd j)) br (fun m => tu m &&& nI w) wa true false) i = i) (tgt := 109) S dX11_odds_93 (by decide) (fun c93 => ?_) (fun c93 => ?_)
                          · refine lv_iconst (v := 0) S.1 S.2.1 dX11_odds_109 (by decide) ?_
                            refine aw_eqi (show (0 : Int32) = if fF (wrP n lw sk (fun j => hoK (kd j)) br (fun m => tu m &&& nI w) wa true false) (i + 1) = i + 1 then 1 else 0 from (by rw [if_neg (fun q => c93 (fF_sB.mp q).1)])) ?_
                            exact join110  _ _ _ (lv_sub hl [0, 1, 2, 3, 4, 5, 6] rfl) hw
                          · refine lv_aload_n S.1 S.2.1 dX11_odds_96 rfl (lv_at hl 0 rfl) ?_
                            refine lv_iload S.1 S.2.1 dX11_odds_97 (lv_at hl 6 rfl) ?_
                            refine aw_callV S hE (c_X11_lackedIn l G am fl n lw nn ra rsn nr tr wa (fun m => tu m &&& nI w) (tbF (kA n lw sk (fun m => tu m &&& nI w)) n 72 cn1) i (by first | assumption | omega) (by first | assumption | omega)) gX11_odds_X11_lackedIn (n := 1) rfl (by decide +kernel) rfl (by rw [hRm]; exact ⟨Nat.le_of_ble_eq_true rfl, Nat.le_of_ble_eq_true rfl⟩) (by rw [hRm]; exact ⟨Nat.le_of_ble_eq_true rfl, Nat.le_of_ble_eq_true rfl⟩) hw hA hl.1 [0, 5, 6, 7] rfl rfl (aw_recv (i := 0) hE hw rfl rfl rfl) rfl (Nat.le_of_ble_eq_true rfl) dX11_odds_99 ?_
                            rintro v w1 H locs ⟨rfl, rfl⟩ hw
                            have hw : bW G A s.heap [[(am 31, mdO am fl n lw nn ra rsn nr tr)], [(am 2, .inl (gI G, 6, .inl kd))], [(am 3, .inl (gI G, 6, .inl sk))], [(am 4, .inl (gI G, 6, .inl br))], [(am 5, .inl (gI G, 12, .inl tu))], [(am 6, .inl (gI G, 12, .inl wa))], [(am 16, .inl (gI G, 12, .inl (fun m => tu m &&& nI w)))], [(am 17, .inl (gI G, 72, .inl (tbF (kA n lw sk (fun m => tu m &&& nI w)) n 72 cn1)))], [(am 18, .inl (gI G, 72, .inl (tbF (fun m => hB n (fun j => hoK (kd j)) (fun m => tu m &&& nI w) (m + 1)) n 72 hb1)))]] H locs := hw
                            refine W.eq (g2 := (F0 m 102 ls [.int (wa i &&& (tgF ((fun m => tu m &&& nI w) i) (fun s => (tbF (kA n lw sk (fun m => tu m &&& nI w)) n 72 cn1) (6 * i + s)) n ^^^ (-1)))])) rfl ?_
                            refine aw_eqi (show (wa i &&& (tgF ((fun m => tu m &&& nI w) i) (fun s => (tbF (kA n lw sk (fun m => tu m &&& nI w)) n 72 cn1) (6 * i + s)) n ^^^ (-1)) : Int32) = lkF n lw sk (fun m => tu m &&& nI w) wa i from (lk_tb (tu := fun m => tu m &&& nI w) hn (by omega))) ?_
                            refine lv_if_ne (tgt := 109) S.1 S.2.1 dX11_odds_102 (by decide) (fun c102 => ?_) (fun c102 => ?_)
                            · refine lv_iconst (v := 0) S.1 S.2.1 dX11_odds_109 (by decide) ?_
                              refine aw_eqi (show (0 : Int32) = if fF (wrP n lw sk (fun j => hoK (kd j)) br (fun m => tu m &&& nI w) wa true false) (i + 1) = i + 1 then 1 else 0 from (by rw [if_neg (fun q => c102 (wrP_o.mp (fF_sB.mp q).2))])) ?_
                              exact join110  _ _ _ (lv_sub hl [0, 1, 2, 3, 4, 5, 6] rfl) hw
                            · refine lv_iconst (v := 1) S.1 S.2.1 dX11_odds_105 (by decide) ?_
                              refine lv_goto (tgt := 110) S.1 S.2.1 dX11_odds_106 (by decide) ?_
                              refine aw_eqi (show (1 : Int32) = if fF (wrP n lw sk (fun j => hoK (kd j)) br (fun m => tu m &&& nI w) wa true false) (i + 1) = i + 1 then 1 else 0 from (by rw [if_pos (fF_sB.mpr ⟨c93, wrP_o.mpr c102⟩)])) ?_
                              exact join110  _ _ _ (lv_sub hl [0, 1, 2, 3, 4, 5, 6] rfl) hw
                    exact loop85 _ 0 (by first | assumption | omega) (Nat.lt_succ_self _) _ _ _ (lv_sub hl [2, 3, 4, 5, 6, 1, 0] rfl) hw
                  · refine lv_aload_n S.1 S.2.1 dX11_odds_52 rfl (lv_at hl 0 rfl) ?_
                    refine aw_get S hE hw 0 (C := RX11) (T := TX11) (N := 31) rfl rfl hinX11 16 (by decide) hf40 rfl dX11_odds_53 ?_
                    refine lv_iload S.1 S.2.1 dX11_odds_56 (lv_at hl 5 rfl) ?_
                    refine lv_aload_n S.1 S.2.1 dX11_odds_58 rfl (lv_at hl 0 rfl) ?_
                    refine aw_get S hE hw 0 (C := RX11) (T := TX11) (N := 31) rfl rfl hinX11 5 (by decide) hf19 rfl dX11_odds_59 ?_
                    refine lv_iload S.1 S.2.1 dX11_odds_62 (lv_at hl 5 rfl) ?_
                    refine aw_iald S hE hw 4 (k := i) rfl (by omega) (by decide) dX11_odds_64 ?_
                    refine lv_iload S.1 S.2.1 dX11_odds_65 (lv_at hl 4 rfl) ?_
                    refine lv_iand S.1 S.2.1 dX11_odds_67 ?_
                    refine aw_iast S hE hw 6 (k := i) rfl (by omega) (by decide) dX11_odds_68 (fun H locs hw => ?_)
                    have hw : bW G A s.heap [[(am 31, mdO am fl n lw nn ra rsn nr tr)], [(am 2, .inl (gI G, 6, .inl kd))], [(am 3, .inl (gI G, 6, .inl sk))], [(am 4, .inl (gI G, 6, .inl br))], [(am 5, .inl (gI G, 12, .inl tu))], [(am 6, .inl (gI G, 12, .inl wa))], [(am 16, .inl (gI G, 12, .inl (upd (fa_fill (fun m => tu m &&& nI w) me1 i) i ((tu i) &&& (nI w)))))], [(am 17, .inl (gI G, 72, .inl cn1))], [(am 18, .inl (gI G, 72, .inl hb1))]] H locs := hw
                    refine lv_iinc (v := nI (i + 1)) (lv' := [(6, .int (nI (i + 1))), (0, .ref (am 31)), (1, .int (nI (tn mo))), (2, .int wt), (3, .long (lN (ct ((wyP n lw sk (fun j => hoK (kd j)) br tu wa) (tn mo)) w))), (5, .int (nI w))]) S.1 S.2.1 dX11_odds_69 hl (k := 5) rfl (by first | exact nI_1 _ | exact nI_add _ _ | rfl) (by decide) rfl (fun ls hl => ?_)
                    refine lv_goto (tgt := 45) S.1 S.2.1 dX11_odds_72 (by decide) ?_
                    have hw := aw_arr hw 6 rfl (fa_fill (fun m => tu m &&& nI w) me1 (i + 1)) (fun _ _ => by rw [← fa_fill_succ])
                    have hw : bW G A s.heap [[(am 31, mdO am fl n lw nn ra rsn nr tr)], [(am 2, .inl (gI G, 6, .inl kd))], [(am 3, .inl (gI G, 6, .inl sk))], [(am 4, .inl (gI G, 6, .inl br))], [(am 5, .inl (gI G, 12, .inl tu))], [(am 6, .inl (gI G, 12, .inl wa))], [(am 16, .inl (gI G, 12, .inl (fa_fill (fun m => tu m &&& nI w) me1 (i + 1))))], [(am 17, .inl (gI G, 72, .inl cn1))], [(am 18, .inl (gI G, 72, .inl hb1))]] H locs := hw
                    exact ih45 (i + 1) (by first | assumption | omega) (by omega) _ _ _ (lv_sub hl [1, 2, 3, 4, 5, 0] rfl) hw
              exact loop45 _ 0 (by first | assumption | omega) (Nat.lt_succ_self _) _ _ _ (lv_sub hl [1, 2, 3, 4, 5, 0] rfl) hw
        exact loop33 _ 0 me cn hb (Nat.zero_le _) (Nat.lt_succ_self _) _ _ _ (lv_sub hl [2, 3, 4, 1, 0] rfl) hw
      · refine aw_callS S hE (c_X11_lost l G ()) gX11_odds_X11_lost (n := 0) rfl (by decide +kernel) rfl (by rw [hRm]; exact ⟨Nat.le_of_ble_eq_true rfl, Nat.le_of_ble_eq_true rfl⟩) (by rw [hRm]; exact ⟨Nat.le_of_ble_eq_true rfl, Nat.le_of_ble_eq_true rfl⟩) hw hA hl.1 [] rfl rfl rfl (Nat.le_of_ble_eq_true rfl) dX11_odds_24 ?_
        rintro v w1 H locs ⟨rfl, rfl⟩ hw
        have hw : bW G A s.heap [[(am 31, mdO am fl n lw nn ra rsn nr tr)], [(am 2, .inl (gI G, 6, .inl kd))], [(am 3, .inl (gI G, 6, .inl sk))], [(am 4, .inl (gI G, 6, .inl br))], [(am 5, .inl (gI G, 12, .inl tu))], [(am 6, .inl (gI G, 12, .inl wa))], [(am 16, .inl (gI G, 12, .inl me))], [(am 17, .inl (gI G, 72, .inl cn))], [(am 18, .inl (gI G, 72, .inl hb))]] H locs := hw
        refine W.eq (g2 := (F0 m 27 ls [.long (-9223372036854775808)])) rfl ?_
        refine aw_eql (show (-9223372036854775808 : Int64) = f_odds n (wyP n lw sk (fun j => hoK (kd j)) br tu wa) mo wt from (by rw [f_odds, if_neg (by omega)])) ?_
        exact aw_lret S hr hlk ha hQ hAe hw dX11_odds_27 (Nat.le_of_ble_eq_true rfl) (Nat.le_of_ble_eq_true rfl) ⟨rfl, _, _, _, rfl⟩
