/-! the reference: judging -/
theorem fr_0 {ln lv iv nv : Int32} {le : Nat} (h : frF ln le lv iv nv = 0) : ¬ ln = -1 ∧ ¬ nv.toInt < 0 ∧ 0 ≤ iv.toInt ∧ iv.toInt ≤ le ∧ nv.toInt ≤ le - iv.toInt := by
  unfold frF at h
  by_cases h1 : ln = -1
  · rw [if_pos h1] at h; exact absurd h (by decide)
  · rw [if_neg h1] at h
    by_cases h2 : ¬ ln = lv
    · rw [if_pos h2] at h; exact absurd h (by decide)
    · rw [if_neg h2] at h
      by_cases h3 : nv.toInt < 0
      · rw [if_pos h3] at h; exact absurd h (by decide)
      · rw [if_neg h3] at h
        by_cases h4 : 0 ≤ iv.toInt ∧ iv.toInt ≤ le ∧ nv.toInt ≤ le - iv.toInt
        · exact ⟨h1, h3, h4⟩
        · rw [if_neg h4] at h; exact absurd h (by decide)
theorem fr_of (ln lv iv nv : Int32) (le : Nat) : frF ln le lv iv nv = 0 ∨ frF ln le lv iv nv = 1 ∨ frF ln le lv iv nv = 2 ∨ frF ln le lv iv nv = 3 ∨ frF ln le lv iv nv = 4 := by
  unfold frF
  split
  · exact Or.inr (Or.inl rfl)
  · split
    · exact Or.inr (Or.inr (Or.inl rfl))
    · split
      · exact Or.inr (Or.inr (Or.inr (Or.inr rfl)))
      · split
        · exact Or.inl rfl
        · exact Or.inr (Or.inr (Or.inr (Or.inl rfl)))
theorem fr_ge {ln lv iv nv : Int32} {le : Nat} : 0 ≤ (if frF ln le lv iv nv = 0 then (0 : Int32) else -10 - frF ln le lv iv nv) ↔ frF ln le lv iv nv = 0 := by
  rcases fr_of ln lv iv nv le with q | q | q | q | q <;> rw [q] <;> decide
theorem st_dec : ∀ n, n < 7 → ∀ S, S < 64 → (nI S &&& (nI (2 ^ n - 1) ^^^ (-1)) = 0 ↔ S < 2 ^ n) := by decide +kernel
theorem st_in {n : Nat} (hn : n ≤ 6) (v : Int32) : (0 ≤ v.toInt ∧ v.toInt < ((2 ^ n : Nat) : Int)) ↔ v &&& (nI (2 ^ n - 1) ^^^ (-1)) = 0 := by
  have h64 := pow6' hn
  constructor
  · intro h
    have e := aw_tnE h
    have l := aw_tnL h
    rw [e]
    exact (st_dec n (by omega) _ (by omega)).mpr l
  · intro h
    have e : v = v &&& nI 63 := by
      refine b_ext (fun i hi => ?_)
      rw [b_and, b_all 6 (by omega) i hi]
      by_cases q : i < 6
      · rw [decide_eq_true q, Bool.and_true]
      · rw [decide_eq_false q, Bool.and_false]
        have hb := congrArg (fun z => bt z i) h
        simp only [b_and, b_0] at hb
        rw [b_not _ hi, b_all n (by omega) i hi, decide_eq_false (by omega), Bool.not_false, Bool.and_true] at hb
        exact hb
    have hN : v.toBitVec.toNat < 64 := by
      rw [e, Int32.toBitVec_and, BitVec.toNat_and]
      exact Nat.lt_of_le_of_lt Nat.and_le_right (by decide)
    have hI : v.toInt = (v.toBitVec.toNat : Int) := by
      show v.toBitVec.toInt = _
      rw [BitVec.toInt_eq_toNat_of_lt (by omega)]
    have e2 : v = nI v.toBitVec.toNat := by
      rw [fa_eq, nI_toInt (by omega), hI]
    rw [e2] at h
    have := (st_dec n (by omega) _ hN).mp h
    omega
set_option maxRecDepth 100000 in
set_option maxHeartbeats 4000000 in
theorem c_X11_judge (l : Launch) (G : aw_G) (am : Nat → Nat) (fl : Int32) (n : Nat) (lw : Int32) (nn ra rsn nr : Nat) (tr : Int32) (kd sk br wa me cn hb : Nat → Int32) (sz sl_ shm : Nat → Int32) (ln : Nat → Int32) (le : Nat → Nat) (ce : Nat → Nat → Int32) (kv lv iv nv : Int32) (hn : n ≤ 6) (hR : shR sz sl_ shm ln le ce) (hwa : ∀ m, m < 12 → 0 ≤ (wa m).toInt) : CT l G yX11_judge wsX11_judge ({ frames := 3, cells := 0, slots := 0, locals := 69 }) [.ref (am 31), .int kv, .int lv, .int iv, .int nv] [[(am 31, mdO am fl n lw nn ra rsn nr tr)], [(am 2, .inl (gI G, 6, .inl kd))], [(am 3, .inl (gI G, 6, .inl sk))], [(am 4, .inl (gI G, 6, .inl br))], [(am 6, .inl (gI G, 12, .inl wa))], [(am 16, .inl (gI G, 12, .inl me))], [(am 17, .inl (gI G, 72, .inl cn))], [(am 18, .inl (gI G, 72, .inl hb))], [(am 26, .inl (gI G, 4, .inl sz))], [(am 27, .inl (gI G, 4, .inl sl_))], [(am 28, .inl (gI G, 240, .inl shm))]] (fun v w => v = some (.int (f_judge n ln le ce (noI (fwF n lw sk (fun j => hoK (kd j)) br (fun m => ce (tn kv) (tn iv + m)) wa (tn nv) true true) (tn nv)) kv lv iv nv)) ∧ ∃ me cn hb : Nat → Int32, w = [[(am 31, mdO am (f_judgeF n ln le kv lv iv nv) n lw nn ra rsn nr tr)], [(am 2, .inl (gI G, 6, .inl kd))], [(am 3, .inl (gI G, 6, .inl sk))], [(am 4, .inl (gI G, 6, .inl br))], [(am 6, .inl (gI G, 12, .inl wa))], [(am 16, .inl (gI G, 12, .inl me))], [(am 17, .inl (gI G, 72, .inl cn))], [(am 18, .inl (gI G, 72, .inl hb))], [(am 26, .inl (gI G, 4, .inl sz))], [(am 27, .inl (gI G, 4, .inl sl_))], [(am 28, .inl (gI G, 240, .inl shm))]]) := by
  refine CT.of (cc := cX11_judge) (nL := 7) (ret := (some .int)) (by decide) rfl (Nat.le_of_ble_eq_true rfl) ?_
  intro p e s m below meth c R args Q A hRm ha hQ hAe hA S hE hr hlk hnm H locs hH0 hL0 ls hl hw
  have S : CallFix p m c cX11_judge 7 s args wsX11_judge RX11 := S
  have hl : lv_has ls 7 [(0, .ref (am 31)), (1, .int kv), (2, .int lv), (3, .int iv), (4, .int nv)] := hl
  have hinX11 : ∀ w ∈ u_ws RX11 TX11 31, w ∈ wsX11_judge := by decide +kernel
  have hf90 := S.2.2.2.2 (.fieldLink RX11 90 "AwakeTurnsModel" "sleepers" "I") (by decide +kernel)
  have hf40 := S.2.2.2.2 (.fieldLink RX11 40 "AwakeTurnsModel" "meant" "[I") (by decide +kernel)
  have hf74 := S.2.2.2.2 (.fieldLink RX11 74 "AwakeTurnsModel" "sheet" "[I") (by decide +kernel)
  have hp6 := pow6' hn
  have hp1 : 1 ≤ 2 ^ n := Nat.one_le_two_pow
  have eal : (nI (2 ^ n - 1)).toInt = ((2 ^ n - 1 : Nat) : Int) := nI_toInt (by omega)
  refine lv_iload_n S.1 S.2.1 dX11_judge_0 rfl (lv_at hl 1 rfl) ?_
  refine aw_callS S hE (c_X11_noSheet l G kv) gX11_judge_X11_noSheet (n := 1) rfl (by decide +kernel) rfl (by rw [hRm]; exact ⟨Nat.le_of_ble_eq_true rfl, Nat.le_of_ble_eq_true rfl⟩) (by rw [hRm]; exact ⟨Nat.le_of_ble_eq_true rfl, Nat.le_of_ble_eq_true rfl⟩) hw hA hl.1 [] rfl rfl rfl (Nat.le_of_ble_eq_true rfl) dX11_judge_1 ?_
  rintro v w1 H locs ⟨rfl, rfl⟩ hw
  have hw : bW G A s.heap [[(am 31, mdO am fl n lw nn ra rsn nr tr)], [(am 2, .inl (gI G, 6, .inl kd))], [(am 3, .inl (gI G, 6, .inl sk))], [(am 4, .inl (gI G, 6, .inl br))], [(am 6, .inl (gI G, 12, .inl wa))], [(am 16, .inl (gI G, 12, .inl me))], [(am 17, .inl (gI G, 72, .inl cn))], [(am 18, .inl (gI G, 72, .inl hb))], [(am 26, .inl (gI G, 4, .inl sz))], [(am 27, .inl (gI G, 4, .inl sl_))], [(am 28, .inl (gI G, 240, .inl shm))]] H locs := hw
  refine W.eq (g2 := (F0 m 4 ls [.int (if ¬ (0 ≤ kv.toInt ∧ kv.toInt < 4) then 1 else 0)])) rfl ?_
  refine aw_ifeq (P := ¬ (0 ≤ kv.toInt ∧ kv.toInt < 4)) (tgt := 13) S dX11_judge_4 (by decide) (fun c4 => ?_) (fun c4 => ?_)
  · have c4 := Decidable.not_not.mp c4
    have hb_kv : tn kv < 4 := aw_tnL c4
    have hl := Eq.mp (congrArg (fun z_ : Int32 => lv_has ls 7 [(0, .ref (am 31)), (1, .int z_), (2, .int lv), (3, .int iv), (4, .int nv)]) (show (kv : Int32) = nI (tn kv) from (aw_tnE c4))) hl
    have hl : lv_has ls 7 [(0, .ref (am 31)), (1, .int (nI (tn kv))), (2, .int lv), (3, .int iv), (4, .int nv)] := hl
    refine lv_iload_n S.1 S.2.1 dX11_judge_13 rfl (lv_at hl 2 rfl) ?_
    refine lv_i2l S.1 S.2.1 dX11_judge_14 rfl ?_
    refine lv_lconst (v := 0) S.1 S.2.1 dX11_judge_15 (by decide) ?_
    refine lv_ldc2 (v := 2) S.1 S.2.1 S.2.2.2.1 (S.2.2.2.2 (.constantLong RX11 132 2) (by decide +kernel)) dX11_judge_16 ?_
    refine aw_callS S hE (c_X11_in l G lv.toInt64 0 2) gX11_judge_X11_in (n := 3) rfl (by decide +kernel) rfl (by rw [hRm]; exact ⟨Nat.le_of_ble_eq_true rfl, Nat.le_of_ble_eq_true rfl⟩) (by rw [hRm]; exact ⟨Nat.le_of_ble_eq_true rfl, Nat.le_of_ble_eq_true rfl⟩) hw hA hl.1 [] rfl rfl rfl (Nat.le_of_ble_eq_true rfl) dX11_judge_19 ?_
    rintro v w1 H locs ⟨rfl, rfl⟩ hw
    have hw : bW G A s.heap [[(am 31, mdO am fl n lw nn ra rsn nr tr)], [(am 2, .inl (gI G, 6, .inl kd))], [(am 3, .inl (gI G, 6, .inl sk))], [(am 4, .inl (gI G, 6, .inl br))], [(am 6, .inl (gI G, 12, .inl wa))], [(am 16, .inl (gI G, 12, .inl me))], [(am 17, .inl (gI G, 72, .inl cn))], [(am 18, .inl (gI G, 72, .inl hb))], [(am 26, .inl (gI G, 4, .inl sz))], [(am 27, .inl (gI G, 4, .inl sl_))], [(am 28, .inl (gI G, 240, .inl shm))]] H locs := hw
    refine W.eq (g2 := (F0 m 22 ls [.int (if Int64.toInt 0 ≤ Int64.toInt lv.toInt64 ∧ Int64.toInt lv.toInt64 ≤ Int64.toInt 2 then 1 else 0)])) rfl ?_
    refine aw_ifne (P := Int64.toInt 0 ≤ Int64.toInt lv.toInt64 ∧ Int64.toInt lv.toInt64 ≤ Int64.toInt 2) (tgt := 32) S dX11_judge_22 (by decide) (fun c22 => ?_) (fun c22 => ?_)
    · rw [l64, l64_0, l64_2] at c22
      have hlv : 0 ≤ lv.toInt ∧ lv.toInt < 3 := by omega
      refine lv_aload_n S.1 S.2.1 dX11_judge_32 rfl (lv_at hl 0 rfl) ?_
      refine aw_get S hE hw 0 (C := RX11) (T := TX11) (N := 31) rfl rfl hinX11 1 (by decide) hf90 rfl dX11_judge_33 ?_
      refine aw_ifN_ne (x := n) (tgt := 46) S (by omega) dX11_judge_36 (by decide) (fun c36 => ?_) (fun c36 => ?_)
      · refine lv_aload_n S.1 S.2.1 dX11_judge_46 rfl (lv_at hl 0 rfl) ?_
        refine lv_iload_n S.1 S.2.1 dX11_judge_47 rfl (lv_at hl 1 rfl) ?_
        refine lv_iload_n S.1 S.2.1 dX11_judge_48 rfl (lv_at hl 2 rfl) ?_
        refine lv_iload_n S.1 S.2.1 dX11_judge_49 rfl (lv_at hl 3 rfl) ?_
        refine lv_iload S.1 S.2.1 dX11_judge_50 (lv_at hl 4 rfl) ?_
        refine lv_i2l S.1 S.2.1 dX11_judge_52 rfl ?_
        refine aw_callV S hE (c_X11_cellsBarred l G am fl n lw nn ra rsn nr tr sz sl_ shm ln le ce (tn kv) lv iv nv (by first | assumption | omega) (by first | assumption | omega)) gX11_judge_X11_cellsBarred (n := 4) rfl (by decide +kernel) rfl (by rw [hRm]; exact ⟨Nat.le_of_ble_eq_true rfl, Nat.le_of_ble_eq_true rfl⟩) (by rw [hRm]; exact ⟨Nat.le_of_ble_eq_true rfl, Nat.le_of_ble_eq_true rfl⟩) hw hA hl.1 [0, 8, 9] rfl rfl (aw_recv (i := 0) hE hw rfl rfl rfl) rfl (Nat.le_of_ble_eq_true rfl) dX11_judge_53 ?_
        rintro v w1 H locs ⟨rfl, rfl⟩ hw
        have hw : bW G A s.heap [[(am 31, mdO am (if frF (ln (tn kv)) (le (tn kv)) lv iv nv = 0 then fl else frF (ln (tn kv)) (le (tn kv)) lv iv nv) n lw nn ra rsn nr tr)], [(am 2, .inl (gI G, 6, .inl kd))], [(am 3, .inl (gI G, 6, .inl sk))], [(am 4, .inl (gI G, 6, .inl br))], [(am 6, .inl (gI G, 12, .inl wa))], [(am 16, .inl (gI G, 12, .inl me))], [(am 17, .inl (gI G, 72, .inl cn))], [(am 18, .inl (gI G, 72, .inl hb))], [(am 26, .inl (gI G, 4, .inl sz))], [(am 27, .inl (gI G, 4, .inl sl_))], [(am 28, .inl (gI G, 240, .inl shm))]] H locs := hw
        refine W.eq (g2 := (F0 m 56 ls [.int (if frF (ln (tn kv)) (le (tn kv)) lv iv nv = 0 then 0 else -10 - frF (ln (tn kv)) (le (tn kv)) lv iv nv)])) rfl ?_
        refine lv_istore (lv' := [(5, .int (if frF (ln (tn kv)) (le (tn kv)) lv iv nv = 0 then 0 else -10 - frF (ln (tn kv)) (le (tn kv)) lv iv nv)), (0, .ref (am 31)), (1, .int (nI (tn kv))), (2, .int lv), (3, .int iv), (4, .int nv)]) S.1 S.2.1 dX11_judge_56 hl (by decide) rfl (fun ls hl => ?_)
        refine lv_iload S.1 S.2.1 dX11_judge_58 (lv_at hl 0 rfl) ?_
        refine lv_if_ge (tgt := 66) S.1 S.2.1 dX11_judge_60 (by decide) (fun c60 => ?_) (fun c60 => ?_)
        · have hFR := fr_ge.mp c60
          have hf0 := fr_0 hFR
          refine lv_iload S.1 S.2.1 dX11_judge_66 (lv_at hl 5 rfl) ?_
          refine lv_bipush (v := 12) S.1 S.2.1 dX11_judge_68 (by decide) ?_
          refine lv_icmp_le (tgt := 80) S.1 S.2.1 dX11_judge_70 (by decide) (fun c70 => ?_) (fun c70 => ?_)
          · rw [fa_le, li_12] at c70
            have hb_le := (hR _ hb_kv).2.2.1
            have h_iv : 0 ≤ iv.toInt ∧ iv.toInt < ((61 : Nat) : Int) := by omega
            have t_iv : ((tn iv : Nat) : Int) = iv.toInt := by unfold tn; omega
            have hb_iv : tn iv < 61 := aw_tnL h_iv
            have hl := Eq.mp (congrArg (fun z_ : Int32 => lv_has ls 7 [(5, .int (if frF (ln (tn kv)) (le (tn kv)) lv iv nv = 0 then 0 else -10 - frF (ln (tn kv)) (le (tn kv)) lv iv nv)), (0, .ref (am 31)), (1, .int (nI (tn kv))), (2, .int lv), (3, .int z_), (4, .int nv)]) (show (iv : Int32) = nI (tn iv) from (aw_tnE h_iv))) hl
            have hl : lv_has ls 7 [(5, .int (if frF (ln (tn kv)) (le (tn kv)) lv iv nv = 0 then 0 else -10 - frF (ln (tn kv)) (le (tn kv)) lv iv nv)), (0, .ref (am 31)), (1, .int (nI (tn kv))), (2, .int lv), (3, .int (nI (tn iv))), (4, .int nv)] := hl
            have h_nv : 0 ≤ nv.toInt ∧ nv.toInt < ((61 : Nat) : Int) := by omega
            have t_nv : ((tn nv : Nat) : Int) = nv.toInt := by unfold tn; omega
            have hb_nv : tn nv < 61 := aw_tnL h_nv
            have hl := Eq.mp (congrArg (fun z_ : Int32 => lv_has ls 7 [(5, .int (if frF (ln (tn kv)) (le (tn kv)) lv iv nv = 0 then 0 else -10 - frF (ln (tn kv)) (le (tn kv)) lv iv nv)), (0, .ref (am 31)), (1, .int (nI (tn kv))), (2, .int lv), (3, .int (nI (tn iv))), (4, .int z_)]) (show (nv : Int32) = nI (tn nv) from (aw_tnE h_nv))) hl
            have hl : lv_has ls 7 [(5, .int (if frF (ln (tn kv)) (le (tn kv)) lv iv nv = 0 then 0 else -10 - frF (ln (tn kv)) (le (tn kv)) lv iv nv)), (0, .ref (am 31)), (1, .int (nI (tn kv))), (2, .int lv), (3, .int (nI (tn iv))), (4, .int (nI (tn nv)))] := hl
            have hcell : ∀ x, x < tn nv → shm (60 * tn kv + tn iv + x) = ce (tn kv) (tn iv + x) := fun x hx => by rw [Nat.add_assoc]; exact (hR _ hb_kv).2.2.2 hf0.1 (tn iv + x) (by omega)
            refine lv_iconst (v := 0) S.1 S.2.1 dX11_judge_80 (by decide) ?_
            refine lv_istore (lv' := [(6, .int 0), (5, .int (if frF (ln (tn kv)) (le (tn kv)) lv iv nv = 0 then 0 else -10 - frF (ln (tn kv)) (le (tn kv)) lv iv nv)), (0, .ref (am 31)), (1, .int (nI (tn kv))), (2, .int lv), (3, .int (nI (tn iv))), (4, .int (nI (tn nv)))]) S.1 S.2.1 dX11_judge_81 hl (by decide) rfl (fun ls hl => ?_)
            have loop83 : ∀ (fu : Nat) (j : Nat), (j ≤ tn nv) → (∀ x, x < j → (fun x => !decide (ce (tn kv) (tn iv + x) &&& (nI (2 ^ n - 1) ^^^ (-1)) = 0)) x = false) → (tn nv - j) < fu → ∀ (ls : Array Slot) (H : Heap) (locs : List Loc), lv_has ls 7 [(0, .ref (am 31)), (1, .int (nI (tn kv))), (2, .int lv), (3, .int (nI (tn iv))), (4, .int (nI (tn nv))), (6, .int (nI j))] → bW G A s.heap [[(am 31, mdO am (if frF (ln (tn kv)) (le (tn kv)) lv iv nv = 0 then fl else frF (ln (tn kv)) (le (tn kv)) lv iv nv) n lw nn ra rsn nr tr)], [(am 2, .inl (gI G, 6, .inl kd))], [(am 3, .inl (gI G, 6, .inl sk))], [(am 4, .inl (gI G, 6, .inl br))], [(am 6, .inl (gI G, 12, .inl wa))], [(am 16, .inl (gI G, 12, .inl me))], [(am 17, .inl (gI G, 72, .inl cn))], [(am 18, .inl (gI G, 72, .inl hb))], [(am 26, .inl (gI G, 4, .inl sz))], [(am 27, .inl (gI G, 4, .inl sl_))], [(am 28, .inl (gI G, 240, .inl shm))]] H locs → W p l e R s m args below meth c H locs 0 0 Q (F0 m 83 ls []) := by
              intro fu
              induction fu with
              | zero => intro j _ _ hm; exact absurd hm (Nat.not_lt_zero _)
              | succ fu ih83 =>
                intro j hj hst hm ls H locs hl hw
                refine lv_iload S.1 S.2.1 dX11_judge_83 (lv_at hl 5 rfl) ?_
                refine lv_iload S.1 S.2.1 dX11_judge_85 (lv_at hl 4 rfl) ?_
                refine aw_icmpN_ge (x := j) (y := tn nv) (tgt := 130) S (by omega) (by omega) dX11_judge_87 (by decide) (fun c87 => ?_) (fun c87 => ?_)
                · have ex_j : j = tn nv := by omega
                  rw [ex_j] at hst
                  have hset : tn nv ≤ 12 ∧ f_sets n (ce (tn kv)) (tn iv) (tn nv) := ⟨by omega, fF_none hst⟩
                  refine lv_iconst (v := 0) S.1 S.2.1 dX11_judge_130 (by decide) ?_
                  refine lv_istore (lv' := [(6, .int 0), (0, .ref (am 31)), (1, .int (nI (tn kv))), (2, .int lv), (3, .int (nI (tn iv))), (4, .int (nI (tn nv)))]) S.1 S.2.1 dX11_judge_131 hl (by decide) rfl (fun ls hl => ?_)
                  have hw := aw_arr hw 5 rfl (fa_fill (fun m => if m < tn nv then shm (60 * tn kv + tn iv + m) else 0) me 0) (fun _ _ => by rw [fa_fill_0])
                  have hw : bW G A s.heap [[(am 31, mdO am (if frF (ln (tn kv)) (le (tn kv)) lv iv nv = 0 then fl else frF (ln (tn kv)) (le (tn kv)) lv iv nv) n lw nn ra rsn nr tr)], [(am 2, .inl (gI G, 6, .inl kd))], [(am 3, .inl (gI G, 6, .inl sk))], [(am 4, .inl (gI G, 6, .inl br))], [(am 6, .inl (gI G, 12, .inl wa))], [(am 16, .inl (gI G, 12, .inl (fa_fill (fun m => if m < tn nv then shm (60 * tn kv + tn iv + m) else 0) me 0)))], [(am 17, .inl (gI G, 72, .inl cn))], [(am 18, .inl (gI G, 72, .inl hb))], [(am 26, .inl (gI G, 4, .inl sz))], [(am 27, .inl (gI G, 4, .inl sl_))], [(am 28, .inl (gI G, 240, .inl shm))]] H locs := hw
                  have loop133 : ∀ (fu : Nat) (i : Nat), (i ≤ 12) → (12 - i) < fu → ∀ (ls : Array Slot) (H : Heap) (locs : List Loc), lv_has ls 7 [(0, .ref (am 31)), (1, .int (nI (tn kv))), (2, .int lv), (3, .int (nI (tn iv))), (4, .int (nI (tn nv))), (6, .int (nI i))] → bW G A s.heap [[(am 31, mdO am (if frF (ln (tn kv)) (le (tn kv)) lv iv nv = 0 then fl else frF (ln (tn kv)) (le (tn kv)) lv iv nv) n lw nn ra rsn nr tr)], [(am 2, .inl (gI G, 6, .inl kd))], [(am 3, .inl (gI G, 6, .inl sk))], [(am 4, .inl (gI G, 6, .inl br))], [(am 6, .inl (gI G, 12, .inl wa))], [(am 16, .inl (gI G, 12, .inl (fa_fill (fun m => if m < tn nv then shm (60 * tn kv + tn iv + m) else 0) me i)))], [(am 17, .inl (gI G, 72, .inl cn))], [(am 18, .inl (gI G, 72, .inl hb))], [(am 26, .inl (gI G, 4, .inl sz))], [(am 27, .inl (gI G, 4, .inl sl_))], [(am 28, .inl (gI G, 240, .inl shm))]] H locs → W p l e R s m args below meth c H locs 0 0 Q (F0 m 133 ls []) := by
                    intro fu
                    induction fu with
                    | zero => intro i _ hm; exact absurd hm (Nat.not_lt_zero _)
                    | succ fu ih133 =>
                      intro i hi hm ls H locs hl hw
                      refine lv_iload S.1 S.2.1 dX11_judge_133 (lv_at hl 5 rfl) ?_
                      refine lv_bipush (v := 12) S.1 S.2.1 dX11_judge_135 (by decide) ?_
                      refine aw_icmpN_ge (x := i) (y := 12) (tgt := 178) S (by omega) (by omega) dX11_judge_137 (by decide) (fun c137 => ?_) (fun c137 => ?_)
                      · have ex_i : i = 12 := by omega
                        try rw [ex_i] at hl
                        try rw [ex_i] at hw
                        have hw := aw_arr hw 5 rfl (fun m => if m < tn nv then shm (60 * tn kv + tn iv + m) else 0) (fun j hj => by rw [fa_fill_in hj])
                        have hw : bW G A s.heap [[(am 31, mdO am (if frF (ln (tn kv)) (le (tn kv)) lv iv nv = 0 then fl else frF (ln (tn kv)) (le (tn kv)) lv iv nv) n lw nn ra rsn nr tr)], [(am 2, .inl (gI G, 6, .inl kd))], [(am 3, .inl (gI G, 6, .inl sk))], [(am 4, .inl (gI G, 6, .inl br))], [(am 6, .inl (gI G, 12, .inl wa))], [(am 16, .inl (gI G, 12, .inl (fun m => if m < tn nv then shm (60 * tn kv + tn iv + m) else 0)))], [(am 17, .inl (gI G, 72, .inl cn))], [(am 18, .inl (gI G, 72, .inl hb))], [(am 26, .inl (gI G, 4, .inl sz))], [(am 27, .inl (gI G, 4, .inl sl_))], [(am 28, .inl (gI G, 240, .inl shm))]] H locs := hw
                        refine lv_aload_n S.1 S.2.1 dX11_judge_178 rfl (lv_at hl 0 rfl) ?_
                        refine aw_callV S hE (c_X11_goMonths l G am (if frF (ln (tn kv)) (le (tn kv)) lv iv nv = 0 then fl else frF (ln (tn kv)) (le (tn kv)) lv iv nv) n lw nn ra rsn nr tr kd sk (fun m => if m < tn nv then shm (60 * tn kv + tn iv + m) else 0) cn hb (by first | assumption | omega)) gX11_judge_X11_goMonths (n := 0) rfl (by decide +kernel) rfl (by rw [hRm]; exact ⟨Nat.le_of_ble_eq_true rfl, Nat.le_of_ble_eq_true rfl⟩) (by rw [hRm]; exact ⟨Nat.le_of_ble_eq_true rfl, Nat.le_of_ble_eq_true rfl⟩) hw hA hl.1 [0, 1, 2, 5, 6, 7] rfl rfl (aw_recv (i := 0) hE hw rfl rfl rfl) rfl (Nat.le_of_ble_eq_true rfl) dX11_judge_179 ?_
                        rintro v w1 H locs ⟨rfl, rfl⟩ hw
                        have hw : bW G A s.heap [[(am 31, mdO am (if frF (ln (tn kv)) (le (tn kv)) lv iv nv = 0 then fl else frF (ln (tn kv)) (le (tn kv)) lv iv nv) n lw nn ra rsn nr tr)], [(am 2, .inl (gI G, 6, .inl kd))], [(am 3, .inl (gI G, 6, .inl sk))], [(am 4, .inl (gI G, 6, .inl br))], [(am 6, .inl (gI G, 12, .inl wa))], [(am 16, .inl (gI G, 12, .inl (fun m => if m < tn nv then shm (60 * tn kv + tn iv + m) else 0)))], [(am 17, .inl (gI G, 72, .inl (tbF (kA n lw sk (fun m => if m < tn nv then shm (60 * tn kv + tn iv + m) else 0)) n 72 cn)))], [(am 18, .inl (gI G, 72, .inl (tbF (fun m => hB n (fun j => hoK (kd j)) (fun m => if m < tn nv then shm (60 * tn kv + tn iv + m) else 0) (m + 1)) n 72 hb)))], [(am 26, .inl (gI G, 4, .inl sz))], [(am 27, .inl (gI G, 4, .inl sl_))], [(am 28, .inl (gI G, 240, .inl shm))]] H locs := hw
                        refine W.eq (g2 := (F0 m 182 ls [])) rfl ?_
                        refine lv_iconst (v := 0) S.1 S.2.1 dX11_judge_182 (by decide) ?_
                        refine lv_istore (lv' := [(6, .int 0), (0, .ref (am 31)), (1, .int (nI (tn kv))), (2, .int lv), (3, .int (nI (tn iv))), (4, .int (nI (tn nv)))]) S.1 S.2.1 dX11_judge_183 hl (by decide) rfl (fun ls hl => ?_)
                        have loop185 : ∀ (fu : Nat) (j : Nat), (j ≤ tn nv) → (∀ x, x < j → wrP n lw sk (fun j => hoK (kd j)) br (fun m => if m < tn nv then shm (60 * tn kv + tn iv + m) else 0) wa true true x = false) → (tn nv - j) < fu → ∀ (ls : Array Slot) (H : Heap) (locs : List Loc), lv_has ls 7 [(0, .ref (am 31)), (1, .int (nI (tn kv))), (2, .int lv), (3, .int (nI (tn iv))), (4, .int (nI (tn nv))), (6, .int (nI j))] → bW G A s.heap [[(am 31, mdO am (if frF (ln (tn kv)) (le (tn kv)) lv iv nv = 0 then fl else frF (ln (tn kv)) (le (tn kv)) lv iv nv) n lw nn ra rsn nr tr)], [(am 2, .inl (gI G, 6, .inl kd))], [(am 3, .inl (gI G, 6, .inl sk))], [(am 4, .inl (gI G, 6, .inl br))], [(am 6, .inl (gI G, 12, .inl wa))], [(am 16, .inl (gI G, 12, .inl (fun m => if m < tn nv then shm (60 * tn kv + tn iv + m) else 0)))], [(am 17, .inl (gI G, 72, .inl (tbF (kA n lw sk (fun m => if m < tn nv then shm (60 * tn kv + tn iv + m) else 0)) n 72 cn)))], [(am 18, .inl (gI G, 72, .inl (tbF (fun m => hB n (fun j => hoK (kd j)) (fun m => if m < tn nv then shm (60 * tn kv + tn iv + m) else 0) (m + 1)) n 72 hb)))], [(am 26, .inl (gI G, 4, .inl sz))], [(am 27, .inl (gI G, 4, .inl sl_))], [(am 28, .inl (gI G, 240, .inl shm))]] H locs → W p l e R s m args below meth c H locs 0 0 Q (F0 m 185 ls []) := by
                          intro fu
                          induction fu with
                          | zero => intro j _ _ hm; exact absurd hm (Nat.not_lt_zero _)
                          | succ fu ih185 =>
                            intro j hj hlt hm ls H locs hl hw
                            refine lv_iload S.1 S.2.1 dX11_judge_185 (lv_at hl 5 rfl) ?_
                            refine lv_iload S.1 S.2.1 dX11_judge_187 (lv_at hl 4 rfl) ?_
                            refine aw_icmpN_ge (x := j) (y := tn nv) (tgt := 223) S (by omega) (by omega) dX11_judge_189 (by decide) (fun c189 => ?_) (fun c189 => ?_)
                            · have ex_j : j = tn nv := by omega
                              rw [ex_j] at hlt
                              refine lv_aload_n S.1 S.2.1 dX11_judge_223 rfl (lv_at hl 0 rfl) ?_
                              refine lv_bipush (v := (-9)) S.1 S.2.1 dX11_judge_224 (by decide) ?_
                              refine aw_callV S hE (c_X11_refused l G am (if frF (ln (tn kv)) (le (tn kv)) lv iv nv = 0 then fl else frF (ln (tn kv)) (le (tn kv)) lv iv nv) n lw nn ra rsn nr tr (-9)) gX11_judge_X11_refused (n := 1) rfl (by decide +kernel) rfl (by rw [hRm]; exact ⟨Nat.le_of_ble_eq_true rfl, Nat.le_of_ble_eq_true rfl⟩) (by rw [hRm]; exact ⟨Nat.le_of_ble_eq_true rfl, Nat.le_of_ble_eq_true rfl⟩) hw hA hl.1 [0] rfl rfl (aw_recv (i := 0) hE hw rfl rfl rfl) rfl (Nat.le_of_ble_eq_true rfl) dX11_judge_226 ?_
                              rintro v w1 H locs ⟨rfl, rfl⟩ hw
                              have hw : bW G A s.heap [[(am 31, mdO am 0 n lw nn ra rsn nr tr)], [(am 2, .inl (gI G, 6, .inl kd))], [(am 3, .inl (gI G, 6, .inl sk))], [(am 4, .inl (gI G, 6, .inl br))], [(am 6, .inl (gI G, 12, .inl wa))], [(am 16, .inl (gI G, 12, .inl (fun m => if m < tn nv then shm (60 * tn kv + tn iv + m) else 0)))], [(am 17, .inl (gI G, 72, .inl (tbF (kA n lw sk (fun m => if m < tn nv then shm (60 * tn kv + tn iv + m) else 0)) n 72 cn)))], [(am 18, .inl (gI G, 72, .inl (tbF (fun m => hB n (fun j => hoK (kd j)) (fun m => if m < tn nv then shm (60 * tn kv + tn iv + m) else 0) (m + 1)) n 72 hb)))], [(am 26, .inl (gI G, 4, .inl sz))], [(am 27, .inl (gI G, 4, .inl sl_))], [(am 28, .inl (gI G, 240, .inl shm))]] H locs := hw
                              refine W.eq (g2 := (F0 m 229 ls [.int (-9)])) rfl ?_
                              have hw := Eq.mp (congrArg (fun z_ : Int32 => bW G A s.heap [[(am 31, mdO am z_ n lw nn ra rsn nr tr)], [(am 2, .inl (gI G, 6, .inl kd))], [(am 3, .inl (gI G, 6, .inl sk))], [(am 4, .inl (gI G, 6, .inl br))], [(am 6, .inl (gI G, 12, .inl wa))], [(am 16, .inl (gI G, 12, .inl (fun m => if m < tn nv then shm (60 * tn kv + tn iv + m) else 0)))], [(am 17, .inl (gI G, 72, .inl (tbF (kA n lw sk (fun m => if m < tn nv then shm (60 * tn kv + tn iv + m) else 0)) n 72 cn)))], [(am 18, .inl (gI G, 72, .inl (tbF (fun m => hB n (fun j => hoK (kd j)) (fun m => if m < tn nv then shm (60 * tn kv + tn iv + m) else 0) (m + 1)) n 72 hb)))], [(am 26, .inl (gI G, 4, .inl sz))], [(am 27, .inl (gI G, 4, .inl sl_))], [(am 28, .inl (gI G, 240, .inl shm))]] H locs) (show (0 : Int32) = f_judgeF n ln le kv lv iv nv from (by rw [f_judgeF, if_pos (show (0 ≤ kv.toInt ∧ kv.toInt < 4) ∧ (0 ≤ lv.toInt ∧ lv.toInt < 3) ∧ ¬ n = 0 from ⟨c4, hlv, c36⟩), hFR]))) hw
                              have hw : bW G A s.heap [[(am 31, mdO am (f_judgeF n ln le kv lv iv nv) n lw nn ra rsn nr tr)], [(am 2, .inl (gI G, 6, .inl kd))], [(am 3, .inl (gI G, 6, .inl sk))], [(am 4, .inl (gI G, 6, .inl br))], [(am 6, .inl (gI G, 12, .inl wa))], [(am 16, .inl (gI G, 12, .inl (fun m => if m < tn nv then shm (60 * tn kv + tn iv + m) else 0)))], [(am 17, .inl (gI G, 72, .inl (tbF (kA n lw sk (fun m => if m < tn nv then shm (60 * tn kv + tn iv + m) else 0)) n 72 cn)))], [(am 18, .inl (gI G, 72, .inl (tbF (fun m => hB n (fun j => hoK (kd j)) (fun m => if m < tn nv then shm (60 * tn kv + tn iv + m) else 0) (m + 1)) n 72 hb)))], [(am 26, .inl (gI G, 4, .inl sz))], [(am 27, .inl (gI G, 4, .inl sl_))], [(am 28, .inl (gI G, 240, .inl shm))]] H locs := hw
                              refine aw_eqi (show ((-9) : Int32) = f_judge n ln le ce (noI (fwF n lw sk (fun j => hoK (kd j)) br (fun m => ce (tn kv) (tn iv + m)) wa (tn nv) true true) (tn nv)) kv lv iv nv from (by rw [f_judge, if_pos c4, if_pos hlv, if_neg c36, if_pos hFR, if_pos hset, ← fwF_cong (t1 := fun m => if m < tn nv then shm (60 * tn kv + tn iv + m) else 0) (fun m hm => by show (if m < tn nv then _ else _) = _; rw [if_pos hm]; exact hcell m hm), show fwF n lw sk (fun j => hoK (kd j)) br (fun m => if m < tn nv then shm (60 * tn kv + tn iv + m) else 0) wa (tn nv) true true = tn nv from fF_none hlt, noI, if_neg (Nat.lt_irrefl _)])) ?_
                              exact aw_iret S hr hlk ha hQ hAe hw dX11_judge_229 rfl (Nat.le_of_ble_eq_true rfl) (Nat.le_of_ble_eq_true rfl) ⟨rfl, _, _, _, rfl⟩
                            · refine lv_aload_n S.1 S.2.1 dX11_judge_192 rfl (lv_at hl 0 rfl) ?_
                              refine lv_iload S.1 S.2.1 dX11_judge_193 (lv_at hl 5 rfl) ?_
                              refine aw_callV S hE (c_X11_lackedIn l G am (if frF (ln (tn kv)) (le (tn kv)) lv iv nv = 0 then fl else frF (ln (tn kv)) (le (tn kv)) lv iv nv) n lw nn ra rsn nr tr wa (fun m => if m < tn nv then shm (60 * tn kv + tn iv + m) else 0) (tbF (kA n lw sk (fun m => if m < tn nv then shm (60 * tn kv + tn iv + m) else 0)) n 72 cn) j (by first | assumption | omega) (by first | assumption | omega)) gX11_judge_X11_lackedIn (n := 1) rfl (by decide +kernel) rfl (by rw [hRm]; exact ⟨Nat.le_of_ble_eq_true rfl, Nat.le_of_ble_eq_true rfl⟩) (by rw [hRm]; exact ⟨Nat.le_of_ble_eq_true rfl, Nat.le_of_ble_eq_true rfl⟩) hw hA hl.1 [0, 4, 5, 6] rfl rfl (aw_recv (i := 0) hE hw rfl rfl rfl) rfl (Nat.le_of_ble_eq_true rfl) dX11_judge_195 ?_
                              rintro v w1 H locs ⟨rfl, rfl⟩ hw
                              have hw : bW G A s.heap [[(am 31, mdO am (if frF (ln (tn kv)) (le (tn kv)) lv iv nv = 0 then fl else frF (ln (tn kv)) (le (tn kv)) lv iv nv) n lw nn ra rsn nr tr)], [(am 2, .inl (gI G, 6, .inl kd))], [(am 3, .inl (gI G, 6, .inl sk))], [(am 4, .inl (gI G, 6, .inl br))], [(am 6, .inl (gI G, 12, .inl wa))], [(am 16, .inl (gI G, 12, .inl (fun m => if m < tn nv then shm (60 * tn kv + tn iv + m) else 0)))], [(am 17, .inl (gI G, 72, .inl (tbF (kA n lw sk (fun m => if m < tn nv then shm (60 * tn kv + tn iv + m) else 0)) n 72 cn)))], [(am 18, .inl (gI G, 72, .inl (tbF (fun m => hB n (fun j => hoK (kd j)) (fun m => if m < tn nv then shm (60 * tn kv + tn iv + m) else 0) (m + 1)) n 72 hb)))], [(am 26, .inl (gI G, 4, .inl sz))], [(am 27, .inl (gI G, 4, .inl sl_))], [(am 28, .inl (gI G, 240, .inl shm))]] H locs := hw
                              refine W.eq (g2 := (F0 m 198 ls [.int (wa j &&& (tgF ((fun m => if m < tn nv then shm (60 * tn kv + tn iv + m) else 0) j) (fun s => (tbF (kA n lw sk (fun m => if m < tn nv then shm (60 * tn kv + tn iv + m) else 0)) n 72 cn) (6 * j + s)) n ^^^ (-1)))])) rfl ?_
                              refine aw_eqi (show (wa j &&& (tgF ((fun m => if m < tn nv then shm (60 * tn kv + tn iv + m) else 0) j) (fun s => (tbF (kA n lw sk (fun m => if m < tn nv then shm (60 * tn kv + tn iv + m) else 0)) n 72 cn) (6 * j + s)) n ^^^ (-1)) : Int32) = lkF n lw sk (fun m => if m < tn nv then shm (60 * tn kv + tn iv + m) else 0) wa j from (lk_tb (tu := fun m => if m < tn nv then shm (60 * tn kv + tn iv + m) else 0) hn (by omega))) ?_
                              refine lv_if_gt (tgt := 210) S.1 S.2.1 dX11_judge_198 (by decide) (fun c198 => ?_) (fun c198 => ?_)
                              · have hat : wrP n lw sk (fun j => hoK (kd j)) br (fun m => if m < tn nv then shm (60 * tn kv + tn iv + m) else 0) wa true true j = true := by cases hq : wrP n lw sk (fun j => hoK (kd j)) br (fun m => if m < tn nv then shm (60 * tn kv + tn iv + m) else 0) wa true true j with | true => rfl | false => exact absurd (wrP_b.mp hq).1 ((lk_pos (hwa j (by omega))).mp c198)
                                refine lv_aload_n S.1 S.2.1 dX11_judge_210 rfl (lv_at hl 0 rfl) ?_
                                refine lv_iload S.1 S.2.1 dX11_judge_211 (lv_at hl 5 rfl) ?_
                                refine aw_callV S hE (c_X11_refused l G am (if frF (ln (tn kv)) (le (tn kv)) lv iv nv = 0 then fl else frF (ln (tn kv)) (le (tn kv)) lv iv nv) n lw nn ra rsn nr tr (nI j)) gX11_judge_X11_refused (n := 1) rfl (by decide +kernel) rfl (by rw [hRm]; exact ⟨Nat.le_of_ble_eq_true rfl, Nat.le_of_ble_eq_true rfl⟩) (by rw [hRm]; exact ⟨Nat.le_of_ble_eq_true rfl, Nat.le_of_ble_eq_true rfl⟩) hw hA hl.1 [0] rfl rfl (aw_recv (i := 0) hE hw rfl rfl rfl) rfl (Nat.le_of_ble_eq_true rfl) dX11_judge_213 ?_
                                rintro v w1 H locs ⟨rfl, rfl⟩ hw
                                have hw : bW G A s.heap [[(am 31, mdO am 0 n lw nn ra rsn nr tr)], [(am 2, .inl (gI G, 6, .inl kd))], [(am 3, .inl (gI G, 6, .inl sk))], [(am 4, .inl (gI G, 6, .inl br))], [(am 6, .inl (gI G, 12, .inl wa))], [(am 16, .inl (gI G, 12, .inl (fun m => if m < tn nv then shm (60 * tn kv + tn iv + m) else 0)))], [(am 17, .inl (gI G, 72, .inl (tbF (kA n lw sk (fun m => if m < tn nv then shm (60 * tn kv + tn iv + m) else 0)) n 72 cn)))], [(am 18, .inl (gI G, 72, .inl (tbF (fun m => hB n (fun j => hoK (kd j)) (fun m => if m < tn nv then shm (60 * tn kv + tn iv + m) else 0) (m + 1)) n 72 hb)))], [(am 26, .inl (gI G, 4, .inl sz))], [(am 27, .inl (gI G, 4, .inl sl_))], [(am 28, .inl (gI G, 240, .inl shm))]] H locs := hw
                                refine W.eq (g2 := (F0 m 216 ls [.int (nI j)])) rfl ?_
                                have hw := Eq.mp (congrArg (fun z_ : Int32 => bW G A s.heap [[(am 31, mdO am z_ n lw nn ra rsn nr tr)], [(am 2, .inl (gI G, 6, .inl kd))], [(am 3, .inl (gI G, 6, .inl sk))], [(am 4, .inl (gI G, 6, .inl br))], [(am 6, .inl (gI G, 12, .inl wa))], [(am 16, .inl (gI G, 12, .inl (fun m => if m < tn nv then shm (60 * tn kv + tn iv + m) else 0)))], [(am 17, .inl (gI G, 72, .inl (tbF (kA n lw sk (fun m => if m < tn nv then shm (60 * tn kv + tn iv + m) else 0)) n 72 cn)))], [(am 18, .inl (gI G, 72, .inl (tbF (fun m => hB n (fun j => hoK (kd j)) (fun m => if m < tn nv then shm (60 * tn kv + tn iv + m) else 0) (m + 1)) n 72 hb)))], [(am 26, .inl (gI G, 4, .inl sz))], [(am 27, .inl (gI G, 4, .inl sl_))], [(am 28, .inl (gI G, 240, .inl shm))]] H locs) (show (0 : Int32) = f_judgeF n ln le kv lv iv nv from (by rw [f_judgeF, if_pos (show (0 ≤ kv.toInt ∧ kv.toInt < 4) ∧ (0 ≤ lv.toInt ∧ lv.toInt < 3) ∧ ¬ n = 0 from ⟨c4, hlv, c36⟩), hFR]))) hw
                                have hw : bW G A s.heap [[(am 31, mdO am (f_judgeF n ln le kv lv iv nv) n lw nn ra rsn nr tr)], [(am 2, .inl (gI G, 6, .inl kd))], [(am 3, .inl (gI G, 6, .inl sk))], [(am 4, .inl (gI G, 6, .inl br))], [(am 6, .inl (gI G, 12, .inl wa))], [(am 16, .inl (gI G, 12, .inl (fun m => if m < tn nv then shm (60 * tn kv + tn iv + m) else 0)))], [(am 17, .inl (gI G, 72, .inl (tbF (kA n lw sk (fun m => if m < tn nv then shm (60 * tn kv + tn iv + m) else 0)) n 72 cn)))], [(am 18, .inl (gI G, 72, .inl (tbF (fun m => hB n (fun j => hoK (kd j)) (fun m => if m < tn nv then shm (60 * tn kv + tn iv + m) else 0) (m + 1)) n 72 hb)))], [(am 26, .inl (gI G, 4, .inl sz))], [(am 27, .inl (gI G, 4, .inl sl_))], [(am 28, .inl (gI G, 240, .inl shm))]] H locs := hw
                                refine aw_eqi (show ((nI j) : Int32) = f_judge n ln le ce (noI (fwF n lw sk (fun j => hoK (kd j)) br (fun m => ce (tn kv) (tn iv + m)) wa (tn nv) true true) (tn nv)) kv lv iv nv from (by rw [f_judge, if_pos c4, if_pos hlv, if_neg c36, if_pos hFR, if_pos hset, ← fwF_cong (t1 := fun m => if m < tn nv then shm (60 * tn kv + tn iv + m) else 0) (fun m hm => by show (if m < tn nv then _ else _) = _; rw [if_pos hm]; exact hcell m hm), show fwF n lw sk (fun j => hoK (kd j)) br (fun m => if m < tn nv then shm (60 * tn kv + tn iv + m) else 0) wa (tn nv) true true = j from fF_is c189 hat hlt, noI, if_pos c189])) ?_
                                exact aw_iret S hr hlk ha hQ hAe hw dX11_judge_216 rfl (Nat.le_of_ble_eq_true rfl) (Nat.le_of_ble_eq_true rfl) ⟨rfl, _, _, _, rfl⟩
                              · have hl0 := Decidable.not_not.mp (fun q => c198 ((lk_pos (hwa j (by omega))).mpr q))
                                refine lv_aload_n S.1 S.2.1 dX11_judge_201 rfl (lv_at hl 0 rfl) ?_
                                refine lv_iload S.1 S.2.1 dX11_judge_202 (lv_at hl 5 rfl) ?_
                                refine aw_callV S hE (c_X11_spentIn l G am (if frF (ln (tn kv)) (le (tn kv)) lv iv nv = 0 then fl else frF (ln (tn kv)) (le (tn kv)) lv iv nv) n lw nn ra rsn nr tr br (tbF (fun m => hB n (fun j => hoK (kd j)) (fun m => if m < tn nv then shm (60 * tn kv + tn iv + m) else 0) (m + 1)) n 72 hb) j (by first | assumption | omega) (by first | assumption | omega)) gX11_judge_X11_spentIn (n := 1) rfl (by decide +kernel) rfl (by rw [hRm]; exact ⟨Nat.le_of_ble_eq_true rfl, Nat.le_of_ble_eq_true rfl⟩) (by rw [hRm]; exact ⟨Nat.le_of_ble_eq_true rfl, Nat.le_of_ble_eq_true rfl⟩) hw hA hl.1 [0, 3, 7] rfl rfl (aw_recv (i := 0) hE hw rfl rfl rfl) rfl (Nat.le_of_ble_eq_true rfl) dX11_judge_204 ?_
                                rintro v w1 H locs ⟨rfl, rfl⟩ hw
                                have hw : bW G A s.heap [[(am 31, mdO am (if frF (ln (tn kv)) (le (tn kv)) lv iv nv = 0 then fl else frF (ln (tn kv)) (le (tn kv)) lv iv nv) n lw nn ra rsn nr tr)], [(am 2, .inl (gI G, 6, .inl kd))], [(am 3, .inl (gI G, 6, .inl sk))], [(am 4, .inl (gI G, 6, .inl br))], [(am 6, .inl (gI G, 12, .inl wa))], [(am 16, .inl (gI G, 12, .inl (fun m => if m < tn nv then shm (60 * tn kv + tn iv + m) else 0)))], [(am 17, .inl (gI G, 72, .inl (tbF (kA n lw sk (fun m => if m < tn nv then shm (60 * tn kv + tn iv + m) else 0)) n 72 cn)))], [(am 18, .inl (gI G, 72, .inl (tbF (fun m => hB n (fun j => hoK (kd j)) (fun m => if m < tn nv then shm (60 * tn kv + tn iv + m) else 0) (m + 1)) n 72 hb)))], [(am 26, .inl (gI G, 4, .inl sz))], [(am 27, .inl (gI G, 4, .inl sl_))], [(am 28, .inl (gI G, 240, .inl shm))]] H locs := hw
                                refine W.eq (g2 := (F0 m 207 ls [.int (spF n br (fun s => (tbF (fun m => hB n (fun j => hoK (kd j)) (fun m => if m < tn nv then shm (60 * tn kv + tn iv + m) else 0) (m + 1)) n 72 hb) (6 * j + s)))])) rfl ?_
                                refine aw_eqi (show (spF n br (fun s => (tbF (fun m => hB n (fun j => hoK (kd j)) (fun m => if m < tn nv then shm (60 * tn kv + tn iv + m) else 0) (m + 1)) n 72 hb) (6 * j + s)) : Int32) = spF n br (hB n (fun j => hoK (kd j)) (fun m => if m < tn nv then shm (60 * tn kv + tn iv + m) else 0) (j + 1)) from (sp_tb hn (by omega))) ?_
                                refine lv_if_lt (tgt := 217) S.1 S.2.1 dX11_judge_207 (by decide) (fun c207 => ?_) (fun c207 => ?_)
                                · have hz : wrP n lw sk (fun j => hoK (kd j)) br (fun m => if m < tn nv then shm (60 * tn kv + tn iv + m) else 0) wa true true j = false := wrP_b.mpr ⟨hl0, (sp_neg hn).mp c207⟩
                                  refine lv_iinc (v := nI (j + 1)) (lv' := [(6, .int (nI (j + 1))), (0, .ref (am 31)), (1, .int (nI (tn kv))), (2, .int lv), (3, .int (nI (tn iv))), (4, .int (nI (tn nv)))]) S.1 S.2.1 dX11_judge_217 hl (k := 5) rfl (by first | exact nI_1 _ | exact nI_add _ _ | rfl) (by decide) rfl (fun ls hl => ?_)
                                  refine lv_goto (tgt := 185) S.1 S.2.1 dX11_judge_220 (by decide) ?_
                                  exact ih185 (j + 1) (by first | assumption | omega) (lt_next hlt hz) (by omega) _ _ _ (lv_sub hl [1, 2, 3, 4, 5, 0] rfl) hw
                                · have hat : wrP n lw sk (fun j => hoK (kd j)) br (fun m => if m < tn nv then shm (60 * tn kv + tn iv + m) else 0) wa true true j = true := by cases hq : wrP n lw sk (fun j => hoK (kd j)) br (fun m => if m < tn nv then shm (60 * tn kv + tn iv + m) else 0) wa true true j with | true => rfl | false => exact absurd ((sp_neg hn).mpr (wrP_b.mp hq).2) c207
                                  refine lv_aload_n S.1 S.2.1 dX11_judge_210 rfl (lv_at hl 0 rfl) ?_
                                  refine lv_iload S.1 S.2.1 dX11_judge_211 (lv_at hl 5 rfl) ?_
                                  refine aw_callV S hE (c_X11_refused l G am (if frF (ln (tn kv)) (le (tn kv)) lv iv nv = 0 then fl else frF (ln (tn kv)) (le (tn kv)) lv iv nv) n lw nn ra rsn nr tr (nI j)) gX11_judge_X11_refused (n := 1) rfl (by decide +kernel) rfl (by rw [hRm]; exact ⟨Nat.le_of_ble_eq_true rfl, Nat.le_of_ble_eq_true rfl⟩) (by rw [hRm]; exact ⟨Nat.le_of_ble_eq_true rfl, Nat.le_of_ble_eq_true rfl⟩) hw hA hl.1 [0] rfl rfl (aw_recv (i := 0) hE hw rfl rfl rfl) rfl (Nat.le_of_ble_eq_true rfl) dX11_judge_213 ?_
                                  rintro v w1 H locs ⟨rfl, rfl⟩ hw
                                  have hw : bW G A s.heap [[(am 31, mdO am 0 n lw nn ra rsn nr tr)], [(am 2, .inl (gI G, 6, .inl kd))], [(am 3, .inl (gI G, 6, .inl sk))], [(am 4, .inl (gI G, 6, .inl br))], [(am 6, .inl (gI G, 12, .inl wa))], [(am 16, .inl (gI G, 12, .inl (fun m => if m < tn nv then shm (60 * tn kv + tn iv + m) else 0)))], [(am 17, .inl (gI G, 72, .inl (tbF (kA n lw sk (fun m => if m < tn nv then shm (60 * tn kv + tn iv + m) else 0)) n 72 cn)))], [(am 18, .inl (gI G, 72, .inl (tbF (fun m => hB n (fun j => hoK (kd j)) (fun m => if m < tn nv then shm (60 * tn kv + tn iv + m) else 0) (m + 1)) n 72 hb)))], [(am 26, .inl (gI G, 4, .inl sz))], [(am 27, .inl (gI G, 4, .inl sl_))], [(am 28, .inl (gI G, 240, .inl shm))]] H locs := hw
                                  refine W.eq (g2 := (F0 m 216 ls [.int (nI j)])) rfl ?_
                                  have hw := Eq.mp (congrArg (fun z_ : Int32 => bW G A s.heap [[(am 31, mdO am z_ n lw nn ra rsn nr tr)], [(am 2, .inl (gI G, 6, .inl kd))], [(am 3, .inl (gI G, 6, .inl sk))], [(am 4, .inl (gI G, 6, .inl br))], [(am 6, .inl (gI G, 12, .inl wa))], [(am 16, .inl (gI G, 12, .inl (fun m => if m < tn nv then shm (60 * tn kv + tn iv + m) else 0)))], [(am 17, .inl (gI G, 72, .inl (tbF (kA n lw sk (fun m => if m < tn nv then shm (60 * tn kv + tn iv + m) else 0)) n 72 cn)))], [(am 18, .inl (gI G, 72, .inl (tbF (fun m => hB n (fun j => hoK (kd j)) (fun m => if m < tn nv then shm (60 * tn kv + tn iv + m) else 0) (m + 1)) n 72 hb)))], [(am 26, .inl (gI G, 4, .inl sz))], [(am 27, .inl (gI G, 4, .inl sl_))], [(am 28, .inl (gI G, 240, .inl shm))]] H locs) (show (0 : Int32) = f_judgeF n ln le kv lv iv nv from (by rw [f_judgeF, if_pos (show (0 ≤ kv.toInt ∧ kv.toInt < 4) ∧ (0 ≤ lv.toInt ∧ lv.toInt < 3) ∧ ¬ n = 0 from ⟨c4, hlv, c36⟩), hFR]))) hw
                                  have hw : bW G A s.heap [[(am 31, mdO am (f_judgeF n ln le kv lv iv nv) n lw nn ra rsn nr tr)], [(am 2, .inl (gI G, 6, .inl kd))], [(am 3, .inl (gI G, 6, .inl sk))], [(am 4, .inl (gI G, 6, .inl br))], [(am 6, .inl (gI G, 12, .inl wa))], [(am 16, .inl (gI G, 12, .inl (fun m => if m < tn nv then shm (60 * tn kv + tn iv + m) else 0)))], [(am 17, .inl (gI G, 72, .inl (tbF (kA n lw sk (fun m => if m < tn nv then shm (60 * tn kv + tn iv + m) else 0)) n 72 cn)))], [(am 18, .inl (gI G, 72, .inl (tbF (fun m => hB n (fun j => hoK (kd j)) (fun m => if m < tn nv then shm (60 * tn kv + tn iv + m) else 0) (m + 1)) n 72 hb)))], [(am 26, .inl (gI G, 4, .inl sz))], [(am 27, .inl (gI G, 4, .inl sl_))], [(am 28, .inl (gI G, 240, .inl shm))]] H locs := hw
                                  refine aw_eqi (show ((nI j) : Int32) = f_judge n ln le ce (noI (fwF n lw sk (fun j => hoK (kd j)) br (fun m => ce (tn kv) (tn iv + m)) wa (tn nv) true true) (tn nv)) kv lv iv nv from (by rw [f_judge, if_pos c4, if_pos hlv, if_neg c36, if_pos hFR, if_pos hset, ← fwF_cong (t1 := fun m => if m < tn nv then shm (60 * tn kv + tn iv + m) else 0) (fun m hm => by show (if m < tn nv then _ else _) = _; rw [if_pos hm]; exact hcell m hm), show fwF n lw sk (fun j => hoK (kd j)) br (fun m => if m < tn nv then shm (60 * tn kv + tn iv + m) else 0) wa (tn nv) true true = j from fF_is c189 hat hlt, noI, if_pos c189])) ?_
                                  exact aw_iret S hr hlk ha hQ hAe hw dX11_judge_216 rfl (Nat.le_of_ble_eq_true rfl) (Nat.le_of_ble_eq_true rfl) ⟨rfl, _, _, _, rfl⟩
                        exact loop185 _ 0 (by first | assumption | omega) (fun x hx => absurd hx (Nat.not_lt_zero x)) (Nat.lt_succ_self _) _ _ _ (lv_sub hl [1, 2, 3, 4, 5, 0] rfl) hw
                      · refine lv_aload_n S.1 S.2.1 dX11_judge_140 rfl (lv_at hl 0 rfl) ?_
                        refine aw_get S hE hw 0 (C := RX11) (T := TX11) (N := 31) rfl rfl hinX11 16 (by decide) hf40 rfl dX11_judge_141 ?_
                        refine lv_iload S.1 S.2.1 dX11_judge_144 (lv_at hl 5 rfl) ?_
                        refine lv_iload S.1 S.2.1 dX11_judge_146 (lv_at hl 5 rfl) ?_
                        refine lv_iload S.1 S.2.1 dX11_judge_148 (lv_at hl 4 rfl) ?_
                        have join171 : ∀ (H : Heap) (locs : List Loc), ∀ (ls : Array Slot), lv_has ls 7 [(0, .ref (am 31)), (1, .int (nI (tn kv))), (2, .int lv), (3, .int (nI (tn iv))), (4, .int (nI (tn nv))), (6, .int (nI i))] → bW G A s.heap [[(am 31, mdO am (if frF (ln (tn kv)) (le (tn kv)) lv iv nv = 0 then fl else frF (ln (tn kv)) (le (tn kv)) lv iv nv) n lw nn ra rsn nr tr)], [(am 2, .inl (gI G, 6, .inl kd))], [(am 3, .inl (gI G, 6, .inl sk))], [(am 4, .inl (gI G, 6, .inl br))], [(am 6, .inl (gI G, 12, .inl wa))], [(am 16, .inl (gI G, 12, .inl (fa_fill (fun m => if m < tn nv then shm (60 * tn kv + tn iv + m) else 0) me i)))], [(am 17, .inl (gI G, 72, .inl cn))], [(am 18, .inl (gI G, 72, .inl hb))], [(am 26, .inl (gI G, 4, .inl sz))], [(am 27, .inl (gI G, 4, .inl sl_))], [(am 28, .inl (gI G, 240, .inl shm))]] H locs → W p l e R s m args below meth c H locs 0 0 Q (F0 m 171 ls [.int (if i < tn nv then shm (60 * tn kv + tn iv + i) else 0), .int (nI i), .ref (am 16)]) := by
                          intro  H locs ls hl hw
                          refine aw_iast S hE hw 5 (k := i) rfl (by omega) (by decide) dX11_judge_171 (fun H locs hw => ?_)
                          have hw : bW G A s.heap [[(am 31, mdO am (if frF (ln (tn kv)) (le (tn kv)) lv iv nv = 0 then fl else frF (ln (tn kv)) (le (tn kv)) lv iv nv) n lw nn ra rsn nr tr)], [(am 2, .inl (gI G, 6, .inl kd))], [(am 3, .inl (gI G, 6, .inl sk))], [(am 4, .inl (gI G, 6, .inl br))], [(am 6, .inl (gI G, 12, .inl wa))], [(am 16, .inl (gI G, 12, .inl (upd (fa_fill (fun m => if m < tn nv then shm (60 * tn kv + tn iv + m) else 0) me i) i (if i < tn nv then shm (60 * tn kv + tn iv + i) else 0))))], [(am 17, .inl (gI G, 72, .inl cn))], [(am 18, .inl (gI G, 72, .inl hb))], [(am 26, .inl (gI G, 4, .inl sz))], [(am 27, .inl (gI G, 4, .inl sl_))], [(am 28, .inl (gI G, 240, .inl shm))]] H locs := hw
                          refine lv_iinc (v := nI (i + 1)) (lv' := [(6, .int (nI (i + 1))), (0, .ref (am 31)), (1, .int (nI (tn kv))), (2, .int lv), (3, .int (nI (tn iv))), (4, .int (nI (tn nv)))]) S.1 S.2.1 dX11_judge_172 hl (k := 5) rfl (by first | exact nI_1 _ | exact nI_add _ _ | rfl) (by decide) rfl (fun ls hl => ?_)
                          refine lv_goto (tgt := 133) S.1 S.2.1 dX11_judge_175 (by decide) ?_
                          have hw := aw_arr hw 5 rfl (fa_fill (fun m => if m < tn nv then shm (60 * tn kv + tn iv + m) else 0) me (i + 1)) (fun _ _ => by rw [← fa_fill_succ])
                          have hw : bW G A s.heap [[(am 31, mdO am (if frF (ln (tn kv)) (le (tn kv)) lv iv nv = 0 then fl else frF (ln (tn kv)) (le (tn kv)) lv iv nv) n lw nn ra rsn nr tr)], [(am 2, .inl (gI G, 6, .inl kd))], [(am 3, .inl (gI G, 6, .inl sk))], [(am 4, .inl (gI G, 6, .inl br))], [(am 6, .inl (gI G, 12, .inl wa))], [(am 16, .inl (gI G, 12, .inl (fa_fill (fun m => if m < tn nv then shm (60 * tn kv + tn iv + m) else 0) me (i + 1))))], [(am 17, .inl (gI G, 72, .inl cn))], [(am 18, .inl (gI G, 72, .inl hb))], [(am 26, .inl (gI G, 4, .inl sz))], [(am 27, .inl (gI G, 4, .inl sl_))], [(am 28, .inl (gI G, 240, .inl shm))]] H locs := hw
                          exact ih133 (i + 1) (by first | assumption | omega) (by omega) _ _ _ (lv_sub hl [1, 2, 3, 4, 5, 0] rfl) hw
                        refine aw_icmpN_ge (x := i) (y := tn nv) (tgt := 170) S (by omega) (by omega) dX11_judge_150 (by decide) (fun c150 => ?_) (fun c150 => ?_)
                        · refine lv_iconst (v := 0) S.1 S.2.1 dX11_judge_170 (by decide) ?_
                          refine aw_eqi (show (0 : Int32) = if i < tn nv then shm (60 * tn kv + tn iv + i) else 0 from (by rw [if_neg (by omega)])) ?_
                          exact join171  _ _ _ (lv_sub hl [0, 1, 2, 3, 4, 5] rfl) hw
                        · refine lv_aload_n S.1 S.2.1 dX11_judge_153 rfl (lv_at hl 0 rfl) ?_
                          refine aw_get S hE hw 0 (C := RX11) (T := TX11) (N := 31) rfl rfl hinX11 28 (by decide) hf74 rfl dX11_judge_154 ?_
                          refine lv_bipush (v := 60) S.1 S.2.1 dX11_judge_157 (by decide) ?_
                          refine lv_iload_n S.1 S.2.1 dX11_judge_159 rfl (lv_at hl 1 rfl) ?_
                          refine lv_imul S.1 S.2.1 dX11_judge_160 ?_
                          refine aw_eqi (show (60 * (nI (tn kv)) : Int32) = nI (60 * (tn kv)) from (pk_mul 60 (tn kv))) ?_
                          refine lv_iload_n S.1 S.2.1 dX11_judge_161 rfl (lv_at hl 3 rfl) ?_
                          refine lv_iadd S.1 S.2.1 dX11_judge_162 ?_
                          refine aw_eqi (show ((nI (60 * (tn kv))) + (nI (tn iv)) : Int32) = nI ((60 * (tn kv)) + (tn iv)) from (nI_add (60 * (tn kv)) (tn iv))) ?_
                          refine lv_iload S.1 S.2.1 dX11_judge_163 (lv_at hl 5 rfl) ?_
                          refine lv_iadd S.1 S.2.1 dX11_judge_165 ?_
                          refine aw_eqi (show ((nI ((60 * (tn kv)) + (tn iv))) + (nI i) : Int32) = nI (((60 * (tn kv)) + (tn iv)) + i) from (nI_add ((60 * (tn kv)) + (tn iv)) i)) ?_
                          refine aw_iald S hE hw 10 (k := (((60 * (tn kv)) + (tn iv)) + i)) rfl (by omega) (by decide) dX11_judge_166 ?_
                          refine lv_goto (tgt := 171) S.1 S.2.1 dX11_judge_167 (by decide) ?_
                          refine aw_eqi (show (shm (((60 * (tn kv)) + (tn iv)) + i) : Int32) = if i < tn nv then shm (60 * tn kv + tn iv + i) else 0 from (by rw [if_pos c150])) ?_
                          exact join171  _ _ _ (lv_sub hl [0, 1, 2, 3, 4, 5] rfl) hw
                  exact loop133 _ 0 (by first | assumption | omega) (Nat.lt_succ_self _) _ _ _ (lv_sub hl [1, 2, 3, 4, 5, 0] rfl) hw
                · refine lv_aload_n S.1 S.2.1 dX11_judge_90 rfl (lv_at hl 0 rfl) ?_
                  refine aw_get S hE hw 0 (C := RX11) (T := TX11) (N := 31) rfl rfl hinX11 28 (by decide) hf74 rfl dX11_judge_91 ?_
                  refine lv_bipush (v := 60) S.1 S.2.1 dX11_judge_94 (by decide) ?_
                  refine lv_iload_n S.1 S.2.1 dX11_judge_96 rfl (lv_at hl 1 rfl) ?_
                  refine lv_imul S.1 S.2.1 dX11_judge_97 ?_
                  refine aw_eqi (show (60 * (nI (tn kv)) : Int32) = nI (60 * (tn kv)) from (pk_mul 60 (tn kv))) ?_
                  refine lv_iload_n S.1 S.2.1 dX11_judge_98 rfl (lv_at hl 3 rfl) ?_
                  refine lv_iadd S.1 S.2.1 dX11_judge_99 ?_
                  refine aw_eqi (show ((nI (60 * (tn kv))) + (nI (tn iv)) : Int32) = nI ((60 * (tn kv)) + (tn iv)) from (nI_add (60 * (tn kv)) (tn iv))) ?_
                  refine lv_iload S.1 S.2.1 dX11_judge_100 (lv_at hl 5 rfl) ?_
                  refine lv_iadd S.1 S.2.1 dX11_judge_102 ?_
                  refine aw_eqi (show ((nI ((60 * (tn kv)) + (tn iv))) + (nI j) : Int32) = nI (((60 * (tn kv)) + (tn iv)) + j) from (nI_add ((60 * (tn kv)) + (tn iv)) j)) ?_
                  refine aw_iald S hE hw 10 (k := (((60 * (tn kv)) + (tn iv)) + j)) rfl (by omega) (by decide) dX11_judge_103 ?_
                  refine lv_i2l S.1 S.2.1 dX11_judge_104 rfl ?_
                  refine lv_lconst (v := 0) S.1 S.2.1 dX11_judge_105 (by decide) ?_
                  refine lv_aload_n S.1 S.2.1 dX11_judge_106 rfl (lv_at hl 0 rfl) ?_
                  refine aw_callV S hE (c_X11_all l G am (if frF (ln (tn kv)) (le (tn kv)) lv iv nv = 0 then fl else frF (ln (tn kv)) (le (tn kv)) lv iv nv) n lw nn ra rsn nr tr (by first | assumption | omega)) gX11_judge_X11_all (n := 0) rfl (by decide +kernel) rfl (by rw [hRm]; exact ⟨Nat.le_of_ble_eq_true rfl, Nat.le_of_ble_eq_true rfl⟩) (by rw [hRm]; exact ⟨Nat.le_of_ble_eq_true rfl, Nat.le_of_ble_eq_true rfl⟩) hw hA hl.1 [0] rfl rfl (aw_recv (i := 0) hE hw rfl rfl rfl) rfl (Nat.le_of_ble_eq_true rfl) dX11_judge_107 ?_
                  rintro v w1 H locs ⟨rfl, rfl⟩ hw
                  have hw : bW G A s.heap [[(am 31, mdO am (if frF (ln (tn kv)) (le (tn kv)) lv iv nv = 0 then fl else frF (ln (tn kv)) (le (tn kv)) lv iv nv) n lw nn ra rsn nr tr)], [(am 2, .inl (gI G, 6, .inl kd))], [(am 3, .inl (gI G, 6, .inl sk))], [(am 4, .inl (gI G, 6, .inl br))], [(am 6, .inl (gI G, 12, .inl wa))], [(am 16, .inl (gI G, 12, .inl me))], [(am 17, .inl (gI G, 72, .inl cn))], [(am 18, .inl (gI G, 72, .inl hb))], [(am 26, .inl (gI G, 4, .inl sz))], [(am 27, .inl (gI G, 4, .inl sl_))], [(am 28, .inl (gI G, 240, .inl shm))]] H locs := hw
                  refine W.eq (g2 := (F0 m 110 ls [.int (nI (2 ^ n - 1)), .long 0, .long ((shm (((60 * (tn kv)) + (tn iv)) + j)).toInt64)])) rfl ?_
                  refine lv_i2l S.1 S.2.1 dX11_judge_110 rfl ?_
                  refine aw_callS S hE (c_X11_in l G ((shm (((60 * (tn kv)) + (tn iv)) + j)).toInt64) 0 ((nI (2 ^ n - 1)).toInt64)) gX11_judge_X11_in (n := 3) rfl (by decide +kernel) rfl (by rw [hRm]; exact ⟨Nat.le_of_ble_eq_true rfl, Nat.le_of_ble_eq_true rfl⟩) (by rw [hRm]; exact ⟨Nat.le_of_ble_eq_true rfl, Nat.le_of_ble_eq_true rfl⟩) hw hA hl.1 [] rfl rfl rfl (Nat.le_of_ble_eq_true rfl) dX11_judge_111 ?_
                  rintro v w1 H locs ⟨rfl, rfl⟩ hw
                  have hw : bW G A s.heap [[(am 31, mdO am (if frF (ln (tn kv)) (le (tn kv)) lv iv nv = 0 then fl else frF (ln (tn kv)) (le (tn kv)) lv iv nv) n lw nn ra rsn nr tr)], [(am 2, .inl (gI G, 6, .inl kd))], [(am 3, .inl (gI G, 6, .inl sk))], [(am 4, .inl (gI G, 6, .inl br))], [(am 6, .inl (gI G, 12, .inl wa))], [(am 16, .inl (gI G, 12, .inl me))], [(am 17, .inl (gI G, 72, .inl cn))], [(am 18, .inl (gI G, 72, .inl hb))], [(am 26, .inl (gI G, 4, .inl sz))], [(am 27, .inl (gI G, 4, .inl sl_))], [(am 28, .inl (gI G, 240, .inl shm))]] H locs := hw
                  refine W.eq (g2 := (F0 m 114 ls [.int (if Int64.toInt 0 ≤ Int64.toInt ((shm (((60 * (tn kv)) + (tn iv)) + j)).toInt64) ∧ Int64.toInt ((shm (((60 * (tn kv)) + (tn iv)) + j)).toInt64) ≤ Int64.toInt ((nI (2 ^ n - 1)).toInt64) then 1 else 0)])) rfl ?_
                  refine aw_ifne (P := Int64.toInt 0 ≤ Int64.toInt ((shm (((60 * (tn kv)) + (tn iv)) + j)).toInt64) ∧ Int64.toInt ((shm (((60 * (tn kv)) + (tn iv)) + j)).toInt64) ≤ Int64.toInt ((nI (2 ^ n - 1)).toInt64)) (tgt := 124) S dX11_judge_114 (by decide) (fun c114 => ?_) (fun c114 => ?_)
                  · rw [l64, l64_0, l64, eal, hcell j c87] at c114
                    have hz : (fun x => !decide (ce (tn kv) (tn iv + x) &&& (nI (2 ^ n - 1) ^^^ (-1)) = 0)) j = false := by show (!decide (ce (tn kv) (tn iv + j) &&& (nI (2 ^ n - 1) ^^^ (-1)) = 0)) = false; rw [decide_eq_true ((st_in hn _).mp (by omega))]; rfl
                    refine lv_iinc (v := nI (j + 1)) (lv' := [(6, .int (nI (j + 1))), (0, .ref (am 31)), (1, .int (nI (tn kv))), (2, .int lv), (3, .int (nI (tn iv))), (4, .int (nI (tn nv)))]) S.1 S.2.1 dX11_judge_124 hl (k := 5) rfl (by first | exact nI_1 _ | exact nI_add _ _ | rfl) (by decide) rfl (fun ls hl => ?_)
                    refine lv_goto (tgt := 83) S.1 S.2.1 dX11_judge_127 (by decide) ?_
                    exact ih83 (j + 1) (by first | assumption | omega) (lt_next hst hz) (by omega) _ _ _ (lv_sub hl [1, 2, 3, 4, 5, 0] rfl) hw
                  · rw [l64, l64_0, l64, eal, hcell j c87] at c114
                    have hns : ¬ (tn nv ≤ 12 ∧ f_sets n (ce (tn kv)) (tn iv) (tn nv)) := fun q => by have q2 := fF_is (p := (fun x => !decide (ce (tn kv) (tn iv + x) &&& (nI (2 ^ n - 1) ^^^ (-1)) = 0))) (n := tn nv) c87 (by show (!decide (ce (tn kv) (tn iv + j) &&& (nI (2 ^ n - 1) ^^^ (-1)) = 0)) = true; rw [decide_eq_false (fun y => by have y2 := (st_in hn _).mpr y; omega)]; rfl) hst; have q3 := q.2; unfold f_sets at q3; rw [q2] at q3; omega
                    refine lv_aload_n S.1 S.2.1 dX11_judge_117 rfl (lv_at hl 0 rfl) ?_
                    refine lv_bipush (v := (-2)) S.1 S.2.1 dX11_judge_118 (by decide) ?_
                    refine aw_callV S hE (c_X11_refused l G am (if frF (ln (tn kv)) (le (tn kv)) lv iv nv = 0 then fl else frF (ln (tn kv)) (le (tn kv)) lv iv nv) n lw nn ra rsn nr tr (-2)) gX11_judge_X11_refused (n := 1) rfl (by decide +kernel) rfl (by rw [hRm]; exact ⟨Nat.le_of_ble_eq_true rfl, Nat.le_of_ble_eq_true rfl⟩) (by rw [hRm]; exact ⟨Nat.le_of_ble_eq_true rfl, Nat.le_of_ble_eq_true rfl⟩) hw hA hl.1 [0] rfl rfl (aw_recv (i := 0) hE hw rfl rfl rfl) rfl (Nat.le_of_ble_eq_true rfl) dX11_judge_120 ?_
                    rintro v w1 H locs ⟨rfl, rfl⟩ hw
                    have hw : bW G A s.heap [[(am 31, mdO am 0 n lw nn ra rsn nr tr)], [(am 2, .inl (gI G, 6, .inl kd))], [(am 3, .inl (gI G, 6, .inl sk))], [(am 4, .inl (gI G, 6, .inl br))], [(am 6, .inl (gI G, 12, .inl wa))], [(am 16, .inl (gI G, 12, .inl me))], [(am 17, .inl (gI G, 72, .inl cn))], [(am 18, .inl (gI G, 72, .inl hb))], [(am 26, .inl (gI G, 4, .inl sz))], [(am 27, .inl (gI G, 4, .inl sl_))], [(am 28, .inl (gI G, 240, .inl shm))]] H locs := hw
                    refine W.eq (g2 := (F0 m 123 ls [.int (-2)])) rfl ?_
                    have hw := Eq.mp (congrArg (fun z_ : Int32 => bW G A s.heap [[(am 31, mdO am z_ n lw nn ra rsn nr tr)], [(am 2, .inl (gI G, 6, .inl kd))], [(am 3, .inl (gI G, 6, .inl sk))], [(am 4, .inl (gI G, 6, .inl br))], [(am 6, .inl (gI G, 12, .inl wa))], [(am 16, .inl (gI G, 12, .inl me))], [(am 17, .inl (gI G, 72, .inl cn))], [(am 18, .inl (gI G, 72, .inl hb))], [(am 26, .inl (gI G, 4, .inl sz))], [(am 27, .inl (gI G, 4, .inl sl_))], [(am 28, .inl (gI G, 240, .inl shm))]] H locs) (show (0 : Int32) = f_judgeF n ln le kv lv iv nv from (by rw [f_judgeF, if_pos (show (0 ≤ kv.toInt ∧ kv.toInt < 4) ∧ (0 ≤ lv.toInt ∧ lv.toInt < 3) ∧ ¬ n = 0 from ⟨c4, hlv, c36⟩), hFR]))) hw
                    have hw : bW G A s.heap [[(am 31, mdO am (f_judgeF n ln le kv lv iv nv) n lw nn ra rsn nr tr)], [(am 2, .inl (gI G, 6, .inl kd))], [(am 3, .inl (gI G, 6, .inl sk))], [(am 4, .inl (gI G, 6, .inl br))], [(am 6, .inl (gI G, 12, .inl wa))], [(am 16, .inl (gI G, 12, .inl me))], [(am 17, .inl (gI G, 72, .inl cn))], [(am 18, .inl (gI G, 72, .inl hb))], [(am 26, .inl (gI G, 4, .inl sz))], [(am 27, .inl (gI G, 4, .inl sl_))], [(am 28, .inl (gI G, 240, .inl shm))]] H locs := hw
                    refine aw_eqi (show ((-2) : Int32) = f_judge n ln le ce (noI (fwF n lw sk (fun j => hoK (kd j)) br (fun m => ce (tn kv) (tn iv + m)) wa (tn nv) true true) (tn nv)) kv lv iv nv from (by rw [f_judge, if_pos c4, if_pos hlv, if_neg c36, if_pos hFR, if_neg hns])) ?_
                    exact aw_iret S hr hlk ha hQ hAe hw dX11_judge_123 rfl (Nat.le_of_ble_eq_true rfl) (Nat.le_of_ble_eq_true rfl) ⟨rfl, _, _, _, rfl⟩
            exact loop83 _ 0 (by first | assumption | omega) (fun x hx => absurd hx (Nat.not_lt_zero x)) (Nat.lt_succ_self _) _ _ _ (lv_sub hl [2, 3, 4, 5, 6, 0] rfl) hw
          · rw [fa_le, li_12] at c70
            refine lv_aload_n S.1 S.2.1 dX11_judge_73 rfl (lv_at hl 1 rfl) ?_
            refine lv_bipush (v := (-2)) S.1 S.2.1 dX11_judge_74 (by decide) ?_
            refine aw_callV S hE (c_X11_refused l G am (if frF (ln (tn kv)) (le (tn kv)) lv iv nv = 0 then fl else frF (ln (tn kv)) (le (tn kv)) lv iv nv) n lw nn ra rsn nr tr (-2)) gX11_judge_X11_refused (n := 1) rfl (by decide +kernel) rfl (by rw [hRm]; exact ⟨Nat.le_of_ble_eq_true rfl, Nat.le_of_ble_eq_true rfl⟩) (by rw [hRm]; exact ⟨Nat.le_of_ble_eq_true rfl, Nat.le_of_ble_eq_true rfl⟩) hw hA hl.1 [0] rfl rfl (aw_recv (i := 0) hE hw rfl rfl rfl) rfl (Nat.le_of_ble_eq_true rfl) dX11_judge_76 ?_
            rintro v w1 H locs ⟨rfl, rfl⟩ hw
            have hw : bW G A s.heap [[(am 31, mdO am 0 n lw nn ra rsn nr tr)], [(am 2, .inl (gI G, 6, .inl kd))], [(am 3, .inl (gI G, 6, .inl sk))], [(am 4, .inl (gI G, 6, .inl br))], [(am 6, .inl (gI G, 12, .inl wa))], [(am 16, .inl (gI G, 12, .inl me))], [(am 17, .inl (gI G, 72, .inl cn))], [(am 18, .inl (gI G, 72, .inl hb))], [(am 26, .inl (gI G, 4, .inl sz))], [(am 27, .inl (gI G, 4, .inl sl_))], [(am 28, .inl (gI G, 240, .inl shm))]] H locs := hw
            refine W.eq (g2 := (F0 m 79 ls [.int (-2)])) rfl ?_
            have hw := Eq.mp (congrArg (fun z_ : Int32 => bW G A s.heap [[(am 31, mdO am z_ n lw nn ra rsn nr tr)], [(am 2, .inl (gI G, 6, .inl kd))], [(am 3, .inl (gI G, 6, .inl sk))], [(am 4, .inl (gI G, 6, .inl br))], [(am 6, .inl (gI G, 12, .inl wa))], [(am 16, .inl (gI G, 12, .inl me))], [(am 17, .inl (gI G, 72, .inl cn))], [(am 18, .inl (gI G, 72, .inl hb))], [(am 26, .inl (gI G, 4, .inl sz))], [(am 27, .inl (gI G, 4, .inl sl_))], [(am 28, .inl (gI G, 240, .inl shm))]] H locs) (show (0 : Int32) = f_judgeF n ln le kv lv iv nv from (by rw [f_judgeF, if_pos (show (0 ≤ kv.toInt ∧ kv.toInt < 4) ∧ (0 ≤ lv.toInt ∧ lv.toInt < 3) ∧ ¬ n = 0 from ⟨c4, hlv, c36⟩), hFR]))) hw
            have hw : bW G A s.heap [[(am 31, mdO am (f_judgeF n ln le kv lv iv nv) n lw nn ra rsn nr tr)], [(am 2, .inl (gI G, 6, .inl kd))], [(am 3, .inl (gI G, 6, .inl sk))], [(am 4, .inl (gI G, 6, .inl br))], [(am 6, .inl (gI G, 12, .inl wa))], [(am 16, .inl (gI G, 12, .inl me))], [(am 17, .inl (gI G, 72, .inl cn))], [(am 18, .inl (gI G, 72, .inl hb))], [(am 26, .inl (gI G, 4, .inl sz))], [(am 27, .inl (gI G, 4, .inl sl_))], [(am 28, .inl (gI G, 240, .inl shm))]] H locs := hw
            refine aw_eqi (show ((-2) : Int32) = f_judge n ln le ce (noI (fwF n lw sk (fun j => hoK (kd j)) br (fun m => ce (tn kv) (tn iv + m)) wa (tn nv) true true) (tn nv)) kv lv iv nv from (by rw [f_judge, if_pos c4, if_pos hlv, if_neg c36, if_pos hFR, if_neg (show ¬ (tn nv ≤ 12 ∧ f_sets n (ce (tn kv)) (tn iv) (tn nv)) from fun q => by have q1 := q.1; unfold tn at q1; omega)])) ?_
            exact aw_iret S hr hlk ha hQ hAe hw dX11_judge_79 rfl (Nat.le_of_ble_eq_true rfl) (Nat.le_of_ble_eq_true rfl) ⟨rfl, _, _, _, rfl⟩
        · have hFR : ¬ frF (ln (tn kv)) (le (tn kv)) lv iv nv = 0 := fun q => c60 (fr_ge.mpr q)
          refine lv_iload S.1 S.2.1 dX11_judge_63 (lv_at hl 0 rfl) ?_
          have hw := Eq.mp (congrArg (fun z_ : Int32 => bW G A s.heap [[(am 31, mdO am z_ n lw nn ra rsn nr tr)], [(am 2, .inl (gI G, 6, .inl kd))], [(am 3, .inl (gI G, 6, .inl sk))], [(am 4, .inl (gI G, 6, .inl br))], [(am 6, .inl (gI G, 12, .inl wa))], [(am 16, .inl (gI G, 12, .inl me))], [(am 17, .inl (gI G, 72, .inl cn))], [(am 18, .inl (gI G, 72, .inl hb))], [(am 26, .inl (gI G, 4, .inl sz))], [(am 27, .inl (gI G, 4, .inl sl_))], [(am 28, .inl (gI G, 240, .inl shm))]] H locs) (show (if frF (ln (tn kv)) (le (tn kv)) lv iv nv = 0 then fl else frF (ln (tn kv)) (le (tn kv)) lv iv nv : Int32) = f_judgeF n ln le kv lv iv nv from (by rw [f_judgeF, if_pos (show (0 ≤ kv.toInt ∧ kv.toInt < 4) ∧ (0 ≤ lv.toInt ∧ lv.toInt < 3) ∧ ¬ n = 0 from ⟨c4, hlv, c36⟩), if_neg hFR]))) hw
          have hw : bW G A s.heap [[(am 31, mdO am (f_judgeF n ln le kv lv iv nv) n lw nn ra rsn nr tr)], [(am 2, .inl (gI G, 6, .inl kd))], [(am 3, .inl (gI G, 6, .inl sk))], [(am 4, .inl (gI G, 6, .inl br))], [(am 6, .inl (gI G, 12, .inl wa))], [(am 16, .inl (gI G, 12, .inl me))], [(am 17, .inl (gI G, 72, .inl cn))], [(am 18, .inl (gI G, 72, .inl hb))], [(am 26, .inl (gI G, 4, .inl sz))], [(am 27, .inl (gI G, 4, .inl sl_))], [(am 28, .inl (gI G, 240, .inl shm))]] H locs := hw
          refine aw_eqi (show (if frF (ln (tn kv)) (le (tn kv)) lv iv nv = 0 then 0 else -10 - frF (ln (tn kv)) (le (tn kv)) lv iv nv : Int32) = f_judge n ln le ce (noI (fwF n lw sk (fun j => hoK (kd j)) br (fun m => ce (tn kv) (tn iv + m)) wa (tn nv) true true) (tn nv)) kv lv iv nv from (by rw [f_judge, if_pos c4, if_pos hlv, if_neg c36, if_neg hFR, if_neg hFR])) ?_
          exact aw_iret S hr hlk ha hQ hAe hw dX11_judge_65 rfl (Nat.le_of_ble_eq_true rfl) (Nat.le_of_ble_eq_true rfl) ⟨rfl, _, _, _, rfl⟩
      · refine lv_aload_n S.1 S.2.1 dX11_judge_39 rfl (lv_at hl 0 rfl) ?_
        refine lv_bipush (v := (-3)) S.1 S.2.1 dX11_judge_40 (by decide) ?_
        refine aw_callV S hE (c_X11_refused l G am fl n lw nn ra rsn nr tr (-3)) gX11_judge_X11_refused (n := 1) rfl (by decide +kernel) rfl (by rw [hRm]; exact ⟨Nat.le_of_ble_eq_true rfl, Nat.le_of_ble_eq_true rfl⟩) (by rw [hRm]; exact ⟨Nat.le_of_ble_eq_true rfl, Nat.le_of_ble_eq_true rfl⟩) hw hA hl.1 [0] rfl rfl (aw_recv (i := 0) hE hw rfl rfl rfl) rfl (Nat.le_of_ble_eq_true rfl) dX11_judge_42 ?_
        rintro v w1 H locs ⟨rfl, rfl⟩ hw
        have hw : bW G A s.heap [[(am 31, mdO am 0 n lw nn ra rsn nr tr)], [(am 2, .inl (gI G, 6, .inl kd))], [(am 3, .inl (gI G, 6, .inl sk))], [(am 4, .inl (gI G, 6, .inl br))], [(am 6, .inl (gI G, 12, .inl wa))], [(am 16, .inl (gI G, 12, .inl me))], [(am 17, .inl (gI G, 72, .inl cn))], [(am 18, .inl (gI G, 72, .inl hb))], [(am 26, .inl (gI G, 4, .inl sz))], [(am 27, .inl (gI G, 4, .inl sl_))], [(am 28, .inl (gI G, 240, .inl shm))]] H locs := hw
        refine W.eq (g2 := (F0 m 45 ls [.int (-3)])) rfl ?_
        have hw := Eq.mp (congrArg (fun z_ : Int32 => bW G A s.heap [[(am 31, mdO am z_ n lw nn ra rsn nr tr)], [(am 2, .inl (gI G, 6, .inl kd))], [(am 3, .inl (gI G, 6, .inl sk))], [(am 4, .inl (gI G, 6, .inl br))], [(am 6, .inl (gI G, 12, .inl wa))], [(am 16, .inl (gI G, 12, .inl me))], [(am 17, .inl (gI G, 72, .inl cn))], [(am 18, .inl (gI G, 72, .inl hb))], [(am 26, .inl (gI G, 4, .inl sz))], [(am 27, .inl (gI G, 4, .inl sl_))], [(am 28, .inl (gI G, 240, .inl shm))]] H locs) (show (0 : Int32) = f_judgeF n ln le kv lv iv nv from (by rw [f_judgeF, if_neg (fun q => q.2.2 c36)]))) hw
        have hw : bW G A s.heap [[(am 31, mdO am (f_judgeF n ln le kv lv iv nv) n lw nn ra rsn nr tr)], [(am 2, .inl (gI G, 6, .inl kd))], [(am 3, .inl (gI G, 6, .inl sk))], [(am 4, .inl (gI G, 6, .inl br))], [(am 6, .inl (gI G, 12, .inl wa))], [(am 16, .inl (gI G, 12, .inl me))], [(am 17, .inl (gI G, 72, .inl cn))], [(am 18, .inl (gI G, 72, .inl hb))], [(am 26, .inl (gI G, 4, .inl sz))], [(am 27, .inl (gI G, 4, .inl sl_))], [(am 28, .inl (gI G, 240, .inl shm))]] H locs := hw
        refine aw_eqi (show ((-3) : Int32) = f_judge n ln le ce (noI (fwF n lw sk (fun j => hoK (kd j)) br (fun m => ce (tn kv) (tn iv + m)) wa (tn nv) true true) (tn nv)) kv lv iv nv from (by rw [f_judge, if_pos c4, if_pos hlv, if_pos c36])) ?_
        exact aw_iret S hr hlk ha hQ hAe hw dX11_judge_45 rfl (Nat.le_of_ble_eq_true rfl) (Nat.le_of_ble_eq_true rfl) ⟨rfl, _, _, _, rfl⟩
    · rw [l64, l64_0, l64_2] at c22
      refine lv_aload_n S.1 S.2.1 dX11_judge_25 rfl (lv_at hl 0 rfl) ?_
      refine lv_bipush (v := (-2)) S.1 S.2.1 dX11_judge_26 (by decide) ?_
      refine aw_callV S hE (c_X11_refused l G am fl n lw nn ra rsn nr tr (-2)) gX11_judge_X11_refused (n := 1) rfl (by decide +kernel) rfl (by rw [hRm]; exact ⟨Nat.le_of_ble_eq_true rfl, Nat.le_of_ble_eq_true rfl⟩) (by rw [hRm]; exact ⟨Nat.le_of_ble_eq_true rfl, Nat.le_of_ble_eq_true rfl⟩) hw hA hl.1 [0] rfl rfl (aw_recv (i := 0) hE hw rfl rfl rfl) rfl (Nat.le_of_ble_eq_true rfl) dX11_judge_28 ?_
      rintro v w1 H locs ⟨rfl, rfl⟩ hw
      have hw : bW G A s.heap [[(am 31, mdO am 0 n lw nn ra rsn nr tr)], [(am 2, .inl (gI G, 6, .inl kd))], [(am 3, .inl (gI G, 6, .inl sk))], [(am 4, .inl (gI G, 6, .inl br))], [(am 6, .inl (gI G, 12, .inl wa))], [(am 16, .inl (gI G, 12, .inl me))], [(am 17, .inl (gI G, 72, .inl cn))], [(am 18, .inl (gI G, 72, .inl hb))], [(am 26, .inl (gI G, 4, .inl sz))], [(am 27, .inl (gI G, 4, .inl sl_))], [(am 28, .inl (gI G, 240, .inl shm))]] H locs := hw
      refine W.eq (g2 := (F0 m 31 ls [.int (-2)])) rfl ?_
      have hw := Eq.mp (congrArg (fun z_ : Int32 => bW G A s.heap [[(am 31, mdO am z_ n lw nn ra rsn nr tr)], [(am 2, .inl (gI G, 6, .inl kd))], [(am 3, .inl (gI G, 6, .inl sk))], [(am 4, .inl (gI G, 6, .inl br))], [(am 6, .inl (gI G, 12, .inl wa))], [(am 16, .inl (gI G, 12, .inl me))], [(am 17, .inl (gI G, 72, .inl cn))], [(am 18, .inl (gI G, 72, .inl hb))], [(am 26, .inl (gI G, 4, .inl sz))], [(am 27, .inl (gI G, 4, .inl sl_))], [(am 28, .inl (gI G, 240, .inl shm))]] H locs) (show (0 : Int32) = f_judgeF n ln le kv lv iv nv from (by rw [f_judgeF, if_neg (by omega)]))) hw
      have hw : bW G A s.heap [[(am 31, mdO am (f_judgeF n ln le kv lv iv nv) n lw nn ra rsn nr tr)], [(am 2, .inl (gI G, 6, .inl kd))], [(am 3, .inl (gI G, 6, .inl sk))], [(am 4, .inl (gI G, 6, .inl br))], [(am 6, .inl (gI G, 12, .inl wa))], [(am 16, .inl (gI G, 12, .inl me))], [(am 17, .inl (gI G, 72, .inl cn))], [(am 18, .inl (gI G, 72, .inl hb))], [(am 26, .inl (gI G, 4, .inl sz))], [(am 27, .inl (gI G, 4, .inl sl_))], [(am 28, .inl (gI G, 240, .inl shm))]] H locs := hw
      refine aw_eqi (show ((-2) : Int32) = f_judge n ln le ce (noI (fwF n lw sk (fun j => hoK (kd j)) br (fun m => ce (tn kv) (tn iv + m)) wa (tn nv) true true) (tn nv)) kv lv iv nv from (by rw [f_judge, if_pos c4, if_neg (by omega)])) ?_
      exact aw_iret S hr hlk ha hQ hAe hw dX11_judge_31 rfl (Nat.le_of_ble_eq_true rfl) (Nat.le_of_ble_eq_true rfl) ⟨rfl, _, _, _, rfl⟩
  · refine lv_aload_n S.1 S.2.1 dX11_judge_7 rfl (lv_at hl 0 rfl) ?_
    refine lv_iconst (v := (-1)) S.1 S.2.1 dX11_judge_8 (by decide) ?_
    refine aw_callV S hE (c_X11_refused l G am fl n lw nn ra rsn nr tr (-1)) gX11_judge_X11_refused (n := 1) rfl (by decide +kernel) rfl (by rw [hRm]; exact ⟨Nat.le_of_ble_eq_true rfl, Nat.le_of_ble_eq_true rfl⟩) (by rw [hRm]; exact ⟨Nat.le_of_ble_eq_true rfl, Nat.le_of_ble_eq_true rfl⟩) hw hA hl.1 [0] rfl rfl (aw_recv (i := 0) hE hw rfl rfl rfl) rfl (Nat.le_of_ble_eq_true rfl) dX11_judge_9 ?_
    rintro v w1 H locs ⟨rfl, rfl⟩ hw
    have hw : bW G A s.heap [[(am 31, mdO am 0 n lw nn ra rsn nr tr)], [(am 2, .inl (gI G, 6, .inl kd))], [(am 3, .inl (gI G, 6, .inl sk))], [(am 4, .inl (gI G, 6, .inl br))], [(am 6, .inl (gI G, 12, .inl wa))], [(am 16, .inl (gI G, 12, .inl me))], [(am 17, .inl (gI G, 72, .inl cn))], [(am 18, .inl (gI G, 72, .inl hb))], [(am 26, .inl (gI G, 4, .inl sz))], [(am 27, .inl (gI G, 4, .inl sl_))], [(am 28, .inl (gI G, 240, .inl shm))]] H locs := hw
    refine W.eq (g2 := (F0 m 12 ls [.int (-1)])) rfl ?_
    have hw := Eq.mp (congrArg (fun z_ : Int32 => bW G A s.heap [[(am 31, mdO am z_ n lw nn ra rsn nr tr)], [(am 2, .inl (gI G, 6, .inl kd))], [(am 3, .inl (gI G, 6, .inl sk))], [(am 4, .inl (gI G, 6, .inl br))], [(am 6, .inl (gI G, 12, .inl wa))], [(am 16, .inl (gI G, 12, .inl me))], [(am 17, .inl (gI G, 72, .inl cn))], [(am 18, .inl (gI G, 72, .inl hb))], [(am 26, .inl (gI G, 4, .inl sz))], [(am 27, .inl (gI G, 4, .inl sl_))], [(am 28, .inl (gI G, 240, .inl shm))]] H locs) (show (0 : Int32) = f_judgeF n ln le kv lv iv nv from (by rw [f_judgeF, if_neg (fun q => c4 q.1)]))) hw
    have hw : bW G A s.heap [[(am 31, mdO am (f_judgeF n ln le kv lv iv nv) n lw nn ra rsn nr tr)], [(am 2, .inl (gI G, 6, .inl kd))], [(am 3, .inl (gI G, 6, .inl sk))], [(am 4, .inl (gI G, 6, .inl br))], [(am 6, .inl (gI G, 12, .inl wa))], [(am 16, .inl (gI G, 12, .inl me))], [(am 17, .inl (gI G, 72, .inl cn))], [(am 18, .inl (gI G, 72, .inl hb))], [(am 26, .inl (gI G, 4, .inl sz))], [(am 27, .inl (gI G, 4, .inl sl_))], [(am 28, .inl (gI G, 240, .inl shm))]] H locs := hw
    refine aw_eqi (show ((-1) : Int32) = f_judge n ln le ce (noI (fwF n lw sk (fun j => hoK (kd j)) br (fun m => ce (tn kv) (tn iv + m)) wa (tn nv) true true) (tn nv)) kv lv iv nv from (by rw [f_judge, if_neg c4])) ?_
    exact aw_iret S hr hlk ha hQ hAe hw dX11_judge_12 rfl (Nat.le_of_ble_eq_true rfl) (Nat.le_of_ble_eq_true rfl) ⟨rfl, _, _, _, rfl⟩
