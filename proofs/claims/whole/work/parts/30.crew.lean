/-! the crew's sets -/
def tn (x : Int32) : Nat := x.toInt.toNat
theorem aw_tnL {x : Int32} {n : Nat} (h : 0 ≤ x.toInt ∧ x.toInt < n) : tn x < n := by unfold tn; omega
theorem aw_tnE {x : Int32} {n : Nat} (h : 0 ≤ x.toInt ∧ x.toInt < n) : x = nI (tn x) := by
  have h2 := Int32.toInt_lt x
  rw [fa_eq]
  unfold tn
  rw [nI_toInt (by omega)]
  omega
theorem tn_nI {k : Nat} (h : k < 2 ^ 31) : tn (nI k) = k := by unfold tn; rw [nI_toInt h]; rfl
theorem or_pow {c i : Nat} (h : i < 2 ^ c) : nI (2 ^ c) ||| nI i = nI (2 ^ c + i) := by
  rw [nI_or]
  have := Nat.two_pow_add_eq_or_of_lt h 1
  rw [Nat.mul_one] at this
  rw [this]
def tsF (c i : Nat) (v : Int32) (so : Nat → Int32) : Nat → Int32 := fun S => if 2 ^ c ≤ S ∧ S < 2 ^ c + i then so (S - 2 ^ c) ||| v else so S
def thF (c i : Nat) (v : Int32) (hs : Nat → Int32) : Nat → Int32 := fun S => if 2 ^ c ≤ S ∧ S < 2 ^ c + i then hs (S - 2 ^ c) + v else hs S
theorem tsF_0 (c : Nat) (v : Int32) (so : Nat → Int32) : tsF c 0 v so = so := funext fun S => if_neg (by omega)
theorem thF_0 (c : Nat) (v : Int32) (so : Nat → Int32) : thF c 0 v so = so := funext fun S => if_neg (by omega)
theorem tsF_s (c i : Nat) (v : Int32) (so : Nat → Int32) : upd (tsF c i v so) (2 ^ c + i) (so i ||| v) = tsF c (i + 1) v so := by
  funext S
  unfold upd tsF
  by_cases e : S = 2 ^ c + i
  · rw [if_pos e, if_pos (by omega), show S - 2 ^ c = i by omega]
  · rw [if_neg e]
    by_cases q : 2 ^ c ≤ S ∧ S < 2 ^ c + i
    · rw [if_pos q, if_pos (by omega)]
    · rw [if_neg q, if_neg (by omega)]
theorem thF_s (c i : Nat) (v : Int32) (so : Nat → Int32) : upd (thF c i v so) (2 ^ c + i) (so i + v) = thF c (i + 1) v so := by
  funext S
  unfold upd thF
  by_cases e : S = 2 ^ c + i
  · rw [if_pos e, if_pos (by omega), show S - 2 ^ c = i by omega]
  · rw [if_neg e]
    by_cases q : 2 ^ c ≤ S ∧ S < 2 ^ c + i
    · rw [if_pos q, if_pos (by omega)]
    · rw [if_neg q, if_neg (by omega)]
theorem pow6 {c n : Nat} (h : c < n) (hn : n ≤ 6) : 2 ^ c + 2 ^ c ≤ 64 := by
  have h1 : 2 ^ (c + 1) ≤ 2 ^ 6 := Nat.pow_le_pow_right (by omega) (by omega)
  have h2 : 2 ^ (c + 1) = 2 ^ c + 2 ^ c := by rw [Nat.pow_succ]; omega
  omega
theorem pow6' {n : Nat} (hn : n ≤ 6) : 2 ^ n ≤ 64 := Nat.le_trans (Nat.pow_le_pow_right (by omega) hn) (by decide)
set_option maxRecDepth 100000 in
set_option maxHeartbeats 4000000 in
theorem c_X0_at_in (l : Launch) (G : aw_G) (ad : Nat → Nat) (n : Nat) (lw : Int32) (sg : Nat → Option Nat) (sa : Nat → Nat) (k : Nat) (hn : n ≤ 6) (hk : k < n) (hsg : ∀ i, i < n → sg i = some (sa i)) : CT l G yX0_at wsX0_at ({ frames := 1, cells := 0, slots := 0, locals := 21 }) [.ref (ad 2), .int (nI k)] [[(ad 2, .inr (0, [.ref (ad 8), .ref (ad 9), .ref (ad 10), .ref (ad 11), .ref (ad 12), .int (nI n), .int lw]))], [(ad 8, .inl (gL G, 6, .inr (.inr (.inr (.inr sg)))))]] (dt (some (.ref (sa k))) [[(ad 2, .inr (0, [.ref (ad 8), .ref (ad 9), .ref (ad 10), .ref (ad 11), .ref (ad 12), .int (nI n), .int lw]))], [(ad 8, .inl (gL G, 6, .inr (.inr (.inr (.inr sg)))))]]) := by
  refine CT.of (cc := cX0_at) (nL := 2) (ret := (some (.object "AwakeTurns$Sleeper"))) (by decide) rfl (Nat.le_of_ble_eq_true rfl) ?_
  intro p e s m below meth c R args Q A hRm ha hQ hAe hA S hE hr hlk hnm H locs hH0 hL0 ls hl hw
  have S : CallFix p m c cX0_at 2 s args wsX0_at RX0 := S
  have hl : lv_has ls 2 [(0, .ref (ad 2)), (1, .int (nI k))] := hl
  have hinX0 : ∀ w ∈ u_ws RX0 TX0 7, w ∈ wsX0_at := by decide +kernel
  have hf11 := S.2.2.2.2 (.fieldLink RX0 11 "AwakeTurns$Crew" "sleepers" "[LAwakeTurns$Sleeper;") (by decide +kernel)
  refine lv_aload_n S.1 S.2.1 dX0_at_0 rfl (lv_at hl 0 rfl) ?_
  refine lv_iload_n S.1 S.2.1 dX0_at_1 rfl (lv_at hl 1 rfl) ?_
  refine aw_callV S hE (c_X0_has l G ad n lw (nI k) (by first | assumption | omega)) gX0_at_X0_has (n := 1) rfl (by decide +kernel) rfl (by rw [hRm]; exact ⟨Nat.le_of_ble_eq_true rfl, Nat.le_of_ble_eq_true rfl⟩) (by rw [hRm]; exact ⟨Nat.le_of_ble_eq_true rfl, Nat.le_of_ble_eq_true rfl⟩) hw hA hl.1 [0] rfl rfl (aw_recv (i := 0) hE hw rfl rfl rfl) rfl (Nat.le_of_ble_eq_true rfl) dX0_at_2 ?_
  rintro v w1 H locs ⟨rfl, rfl⟩ hw
  have hw : bW G A s.heap [[(ad 2, .inr (0, [.ref (ad 8), .ref (ad 9), .ref (ad 10), .ref (ad 11), .ref (ad 12), .int (nI n), .int lw]))], [(ad 8, .inl (gL G, 6, .inr (.inr (.inr (.inr sg)))))]] H locs := hw
  refine W.eq (g2 := (F0 m 5 ls [.int (if 0 ≤ (nI k).toInt ∧ (nI k).toInt < n then 1 else 0)])) rfl ?_
  refine aw_ifeq (P := 0 ≤ (nI k).toInt ∧ (nI k).toInt < n) (tgt := 17) S dX0_at_5 (by decide) (fun c5 => ?_) (fun c5 => ?_)
  · exact absurd (show 0 ≤ (nI k).toInt ∧ (nI k).toInt < n by rw [nI_toInt (by omega)]; omega) c5
  · refine lv_aload_n S.1 S.2.1 dX0_at_8 rfl (lv_at hl 0 rfl) ?_
    refine aw_get S hE hw 0 (C := RX0) (T := TX0) (N := 7) rfl rfl hinX0 0 (by decide) hf11 rfl dX0_at_9 ?_
    refine lv_iload_n S.1 S.2.1 dX0_at_12 rfl (lv_at hl 1 rfl) ?_
    refine aw_aald_L S hE hw 1 (k := k) (r := (sa k)) rfl (by omega) (by decide) (hsg k hk) dX0_at_13 ?_
    refine lv_goto (tgt := 18) S.1 S.2.1 dX0_at_14 (by decide) ?_
    exact aw_aret S hr hlk ha hQ hAe hw dX0_at_18 (Or.inl ⟨_, rfl⟩) (Or.inr ⟨_, rfl⟩) (Nat.le_of_ble_eq_true rfl) (Nat.le_of_ble_eq_true rfl) ⟨rfl, rfl⟩
set_option maxRecDepth 100000 in
set_option maxHeartbeats 4000000 in
theorem c_X0_at_out (l : Launch) (G : aw_G) (ad : Nat → Nat) (n : Nat) (lw : Int32) (sv : Int32) (hn : n ≤ 6) (hk : ¬ (0 ≤ sv.toInt ∧ sv.toInt < n)) : CT l G yX0_at wsX0_at ({ frames := 1, cells := 0, slots := 0, locals := 21 }) [.ref (ad 2), .int sv] [[(ad 2, .inr (0, [.ref (ad 8), .ref (ad 9), .ref (ad 10), .ref (ad 11), .ref (ad 12), .int (nI n), .int lw]))]] (dt (some (.null)) [[(ad 2, .inr (0, [.ref (ad 8), .ref (ad 9), .ref (ad 10), .ref (ad 11), .ref (ad 12), .int (nI n), .int lw]))]]) := by
  refine CT.of (cc := cX0_at) (nL := 2) (ret := (some (.object "AwakeTurns$Sleeper"))) (by decide) rfl (Nat.le_of_ble_eq_true rfl) ?_
  intro p e s m below meth c R args Q A hRm ha hQ hAe hA S hE hr hlk hnm H locs hH0 hL0 ls hl hw
  have S : CallFix p m c cX0_at 2 s args wsX0_at RX0 := S
  have hl : lv_has ls 2 [(0, .ref (ad 2)), (1, .int sv)] := hl
  refine lv_aload_n S.1 S.2.1 dX0_at_0 rfl (lv_at hl 0 rfl) ?_
  refine lv_iload_n S.1 S.2.1 dX0_at_1 rfl (lv_at hl 1 rfl) ?_
  refine aw_callV S hE (c_X0_has l G ad n lw sv (by first | assumption | omega)) gX0_at_X0_has (n := 1) rfl (by decide +kernel) rfl (by rw [hRm]; exact ⟨Nat.le_of_ble_eq_true rfl, Nat.le_of_ble_eq_true rfl⟩) (by rw [hRm]; exact ⟨Nat.le_of_ble_eq_true rfl, Nat.le_of_ble_eq_true rfl⟩) hw hA hl.1 [0] rfl rfl (aw_recv (i := 0) hE hw rfl rfl rfl) rfl (Nat.le_of_ble_eq_true rfl) dX0_at_2 ?_
  rintro v w1 H locs ⟨rfl, rfl⟩ hw
  have hw : bW G A s.heap [[(ad 2, .inr (0, [.ref (ad 8), .ref (ad 9), .ref (ad 10), .ref (ad 11), .ref (ad 12), .int (nI n), .int lw]))]] H locs := hw
  refine W.eq (g2 := (F0 m 5 ls [.int (if 0 ≤ sv.toInt ∧ sv.toInt < n then 1 else 0)])) rfl ?_
  refine aw_ifeq (P := 0 ≤ sv.toInt ∧ sv.toInt < n) (tgt := 17) S dX0_at_5 (by decide) (fun c5 => ?_) (fun c5 => ?_)
  · refine lv_null S.1 S.2.1 dX0_at_17 ?_
    exact aw_aret S hr hlk ha hQ hAe hw dX0_at_18 (Or.inl ⟨_, rfl⟩) (Or.inl rfl) (Nat.le_of_ble_eq_true rfl) (Nat.le_of_ble_eq_true rfl) ⟨rfl, rfl⟩
  · exact absurd c5 hk
set_option maxRecDepth 100000 in
set_option maxHeartbeats 4000000 in
theorem c_X0_areSets (l : Launch) (G : aw_G) (ad : Nat → Nat) (n : Nat) (lw : Int32) (b : Nat) (f : Nat → Int32) (i nn : Nat) (hn : n ≤ 6) (hb : i + nn ≤ 60) : CT l G yX0_areSets wsX0_areSets ({ frames := 2, cells := 0, slots := 0, locals := 40 }) [.ref (ad 2), .ref b, .int (nI i), .int (nI nn)] [[(ad 2, .inr (0, [.ref (ad 8), .ref (ad 9), .ref (ad 10), .ref (ad 11), .ref (ad 12), .int (nI n), .int lw]))], [(b, .inl (gI G, 60, .inl f))]] (dt (some (.int (if fF (fun x => !decide (f (i + x) &&& (nI (2 ^ n - 1) ^^^ (-1)) = 0)) nn = nn then 1 else 0))) [[(ad 2, .inr (0, [.ref (ad 8), .ref (ad 9), .ref (ad 10), .ref (ad 11), .ref (ad 12), .int (nI n), .int lw]))], [(b, .inl (gI G, 60, .inl f))]]) := by
  refine CT.of (cc := cX0_areSets) (nL := 5) (ret := (some .boolean)) (by decide) rfl (Nat.le_of_ble_eq_true rfl) ?_
  intro p e s m below meth c R args Q A hRm ha hQ hAe hA S hE hr hlk hnm H locs hH0 hL0 ls hl hw
  have S : CallFix p m c cX0_areSets 5 s args wsX0_areSets RX0 := S
  have hl : lv_has ls 5 [(0, .ref (ad 2)), (1, .ref b), (2, .int (nI i)), (3, .int (nI nn))] := hl
  refine lv_iconst (v := 0) S.1 S.2.1 dX0_areSets_0 (by decide) ?_
  refine lv_istore (lv' := [(4, .int 0), (0, .ref (ad 2)), (1, .ref b), (2, .int (nI i)), (3, .int (nI nn))]) S.1 S.2.1 dX0_areSets_1 hl (by decide) rfl (fun ls hl => ?_)
  have loop3 : ∀ (fu : Nat) (x : Nat), (x ≤ nn) → (∀ j, j < x → (fun x => !decide (f (i + x) &&& (nI (2 ^ n - 1) ^^^ (-1)) = 0)) j = false) → (nn - x) < fu → ∀ (ls : Array Slot) (H : Heap) (locs : List Loc), lv_has ls 5 [(0, .ref (ad 2)), (1, .ref b), (2, .int (nI i)), (3, .int (nI nn)), (4, .int (nI x))] → bW G A s.heap [[(ad 2, .inr (0, [.ref (ad 8), .ref (ad 9), .ref (ad 10), .ref (ad 11), .ref (ad 12), .int (nI n), .int lw]))], [(b, .inl (gI G, 60, .inl f))]] H locs → W p l e R s m args below meth c H locs 0 0 Q (F0 m 3 ls []) := by
    intro fu
    induction fu with
    | zero => intro x _ _ hm; exact absurd hm (Nat.not_lt_zero _)
    | succ fu ih3 =>
      intro x hx hp hm ls H locs hl hw
      refine lv_iload S.1 S.2.1 dX0_areSets_3 (lv_at hl 4 rfl) ?_
      refine lv_iload_n S.1 S.2.1 dX0_areSets_5 rfl (lv_at hl 3 rfl) ?_
      refine aw_icmpN_ge (x := x) (y := nn) (tgt := 33) S (by omega) (by omega) dX0_areSets_6 (by decide) (fun c6 => ?_) (fun c6 => ?_)
      · have ex_x : x = nn := by omega
        refine lv_iconst (v := 1) S.1 S.2.1 dX0_areSets_33 (by decide) ?_
        refine aw_eqi (show (1 : Int32) = if fF (fun x => !decide (f (i + x) &&& (nI (2 ^ n - 1) ^^^ (-1)) = 0)) nn = nn then 1 else 0 from (by rw [if_pos]; exact fF_none (fun j hj => hp j (by omega)))) ?_
        exact aw_iret S hr hlk ha hQ hAe hw dX0_areSets_34 (aw_nb _) (Nat.le_of_ble_eq_true rfl) (Nat.le_of_ble_eq_true rfl) ⟨rfl, rfl⟩
      · refine lv_aload_n S.1 S.2.1 dX0_areSets_9 rfl (lv_at hl 1 rfl) ?_
        refine lv_iload_n S.1 S.2.1 dX0_areSets_10 rfl (lv_at hl 2 rfl) ?_
        refine lv_iload S.1 S.2.1 dX0_areSets_11 (lv_at hl 4 rfl) ?_
        refine lv_iadd S.1 S.2.1 dX0_areSets_13 ?_
        refine aw_eqi (show ((nI i) + (nI x) : Int32) = nI (i + x) from (nI_add i x)) ?_
        refine aw_iald S hE hw 1 (k := (i + x)) rfl (by omega) (by decide) dX0_areSets_14 ?_
        refine lv_aload_n S.1 S.2.1 dX0_areSets_15 rfl (lv_at hl 0 rfl) ?_
        refine aw_callV S hE (c_X0_everybody l G ad n lw (by first | assumption | omega)) gX0_areSets_X0_everybody (n := 0) rfl (by decide +kernel) rfl (by rw [hRm]; exact ⟨Nat.le_of_ble_eq_true rfl, Nat.le_of_ble_eq_true rfl⟩) (by rw [hRm]; exact ⟨Nat.le_of_ble_eq_true rfl, Nat.le_of_ble_eq_true rfl⟩) hw hA hl.1 [0] rfl rfl (aw_recv (i := 0) hE hw rfl rfl rfl) rfl (Nat.le_of_ble_eq_true rfl) dX0_areSets_16 ?_
        rintro v w1 H locs ⟨rfl, rfl⟩ hw
        have hw : bW G A s.heap [[(ad 2, .inr (0, [.ref (ad 8), .ref (ad 9), .ref (ad 10), .ref (ad 11), .ref (ad 12), .int (nI n), .int lw]))], [(b, .inl (gI G, 60, .inl f))]] H locs := hw
        refine W.eq (g2 := (F0 m 19 ls [.int (nI (2 ^ n - 1)), .int (f (i + x))])) rfl ?_
        refine lv_iconst (v := (-1)) S.1 S.2.1 dX0_areSets_19 (by decide) ?_
        refine lv_ixor S.1 S.2.1 dX0_areSets_20 ?_
        refine lv_iand S.1 S.2.1 dX0_areSets_21 ?_
        refine lv_if_eq (tgt := 27) S.1 S.2.1 dX0_areSets_22 (by decide) (fun c22 => ?_) (fun c22 => ?_)
        · refine lv_iinc (v := nI (x + 1)) (lv' := [(4, .int (nI (x + 1))), (0, .ref (ad 2)), (1, .ref b), (2, .int (nI i)), (3, .int (nI nn))]) S.1 S.2.1 dX0_areSets_27 hl (k := 4) rfl (by first | exact nI_1 _ | exact nI_add _ _ | rfl) (by decide) rfl (fun ls hl => ?_)
          refine lv_goto (tgt := 3) S.1 S.2.1 dX0_areSets_30 (by decide) ?_
          exact ih3 (x + 1) (by first | assumption | omega) (lt_s hp (by simpa using c22)) (by omega) _ _ _ (lv_sub hl [1, 2, 3, 4, 0] rfl) hw
        · refine lv_iconst (v := 0) S.1 S.2.1 dX0_areSets_25 (by decide) ?_
          refine aw_eqi (show (0 : Int32) = if fF (fun x => !decide (f (i + x) &&& (nI (2 ^ n - 1) ^^^ (-1)) = 0)) nn = nn then 1 else 0 from (by rw [if_neg]; intro h; have h2 := fF_is (p := fun x => !decide (f (i + x) &&& (nI (2 ^ n - 1) ^^^ (-1)) = 0)) (n := nn) (k := x) (by omega) (by simpa using c22) hp; omega)) ?_
          exact aw_iret S hr hlk ha hQ hAe hw dX0_areSets_26 (aw_nb _) (Nat.le_of_ble_eq_true rfl) (Nat.le_of_ble_eq_true rfl) ⟨rfl, rfl⟩
  exact loop3 _ 0 (by first | assumption | omega) (fun j hj => absurd hj (Nat.not_lt_zero j)) (Nat.lt_succ_self _) _ _ _ (lv_sub hl [1, 2, 3, 4, 0] rfl) hw
set_option maxRecDepth 100000 in
set_option maxHeartbeats 4000000 in
theorem c_X0_meets (l : Launch) (G : aw_G) (ad : Nat → Nat) (n : Nat) (lw : Int32) (so : Nat → Int32) (S_ : Nat) (wn : Int32) (hS : S_ < 64) : CT l G yX0_meets wsX0_meets ({ frames := 0, cells := 0, slots := 0, locals := 0 }) [.ref (ad 2), .int (nI S_), .int wn] [[(ad 2, .inr (0, [.ref (ad 8), .ref (ad 9), .ref (ad 10), .ref (ad 11), .ref (ad 12), .int (nI n), .int lw]))], [(ad 11, .inl (gI G, 64, .inl so))]] (dt (some (.int (if wn &&& (so S_ ^^^ (-1)) = 0 then 1 else 0))) [[(ad 2, .inr (0, [.ref (ad 8), .ref (ad 9), .ref (ad 10), .ref (ad 11), .ref (ad 12), .int (nI n), .int lw]))], [(ad 11, .inl (gI G, 64, .inl so))]]) := by
  refine CT.of (cc := cX0_meets) (nL := 3) (ret := (some .boolean)) (by decide) rfl (Nat.le_of_ble_eq_true rfl) ?_
  intro p e s m below meth c R args Q A hRm ha hQ hAe hA S hE hr hlk hnm H locs hH0 hL0 ls hl hw
  have S : CallFix p m c cX0_meets 3 s args wsX0_meets RX0 := S
  have hl : lv_has ls 3 [(0, .ref (ad 2)), (1, .int (nI S_)), (2, .int wn)] := hl
  have hinX0 : ∀ w ∈ u_ws RX0 TX0 7, w ∈ wsX0_meets := by decide +kernel
  have hf24 := S.2.2.2.2 (.fieldLink RX0 24 "AwakeTurns$Crew" "skillsOfSet" "[I") (by decide +kernel)
  refine lv_iload_n S.1 S.2.1 dX0_meets_0 rfl (lv_at hl 2 rfl) ?_
  refine lv_aload_n S.1 S.2.1 dX0_meets_1 rfl (lv_at hl 0 rfl) ?_
  refine aw_get S hE hw 0 (C := RX0) (T := TX0) (N := 7) rfl rfl hinX0 3 (by decide) hf24 rfl dX0_meets_2 ?_
  refine lv_iload_n S.1 S.2.1 dX0_meets_5 rfl (lv_at hl 1 rfl) ?_
  refine aw_iald S hE hw 1 (k := S_) rfl (by omega) (by decide) dX0_meets_6 ?_
  refine lv_iconst (v := (-1)) S.1 S.2.1 dX0_meets_7 (by decide) ?_
  refine lv_ixor S.1 S.2.1 dX0_meets_8 ?_
  refine lv_iand S.1 S.2.1 dX0_meets_9 ?_
  refine lv_if_ne (tgt := 17) S.1 S.2.1 dX0_meets_10 (by decide) (fun c10 => ?_) (fun c10 => ?_)
  · refine lv_iconst (v := 0) S.1 S.2.1 dX0_meets_17 (by decide) ?_
    refine aw_eqi (show (0 : Int32) = if wn &&& (so S_ ^^^ (-1)) = 0 then 1 else 0 from (by first | rw [if_pos c10] | rw [if_neg c10])) ?_
    exact aw_iret S hr hlk ha hQ hAe hw dX0_meets_18 (aw_nb _) (Nat.le_of_ble_eq_true rfl) (Nat.le_of_ble_eq_true rfl) ⟨rfl, rfl⟩
  · refine lv_iconst (v := 1) S.1 S.2.1 dX0_meets_13 (by decide) ?_
    refine lv_goto (tgt := 18) S.1 S.2.1 dX0_meets_14 (by decide) ?_
    refine aw_eqi (show (1 : Int32) = if wn &&& (so S_ ^^^ (-1)) = 0 then 1 else 0 from (by first | rw [if_pos c10] | rw [if_neg c10])) ?_
    exact aw_iret S hr hlk ha hQ hAe hw dX0_meets_18 (aw_nb _) (Nat.le_of_ble_eq_true rfl) (Nat.le_of_ble_eq_true rfl) ⟨rfl, rfl⟩
set_option maxRecDepth 100000 in
set_option maxHeartbeats 4000000 in
theorem c_X0_tellSetsWith (l : Launch) (G : aw_G) (ad : Nat → Nat) (n : Nat) (cnt lw : Int32) (sg : Nat → Option Nat) (sa : Nat → Nat) (kd sk br : Nat → Int32) (so hs : Nat → Int32) (c_ : Nat) (hn : n ≤ 6) (hc : c_ < n) (hsg : sg c_ = some (sa c_)) : CT l G yX0_tellSetsWith wsX0_tellSetsWith ({ frames := 3, cells := 0, slots := 0, locals := 60 }) [.ref (ad 2), .int (nI c_)] [[(ad 2, .inr (0, [.ref (ad 8), .ref (ad 9), .ref (ad 10), .ref (ad 11), .ref (ad 12), .int cnt, .int lw]))], [(ad 8, .inl (gL G, 6, .inr (.inr (.inr (.inr sg)))))], fam n sa (slE kd sk br), [(ad 11, .inl (gI G, 64, .inl so))], [(ad 12, .inl (gI G, 64, .inl hs))]] (dt none [[(ad 2, .inr (0, [.ref (ad 8), .ref (ad 9), .ref (ad 10), .ref (ad 11), .ref (ad 12), .int cnt, .int lw]))], [(ad 8, .inl (gL G, 6, .inr (.inr (.inr (.inr sg)))))], fam n sa (slE kd sk br), [(ad 11, .inl (gI G, 64, .inl (tsF c_ (2 ^ c_) (sk c_) so)))], [(ad 12, .inl (gI G, 64, .inl (thF c_ (2 ^ c_) (hoK (kd c_)) hs)))]]) := by
  refine CT.of (cc := cX0_tellSetsWith) (nL := 5) (ret := none) (by decide) rfl (Nat.le_of_ble_eq_true rfl) ?_
  intro p e s m below meth c R args Q A hRm ha hQ hAe hA S hE hr hlk hnm H locs hH0 hL0 ls hl hw
  have S : CallFix p m c cX0_tellSetsWith 5 s args wsX0_tellSetsWith RX0 := S
  have hl : lv_has ls 5 [(0, .ref (ad 2)), (1, .int (nI c_))] := hl
  have hinX0 : ∀ w ∈ u_ws RX0 TX0 7, w ∈ wsX0_tellSetsWith := by decide +kernel
  have hf11 := S.2.2.2.2 (.fieldLink RX0 11 "AwakeTurns$Crew" "sleepers" "[LAwakeTurns$Sleeper;") (by decide +kernel)
  have hf24 := S.2.2.2.2 (.fieldLink RX0 24 "AwakeTurns$Crew" "skillsOfSet" "[I") (by decide +kernel)
  have hinX8 : ∀ w ∈ u_ws RX8 TX8 3, w ∈ wsX0_tellSetsWith := by decide +kernel
  have hinX1 : ∀ w ∈ u_ws RX1 TX1 3, w ∈ wsX0_tellSetsWith := by decide +kernel
  have hinX5 : ∀ w ∈ u_ws RX5 TX5 3, w ∈ wsX0_tellSetsWith := by decide +kernel
  have hf53 := S.2.2.2.2 (.fieldLink RX0 53 "AwakeTurns$Sleeper" "skillSet" "I") (by decide +kernel)
  have hf27 := S.2.2.2.2 (.fieldLink RX0 27 "AwakeTurns$Crew" "harmOfSet" "[I") (by decide +kernel)
  have hp6 := pow6 hc hn
  refine lv_iconst (v := 1) S.1 S.2.1 dX0_tellSetsWith_0 (by decide) ?_
  refine lv_iload_n S.1 S.2.1 dX0_tellSetsWith_1 rfl (lv_at hl 1 rfl) ?_
  refine lv_ishl S.1 S.2.1 dX0_tellSetsWith_2 ?_
  refine aw_eqi (show (1 <<< ((nI c_) &&& 31) : Int32) = nI (2 ^ c_) from (nI_bit c_ (by omega))) ?_
  refine lv_istore_n (lv' := [(2, .int (nI (2 ^ c_))), (0, .ref (ad 2)), (1, .int (nI c_))]) S.1 S.2.1 dX0_tellSetsWith_3 rfl hl (by decide) rfl (fun ls hl => ?_)
  refine lv_aload_n S.1 S.2.1 dX0_tellSetsWith_4 rfl (lv_at hl 1 rfl) ?_
  refine aw_get S hE hw 0 (C := RX0) (T := TX0) (N := 7) rfl rfl hinX0 0 (by decide) hf11 rfl dX0_tellSetsWith_5 ?_
  refine lv_iload_n S.1 S.2.1 dX0_tellSetsWith_8 rfl (lv_at hl 2 rfl) ?_
  refine aw_aald_L S hE hw 1 (k := c_) (r := (sa c_)) rfl (by omega) (by decide) hsg dX0_tellSetsWith_9 ?_
  refine lv_astore_n (lv' := [(3, .ref (sa c_)), (2, .int (nI (2 ^ c_))), (0, .ref (ad 2)), (1, .int (nI c_))]) S.1 S.2.1 dX0_tellSetsWith_10 rfl hl (by decide) rfl (fun ls hl => ?_)
  refine lv_iconst (v := 0) S.1 S.2.1 dX0_tellSetsWith_11 (by decide) ?_
  refine lv_istore (lv' := [(4, .int 0), (3, .ref (sa c_)), (2, .int (nI (2 ^ c_))), (0, .ref (ad 2)), (1, .int (nI c_))]) S.1 S.2.1 dX0_tellSetsWith_12 hl (by decide) rfl (fun ls hl => ?_)
  have hw := aw_arr hw 3 rfl (tsF c_ 0 (sk c_) so) (fun _ _ => by rw [tsF_0])
  have hw : bW G A s.heap [[(ad 2, .inr (0, [.ref (ad 8), .ref (ad 9), .ref (ad 10), .ref (ad 11), .ref (ad 12), .int cnt, .int lw]))], [(ad 8, .inl (gL G, 6, .inr (.inr (.inr (.inr sg)))))], fam n sa (slE kd sk br), [(ad 11, .inl (gI G, 64, .inl (tsF c_ 0 (sk c_) so)))], [(ad 12, .inl (gI G, 64, .inl hs))]] H locs := hw
  have hw := aw_arr hw 4 rfl (thF c_ 0 (hoK (kd c_)) hs) (fun _ _ => by rw [thF_0])
  have hw : bW G A s.heap [[(ad 2, .inr (0, [.ref (ad 8), .ref (ad 9), .ref (ad 10), .ref (ad 11), .ref (ad 12), .int cnt, .int lw]))], [(ad 8, .inl (gL G, 6, .inr (.inr (.inr (.inr sg)))))], fam n sa (slE kd sk br), [(ad 11, .inl (gI G, 64, .inl (tsF c_ 0 (sk c_) so)))], [(ad 12, .inl (gI G, 64, .inl (thF c_ 0 (hoK (kd c_)) hs)))]] H locs := hw
  have loop14 : ∀ (fu : Nat) (i : Nat), (i ≤ 2 ^ c_) → (2 ^ c_ - i) < fu → ∀ (ls : Array Slot) (H : Heap) (locs : List Loc), lv_has ls 5 [(0, .ref (ad 2)), (1, .int (nI c_)), (2, .int (nI (2 ^ c_))), (3, .ref (sa c_)), (4, .int (nI i))] → bW G A s.heap [[(ad 2, .inr (0, [.ref (ad 8), .ref (ad 9), .ref (ad 10), .ref (ad 11), .ref (ad 12), .int cnt, .int lw]))], [(ad 8, .inl (gL G, 6, .inr (.inr (.inr (.inr sg)))))], fam n sa (slE kd sk br), [(ad 11, .inl (gI G, 64, .inl (tsF c_ i (sk c_) so)))], [(ad 12, .inl (gI G, 64, .inl (thF c_ i (hoK (kd c_)) hs)))]] H locs → W p l e R s m args below meth c H locs 0 0 Q (F0 m 14 ls []) := by
    intro fu
    induction fu with
    | zero => intro i _ hm; exact absurd hm (Nat.not_lt_zero _)
    | succ fu ih14 =>
      intro i hi hm ls H locs hl hw
      refine lv_iload S.1 S.2.1 dX0_tellSetsWith_14 (lv_at hl 4 rfl) ?_
      refine lv_iload_n S.1 S.2.1 dX0_tellSetsWith_16 rfl (lv_at hl 2 rfl) ?_
      refine aw_icmpN_ge (x := i) (y := 2 ^ c_) (tgt := 68) S (by omega) (by omega) dX0_tellSetsWith_17 (by decide) (fun c17 => ?_) (fun c17 => ?_)
      · have ex_i : i = 2 ^ c_ := by omega
        try rw [ex_i] at hl
        try rw [ex_i] at hw
        exact aw_vret S hr hlk ha hQ hAe hw dX0_tellSetsWith_68 (Nat.le_of_ble_eq_true rfl) (Nat.le_of_ble_eq_true rfl) ⟨rfl, rfl⟩
      · refine lv_aload_n S.1 S.2.1 dX0_tellSetsWith_20 rfl (lv_at hl 0 rfl) ?_
        refine aw_get S hE hw 0 (C := RX0) (T := TX0) (N := 7) rfl rfl hinX0 3 (by decide) hf24 rfl dX0_tellSetsWith_21 ?_
        refine lv_iload_n S.1 S.2.1 dX0_tellSetsWith_24 rfl (lv_at hl 2 rfl) ?_
        refine lv_iload S.1 S.2.1 dX0_tellSetsWith_25 (lv_at hl 4 rfl) ?_
        refine lv_ior S.1 S.2.1 dX0_tellSetsWith_27 ?_
        refine aw_eqi (show ((nI (2 ^ c_)) ||| (nI i) : Int32) = nI (2 ^ c_ + i) from (or_pow (by omega))) ?_
        refine lv_aload_n S.1 S.2.1 dX0_tellSetsWith_28 rfl (lv_at hl 0 rfl) ?_
        refine aw_get S hE hw 0 (C := RX0) (T := TX0) (N := 7) rfl rfl hinX0 3 (by decide) hf24 rfl dX0_tellSetsWith_29 ?_
        refine lv_iload S.1 S.2.1 dX0_tellSetsWith_32 (lv_at hl 4 rfl) ?_
        refine aw_iald S hE hw 3 (k := i) rfl (by omega) (by decide) dX0_tellSetsWith_34 ?_
        refine aw_eqi (show ((tsF c_ i (sk c_) so) i : Int32) = so i from (by unfold tsF; rw [if_neg (by omega)])) ?_
        refine lv_aload_n S.1 S.2.1 dX0_tellSetsWith_35 rfl (lv_at hl 3 rfl) ?_
        refine aw_slget S hE hw 2 (k := c_) rfl (by omega) hinX8 hinX1 hinX5 1 (by decide) hf53 rfl dX0_tellSetsWith_36 ?_
        refine lv_ior S.1 S.2.1 dX0_tellSetsWith_39 ?_
        refine aw_iast S hE hw 3 (k := (2 ^ c_ + i)) rfl (by omega) (by decide) dX0_tellSetsWith_40 (fun H locs hw => ?_)
        have hw : bW G A s.heap [[(ad 2, .inr (0, [.ref (ad 8), .ref (ad 9), .ref (ad 10), .ref (ad 11), .ref (ad 12), .int cnt, .int lw]))], [(ad 8, .inl (gL G, 6, .inr (.inr (.inr (.inr sg)))))], fam n sa (slE kd sk br), [(ad 11, .inl (gI G, 64, .inl (upd (tsF c_ i (sk c_) so) (2 ^ c_ + i) ((so i) ||| (sk c_)))))], [(ad 12, .inl (gI G, 64, .inl (thF c_ i (hoK (kd c_)) hs)))]] H locs := hw
        refine lv_aload_n S.1 S.2.1 dX0_tellSetsWith_41 rfl (lv_at hl 0 rfl) ?_
        refine aw_get S hE hw 0 (C := RX0) (T := TX0) (N := 7) rfl rfl hinX0 4 (by decide) hf27 rfl dX0_tellSetsWith_42 ?_
        refine lv_iload_n S.1 S.2.1 dX0_tellSetsWith_45 rfl (lv_at hl 2 rfl) ?_
        refine lv_iload S.1 S.2.1 dX0_tellSetsWith_46 (lv_at hl 4 rfl) ?_
        refine lv_ior S.1 S.2.1 dX0_tellSetsWith_48 ?_
        refine aw_eqi (show ((nI (2 ^ c_)) ||| (nI i) : Int32) = nI (2 ^ c_ + i) from (or_pow (by omega))) ?_
        refine lv_aload_n S.1 S.2.1 dX0_tellSetsWith_49 rfl (lv_at hl 0 rfl) ?_
        refine aw_get S hE hw 0 (C := RX0) (T := TX0) (N := 7) rfl rfl hinX0 4 (by decide) hf27 rfl dX0_tellSetsWith_50 ?_
        refine lv_iload S.1 S.2.1 dX0_tellSetsWith_53 (lv_at hl 4 rfl) ?_
        refine aw_iald S hE hw 4 (k := i) rfl (by omega) (by decide) dX0_tellSetsWith_55 ?_
        refine aw_eqi (show ((thF c_ i (hoK (kd c_)) hs) i : Int32) = hs i from (by unfold thF; rw [if_neg (by omega)])) ?_
        refine lv_aload_n S.1 S.2.1 dX0_tellSetsWith_56 rfl (lv_at hl 3 rfl) ?_
        have join60 : ∀ (H : Heap) (locs : List Loc), bW G A s.heap [[(ad 2, .inr (0, [.ref (ad 8), .ref (ad 9), .ref (ad 10), .ref (ad 11), .ref (ad 12), .int cnt, .int lw]))], [(ad 8, .inl (gL G, 6, .inr (.inr (.inr (.inr sg)))))], fam n sa (slE kd sk br), [(ad 11, .inl (gI G, 64, .inl (upd (tsF c_ i (sk c_) so) (2 ^ c_ + i) ((so i) ||| (sk c_)))))], [(ad 12, .inl (gI G, 64, .inl (thF c_ i (hoK (kd c_)) hs)))]] H locs → W p l e R s m args below meth c H locs 0 0 Q (F0 m 60 ls [.int (hoK (kd c_)), .int (hs i), .int (nI (2 ^ c_ + i)), .ref (ad 12)]) := by
          intro H locs hw
          refine lv_iadd S.1 S.2.1 dX0_tellSetsWith_60 ?_
          refine aw_iast S hE hw 4 (k := (2 ^ c_ + i)) rfl (by omega) (by decide) dX0_tellSetsWith_61 (fun H locs hw => ?_)
          have hw : bW G A s.heap [[(ad 2, .inr (0, [.ref (ad 8), .ref (ad 9), .ref (ad 10), .ref (ad 11), .ref (ad 12), .int cnt, .int lw]))], [(ad 8, .inl (gL G, 6, .inr (.inr (.inr (.inr sg)))))], fam n sa (slE kd sk br), [(ad 11, .inl (gI G, 64, .inl (upd (tsF c_ i (sk c_) so) (2 ^ c_ + i) ((so i) ||| (sk c_)))))], [(ad 12, .inl (gI G, 64, .inl (upd (thF c_ i (hoK (kd c_)) hs) (2 ^ c_ + i) ((hs i) + (hoK (kd c_))))))]] H locs := hw
          refine lv_iinc (v := nI (i + 1)) (lv' := [(4, .int (nI (i + 1))), (0, .ref (ad 2)), (1, .int (nI c_)), (2, .int (nI (2 ^ c_))), (3, .ref (sa c_))]) S.1 S.2.1 dX0_tellSetsWith_62 hl (k := 4) rfl (by first | exact nI_1 _ | exact nI_add _ _ | rfl) (by decide) rfl (fun ls hl => ?_)
          refine lv_goto (tgt := 14) S.1 S.2.1 dX0_tellSetsWith_65 (by decide) ?_
          have hw := aw_arr hw 3 rfl (tsF c_ (i + 1) (sk c_) so) (fun _ _ => by rw [← tsF_s])
          have hw : bW G A s.heap [[(ad 2, .inr (0, [.ref (ad 8), .ref (ad 9), .ref (ad 10), .ref (ad 11), .ref (ad 12), .int cnt, .int lw]))], [(ad 8, .inl (gL G, 6, .inr (.inr (.inr (.inr sg)))))], fam n sa (slE kd sk br), [(ad 11, .inl (gI G, 64, .inl (tsF c_ (i + 1) (sk c_) so)))], [(ad 12, .inl (gI G, 64, .inl (upd (thF c_ i (hoK (kd c_)) hs) (2 ^ c_ + i) ((hs i) + (hoK (kd c_))))))]] H locs := hw
          have hw := aw_arr hw 4 rfl (thF c_ (i + 1) (hoK (kd c_)) hs) (fun _ _ => by rw [← thF_s])
          have hw : bW G A s.heap [[(ad 2, .inr (0, [.ref (ad 8), .ref (ad 9), .ref (ad 10), .ref (ad 11), .ref (ad 12), .int cnt, .int lw]))], [(ad 8, .inl (gL G, 6, .inr (.inr (.inr (.inr sg)))))], fam n sa (slE kd sk br), [(ad 11, .inl (gI G, 64, .inl (tsF c_ (i + 1) (sk c_) so)))], [(ad 12, .inl (gI G, 64, .inl (thF c_ (i + 1) (hoK (kd c_)) hs)))]] H locs := hw
          exact ih14 (i + 1) (by first | assumption | omega) (by omega) _ _ _ (lv_sub hl [1, 2, 3, 4, 0] rfl) hw
        have hw := aw_out hw 2 rfl c_ (by omega)
        have hw : bW G A s.heap [[(ad 2, .inr (0, [.ref (ad 8), .ref (ad 9), .ref (ad 10), .ref (ad 11), .ref (ad 12), .int cnt, .int lw]))], [(ad 8, .inl (gL G, 6, .inr (.inr (.inr (.inr sg)))))], famX n sa (slE kd sk br) c_, [(ad 11, .inl (gI G, 64, .inl (upd (tsF c_ i (sk c_) so) (2 ^ c_ + i) ((so i) ||| (sk c_)))))], [(ad 12, .inl (gI G, 64, .inl (thF c_ i (hoK (kd c_)) hs)))], [(sa c_, slE kd sk br c_)]] H locs := hw
        rcases slE_cases kd sk br c_ with ⟨hz, ez⟩ | ⟨hz, ez⟩ | ⟨hz, ez⟩
        · rw [ez] at hw
          have hw : bW G A s.heap [[(ad 2, .inr (0, [.ref (ad 8), .ref (ad 9), .ref (ad 10), .ref (ad 11), .ref (ad 12), .int cnt, .int lw]))], [(ad 8, .inl (gL G, 6, .inr (.inr (.inr (.inr sg)))))], famX n sa (slE kd sk br) c_, [(ad 11, .inl (gI G, 64, .inl (upd (tsF c_ i (sk c_) so) (2 ^ c_ + i) ((so i) ||| (sk c_)))))], [(ad 12, .inl (gI G, 64, .inl (thF c_ i (hoK (kd c_)) hs)))], [(sa c_, .inr (8, [.int (nI c_), .int (sk c_), .int (br c_)]))]] H locs := hw
          refine aw_callV S hE (c_X8_harmOnce l G (sa c_)) gX0_tellSetsWith_X8_harmOnce (n := 0) rfl (by decide +kernel) rfl (by rw [hRm]; exact ⟨Nat.le_of_ble_eq_true rfl, Nat.le_of_ble_eq_true rfl⟩) (by rw [hRm]; exact ⟨Nat.le_of_ble_eq_true rfl, Nat.le_of_ble_eq_true rfl⟩) hw hA hl.1 [] rfl rfl (aw_recv (i := 5) hE hw rfl rfl rfl) rfl (Nat.le_of_ble_eq_true rfl) dX0_tellSetsWith_57 ?_
          rintro v w1 H locs ⟨rfl, rfl⟩ hw
          have hw : bW G A s.heap [[(ad 2, .inr (0, [.ref (ad 8), .ref (ad 9), .ref (ad 10), .ref (ad 11), .ref (ad 12), .int cnt, .int lw]))], [(ad 8, .inl (gL G, 6, .inr (.inr (.inr (.inr sg)))))], famX n sa (slE kd sk br) c_, [(ad 11, .inl (gI G, 64, .inl (upd (tsF c_ i (sk c_) so) (2 ^ c_ + i) ((so i) ||| (sk c_)))))], [(ad 12, .inl (gI G, 64, .inl (thF c_ i (hoK (kd c_)) hs)))], [(sa c_, .inr (8, [.int (nI c_), .int (sk c_), .int (br c_)]))]] H locs := hw
          refine W.eq (g2 := (F0 m 60 ls [.int 1, .int (hs i), .int (nI (2 ^ c_ + i)), .ref (ad 12)])) rfl ?_
          refine aw_eqi (show (1 : Int32) = hoK (kd c_) from (by rw [hz]; rfl)) ?_
          rw [show (.inr (8, [.int (nI c_), .int (sk c_), .int (br c_)]) : va_E) = slE kd sk br c_ from ez.symm] at hw
          have hw := aw_inS [[(ad 2, .inr (0, [.ref (ad 8), .ref (ad 9), .ref (ad 10), .ref (ad 11), .ref (ad 12), .int cnt, .int lw]))], [(ad 8, .inl (gL G, 6, .inr (.inr (.inr (.inr sg)))))], famX n sa (slE kd sk br) c_, [(ad 11, .inl (gI G, 64, .inl (upd (tsF c_ i (sk c_) so) (2 ^ c_ + i) ((so i) ||| (sk c_)))))], [(ad 12, .inl (gI G, 64, .inl (thF c_ i (hoK (kd c_)) hs)))]] hw 2 rfl (by omega)
          have hw : bW G A s.heap [[(ad 2, .inr (0, [.ref (ad 8), .ref (ad 9), .ref (ad 10), .ref (ad 11), .ref (ad 12), .int cnt, .int lw]))], [(ad 8, .inl (gL G, 6, .inr (.inr (.inr (.inr sg)))))], fam n sa (slE kd sk br), [(ad 11, .inl (gI G, 64, .inl (upd (tsF c_ i (sk c_) so) (2 ^ c_ + i) ((so i) ||| (sk c_)))))], [(ad 12, .inl (gI G, 64, .inl (thF c_ i (hoK (kd c_)) hs)))]] H locs := hw
          exact join60 _ _ hw
        · rw [ez] at hw
          have hw : bW G A s.heap [[(ad 2, .inr (0, [.ref (ad 8), .ref (ad 9), .ref (ad 10), .ref (ad 11), .ref (ad 12), .int cnt, .int lw]))], [(ad 8, .inl (gL G, 6, .inr (.inr (.inr (.inr sg)))))], famX n sa (slE kd sk br) c_, [(ad 11, .inl (gI G, 64, .inl (upd (tsF c_ i (sk c_) so) (2 ^ c_ + i) ((so i) ||| (sk c_)))))], [(ad 12, .inl (gI G, 64, .inl (thF c_ i (hoK (kd c_)) hs)))], [(sa c_, .inr (1, [.int (nI c_), .int (sk c_), .int (br c_)]))]] H locs := hw
          refine aw_callU (n := 0) S hE (c_X1_harmOnce l G (sa c_) (nI c_) (sk c_) (br c_)) gX0_tellSetsWith_X1_harmOnce_u56X1 rfl (show Cond.code ⟨"AwakeTurns$Sleeper", "harmOnce", "()I"⟩ cX8_harmOnce 1 (some .int) ∈ wsX0_tellSetsWith by decide +kernel) (by decide +kernel) rfl (by rw [hRm]; exact ⟨Nat.le_of_ble_eq_true rfl, Nat.le_of_ble_eq_true rfl⟩) (by rw [hRm]; exact ⟨Nat.le_of_ble_eq_true rfl, Nat.le_of_ble_eq_true rfl⟩) hw hA hl.1 [5] rfl rfl (aw_recv (i := 5) hE hw rfl rfl rfl) rfl (Nat.le_of_ble_eq_true rfl) dX0_tellSetsWith_57 ?_
          rintro v w1 H locs ⟨rfl, rfl⟩ hw
          have hw : bW G A s.heap [[(ad 2, .inr (0, [.ref (ad 8), .ref (ad 9), .ref (ad 10), .ref (ad 11), .ref (ad 12), .int cnt, .int lw]))], [(ad 8, .inl (gL G, 6, .inr (.inr (.inr (.inr sg)))))], famX n sa (slE kd sk br) c_, [(ad 11, .inl (gI G, 64, .inl (upd (tsF c_ i (sk c_) so) (2 ^ c_ + i) ((so i) ||| (sk c_)))))], [(ad 12, .inl (gI G, 64, .inl (thF c_ i (hoK (kd c_)) hs)))], [(sa c_, .inr (1, [.int (nI c_), .int (sk c_), .int (br c_)]))]] H locs := hw
          refine W.eq (g2 := (F0 m 60 ls [.int 2, .int (hs i), .int (nI (2 ^ c_ + i)), .ref (ad 12)])) rfl ?_
          refine aw_eqi (show (2 : Int32) = hoK (kd c_) from (by rw [hz]; rfl)) ?_
          rw [show (.inr (1, [.int (nI c_), .int (sk c_), .int (br c_)]) : va_E) = slE kd sk br c_ from ez.symm] at hw
          have hw := aw_inS [[(ad 2, .inr (0, [.ref (ad 8), .ref (ad 9), .ref (ad 10), .ref (ad 11), .ref (ad 12), .int cnt, .int lw]))], [(ad 8, .inl (gL G, 6, .inr (.inr (.inr (.inr sg)))))], famX n sa (slE kd sk br) c_, [(ad 11, .inl (gI G, 64, .inl (upd (tsF c_ i (sk c_) so) (2 ^ c_ + i) ((so i) ||| (sk c_)))))], [(ad 12, .inl (gI G, 64, .inl (thF c_ i (hoK (kd c_)) hs)))]] hw 2 rfl (by omega)
          have hw : bW G A s.heap [[(ad 2, .inr (0, [.ref (ad 8), .ref (ad 9), .ref (ad 10), .ref (ad 11), .ref (ad 12), .int cnt, .int lw]))], [(ad 8, .inl (gL G, 6, .inr (.inr (.inr (.inr sg)))))], fam n sa (slE kd sk br), [(ad 11, .inl (gI G, 64, .inl (upd (tsF c_ i (sk c_) so) (2 ^ c_ + i) ((so i) ||| (sk c_)))))], [(ad 12, .inl (gI G, 64, .inl (thF c_ i (hoK (kd c_)) hs)))]] H locs := hw
          exact join60 _ _ hw
        · rw [ez] at hw
          have hw : bW G A s.heap [[(ad 2, .inr (0, [.ref (ad 8), .ref (ad 9), .ref (ad 10), .ref (ad 11), .ref (ad 12), .int cnt, .int lw]))], [(ad 8, .inl (gL G, 6, .inr (.inr (.inr (.inr sg)))))], famX n sa (slE kd sk br) c_, [(ad 11, .inl (gI G, 64, .inl (upd (tsF c_ i (sk c_) so) (2 ^ c_ + i) ((so i) ||| (sk c_)))))], [(ad 12, .inl (gI G, 64, .inl (thF c_ i (hoK (kd c_)) hs)))], [(sa c_, .inr (5, [.int (nI c_), .int (sk c_), .int (br c_)]))]] H locs := hw
          refine aw_callU (n := 0) S hE (c_X5_harmOnce l G (sa c_) (nI c_) (sk c_) (br c_)) gX0_tellSetsWith_X5_harmOnce_u56X5 rfl (show Cond.code ⟨"AwakeTurns$Sleeper", "harmOnce", "()I"⟩ cX8_harmOnce 1 (some .int) ∈ wsX0_tellSetsWith by decide +kernel) (by decide +kernel) rfl (by rw [hRm]; exact ⟨Nat.le_of_ble_eq_true rfl, Nat.le_of_ble_eq_true rfl⟩) (by rw [hRm]; exact ⟨Nat.le_of_ble_eq_true rfl, Nat.le_of_ble_eq_true rfl⟩) hw hA hl.1 [5] rfl rfl (aw_recv (i := 5) hE hw rfl rfl rfl) rfl (Nat.le_of_ble_eq_true rfl) dX0_tellSetsWith_57 ?_
          rintro v w1 H locs ⟨rfl, rfl⟩ hw
          have hw : bW G A s.heap [[(ad 2, .inr (0, [.ref (ad 8), .ref (ad 9), .ref (ad 10), .ref (ad 11), .ref (ad 12), .int cnt, .int lw]))], [(ad 8, .inl (gL G, 6, .inr (.inr (.inr (.inr sg)))))], famX n sa (slE kd sk br) c_, [(ad 11, .inl (gI G, 64, .inl (upd (tsF c_ i (sk c_) so) (2 ^ c_ + i) ((so i) ||| (sk c_)))))], [(ad 12, .inl (gI G, 64, .inl (thF c_ i (hoK (kd c_)) hs)))], [(sa c_, .inr (5, [.int (nI c_), .int (sk c_), .int (br c_)]))]] H locs := hw
          refine W.eq (g2 := (F0 m 60 ls [.int 4, .int (hs i), .int (nI (2 ^ c_ + i)), .ref (ad 12)])) rfl ?_
          refine aw_eqi (show (4 : Int32) = hoK (kd c_) from (by rw [hoK, if_neg hz.1, if_neg hz.2])) ?_
          rw [show (.inr (5, [.int (nI c_), .int (sk c_), .int (br c_)]) : va_E) = slE kd sk br c_ from ez.symm] at hw
          have hw := aw_inS [[(ad 2, .inr (0, [.ref (ad 8), .ref (ad 9), .ref (ad 10), .ref (ad 11), .ref (ad 12), .int cnt, .int lw]))], [(ad 8, .inl (gL G, 6, .inr (.inr (.inr (.inr sg)))))], famX n sa (slE kd sk br) c_, [(ad 11, .inl (gI G, 64, .inl (upd (tsF c_ i (sk c_) so) (2 ^ c_ + i) ((so i) ||| (sk c_)))))], [(ad 12, .inl (gI G, 64, .inl (thF c_ i (hoK (kd c_)) hs)))]] hw 2 rfl (by omega)
          have hw : bW G A s.heap [[(ad 2, .inr (0, [.ref (ad 8), .ref (ad 9), .ref (ad 10), .ref (ad 11), .ref (ad 12), .int cnt, .int lw]))], [(ad 8, .inl (gL G, 6, .inr (.inr (.inr (.inr sg)))))], fam n sa (slE kd sk br), [(ad 11, .inl (gI G, 64, .inl (upd (tsF c_ i (sk c_) so) (2 ^ c_ + i) ((so i) ||| (sk c_)))))], [(ad 12, .inl (gI G, 64, .inl (thF c_ i (hoK (kd c_)) hs)))]] H locs := hw
          exact join60 _ _ hw
  exact loop14 _ 0 (Nat.zero_le _) (Nat.lt_succ_self _) _ _ _ (lv_sub hl [3, 4, 2, 1, 0] rfl) hw
