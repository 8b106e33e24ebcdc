/-! what each call answers -/
def f_of (n : Nat) (kd sk br : Nat → Int32) (sv wt : Int32) : Int32 := if 0 ≤ sv.toInt ∧ sv.toInt < n then (if wt = 0 then kd (tn sv) else if wt = 1 then sk (tn sv) else if wt = 2 then br (tn sv) else if wt = 3 then hoK (kd (tn sv)) else -2) else -1
def f_upV (t : Int32) (s : Nat) (is_ : Bool) : Int32 := if is_ = true then t ||| (1 <<< (nI s &&& 31)) else t &&& ((1 <<< (nI s &&& 31)) ^^^ (-1))
def f_up (n : Nat) (tu : Nat → Int32) (sv mo : Int32) (is_ : Bool) : Int32 := if 0 ≤ sv.toInt ∧ sv.toInt < n then (if 0 ≤ mo.toInt ∧ mo.toInt < 12 then (if bt (tu (tn mo)) (tn sv) = is_ then 0 else 1) else -2) else -1
def f_upT (n : Nat) (tu : Nat → Int32) (sv mo : Int32) (is_ : Bool) : Nat → Int32 := if (0 ≤ sv.toInt ∧ sv.toInt < n) ∧ (0 ≤ mo.toInt ∧ mo.toInt < 12) then upd tu (tn mo) (f_upV (tu (tn mo)) (tn sv) is_) else tu
theorem upV_same {t : Int32} {s : Nat} (hs : s < 32) {is_ : Bool} : t = f_upV t s is_ ↔ bt t s = is_ := by
  unfold f_upV
  cases is_ with
  | true =>
    rw [if_pos rfl]
    constructor
    · intro h
      rw [h, b_or, b_bit hs hs]
      simp
    · intro h
      apply b_ext
      intro i hi
      rw [b_or, b_bit hs hi]
      by_cases e : i = s
      · subst e; simp [h]
      · simp [e]
  | false =>
    rw [if_neg (by decide)]
    constructor
    · intro h
      rw [h, b_and, b_not _ hs, b_bit hs hs]
      simp
    · intro h
      apply b_ext
      intro i hi
      rw [b_and, b_not _ hi, b_bit hs hi]
      by_cases e : i = s
      · subst e; simp [h]
      · simp [e]
def f_wants (n : Nat) (wa : Nat → Int32) (mo sv : Int32) : Int32 := if (0 ≤ mo.toInt ∧ mo.toInt < 12) ∧ 0 ≤ sv.toInt ∧ sv.toInt ≤ 7 then (if n = 0 then -3 else wa (tn mo)) else -2
def f_wantsT (n : Nat) (wa : Nat → Int32) (mo sv : Int32) : Nat → Int32 := if (0 ≤ mo.toInt ∧ mo.toInt < 12) ∧ (0 ≤ sv.toInt ∧ sv.toInt ≤ 7) ∧ ¬ n = 0 then upd wa (tn mo) sv else wa
def f_law (n : Nat) (lw v : Int32) : Int32 := if v = 0 ∨ v = 1 then (if n = 0 then -3 else lw) else -2
def f_lawT (n : Nat) (lw v : Int32) : Int32 := if (v = 0 ∨ v = 1) ∧ ¬ n = 0 then v else lw
def f_noteP (n : Nat) (a b : Int32) : Prop := ((0 ≤ a.toInt ∧ a.toInt < n) ∧ 0 ≤ b.toInt ∧ b.toInt < n) ∧ ¬ a = b
def f_tear (nn : Nat) (k : Int32) : Int32 := if 0 ≤ k.toInt ∧ k.toInt ≤ nn then nI (nn - tn k) else -2
def f_tearT (nn : Nat) (k : Int32) : Nat := if 0 ≤ k.toInt ∧ k.toInt ≤ nn then nn - tn k else nn
def f_awake (n : Nat) (tu : Nat → Int32) (mo : Int32) : Int32 := if 0 ≤ mo.toInt ∧ mo.toInt < 12 then (if n = 0 then -3 else tu (tn mo)) else -2
/-- of a sleeper in a month -/
def f_sm (n : Nat) (sv mo : Int32) (v : Int32) : Int32 := if 0 ≤ sv.toInt ∧ sv.toInt < n then (if 0 ≤ mo.toInt ∧ mo.toInt < 12 then v else -2) else -1
/-- of a month, of a ship -/
def f_ms (n : Nat) (mo : Int32) (v : Int32) : Int32 := if 0 ≤ mo.toInt ∧ mo.toInt < 12 then (if n = 0 then -3 else v) else -2
def f_wrong (n : Nat) (lw : Int32) (sk ho br tu wa : Nat → Int32) (wt : Int32) : Int32 := if 0 ≤ wt.toInt ∧ wt.toInt ≤ 2 then (if n = 0 then -3 else if wt = 0 then noI (fwF n lw sk ho br tu wa 12 true false) 12 else if wt = 1 then noI (fwF n lw sk ho br tu wa 12 false true) 12 else spF n br (hB n ho tu (min (fwF n lw sk ho br tu wa 12 false true + 1) 12))) else -2
/-- the tables of the sets, as they must be -/
def soC (n : Nat) (sk : Nat → Int32) (S : Nat) : Int32 := tgF (nI S) sk n
def hmF (set : Int32) (ho : Nat → Int32) : Nat → Int32
  | 0 => 0
  | s + 1 => if bt set s = true then hmF set ho s + ho s else hmF set ho s
def hsC (n : Nat) (ho : Nat → Int32) (S : Nat) : Int32 := hmF (nI S) ho n
theorem cvO_cong {p q : Nat → Bool} : ∀ {n : Nat}, (∀ S, S < n → p S = q S) → cvO p n = cvO q n
  | 0, _ => rfl
  | n + 1, h => by
    unfold cvO
    rw [cvO_cong (fun S hS => h S (by omega)), h n (by omega)]
def f_cover (n : Nat) (sk : Nat → Int32) (wn : Int32) : Int32 := cvI (cvO (mtP (soC n sk) wn) (2 ^ n))
def f_rsX (n : Nat) (sk ho wa : Nat → Int32) (m : Nat) : Nat → Int32 := prow n (soC n sk) (hsC n ho) wa (12 - m)
def f_leastV (h mo u : Int32) : Int32 := if h = -9 ∨ mo = -1 then h else u
def f_least (n : Nat) (sk ho wa : Nat → Int32) (mo : Int32) : Int32 := if mo = -1 ∨ (0 ≤ mo.toInt ∧ mo.toInt < 12) then (if n = 0 then -3 else f_leastV (if prow n (soC n sk) (hsC n ho) wa 12 0 < 1048576 then prow n (soC n sk) (hsC n ho) wa 12 0 else -9) mo (nI (wuN n (soC n sk) (hsC n ho) wa (f_rsX n sk ho wa) (tn mo + 1)))) else -2
def f_tell (n : Nat) (kd br : Nat → Int32) (sv : Int32) : Int32 := if 0 ≤ sv.toInt ∧ sv.toInt < n then (if kd (tn sv) = 0 then br (tn sv) else if kd (tn sv) = 1 then br (tn sv) + 100 else br (tn sv) + 100 + br (tn sv)) else -1
def f_tellT (n : Nat) (kd : Nat → Int32) (tr sv : Int32) : Int32 := if 0 ≤ sv.toInt ∧ sv.toInt < n then (if kd (tn sv) = 0 then 31 * tr + 1 else if kd (tn sv) = 1 then 31 * (31 * tr + 2) + 1 else 31 * (31 * (31 * (31 * tr + 3) + 2) + 1) + 1) else tr
def f_greet (n : Nat) (kd : Nat → Int32) (sv : Int32) : Int32 := if 0 ≤ sv.toInt ∧ sv.toInt < n then (if kd (tn sv) = 0 ∨ kd (tn sv) = 1 then nI (tn sv) else 60) else -1
def f_greetT (n : Nat) (kd : Nat → Int32) (tr sv : Int32) : Int32 := if 0 ≤ sv.toInt ∧ sv.toInt < n then (if kd (tn sv) = 0 ∨ kd (tn sv) = 1 then 31 * tr + 4 else 31 * tr + 5) else tr
def f_as (n : Nat) (kd : Nat → Int32) (sv ki : Int32) : Int32 := if 0 ≤ sv.toInt ∧ sv.toInt < n then (if 0 ≤ ki.toInt ∧ ki.toInt < 3 then (if ki.toInt ≤ (kd (tn sv)).toInt then 1 else -12) else -2) else -1
def f_asT (n : Nat) (kd : Nat → Int32) (sv ki : Int32) : Int32 := if (0 ≤ sv.toInt ∧ sv.toInt < n) ∧ (0 ≤ ki.toInt ∧ ki.toInt < 3) ∧ ¬ ki.toInt ≤ (kd (tn sv)).toInt then 2 else 0
def f_many (n nn nr : Nat) (lw wt : Int32) : Int32 := if wt = 0 then nI n else if wt = 1 then nI nn else if wt = 2 then nI nr else if wt = 3 then lw else -2
set_option maxRecDepth 100000 in
set_option maxHeartbeats 4000000 in
theorem c_X10_refused (l : Launch) (G : aw_G) (ad : Nat → Nat) (fl : Int32) (an : Int32)  : CT l G yX10_refused wsX10_refused ({ frames := 0, cells := 0, slots := 0, locals := 0 }) [.ref (ad 0), .int an] [[(ad 0, .inr (9, [.ref (ad 1), .ref (ad 2), .ref (ad 3), .ref (ad 4), .ref (ad 5), .ref (ad 6), .ref (ad 7), .int fl]))]] (dt (some (.int an)) [[(ad 0, .inr (9, [.ref (ad 1), .ref (ad 2), .ref (ad 3), .ref (ad 4), .ref (ad 5), .ref (ad 6), .ref (ad 7), .int 0]))]]) := by
  refine CT.of (cc := cX10_refused) (nL := 2) (ret := (some .int)) (by decide) rfl (Nat.le_of_ble_eq_true rfl) ?_
  intro p e s m below meth c R args Q A hRm ha hQ hAe hA S hE hr hlk hnm H locs hH0 hL0 ls hl hw
  have S : CallFix p m c cX10_refused 2 s args wsX10_refused RX10 := S
  have hl : lv_has ls 2 [(0, .ref (ad 0)), (1, .int an)] := hl
  have hinX10 : ∀ w ∈ u_ws RX10 TX10 8, w ∈ wsX10_refused := by decide +kernel
  have hf59 := S.2.2.2.2 (.fieldLink RX10 59 "AwakeTurns" "lastFault" "I") (by decide +kernel)
  refine lv_aload_n S.1 S.2.1 dX10_refused_0 rfl (lv_at hl 0 rfl) ?_
  refine lv_iconst (v := 0) S.1 S.2.1 dX10_refused_1 (by decide) ?_
  refine aw_putf S hE hw 0 (C := RX10) (T := TX10) (N := 8) rfl rfl hinX10 tyX10 tyX10_ok nmX10 7 (by decide) hf59 rfl rfl rfl (Nat.le_of_ble_eq_true rfl) dX10_refused_2 (fun H locs hw => ?_)
  have hw : bW G A s.heap [[(ad 0, .inr (9, [.ref (ad 1), .ref (ad 2), .ref (ad 3), .ref (ad 4), .ref (ad 5), .ref (ad 6), .ref (ad 7), .int 0]))]] H locs := hw
  refine lv_iload_n S.1 S.2.1 dX10_refused_5 rfl (lv_at hl 1 rfl) ?_
  exact aw_iret S hr hlk ha hQ hAe hw dX10_refused_6 rfl (Nat.le_of_ble_eq_true rfl) (Nat.le_of_ble_eq_true rfl) ⟨rfl, rfl⟩
set_option maxRecDepth 100000 in
set_option maxHeartbeats 4000000 in
theorem c_X10_failed (l : Launch) (G : aw_G) (ad : Nat → Nat) (fl : Int32) (fa : Int32)  : CT l G yX10_failed wsX10_failed ({ frames := 0, cells := 0, slots := 0, locals := 0 }) [.ref (ad 0), .int fa] [[(ad 0, .inr (9, [.ref (ad 1), .ref (ad 2), .ref (ad 3), .ref (ad 4), .ref (ad 5), .ref (ad 6), .ref (ad 7), .int fl]))]] (dt (some (.int (-10 - fa))) [[(ad 0, .inr (9, [.ref (ad 1), .ref (ad 2), .ref (ad 3), .ref (ad 4), .ref (ad 5), .ref (ad 6), .ref (ad 7), .int fa]))]]) := by
  refine CT.of (cc := cX10_failed) (nL := 2) (ret := (some .int)) (by decide) rfl (Nat.le_of_ble_eq_true rfl) ?_
  intro p e s m below meth c R args Q A hRm ha hQ hAe hA S hE hr hlk hnm H locs hH0 hL0 ls hl hw
  have S : CallFix p m c cX10_failed 2 s args wsX10_failed RX10 := S
  have hl : lv_has ls 2 [(0, .ref (ad 0)), (1, .int fa)] := hl
  have hinX10 : ∀ w ∈ u_ws RX10 TX10 8, w ∈ wsX10_failed := by decide +kernel
  have hf59 := S.2.2.2.2 (.fieldLink RX10 59 "AwakeTurns" "lastFault" "I") (by decide +kernel)
  refine lv_aload_n S.1 S.2.1 dX10_failed_0 rfl (lv_at hl 0 rfl) ?_
  refine lv_iload_n S.1 S.2.1 dX10_failed_1 rfl (lv_at hl 1 rfl) ?_
  refine aw_putf S hE hw 0 (C := RX10) (T := TX10) (N := 8) rfl rfl hinX10 tyX10 tyX10_ok nmX10 7 (by decide) hf59 rfl rfl rfl (Nat.le_of_ble_eq_true rfl) dX10_failed_2 (fun H locs hw => ?_)
  have hw : bW G A s.heap [[(ad 0, .inr (9, [.ref (ad 1), .ref (ad 2), .ref (ad 3), .ref (ad 4), .ref (ad 5), .ref (ad 6), .ref (ad 7), .int fa]))]] H locs := hw
  refine lv_bipush (v := (-10)) S.1 S.2.1 dX10_failed_5 (by decide) ?_
  refine lv_iload_n S.1 S.2.1 dX10_failed_7 rfl (lv_at hl 1 rfl) ?_
  refine lv_isub S.1 S.2.1 dX10_failed_8 ?_
  refine aw_eqi (show ((-10) - fa : Int32) = -10 - fa from rfl) ?_
  exact aw_iret S hr hlk ha hQ hAe hw dX10_failed_9 rfl (Nat.le_of_ble_eq_true rfl) (Nat.le_of_ble_eq_true rfl) ⟨rfl, rfl⟩
set_option maxRecDepth 100000 in
set_option maxHeartbeats 4000000 in
theorem c_X10_noShip (l : Launch) (G : aw_G) (ad : Nat → Nat) (fl : Int32) (n : Nat) (lw : Int32) (hn : n ≤ 6) : CT l G yX10_noShip wsX10_noShip ({ frames := 0, cells := 0, slots := 0, locals := 0 }) [.ref (ad 0)] [[(ad 0, .inr (9, [.ref (ad 1), .ref (ad 2), .ref (ad 3), .ref (ad 4), .ref (ad 5), .ref (ad 6), .ref (ad 7), .int fl]))], [(ad 2, .inr (0, [.ref (ad 8), .ref (ad 9), .ref (ad 10), .ref (ad 11), .ref (ad 12), .int (nI n), .int lw]))]] (dt (some (.int (if n = 0 then 1 else 0))) [[(ad 0, .inr (9, [.ref (ad 1), .ref (ad 2), .ref (ad 3), .ref (ad 4), .ref (ad 5), .ref (ad 6), .ref (ad 7), .int fl]))], [(ad 2, .inr (0, [.ref (ad 8), .ref (ad 9), .ref (ad 10), .ref (ad 11), .ref (ad 12), .int (nI n), .int lw]))]]) := by
  refine CT.of (cc := cX10_noShip) (nL := 1) (ret := (some .boolean)) (by decide) rfl (Nat.le_of_ble_eq_true rfl) ?_
  intro p e s m below meth c R args Q A hRm ha hQ hAe hA S hE hr hlk hnm H locs hH0 hL0 ls hl hw
  have S : CallFix p m c cX10_noShip 1 s args wsX10_noShip RX10 := S
  have hl : lv_has ls 1 [(0, .ref (ad 0))] := hl
  have hinX10 : ∀ w ∈ u_ws RX10 TX10 8, w ∈ wsX10_noShip := by decide +kernel
  have hf21 := S.2.2.2.2 (.fieldLink RX10 21 "AwakeTurns" "crew" "LAwakeTurns$Crew;") (by decide +kernel)
  have hinX0 : ∀ w ∈ u_ws RX0 TX0 7, w ∈ wsX10_noShip := by decide +kernel
  have hf98 := S.2.2.2.2 (.fieldLink RX10 98 "AwakeTurns$Crew" "count" "I") (by decide +kernel)
  refine lv_aload_n S.1 S.2.1 dX10_noShip_0 rfl (lv_at hl 0 rfl) ?_
  refine aw_get S hE hw 0 (C := RX10) (T := TX10) (N := 8) rfl rfl hinX10 1 (by decide) hf21 rfl dX10_noShip_1 ?_
  refine aw_get S hE hw 1 (C := RX0) (T := TX0) (N := 7) rfl rfl hinX0 5 (by decide) hf98 rfl dX10_noShip_4 ?_
  refine aw_ifN_ne (x := n) (tgt := 14) S (by omega) dX10_noShip_7 (by decide) (fun c7 => ?_) (fun c7 => ?_)
  · refine lv_iconst (v := 0) S.1 S.2.1 dX10_noShip_14 (by decide) ?_
    refine aw_eqi (show (0 : Int32) = if n = 0 then 1 else 0 from (by first | rw [if_pos c7] | rw [if_neg c7])) ?_
    exact aw_iret S hr hlk ha hQ hAe hw dX10_noShip_15 (aw_nb _) (Nat.le_of_ble_eq_true rfl) (Nat.le_of_ble_eq_true rfl) ⟨rfl, rfl⟩
  · refine lv_iconst (v := 1) S.1 S.2.1 dX10_noShip_10 (by decide) ?_
    refine lv_goto (tgt := 15) S.1 S.2.1 dX10_noShip_11 (by decide) ?_
    refine aw_eqi (show (1 : Int32) = if n = 0 then 1 else 0 from (by first | rw [if_pos c7] | rw [if_neg c7])) ?_
    exact aw_iret S hr hlk ha hQ hAe hw dX10_noShip_15 (aw_nb _) (Nat.le_of_ble_eq_true rfl) (Nat.le_of_ble_eq_true rfl) ⟨rfl, rfl⟩
set_option maxRecDepth 100000 in
set_option maxHeartbeats 4000000 in
theorem c_X10_ofSleeper (l : Launch) (G : aw_G) (ad : Nat → Nat) (fl : Int32) (n : Nat) (lw : Int32) (sg : Nat → Option Nat) (sa : Nat → Nat) (kd sk br : Nat → Int32) (sv wt : Int32) (hn : n ≤ 6) (hsg : ∀ i, i < n → sg i = some (sa i)) (hkd : ∀ i, i < n → kd i = 0 ∨ kd i = 1 ∨ kd i = 2) : CT l G yX10_ofSleeper wsX10_ofSleeper ({ frames := 3, cells := 0, slots := 0, locals := 60 }) [.ref (ad 0), .int sv, .int wt] [[(ad 0, .inr (9, [.ref (ad 1), .ref (ad 2), .ref (ad 3), .ref (ad 4), .ref (ad 5), .ref (ad 6), .ref (ad 7), .int fl]))], [(ad 2, .inr (0, [.ref (ad 8), .ref (ad 9), .ref (ad 10), .ref (ad 11), .ref (ad 12), .int (nI n), .int lw]))], [(ad 8, .inl (gL G, 6, .inr (.inr (.inr (.inr sg)))))], fam n sa (slE kd sk br)] (dt (some (.int (f_of n kd sk br sv wt))) [[(ad 0, .inr (9, [.ref (ad 1), .ref (ad 2), .ref (ad 3), .ref (ad 4), .ref (ad 5), .ref (ad 6), .ref (ad 7), .int fl]))], [(ad 2, .inr (0, [.ref (ad 8), .ref (ad 9), .ref (ad 10), .ref (ad 11), .ref (ad 12), .int (nI n), .int lw]))], [(ad 8, .inl (gL G, 6, .inr (.inr (.inr (.inr sg)))))], fam n sa (slE kd sk br)]) := by
  refine CT.of (cc := cX10_ofSleeper) (nL := 4) (ret := (some .int)) (by decide) rfl (Nat.le_of_ble_eq_true rfl) ?_
  intro p e s m below meth c R args Q A hRm ha hQ hAe hA S hE hr hlk hnm H locs hH0 hL0 ls hl hw
  have S : CallFix p m c cX10_ofSleeper 4 s args wsX10_ofSleeper RX10 := S
  have hl : lv_has ls 4 [(0, .ref (ad 0)), (1, .int sv), (2, .int wt)] := hl
  have hinX10 : ∀ w ∈ u_ws RX10 TX10 8, w ∈ wsX10_ofSleeper := by decide +kernel
  have hf21 := S.2.2.2.2 (.fieldLink RX10 21 "AwakeTurns" "crew" "LAwakeTurns$Crew;") (by decide +kernel)
  have hinX8 : ∀ w ∈ u_ws RX8 TX8 3, w ∈ wsX10_ofSleeper := by decide +kernel
  have hinX1 : ∀ w ∈ u_ws RX1 TX1 3, w ∈ wsX10_ofSleeper := by decide +kernel
  have hinX5 : ∀ w ∈ u_ws RX5 TX5 3, w ∈ wsX10_ofSleeper := by decide +kernel
  have hf111 := S.2.2.2.2 (.fieldLink RX10 111 "AwakeTurns$Sleeper" "skillSet" "I") (by decide +kernel)
  have hf114 := S.2.2.2.2 (.fieldLink RX10 114 "AwakeTurns$Sleeper" "bears" "I") (by decide +kernel)
  by_cases hz_s : 0 ≤ sv.toInt ∧ sv.toInt < n
  · have hb_sv : tn sv < n := aw_tnL hz_s
    have hl := Eq.mp (congrArg (fun z_ : Int32 => lv_has ls 4 [(0, .ref (ad 0)), (1, .int z_), (2, .int wt)]) (show (sv : Int32) = nI (tn sv) from (aw_tnE hz_s))) hl
    have hl : lv_has ls 4 [(0, .ref (ad 0)), (1, .int (nI (tn sv))), (2, .int wt)] := hl
    refine lv_aload_n S.1 S.2.1 dX10_ofSleeper_0 rfl (lv_at hl 0 rfl) ?_
    refine aw_get S hE hw 0 (C := RX10) (T := TX10) (N := 8) rfl rfl hinX10 1 (by decide) hf21 rfl dX10_ofSleeper_1 ?_
    refine lv_iload_n S.1 S.2.1 dX10_ofSleeper_4 rfl (lv_at hl 1 rfl) ?_
    refine aw_callV S hE (c_X0_at_in l G ad n lw sg sa (tn sv) (by first | assumption | omega) hb_sv (by first | assumption | omega)) gX10_ofSleeper_X0_at (n := 1) rfl (by decide +kernel) rfl (by rw [hRm]; exact ⟨Nat.le_of_ble_eq_true rfl, Nat.le_of_ble_eq_true rfl⟩) (by rw [hRm]; exact ⟨Nat.le_of_ble_eq_true rfl, Nat.le_of_ble_eq_true rfl⟩) hw hA hl.1 [1, 2] rfl rfl (aw_recv (i := 1) hE hw rfl rfl rfl) rfl (Nat.le_of_ble_eq_true rfl) dX10_ofSleeper_5 ?_
    rintro v w1 H locs ⟨rfl, rfl⟩ hw
    have hw : bW G A s.heap [[(ad 0, .inr (9, [.ref (ad 1), .ref (ad 2), .ref (ad 3), .ref (ad 4), .ref (ad 5), .ref (ad 6), .ref (ad 7), .int fl]))], [(ad 2, .inr (0, [.ref (ad 8), .ref (ad 9), .ref (ad 10), .ref (ad 11), .ref (ad 12), .int (nI n), .int lw]))], [(ad 8, .inl (gL G, 6, .inr (.inr (.inr (.inr sg)))))], fam n sa (slE kd sk br)] H locs := hw
    refine W.eq (g2 := (F0 m 8 ls [.ref (sa (tn sv))])) rfl ?_
    refine lv_astore_n (lv' := [(3, .ref (sa (tn sv))), (0, .ref (ad 0)), (1, .int (nI (tn sv))), (2, .int wt)]) S.1 S.2.1 dX10_ofSleeper_8 rfl hl (by decide) rfl (fun ls hl => ?_)
    refine lv_aload_n S.1 S.2.1 dX10_ofSleeper_9 rfl (lv_at hl 0 rfl) ?_
    refine lv_ifnonnull (tgt := 15) S.1 S.2.1 dX10_ofSleeper_10 (by decide) ?_
    refine lv_iload_n S.1 S.2.1 dX10_ofSleeper_15 rfl (lv_at hl 3 rfl) ?_
    by_cases c16_0 : wt = 0
    · refine lv_tableIn (off := 32) (tgt := 48) S.1 S.2.1 dX10_ofSleeper_16 (by rw [c16_0]; decide) (by rw [c16_0]; decide) (by rw [c16_0]; rfl) (by decide) ?_
      refine lv_aload_n S.1 S.2.1 dX10_ofSleeper_48 rfl (lv_at hl 0 rfl) ?_
      have join52 : ∀ (H : Heap) (locs : List Loc), bW G A s.heap [[(ad 0, .inr (9, [.ref (ad 1), .ref (ad 2), .ref (ad 3), .ref (ad 4), .ref (ad 5), .ref (ad 6), .ref (ad 7), .int fl]))], [(ad 2, .inr (0, [.ref (ad 8), .ref (ad 9), .ref (ad 10), .ref (ad 11), .ref (ad 12), .int (nI n), .int lw]))], [(ad 8, .inl (gL G, 6, .inr (.inr (.inr (.inr sg)))))], fam n sa (slE kd sk br)] H locs → W p l e R s m args below meth c H locs 0 0 Q (F0 m 52 ls [.int (kd (tn sv))]) := by
        intro H locs hw
        refine aw_eqi (show (kd (tn sv) : Int32) = f_of n kd sk br sv wt from (by simp [f_of, hz_s, c16_0])) ?_
        exact aw_iret S hr hlk ha hQ hAe hw dX10_ofSleeper_52 rfl (Nat.le_of_ble_eq_true rfl) (Nat.le_of_ble_eq_true rfl) ⟨rfl, rfl⟩
      have hw := aw_out hw 3 rfl (tn sv) (by omega)
      have hw : bW G A s.heap [[(ad 0, .inr (9, [.ref (ad 1), .ref (ad 2), .ref (ad 3), .ref (ad 4), .ref (ad 5), .ref (ad 6), .ref (ad 7), .int fl]))], [(ad 2, .inr (0, [.ref (ad 8), .ref (ad 9), .ref (ad 10), .ref (ad 11), .ref (ad 12), .int (nI n), .int lw]))], [(ad 8, .inl (gL G, 6, .inr (.inr (.inr (.inr sg)))))], famX n sa (slE kd sk br) (tn sv), [(sa (tn sv), slE kd sk br (tn sv))]] H locs := hw
      rcases slE_cases kd sk br (tn sv) with ⟨hz, ez⟩ | ⟨hz, ez⟩ | ⟨hz, ez⟩
      · rw [ez] at hw
        have hw : bW G A s.heap [[(ad 0, .inr (9, [.ref (ad 1), .ref (ad 2), .ref (ad 3), .ref (ad 4), .ref (ad 5), .ref (ad 6), .ref (ad 7), .int fl]))], [(ad 2, .inr (0, [.ref (ad 8), .ref (ad 9), .ref (ad 10), .ref (ad 11), .ref (ad 12), .int (nI n), .int lw]))], [(ad 8, .inl (gL G, 6, .inr (.inr (.inr (.inr sg)))))], famX n sa (slE kd sk br) (tn sv), [(sa (tn sv), .inr (8, [.int (nI (tn sv)), .int (sk (tn sv)), .int (br (tn sv))]))]] H locs := hw
        refine aw_callV S hE (c_X8_kindNumber l G (sa (tn sv))) gX10_ofSleeper_X8_kindNumber (n := 0) rfl (by decide +kernel) rfl (by rw [hRm]; exact ⟨Nat.le_of_ble_eq_true rfl, Nat.le_of_ble_eq_true rfl⟩) (by rw [hRm]; exact ⟨Nat.le_of_ble_eq_true rfl, Nat.le_of_ble_eq_true rfl⟩) hw hA hl.1 [] rfl rfl (aw_recv (i := 4) hE hw rfl rfl rfl) rfl (Nat.le_of_ble_eq_true rfl) dX10_ofSleeper_49 ?_
        rintro v w1 H locs ⟨rfl, rfl⟩ hw
        have hw : bW G A s.heap [[(ad 0, .inr (9, [.ref (ad 1), .ref (ad 2), .ref (ad 3), .ref (ad 4), .ref (ad 5), .ref (ad 6), .ref (ad 7), .int fl]))], [(ad 2, .inr (0, [.ref (ad 8), .ref (ad 9), .ref (ad 10), .ref (ad 11), .ref (ad 12), .int (nI n), .int lw]))], [(ad 8, .inl (gL G, 6, .inr (.inr (.inr (.inr sg)))))], famX n sa (slE kd sk br) (tn sv), [(sa (tn sv), .inr (8, [.int (nI (tn sv)), .int (sk (tn sv)), .int (br (tn sv))]))]] H locs := hw
        refine W.eq (g2 := (F0 m 52 ls [.int 0])) rfl ?_
        refine aw_eqi (show (0 : Int32) = kd (tn sv) from hz.symm) ?_
        rw [show (.inr (8, [.int (nI (tn sv)), .int (sk (tn sv)), .int (br (tn sv))]) : va_E) = slE kd sk br (tn sv) from ez.symm] at hw
        have hw := aw_inS [[(ad 0, .inr (9, [.ref (ad 1), .ref (ad 2), .ref (ad 3), .ref (ad 4), .ref (ad 5), .ref (ad 6), .ref (ad 7), .int fl]))], [(ad 2, .inr (0, [.ref (ad 8), .ref (ad 9), .ref (ad 10), .ref (ad 11), .ref (ad 12), .int (nI n), .int lw]))], [(ad 8, .inl (gL G, 6, .inr (.inr (.inr (.inr sg)))))], famX n sa (slE kd sk br) (tn sv)] hw 3 rfl (by omega)
        have hw : bW G A s.heap [[(ad 0, .inr (9, [.ref (ad 1), .ref (ad 2), .ref (ad 3), .ref (ad 4), .ref (ad 5), .ref (ad 6), .ref (ad 7), .int fl]))], [(ad 2, .inr (0, [.ref (ad 8), .ref (ad 9), .ref (ad 10), .ref (ad 11), .ref (ad 12), .int (nI n), .int lw]))], [(ad 8, .inl (gL G, 6, .inr (.inr (.inr (.inr sg)))))], fam n sa (slE kd sk br)] H locs := hw
        exact join52 _ _ hw
      · rw [ez] at hw
        have hw : bW G A s.heap [[(ad 0, .inr (9, [.ref (ad 1), .ref (ad 2), .ref (ad 3), .ref (ad 4), .ref (ad 5), .ref (ad 6), .ref (ad 7), .int fl]))], [(ad 2, .inr (0, [.ref (ad 8), .ref (ad 9), .ref (ad 10), .ref (ad 11), .ref (ad 12), .int (nI n), .int lw]))], [(ad 8, .inl (gL G, 6, .inr (.inr (.inr (.inr sg)))))], famX n sa (slE kd sk br) (tn sv), [(sa (tn sv), .inr (1, [.int (nI (tn sv)), .int (sk (tn sv)), .int (br (tn sv))]))]] H locs := hw
        refine aw_callU (n := 0) S hE (c_X1_kindNumber l G (sa (tn sv))) gX10_ofSleeper_X1_kindNumber_u105X1 rfl (show Cond.code ⟨"AwakeTurns$Sleeper", "kindNumber", "()I"⟩ cX8_kindNumber 1 (some .int) ∈ wsX10_ofSleeper by decide +kernel) (by decide +kernel) rfl (by rw [hRm]; exact ⟨Nat.le_of_ble_eq_true rfl, Nat.le_of_ble_eq_true rfl⟩) (by rw [hRm]; exact ⟨Nat.le_of_ble_eq_true rfl, Nat.le_of_ble_eq_true rfl⟩) hw hA hl.1 [] rfl rfl (aw_recv (i := 4) hE hw rfl rfl rfl) rfl (Nat.le_of_ble_eq_true rfl) dX10_ofSleeper_49 ?_
        rintro v w1 H locs ⟨rfl, rfl⟩ hw
        have hw : bW G A s.heap [[(ad 0, .inr (9, [.ref (ad 1), .ref (ad 2), .ref (ad 3), .ref (ad 4), .ref (ad 5), .ref (ad 6), .ref (ad 7), .int fl]))], [(ad 2, .inr (0, [.ref (ad 8), .ref (ad 9), .ref (ad 10), .ref (ad 11), .ref (ad 12), .int (nI n), .int lw]))], [(ad 8, .inl (gL G, 6, .inr (.inr (.inr (.inr sg)))))], famX n sa (slE kd sk br) (tn sv), [(sa (tn sv), .inr (1, [.int (nI (tn sv)), .int (sk (tn sv)), .int (br (tn sv))]))]] H locs := hw
        refine W.eq (g2 := (F0 m 52 ls [.int 1])) rfl ?_
        refine aw_eqi (show (1 : Int32) = kd (tn sv) from hz.symm) ?_
        rw [show (.inr (1, [.int (nI (tn sv)), .int (sk (tn sv)), .int (br (tn sv))]) : va_E) = slE kd sk br (tn sv) from ez.symm] at hw
        have hw := aw_inS [[(ad 0, .inr (9, [.ref (ad 1), .ref (ad 2), .ref (ad 3), .ref (ad 4), .ref (ad 5), .ref (ad 6), .ref (ad 7), .int fl]))], [(ad 2, .inr (0, [.ref (ad 8), .ref (ad 9), .ref (ad 10), .ref (ad 11), .ref (ad 12), .int (nI n), .int lw]))], [(ad 8, .inl (gL G, 6, .inr (.inr (.inr (.inr sg)))))], famX n sa (slE kd sk br) (tn sv)] hw 3 rfl (by omega)
        have hw : bW G A s.heap [[(ad 0, .inr (9, [.ref (ad 1), .ref (ad 2), .ref (ad 3), .ref (ad 4), .ref (ad 5), .ref (ad 6), .ref (ad 7), .int fl]))], [(ad 2, .inr (0, [.ref (ad 8), .ref (ad 9), .ref (ad 10), .ref (ad 11), .ref (ad 12), .int (nI n), .int lw]))], [(ad 8, .inl (gL G, 6, .inr (.inr (.inr (.inr sg)))))], fam n sa (slE kd sk br)] H locs := hw
        exact join52 _ _ hw
      · rw [ez] at hw
        have hw : bW G A s.heap [[(ad 0, .inr (9, [.ref (ad 1), .ref (ad 2), .ref (ad 3), .ref (ad 4), .ref (ad 5), .ref (ad 6), .ref (ad 7), .int fl]))], [(ad 2, .inr (0, [.ref (ad 8), .ref (ad 9), .ref (ad 10), .ref (ad 11), .ref (ad 12), .int (nI n), .int lw]))], [(ad 8, .inl (gL G, 6, .inr (.inr (.inr (.inr sg)))))], famX n sa (slE kd sk br) (tn sv), [(sa (tn sv), .inr (5, [.int (nI (tn sv)), .int (sk (tn sv)), .int (br (tn sv))]))]] H locs := hw
        refine aw_callU (n := 0) S hE (c_X5_kindNumber l G (sa (tn sv))) gX10_ofSleeper_X5_kindNumber_u105X5 rfl (show Cond.code ⟨"AwakeTurns$Sleeper", "kindNumber", "()I"⟩ cX8_kindNumber 1 (some .int) ∈ wsX10_ofSleeper by decide +kernel) (by decide +kernel) rfl (by rw [hRm]; exact ⟨Nat.le_of_ble_eq_true rfl, Nat.le_of_ble_eq_true rfl⟩) (by rw [hRm]; exact ⟨Nat.le_of_ble_eq_true rfl, Nat.le_of_ble_eq_true rfl⟩) hw hA hl.1 [] rfl rfl (aw_recv (i := 4) hE hw rfl rfl rfl) rfl (Nat.le_of_ble_eq_true rfl) dX10_ofSleeper_49 ?_
        rintro v w1 H locs ⟨rfl, rfl⟩ hw
        have hw : bW G A s.heap [[(ad 0, .inr (9, [.ref (ad 1), .ref (ad 2), .ref (ad 3), .ref (ad 4), .ref (ad 5), .ref (ad 6), .ref (ad 7), .int fl]))], [(ad 2, .inr (0, [.ref (ad 8), .ref (ad 9), .ref (ad 10), .ref (ad 11), .ref (ad 12), .int (nI n), .int lw]))], [(ad 8, .inl (gL G, 6, .inr (.inr (.inr (.inr sg)))))], famX n sa (slE kd sk br) (tn sv), [(sa (tn sv), .inr (5, [.int (nI (tn sv)), .int (sk (tn sv)), .int (br (tn sv))]))]] H locs := hw
        refine W.eq (g2 := (F0 m 52 ls [.int 2])) rfl ?_
        refine aw_eqi (show (2 : Int32) = kd (tn sv) from (by rcases hkd _ hb_sv with q | q | q; exact absurd q hz.1; exact absurd q hz.2; exact q.symm)) ?_
        rw [show (.inr (5, [.int (nI (tn sv)), .int (sk (tn sv)), .int (br (tn sv))]) : va_E) = slE kd sk br (tn sv) from ez.symm] at hw
        have hw := aw_inS [[(ad 0, .inr (9, [.ref (ad 1), .ref (ad 2), .ref (ad 3), .ref (ad 4), .ref (ad 5), .ref (ad 6), .ref (ad 7), .int fl]))], [(ad 2, .inr (0, [.ref (ad 8), .ref (ad 9), .ref (ad 10), .ref (ad 11), .ref (ad 12), .int (nI n), .int lw]))], [(ad 8, .inl (gL G, 6, .inr (.inr (.inr (.inr sg)))))], famX n sa (slE kd sk br) (tn sv)] hw 3 rfl (by omega)
        have hw : bW G A s.heap [[(ad 0, .inr (9, [.ref (ad 1), .ref (ad 2), .ref (ad 3), .ref (ad 4), .ref (ad 5), .ref (ad 6), .ref (ad 7), .int fl]))], [(ad 2, .inr (0, [.ref (ad 8), .ref (ad 9), .ref (ad 10), .ref (ad 11), .ref (ad 12), .int (nI n), .int lw]))], [(ad 8, .inl (gL G, 6, .inr (.inr (.inr (.inr sg)))))], fam n sa (slE kd sk br)] H locs := hw
        exact join52 _ _ hw
    · by_cases c16_1 : wt = 1
      · refine lv_tableIn (off := 37) (tgt := 53) S.1 S.2.1 dX10_ofSleeper_16 (by rw [c16_1]; decide) (by rw [c16_1]; decide) (by rw [c16_1]; rfl) (by decide) ?_
        refine lv_aload_n S.1 S.2.1 dX10_ofSleeper_53 rfl (lv_at hl 0 rfl) ?_
        refine aw_slget S hE hw 3 (k := (tn sv)) rfl (by omega) hinX8 hinX1 hinX5 1 (by decide) hf111 rfl dX10_ofSleeper_54 ?_
        refine aw_eqi (show (sk (tn sv) : Int32) = f_of n kd sk br sv wt from (by simp [f_of, hz_s, c16_0, c16_1])) ?_
        exact aw_iret S hr hlk ha hQ hAe hw dX10_ofSleeper_57 rfl (Nat.le_of_ble_eq_true rfl) (Nat.le_of_ble_eq_true rfl) ⟨rfl, rfl⟩
      · by_cases c16_2 : wt = 2
        · refine lv_tableIn (off := 42) (tgt := 58) S.1 S.2.1 dX10_ofSleeper_16 (by rw [c16_2]; decide) (by rw [c16_2]; decide) (by rw [c16_2]; rfl) (by decide) ?_
          refine lv_aload_n S.1 S.2.1 dX10_ofSleeper_58 rfl (lv_at hl 0 rfl) ?_
          refine aw_slget S hE hw 3 (k := (tn sv)) rfl (by omega) hinX8 hinX1 hinX5 2 (by decide) hf114 rfl dX10_ofSleeper_59 ?_
          refine aw_eqi (show (br (tn sv) : Int32) = f_of n kd sk br sv wt from (by simp [f_of, hz_s, c16_0, c16_1, c16_2])) ?_
          exact aw_iret S hr hlk ha hQ hAe hw dX10_ofSleeper_62 rfl (Nat.le_of_ble_eq_true rfl) (Nat.le_of_ble_eq_true rfl) ⟨rfl, rfl⟩
        · by_cases c16_3 : wt = 3
          · refine lv_tableIn (off := 47) (tgt := 63) S.1 S.2.1 dX10_ofSleeper_16 (by rw [c16_3]; decide) (by rw [c16_3]; decide) (by rw [c16_3]; rfl) (by decide) ?_
            refine lv_aload_n S.1 S.2.1 dX10_ofSleeper_63 rfl (lv_at hl 0 rfl) ?_
            have join67 : ∀ (H : Heap) (locs : List Loc), bW G A s.heap [[(ad 0, .inr (9, [.ref (ad 1), .ref (ad 2), .ref (ad 3), .ref (ad 4), .ref (ad 5), .ref (ad 6), .ref (ad 7), .int fl]))], [(ad 2, .inr (0, [.ref (ad 8), .ref (ad 9), .ref (ad 10), .ref (ad 11), .ref (ad 12), .int (nI n), .int lw]))], [(ad 8, .inl (gL G, 6, .inr (.inr (.inr (.inr sg)))))], fam n sa (slE kd sk br)] H locs → W p l e R s m args below meth c H locs 0 0 Q (F0 m 67 ls [.int (hoK (kd (tn sv)))]) := by
              intro H locs hw
              refine aw_eqi (show (hoK (kd (tn sv)) : Int32) = f_of n kd sk br sv wt from (by simp [f_of, hz_s, c16_0, c16_1, c16_2, c16_3])) ?_
              exact aw_iret S hr hlk ha hQ hAe hw dX10_ofSleeper_67 rfl (Nat.le_of_ble_eq_true rfl) (Nat.le_of_ble_eq_true rfl) ⟨rfl, rfl⟩
            have hw := aw_out hw 3 rfl (tn sv) (by omega)
            have hw : bW G A s.heap [[(ad 0, .inr (9, [.ref (ad 1), .ref (ad 2), .ref (ad 3), .ref (ad 4), .ref (ad 5), .ref (ad 6), .ref (ad 7), .int fl]))], [(ad 2, .inr (0, [.ref (ad 8), .ref (ad 9), .ref (ad 10), .ref (ad 11), .ref (ad 12), .int (nI n), .int lw]))], [(ad 8, .inl (gL G, 6, .inr (.inr (.inr (.inr sg)))))], famX n sa (slE kd sk br) (tn sv), [(sa (tn sv), slE kd sk br (tn sv))]] H locs := hw
            rcases slE_cases kd sk br (tn sv) with ⟨hz, ez⟩ | ⟨hz, ez⟩ | ⟨hz, ez⟩
            · rw [ez] at hw
              have hw : bW G A s.heap [[(ad 0, .inr (9, [.ref (ad 1), .ref (ad 2), .ref (ad 3), .ref (ad 4), .ref (ad 5), .ref (ad 6), .ref (ad 7), .int fl]))], [(ad 2, .inr (0, [.ref (ad 8), .ref (ad 9), .ref (ad 10), .ref (ad 11), .ref (ad 12), .int (nI n), .int lw]))], [(ad 8, .inl (gL G, 6, .inr (.inr (.inr (.inr sg)))))], famX n sa (slE kd sk br) (tn sv), [(sa (tn sv), .inr (8, [.int (nI (tn sv)), .int (sk (tn sv)), .int (br (tn sv))]))]] H locs := hw
              refine aw_callV S hE (c_X8_harmOnce l G (sa (tn sv))) gX10_ofSleeper_X8_harmOnce (n := 0) rfl (by decide +kernel) rfl (by rw [hRm]; exact ⟨Nat.le_of_ble_eq_true rfl, Nat.le_of_ble_eq_true rfl⟩) (by rw [hRm]; exact ⟨Nat.le_of_ble_eq_true rfl, Nat.le_of_ble_eq_true rfl⟩) hw hA hl.1 [] rfl rfl (aw_recv (i := 4) hE hw rfl rfl rfl) rfl (Nat.le_of_ble_eq_true rfl) dX10_ofSleeper_64 ?_
              rintro v w1 H locs ⟨rfl, rfl⟩ hw
              have hw : bW G A s.heap [[(ad 0, .inr (9, [.ref (ad 1), .ref (ad 2), .ref (ad 3), .ref (ad 4), .ref (ad 5), .ref (ad 6), .ref (ad 7), .int fl]))], [(ad 2, .inr (0, [.ref (ad 8), .ref (ad 9), .ref (ad 10), .ref (ad 11), .ref (ad 12), .int (nI n), .int lw]))], [(ad 8, .inl (gL G, 6, .inr (.inr (.inr (.inr sg)))))], famX n sa (slE kd sk br) (tn sv), [(sa (tn sv), .inr (8, [.int (nI (tn sv)), .int (sk (tn sv)), .int (br (tn sv))]))]] H locs := hw
              refine W.eq (g2 := (F0 m 67 ls [.int 1])) rfl ?_
              refine aw_eqi (show (1 : Int32) = hoK (kd (tn sv)) from (by rw [hz]; rfl)) ?_
              rw [show (.inr (8, [.int (nI (tn sv)), .int (sk (tn sv)), .int (br (tn sv))]) : va_E) = slE kd sk br (tn sv) from ez.symm] at hw
              have hw := aw_inS [[(ad 0, .inr (9, [.ref (ad 1), .ref (ad 2), .ref (ad 3), .ref (ad 4), .ref (ad 5), .ref (ad 6), .ref (ad 7), .int fl]))], [(ad 2, .inr (0, [.ref (ad 8), .ref (ad 9), .ref (ad 10), .ref (ad 11), .ref (ad 12), .int (nI n), .int lw]))], [(ad 8, .inl (gL G, 6, .inr (.inr (.inr (.inr sg)))))], famX n sa (slE kd sk br) (tn sv)] hw 3 rfl (by omega)
              have hw : bW G A s.heap [[(ad 0, .inr (9, [.ref (ad 1), .ref (ad 2), .ref (ad 3), .ref (ad 4), .ref (ad 5), .ref (ad 6), .ref (ad 7), .int fl]))], [(ad 2, .inr (0, [.ref (ad 8), .ref (ad 9), .ref (ad 10), .ref (ad 11), .ref (ad 12), .int (nI n), .int lw]))], [(ad 8, .inl (gL G, 6, .inr (.inr (.inr (.inr sg)))))], fam n sa (slE kd sk br)] H locs := hw
              exact join67 _ _ hw
            · rw [ez] at hw
              have hw : bW G A s.heap [[(ad 0, .inr (9, [.ref (ad 1), .ref (ad 2), .ref (ad 3), .ref (ad 4), .ref (ad 5), .ref (ad 6), .ref (ad 7), .int fl]))], [(ad 2, .inr (0, [.ref (ad 8), .ref (ad 9), .ref (ad 10), .ref (ad 11), .ref (ad 12), .int (nI n), .int lw]))], [(ad 8, .inl (gL G, 6, .inr (.inr (.inr (.inr sg)))))], famX n sa (slE kd sk br) (tn sv), [(sa (tn sv), .inr (1, [.int (nI (tn sv)), .int (sk (tn sv)), .int (br (tn sv))]))]] H locs := hw
              refine aw_callU (n := 0) S hE (c_X1_harmOnce l G (sa (tn sv)) (nI (tn sv)) (sk (tn sv)) (br (tn sv))) gX10_ofSleeper_X1_harmOnce_u117X1 rfl (show Cond.code ⟨"AwakeTurns$Sleeper", "harmOnce", "()I"⟩ cX8_harmOnce 1 (some .int) ∈ wsX10_ofSleeper by decide +kernel) (by decide +kernel) rfl (by rw [hRm]; exact ⟨Nat.le_of_ble_eq_true rfl, Nat.le_of_ble_eq_true rfl⟩) (by rw [hRm]; exact ⟨Nat.le_of_ble_eq_true rfl, Nat.le_of_ble_eq_true rfl⟩) hw hA hl.1 [4] rfl rfl (aw_recv (i := 4) hE hw rfl rfl rfl) rfl (Nat.le_of_ble_eq_true rfl) dX10_ofSleeper_64 ?_
              rintro v w1 H locs ⟨rfl, rfl⟩ hw
              have hw : bW G A s.heap [[(ad 0, .inr (9, [.ref (ad 1), .ref (ad 2), .ref (ad 3), .ref (ad 4), .ref (ad 5), .ref (ad 6), .ref (ad 7), .int fl]))], [(ad 2, .inr (0, [.ref (ad 8), .ref (ad 9), .ref (ad 10), .ref (ad 11), .ref (ad 12), .int (nI n), .int lw]))], [(ad 8, .inl (gL G, 6, .inr (.inr (.inr (.inr sg)))))], famX n sa (slE kd sk br) (tn sv), [(sa (tn sv), .inr (1, [.int (nI (tn sv)), .int (sk (tn sv)), .int (br (tn sv))]))]] H locs := hw
              refine W.eq (g2 := (F0 m 67 ls [.int 2])) rfl ?_
              refine aw_eqi (show (2 : Int32) = hoK (kd (tn sv)) from (by rw [hz]; rfl)) ?_
              rw [show (.inr (1, [.int (nI (tn sv)), .int (sk (tn sv)), .int (br (tn sv))]) : va_E) = slE kd sk br (tn sv) from ez.symm] at hw
              have hw := aw_inS [[(ad 0, .inr (9, [.ref (ad 1), .ref (ad 2), .ref (ad 3), .ref (ad 4), .ref (ad 5), .ref (ad 6), .ref (ad 7), .int fl]))], [(ad 2, .inr (0, [.ref (ad 8), .ref (ad 9), .ref (ad 10), .ref (ad 11), .ref (ad 12), .int (nI n), .int lw]))], [(ad 8, .inl (gL G, 6, .inr (.inr (.inr (.inr sg)))))], famX n sa (slE kd sk br) (tn sv)] hw 3 rfl (by omega)
              have hw : bW G A s.heap [[(ad 0, .inr (9, [.ref (ad 1), .ref (ad 2), .ref (ad 3), .ref (ad 4), .ref (ad 5), .ref (ad 6), .ref (ad 7), .int fl]))], [(ad 2, .inr (0, [.ref (ad 8), .ref (ad 9), .ref (ad 10), .ref (ad 11), .ref (ad 12), .int (nI n), .int lw]))], [(ad 8, .inl (gL G, 6, .inr (.inr (.inr (.inr sg)))))], fam n sa (slE kd sk br)] H locs := hw
              exact join67 _ _ hw
            · rw [ez] at hw
              have hw : bW G A s.heap [[(ad 0, .inr (9, [.ref (ad 1), .ref (ad 2), .ref (ad 3), .ref (ad 4), .ref (ad 5), .ref (ad 6), .ref (ad 7), .int fl]))], [(ad 2, .inr (0, [.ref (ad 8), .ref (ad 9), .ref (ad 10), .ref (ad 11), .ref (ad 12), .int (nI n), .int lw]))], [(ad 8, .inl (gL G, 6, .inr (.inr (.inr (.inr sg)))))], famX n sa (slE kd sk br) (tn sv), [(sa (tn sv), .inr (5, [.int (nI (tn sv)), .int (sk (tn sv)), .int (br (tn sv))]))]] H locs := hw
              refine aw_callU (n := 0) S hE (c_X5_harmOnce l G (sa (tn sv)) (nI (tn sv)) (sk (tn sv)) (br (tn sv))) gX10_ofSleeper_X5_harmOnce_u117X5 rfl (show Cond.code ⟨"AwakeTurns$Sleeper", "harmOnce", "()I"⟩ cX8_harmOnce 1 (some .int) ∈ wsX10_ofSleeper by decide +kernel) (by decide +kernel) rfl (by rw [hRm]; exact ⟨Nat.le_of_ble_eq_true rfl, Nat.le_of_ble_eq_true rfl⟩) (by rw [hRm]; exact ⟨Nat.le_of_ble_eq_true rfl, Nat.le_of_ble_eq_true rfl⟩) hw hA hl.1 [4] rfl rfl (aw_recv (i := 4) hE hw rfl rfl rfl) rfl (Nat.le_of_ble_eq_true rfl) dX10_ofSleeper_64 ?_
              rintro v w1 H locs ⟨rfl, rfl⟩ hw
              have hw : bW G A s.heap [[(ad 0, .inr (9, [.ref (ad 1), .ref (ad 2), .ref (ad 3), .ref (ad 4), .ref (ad 5), .ref (ad 6), .ref (ad 7), .int fl]))], [(ad 2, .inr (0, [.ref (ad 8), .ref (ad 9), .ref (ad 10), .ref (ad 11), .ref (ad 12), .int (nI n), .int lw]))], [(ad 8, .inl (gL G, 6, .inr (.inr (.inr (.inr sg)))))], famX n sa (slE kd sk br) (tn sv), [(sa (tn sv), .inr (5, [.int (nI (tn sv)), .int (sk (tn sv)), .int (br (tn sv))]))]] H locs := hw
              refine W.eq (g2 := (F0 m 67 ls [.int 4])) rfl ?_
              refine aw_eqi (show (4 : Int32) = hoK (kd (tn sv)) from (by rw [hoK, if_neg hz.1, if_neg hz.2])) ?_
              rw [show (.inr (5, [.int (nI (tn sv)), .int (sk (tn sv)), .int (br (tn sv))]) : va_E) = slE kd sk br (tn sv) from ez.symm] at hw
              have hw := aw_inS [[(ad 0, .inr (9, [.ref (ad 1), .ref (ad 2), .ref (ad 3), .ref (ad 4), .ref (ad 5), .ref (ad 6), .ref (ad 7), .int fl]))], [(ad 2, .inr (0, [.ref (ad 8), .ref (ad 9), .ref (ad 10), .ref (ad 11), .ref (ad 12), .int (nI n), .int lw]))], [(ad 8, .inl (gL G, 6, .inr (.inr (.inr (.inr sg)))))], famX n sa (slE kd sk br) (tn sv)] hw 3 rfl (by omega)
              have hw : bW G A s.heap [[(ad 0, .inr (9, [.ref (ad 1), .ref (ad 2), .ref (ad 3), .ref (ad 4), .ref (ad 5), .ref (ad 6), .ref (ad 7), .int fl]))], [(ad 2, .inr (0, [.ref (ad 8), .ref (ad 9), .ref (ad 10), .ref (ad 11), .ref (ad 12), .int (nI n), .int lw]))], [(ad 8, .inl (gL G, 6, .inr (.inr (.inr (.inr sg)))))], fam n sa (slE kd sk br)] H locs := hw
              exact join67 _ _ hw
          · refine lv_tableOut (tgt := 68) S.1 S.2.1 dX10_ofSleeper_16 (by have := lv_neT (k := 0) (a := 0) c16_0 rfl; have := lv_neT (k := 1) (a := 1) c16_1 rfl; have := lv_neT (k := 2) (a := 2) c16_2 rfl; have := lv_neT (k := 3) (a := 3) c16_3 rfl; omega) (by decide) ?_
            refine lv_bipush (v := (-2)) S.1 S.2.1 dX10_ofSleeper_68 (by decide) ?_
            refine aw_eqi (show ((-2) : Int32) = f_of n kd sk br sv wt from (by simp [f_of, hz_s, c16_0, c16_1, c16_2, c16_3])) ?_
            exact aw_iret S hr hlk ha hQ hAe hw dX10_ofSleeper_70 rfl (Nat.le_of_ble_eq_true rfl) (Nat.le_of_ble_eq_true rfl) ⟨rfl, rfl⟩
  · refine lv_aload_n S.1 S.2.1 dX10_ofSleeper_0 rfl (lv_at hl 0 rfl) ?_
    refine aw_get S hE hw 0 (C := RX10) (T := TX10) (N := 8) rfl rfl hinX10 1 (by decide) hf21 rfl dX10_ofSleeper_1 ?_
    refine lv_iload_n S.1 S.2.1 dX10_ofSleeper_4 rfl (lv_at hl 1 rfl) ?_
    refine aw_callV S hE (c_X0_at_out l G ad n lw sv (by first | assumption | omega) hz_s) gX10_ofSleeper_X0_at (n := 1) rfl (by decide +kernel) rfl (by rw [hRm]; exact ⟨Nat.le_of_ble_eq_true rfl, Nat.le_of_ble_eq_true rfl⟩) (by rw [hRm]; exact ⟨Nat.le_of_ble_eq_true rfl, Nat.le_of_ble_eq_true rfl⟩) hw hA hl.1 [1] rfl rfl (aw_recv (i := 1) hE hw rfl rfl rfl) rfl (Nat.le_of_ble_eq_true rfl) dX10_ofSleeper_5 ?_
    rintro v w1 H locs ⟨rfl, rfl⟩ hw
    have hw : bW G A s.heap [[(ad 0, .inr (9, [.ref (ad 1), .ref (ad 2), .ref (ad 3), .ref (ad 4), .ref (ad 5), .ref (ad 6), .ref (ad 7), .int fl]))], [(ad 2, .inr (0, [.ref (ad 8), .ref (ad 9), .ref (ad 10), .ref (ad 11), .ref (ad 12), .int (nI n), .int lw]))], [(ad 8, .inl (gL G, 6, .inr (.inr (.inr (.inr sg)))))], fam n sa (slE kd sk br)] H locs := hw
    refine W.eq (g2 := (F0 m 8 ls [.null])) rfl ?_
    refine lv_astore_nN (lv' := [(3, .null), (0, .ref (ad 0)), (1, .int sv), (2, .int wt)]) S.1 S.2.1 dX10_ofSleeper_8 rfl hl (by decide) rfl (fun ls hl => ?_)
    refine lv_aload_nN S.1 S.2.1 dX10_ofSleeper_9 rfl (lv_at hl 0 rfl) ?_
    refine lv_ifnonnullN S.1 S.2.1 dX10_ofSleeper_10 ?_
    refine lv_iconst (v := (-1)) S.1 S.2.1 dX10_ofSleeper_13 (by decide) ?_
    refine aw_eqi (show ((-1) : Int32) = f_of n kd sk br sv wt from (by simp [f_of, hz_s])) ?_
    exact aw_iret S hr hlk ha hQ hAe hw dX10_ofSleeper_14 rfl (Nat.le_of_ble_eq_true rfl) (Nat.le_of_ble_eq_true rfl) ⟨rfl, rfl⟩
set_option maxRecDepth 100000 in
set_option maxHeartbeats 4000000 in
theorem c_X10_up (l : Launch) (G : aw_G) (ad : Nat → Nat) (fl : Int32) (n : Nat) (lw : Int32) (tu : Nat → Int32) (sv mo : Int32) (is_ : Bool) (hn : n ≤ 6) : CT l G yX10_up wsX10_up ({ frames := 1, cells := 0, slots := 0, locals := 21 }) [.ref (ad 0), .int sv, .int mo, .int (if is_ = true then 1 else 0)] [[(ad 0, .inr (9, [.ref (ad 1), .ref (ad 2), .ref (ad 3), .ref (ad 4), .ref (ad 5), .ref (ad 6), .ref (ad 7), .int fl]))], [(ad 2, .inr (0, [.ref (ad 8), .ref (ad 9), .ref (ad 10), .ref (ad 11), .ref (ad 12), .int (nI n), .int lw]))], [(ad 9, .inl (gI G, 12, .inl tu))]] (dt (some (.int (f_up n tu sv mo is_))) [[(ad 0, .inr (9, [.ref (ad 1), .ref (ad 2), .ref (ad 3), .ref (ad 4), .ref (ad 5), .ref (ad 6), .ref (ad 7), .int fl]))], [(ad 2, .inr (0, [.ref (ad 8), .ref (ad 9), .ref (ad 10), .ref (ad 11), .ref (ad 12), .int (nI n), .int lw]))], [(ad 9, .inl (gI G, 12, .inl (f_upT n tu sv mo is_)))]]) := by
  refine CT.of (cc := cX10_up) (nL := 6) (ret := (some .int)) (by decide) rfl (Nat.le_of_ble_eq_true rfl) ?_
  intro p e s m below meth c R args Q A hRm ha hQ hAe hA S hE hr hlk hnm H locs hH0 hL0 ls hl hw
  have S : CallFix p m c cX10_up 6 s args wsX10_up RX10 := S
  have hl : lv_has ls 6 [(0, .ref (ad 0)), (1, .int sv), (2, .int mo), (3, .int (if is_ = true then 1 else 0))] := hl
  have hinX10 : ∀ w ∈ u_ws RX10 TX10 8, w ∈ wsX10_up := by decide +kernel
  have hf21 := S.2.2.2.2 (.fieldLink RX10 21 "AwakeTurns" "crew" "LAwakeTurns$Crew;") (by decide +kernel)
  have hinX0 : ∀ w ∈ u_ws RX0 TX0 7, w ∈ wsX10_up := by decide +kernel
  have hf126 := S.2.2.2.2 (.fieldLink RX10 126 "AwakeTurns$Crew" "turns" "[I") (by decide +kernel)
  refine lv_aload_n S.1 S.2.1 dX10_up_0 rfl (lv_at hl 0 rfl) ?_
  refine aw_get S hE hw 0 (C := RX10) (T := TX10) (N := 8) rfl rfl hinX10 1 (by decide) hf21 rfl dX10_up_1 ?_
  refine lv_iload_n S.1 S.2.1 dX10_up_4 rfl (lv_at hl 1 rfl) ?_
  refine aw_callV S hE (c_X0_has l G ad n lw sv (by first | assumption | omega)) gX10_up_X0_has (n := 1) rfl (by decide +kernel) rfl (by rw [hRm]; exact ⟨Nat.le_of_ble_eq_true rfl, Nat.le_of_ble_eq_true rfl⟩) (by rw [hRm]; exact ⟨Nat.le_of_ble_eq_true rfl, Nat.le_of_ble_eq_true rfl⟩) hw hA hl.1 [1] rfl rfl (aw_recv (i := 1) hE hw rfl rfl rfl) rfl (Nat.le_of_ble_eq_true rfl) dX10_up_5 ?_
  rintro v w1 H locs ⟨rfl, rfl⟩ hw
  have hw : bW G A s.heap [[(ad 0, .inr (9, [.ref (ad 1), .ref (ad 2), .ref (ad 3), .ref (ad 4), .ref (ad 5), .ref (ad 6), .ref (ad 7), .int fl]))], [(ad 2, .inr (0, [.ref (ad 8), .ref (ad 9), .ref (ad 10), .ref (ad 11), .ref (ad 12), .int (nI n), .int lw]))], [(ad 9, .inl (gI G, 12, .inl tu))]] H locs := hw
  refine W.eq (g2 := (F0 m 8 ls [.int (if 0 ≤ sv.toInt ∧ sv.toInt < n then 1 else 0)])) rfl ?_
  refine aw_ifne (P := 0 ≤ sv.toInt ∧ sv.toInt < n) (tgt := 13) S dX10_up_8 (by decide) (fun c8 => ?_) (fun c8 => ?_)
  · have hb_sv : tn sv < n := aw_tnL c8
    have hl := Eq.mp (congrArg (fun z_ : Int32 => lv_has ls 6 [(0, .ref (ad 0)), (1, .int z_), (2, .int mo), (3, .int (if is_ = true then 1 else 0))]) (show (sv : Int32) = nI (tn sv) from (aw_tnE c8))) hl
    have hl : lv_has ls 6 [(0, .ref (ad 0)), (1, .int (nI (tn sv))), (2, .int mo), (3, .int (if is_ = true then 1 else 0))] := hl
    refine lv_iload_n S.1 S.2.1 dX10_up_13 rfl (lv_at hl 2 rfl) ?_
    refine aw_callS S hE (c_X10_isMonth l G mo) gX10_up_X10_isMonth (n := 1) rfl (by decide +kernel) rfl (by rw [hRm]; exact ⟨Nat.le_of_ble_eq_true rfl, Nat.le_of_ble_eq_true rfl⟩) (by rw [hRm]; exact ⟨Nat.le_of_ble_eq_true rfl, Nat.le_of_ble_eq_true rfl⟩) hw hA hl.1 [] rfl rfl rfl (Nat.le_of_ble_eq_true rfl) dX10_up_14 ?_
    rintro v w1 H locs ⟨rfl, rfl⟩ hw
    have hw : bW G A s.heap [[(ad 0, .inr (9, [.ref (ad 1), .ref (ad 2), .ref (ad 3), .ref (ad 4), .ref (ad 5), .ref (ad 6), .ref (ad 7), .int fl]))], [(ad 2, .inr (0, [.ref (ad 8), .ref (ad 9), .ref (ad 10), .ref (ad 11), .ref (ad 12), .int (nI n), .int lw]))], [(ad 9, .inl (gI G, 12, .inl tu))]] H locs := hw
    refine W.eq (g2 := (F0 m 17 ls [.int (if 0 ≤ mo.toInt ∧ mo.toInt < 12 then 1 else 0)])) rfl ?_
    refine aw_ifne (P := 0 ≤ mo.toInt ∧ mo.toInt < 12) (tgt := 23) S dX10_up_17 (by decide) (fun c17 => ?_) (fun c17 => ?_)
    · have hb_mo : tn mo < 12 := aw_tnL c17
      have hl := Eq.mp (congrArg (fun z_ : Int32 => lv_has ls 6 [(0, .ref (ad 0)), (1, .int (nI (tn sv))), (2, .int z_), (3, .int (if is_ = true then 1 else 0))]) (show (mo : Int32) = nI (tn mo) from (aw_tnE c17))) hl
      have hl : lv_has ls 6 [(0, .ref (ad 0)), (1, .int (nI (tn sv))), (2, .int (nI (tn mo))), (3, .int (if is_ = true then 1 else 0))] := hl
      refine lv_aload_n S.1 S.2.1 dX10_up_23 rfl (lv_at hl 0 rfl) ?_
      refine aw_get S hE hw 0 (C := RX10) (T := TX10) (N := 8) rfl rfl hinX10 1 (by decide) hf21 rfl dX10_up_24 ?_
      refine aw_get S hE hw 1 (C := RX0) (T := TX0) (N := 7) rfl rfl hinX0 1 (by decide) hf126 rfl dX10_up_27 ?_
      refine lv_iload_n S.1 S.2.1 dX10_up_30 rfl (lv_at hl 2 rfl) ?_
      refine aw_iald S hE hw 2 (k := (tn mo)) rfl (by omega) (by decide) dX10_up_31 ?_
      refine lv_istore (lv' := [(4, .int (tu (tn mo))), (0, .ref (ad 0)), (1, .int (nI (tn sv))), (2, .int (nI (tn mo))), (3, .int (if is_ = true then 1 else 0))]) S.1 S.2.1 dX10_up_32 hl (by decide) rfl (fun ls hl => ?_)
      refine lv_iload_n S.1 S.2.1 dX10_up_34 rfl (lv_at hl 4 rfl) ?_
      have join55 : ∀ (H : Heap) (locs : List Loc), ∀ (ls : Array Slot), lv_has ls 6 [(4, .int (tu (tn mo))), (0, .ref (ad 0)), (1, .int (nI (tn sv))), (2, .int (nI (tn mo))), (3, .int (if is_ = true then 1 else 0))] → bW G A s.heap [[(ad 0, .inr (9, [.ref (ad 1), .ref (ad 2), .ref (ad 3), .ref (ad 4), .ref (ad 5), .ref (ad 6), .ref (ad 7), .int fl]))], [(ad 2, .inr (0, [.ref (ad 8), .ref (ad 9), .ref (ad 10), .ref (ad 11), .ref (ad 12), .int (nI n), .int lw]))], [(ad 9, .inl (gI G, 12, .inl tu))]] H locs → W p l e R s m args below meth c H locs 0 0 Q (F0 m 55 ls [.int (f_upV (tu (tn mo)) (tn sv) is_)]) := by
        intro  H locs ls hl hw
        refine lv_istore (lv' := [(5, .int (f_upV (tu (tn mo)) (tn sv) is_)), (4, .int (tu (tn mo))), (0, .ref (ad 0)), (1, .int (nI (tn sv))), (2, .int (nI (tn mo))), (3, .int (if is_ = true then 1 else 0))]) S.1 S.2.1 dX10_up_55 hl (by decide) rfl (fun ls hl => ?_)
        refine lv_aload_n S.1 S.2.1 dX10_up_57 rfl (lv_at hl 2 rfl) ?_
        refine aw_get S hE hw 0 (C := RX10) (T := TX10) (N := 8) rfl rfl hinX10 1 (by decide) hf21 rfl dX10_up_58 ?_
        refine aw_get S hE hw 1 (C := RX0) (T := TX0) (N := 7) rfl rfl hinX0 1 (by decide) hf126 rfl dX10_up_61 ?_
        refine lv_iload_n S.1 S.2.1 dX10_up_64 rfl (lv_at hl 4 rfl) ?_
        refine lv_iload S.1 S.2.1 dX10_up_65 (lv_at hl 0 rfl) ?_
        refine aw_iast S hE hw 2 (k := (tn mo)) rfl (by omega) (by decide) dX10_up_67 (fun H locs hw => ?_)
        have hw : bW G A s.heap [[(ad 0, .inr (9, [.ref (ad 1), .ref (ad 2), .ref (ad 3), .ref (ad 4), .ref (ad 5), .ref (ad 6), .ref (ad 7), .int fl]))], [(ad 2, .inr (0, [.ref (ad 8), .ref (ad 9), .ref (ad 10), .ref (ad 11), .ref (ad 12), .int (nI n), .int lw]))], [(ad 9, .inl (gI G, 12, .inl (upd tu (tn mo) (f_upV (tu (tn mo)) (tn sv) is_))))]] H locs := hw
        refine lv_iload S.1 S.2.1 dX10_up_68 (lv_at hl 1 rfl) ?_
        refine lv_iload S.1 S.2.1 dX10_up_70 (lv_at hl 0 rfl) ?_
        refine lv_icmp_ne (tgt := 79) S.1 S.2.1 dX10_up_72 (by decide) (fun c72 => ?_) (fun c72 => ?_)
        · refine lv_iconst (v := 1) S.1 S.2.1 dX10_up_79 (by decide) ?_
          have hw := aw_arr hw 2 rfl (f_upT n tu sv mo is_) (fun _ _ => by unfold f_upT; first | rw [if_neg (fun q => c8 q.1)] | rw [if_neg (fun q => c17 q.2)] | rw [if_pos ⟨c8, c17⟩])
          have hw : bW G A s.heap [[(ad 0, .inr (9, [.ref (ad 1), .ref (ad 2), .ref (ad 3), .ref (ad 4), .ref (ad 5), .ref (ad 6), .ref (ad 7), .int fl]))], [(ad 2, .inr (0, [.ref (ad 8), .ref (ad 9), .ref (ad 10), .ref (ad 11), .ref (ad 12), .int (nI n), .int lw]))], [(ad 9, .inl (gI G, 12, .inl (f_upT n tu sv mo is_)))]] H locs := hw
          refine aw_eqi (show (1 : Int32) = f_up n tu sv mo is_ from (by rw [f_up, if_pos c8, if_pos c17]; first | rw [if_pos ((upV_same (by omega)).mp c72)] | rw [if_neg (fun q => c72 ((upV_same (by omega)).mpr q))])) ?_
          exact aw_iret S hr hlk ha hQ hAe hw dX10_up_80 rfl (Nat.le_of_ble_eq_true rfl) (Nat.le_of_ble_eq_true rfl) ⟨rfl, rfl⟩
        · refine lv_iconst (v := 0) S.1 S.2.1 dX10_up_75 (by decide) ?_
          refine lv_goto (tgt := 80) S.1 S.2.1 dX10_up_76 (by decide) ?_
          have hw := aw_arr hw 2 rfl (f_upT n tu sv mo is_) (fun _ _ => by unfold f_upT; first | rw [if_neg (fun q => c8 q.1)] | rw [if_neg (fun q => c17 q.2)] | rw [if_pos ⟨c8, c17⟩])
          have hw : bW G A s.heap [[(ad 0, .inr (9, [.ref (ad 1), .ref (ad 2), .ref (ad 3), .ref (ad 4), .ref (ad 5), .ref (ad 6), .ref (ad 7), .int fl]))], [(ad 2, .inr (0, [.ref (ad 8), .ref (ad 9), .ref (ad 10), .ref (ad 11), .ref (ad 12), .int (nI n), .int lw]))], [(ad 9, .inl (gI G, 12, .inl (f_upT n tu sv mo is_)))]] H locs := hw
          refine aw_eqi (show (0 : Int32) = f_up n tu sv mo is_ from (by rw [f_up, if_pos c8, if_pos c17]; first | rw [if_pos ((upV_same (by omega)).mp c72)] | rw [if_neg (fun q => c72 ((upV_same (by omega)).mpr q))])) ?_
          exact aw_iret S hr hlk ha hQ hAe hw dX10_up_80 rfl (Nat.le_of_ble_eq_true rfl) (Nat.le_of_ble_eq_true rfl) ⟨rfl, rfl⟩
      refine aw_ifeq (P := is_ = true) (tgt := 47) S dX10_up_35 (by decide) (fun c35 => ?_) (fun c35 => ?_)
      · refine lv_iload S.1 S.2.1 dX10_up_47 (lv_at hl 0 rfl) ?_
        refine lv_iconst (v := 1) S.1 S.2.1 dX10_up_49 (by decide) ?_
        refine lv_iload_n S.1 S.2.1 dX10_up_50 rfl (lv_at hl 2 rfl) ?_
        refine lv_ishl S.1 S.2.1 dX10_up_51 ?_
        refine lv_iconst (v := (-1)) S.1 S.2.1 dX10_up_52 (by decide) ?_
        refine lv_ixor S.1 S.2.1 dX10_up_53 ?_
        refine lv_iand S.1 S.2.1 dX10_up_54 ?_
        refine aw_eqi (show ((tu (tn mo)) &&& ((1 <<< ((nI (tn sv)) &&& 31)) ^^^ (-1)) : Int32) = f_upV (tu (tn mo)) (tn sv) is_ from (by unfold f_upV; first | rw [if_pos c35] | rw [if_neg c35])) ?_
        exact join55  _ _ _ (lv_sub hl [0, 1, 2, 3, 4] rfl) hw
      · refine lv_iload S.1 S.2.1 dX10_up_38 (lv_at hl 0 rfl) ?_
        refine lv_iconst (v := 1) S.1 S.2.1 dX10_up_40 (by decide) ?_
        refine lv_iload_n S.1 S.2.1 dX10_up_41 rfl (lv_at hl 2 rfl) ?_
        refine lv_ishl S.1 S.2.1 dX10_up_42 ?_
        refine lv_ior S.1 S.2.1 dX10_up_43 ?_
        refine lv_goto (tgt := 55) S.1 S.2.1 dX10_up_44 (by decide) ?_
        refine aw_eqi (show ((tu (tn mo)) ||| (1 <<< ((nI (tn sv)) &&& 31)) : Int32) = f_upV (tu (tn mo)) (tn sv) is_ from (by unfold f_upV; first | rw [if_pos c35] | rw [if_neg c35])) ?_
        exact join55  _ _ _ (lv_sub hl [0, 1, 2, 3, 4] rfl) hw
    · refine lv_bipush (v := (-2)) S.1 S.2.1 dX10_up_20 (by decide) ?_
      have hw := aw_arr hw 2 rfl (f_upT n tu sv mo is_) (fun _ _ => by unfold f_upT; first | rw [if_neg (fun q => c8 q.1)] | rw [if_neg (fun q => c17 q.2)] | rw [if_pos ⟨c8, c17⟩])
      have hw : bW G A s.heap [[(ad 0, .inr (9, [.ref (ad 1), .ref (ad 2), .ref (ad 3), .ref (ad 4), .ref (ad 5), .ref (ad 6), .ref (ad 7), .int fl]))], [(ad 2, .inr (0, [.ref (ad 8), .ref (ad 9), .ref (ad 10), .ref (ad 11), .ref (ad 12), .int (nI n), .int lw]))], [(ad 9, .inl (gI G, 12, .inl (f_upT n tu sv mo is_)))]] H locs := hw
      refine aw_eqi (show ((-2) : Int32) = f_up n tu sv mo is_ from (by rw [f_up, if_pos c8, if_neg c17])) ?_
      exact aw_iret S hr hlk ha hQ hAe hw dX10_up_22 rfl (Nat.le_of_ble_eq_true rfl) (Nat.le_of_ble_eq_true rfl) ⟨rfl, rfl⟩
  · refine lv_iconst (v := (-1)) S.1 S.2.1 dX10_up_11 (by decide) ?_
    have hw := aw_arr hw 2 rfl (f_upT n tu sv mo is_) (fun _ _ => by unfold f_upT; first | rw [if_neg (fun q => c8 q.1)] | rw [if_neg (fun q => c17 q.2)] | rw [if_pos ⟨c8, c17⟩])
    have hw : bW G A s.heap [[(ad 0, .inr (9, [.ref (ad 1), .ref (ad 2), .ref (ad 3), .ref (ad 4), .ref (ad 5), .ref (ad 6), .ref (ad 7), .int fl]))], [(ad 2, .inr (0, [.ref (ad 8), .ref (ad 9), .ref (ad 10), .ref (ad 11), .ref (ad 12), .int (nI n), .int lw]))], [(ad 9, .inl (gI G, 12, .inl (f_upT n tu sv mo is_)))]] H locs := hw
    refine aw_eqi (show ((-1) : Int32) = f_up n tu sv mo is_ from (by rw [f_up, if_neg c8])) ?_
    exact aw_iret S hr hlk ha hQ hAe hw dX10_up_12 rfl (Nat.le_of_ble_eq_true rfl) (Nat.le_of_ble_eq_true rfl) ⟨rfl, rfl⟩
set_option maxRecDepth 100000 in
set_option maxHeartbeats 4000000 in
theorem c_X10_wants (l : Launch) (G : aw_G) (ad : Nat → Nat) (fl : Int32) (n : Nat) (lw : Int32) (wa : Nat → Int32) (mo sv : Int32) (hn : n ≤ 6) : CT l G yX10_wants wsX10_wants ({ frames := 1, cells := 0, slots := 0, locals := 20 }) [.ref (ad 0), .int mo, .int sv] [[(ad 0, .inr (9, [.ref (ad 1), .ref (ad 2), .ref (ad 3), .ref (ad 4), .ref (ad 5), .ref (ad 6), .ref (ad 7), .int fl]))], [(ad 2, .inr (0, [.ref (ad 8), .ref (ad 9), .ref (ad 10), .ref (ad 11), .ref (ad 12), .int (nI n), .int lw]))], [(ad 10, .inl (gI G, 12, .inl wa))]] (dt (some (.int (f_wants n wa mo sv))) [[(ad 0, .inr (9, [.ref (ad 1), .ref (ad 2), .ref (ad 3), .ref (ad 4), .ref (ad 5), .ref (ad 6), .ref (ad 7), .int fl]))], [(ad 2, .inr (0, [.ref (ad 8), .ref (ad 9), .ref (ad 10), .ref (ad 11), .ref (ad 12), .int (nI n), .int lw]))], [(ad 10, .inl (gI G, 12, .inl (f_wantsT n wa mo sv)))]]) := by
  refine CT.of (cc := cX10_wants) (nL := 4) (ret := (some .int)) (by decide) rfl (Nat.le_of_ble_eq_true rfl) ?_
  intro p e s m below meth c R args Q A hRm ha hQ hAe hA S hE hr hlk hnm H locs hH0 hL0 ls hl hw
  have S : CallFix p m c cX10_wants 4 s args wsX10_wants RX10 := S
  have hl : lv_has ls 4 [(0, .ref (ad 0)), (1, .int mo), (2, .int sv)] := hl
  have hinX10 : ∀ w ∈ u_ws RX10 TX10 8, w ∈ wsX10_wants := by decide +kernel
  have hf21 := S.2.2.2.2 (.fieldLink RX10 21 "AwakeTurns" "crew" "LAwakeTurns$Crew;") (by decide +kernel)
  have hinX0 : ∀ w ∈ u_ws RX0 TX0 7, w ∈ wsX10_wants := by decide +kernel
  have hf133 := S.2.2.2.2 (.fieldLink RX10 133 "AwakeTurns$Crew" "wanted" "[I") (by decide +kernel)
  refine lv_iload_n S.1 S.2.1 dX10_wants_0 rfl (lv_at hl 1 rfl) ?_
  refine aw_callS S hE (c_X10_isMonth l G mo) gX10_wants_X10_isMonth (n := 1) rfl (by decide +kernel) rfl (by rw [hRm]; exact ⟨Nat.le_of_ble_eq_true rfl, Nat.le_of_ble_eq_true rfl⟩) (by rw [hRm]; exact ⟨Nat.le_of_ble_eq_true rfl, Nat.le_of_ble_eq_true rfl⟩) hw hA hl.1 [] rfl rfl rfl (Nat.le_of_ble_eq_true rfl) dX10_wants_1 ?_
  rintro v w1 H locs ⟨rfl, rfl⟩ hw
  have hw : bW G A s.heap [[(ad 0, .inr (9, [.ref (ad 1), .ref (ad 2), .ref (ad 3), .ref (ad 4), .ref (ad 5), .ref (ad 6), .ref (ad 7), .int fl]))], [(ad 2, .inr (0, [.ref (ad 8), .ref (ad 9), .ref (ad 10), .ref (ad 11), .ref (ad 12), .int (nI n), .int lw]))], [(ad 10, .inl (gI G, 12, .inl wa))]] H locs := hw
  refine W.eq (g2 := (F0 m 4 ls [.int (if 0 ≤ mo.toInt ∧ mo.toInt < 12 then 1 else 0)])) rfl ?_
  refine aw_ifeq (P := 0 ≤ mo.toInt ∧ mo.toInt < 12) (tgt := 17) S dX10_wants_4 (by decide) (fun c4 => ?_) (fun c4 => ?_)
  · refine lv_bipush (v := (-2)) S.1 S.2.1 dX10_wants_17 (by decide) ?_
    have hw := aw_arr hw 2 rfl (f_wantsT n wa mo sv) (fun _ _ => by unfold f_wantsT; first | rw [if_neg (by omega)] | rw [if_pos (by omega)])
    have hw : bW G A s.heap [[(ad 0, .inr (9, [.ref (ad 1), .ref (ad 2), .ref (ad 3), .ref (ad 4), .ref (ad 5), .ref (ad 6), .ref (ad 7), .int fl]))], [(ad 2, .inr (0, [.ref (ad 8), .ref (ad 9), .ref (ad 10), .ref (ad 11), .ref (ad 12), .int (nI n), .int lw]))], [(ad 10, .inl (gI G, 12, .inl (f_wantsT n wa mo sv)))]] H locs := hw
    refine aw_eqi (show ((-2) : Int32) = f_wants n wa mo sv from (by unfold f_wants; first | rw [if_neg (by omega)] | (rw [if_pos (by omega)]; first | rw [if_pos c24] | rw [if_neg c24]))) ?_
    exact aw_iret S hr hlk ha hQ hAe hw dX10_wants_19 rfl (Nat.le_of_ble_eq_true rfl) (Nat.le_of_ble_eq_true rfl) ⟨rfl, rfl⟩
  · have hb_mo : tn mo < 12 := aw_tnL c4
    have hl := Eq.mp (congrArg (fun z_ : Int32 => lv_has ls 4 [(0, .ref (ad 0)), (1, .int z_), (2, .int sv)]) (show (mo : Int32) = nI (tn mo) from (aw_tnE c4))) hl
    have hl : lv_has ls 4 [(0, .ref (ad 0)), (1, .int (nI (tn mo))), (2, .int sv)] := hl
    refine lv_iload_n S.1 S.2.1 dX10_wants_7 rfl (lv_at hl 2 rfl) ?_
    refine lv_if_lt (tgt := 17) S.1 S.2.1 dX10_wants_8 (by decide) (fun c8 => ?_) (fun c8 => ?_)
    · rw [fa_lt, li_0] at c8
      refine lv_bipush (v := (-2)) S.1 S.2.1 dX10_wants_17 (by decide) ?_
      have hw := aw_arr hw 2 rfl (f_wantsT n wa mo sv) (fun _ _ => by unfold f_wantsT; first | rw [if_neg (by omega)] | rw [if_pos (by omega)])
      have hw : bW G A s.heap [[(ad 0, .inr (9, [.ref (ad 1), .ref (ad 2), .ref (ad 3), .ref (ad 4), .ref (ad 5), .ref (ad 6), .ref (ad 7), .int fl]))], [(ad 2, .inr (0, [.ref (ad 8), .ref (ad 9), .ref (ad 10), .ref (ad 11), .ref (ad 12), .int (nI n), .int lw]))], [(ad 10, .inl (gI G, 12, .inl (f_wantsT n wa mo sv)))]] H locs := hw
      refine aw_eqi (show ((-2) : Int32) = f_wants n wa mo sv from (by unfold f_wants; first | rw [if_neg (by omega)] | (rw [if_pos (by omega)]; first | rw [if_pos c24] | rw [if_neg c24]))) ?_
      exact aw_iret S hr hlk ha hQ hAe hw dX10_wants_19 rfl (Nat.le_of_ble_eq_true rfl) (Nat.le_of_ble_eq_true rfl) ⟨rfl, rfl⟩
    · rw [fa_lt, li_0] at c8
      refine lv_iload_n S.1 S.2.1 dX10_wants_11 rfl (lv_at hl 2 rfl) ?_
      refine lv_bipush (v := 7) S.1 S.2.1 dX10_wants_12 (by decide) ?_
      refine lv_icmp_le (tgt := 20) S.1 S.2.1 dX10_wants_14 (by decide) (fun c14 => ?_) (fun c14 => ?_)
      · rw [fa_le, li_7] at c14
        refine lv_aload_n S.1 S.2.1 dX10_wants_20 rfl (lv_at hl 0 rfl) ?_
        refine aw_callV S hE (c_X10_noShip l G ad fl n lw (by first | assumption | omega)) gX10_wants_X10_noShip (n := 0) rfl (by decide +kernel) rfl (by rw [hRm]; exact ⟨Nat.le_of_ble_eq_true rfl, Nat.le_of_ble_eq_true rfl⟩) (by rw [hRm]; exact ⟨Nat.le_of_ble_eq_true rfl, Nat.le_of_ble_eq_true rfl⟩) hw hA hl.1 [0, 1] rfl rfl (aw_recv (i := 0) hE hw rfl rfl rfl) rfl (Nat.le_of_ble_eq_true rfl) dX10_wants_21 ?_
        rintro v w1 H locs ⟨rfl, rfl⟩ hw
        have hw : bW G A s.heap [[(ad 0, .inr (9, [.ref (ad 1), .ref (ad 2), .ref (ad 3), .ref (ad 4), .ref (ad 5), .ref (ad 6), .ref (ad 7), .int fl]))], [(ad 2, .inr (0, [.ref (ad 8), .ref (ad 9), .ref (ad 10), .ref (ad 11), .ref (ad 12), .int (nI n), .int lw]))], [(ad 10, .inl (gI G, 12, .inl wa))]] H locs := hw
        refine W.eq (g2 := (F0 m 24 ls [.int (if n = 0 then 1 else 0)])) rfl ?_
        refine aw_ifeq (P := n = 0) (tgt := 30) S dX10_wants_24 (by decide) (fun c24 => ?_) (fun c24 => ?_)
        · refine lv_aload_n S.1 S.2.1 dX10_wants_30 rfl (lv_at hl 0 rfl) ?_
          refine aw_get S hE hw 0 (C := RX10) (T := TX10) (N := 8) rfl rfl hinX10 1 (by decide) hf21 rfl dX10_wants_31 ?_
          refine aw_get S hE hw 1 (C := RX0) (T := TX0) (N := 7) rfl rfl hinX0 2 (by decide) hf133 rfl dX10_wants_34 ?_
          refine lv_iload_n S.1 S.2.1 dX10_wants_37 rfl (lv_at hl 1 rfl) ?_
          refine aw_iald S hE hw 2 (k := (tn mo)) rfl (by omega) (by decide) dX10_wants_38 ?_
          refine lv_istore_n (lv' := [(3, .int (wa (tn mo))), (0, .ref (ad 0)), (1, .int (nI (tn mo))), (2, .int sv)]) S.1 S.2.1 dX10_wants_39 rfl hl (by decide) rfl (fun ls hl => ?_)
          refine lv_aload_n S.1 S.2.1 dX10_wants_40 rfl (lv_at hl 1 rfl) ?_
          refine aw_get S hE hw 0 (C := RX10) (T := TX10) (N := 8) rfl rfl hinX10 1 (by decide) hf21 rfl dX10_wants_41 ?_
          refine aw_get S hE hw 1 (C := RX0) (T := TX0) (N := 7) rfl rfl hinX0 2 (by decide) hf133 rfl dX10_wants_44 ?_
          refine lv_iload_n S.1 S.2.1 dX10_wants_47 rfl (lv_at hl 2 rfl) ?_
          refine lv_iload_n S.1 S.2.1 dX10_wants_48 rfl (lv_at hl 3 rfl) ?_
          refine aw_iast S hE hw 2 (k := (tn mo)) rfl (by omega) (by decide) dX10_wants_49 (fun H locs hw => ?_)
          have hw : bW G A s.heap [[(ad 0, .inr (9, [.ref (ad 1), .ref (ad 2), .ref (ad 3), .ref (ad 4), .ref (ad 5), .ref (ad 6), .ref (ad 7), .int fl]))], [(ad 2, .inr (0, [.ref (ad 8), .ref (ad 9), .ref (ad 10), .ref (ad 11), .ref (ad 12), .int (nI n), .int lw]))], [(ad 10, .inl (gI G, 12, .inl (upd wa (tn mo) sv)))]] H locs := hw
          refine lv_iload_n S.1 S.2.1 dX10_wants_50 rfl (lv_at hl 0 rfl) ?_
          have hw := aw_arr hw 2 rfl (f_wantsT n wa mo sv) (fun _ _ => by unfold f_wantsT; first | rw [if_neg (by omega)] | rw [if_pos (by omega)])
          have hw : bW G A s.heap [[(ad 0, .inr (9, [.ref (ad 1), .ref (ad 2), .ref (ad 3), .ref (ad 4), .ref (ad 5), .ref (ad 6), .ref (ad 7), .int fl]))], [(ad 2, .inr (0, [.ref (ad 8), .ref (ad 9), .ref (ad 10), .ref (ad 11), .ref (ad 12), .int (nI n), .int lw]))], [(ad 10, .inl (gI G, 12, .inl (f_wantsT n wa mo sv)))]] H locs := hw
          refine aw_eqi (show (wa (tn mo) : Int32) = f_wants n wa mo sv from (by unfold f_wants; first | rw [if_neg (by omega)] | (rw [if_pos (by omega)]; first | rw [if_pos c24] | rw [if_neg c24]))) ?_
          exact aw_iret S hr hlk ha hQ hAe hw dX10_wants_51 rfl (Nat.le_of_ble_eq_true rfl) (Nat.le_of_ble_eq_true rfl) ⟨rfl, rfl⟩
        · refine lv_bipush (v := (-3)) S.1 S.2.1 dX10_wants_27 (by decide) ?_
          have hw := aw_arr hw 2 rfl (f_wantsT n wa mo sv) (fun _ _ => by unfold f_wantsT; first | rw [if_neg (by omega)] | rw [if_pos (by omega)])
          have hw : bW G A s.heap [[(ad 0, .inr (9, [.ref (ad 1), .ref (ad 2), .ref (ad 3), .ref (ad 4), .ref (ad 5), .ref (ad 6), .ref (ad 7), .int fl]))], [(ad 2, .inr (0, [.ref (ad 8), .ref (ad 9), .ref (ad 10), .ref (ad 11), .ref (ad 12), .int (nI n), .int lw]))], [(ad 10, .inl (gI G, 12, .inl (f_wantsT n wa mo sv)))]] H locs := hw
          refine aw_eqi (show ((-3) : Int32) = f_wants n wa mo sv from (by unfold f_wants; first | rw [if_neg (by omega)] | (rw [if_pos (by omega)]; first | rw [if_pos c24] | rw [if_neg c24]))) ?_
          exact aw_iret S hr hlk ha hQ hAe hw dX10_wants_29 rfl (Nat.le_of_ble_eq_true rfl) (Nat.le_of_ble_eq_true rfl) ⟨rfl, rfl⟩
      · rw [fa_le, li_7] at c14
        refine lv_bipush (v := (-2)) S.1 S.2.1 dX10_wants_17 (by decide) ?_
        have hw := aw_arr hw 2 rfl (f_wantsT n wa mo sv) (fun _ _ => by unfold f_wantsT; first | rw [if_neg (by omega)] | rw [if_pos (by omega)])
        have hw : bW G A s.heap [[(ad 0, .inr (9, [.ref (ad 1), .ref (ad 2), .ref (ad 3), .ref (ad 4), .ref (ad 5), .ref (ad 6), .ref (ad 7), .int fl]))], [(ad 2, .inr (0, [.ref (ad 8), .ref (ad 9), .ref (ad 10), .ref (ad 11), .ref (ad 12), .int (nI n), .int lw]))], [(ad 10, .inl (gI G, 12, .inl (f_wantsT n wa mo sv)))]] H locs := hw
        refine aw_eqi (show ((-2) : Int32) = f_wants n wa mo sv from (by unfold f_wants; first | rw [if_neg (by omega)] | (rw [if_pos (by omega)]; first | rw [if_pos c24] | rw [if_neg c24]))) ?_
        exact aw_iret S hr hlk ha hQ hAe hw dX10_wants_19 rfl (Nat.le_of_ble_eq_true rfl) (Nat.le_of_ble_eq_true rfl) ⟨rfl, rfl⟩
set_option maxRecDepth 100000 in
set_option maxHeartbeats 4000000 in
theorem c_X10_law (l : Launch) (G : aw_G) (ad : Nat → Nat) (fl : Int32) (n : Nat) (lw : Int32) (v : Int32) (hn : n ≤ 6) : CT l G yX10_law wsX10_law ({ frames := 1, cells := 0, slots := 0, locals := 20 }) [.ref (ad 0), .int v] [[(ad 0, .inr (9, [.ref (ad 1), .ref (ad 2), .ref (ad 3), .ref (ad 4), .ref (ad 5), .ref (ad 6), .ref (ad 7), .int fl]))], [(ad 2, .inr (0, [.ref (ad 8), .ref (ad 9), .ref (ad 10), .ref (ad 11), .ref (ad 12), .int (nI n), .int lw]))]] (dt (some (.int (f_law n lw v))) [[(ad 0, .inr (9, [.ref (ad 1), .ref (ad 2), .ref (ad 3), .ref (ad 4), .ref (ad 5), .ref (ad 6), .ref (ad 7), .int fl]))], [(ad 2, .inr (0, [.ref (ad 8), .ref (ad 9), .ref (ad 10), .ref (ad 11), .ref (ad 12), .int (nI n), .int (f_lawT n lw v)]))]]) := by
  refine CT.of (cc := cX10_law) (nL := 3) (ret := (some .int)) (by decide) rfl (Nat.le_of_ble_eq_true rfl) ?_
  intro p e s m below meth c R args Q A hRm ha hQ hAe hA S hE hr hlk hnm H locs hH0 hL0 ls hl hw
  have S : CallFix p m c cX10_law 3 s args wsX10_law RX10 := S
  have hl : lv_has ls 3 [(0, .ref (ad 0)), (1, .int v)] := hl
  have hinX10 : ∀ w ∈ u_ws RX10 TX10 8, w ∈ wsX10_law := by decide +kernel
  have hf21 := S.2.2.2.2 (.fieldLink RX10 21 "AwakeTurns" "crew" "LAwakeTurns$Crew;") (by decide +kernel)
  have hinX0 : ∀ w ∈ u_ws RX0 TX0 7, w ∈ wsX10_law := by decide +kernel
  have hf136 := S.2.2.2.2 (.fieldLink RX10 136 "AwakeTurns$Crew" "lawNow" "I") (by decide +kernel)
  refine lv_iload_n S.1 S.2.1 dX10_law_0 rfl (lv_at hl 1 rfl) ?_
  refine lv_if_eq (tgt := 12) S.1 S.2.1 dX10_law_1 (by decide) (fun c1 => ?_) (fun c1 => ?_)
  · refine lv_aload_n S.1 S.2.1 dX10_law_12 rfl (lv_at hl 0 rfl) ?_
    refine aw_callV S hE (c_X10_noShip l G ad fl n lw (by first | assumption | omega)) gX10_law_X10_noShip (n := 0) rfl (by decide +kernel) rfl (by rw [hRm]; exact ⟨Nat.le_of_ble_eq_true rfl, Nat.le_of_ble_eq_true rfl⟩) (by rw [hRm]; exact ⟨Nat.le_of_ble_eq_true rfl, Nat.le_of_ble_eq_true rfl⟩) hw hA hl.1 [0, 1] rfl rfl (aw_recv (i := 0) hE hw rfl rfl rfl) rfl (Nat.le_of_ble_eq_true rfl) dX10_law_13 ?_
    rintro v w1 H locs ⟨rfl, rfl⟩ hw
    have hw : bW G A s.heap [[(ad 0, .inr (9, [.ref (ad 1), .ref (ad 2), .ref (ad 3), .ref (ad 4), .ref (ad 5), .ref (ad 6), .ref (ad 7), .int fl]))], [(ad 2, .inr (0, [.ref (ad 8), .ref (ad 9), .ref (ad 10), .ref (ad 11), .ref (ad 12), .int (nI n), .int lw]))]] H locs := hw
    refine W.eq (g2 := (F0 m 16 ls [.int (if n = 0 then 1 else 0)])) rfl ?_
    refine aw_ifeq (P := n = 0) (tgt := 22) S dX10_law_16 (by decide) (fun c16 => ?_) (fun c16 => ?_)
    · refine lv_aload_n S.1 S.2.1 dX10_law_22 rfl (lv_at hl 0 rfl) ?_
      refine aw_get S hE hw 0 (C := RX10) (T := TX10) (N := 8) rfl rfl hinX10 1 (by decide) hf21 rfl dX10_law_23 ?_
      refine aw_get S hE hw 1 (C := RX0) (T := TX0) (N := 7) rfl rfl hinX0 6 (by decide) hf136 rfl dX10_law_26 ?_
      refine lv_istore_n (lv' := [(2, .int lw), (0, .ref (ad 0)), (1, .int v)]) S.1 S.2.1 dX10_law_29 rfl hl (by decide) rfl (fun ls hl => ?_)
      refine lv_aload_n S.1 S.2.1 dX10_law_30 rfl (lv_at hl 1 rfl) ?_
      refine aw_get S hE hw 0 (C := RX10) (T := TX10) (N := 8) rfl rfl hinX10 1 (by decide) hf21 rfl dX10_law_31 ?_
      refine lv_iload_n S.1 S.2.1 dX10_law_34 rfl (lv_at hl 2 rfl) ?_
      refine aw_putf S hE hw 1 (C := RX0) (T := TX0) (N := 7) rfl rfl hinX0 tyX0 tyX0_ok nmX0 6 (by decide) hf136 rfl rfl rfl (Nat.le_of_ble_eq_true rfl) dX10_law_35 (fun H locs hw => ?_)
      have hw : bW G A s.heap [[(ad 0, .inr (9, [.ref (ad 1), .ref (ad 2), .ref (ad 3), .ref (ad 4), .ref (ad 5), .ref (ad 6), .ref (ad 7), .int fl]))], [(ad 2, .inr (0, [.ref (ad 8), .ref (ad 9), .ref (ad 10), .ref (ad 11), .ref (ad 12), .int (nI n), .int v]))]] H locs := hw
      refine lv_iload_n S.1 S.2.1 dX10_law_38 rfl (lv_at hl 0 rfl) ?_
      have hw := Eq.mp (congrArg (fun z_ : Int32 => bW G A s.heap [[(ad 0, .inr (9, [.ref (ad 1), .ref (ad 2), .ref (ad 3), .ref (ad 4), .ref (ad 5), .ref (ad 6), .ref (ad 7), .int fl]))], [(ad 2, .inr (0, [.ref (ad 8), .ref (ad 9), .ref (ad 10), .ref (ad 11), .ref (ad 12), .int (nI n), .int z_]))]] H locs) (show (v : Int32) = f_lawT n lw v from (by simp [f_lawT, c1, c16]))) hw
      have hw : bW G A s.heap [[(ad 0, .inr (9, [.ref (ad 1), .ref (ad 2), .ref (ad 3), .ref (ad 4), .ref (ad 5), .ref (ad 6), .ref (ad 7), .int fl]))], [(ad 2, .inr (0, [.ref (ad 8), .ref (ad 9), .ref (ad 10), .ref (ad 11), .ref (ad 12), .int (nI n), .int (f_lawT n lw v)]))]] H locs := hw
      refine aw_eqi (show (lw : Int32) = f_law n lw v from (by simp [f_law, c1, c16])) ?_
      exact aw_iret S hr hlk ha hQ hAe hw dX10_law_39 rfl (Nat.le_of_ble_eq_true rfl) (Nat.le_of_ble_eq_true rfl) ⟨rfl, rfl⟩
    · refine lv_bipush (v := (-3)) S.1 S.2.1 dX10_law_19 (by decide) ?_
      have hw := Eq.mp (congrArg (fun z_ : Int32 => bW G A s.heap [[(ad 0, .inr (9, [.ref (ad 1), .ref (ad 2), .ref (ad 3), .ref (ad 4), .ref (ad 5), .ref (ad 6), .ref (ad 7), .int fl]))], [(ad 2, .inr (0, [.ref (ad 8), .ref (ad 9), .ref (ad 10), .ref (ad 11), .ref (ad 12), .int (nI n), .int z_]))]] H locs) (show (lw : Int32) = f_lawT n lw v from (by simp [f_lawT, c1, c16]))) hw
      have hw : bW G A s.heap [[(ad 0, .inr (9, [.ref (ad 1), .ref (ad 2), .ref (ad 3), .ref (ad 4), .ref (ad 5), .ref (ad 6), .ref (ad 7), .int fl]))], [(ad 2, .inr (0, [.ref (ad 8), .ref (ad 9), .ref (ad 10), .ref (ad 11), .ref (ad 12), .int (nI n), .int (f_lawT n lw v)]))]] H locs := hw
      refine aw_eqi (show ((-3) : Int32) = f_law n lw v from (by simp [f_law, c1, c16])) ?_
      exact aw_iret S hr hlk ha hQ hAe hw dX10_law_21 rfl (Nat.le_of_ble_eq_true rfl) (Nat.le_of_ble_eq_true rfl) ⟨rfl, rfl⟩
  · refine lv_iload_n S.1 S.2.1 dX10_law_4 rfl (lv_at hl 1 rfl) ?_
    refine lv_iconst (v := 1) S.1 S.2.1 dX10_law_5 (by decide) ?_
    refine lv_icmp_eq (tgt := 12) S.1 S.2.1 dX10_law_6 (by decide) (fun c6 => ?_) (fun c6 => ?_)
    · refine lv_aload_n S.1 S.2.1 dX10_law_12 rfl (lv_at hl 0 rfl) ?_
      refine aw_callV S hE (c_X10_noShip l G ad fl n lw (by first | assumption | omega)) gX10_law_X10_noShip (n := 0) rfl (by decide +kernel) rfl (by rw [hRm]; exact ⟨Nat.le_of_ble_eq_true rfl, Nat.le_of_ble_eq_true rfl⟩) (by rw [hRm]; exact ⟨Nat.le_of_ble_eq_true rfl, Nat.le_of_ble_eq_true rfl⟩) hw hA hl.1 [0, 1] rfl rfl (aw_recv (i := 0) hE hw rfl rfl rfl) rfl (Nat.le_of_ble_eq_true rfl) dX10_law_13 ?_
      rintro v w1 H locs ⟨rfl, rfl⟩ hw
      have hw : bW G A s.heap [[(ad 0, .inr (9, [.ref (ad 1), .ref (ad 2), .ref (ad 3), .ref (ad 4), .ref (ad 5), .ref (ad 6), .ref (ad 7), .int fl]))], [(ad 2, .inr (0, [.ref (ad 8), .ref (ad 9), .ref (ad 10), .ref (ad 11), .ref (ad 12), .int (nI n), .int lw]))]] H locs := hw
      refine W.eq (g2 := (F0 m 16 ls [.int (if n = 0 then 1 else 0)])) rfl ?_
      refine aw_ifeq (P := n = 0) (tgt := 22) S dX10_law_16 (by decide) (fun c16 => ?_) (fun c16 => ?_)
      · refine lv_aload_n S.1 S.2.1 dX10_law_22 rfl (lv_at hl 0 rfl) ?_
        refine aw_get S hE hw 0 (C := RX10) (T := TX10) (N := 8) rfl rfl hinX10 1 (by decide) hf21 rfl dX10_law_23 ?_
        refine aw_get S hE hw 1 (C := RX0) (T := TX0) (N := 7) rfl rfl hinX0 6 (by decide) hf136 rfl dX10_law_26 ?_
        refine lv_istore_n (lv' := [(2, .int lw), (0, .ref (ad 0)), (1, .int v)]) S.1 S.2.1 dX10_law_29 rfl hl (by decide) rfl (fun ls hl => ?_)
        refine lv_aload_n S.1 S.2.1 dX10_law_30 rfl (lv_at hl 1 rfl) ?_
        refine aw_get S hE hw 0 (C := RX10) (T := TX10) (N := 8) rfl rfl hinX10 1 (by decide) hf21 rfl dX10_law_31 ?_
        refine lv_iload_n S.1 S.2.1 dX10_law_34 rfl (lv_at hl 2 rfl) ?_
        refine aw_putf S hE hw 1 (C := RX0) (T := TX0) (N := 7) rfl rfl hinX0 tyX0 tyX0_ok nmX0 6 (by decide) hf136 rfl rfl rfl (Nat.le_of_ble_eq_true rfl) dX10_law_35 (fun H locs hw => ?_)
        have hw : bW G A s.heap [[(ad 0, .inr (9, [.ref (ad 1), .ref (ad 2), .ref (ad 3), .ref (ad 4), .ref (ad 5), .ref (ad 6), .ref (ad 7), .int fl]))], [(ad 2, .inr (0, [.ref (ad 8), .ref (ad 9), .ref (ad 10), .ref (ad 11), .ref (ad 12), .int (nI n), .int v]))]] H locs := hw
        refine lv_iload_n S.1 S.2.1 dX10_law_38 rfl (lv_at hl 0 rfl) ?_
        have hw := Eq.mp (congrArg (fun z_ : Int32 => bW G A s.heap [[(ad 0, .inr (9, [.ref (ad 1), .ref (ad 2), .ref (ad 3), .ref (ad 4), .ref (ad 5), .ref (ad 6), .ref (ad 7), .int fl]))], [(ad 2, .inr (0, [.ref (ad 8), .ref (ad 9), .ref (ad 10), .ref (ad 11), .ref (ad 12), .int (nI n), .int z_]))]] H locs) (show (v : Int32) = f_lawT n lw v from (by simp [f_lawT, c1, c6, c16]))) hw
        have hw : bW G A s.heap [[(ad 0, .inr (9, [.ref (ad 1), .ref (ad 2), .ref (ad 3), .ref (ad 4), .ref (ad 5), .ref (ad 6), .ref (ad 7), .int fl]))], [(ad 2, .inr (0, [.ref (ad 8), .ref (ad 9), .ref (ad 10), .ref (ad 11), .ref (ad 12), .int (nI n), .int (f_lawT n lw v)]))]] H locs := hw
        refine aw_eqi (show (lw : Int32) = f_law n lw v from (by simp [f_law, c1, c6, c16])) ?_
        exact aw_iret S hr hlk ha hQ hAe hw dX10_law_39 rfl (Nat.le_of_ble_eq_true rfl) (Nat.le_of_ble_eq_true rfl) ⟨rfl, rfl⟩
      · refine lv_bipush (v := (-3)) S.1 S.2.1 dX10_law_19 (by decide) ?_
        have hw := Eq.mp (congrArg (fun z_ : Int32 => bW G A s.heap [[(ad 0, .inr (9, [.ref (ad 1), .ref (ad 2), .ref (ad 3), .ref (ad 4), .ref (ad 5), .ref (ad 6), .ref (ad 7), .int fl]))], [(ad 2, .inr (0, [.ref (ad 8), .ref (ad 9), .ref (ad 10), .ref (ad 11), .ref (ad 12), .int (nI n), .int z_]))]] H locs) (show (lw : Int32) = f_lawT n lw v from (by simp [f_lawT, c1, c6, c16]))) hw
        have hw : bW G A s.heap [[(ad 0, .inr (9, [.ref (ad 1), .ref (ad 2), .ref (ad 3), .ref (ad 4), .ref (ad 5), .ref (ad 6), .ref (ad 7), .int fl]))], [(ad 2, .inr (0, [.ref (ad 8), .ref (ad 9), .ref (ad 10), .ref (ad 11), .ref (ad 12), .int (nI n), .int (f_lawT n lw v)]))]] H locs := hw
        refine aw_eqi (show ((-3) : Int32) = f_law n lw v from (by simp [f_law, c1, c6, c16])) ?_
        exact aw_iret S hr hlk ha hQ hAe hw dX10_law_21 rfl (Nat.le_of_ble_eq_true rfl) (Nat.le_of_ble_eq_true rfl) ⟨rfl, rfl⟩
    · refine lv_bipush (v := (-2)) S.1 S.2.1 dX10_law_9 (by decide) ?_
      have hw := Eq.mp (congrArg (fun z_ : Int32 => bW G A s.heap [[(ad 0, .inr (9, [.ref (ad 1), .ref (ad 2), .ref (ad 3), .ref (ad 4), .ref (ad 5), .ref (ad 6), .ref (ad 7), .int fl]))], [(ad 2, .inr (0, [.ref (ad 8), .ref (ad 9), .ref (ad 10), .ref (ad 11), .ref (ad 12), .int (nI n), .int z_]))]] H locs) (show (lw : Int32) = f_lawT n lw v from (by simp [f_lawT, c1, c6]))) hw
      have hw : bW G A s.heap [[(ad 0, .inr (9, [.ref (ad 1), .ref (ad 2), .ref (ad 3), .ref (ad 4), .ref (ad 5), .ref (ad 6), .ref (ad 7), .int fl]))], [(ad 2, .inr (0, [.ref (ad 8), .ref (ad 9), .ref (ad 10), .ref (ad 11), .ref (ad 12), .int (nI n), .int (f_lawT n lw v)]))]] H locs := hw
      refine aw_eqi (show ((-2) : Int32) = f_law n lw v from (by simp [f_law, c1, c6])) ?_
      exact aw_iret S hr hlk ha hQ hAe hw dX10_law_11 rfl (Nat.le_of_ble_eq_true rfl) (Nat.le_of_ble_eq_true rfl) ⟨rfl, rfl⟩
set_option maxRecDepth 100000 in
set_option maxHeartbeats 4000000 in
theorem c_X10_tear (l : Launch) (G : aw_G) (ad : Nat → Nat) (fl : Int32) (nn nr : Nat) (k : Int32) (hnn : nn ≤ 8) : CT l G yX10_tear wsX10_tear ({ frames := 0, cells := 0, slots := 0, locals := 0 }) [.ref (ad 0), .int k] [[(ad 0, .inr (9, [.ref (ad 1), .ref (ad 2), .ref (ad 3), .ref (ad 4), .ref (ad 5), .ref (ad 6), .ref (ad 7), .int fl]))], [(ad 5, .inr (4, [.ref (ad 16), .ref (ad 17), .ref (ad 18), .ref (ad 19), .ref (ad 20), .ref (ad 21), .int (nI nn), .int (nI nr)]))]] (dt (some (.int (f_tear nn k))) [[(ad 0, .inr (9, [.ref (ad 1), .ref (ad 2), .ref (ad 3), .ref (ad 4), .ref (ad 5), .ref (ad 6), .ref (ad 7), .int fl]))], [(ad 5, .inr (4, [.ref (ad 16), .ref (ad 17), .ref (ad 18), .ref (ad 19), .ref (ad 20), .ref (ad 21), .int (nI (f_tearT nn k)), .int (nI nr)]))]]) := by
  refine CT.of (cc := cX10_tear) (nL := 2) (ret := (some .int)) (by decide) rfl (Nat.le_of_ble_eq_true rfl) ?_
  intro p e s m below meth c R args Q A hRm ha hQ hAe hA S hE hr hlk hnm H locs hH0 hL0 ls hl hw
  have S : CallFix p m c cX10_tear 2 s args wsX10_tear RX10 := S
  have hl : lv_has ls 2 [(0, .ref (ad 0)), (1, .int k)] := hl
  have hinX10 : ∀ w ∈ u_ws RX10 TX10 8, w ∈ wsX10_tear := by decide +kernel
  have hf44 := S.2.2.2.2 (.fieldLink RX10 44 "AwakeTurns" "news" "LAwakeTurns$News;") (by decide +kernel)
  have hinX4 : ∀ w ∈ u_ws RX4 TX4 8, w ∈ wsX10_tear := by decide +kernel
  have hf143 := S.2.2.2.2 (.fieldLink RX10 143 "AwakeTurns$News" "notes" "I") (by decide +kernel)
  have e1 := nI_toInt (show nn < 2 ^ 31 by omega)
  refine lv_iload_n S.1 S.2.1 dX10_tear_0 rfl (lv_at hl 1 rfl) ?_
  refine lv_if_lt (tgt := 15) S.1 S.2.1 dX10_tear_1 (by decide) (fun c1 => ?_) (fun c1 => ?_)
  · rw [fa_lt, li_0] at c1
    refine lv_bipush (v := (-2)) S.1 S.2.1 dX10_tear_15 (by decide) ?_
    rw [show (nI nn : Int32) = nI (f_tearT nn k) from by unfold f_tearT; first | rw [if_neg (by omega)] | rw [if_pos (by omega)]] at hw
    refine aw_eqi (show ((-2) : Int32) = f_tear nn k from (by unfold f_tear; first | rw [if_neg (by omega)] | rw [if_pos (by omega)])) ?_
    exact aw_iret S hr hlk ha hQ hAe hw dX10_tear_17 rfl (Nat.le_of_ble_eq_true rfl) (Nat.le_of_ble_eq_true rfl) ⟨rfl, rfl⟩
  · rw [fa_lt, li_0] at c1
    refine lv_iload_n S.1 S.2.1 dX10_tear_4 rfl (lv_at hl 1 rfl) ?_
    refine lv_aload_n S.1 S.2.1 dX10_tear_5 rfl (lv_at hl 0 rfl) ?_
    refine aw_get S hE hw 0 (C := RX10) (T := TX10) (N := 8) rfl rfl hinX10 4 (by decide) hf44 rfl dX10_tear_6 ?_
    refine aw_get S hE hw 1 (C := RX4) (T := TX4) (N := 8) rfl rfl hinX4 6 (by decide) hf143 rfl dX10_tear_9 ?_
    refine lv_icmp_le (tgt := 18) S.1 S.2.1 dX10_tear_12 (by decide) (fun c12 => ?_) (fun c12 => ?_)
    · rw [fa_le, e1] at c12
      have hkk : 0 ≤ k.toInt ∧ k.toInt < ((nn + 1 : Nat) : Int) := by omega
      have hb_k : tn k < nn + 1 := aw_tnL hkk
      have hl := Eq.mp (congrArg (fun z_ : Int32 => lv_has ls 2 [(0, .ref (ad 0)), (1, .int z_)]) (show (k : Int32) = nI (tn k) from (aw_tnE hkk))) hl
      have hl : lv_has ls 2 [(0, .ref (ad 0)), (1, .int (nI (tn k)))] := hl
      refine lv_aload_n S.1 S.2.1 dX10_tear_18 rfl (lv_at hl 0 rfl) ?_
      refine aw_get S hE hw 0 (C := RX10) (T := TX10) (N := 8) rfl rfl hinX10 4 (by decide) hf44 rfl dX10_tear_19 ?_
      refine lv_dup S.1 S.2.1 dX10_tear_22 rfl ?_
      refine aw_get S hE hw 1 (C := RX4) (T := TX4) (N := 8) rfl rfl hinX4 6 (by decide) hf143 rfl dX10_tear_23 ?_
      refine lv_iload_n S.1 S.2.1 dX10_tear_26 rfl (lv_at hl 1 rfl) ?_
      refine lv_isub S.1 S.2.1 dX10_tear_27 ?_
      refine aw_eqi (show ((nI nn) - (nI (tn k)) : Int32) = nI (nn - (tn k)) from (pk_sub (a := nn) (b := tn k) (by omega))) ?_
      refine aw_putf S hE hw 1 (C := RX4) (T := TX4) (N := 8) rfl rfl hinX4 tyX4 tyX4_ok nmX4 6 (by decide) hf143 rfl rfl rfl (Nat.le_of_ble_eq_true rfl) dX10_tear_28 (fun H locs hw => ?_)
      have hw : bW G A s.heap [[(ad 0, .inr (9, [.ref (ad 1), .ref (ad 2), .ref (ad 3), .ref (ad 4), .ref (ad 5), .ref (ad 6), .ref (ad 7), .int fl]))], [(ad 5, .inr (4, [.ref (ad 16), .ref (ad 17), .ref (ad 18), .ref (ad 19), .ref (ad 20), .ref (ad 21), .int (nI (nn - (tn k))), .int (nI nr)]))]] H locs := hw
      refine lv_aload_n S.1 S.2.1 dX10_tear_31 rfl (lv_at hl 0 rfl) ?_
      refine aw_get S hE hw 0 (C := RX10) (T := TX10) (N := 8) rfl rfl hinX10 4 (by decide) hf44 rfl dX10_tear_32 ?_
      refine aw_get S hE hw 1 (C := RX4) (T := TX4) (N := 8) rfl rfl hinX4 6 (by decide) hf143 rfl dX10_tear_35 ?_
      rw [show (nI (nn - (tn k)) : Int32) = nI (f_tearT nn k) from by unfold f_tearT; first | rw [if_neg (by omega)] | rw [if_pos (by omega)]] at hw
      refine aw_eqi (show (nI (nn - (tn k)) : Int32) = f_tear nn k from (by unfold f_tear; first | rw [if_neg (by omega)] | rw [if_pos (by omega)])) ?_
      exact aw_iret S hr hlk ha hQ hAe hw dX10_tear_38 rfl (Nat.le_of_ble_eq_true rfl) (Nat.le_of_ble_eq_true rfl) ⟨rfl, rfl⟩
    · rw [fa_le, e1] at c12
      refine lv_bipush (v := (-2)) S.1 S.2.1 dX10_tear_15 (by decide) ?_
      rw [show (nI nn : Int32) = nI (f_tearT nn k) from by unfold f_tearT; first | rw [if_neg (by omega)] | rw [if_pos (by omega)]] at hw
      refine aw_eqi (show ((-2) : Int32) = f_tear nn k from (by unfold f_tear; first | rw [if_neg (by omega)] | rw [if_pos (by omega)])) ?_
      exact aw_iret S hr hlk ha hQ hAe hw dX10_tear_17 rfl (Nat.le_of_ble_eq_true rfl) (Nat.le_of_ble_eq_true rfl) ⟨rfl, rfl⟩
set_option maxRecDepth 100000 in
set_option maxHeartbeats 4000000 in
theorem c_X10_back (l : Launch) (G : aw_G) (ad : Nat → Nat) (fl : Int32) (nn nr : Nat) (k : Int32) (hnr : nr ≤ 8) : CT l G yX10_back wsX10_back ({ frames := 0, cells := 0, slots := 0, locals := 0 }) [.ref (ad 0), .int k] [[(ad 0, .inr (9, [.ref (ad 1), .ref (ad 2), .ref (ad 3), .ref (ad 4), .ref (ad 5), .ref (ad 6), .ref (ad 7), .int fl]))], [(ad 5, .inr (4, [.ref (ad 16), .ref (ad 17), .ref (ad 18), .ref (ad 19), .ref (ad 20), .ref (ad 21), .int (nI nn), .int (nI nr)]))]] (dt (some (.int (f_tear nr k))) [[(ad 0, .inr (9, [.ref (ad 1), .ref (ad 2), .ref (ad 3), .ref (ad 4), .ref (ad 5), .ref (ad 6), .ref (ad 7), .int fl]))], [(ad 5, .inr (4, [.ref (ad 16), .ref (ad 17), .ref (ad 18), .ref (ad 19), .ref (ad 20), .ref (ad 21), .int (nI nn), .int (nI (f_tearT nr k))]))]]) := by
  refine CT.of (cc := cX10_back) (nL := 2) (ret := (some .int)) (by decide) rfl (Nat.le_of_ble_eq_true rfl) ?_
  intro p e s m below meth c R args Q A hRm ha hQ hAe hA S hE hr hlk hnm H locs hH0 hL0 ls hl hw
  have S : CallFix p m c cX10_back 2 s args wsX10_back RX10 := S
  have hl : lv_has ls 2 [(0, .ref (ad 0)), (1, .int k)] := hl
  have hinX10 : ∀ w ∈ u_ws RX10 TX10 8, w ∈ wsX10_back := by decide +kernel
  have hf44 := S.2.2.2.2 (.fieldLink RX10 44 "AwakeTurns" "news" "LAwakeTurns$News;") (by decide +kernel)
  have hinX4 : ∀ w ∈ u_ws RX4 TX4 8, w ∈ wsX10_back := by decide +kernel
  have hf209 := S.2.2.2.2 (.fieldLink RX10 209 "AwakeTurns$News" "readings" "I") (by decide +kernel)
  have e1 := nI_toInt (show nr < 2 ^ 31 by omega)
  refine lv_iload_n S.1 S.2.1 dX10_back_0 rfl (lv_at hl 1 rfl) ?_
  refine lv_if_lt (tgt := 15) S.1 S.2.1 dX10_back_1 (by decide) (fun c1 => ?_) (fun c1 => ?_)
  · rw [fa_lt, li_0] at c1
    refine lv_bipush (v := (-2)) S.1 S.2.1 dX10_back_15 (by decide) ?_
    rw [show (nI nr : Int32) = nI (f_tearT nr k) from by unfold f_tearT; first | rw [if_neg (by omega)] | rw [if_pos (by omega)]] at hw
    refine aw_eqi (show ((-2) : Int32) = f_tear nr k from (by unfold f_tear; first | rw [if_neg (by omega)] | rw [if_pos (by omega)])) ?_
    exact aw_iret S hr hlk ha hQ hAe hw dX10_back_17 rfl (Nat.le_of_ble_eq_true rfl) (Nat.le_of_ble_eq_true rfl) ⟨rfl, rfl⟩
  · rw [fa_lt, li_0] at c1
    refine lv_iload_n S.1 S.2.1 dX10_back_4 rfl (lv_at hl 1 rfl) ?_
    refine lv_aload_n S.1 S.2.1 dX10_back_5 rfl (lv_at hl 0 rfl) ?_
    refine aw_get S hE hw 0 (C := RX10) (T := TX10) (N := 8) rfl rfl hinX10 4 (by decide) hf44 rfl dX10_back_6 ?_
    refine aw_get S hE hw 1 (C := RX4) (T := TX4) (N := 8) rfl rfl hinX4 7 (by decide) hf209 rfl dX10_back_9 ?_
    refine lv_icmp_le (tgt := 18) S.1 S.2.1 dX10_back_12 (by decide) (fun c12 => ?_) (fun c12 => ?_)
    · rw [fa_le, e1] at c12
      have hkk : 0 ≤ k.toInt ∧ k.toInt < ((nr + 1 : Nat) : Int) := by omega
      have hb_k : tn k < nr + 1 := aw_tnL hkk
      have hl := Eq.mp (congrArg (fun z_ : Int32 => lv_has ls 2 [(0, .ref (ad 0)), (1, .int z_)]) (show (k : Int32) = nI (tn k) from (aw_tnE hkk))) hl
      have hl : lv_has ls 2 [(0, .ref (ad 0)), (1, .int (nI (tn k)))] := hl
      refine lv_aload_n S.1 S.2.1 dX10_back_18 rfl (lv_at hl 0 rfl) ?_
      refine aw_get S hE hw 0 (C := RX10) (T := TX10) (N := 8) rfl rfl hinX10 4 (by decide) hf44 rfl dX10_back_19 ?_
      refine lv_dup S.1 S.2.1 dX10_back_22 rfl ?_
      refine aw_get S hE hw 1 (C := RX4) (T := TX4) (N := 8) rfl rfl hinX4 7 (by decide) hf209 rfl dX10_back_23 ?_
      refine lv_iload_n S.1 S.2.1 dX10_back_26 rfl (lv_at hl 1 rfl) ?_
      refine lv_isub S.1 S.2.1 dX10_back_27 ?_
      refine aw_eqi (show ((nI nr) - (nI (tn k)) : Int32) = nI (nr - (tn k)) from (pk_sub (a := nr) (b := tn k) (by omega))) ?_
      refine aw_putf S hE hw 1 (C := RX4) (T := TX4) (N := 8) rfl rfl hinX4 tyX4 tyX4_ok nmX4 7 (by decide) hf209 rfl rfl rfl (Nat.le_of_ble_eq_true rfl) dX10_back_28 (fun H locs hw => ?_)
      have hw : bW G A s.heap [[(ad 0, .inr (9, [.ref (ad 1), .ref (ad 2), .ref (ad 3), .ref (ad 4), .ref (ad 5), .ref (ad 6), .ref (ad 7), .int fl]))], [(ad 5, .inr (4, [.ref (ad 16), .ref (ad 17), .ref (ad 18), .ref (ad 19), .ref (ad 20), .ref (ad 21), .int (nI nn), .int (nI (nr - (tn k)))]))]] H locs := hw
      refine lv_aload_n S.1 S.2.1 dX10_back_31 rfl (lv_at hl 0 rfl) ?_
      refine aw_get S hE hw 0 (C := RX10) (T := TX10) (N := 8) rfl rfl hinX10 4 (by decide) hf44 rfl dX10_back_32 ?_
      refine aw_get S hE hw 1 (C := RX4) (T := TX4) (N := 8) rfl rfl hinX4 7 (by decide) hf209 rfl dX10_back_35 ?_
      rw [show (nI (nr - (tn k)) : Int32) = nI (f_tearT nr k) from by unfold f_tearT; first | rw [if_neg (by omega)] | rw [if_pos (by omega)]] at hw
      refine aw_eqi (show (nI (nr - (tn k)) : Int32) = f_tear nr k from (by unfold f_tear; first | rw [if_neg (by omega)] | rw [if_pos (by omega)])) ?_
      exact aw_iret S hr hlk ha hQ hAe hw dX10_back_38 rfl (Nat.le_of_ble_eq_true rfl) (Nat.le_of_ble_eq_true rfl) ⟨rfl, rfl⟩
    · rw [fa_le, e1] at c12
      refine lv_bipush (v := (-2)) S.1 S.2.1 dX10_back_15 (by decide) ?_
      rw [show (nI nr : Int32) = nI (f_tearT nr k) from by unfold f_tearT; first | rw [if_neg (by omega)] | rw [if_pos (by omega)]] at hw
      refine aw_eqi (show ((-2) : Int32) = f_tear nr k from (by unfold f_tear; first | rw [if_neg (by omega)] | rw [if_pos (by omega)])) ?_
      exact aw_iret S hr hlk ha hQ hAe hw dX10_back_17 rfl (Nat.le_of_ble_eq_true rfl) (Nat.le_of_ble_eq_true rfl) ⟨rfl, rfl⟩
set_option maxRecDepth 100000 in
set_option maxHeartbeats 4000000 in
theorem c_X10_awake (l : Launch) (G : aw_G) (ad : Nat → Nat) (fl : Int32) (n : Nat) (lw : Int32) (tu : Nat → Int32) (mo : Int32) (hn : n ≤ 6) : CT l G yX10_awake wsX10_awake ({ frames := 1, cells := 0, slots := 0, locals := 20 }) [.ref (ad 0), .int mo] [[(ad 0, .inr (9, [.ref (ad 1), .ref (ad 2), .ref (ad 3), .ref (ad 4), .ref (ad 5), .ref (ad 6), .ref (ad 7), .int fl]))], [(ad 2, .inr (0, [.ref (ad 8), .ref (ad 9), .ref (ad 10), .ref (ad 11), .ref (ad 12), .int (nI n), .int lw]))], [(ad 9, .inl (gI G, 12, .inl tu))]] (dt (some (.int (f_awake n tu mo))) [[(ad 0, .inr (9, [.ref (ad 1), .ref (ad 2), .ref (ad 3), .ref (ad 4), .ref (ad 5), .ref (ad 6), .ref (ad 7), .int fl]))], [(ad 2, .inr (0, [.ref (ad 8), .ref (ad 9), .ref (ad 10), .ref (ad 11), .ref (ad 12), .int (nI n), .int lw]))], [(ad 9, .inl (gI G, 12, .inl tu))]]) := by
  refine CT.of (cc := cX10_awake) (nL := 2) (ret := (some .int)) (by decide) rfl (Nat.le_of_ble_eq_true rfl) ?_
  intro p e s m below meth c R args Q A hRm ha hQ hAe hA S hE hr hlk hnm H locs hH0 hL0 ls hl hw
  have S : CallFix p m c cX10_awake 2 s args wsX10_awake RX10 := S
  have hl : lv_has ls 2 [(0, .ref (ad 0)), (1, .int mo)] := hl
  have hinX10 : ∀ w ∈ u_ws RX10 TX10 8, w ∈ wsX10_awake := by decide +kernel
  have hf21 := S.2.2.2.2 (.fieldLink RX10 21 "AwakeTurns" "crew" "LAwakeTurns$Crew;") (by decide +kernel)
  have hinX0 : ∀ w ∈ u_ws RX0 TX0 7, w ∈ wsX10_awake := by decide +kernel
  have hf126 := S.2.2.2.2 (.fieldLink RX10 126 "AwakeTurns$Crew" "turns" "[I") (by decide +kernel)
  refine lv_iload_n S.1 S.2.1 dX10_awake_0 rfl (lv_at hl 1 rfl) ?_
  refine aw_callS S hE (c_X10_isMonth l G mo) gX10_awake_X10_isMonth (n := 1) rfl (by decide +kernel) rfl (by rw [hRm]; exact ⟨Nat.le_of_ble_eq_true rfl, Nat.le_of_ble_eq_true rfl⟩) (by rw [hRm]; exact ⟨Nat.le_of_ble_eq_true rfl, Nat.le_of_ble_eq_true rfl⟩) hw hA hl.1 [] rfl rfl rfl (Nat.le_of_ble_eq_true rfl) dX10_awake_1 ?_
  rintro v w1 H locs ⟨rfl, rfl⟩ hw
  have hw : bW G A s.heap [[(ad 0, .inr (9, [.ref (ad 1), .ref (ad 2), .ref (ad 3), .ref (ad 4), .ref (ad 5), .ref (ad 6), .ref (ad 7), .int fl]))], [(ad 2, .inr (0, [.ref (ad 8), .ref (ad 9), .ref (ad 10), .ref (ad 11), .ref (ad 12), .int (nI n), .int lw]))], [(ad 9, .inl (gI G, 12, .inl tu))]] H locs := hw
  refine W.eq (g2 := (F0 m 4 ls [.int (if 0 ≤ mo.toInt ∧ mo.toInt < 12 then 1 else 0)])) rfl ?_
  refine aw_ifne (P := 0 ≤ mo.toInt ∧ mo.toInt < 12) (tgt := 10) S dX10_awake_4 (by decide) (fun c4 => ?_) (fun c4 => ?_)
  · have hb_mo : tn mo < 12 := aw_tnL c4
    have hl := Eq.mp (congrArg (fun z_ : Int32 => lv_has ls 2 [(0, .ref (ad 0)), (1, .int z_)]) (show (mo : Int32) = nI (tn mo) from (aw_tnE c4))) hl
    have hl : lv_has ls 2 [(0, .ref (ad 0)), (1, .int (nI (tn mo)))] := hl
    refine lv_aload_n S.1 S.2.1 dX10_awake_10 rfl (lv_at hl 0 rfl) ?_
    refine aw_callV S hE (c_X10_noShip l G ad fl n lw (by first | assumption | omega)) gX10_awake_X10_noShip (n := 0) rfl (by decide +kernel) rfl (by rw [hRm]; exact ⟨Nat.le_of_ble_eq_true rfl, Nat.le_of_ble_eq_true rfl⟩) (by rw [hRm]; exact ⟨Nat.le_of_ble_eq_true rfl, Nat.le_of_ble_eq_true rfl⟩) hw hA hl.1 [0, 1] rfl rfl (aw_recv (i := 0) hE hw rfl rfl rfl) rfl (Nat.le_of_ble_eq_true rfl) dX10_awake_11 ?_
    rintro v w1 H locs ⟨rfl, rfl⟩ hw
    have hw : bW G A s.heap [[(ad 0, .inr (9, [.ref (ad 1), .ref (ad 2), .ref (ad 3), .ref (ad 4), .ref (ad 5), .ref (ad 6), .ref (ad 7), .int fl]))], [(ad 2, .inr (0, [.ref (ad 8), .ref (ad 9), .ref (ad 10), .ref (ad 11), .ref (ad 12), .int (nI n), .int lw]))], [(ad 9, .inl (gI G, 12, .inl tu))]] H locs := hw
    refine W.eq (g2 := (F0 m 14 ls [.int (if n = 0 then 1 else 0)])) rfl ?_
    refine aw_ifeq (P := n = 0) (tgt := 22) S dX10_awake_14 (by decide) (fun c14 => ?_) (fun c14 => ?_)
    · refine lv_aload_n S.1 S.2.1 dX10_awake_22 rfl (lv_at hl 0 rfl) ?_
      refine aw_get S hE hw 0 (C := RX10) (T := TX10) (N := 8) rfl rfl hinX10 1 (by decide) hf21 rfl dX10_awake_23 ?_
      refine aw_get S hE hw 1 (C := RX0) (T := TX0) (N := 7) rfl rfl hinX0 1 (by decide) hf126 rfl dX10_awake_26 ?_
      refine lv_iload_n S.1 S.2.1 dX10_awake_29 rfl (lv_at hl 1 rfl) ?_
      refine aw_iald S hE hw 2 (k := (tn mo)) rfl (by omega) (by decide) dX10_awake_30 ?_
      refine aw_eqi (show (tu (tn mo) : Int32) = f_awake n tu mo from (by simp [f_awake, c4, c14])) ?_
      exact aw_iret S hr hlk ha hQ hAe hw dX10_awake_31 rfl (Nat.le_of_ble_eq_true rfl) (Nat.le_of_ble_eq_true rfl) ⟨rfl, rfl⟩
    · refine lv_bipush (v := (-3)) S.1 S.2.1 dX10_awake_17 (by decide) ?_
      refine lv_goto (tgt := 31) S.1 S.2.1 dX10_awake_19 (by decide) ?_
      refine aw_eqi (show ((-3) : Int32) = f_awake n tu mo from (by simp [f_awake, c4, c14])) ?_
      exact aw_iret S hr hlk ha hQ hAe hw dX10_awake_31 rfl (Nat.le_of_ble_eq_true rfl) (Nat.le_of_ble_eq_true rfl) ⟨rfl, rfl⟩
  · refine lv_bipush (v := (-2)) S.1 S.2.1 dX10_awake_7 (by decide) ?_
    refine aw_eqi (show ((-2) : Int32) = f_awake n tu mo from (by simp [f_awake, c4])) ?_
    exact aw_iret S hr hlk ha hQ hAe hw dX10_awake_9 rfl (Nat.le_of_ble_eq_true rfl) (Nat.le_of_ble_eq_true rfl) ⟨rfl, rfl⟩
set_option maxRecDepth 100000 in
set_option maxHeartbeats 4000000 in
theorem c_X10_note (l : Launch) (G : aw_G) (ad : Nat → Nat) (fl : Int32) (n : Nat) (lw : Int32) (nn nr : Nat) (nf nt : Nat → Nat) (sv so_ : Int32) (hn : n ≤ 6) (hnn : nn ≤ 8) : CT l G yX10_note wsX10_note ({ frames := 1, cells := 0, slots := 0, locals := 22 }) [.ref (ad 0), .int sv, .int so_] [[(ad 0, .inr (9, [.ref (ad 1), .ref (ad 2), .ref (ad 3), .ref (ad 4), .ref (ad 5), .ref (ad 6), .ref (ad 7), .int fl]))], [(ad 2, .inr (0, [.ref (ad 8), .ref (ad 9), .ref (ad 10), .ref (ad 11), .ref (ad 12), .int (nI n), .int lw]))], [(ad 5, .inr (4, [.ref (ad 16), .ref (ad 17), .ref (ad 18), .ref (ad 19), .ref (ad 20), .ref (ad 21), .int (nI nn), .int (nI nr)]))], [(ad 16, .inl (gI G, 8, .inl (fun k => nI (nf k))))], [(ad 17, .inl (gI G, 8, .inl (fun k => nI (nt k))))]] (fun v w => (f_noteP n sv so_ → v = some (.int (if nn < 8 then nI nn else -4)) ∧ w = [[(ad 0, .inr (9, [.ref (ad 1), .ref (ad 2), .ref (ad 3), .ref (ad 4), .ref (ad 5), .ref (ad 6), .ref (ad 7), .int fl]))], [(ad 2, .inr (0, [.ref (ad 8), .ref (ad 9), .ref (ad 10), .ref (ad 11), .ref (ad 12), .int (nI n), .int lw]))], [(ad 5, .inr (4, [.ref (ad 16), .ref (ad 17), .ref (ad 18), .ref (ad 19), .ref (ad 20), .ref (ad 21), .int (nI (min (nn + 1) 8)), .int (nI nr)]))], [(ad 16, .inl (gI G, 8, .inl (fun k => nI ((nupd nn (tn sv) nf) k))))], [(ad 17, .inl (gI G, 8, .inl (fun k => nI ((nupd nn (tn so_) nt) k))))]]) ∧ (¬ f_noteP n sv so_ → v = some (.int (-1)) ∧ w = [[(ad 0, .inr (9, [.ref (ad 1), .ref (ad 2), .ref (ad 3), .ref (ad 4), .ref (ad 5), .ref (ad 6), .ref (ad 7), .int fl]))], [(ad 2, .inr (0, [.ref (ad 8), .ref (ad 9), .ref (ad 10), .ref (ad 11), .ref (ad 12), .int (nI n), .int lw]))], [(ad 5, .inr (4, [.ref (ad 16), .ref (ad 17), .ref (ad 18), .ref (ad 19), .ref (ad 20), .ref (ad 21), .int (nI nn), .int (nI nr)]))], [(ad 16, .inl (gI G, 8, .inl (fun k => nI (nf k))))], [(ad 17, .inl (gI G, 8, .inl (fun k => nI (nt k))))]])) := by
  refine CT.of (cc := cX10_note) (nL := 3) (ret := (some .int)) (by decide) rfl (Nat.le_of_ble_eq_true rfl) ?_
  intro p e s m below meth c R args Q A hRm ha hQ hAe hA S hE hr hlk hnm H locs hH0 hL0 ls hl hw
  have S : CallFix p m c cX10_note 3 s args wsX10_note RX10 := S
  have hl : lv_has ls 3 [(0, .ref (ad 0)), (1, .int sv), (2, .int so_)] := hl
  have hinX10 : ∀ w ∈ u_ws RX10 TX10 8, w ∈ wsX10_note := by decide +kernel
  have hf21 := S.2.2.2.2 (.fieldLink RX10 21 "AwakeTurns" "crew" "LAwakeTurns$Crew;") (by decide +kernel)
  have hf44 := S.2.2.2.2 (.fieldLink RX10 44 "AwakeTurns" "news" "LAwakeTurns$News;") (by decide +kernel)
  refine lv_aload_n S.1 S.2.1 dX10_note_0 rfl (lv_at hl 0 rfl) ?_
  refine aw_get S hE hw 0 (C := RX10) (T := TX10) (N := 8) rfl rfl hinX10 1 (by decide) hf21 rfl dX10_note_1 ?_
  refine lv_iload_n S.1 S.2.1 dX10_note_4 rfl (lv_at hl 1 rfl) ?_
  refine aw_callV S hE (c_X0_has l G ad n lw sv (by first | assumption | omega)) gX10_note_X0_has (n := 1) rfl (by decide +kernel) rfl (by rw [hRm]; exact ⟨Nat.le_of_ble_eq_true rfl, Nat.le_of_ble_eq_true rfl⟩) (by rw [hRm]; exact ⟨Nat.le_of_ble_eq_true rfl, Nat.le_of_ble_eq_true rfl⟩) hw hA hl.1 [1] rfl rfl (aw_recv (i := 1) hE hw rfl rfl rfl) rfl (Nat.le_of_ble_eq_true rfl) dX10_note_5 ?_
  rintro v w1 H locs ⟨rfl, rfl⟩ hw
  have hw : bW G A s.heap [[(ad 0, .inr (9, [.ref (ad 1), .ref (ad 2), .ref (ad 3), .ref (ad 4), .ref (ad 5), .ref (ad 6), .ref (ad 7), .int fl]))], [(ad 2, .inr (0, [.ref (ad 8), .ref (ad 9), .ref (ad 10), .ref (ad 11), .ref (ad 12), .int (nI n), .int lw]))], [(ad 5, .inr (4, [.ref (ad 16), .ref (ad 17), .ref (ad 18), .ref (ad 19), .ref (ad 20), .ref (ad 21), .int (nI nn), .int (nI nr)]))], [(ad 16, .inl (gI G, 8, .inl (fun k => nI (nf k))))], [(ad 17, .inl (gI G, 8, .inl (fun k => nI (nt k))))]] H locs := hw
  refine W.eq (g2 := (F0 m 8 ls [.int (if 0 ≤ sv.toInt ∧ sv.toInt < n then 1 else 0)])) rfl ?_
  refine aw_ifeq (P := 0 ≤ sv.toInt ∧ sv.toInt < n) (tgt := 27) S dX10_note_8 (by decide) (fun c8 => ?_) (fun c8 => ?_)
  · refine lv_iconst (v := (-1)) S.1 S.2.1 dX10_note_27 (by decide) ?_
    exact aw_iret S hr hlk ha hQ hAe hw dX10_note_28 rfl (Nat.le_of_ble_eq_true rfl) (Nat.le_of_ble_eq_true rfl) ⟨fun q => absurd q.1.1 c8, fun _ => ⟨rfl, rfl⟩⟩
  · refine lv_aload_n S.1 S.2.1 dX10_note_11 rfl (lv_at hl 0 rfl) ?_
    refine aw_get S hE hw 0 (C := RX10) (T := TX10) (N := 8) rfl rfl hinX10 1 (by decide) hf21 rfl dX10_note_12 ?_
    refine lv_iload_n S.1 S.2.1 dX10_note_15 rfl (lv_at hl 2 rfl) ?_
    refine aw_callV S hE (c_X0_has l G ad n lw so_ (by first | assumption | omega)) gX10_note_X0_has (n := 1) rfl (by decide +kernel) rfl (by rw [hRm]; exact ⟨Nat.le_of_ble_eq_true rfl, Nat.le_of_ble_eq_true rfl⟩) (by rw [hRm]; exact ⟨Nat.le_of_ble_eq_true rfl, Nat.le_of_ble_eq_true rfl⟩) hw hA hl.1 [1] rfl rfl (aw_recv (i := 1) hE hw rfl rfl rfl) rfl (Nat.le_of_ble_eq_true rfl) dX10_note_16 ?_
    rintro v w1 H locs ⟨rfl, rfl⟩ hw
    have hw : bW G A s.heap [[(ad 0, .inr (9, [.ref (ad 1), .ref (ad 2), .ref (ad 3), .ref (ad 4), .ref (ad 5), .ref (ad 6), .ref (ad 7), .int fl]))], [(ad 2, .inr (0, [.ref (ad 8), .ref (ad 9), .ref (ad 10), .ref (ad 11), .ref (ad 12), .int (nI n), .int lw]))], [(ad 5, .inr (4, [.ref (ad 16), .ref (ad 17), .ref (ad 18), .ref (ad 19), .ref (ad 20), .ref (ad 21), .int (nI nn), .int (nI nr)]))], [(ad 16, .inl (gI G, 8, .inl (fun k => nI (nf k))))], [(ad 17, .inl (gI G, 8, .inl (fun k => nI (nt k))))]] H locs := hw
    refine W.eq (g2 := (F0 m 19 ls [.int (if 0 ≤ so_.toInt ∧ so_.toInt < n then 1 else 0)])) rfl ?_
    refine aw_ifeq (P := 0 ≤ so_.toInt ∧ so_.toInt < n) (tgt := 27) S dX10_note_19 (by decide) (fun c19 => ?_) (fun c19 => ?_)
    · refine lv_iconst (v := (-1)) S.1 S.2.1 dX10_note_27 (by decide) ?_
      exact aw_iret S hr hlk ha hQ hAe hw dX10_note_28 rfl (Nat.le_of_ble_eq_true rfl) (Nat.le_of_ble_eq_true rfl) ⟨fun q => absurd q.1.2 c19, fun _ => ⟨rfl, rfl⟩⟩
    · refine lv_iload_n S.1 S.2.1 dX10_note_22 rfl (lv_at hl 1 rfl) ?_
      refine lv_iload_n S.1 S.2.1 dX10_note_23 rfl (lv_at hl 2 rfl) ?_
      refine lv_icmp_ne (tgt := 29) S.1 S.2.1 dX10_note_24 (by decide) (fun c24 => ?_) (fun c24 => ?_)
      · have hb_sv : tn sv < n := aw_tnL c8
        have hl := Eq.mp (congrArg (fun z_ : Int32 => lv_has ls 3 [(0, .ref (ad 0)), (1, .int z_), (2, .int so_)]) (show (sv : Int32) = nI (tn sv) from (aw_tnE c8))) hl
        have hl : lv_has ls 3 [(0, .ref (ad 0)), (1, .int (nI (tn sv))), (2, .int so_)] := hl
        have hb_so_ : tn so_ < n := aw_tnL c19
        have hl := Eq.mp (congrArg (fun z_ : Int32 => lv_has ls 3 [(0, .ref (ad 0)), (1, .int (nI (tn sv))), (2, .int z_)]) (show (so_ : Int32) = nI (tn so_) from (aw_tnE c19))) hl
        have hl : lv_has ls 3 [(0, .ref (ad 0)), (1, .int (nI (tn sv))), (2, .int (nI (tn so_)))] := hl
        refine lv_aload_n S.1 S.2.1 dX10_note_29 rfl (lv_at hl 0 rfl) ?_
        refine aw_get S hE hw 0 (C := RX10) (T := TX10) (N := 8) rfl rfl hinX10 4 (by decide) hf44 rfl dX10_note_30 ?_
        refine lv_iload_n S.1 S.2.1 dX10_note_33 rfl (lv_at hl 1 rfl) ?_
        refine lv_iload_n S.1 S.2.1 dX10_note_34 rfl (lv_at hl 2 rfl) ?_
        refine aw_callV S hE (c_X4_addNote l G ad nn nr nf nt (tn sv) (tn so_) (by first | assumption | omega)) gX10_note_X4_addNote (n := 2) rfl (by decide +kernel) rfl (by rw [hRm]; exact ⟨Nat.le_of_ble_eq_true rfl, Nat.le_of_ble_eq_true rfl⟩) (by rw [hRm]; exact ⟨Nat.le_of_ble_eq_true rfl, Nat.le_of_ble_eq_true rfl⟩) hw hA hl.1 [2, 3, 4] rfl rfl (aw_recv (i := 2) hE hw rfl rfl rfl) rfl (Nat.le_of_ble_eq_true rfl) dX10_note_35 ?_
        rintro v w1 H locs ⟨rfl, rfl⟩ hw
        have hw : bW G A s.heap [[(ad 0, .inr (9, [.ref (ad 1), .ref (ad 2), .ref (ad 3), .ref (ad 4), .ref (ad 5), .ref (ad 6), .ref (ad 7), .int fl]))], [(ad 2, .inr (0, [.ref (ad 8), .ref (ad 9), .ref (ad 10), .ref (ad 11), .ref (ad 12), .int (nI n), .int lw]))], [(ad 5, .inr (4, [.ref (ad 16), .ref (ad 17), .ref (ad 18), .ref (ad 19), .ref (ad 20), .ref (ad 21), .int (nI (min (nn + 1) 8)), .int (nI nr)]))], [(ad 16, .inl (gI G, 8, .inl (fun k => nI ((nupd nn (tn sv) nf) k))))], [(ad 17, .inl (gI G, 8, .inl (fun k => nI ((nupd nn (tn so_) nt) k))))]] H locs := hw
        refine W.eq (g2 := (F0 m 38 ls [.int (if nn < 8 then nI nn else -4)])) rfl ?_
        exact aw_iret S hr hlk ha hQ hAe hw dX10_note_38 rfl (Nat.le_of_ble_eq_true rfl) (Nat.le_of_ble_eq_true rfl) ⟨fun _ => ⟨rfl, rfl⟩, fun q => absurd ⟨⟨c8, c19⟩, c24⟩ q⟩
      · refine lv_iconst (v := (-1)) S.1 S.2.1 dX10_note_27 (by decide) ?_
        exact aw_iret S hr hlk ha hQ hAe hw dX10_note_28 rfl (Nat.le_of_ble_eq_true rfl) (Nat.le_of_ble_eq_true rfl) ⟨fun q => q.2 c24 |>.elim, fun _ => ⟨rfl, rfl⟩⟩
