/-! the plan's rows, month by month -/
theorem rrE_up {G : aw_G} {rs : Nat → Nat → Int32} {k : Nat} {f : Nat → Int32} : va_up (rrE G rs) k (.inl (gI G, 64, .inl f)) = rrE G (va_up rs k f) := by
  funext j
  by_cases e : j = k
  · simp [va_up, rrE, e]
  · simp [va_up, rrE, e]
theorem aw_dec (x : Int32) : x + Int32.ofInt (-1) = x - 1 := by rw [Int32.sub_eq_add_neg]; rfl
theorem rk_in {G : aw_G} {rs0 : Nat → Nat → Int32} {mo i : Nat} {f g : Nat → Int32} {v : Int32} (hv : f i = v) : va_up (rrE G (va_up rs0 mo (fa_fill f g i))) mo (.inl (gI G, 64, .inl (upd (va_up rs0 mo (fa_fill f g i) mo) i v))) = rrE G (va_up rs0 mo (fa_fill f g (i + 1))) := by
  rw [rrE_up, bx_uu, va_up_self, ← hv, fa_fill_succ]
theorem rk_set {G : aw_G} {rs0 : Nat → Nat → Int32} {mo : Nat} {f g : Nat → Int32} : va_up (rrE G (va_up rs0 mo f)) mo (.inl (gI G, 64, .inl g)) = rrE G (va_up rs0 mo g) := by
  rw [rrE_up, bx_uu]
theorem rk_begin {rs0 : Nat → Nat → Int32} {mo : Nat} {f g : Nat → Int32} (h : rs0 mo = g) : rs0 = va_up rs0 mo (fa_fill f g 0) := by
  rw [fa_fill_0]
  funext j
  unfold va_up
  by_cases e : j = mo
  · rw [if_pos e, e, h]
  · rw [if_neg e]
theorem chs_cong {n : Nat} {hs f g : Nat → Int32} (hn : n ≤ 6) (h : ∀ S, S < 2 ^ n → f S = g S) : ∀ s, s ≤ n → ∀ S, S < 2 ^ n → chs n hs f s S = chs n hs g s S
  | 0, _, S, hS => h S hS
  | s + 1, hs', S, hS => by
    have ih := chs_cong (hs := hs) hn h s (by omega)
    have h64 := pow6' hn
    have hd := tb_lim n (by omega) s (by omega) S (by omega)
    simp only [show s < n by omega, decide_true, Bool.not_true, Bool.false_or, Bool.and_eq_true, Bool.or_eq_true, Bool.not_eq_true', decide_eq_false_iff_not, decide_eq_true_eq] at hd
    unfold chs chF
    split
    · rw [ih S hS, ih (S - 2 ^ s) (Nat.lt_of_le_of_lt (Nat.sub_le _ _) hS)]
    · rename_i z
      rcases hd.1 with (w | w) | w
      · exact absurd hS w
      · exact absurd w z
      · rw [ih S hS, ih (S + 2 ^ s) w]
theorem rsR_row {n : Nat} {so hs wa : Nat → Int32} {rs : Nat → Nat → Int32} {mo : Nat} (hmo : mo < 12) (h12 : ∀ S, S < 64 → rs 12 S = 0) (hn : n ≤ 6) {S : Nat} (hS : S < 2 ^ n) : rsR n so hs wa rs (mo + 1) (mo + 1) S = prow n so hs wa (11 - mo) S := by
  have h64 := pow6' hn
  unfold rsR
  by_cases e : mo + 1 < 12
  · rw [if_pos ⟨Nat.le_refl _, e⟩, fa_fill_in hS, show 12 - (mo + 1) = 11 - mo by omega]
  · rw [if_neg (fun z => e z.2), show mo + 1 = 12 by omega, h12 S (by omega), show 11 - mo = 0 by omega]
    rfl
theorem rk_done {n : Nat} {so hs wa : Nat → Int32} {rs : Nat → Nat → Int32} {mo : Nat} (hmo : mo < 12) (h12 : ∀ S, S < 64 → rs 12 S = 0) (hn : n ≤ 6) : va_up (rsR n so hs wa rs (mo + 1)) mo (fa_fill (chs n hs (fun S => rwF so wa (rsR n so hs wa rs (mo + 1)) S mo) n) (rs mo) (2 ^ n)) = rsR n so hs wa rs mo := by
  funext j
  unfold va_up
  by_cases e : j = mo
  · rw [if_pos e]
    subst e
    have e2 : rsR n so hs wa rs j j = fa_fill (prow n so hs wa (12 - j)) (rs j) (2 ^ n) := by
      unfold rsR
      rw [if_pos ⟨Nat.le_refl _, hmo⟩]
    rw [e2]
    funext S
    rcases Nat.lt_or_ge S (2 ^ n) with q | q
    · rw [fa_fill_in q, fa_fill_in q, show 12 - j = (11 - j) + 1 by omega]
      show _ = chs n hs (fun S => if mtP so (wa (11 - (11 - j))) S = true then prow n so hs wa (11 - j) S else 1048576) n S
      refine chs_cong hn (fun T hT => ?_) n (Nat.le_refl _) S q
      rw [rwF, rsR_row hmo h12 hn hT, show 11 - (11 - j) = j by omega]
    · rw [fa_fill_out q, fa_fill_out q]
  · rw [if_neg e]
    unfold rsR
    by_cases q : mo + 1 ≤ j ∧ j < 12
    · rw [if_pos q, if_pos ⟨by omega, q.2⟩]
    · rw [if_neg q, if_neg (fun z => q ⟨by omega, z.2⟩)]
set_option maxRecDepth 100000 in
set_option maxHeartbeats 4000000 in
theorem c_X6_reckon (l : Launch) (G : aw_G) (ad : Nat → Nat) (n : Nat) (lw : Int32) (so hs wa : Nat → Int32) (rr : Nat → Nat) (rs : Nat → Nat → Int32) (hn : n ≤ 6) (h12 : ∀ S, S < 64 → rs 12 S = 0) : CT l G yX6_reckon wsX6_reckon ({ frames := 2, cells := 0, slots := 0, locals := 57 }) [.ref (ad 4)] [[(ad 4, .inr (6, [.ref (ad 2), .ref (ad 15)]))], [(ad 2, .inr (0, [.ref (ad 8), .ref (ad 9), .ref (ad 10), .ref (ad 11), .ref (ad 12), .int (nI n), .int lw]))], [(ad 11, .inl (gI G, 64, .inl so))], [(ad 12, .inl (gI G, 64, .inl hs))], [(ad 10, .inl (gI G, 12, .inl wa))], [(ad 15, .inl (gA G, 13, .inr (.inr (.inr (.inr (fun q_ => some (rr q_)))))))], fam 13 rr (rrE G rs)] (dt none [[(ad 4, .inr (6, [.ref (ad 2), .ref (ad 15)]))], [(ad 2, .inr (0, [.ref (ad 8), .ref (ad 9), .ref (ad 10), .ref (ad 11), .ref (ad 12), .int (nI n), .int lw]))], [(ad 11, .inl (gI G, 64, .inl so))], [(ad 12, .inl (gI G, 64, .inl hs))], [(ad 10, .inl (gI G, 12, .inl wa))], [(ad 15, .inl (gA G, 13, .inr (.inr (.inr (.inr (fun q_ => some (rr q_)))))))], fam 13 rr (rrE G (rsR n so hs wa rs 0))]) := by
  refine CT.of (cc := cX6_reckon) (nL := 3) (ret := none) (by decide) rfl (Nat.le_of_ble_eq_true rfl) ?_
  intro p e s m below meth c R args Q A hRm ha hQ hAe hA S hE hr hlk hnm H locs hH0 hL0 ls hl hw
  have S : CallFix p m c cX6_reckon 3 s args wsX6_reckon RX6 := S
  have hl : lv_has ls 3 [(0, .ref (ad 4))] := hl
  have hinX6 : ∀ w ∈ u_ws RX6 TX6 2, w ∈ wsX6_reckon := by decide +kernel
  have hf16 := S.2.2.2.2 (.fieldLink RX6 16 "AwakeTurns$Plan" "crew" "LAwakeTurns$Crew;") (by decide +kernel)
  have hinX0 : ∀ w ∈ u_ws RX0 TX0 7, w ∈ wsX6_reckon := by decide +kernel
  have hf30 := S.2.2.2.2 (.fieldLink RX6 30 "AwakeTurns$Crew" "count" "I") (by decide +kernel)
  have hf11 := S.2.2.2.2 (.fieldLink RX6 11 "AwakeTurns$Plan" "rest" "[[I") (by decide +kernel)
  have hp6 := pow6' hn
  refine lv_bipush (v := 11) S.1 S.2.1 dX6_reckon_0 (by decide) ?_
  refine lv_istore_n (lv' := [(1, .int 11), (0, .ref (ad 4))]) S.1 S.2.1 dX6_reckon_2 rfl hl (by decide) rfl (fun ls hl => ?_)
  have hl := Eq.mp (congrArg (fun z_ : Int32 => lv_has ls 3 [(1, .int z_), (0, .ref (ad 4))]) (show (11 : Int32) = nI 12 - 1 from (by decide))) hl
  have hl : lv_has ls 3 [(1, .int (nI 12 - 1)), (0, .ref (ad 4))] := hl
  rw [fam_congr (n := 13) (r := rr) (e := (rrE G rs)) (e' := (rrE G (rsR n so hs wa rs 12))) (fun i _ => by unfold rrE rsR; rw [if_neg (by omega)])] at hw
  have hw : bW G A s.heap [[(ad 4, .inr (6, [.ref (ad 2), .ref (ad 15)]))], [(ad 2, .inr (0, [.ref (ad 8), .ref (ad 9), .ref (ad 10), .ref (ad 11), .ref (ad 12), .int (nI n), .int lw]))], [(ad 11, .inl (gI G, 64, .inl so))], [(ad 12, .inl (gI G, 64, .inl hs))], [(ad 10, .inl (gI G, 12, .inl wa))], [(ad 15, .inl (gA G, 13, .inr (.inr (.inr (.inr (fun q_ => some (rr q_)))))))], fam 13 rr (rrE G (rsR n so hs wa rs 12))] H locs := hw
  have loop3 : ∀ (fu : Nat) (j : Nat), (j ≤ 12) → j < fu → ∀ (ls : Array Slot) (H : Heap) (locs : List Loc), lv_has ls 3 [(0, .ref (ad 4)), (1, .int (nI j - 1))] → bW G A s.heap [[(ad 4, .inr (6, [.ref (ad 2), .ref (ad 15)]))], [(ad 2, .inr (0, [.ref (ad 8), .ref (ad 9), .ref (ad 10), .ref (ad 11), .ref (ad 12), .int (nI n), .int lw]))], [(ad 11, .inl (gI G, 64, .inl so))], [(ad 12, .inl (gI G, 64, .inl hs))], [(ad 10, .inl (gI G, 12, .inl wa))], [(ad 15, .inl (gA G, 13, .inr (.inr (.inr (.inr (fun q_ => some (rr q_)))))))], fam 13 rr (rrE G (rsR n so hs wa rs j))] H locs → W p l e R s m args below meth c H locs 0 0 Q (F0 m 3 ls []) := by
    intro fu
    induction fu with
    | zero => intro j _ hm; exact absurd hm (Nat.not_lt_zero _)
    | succ fu ih3 =>
      intro j hj hm ls H locs hl hw
      by_cases hj0 : j = 0
      · rw [hj0] at hl hw
        refine lv_iload_n S.1 S.2.1 dX6_reckon_3 rfl (lv_at hl 1 rfl) ?_
        refine lv_if_lt (tgt := 76) S.1 S.2.1 dX6_reckon_4 (by decide) (fun c4 => ?_) (fun c4 => ?_)
        · exact aw_vret S hr hlk ha hQ hAe hw dX6_reckon_76 (Nat.le_of_ble_eq_true rfl) (Nat.le_of_ble_eq_true rfl) ⟨rfl, rfl⟩
        · exact absurd (by decide) c4
      · obtain ⟨mo, rfl⟩ : ∃ mo, j = mo + 1 := ⟨j - 1, by omega⟩
        have hl := Eq.mp (congrArg (fun z_ : Int32 => lv_has ls 3 [(0, .ref (ad 4)), (1, .int z_)]) (show (nI (mo + 1) - 1 : Int32) = nI mo from (nI_pred mo))) hl
        have hl : lv_has ls 3 [(0, .ref (ad 4)), (1, .int (nI mo))] := hl
        refine lv_iload_n S.1 S.2.1 dX6_reckon_3 rfl (lv_at hl 1 rfl) ?_
        refine lv_if_lt (tgt := 76) S.1 S.2.1 dX6_reckon_4 (by decide) (fun c4 => ?_) (fun c4 => ?_)
        · exact absurd c4 (nI_pos (by omega))
        · refine lv_iconst (v := 0) S.1 S.2.1 dX6_reckon_7 (by decide) ?_
          refine lv_istore_n (lv' := [(2, .int 0), (0, .ref (ad 4)), (1, .int (nI mo))]) S.1 S.2.1 dX6_reckon_8 rfl hl (by decide) rfl (fun ls hl => ?_)
          rw [fam_congr (n := 13) (r := rr) (e := (rrE G (rsR n so hs wa rs (mo + 1)))) (e' := (rrE G (va_up (rsR n so hs wa rs (mo + 1)) mo (fa_fill (fun S => rwF so wa (rsR n so hs wa rs (mo + 1)) S mo) (rs mo) 0)))) (fun i _ => by rw [← rk_begin (by unfold rsR; rw [if_neg (by omega)])])] at hw
          have hw : bW G A s.heap [[(ad 4, .inr (6, [.ref (ad 2), .ref (ad 15)]))], [(ad 2, .inr (0, [.ref (ad 8), .ref (ad 9), .ref (ad 10), .ref (ad 11), .ref (ad 12), .int (nI n), .int lw]))], [(ad 11, .inl (gI G, 64, .inl so))], [(ad 12, .inl (gI G, 64, .inl hs))], [(ad 10, .inl (gI G, 12, .inl wa))], [(ad 15, .inl (gA G, 13, .inr (.inr (.inr (.inr (fun q_ => some (rr q_)))))))], fam 13 rr (rrE G (va_up (rsR n so hs wa rs (mo + 1)) mo (fa_fill (fun S => rwF so wa (rsR n so hs wa rs (mo + 1)) S mo) (rs mo) 0)))] H locs := hw
          have loop9 : ∀ (fu : Nat) (i : Nat), (i ≤ 2 ^ n) → (2 ^ n - i) < fu → ∀ (ls : Array Slot) (H : Heap) (locs : List Loc), lv_has ls 3 [(0, .ref (ad 4)), (1, .int (nI mo)), (2, .int (nI i))] → bW G A s.heap [[(ad 4, .inr (6, [.ref (ad 2), .ref (ad 15)]))], [(ad 2, .inr (0, [.ref (ad 8), .ref (ad 9), .ref (ad 10), .ref (ad 11), .ref (ad 12), .int (nI n), .int lw]))], [(ad 11, .inl (gI G, 64, .inl so))], [(ad 12, .inl (gI G, 64, .inl hs))], [(ad 10, .inl (gI G, 12, .inl wa))], [(ad 15, .inl (gA G, 13, .inr (.inr (.inr (.inr (fun q_ => some (rr q_)))))))], fam 13 rr (rrE G (va_up (rsR n so hs wa rs (mo + 1)) mo (fa_fill (fun S => rwF so wa (rsR n so hs wa rs (mo + 1)) S mo) (rs mo) i)))] H locs → W p l e R s m args below meth c H locs 0 0 Q (F0 m 9 ls []) := by
            intro fu
            induction fu with
            | zero => intro i _ hm; exact absurd hm (Nat.not_lt_zero _)
            | succ fu ih9 =>
              intro i hi hm ls H locs hl hw
              refine lv_iload_n S.1 S.2.1 dX6_reckon_9 rfl (lv_at hl 2 rfl) ?_
              refine lv_aload_n S.1 S.2.1 dX6_reckon_10 rfl (lv_at hl 0 rfl) ?_
              refine aw_get S hE hw 0 (C := RX6) (T := TX6) (N := 2) rfl rfl hinX6 0 (by decide) hf16 rfl dX6_reckon_11 ?_
              refine aw_callV S hE (c_X0_setCount l G ad n lw (by first | assumption | omega)) gX6_reckon_X0_setCount (n := 0) rfl (by decide +kernel) rfl (by rw [hRm]; exact ⟨Nat.le_of_ble_eq_true rfl, Nat.le_of_ble_eq_true rfl⟩) (by rw [hRm]; exact ⟨Nat.le_of_ble_eq_true rfl, Nat.le_of_ble_eq_true rfl⟩) hw hA hl.1 [1] rfl rfl (aw_recv (i := 1) hE hw rfl rfl rfl) rfl (Nat.le_of_ble_eq_true rfl) dX6_reckon_14 ?_
              rintro v w1 H locs ⟨rfl, rfl⟩ hw
              have hw : bW G A s.heap [[(ad 4, .inr (6, [.ref (ad 2), .ref (ad 15)]))], [(ad 2, .inr (0, [.ref (ad 8), .ref (ad 9), .ref (ad 10), .ref (ad 11), .ref (ad 12), .int (nI n), .int lw]))], [(ad 11, .inl (gI G, 64, .inl so))], [(ad 12, .inl (gI G, 64, .inl hs))], [(ad 10, .inl (gI G, 12, .inl wa))], [(ad 15, .inl (gA G, 13, .inr (.inr (.inr (.inr (fun q_ => some (rr q_)))))))], fam 13 rr (rrE G (va_up (rsR n so hs wa rs (mo + 1)) mo (fa_fill (fun S => rwF so wa (rsR n so hs wa rs (mo + 1)) S mo) (rs mo) i)))] H locs := hw
              refine W.eq (g2 := (F0 m 17 ls [.int (nI (2 ^ n)), .int (nI i)])) rfl ?_
              refine aw_icmpN_ge (x := i) (y := 2 ^ n) (tgt := 40) S (by omega) (by omega) dX6_reckon_17 (by decide) (fun c17 => ?_) (fun c17 => ?_)
              · have ex_i : i = 2 ^ n := by omega
                try rw [ex_i] at hl
                try rw [ex_i] at hw
                have hw : bW G A s.heap [[(ad 4, .inr (6, [.ref (ad 2), .ref (ad 15)]))], [(ad 2, .inr (0, [.ref (ad 8), .ref (ad 9), .ref (ad 10), .ref (ad 11), .ref (ad 12), .int (nI n), .int lw]))], [(ad 11, .inl (gI G, 64, .inl so))], [(ad 12, .inl (gI G, 64, .inl hs))], [(ad 10, .inl (gI G, 12, .inl wa))], [(ad 15, .inl (gA G, 13, .inr (.inr (.inr (.inr (fun q_ => some (rr q_)))))))], fam 13 rr (rrE G (va_up (rsR n so hs wa rs (mo + 1)) mo (fa_fill (chs n hs (fun S => rwF so wa (rsR n so hs wa rs (mo + 1)) S mo) 0) (rs mo) (2 ^ n))))] H locs := hw
                refine lv_iconst (v := 0) S.1 S.2.1 dX6_reckon_40 (by decide) ?_
                refine lv_istore_n (lv' := [(2, .int 0), (0, .ref (ad 4)), (1, .int (nI mo))]) S.1 S.2.1 dX6_reckon_41 rfl hl (by decide) rfl (fun ls hl => ?_)
                have loop42 : ∀ (fu : Nat) (s_ : Nat), (s_ ≤ n) → (n - s_) < fu → ∀ (ls : Array Slot) (H : Heap) (locs : List Loc), lv_has ls 3 [(0, .ref (ad 4)), (1, .int (nI mo)), (2, .int (nI s_))] → bW G A s.heap [[(ad 4, .inr (6, [.ref (ad 2), .ref (ad 15)]))], [(ad 2, .inr (0, [.ref (ad 8), .ref (ad 9), .ref (ad 10), .ref (ad 11), .ref (ad 12), .int (nI n), .int lw]))], [(ad 11, .inl (gI G, 64, .inl so))], [(ad 12, .inl (gI G, 64, .inl hs))], [(ad 10, .inl (gI G, 12, .inl wa))], [(ad 15, .inl (gA G, 13, .inr (.inr (.inr (.inr (fun q_ => some (rr q_)))))))], fam 13 rr (rrE G (va_up (rsR n so hs wa rs (mo + 1)) mo (fa_fill (chs n hs (fun S => rwF so wa (rsR n so hs wa rs (mo + 1)) S mo) s_) (rs mo) (2 ^ n))))] H locs → W p l e R s m args below meth c H locs 0 0 Q (F0 m 42 ls []) := by
                  intro fu
                  induction fu with
                  | zero => intro s_ _ hm; exact absurd hm (Nat.not_lt_zero _)
                  | succ fu ih42 =>
                    intro s_ hs_ hm ls H locs hl hw
                    refine lv_iload_n S.1 S.2.1 dX6_reckon_42 rfl (lv_at hl 2 rfl) ?_
                    refine lv_aload_n S.1 S.2.1 dX6_reckon_43 rfl (lv_at hl 0 rfl) ?_
                    refine aw_get S hE hw 0 (C := RX6) (T := TX6) (N := 2) rfl rfl hinX6 0 (by decide) hf16 rfl dX6_reckon_44 ?_
                    refine aw_get S hE hw 1 (C := RX0) (T := TX0) (N := 7) rfl rfl hinX0 5 (by decide) hf30 rfl dX6_reckon_47 ?_
                    refine aw_icmpN_ge (x := s_) (y := n) (tgt := 70) S (by omega) (by omega) dX6_reckon_50 (by decide) (fun c50 => ?_) (fun c50 => ?_)
                    · have ex_s : s_ = n := by omega
                      try rw [ex_s] at hl
                      try rw [ex_s] at hw
                      rw [fam_congr (n := 13) (r := rr) (e := (rrE G (va_up (rsR n so hs wa rs (mo + 1)) mo (fa_fill (chs n hs (fun S => rwF so wa (rsR n so hs wa rs (mo + 1)) S mo) n) (rs mo) (2 ^ n))))) (e' := (rrE G (rsR n so hs wa rs mo))) (fun i _ => by rw [rk_done (by omega) h12 hn])] at hw
                      have hw : bW G A s.heap [[(ad 4, .inr (6, [.ref (ad 2), .ref (ad 15)]))], [(ad 2, .inr (0, [.ref (ad 8), .ref (ad 9), .ref (ad 10), .ref (ad 11), .ref (ad 12), .int (nI n), .int lw]))], [(ad 11, .inl (gI G, 64, .inl so))], [(ad 12, .inl (gI G, 64, .inl hs))], [(ad 10, .inl (gI G, 12, .inl wa))], [(ad 15, .inl (gA G, 13, .inr (.inr (.inr (.inr (fun q_ => some (rr q_)))))))], fam 13 rr (rrE G (rsR n so hs wa rs mo))] H locs := hw
                      refine lv_iinc (v := nI mo - 1) (lv' := [(1, .int (nI mo - 1)), (0, .ref (ad 4)), (2, .int (nI n))]) S.1 S.2.1 dX6_reckon_70 hl (k := 1) rfl (aw_dec _) (by decide) rfl (fun ls hl => ?_)
                      refine lv_goto (tgt := 3) S.1 S.2.1 dX6_reckon_73 (by decide) ?_
                      exact ih3 mo (by first | assumption | omega) (by omega) _ _ _ (lv_sub hl [1, 0] rfl) hw
                    · refine lv_aload_n S.1 S.2.1 dX6_reckon_53 rfl (lv_at hl 0 rfl) ?_
                      refine lv_aload_n S.1 S.2.1 dX6_reckon_54 rfl (lv_at hl 0 rfl) ?_
                      refine aw_get S hE hw 0 (C := RX6) (T := TX6) (N := 2) rfl rfl hinX6 1 (by decide) hf11 rfl dX6_reckon_55 ?_
                      refine lv_iload_n S.1 S.2.1 dX6_reckon_58 rfl (lv_at hl 1 rfl) ?_
                      refine aw_aald_A S hE hw 5 (k := mo) (r := (rr mo)) rfl (by omega) (by decide) rfl dX6_reckon_59 ?_
                      refine lv_iload_n S.1 S.2.1 dX6_reckon_60 rfl (lv_at hl 2 rfl) ?_
                      have hw := aw_out hw 6 rfl mo (by omega)
                      have hw : bW G A s.heap [[(ad 4, .inr (6, [.ref (ad 2), .ref (ad 15)]))], [(ad 2, .inr (0, [.ref (ad 8), .ref (ad 9), .ref (ad 10), .ref (ad 11), .ref (ad 12), .int (nI n), .int lw]))], [(ad 11, .inl (gI G, 64, .inl so))], [(ad 12, .inl (gI G, 64, .inl hs))], [(ad 10, .inl (gI G, 12, .inl wa))], [(ad 15, .inl (gA G, 13, .inr (.inr (.inr (.inr (fun q_ => some (rr q_)))))))], famX 13 rr (rrE G (va_up (rsR n so hs wa rs (mo + 1)) mo (fa_fill (chs n hs (fun S => rwF so wa (rsR n so hs wa rs (mo + 1)) S mo) s_) (rs mo) (2 ^ n)))) mo, [(rr mo, .inl (gI G, 64, .inl ((va_up (rsR n so hs wa rs (mo + 1)) mo (fa_fill (chs n hs (fun S => rwF so wa (rsR n so hs wa rs (mo + 1)) S mo) s_) (rs mo) (2 ^ n))) mo)))]] H locs := hw
                      refine aw_callV S hE (c_X6_choose l G ad n lw hs (rr mo) ((va_up (rsR n so hs wa rs (mo + 1)) mo (fa_fill (chs n hs (fun S => rwF so wa (rsR n so hs wa rs (mo + 1)) S mo) s_) (rs mo) (2 ^ n))) mo) s_ (by first | assumption | omega) (by first | assumption | omega)) gX6_reckon_X6_choose (n := 2) rfl (by decide +kernel) rfl (by rw [hRm]; exact ⟨Nat.le_of_ble_eq_true rfl, Nat.le_of_ble_eq_true rfl⟩) (by rw [hRm]; exact ⟨Nat.le_of_ble_eq_true rfl, Nat.le_of_ble_eq_true rfl⟩) hw hA hl.1 [0, 1, 3, 7] rfl rfl (aw_recv (i := 0) hE hw rfl rfl rfl) rfl (Nat.le_of_ble_eq_true rfl) dX6_reckon_61 ?_
                      rintro v w1 H locs ⟨rfl, rfl⟩ hw
                      have hw : bW G A s.heap [[(ad 4, .inr (6, [.ref (ad 2), .ref (ad 15)]))], [(ad 2, .inr (0, [.ref (ad 8), .ref (ad 9), .ref (ad 10), .ref (ad 11), .ref (ad 12), .int (nI n), .int lw]))], [(ad 11, .inl (gI G, 64, .inl so))], [(ad 12, .inl (gI G, 64, .inl hs))], [(ad 10, .inl (gI G, 12, .inl wa))], [(ad 15, .inl (gA G, 13, .inr (.inr (.inr (.inr (fun q_ => some (rr q_)))))))], famX 13 rr (rrE G (va_up (rsR n so hs wa rs (mo + 1)) mo (fa_fill (chs n hs (fun S => rwF so wa (rsR n so hs wa rs (mo + 1)) S mo) s_) (rs mo) (2 ^ n)))) mo, [((rr mo), .inl (gI G, 64, .inl (chF s_ (2 ^ n) (hs (2 ^ s_)) ((va_up (rsR n so hs wa rs (mo + 1)) mo (fa_fill (chs n hs (fun S => rwF so wa (rsR n so hs wa rs (mo + 1)) S mo) s_) (rs mo) (2 ^ n))) mo))))]] H locs := hw
                      refine W.eq (g2 := (F0 m 64 ls [])) rfl ?_
                      have hw := aw_arr hw 7 rfl (fa_fill (chs n hs (fun S => rwF so wa (rsR n so hs wa rs (mo + 1)) S mo) (s_ + 1)) (rs mo) (2 ^ n)) (fun S hS => by rw [va_up_self]; exact chF_fill (by omega) hn S hS)
                      have hw : bW G A s.heap [[(ad 4, .inr (6, [.ref (ad 2), .ref (ad 15)]))], [(ad 2, .inr (0, [.ref (ad 8), .ref (ad 9), .ref (ad 10), .ref (ad 11), .ref (ad 12), .int (nI n), .int lw]))], [(ad 11, .inl (gI G, 64, .inl so))], [(ad 12, .inl (gI G, 64, .inl hs))], [(ad 10, .inl (gI G, 12, .inl wa))], [(ad 15, .inl (gA G, 13, .inr (.inr (.inr (.inr (fun q_ => some (rr q_)))))))], famX 13 rr (rrE G (va_up (rsR n so hs wa rs (mo + 1)) mo (fa_fill (chs n hs (fun S => rwF so wa (rsR n so hs wa rs (mo + 1)) S mo) s_) (rs mo) (2 ^ n)))) mo, [((rr mo), .inl (gI G, 64, .inl (fa_fill (chs n hs (fun S => rwF so wa (rsR n so hs wa rs (mo + 1)) S mo) (s_ + 1)) (rs mo) (2 ^ n))))]] H locs := hw
                      have hw := aw_in [[(ad 4, .inr (6, [.ref (ad 2), .ref (ad 15)]))], [(ad 2, .inr (0, [.ref (ad 8), .ref (ad 9), .ref (ad 10), .ref (ad 11), .ref (ad 12), .int (nI n), .int lw]))], [(ad 11, .inl (gI G, 64, .inl so))], [(ad 12, .inl (gI G, 64, .inl hs))], [(ad 10, .inl (gI G, 12, .inl wa))], [(ad 15, .inl (gA G, 13, .inr (.inr (.inr (.inr (fun q_ => some (rr q_)))))))], famX 13 rr (rrE G (va_up (rsR n so hs wa rs (mo + 1)) mo (fa_fill (chs n hs (fun S => rwF so wa (rsR n so hs wa rs (mo + 1)) S mo) s_) (rs mo) (2 ^ n)))) mo] hw 6 rfl (by omega)
                      rw [fam_congr (e' := rrE G (va_up (rsR n so hs wa rs (mo + 1)) mo (fa_fill (chs n hs (fun S => rwF so wa (rsR n so hs wa rs (mo + 1)) S mo) (s_ + 1)) (rs mo) (2 ^ n)))) (fun k _ => congrFun rk_set k)] at hw
                      have hw : bW G A s.heap [[(ad 4, .inr (6, [.ref (ad 2), .ref (ad 15)]))], [(ad 2, .inr (0, [.ref (ad 8), .ref (ad 9), .ref (ad 10), .ref (ad 11), .ref (ad 12), .int (nI n), .int lw]))], [(ad 11, .inl (gI G, 64, .inl so))], [(ad 12, .inl (gI G, 64, .inl hs))], [(ad 10, .inl (gI G, 12, .inl wa))], [(ad 15, .inl (gA G, 13, .inr (.inr (.inr (.inr (fun q_ => some (rr q_)))))))], fam 13 rr (rrE G (va_up (rsR n so hs wa rs (mo + 1)) mo (fa_fill (chs n hs (fun S => rwF so wa (rsR n so hs wa rs (mo + 1)) S mo) (s_ + 1)) (rs mo) (2 ^ n))))] H locs := hw
                      refine lv_iinc (v := nI (s_ + 1)) (lv' := [(2, .int (nI (s_ + 1))), (0, .ref (ad 4)), (1, .int (nI mo))]) S.1 S.2.1 dX6_reckon_64 hl (k := 2) rfl (by first | exact nI_1 _ | exact nI_add _ _ | rfl) (by decide) rfl (fun ls hl => ?_)
                      refine lv_goto (tgt := 42) S.1 S.2.1 dX6_reckon_67 (by decide) ?_
                      exact ih42 (s_ + 1) (by first | assumption | omega) (by omega) _ _ _ (lv_sub hl [1, 2, 0] rfl) hw
                exact loop42 _ 0 (by first | assumption | omega) (Nat.lt_succ_self _) _ _ _ (lv_sub hl [1, 2, 0] rfl) hw
              · refine lv_aload_n S.1 S.2.1 dX6_reckon_20 rfl (lv_at hl 0 rfl) ?_
                refine aw_get S hE hw 0 (C := RX6) (T := TX6) (N := 2) rfl rfl hinX6 1 (by decide) hf11 rfl dX6_reckon_21 ?_
                refine lv_iload_n S.1 S.2.1 dX6_reckon_24 rfl (lv_at hl 1 rfl) ?_
                refine aw_aald_A S hE hw 5 (k := mo) (r := (rr mo)) rfl (by omega) (by decide) rfl dX6_reckon_25 ?_
                refine lv_iload_n S.1 S.2.1 dX6_reckon_26 rfl (lv_at hl 2 rfl) ?_
                refine lv_aload_n S.1 S.2.1 dX6_reckon_27 rfl (lv_at hl 0 rfl) ?_
                refine lv_iload_n S.1 S.2.1 dX6_reckon_28 rfl (lv_at hl 2 rfl) ?_
                refine lv_iload_n S.1 S.2.1 dX6_reckon_29 rfl (lv_at hl 1 rfl) ?_
                refine aw_callV S hE (c_X6_restWith l G ad n lw so wa rr (va_up (rsR n so hs wa rs (mo + 1)) mo (fa_fill (fun S => rwF so wa (rsR n so hs wa rs (mo + 1)) S mo) (rs mo) i)) i mo (by first | assumption | omega) (by first | assumption | omega)) gX6_reckon_X6_restWith (n := 2) rfl (by decide +kernel) rfl (by rw [hRm]; exact ⟨Nat.le_of_ble_eq_true rfl, Nat.le_of_ble_eq_true rfl⟩) (by rw [hRm]; exact ⟨Nat.le_of_ble_eq_true rfl, Nat.le_of_ble_eq_true rfl⟩) hw hA hl.1 [0, 1, 2, 4, 5, 6] rfl rfl (aw_recv (i := 0) hE hw rfl rfl rfl) rfl (Nat.le_of_ble_eq_true rfl) dX6_reckon_30 ?_
                rintro v w1 H locs ⟨rfl, rfl⟩ hw
                have hw : bW G A s.heap [[(ad 4, .inr (6, [.ref (ad 2), .ref (ad 15)]))], [(ad 2, .inr (0, [.ref (ad 8), .ref (ad 9), .ref (ad 10), .ref (ad 11), .ref (ad 12), .int (nI n), .int lw]))], [(ad 11, .inl (gI G, 64, .inl so))], [(ad 12, .inl (gI G, 64, .inl hs))], [(ad 10, .inl (gI G, 12, .inl wa))], [(ad 15, .inl (gA G, 13, .inr (.inr (.inr (.inr (fun q_ => some (rr q_)))))))], fam 13 rr (rrE G (va_up (rsR n so hs wa rs (mo + 1)) mo (fa_fill (fun S => rwF so wa (rsR n so hs wa rs (mo + 1)) S mo) (rs mo) i)))] H locs := hw
                refine W.eq (g2 := (F0 m 33 ls [.int (rwF so wa (va_up (rsR n so hs wa rs (mo + 1)) mo (fa_fill (fun S => rwF so wa (rsR n so hs wa rs (mo + 1)) S mo) (rs mo) i)) i mo), .int (nI i), .ref (rr mo)])) rfl ?_
                refine aw_eqi (show (rwF so wa (va_up (rsR n so hs wa rs (mo + 1)) mo (fa_fill (fun S => rwF so wa (rsR n so hs wa rs (mo + 1)) S mo) (rs mo) i)) i mo : Int32) = (fun S => rwF so wa (rsR n so hs wa rs (mo + 1)) S mo) i from (by show rwF so wa (va_up (rsR n so hs wa rs (mo + 1)) mo (fa_fill (fun S => rwF so wa (rsR n so hs wa rs (mo + 1)) S mo) (rs mo) i)) i mo = rwF so wa (rsR n so hs wa rs (mo + 1)) i mo; unfold rwF; rw [va_up_ne _ _ (by omega)])) ?_
                have hw := aw_out hw 6 rfl mo (by omega)
                have hw : bW G A s.heap [[(ad 4, .inr (6, [.ref (ad 2), .ref (ad 15)]))], [(ad 2, .inr (0, [.ref (ad 8), .ref (ad 9), .ref (ad 10), .ref (ad 11), .ref (ad 12), .int (nI n), .int lw]))], [(ad 11, .inl (gI G, 64, .inl so))], [(ad 12, .inl (gI G, 64, .inl hs))], [(ad 10, .inl (gI G, 12, .inl wa))], [(ad 15, .inl (gA G, 13, .inr (.inr (.inr (.inr (fun q_ => some (rr q_)))))))], famX 13 rr (rrE G (va_up (rsR n so hs wa rs (mo + 1)) mo (fa_fill (fun S => rwF so wa (rsR n so hs wa rs (mo + 1)) S mo) (rs mo) i))) mo, [(rr mo, .inl (gI G, 64, .inl ((va_up (rsR n so hs wa rs (mo + 1)) mo (fa_fill (fun S => rwF so wa (rsR n so hs wa rs (mo + 1)) S mo) (rs mo) i)) mo)))]] H locs := hw
                refine aw_iast S hE hw 7 (k := i) rfl (by omega) (by decide) dX6_reckon_33 (fun H locs hw => ?_)
                have hw : bW G A s.heap [[(ad 4, .inr (6, [.ref (ad 2), .ref (ad 15)]))], [(ad 2, .inr (0, [.ref (ad 8), .ref (ad 9), .ref (ad 10), .ref (ad 11), .ref (ad 12), .int (nI n), .int lw]))], [(ad 11, .inl (gI G, 64, .inl so))], [(ad 12, .inl (gI G, 64, .inl hs))], [(ad 10, .inl (gI G, 12, .inl wa))], [(ad 15, .inl (gA G, 13, .inr (.inr (.inr (.inr (fun q_ => some (rr q_)))))))], famX 13 rr (rrE G (va_up (rsR n so hs wa rs (mo + 1)) mo (fa_fill (fun S => rwF so wa (rsR n so hs wa rs (mo + 1)) S mo) (rs mo) i))) mo, [(rr mo, .inl (gI G, 64, .inl (upd ((va_up (rsR n so hs wa rs (mo + 1)) mo (fa_fill (fun S => rwF so wa (rsR n so hs wa rs (mo + 1)) S mo) (rs mo) i)) mo) i ((fun S => rwF so wa (rsR n so hs wa rs (mo + 1)) S mo) i))))]] H locs := hw
                have hw := aw_in [[(ad 4, .inr (6, [.ref (ad 2), .ref (ad 15)]))], [(ad 2, .inr (0, [.ref (ad 8), .ref (ad 9), .ref (ad 10), .ref (ad 11), .ref (ad 12), .int (nI n), .int lw]))], [(ad 11, .inl (gI G, 64, .inl so))], [(ad 12, .inl (gI G, 64, .inl hs))], [(ad 10, .inl (gI G, 12, .inl wa))], [(ad 15, .inl (gA G, 13, .inr (.inr (.inr (.inr (fun q_ => some (rr q_)))))))], famX 13 rr (rrE G (va_up (rsR n so hs wa rs (mo + 1)) mo (fa_fill (fun S => rwF so wa (rsR n so hs wa rs (mo + 1)) S mo) (rs mo) i))) mo] hw 6 rfl (by omega)
                rw [fam_congr (e' := rrE G (va_up (rsR n so hs wa rs (mo + 1)) mo (fa_fill (fun S => rwF so wa (rsR n so hs wa rs (mo + 1)) S mo) (rs mo) (i + 1)))) (fun k _ => congrFun (rk_in rfl) k)] at hw
                have hw : bW G A s.heap [[(ad 4, .inr (6, [.ref (ad 2), .ref (ad 15)]))], [(ad 2, .inr (0, [.ref (ad 8), .ref (ad 9), .ref (ad 10), .ref (ad 11), .ref (ad 12), .int (nI n), .int lw]))], [(ad 11, .inl (gI G, 64, .inl so))], [(ad 12, .inl (gI G, 64, .inl hs))], [(ad 10, .inl (gI G, 12, .inl wa))], [(ad 15, .inl (gA G, 13, .inr (.inr (.inr (.inr (fun q_ => some (rr q_)))))))], fam 13 rr (rrE G (va_up (rsR n so hs wa rs (mo + 1)) mo (fa_fill (fun S => rwF so wa (rsR n so hs wa rs (mo + 1)) S mo) (rs mo) (i + 1))))] H locs := hw
                refine lv_iinc (v := nI (i + 1)) (lv' := [(2, .int (nI (i + 1))), (0, .ref (ad 4)), (1, .int (nI mo))]) S.1 S.2.1 dX6_reckon_34 hl (k := 2) rfl (by first | exact nI_1 _ | exact nI_add _ _ | rfl) (by decide) rfl (fun ls hl => ?_)
                refine lv_goto (tgt := 9) S.1 S.2.1 dX6_reckon_37 (by decide) ?_
                exact ih9 (i + 1) (by first | assumption | omega) (by omega) _ _ _ (lv_sub hl [1, 2, 0] rfl) hw
          exact loop9 _ 0 (Nat.zero_le _) (Nat.lt_succ_self _) _ _ _ (lv_sub hl [1, 2, 0] rfl) hw
  exact loop3 _ 12 (by first | assumption | omega) (Nat.lt_succ_self _) _ _ _ (lv_sub hl [1, 0] rfl) hw
