/-! news -/
/-- a place of a row that isn't full -/
def nupd {α : Type} (nn : Nat) (v : α) (f : Nat → α) : Nat → α := fun k => if nn < 8 ∧ k = nn then v else f k
theorem nupd_t {α : Type} {nn : Nat} {v : α} {f : Nat → α} (h : nn < 8) : va_up f nn v = nupd nn v f := by
  funext k
  unfold va_up nupd
  by_cases e : k = nn
  · rw [if_pos e, if_pos ⟨h, e⟩]
  · rw [if_neg e, if_neg (fun z => e z.2)]
theorem nupd_f {α : Type} {nn : Nat} {v : α} {f : Nat → α} (h : ¬ nn < 8) : f = nupd nn v f := by
  funext k
  unfold nupd
  rw [if_neg (fun z => h z.1)]
/-- who reads, of the notes of these writers -/
def rdF (nf nt : Nat → Nat) (wr : Int32) : Nat → Int32
  | 0 => 0
  | k + 1 => if bt wr (nf k) = true then rdF nf nt wr k ||| (1 <<< (nI (nt k) &&& 31)) else rdF nf nt wr k
def nk0 (fr si m : Nat) (k : Int32) : Int32 := if m = si then 1 <<< (nI fr &&& 31) else k
def nk1 (k0 rd t : Int32) : Int32 := k0 ||| (rd &&& t)
def nk2 (k1 t : Int32) : Int32 := if k1 &&& t = 0 then k1 else k1 ||| t
/-- who knows, who has written, ahead of a month -/
def nwK (nf nt : Nat → Nat) (nn fr si : Nat) (tf : Nat → Int32) : Nat → Int32 × Int32
  | 0 => (0, 0)
  | m + 1 => (nk2 (nk1 (nk0 fr si m (nwK nf nt nn fr si tf m).1) (rdF nf nt (nwK nf nt nn fr si tf m).2 nn) (tf m)) (tf m),
      (nwK nf nt nn fr si tf m).2 ||| (nk2 (nk1 (nk0 fr si m (nwK nf nt nn fr si tf m).1) (rdF nf nt (nwK nf nt nn fr si tf m).2 nn) (tf m)) (tf m) &&& tf m))
/-- who knows as a month ends -/
def nwE (nf nt : Nat → Nat) (nn fr si : Nat) (tf : Nat → Int32) (m : Nat) : Int32 := (nwK nf nt nn fr si tf (m + 1)).1
/-- the first reading that isn't so -/
def rsF (kn : Nat → Int32) (ro rmo : Nat → Nat) (rb : Nat → Bool) (nr : Nat) : Nat := fF (fun k => bt (kn (rmo k)) (ro k) != rb k) nr
theorem b_rd {x : Int32} {k : Nat} (hk : k < 32) {b : Bool} : (x >>> (nI k &&& 31)) &&& 1 = (if b = true then 1 else 0) ↔ bt x k = b := by
  have h1 := b_isIn x hk
  have h0 : (x >>> (nI k &&& 31)) &&& 1 = 0 ∨ (x >>> (nI k &&& 31)) &&& 1 = 1 := by
    by_cases q : bt x k = true
    · exact Or.inr (h1.mpr q)
    · refine Or.inl (b_ext fun i hi => ?_)
      rw [b_and, b_1, b_0]
      by_cases e : i = 0
      · subst e
        rw [b_sshr k hk x (by omega), if_pos (by omega)]
        simp at q ⊢
        exact q
      · rw [decide_eq_false e, Bool.and_false]
  cases b with
  | true => simpa using h1
  | false =>
    simp only [Bool.false_eq_true, if_false]
    rcases h0 with h | h
    · rw [h]
      simp only [true_iff]
      cases q : bt x k with
      | false => rfl
      | true => rw [h1.mpr q] at h; exact absurd h (by decide)
    · rw [h]
      simp only [h1.mp h, Bool.true_eq_false, iff_false]
      decide
set_option maxRecDepth 100000 in
set_option maxHeartbeats 4000000 in
theorem c_X4_forgetAll (l : Launch) (G : aw_G) (ad : Nat → Nat) (nn nr : Nat)  : CT l G yX4_forgetAll wsX4_forgetAll ({ frames := 0, cells := 0, slots := 0, locals := 0 }) [.ref (ad 5)] [[(ad 5, .inr (4, [.ref (ad 16), .ref (ad 17), .ref (ad 18), .ref (ad 19), .ref (ad 20), .ref (ad 21), .int (nI nn), .int (nI nr)]))]] (dt none [[(ad 5, .inr (4, [.ref (ad 16), .ref (ad 17), .ref (ad 18), .ref (ad 19), .ref (ad 20), .ref (ad 21), .int (nI 0), .int (nI 0)]))]]) := by
  refine CT.of (cc := cX4_forgetAll) (nL := 1) (ret := none) (by decide) rfl (Nat.le_of_ble_eq_true rfl) ?_
  intro p e s m below meth c R args Q A hRm ha hQ hAe hA S hE hr hlk hnm H locs hH0 hL0 ls hl hw
  have S : CallFix p m c cX4_forgetAll 1 s args wsX4_forgetAll RX4 := S
  have hl : lv_has ls 1 [(0, .ref (ad 5))] := hl
  have hinX4 : ∀ w ∈ u_ws RX4 TX4 8, w ∈ wsX4_forgetAll := by decide +kernel
  have hf30 := S.2.2.2.2 (.fieldLink RX4 30 "AwakeTurns$News" "notes" "I") (by decide +kernel)
  have hf34 := S.2.2.2.2 (.fieldLink RX4 34 "AwakeTurns$News" "readings" "I") (by decide +kernel)
  refine lv_aload_n S.1 S.2.1 dX4_forgetAll_0 rfl (lv_at hl 0 rfl) ?_
  refine lv_iconst (v := 0) S.1 S.2.1 dX4_forgetAll_1 (by decide) ?_
  refine aw_putf S hE hw 0 (C := RX4) (T := TX4) (N := 8) rfl rfl hinX4 tyX4 tyX4_ok nmX4 6 (by decide) hf30 rfl rfl rfl (Nat.le_of_ble_eq_true rfl) dX4_forgetAll_2 (fun H locs hw => ?_)
  have hw : bW G A s.heap [[(ad 5, .inr (4, [.ref (ad 16), .ref (ad 17), .ref (ad 18), .ref (ad 19), .ref (ad 20), .ref (ad 21), .int 0, .int (nI nr)]))]] H locs := hw
  refine lv_aload_n S.1 S.2.1 dX4_forgetAll_5 rfl (lv_at hl 0 rfl) ?_
  refine lv_iconst (v := 0) S.1 S.2.1 dX4_forgetAll_6 (by decide) ?_
  refine aw_putf S hE hw 0 (C := RX4) (T := TX4) (N := 8) rfl rfl hinX4 tyX4 tyX4_ok nmX4 7 (by decide) hf34 rfl rfl rfl (Nat.le_of_ble_eq_true rfl) dX4_forgetAll_7 (fun H locs hw => ?_)
  have hw : bW G A s.heap [[(ad 5, .inr (4, [.ref (ad 16), .ref (ad 17), .ref (ad 18), .ref (ad 19), .ref (ad 20), .ref (ad 21), .int 0, .int 0]))]] H locs := hw
  exact aw_vret S hr hlk ha hQ hAe hw dX4_forgetAll_10 (Nat.le_of_ble_eq_true rfl) (Nat.le_of_ble_eq_true rfl) ⟨rfl, rfl⟩
set_option maxRecDepth 100000 in
set_option maxHeartbeats 4000000 in
theorem c_X4_addNote (l : Launch) (G : aw_G) (ad : Nat → Nat) (nn nr : Nat) (nf nt : Nat → Nat) (fr to : Nat) (hnn : nn ≤ 8) : CT l G yX4_addNote wsX4_addNote ({ frames := 0, cells := 0, slots := 0, locals := 0 }) [.ref (ad 5), .int (nI fr), .int (nI to)] [[(ad 5, .inr (4, [.ref (ad 16), .ref (ad 17), .ref (ad 18), .ref (ad 19), .ref (ad 20), .ref (ad 21), .int (nI nn), .int (nI nr)]))], [(ad 16, .inl (gI G, 8, .inl (fun k => nI (nf k))))], [(ad 17, .inl (gI G, 8, .inl (fun k => nI (nt k))))]] (dt (some (.int (if nn < 8 then nI nn else -4))) [[(ad 5, .inr (4, [.ref (ad 16), .ref (ad 17), .ref (ad 18), .ref (ad 19), .ref (ad 20), .ref (ad 21), .int (nI (min (nn + 1) 8)), .int (nI nr)]))], [(ad 16, .inl (gI G, 8, .inl (fun k => nI ((nupd nn fr nf) k))))], [(ad 17, .inl (gI G, 8, .inl (fun k => nI ((nupd nn to nt) k))))]]) := by
  refine CT.of (cc := cX4_addNote) (nL := 3) (ret := (some .int)) (by decide) rfl (Nat.le_of_ble_eq_true rfl) ?_
  intro p e s m below meth c R args Q A hRm ha hQ hAe hA S hE hr hlk hnm H locs hH0 hL0 ls hl hw
  have S : CallFix p m c cX4_addNote 3 s args wsX4_addNote RX4 := S
  have hl : lv_has ls 3 [(0, .ref (ad 5)), (1, .int (nI fr)), (2, .int (nI to))] := hl
  have hinX4 : ∀ w ∈ u_ws RX4 TX4 8, w ∈ wsX4_addNote := by decide +kernel
  have hf30 := S.2.2.2.2 (.fieldLink RX4 30 "AwakeTurns$News" "notes" "I") (by decide +kernel)
  have hf9 := S.2.2.2.2 (.fieldLink RX4 9 "AwakeTurns$News" "noteFrom" "[I") (by decide +kernel)
  have hf15 := S.2.2.2.2 (.fieldLink RX4 15 "AwakeTurns$News" "noteTo" "[I") (by decide +kernel)
  refine lv_aload_n S.1 S.2.1 dX4_addNote_0 rfl (lv_at hl 0 rfl) ?_
  refine aw_get S hE hw 0 (C := RX4) (T := TX4) (N := 8) rfl rfl hinX4 6 (by decide) hf30 rfl dX4_addNote_1 ?_
  refine lv_bipush (v := 8) S.1 S.2.1 dX4_addNote_4 (by decide) ?_
  refine aw_icmpN_lt (x := nn) (y := 8) (tgt := 12) S (by omega) (by omega) dX4_addNote_6 (by decide) (fun c6 => ?_) (fun c6 => ?_)
  · refine lv_aload_n S.1 S.2.1 dX4_addNote_12 rfl (lv_at hl 0 rfl) ?_
    refine aw_get S hE hw 0 (C := RX4) (T := TX4) (N := 8) rfl rfl hinX4 0 (by decide) hf9 rfl dX4_addNote_13 ?_
    refine lv_aload_n S.1 S.2.1 dX4_addNote_16 rfl (lv_at hl 0 rfl) ?_
    refine aw_get S hE hw 0 (C := RX4) (T := TX4) (N := 8) rfl rfl hinX4 6 (by decide) hf30 rfl dX4_addNote_17 ?_
    refine lv_iload_n S.1 S.2.1 dX4_addNote_20 rfl (lv_at hl 1 rfl) ?_
    refine aw_iast S hE hw 1 (k := nn) rfl (by omega) (by decide) dX4_addNote_21 (fun H locs hw => ?_)
    have hw : bW G A s.heap [[(ad 5, .inr (4, [.ref (ad 16), .ref (ad 17), .ref (ad 18), .ref (ad 19), .ref (ad 20), .ref (ad 21), .int (nI nn), .int (nI nr)]))], [(ad 16, .inl (gI G, 8, .inl (upd (fun k => nI (nf k)) nn (nI fr))))], [(ad 17, .inl (gI G, 8, .inl (fun k => nI (nt k))))]] H locs := hw
    have hw := aw_arr hw 1 rfl (fun k => nI ((va_up nf nn fr) k)) (fun j _ => by unfold upd va_up; split <;> rfl)
    have hw : bW G A s.heap [[(ad 5, .inr (4, [.ref (ad 16), .ref (ad 17), .ref (ad 18), .ref (ad 19), .ref (ad 20), .ref (ad 21), .int (nI nn), .int (nI nr)]))], [(ad 16, .inl (gI G, 8, .inl (fun k => nI ((va_up nf nn fr) k))))], [(ad 17, .inl (gI G, 8, .inl (fun k => nI (nt k))))]] H locs := hw
    refine lv_aload_n S.1 S.2.1 dX4_addNote_22 rfl (lv_at hl 0 rfl) ?_
    refine aw_get S hE hw 0 (C := RX4) (T := TX4) (N := 8) rfl rfl hinX4 1 (by decide) hf15 rfl dX4_addNote_23 ?_
    refine lv_aload_n S.1 S.2.1 dX4_addNote_26 rfl (lv_at hl 0 rfl) ?_
    refine aw_get S hE hw 0 (C := RX4) (T := TX4) (N := 8) rfl rfl hinX4 6 (by decide) hf30 rfl dX4_addNote_27 ?_
    refine lv_iload_n S.1 S.2.1 dX4_addNote_30 rfl (lv_at hl 2 rfl) ?_
    refine aw_iast S hE hw 2 (k := nn) rfl (by omega) (by decide) dX4_addNote_31 (fun H locs hw => ?_)
    have hw : bW G A s.heap [[(ad 5, .inr (4, [.ref (ad 16), .ref (ad 17), .ref (ad 18), .ref (ad 19), .ref (ad 20), .ref (ad 21), .int (nI nn), .int (nI nr)]))], [(ad 16, .inl (gI G, 8, .inl (fun k => nI ((va_up nf nn fr) k))))], [(ad 17, .inl (gI G, 8, .inl (upd (fun k => nI (nt k)) nn (nI to))))]] H locs := hw
    have hw := aw_arr hw 2 rfl (fun k => nI ((va_up nt nn to) k)) (fun j _ => by unfold upd va_up; split <;> rfl)
    have hw : bW G A s.heap [[(ad 5, .inr (4, [.ref (ad 16), .ref (ad 17), .ref (ad 18), .ref (ad 19), .ref (ad 20), .ref (ad 21), .int (nI nn), .int (nI nr)]))], [(ad 16, .inl (gI G, 8, .inl (fun k => nI ((va_up nf nn fr) k))))], [(ad 17, .inl (gI G, 8, .inl (fun k => nI ((va_up nt nn to) k))))]] H locs := hw
    refine lv_aload_n S.1 S.2.1 dX4_addNote_32 rfl (lv_at hl 0 rfl) ?_
    refine lv_dup S.1 S.2.1 dX4_addNote_33 rfl ?_
    refine aw_get S hE hw 0 (C := RX4) (T := TX4) (N := 8) rfl rfl hinX4 6 (by decide) hf30 rfl dX4_addNote_34 ?_
    refine lv_iconst (v := 1) S.1 S.2.1 dX4_addNote_37 (by decide) ?_
    refine lv_iadd S.1 S.2.1 dX4_addNote_38 ?_
    refine aw_eqi (show ((nI nn) + 1 : Int32) = nI (nn + 1) from (nI_add nn 1)) ?_
    refine aw_putf S hE hw 0 (C := RX4) (T := TX4) (N := 8) rfl rfl hinX4 tyX4 tyX4_ok nmX4 6 (by decide) hf30 rfl rfl rfl (Nat.le_of_ble_eq_true rfl) dX4_addNote_39 (fun H locs hw => ?_)
    have hw : bW G A s.heap [[(ad 5, .inr (4, [.ref (ad 16), .ref (ad 17), .ref (ad 18), .ref (ad 19), .ref (ad 20), .ref (ad 21), .int (nI (nn + 1)), .int (nI nr)]))], [(ad 16, .inl (gI G, 8, .inl (fun k => nI ((va_up nf nn fr) k))))], [(ad 17, .inl (gI G, 8, .inl (fun k => nI ((va_up nt nn to) k))))]] H locs := hw
    refine lv_aload_n S.1 S.2.1 dX4_addNote_42 rfl (lv_at hl 0 rfl) ?_
    refine aw_get S hE hw 0 (C := RX4) (T := TX4) (N := 8) rfl rfl hinX4 6 (by decide) hf30 rfl dX4_addNote_43 ?_
    refine lv_iconst (v := 1) S.1 S.2.1 dX4_addNote_46 (by decide) ?_
    refine lv_isub S.1 S.2.1 dX4_addNote_47 ?_
    refine aw_eqi (show ((nI (nn + 1)) - 1 : Int32) = nI ((nn + 1) - 1) from (pk_sub (a := nn + 1) (b := 1) (by omega))) ?_
    have hw := aw_arr hw 1 rfl (fun k => nI ((nupd nn fr nf) k)) (fun _ _ => by rw [← nupd_t c6])
    have hw : bW G A s.heap [[(ad 5, .inr (4, [.ref (ad 16), .ref (ad 17), .ref (ad 18), .ref (ad 19), .ref (ad 20), .ref (ad 21), .int (nI (nn + 1)), .int (nI nr)]))], [(ad 16, .inl (gI G, 8, .inl (fun k => nI ((nupd nn fr nf) k))))], [(ad 17, .inl (gI G, 8, .inl (fun k => nI ((va_up nt nn to) k))))]] H locs := hw
    have hw := aw_arr hw 2 rfl (fun k => nI ((nupd nn to nt) k)) (fun _ _ => by rw [← nupd_t c6])
    have hw : bW G A s.heap [[(ad 5, .inr (4, [.ref (ad 16), .ref (ad 17), .ref (ad 18), .ref (ad 19), .ref (ad 20), .ref (ad 21), .int (nI (nn + 1)), .int (nI nr)]))], [(ad 16, .inl (gI G, 8, .inl (fun k => nI ((nupd nn fr nf) k))))], [(ad 17, .inl (gI G, 8, .inl (fun k => nI ((nupd nn to nt) k))))]] H locs := hw
    rw [show (nI (nn + 1) : Int32) = nI (min (nn + 1) 8) from congrArg nI (by omega)] at hw
    refine aw_eqi (show (nI ((nn + 1) - 1) : Int32) = if nn < 8 then nI nn else -4 from (by rw [if_pos c6]; rfl)) ?_
    exact aw_iret S hr hlk ha hQ hAe hw dX4_addNote_48 rfl (Nat.le_of_ble_eq_true rfl) (Nat.le_of_ble_eq_true rfl) ⟨rfl, rfl⟩
  · refine lv_bipush (v := (-4)) S.1 S.2.1 dX4_addNote_9 (by decide) ?_
    have hw := aw_arr hw 1 rfl (fun k => nI ((nupd nn fr nf) k)) (fun _ _ => by rw [← nupd_f (by omega)])
    have hw : bW G A s.heap [[(ad 5, .inr (4, [.ref (ad 16), .ref (ad 17), .ref (ad 18), .ref (ad 19), .ref (ad 20), .ref (ad 21), .int (nI nn), .int (nI nr)]))], [(ad 16, .inl (gI G, 8, .inl (fun k => nI ((nupd nn fr nf) k))))], [(ad 17, .inl (gI G, 8, .inl (fun k => nI (nt k))))]] H locs := hw
    have hw := aw_arr hw 2 rfl (fun k => nI ((nupd nn to nt) k)) (fun _ _ => by rw [← nupd_f (by omega)])
    have hw : bW G A s.heap [[(ad 5, .inr (4, [.ref (ad 16), .ref (ad 17), .ref (ad 18), .ref (ad 19), .ref (ad 20), .ref (ad 21), .int (nI nn), .int (nI nr)]))], [(ad 16, .inl (gI G, 8, .inl (fun k => nI ((nupd nn fr nf) k))))], [(ad 17, .inl (gI G, 8, .inl (fun k => nI ((nupd nn to nt) k))))]] H locs := hw
    rw [show (nI (nn) : Int32) = nI (min (nn + 1) 8) from congrArg nI (by omega)] at hw
    refine aw_eqi (show ((-4) : Int32) = if nn < 8 then nI nn else -4 from (by rw [if_neg (by omega)])) ?_
    exact aw_iret S hr hlk ha hQ hAe hw dX4_addNote_11 rfl (Nat.le_of_ble_eq_true rfl) (Nat.le_of_ble_eq_true rfl) ⟨rfl, rfl⟩
set_option maxRecDepth 100000 in
set_option maxHeartbeats 4000000 in
theorem c_X4_addReading (l : Launch) (G : aw_G) (ad : Nat → Nat) (nn nr : Nat) (ro rmo : Nat → Nat) (rb : Nat → Bool) (sv mo : Nat) (kw : Bool) (hnr : nr ≤ 8) : CT l G yX4_addReading wsX4_addReading ({ frames := 0, cells := 0, slots := 0, locals := 0 }) [.ref (ad 5), .int (nI sv), .int (nI mo), .int (if kw = true then 1 else 0)] [[(ad 5, .inr (4, [.ref (ad 16), .ref (ad 17), .ref (ad 18), .ref (ad 19), .ref (ad 20), .ref (ad 21), .int (nI nn), .int (nI nr)]))], [(ad 18, .inl (gI G, 8, .inl (fun k => nI (ro k))))], [(ad 19, .inl (gI G, 8, .inl (fun k => nI (rmo k))))], [(ad 20, .inl (gI G, 8, .inl (fun k => if rb k = true then 1 else 0)))]] (dt (some (.int (if nr < 8 then nI nr else -4))) [[(ad 5, .inr (4, [.ref (ad 16), .ref (ad 17), .ref (ad 18), .ref (ad 19), .ref (ad 20), .ref (ad 21), .int (nI nn), .int (nI (min (nr + 1) 8))]))], [(ad 18, .inl (gI G, 8, .inl (fun k => nI ((nupd nr sv ro) k))))], [(ad 19, .inl (gI G, 8, .inl (fun k => nI ((nupd nr mo rmo) k))))], [(ad 20, .inl (gI G, 8, .inl (fun k => if (nupd nr kw rb) k = true then 1 else 0)))]]) := by
  refine CT.of (cc := cX4_addReading) (nL := 4) (ret := (some .int)) (by decide) rfl (Nat.le_of_ble_eq_true rfl) ?_
  intro p e s m below meth c R args Q A hRm ha hQ hAe hA S hE hr hlk hnm H locs hH0 hL0 ls hl hw
  have S : CallFix p m c cX4_addReading 4 s args wsX4_addReading RX4 := S
  have hl : lv_has ls 4 [(0, .ref (ad 5)), (1, .int (nI sv)), (2, .int (nI mo)), (3, .int (if kw = true then 1 else 0))] := hl
  have hinX4 : ∀ w ∈ u_ws RX4 TX4 8, w ∈ wsX4_addReading := by decide +kernel
  have hf34 := S.2.2.2.2 (.fieldLink RX4 34 "AwakeTurns$News" "readings" "I") (by decide +kernel)
  have hf18 := S.2.2.2.2 (.fieldLink RX4 18 "AwakeTurns$News" "readingOf" "[I") (by decide +kernel)
  have hf21 := S.2.2.2.2 (.fieldLink RX4 21 "AwakeTurns$News" "readingMonth" "[I") (by decide +kernel)
  have hf24 := S.2.2.2.2 (.fieldLink RX4 24 "AwakeTurns$News" "readingBit" "[I") (by decide +kernel)
  refine lv_aload_n S.1 S.2.1 dX4_addReading_0 rfl (lv_at hl 0 rfl) ?_
  refine aw_get S hE hw 0 (C := RX4) (T := TX4) (N := 8) rfl rfl hinX4 7 (by decide) hf34 rfl dX4_addReading_1 ?_
  refine lv_bipush (v := 8) S.1 S.2.1 dX4_addReading_4 (by decide) ?_
  refine aw_icmpN_lt (x := nr) (y := 8) (tgt := 12) S (by omega) (by omega) dX4_addReading_6 (by decide) (fun c6 => ?_) (fun c6 => ?_)
  · refine lv_aload_n S.1 S.2.1 dX4_addReading_12 rfl (lv_at hl 0 rfl) ?_
    refine aw_get S hE hw 0 (C := RX4) (T := TX4) (N := 8) rfl rfl hinX4 2 (by decide) hf18 rfl dX4_addReading_13 ?_
    refine lv_aload_n S.1 S.2.1 dX4_addReading_16 rfl (lv_at hl 0 rfl) ?_
    refine aw_get S hE hw 0 (C := RX4) (T := TX4) (N := 8) rfl rfl hinX4 7 (by decide) hf34 rfl dX4_addReading_17 ?_
    refine lv_iload_n S.1 S.2.1 dX4_addReading_20 rfl (lv_at hl 1 rfl) ?_
    refine aw_iast S hE hw 1 (k := nr) rfl (by omega) (by decide) dX4_addReading_21 (fun H locs hw => ?_)
    have hw : bW G A s.heap [[(ad 5, .inr (4, [.ref (ad 16), .ref (ad 17), .ref (ad 18), .ref (ad 19), .ref (ad 20), .ref (ad 21), .int (nI nn), .int (nI nr)]))], [(ad 18, .inl (gI G, 8, .inl (upd (fun k => nI (ro k)) nr (nI sv))))], [(ad 19, .inl (gI G, 8, .inl (fun k => nI (rmo k))))], [(ad 20, .inl (gI G, 8, .inl (fun k => if rb k = true then 1 else 0)))]] H locs := hw
    have hw := aw_arr hw 1 rfl (fun k => nI ((va_up ro nr sv) k)) (fun j _ => by unfold upd va_up; split <;> rfl)
    have hw : bW G A s.heap [[(ad 5, .inr (4, [.ref (ad 16), .ref (ad 17), .ref (ad 18), .ref (ad 19), .ref (ad 20), .ref (ad 21), .int (nI nn), .int (nI nr)]))], [(ad 18, .inl (gI G, 8, .inl (fun k => nI ((va_up ro nr sv) k))))], [(ad 19, .inl (gI G, 8, .inl (fun k => nI (rmo k))))], [(ad 20, .inl (gI G, 8, .inl (fun k => if rb k = true then 1 else 0)))]] H locs := hw
    refine lv_aload_n S.1 S.2.1 dX4_addReading_22 rfl (lv_at hl 0 rfl) ?_
    refine aw_get S hE hw 0 (C := RX4) (T := TX4) (N := 8) rfl rfl hinX4 3 (by decide) hf21 rfl dX4_addReading_23 ?_
    refine lv_aload_n S.1 S.2.1 dX4_addReading_26 rfl (lv_at hl 0 rfl) ?_
    refine aw_get S hE hw 0 (C := RX4) (T := TX4) (N := 8) rfl rfl hinX4 7 (by decide) hf34 rfl dX4_addReading_27 ?_
    refine lv_iload_n S.1 S.2.1 dX4_addReading_30 rfl (lv_at hl 2 rfl) ?_
    refine aw_iast S hE hw 2 (k := nr) rfl (by omega) (by decide) dX4_addReading_31 (fun H locs hw => ?_)
    have hw : bW G A s.heap [[(ad 5, .inr (4, [.ref (ad 16), .ref (ad 17), .ref (ad 18), .ref (ad 19), .ref (ad 20), .ref (ad 21), .int (nI nn), .int (nI nr)]))], [(ad 18, .inl (gI G, 8, .inl (fun k => nI ((va_up ro nr sv) k))))], [(ad 19, .inl (gI G, 8, .inl (upd (fun k => nI (rmo k)) nr (nI mo))))], [(ad 20, .inl (gI G, 8, .inl (fun k => if rb k = true then 1 else 0)))]] H locs := hw
    have hw := aw_arr hw 2 rfl (fun k => nI ((va_up rmo nr mo) k)) (fun j _ => by unfold upd va_up; split <;> rfl)
    have hw : bW G A s.heap [[(ad 5, .inr (4, [.ref (ad 16), .ref (ad 17), .ref (ad 18), .ref (ad 19), .ref (ad 20), .ref (ad 21), .int (nI nn), .int (nI nr)]))], [(ad 18, .inl (gI G, 8, .inl (fun k => nI ((va_up ro nr sv) k))))], [(ad 19, .inl (gI G, 8, .inl (fun k => nI ((va_up rmo nr mo) k))))], [(ad 20, .inl (gI G, 8, .inl (fun k => if rb k = true then 1 else 0)))]] H locs := hw
    refine lv_aload_n S.1 S.2.1 dX4_addReading_32 rfl (lv_at hl 0 rfl) ?_
    refine aw_get S hE hw 0 (C := RX4) (T := TX4) (N := 8) rfl rfl hinX4 4 (by decide) hf24 rfl dX4_addReading_33 ?_
    refine lv_aload_n S.1 S.2.1 dX4_addReading_36 rfl (lv_at hl 0 rfl) ?_
    refine aw_get S hE hw 0 (C := RX4) (T := TX4) (N := 8) rfl rfl hinX4 7 (by decide) hf34 rfl dX4_addReading_37 ?_
    refine lv_iload_n S.1 S.2.1 dX4_addReading_40 rfl (lv_at hl 3 rfl) ?_
    have join49 : ∀ (H : Heap) (locs : List Loc), ∀ (ls : Array Slot), lv_has ls 4 [(0, .ref (ad 5)), (1, .int (nI sv)), (2, .int (nI mo)), (3, .int (if kw = true then 1 else 0))] → bW G A s.heap [[(ad 5, .inr (4, [.ref (ad 16), .ref (ad 17), .ref (ad 18), .ref (ad 19), .ref (ad 20), .ref (ad 21), .int (nI nn), .int (nI nr)]))], [(ad 18, .inl (gI G, 8, .inl (fun k => nI ((va_up ro nr sv) k))))], [(ad 19, .inl (gI G, 8, .inl (fun k => nI ((va_up rmo nr mo) k))))], [(ad 20, .inl (gI G, 8, .inl (fun k => if rb k = true then 1 else 0)))]] H locs → W p l e R s m args below meth c H locs 0 0 Q (F0 m 49 ls [.int (if kw = true then 1 else 0), .int (nI nr), .ref (ad 20)]) := by
      intro  H locs ls hl hw
      refine aw_iast S hE hw 3 (k := nr) rfl (by omega) (by decide) dX4_addReading_49 (fun H locs hw => ?_)
      have hw : bW G A s.heap [[(ad 5, .inr (4, [.ref (ad 16), .ref (ad 17), .ref (ad 18), .ref (ad 19), .ref (ad 20), .ref (ad 21), .int (nI nn), .int (nI nr)]))], [(ad 18, .inl (gI G, 8, .inl (fun k => nI ((va_up ro nr sv) k))))], [(ad 19, .inl (gI G, 8, .inl (fun k => nI ((va_up rmo nr mo) k))))], [(ad 20, .inl (gI G, 8, .inl (upd (fun k => if rb k = true then 1 else 0) nr (if kw = true then 1 else 0))))]] H locs := hw
      have hw := aw_arr hw 3 rfl (fun k => if (va_up rb nr kw) k = true then 1 else 0) (fun j _ => by unfold upd va_up; split <;> rfl)
      have hw : bW G A s.heap [[(ad 5, .inr (4, [.ref (ad 16), .ref (ad 17), .ref (ad 18), .ref (ad 19), .ref (ad 20), .ref (ad 21), .int (nI nn), .int (nI nr)]))], [(ad 18, .inl (gI G, 8, .inl (fun k => nI ((va_up ro nr sv) k))))], [(ad 19, .inl (gI G, 8, .inl (fun k => nI ((va_up rmo nr mo) k))))], [(ad 20, .inl (gI G, 8, .inl (fun k => if (va_up rb nr kw) k = true then 1 else 0)))]] H locs := hw
      refine lv_aload_n S.1 S.2.1 dX4_addReading_50 rfl (lv_at hl 0 rfl) ?_
      refine lv_dup S.1 S.2.1 dX4_addReading_51 rfl ?_
      refine aw_get S hE hw 0 (C := RX4) (T := TX4) (N := 8) rfl rfl hinX4 7 (by decide) hf34 rfl dX4_addReading_52 ?_
      refine lv_iconst (v := 1) S.1 S.2.1 dX4_addReading_55 (by decide) ?_
      refine lv_iadd S.1 S.2.1 dX4_addReading_56 ?_
      refine aw_eqi (show ((nI nr) + 1 : Int32) = nI (nr + 1) from (nI_add nr 1)) ?_
      refine aw_putf S hE hw 0 (C := RX4) (T := TX4) (N := 8) rfl rfl hinX4 tyX4 tyX4_ok nmX4 7 (by decide) hf34 rfl rfl rfl (Nat.le_of_ble_eq_true rfl) dX4_addReading_57 (fun H locs hw => ?_)
      have hw : bW G A s.heap [[(ad 5, .inr (4, [.ref (ad 16), .ref (ad 17), .ref (ad 18), .ref (ad 19), .ref (ad 20), .ref (ad 21), .int (nI nn), .int (nI (nr + 1))]))], [(ad 18, .inl (gI G, 8, .inl (fun k => nI ((va_up ro nr sv) k))))], [(ad 19, .inl (gI G, 8, .inl (fun k => nI ((va_up rmo nr mo) k))))], [(ad 20, .inl (gI G, 8, .inl (fun k => if (va_up rb nr kw) k = true then 1 else 0)))]] H locs := hw
      refine lv_aload_n S.1 S.2.1 dX4_addReading_60 rfl (lv_at hl 0 rfl) ?_
      refine aw_get S hE hw 0 (C := RX4) (T := TX4) (N := 8) rfl rfl hinX4 7 (by decide) hf34 rfl dX4_addReading_61 ?_
      refine lv_iconst (v := 1) S.1 S.2.1 dX4_addReading_64 (by decide) ?_
      refine lv_isub S.1 S.2.1 dX4_addReading_65 ?_
      refine aw_eqi (show ((nI (nr + 1)) - 1 : Int32) = nI ((nr + 1) - 1) from (pk_sub (a := nr + 1) (b := 1) (by omega))) ?_
      have hw := aw_arr hw 1 rfl (fun k => nI ((nupd nr sv ro) k)) (fun _ _ => by rw [← nupd_t c6])
      have hw : bW G A s.heap [[(ad 5, .inr (4, [.ref (ad 16), .ref (ad 17), .ref (ad 18), .ref (ad 19), .ref (ad 20), .ref (ad 21), .int (nI nn), .int (nI (nr + 1))]))], [(ad 18, .inl (gI G, 8, .inl (fun k => nI ((nupd nr sv ro) k))))], [(ad 19, .inl (gI G, 8, .inl (fun k => nI ((va_up rmo nr mo) k))))], [(ad 20, .inl (gI G, 8, .inl (fun k => if (va_up rb nr kw) k = true then 1 else 0)))]] H locs := hw
      have hw := aw_arr hw 2 rfl (fun k => nI ((nupd nr mo rmo) k)) (fun _ _ => by rw [← nupd_t c6])
      have hw : bW G A s.heap [[(ad 5, .inr (4, [.ref (ad 16), .ref (ad 17), .ref (ad 18), .ref (ad 19), .ref (ad 20), .ref (ad 21), .int (nI nn), .int (nI (nr + 1))]))], [(ad 18, .inl (gI G, 8, .inl (fun k => nI ((nupd nr sv ro) k))))], [(ad 19, .inl (gI G, 8, .inl (fun k => nI ((nupd nr mo rmo) k))))], [(ad 20, .inl (gI G, 8, .inl (fun k => if (va_up rb nr kw) k = true then 1 else 0)))]] H locs := hw
      have hw := aw_arr hw 3 rfl (fun k => if (nupd nr kw rb) k = true then 1 else 0) (fun _ _ => by rw [← nupd_t c6])
      have hw : bW G A s.heap [[(ad 5, .inr (4, [.ref (ad 16), .ref (ad 17), .ref (ad 18), .ref (ad 19), .ref (ad 20), .ref (ad 21), .int (nI nn), .int (nI (nr + 1))]))], [(ad 18, .inl (gI G, 8, .inl (fun k => nI ((nupd nr sv ro) k))))], [(ad 19, .inl (gI G, 8, .inl (fun k => nI ((nupd nr mo rmo) k))))], [(ad 20, .inl (gI G, 8, .inl (fun k => if (nupd nr kw rb) k = true then 1 else 0)))]] H locs := hw
      rw [show (nI (nr + 1) : Int32) = nI (min (nr + 1) 8) from congrArg nI (by omega)] at hw
      refine aw_eqi (show (nI ((nr + 1) - 1) : Int32) = if nr < 8 then nI nr else -4 from (by rw [if_pos c6]; rfl)) ?_
      exact aw_iret S hr hlk ha hQ hAe hw dX4_addReading_66 rfl (Nat.le_of_ble_eq_true rfl) (Nat.le_of_ble_eq_true rfl) ⟨rfl, rfl⟩
    refine aw_ifeq (P := kw = true) (tgt := 48) S dX4_addReading_41 (by decide) (fun c41 => ?_) (fun c41 => ?_)
    · refine lv_iconst (v := 0) S.1 S.2.1 dX4_addReading_48 (by decide) ?_
      refine aw_eqi (show (0 : Int32) = if kw = true then 1 else 0 from (by simp [c41])) ?_
      exact join49  _ _ _ (lv_sub hl [0, 1, 2, 3] rfl) hw
    · refine lv_iconst (v := 1) S.1 S.2.1 dX4_addReading_44 (by decide) ?_
      refine lv_goto (tgt := 49) S.1 S.2.1 dX4_addReading_45 (by decide) ?_
      refine aw_eqi (show (1 : Int32) = if kw = true then 1 else 0 from (by simp [c41])) ?_
      exact join49  _ _ _ (lv_sub hl [0, 1, 2, 3] rfl) hw
  · refine lv_bipush (v := (-4)) S.1 S.2.1 dX4_addReading_9 (by decide) ?_
    have hw := aw_arr hw 1 rfl (fun k => nI ((nupd nr sv ro) k)) (fun _ _ => by rw [← nupd_f (by omega)])
    have hw : bW G A s.heap [[(ad 5, .inr (4, [.ref (ad 16), .ref (ad 17), .ref (ad 18), .ref (ad 19), .ref (ad 20), .ref (ad 21), .int (nI nn), .int (nI nr)]))], [(ad 18, .inl (gI G, 8, .inl (fun k => nI ((nupd nr sv ro) k))))], [(ad 19, .inl (gI G, 8, .inl (fun k => nI (rmo k))))], [(ad 20, .inl (gI G, 8, .inl (fun k => if rb k = true then 1 else 0)))]] H locs := hw
    have hw := aw_arr hw 2 rfl (fun k => nI ((nupd nr mo rmo) k)) (fun _ _ => by rw [← nupd_f (by omega)])
    have hw : bW G A s.heap [[(ad 5, .inr (4, [.ref (ad 16), .ref (ad 17), .ref (ad 18), .ref (ad 19), .ref (ad 20), .ref (ad 21), .int (nI nn), .int (nI nr)]))], [(ad 18, .inl (gI G, 8, .inl (fun k => nI ((nupd nr sv ro) k))))], [(ad 19, .inl (gI G, 8, .inl (fun k => nI ((nupd nr mo rmo) k))))], [(ad 20, .inl (gI G, 8, .inl (fun k => if rb k = true then 1 else 0)))]] H locs := hw
    have hw := aw_arr hw 3 rfl (fun k => if (nupd nr kw rb) k = true then 1 else 0) (fun _ _ => by rw [← nupd_f (by omega)])
    have hw : bW G A s.heap [[(ad 5, .inr (4, [.ref (ad 16), .ref (ad 17), .ref (ad 18), .ref (ad 19), .ref (ad 20), .ref (ad 21), .int (nI nn), .int (nI nr)]))], [(ad 18, .inl (gI G, 8, .inl (fun k => nI ((nupd nr sv ro) k))))], [(ad 19, .inl (gI G, 8, .inl (fun k => nI ((nupd nr mo rmo) k))))], [(ad 20, .inl (gI G, 8, .inl (fun k => if (nupd nr kw rb) k = true then 1 else 0)))]] H locs := hw
    rw [show (nI (nr) : Int32) = nI (min (nr + 1) 8) from congrArg nI (by omega)] at hw
    refine aw_eqi (show ((-4) : Int32) = if nr < 8 then nI nr else -4 from (by rw [if_neg (by omega)])) ?_
    exact aw_iret S hr hlk ha hQ hAe hw dX4_addReading_11 rfl (Nat.le_of_ble_eq_true rfl) (Nat.le_of_ble_eq_true rfl) ⟨rfl, rfl⟩
set_option maxRecDepth 100000 in
set_option maxHeartbeats 4000000 in
theorem c_X4_readersOf (l : Launch) (G : aw_G) (ad : Nat → Nat) (nn nr : Nat) (nf nt : Nat → Nat) (wr : Int32) (hnn : nn ≤ 8) (hnf : ∀ k, k < nn → nf k < 6) : CT l G yX4_readersOf wsX4_readersOf ({ frames := 1, cells := 0, slots := 0, locals := 21 }) [.ref (ad 5), .int wr] [[(ad 5, .inr (4, [.ref (ad 16), .ref (ad 17), .ref (ad 18), .ref (ad 19), .ref (ad 20), .ref (ad 21), .int (nI nn), .int (nI nr)]))], [(ad 16, .inl (gI G, 8, .inl (fun k => nI (nf k))))], [(ad 17, .inl (gI G, 8, .inl (fun k => nI (nt k))))]] (dt (some (.int (rdF nf nt wr nn))) [[(ad 5, .inr (4, [.ref (ad 16), .ref (ad 17), .ref (ad 18), .ref (ad 19), .ref (ad 20), .ref (ad 21), .int (nI nn), .int (nI nr)]))], [(ad 16, .inl (gI G, 8, .inl (fun k => nI (nf k))))], [(ad 17, .inl (gI G, 8, .inl (fun k => nI (nt k))))]]) := by
  refine CT.of (cc := cX4_readersOf) (nL := 4) (ret := (some .int)) (by decide) rfl (Nat.le_of_ble_eq_true rfl) ?_
  intro p e s m below meth c R args Q A hRm ha hQ hAe hA S hE hr hlk hnm H locs hH0 hL0 ls hl hw
  have S : CallFix p m c cX4_readersOf 4 s args wsX4_readersOf RX4 := S
  have hl : lv_has ls 4 [(0, .ref (ad 5)), (1, .int wr)] := hl
  have hinX4 : ∀ w ∈ u_ws RX4 TX4 8, w ∈ wsX4_readersOf := by decide +kernel
  have hf30 := S.2.2.2.2 (.fieldLink RX4 30 "AwakeTurns$News" "notes" "I") (by decide +kernel)
  have hf9 := S.2.2.2.2 (.fieldLink RX4 9 "AwakeTurns$News" "noteFrom" "[I") (by decide +kernel)
  have hz_ini_X10_isIn := S.2.2.2.2 (.initialized RX10) (by decide +kernel)
  have hz_st_X10_isIn := S.2.2.2.2 (.static yX10_isIn) (by decide +kernel)
  have hf15 := S.2.2.2.2 (.fieldLink RX4 15 "AwakeTurns$News" "noteTo" "[I") (by decide +kernel)
  refine lv_iconst (v := 0) S.1 S.2.1 dX4_readersOf_0 (by decide) ?_
  refine lv_istore_n (lv' := [(2, .int 0), (0, .ref (ad 5)), (1, .int wr)]) S.1 S.2.1 dX4_readersOf_1 rfl hl (by decide) rfl (fun ls hl => ?_)
  refine lv_iconst (v := 0) S.1 S.2.1 dX4_readersOf_2 (by decide) ?_
  refine lv_istore_n (lv' := [(3, .int 0), (2, .int 0), (0, .ref (ad 5)), (1, .int wr)]) S.1 S.2.1 dX4_readersOf_3 rfl hl (by decide) rfl (fun ls hl => ?_)
  have loop4 : ∀ (fu : Nat) (i : Nat), (i ≤ nn) → (nn - i) < fu → ∀ (ls : Array Slot) (H : Heap) (locs : List Loc), lv_has ls 4 [(0, .ref (ad 5)), (1, .int wr), (2, .int (rdF nf nt wr i)), (3, .int (nI i))] → bW G A s.heap [[(ad 5, .inr (4, [.ref (ad 16), .ref (ad 17), .ref (ad 18), .ref (ad 19), .ref (ad 20), .ref (ad 21), .int (nI nn), .int (nI nr)]))], [(ad 16, .inl (gI G, 8, .inl (fun k => nI (nf k))))], [(ad 17, .inl (gI G, 8, .inl (fun k => nI (nt k))))]] H locs → W p l e R s m args below meth c H locs 0 0 Q (F0 m 4 ls []) := by
    intro fu
    induction fu with
    | zero => intro i _ hm; exact absurd hm (Nat.not_lt_zero _)
    | succ fu ih4 =>
      intro i hi hm ls H locs hl hw
      refine lv_iload_n S.1 S.2.1 dX4_readersOf_4 rfl (lv_at hl 3 rfl) ?_
      refine lv_aload_n S.1 S.2.1 dX4_readersOf_5 rfl (lv_at hl 0 rfl) ?_
      refine aw_get S hE hw 0 (C := RX4) (T := TX4) (N := 8) rfl rfl hinX4 6 (by decide) hf30 rfl dX4_readersOf_6 ?_
      refine aw_icmpN_ge (x := i) (y := nn) (tgt := 42) S (by omega) (by omega) dX4_readersOf_9 (by decide) (fun c9 => ?_) (fun c9 => ?_)
      · have ex_i : i = nn := by omega
        try rw [ex_i] at hl
        try rw [ex_i] at hw
        refine lv_iload_n S.1 S.2.1 dX4_readersOf_42 rfl (lv_at hl 2 rfl) ?_
        exact aw_iret S hr hlk ha hQ hAe hw dX4_readersOf_43 rfl (Nat.le_of_ble_eq_true rfl) (Nat.le_of_ble_eq_true rfl) ⟨rfl, rfl⟩
      · refine lv_iload_n S.1 S.2.1 dX4_readersOf_12 rfl (lv_at hl 1 rfl) ?_
        refine lv_aload_n S.1 S.2.1 dX4_readersOf_13 rfl (lv_at hl 0 rfl) ?_
        refine aw_get S hE hw 0 (C := RX4) (T := TX4) (N := 8) rfl rfl hinX4 0 (by decide) hf9 rfl dX4_readersOf_14 ?_
        refine lv_iload_n S.1 S.2.1 dX4_readersOf_17 rfl (lv_at hl 3 rfl) ?_
        refine aw_iald S hE hw 1 (k := i) rfl (by omega) (by decide) dX4_readersOf_18 ?_
        refine aw_callSN (n := 2) S hE (c_X10_isIn l G wr (nf i) (by have := hnf i (by omega); omega)) gX4_readersOf_X10_isIn_n41 rfl hE.2.1.2.1 hz_ini_X10_isIn hz_st_X10_isIn (by decide +kernel) rfl (by rw [hRm]; exact ⟨Nat.le_of_ble_eq_true rfl, Nat.le_of_ble_eq_true rfl⟩) (by rw [hRm]; exact ⟨Nat.le_of_ble_eq_true rfl, Nat.le_of_ble_eq_true rfl⟩) hw hA hl.1 [] rfl rfl rfl (Nat.le_of_ble_eq_true rfl) dX4_readersOf_19 ?_
        rintro v w1 H locs ⟨rfl, rfl⟩ hw
        have hw : bW G A s.heap [[(ad 5, .inr (4, [.ref (ad 16), .ref (ad 17), .ref (ad 18), .ref (ad 19), .ref (ad 20), .ref (ad 21), .int (nI nn), .int (nI nr)]))], [(ad 16, .inl (gI G, 8, .inl (fun k => nI (nf k))))], [(ad 17, .inl (gI G, 8, .inl (fun k => nI (nt k))))]] H locs := hw
        refine W.eq (g2 := (F0 m 22 ls [.int (if bt wr (nf i) = true then 1 else 0)])) rfl ?_
        refine aw_ifeq (P := bt wr (nf i) = true) (tgt := 36) S dX4_readersOf_22 (by decide) (fun c22 => ?_) (fun c22 => ?_)
        · have hl := Eq.mp (congrArg (fun z_ : Int32 => lv_has ls 4 [(0, .ref (ad 5)), (1, .int wr), (2, .int z_), (3, .int (nI i))]) (show (rdF nf nt wr i : Int32) = rdF nf nt wr (i + 1) from (by rw [rdF, if_neg c22]))) hl
          have hl : lv_has ls 4 [(0, .ref (ad 5)), (1, .int wr), (2, .int (rdF nf nt wr (i + 1))), (3, .int (nI i))] := hl
          refine lv_iinc (v := nI (i + 1)) (lv' := [(3, .int (nI (i + 1))), (0, .ref (ad 5)), (1, .int wr), (2, .int (rdF nf nt wr (i + 1)))]) S.1 S.2.1 dX4_readersOf_36 hl (k := 3) rfl (by first | exact nI_1 _ | exact nI_add _ _ | rfl) (by decide) rfl (fun ls hl => ?_)
          refine lv_goto (tgt := 4) S.1 S.2.1 dX4_readersOf_39 (by decide) ?_
          exact ih4 (i + 1) (by first | assumption | omega) (by omega) _ _ _ (lv_sub hl [1, 2, 3, 0] rfl) hw
        · refine lv_iload_n S.1 S.2.1 dX4_readersOf_25 rfl (lv_at hl 2 rfl) ?_
          refine lv_iconst (v := 1) S.1 S.2.1 dX4_readersOf_26 (by decide) ?_
          refine lv_aload_n S.1 S.2.1 dX4_readersOf_27 rfl (lv_at hl 0 rfl) ?_
          refine aw_get S hE hw 0 (C := RX4) (T := TX4) (N := 8) rfl rfl hinX4 1 (by decide) hf15 rfl dX4_readersOf_28 ?_
          refine lv_iload_n S.1 S.2.1 dX4_readersOf_31 rfl (lv_at hl 3 rfl) ?_
          refine aw_iald S hE hw 2 (k := i) rfl (by omega) (by decide) dX4_readersOf_32 ?_
          refine lv_ishl S.1 S.2.1 dX4_readersOf_33 ?_
          refine lv_ior S.1 S.2.1 dX4_readersOf_34 ?_
          refine aw_eqi (show ((rdF nf nt wr i) ||| (1 <<< ((nI (nt i)) &&& 31)) : Int32) = rdF nf nt wr (i + 1) from (by rw [rdF, if_pos c22])) ?_
          refine lv_istore_n (lv' := [(2, .int (rdF nf nt wr (i + 1))), (0, .ref (ad 5)), (1, .int wr), (3, .int (nI i))]) S.1 S.2.1 dX4_readersOf_35 rfl hl (by decide) rfl (fun ls hl => ?_)
          refine lv_iinc (v := nI (i + 1)) (lv' := [(3, .int (nI (i + 1))), (2, .int (rdF nf nt wr (i + 1))), (0, .ref (ad 5)), (1, .int wr)]) S.1 S.2.1 dX4_readersOf_36 hl (k := 3) rfl (by first | exact nI_1 _ | exact nI_add _ _ | rfl) (by decide) rfl (fun ls hl => ?_)
          refine lv_goto (tgt := 4) S.1 S.2.1 dX4_readersOf_39 (by decide) ?_
          exact ih4 (i + 1) (by first | assumption | omega) (by omega) _ _ _ (lv_sub hl [2, 3, 1, 0] rfl) hw
  exact loop4 _ 0 (by first | assumption | omega) (Nat.lt_succ_self _) _ _ _ (lv_sub hl [2, 3, 1, 0] rfl) hw
set_option maxRecDepth 100000 in
set_option maxHeartbeats 4000000 in
theorem c_X4_spread (l : Launch) (G : aw_G) (ad : Nat → Nat) (nn nr : Nat) (nf nt : Nat → Nat) (kn : Nat → Int32) (fr si at_ : Nat) (tf : Nat → Int32) (hnn : nn ≤ 8) (hnf : ∀ k, k < nn → nf k < 6) (hsi : si < 12) : CT l G yX4_spread wsX4_spread ({ frames := 2, cells := 0, slots := 0, locals := 44 }) [.ref (ad 5), .int (nI fr), .int (nI si), .ref at_] [[(ad 5, .inr (4, [.ref (ad 16), .ref (ad 17), .ref (ad 18), .ref (ad 19), .ref (ad 20), .ref (ad 21), .int (nI nn), .int (nI nr)]))], [(ad 16, .inl (gI G, 8, .inl (fun k => nI (nf k))))], [(ad 17, .inl (gI G, 8, .inl (fun k => nI (nt k))))], [(ad 21, .inl (gI G, 12, .inl kn))], [(at_, .inl (gI G, 12, .inl tf))]] (dt none [[(ad 5, .inr (4, [.ref (ad 16), .ref (ad 17), .ref (ad 18), .ref (ad 19), .ref (ad 20), .ref (ad 21), .int (nI nn), .int (nI nr)]))], [(ad 16, .inl (gI G, 8, .inl (fun k => nI (nf k))))], [(ad 17, .inl (gI G, 8, .inl (fun k => nI (nt k))))], [(ad 21, .inl (gI G, 12, .inl (nwE nf nt nn fr si tf)))], [(at_, .inl (gI G, 12, .inl tf))]]) := by
  refine CT.of (cc := cX4_spread) (nL := 7) (ret := none) (by decide) rfl (Nat.le_of_ble_eq_true rfl) ?_
  intro p e s m below meth c R args Q A hRm ha hQ hAe hA S hE hr hlk hnm H locs hH0 hL0 ls hl hw
  have S : CallFix p m c cX4_spread 7 s args wsX4_spread RX4 := S
  have hl : lv_has ls 7 [(0, .ref (ad 5)), (1, .int (nI fr)), (2, .int (nI si)), (3, .ref at_)] := hl
  have hinX4 : ∀ w ∈ u_ws RX4 TX4 8, w ∈ wsX4_spread := by decide +kernel
  have hf27 := S.2.2.2.2 (.fieldLink RX4 27 "AwakeTurns$News" "knowing" "[I") (by decide +kernel)
  refine lv_iconst (v := 0) S.1 S.2.1 dX4_spread_0 (by decide) ?_
  refine lv_istore (lv' := [(4, .int 0), (0, .ref (ad 5)), (1, .int (nI fr)), (2, .int (nI si)), (3, .ref at_)]) S.1 S.2.1 dX4_spread_1 hl (by decide) rfl (fun ls hl => ?_)
  refine lv_iconst (v := 0) S.1 S.2.1 dX4_spread_3 (by decide) ?_
  refine lv_istore (lv' := [(5, .int 0), (4, .int 0), (0, .ref (ad 5)), (1, .int (nI fr)), (2, .int (nI si)), (3, .ref at_)]) S.1 S.2.1 dX4_spread_4 hl (by decide) rfl (fun ls hl => ?_)
  refine lv_iconst (v := 0) S.1 S.2.1 dX4_spread_6 (by decide) ?_
  refine lv_istore (lv' := [(6, .int 0), (5, .int 0), (4, .int 0), (0, .ref (ad 5)), (1, .int (nI fr)), (2, .int (nI si)), (3, .ref at_)]) S.1 S.2.1 dX4_spread_7 hl (by decide) rfl (fun ls hl => ?_)
  have hw := aw_arr hw 3 rfl (fa_fill (nwE nf nt nn fr si tf) kn 0) (fun _ _ => by rw [fa_fill_0])
  have hw : bW G A s.heap [[(ad 5, .inr (4, [.ref (ad 16), .ref (ad 17), .ref (ad 18), .ref (ad 19), .ref (ad 20), .ref (ad 21), .int (nI nn), .int (nI nr)]))], [(ad 16, .inl (gI G, 8, .inl (fun k => nI (nf k))))], [(ad 17, .inl (gI G, 8, .inl (fun k => nI (nt k))))], [(ad 21, .inl (gI G, 12, .inl (fa_fill (nwE nf nt nn fr si tf) kn 0)))], [(at_, .inl (gI G, 12, .inl tf))]] H locs := hw
  have loop9 : ∀ (fu : Nat) (i : Nat), (i ≤ 12) → (12 - i) < fu → ∀ (ls : Array Slot) (H : Heap) (locs : List Loc), lv_has ls 7 [(0, .ref (ad 5)), (1, .int (nI fr)), (2, .int (nI si)), (3, .ref at_), (4, .int ((nwK nf nt nn fr si tf i).1)), (5, .int ((nwK nf nt nn fr si tf i).2)), (6, .int (nI i))] → bW G A s.heap [[(ad 5, .inr (4, [.ref (ad 16), .ref (ad 17), .ref (ad 18), .ref (ad 19), .ref (ad 20), .ref (ad 21), .int (nI nn), .int (nI nr)]))], [(ad 16, .inl (gI G, 8, .inl (fun k => nI (nf k))))], [(ad 17, .inl (gI G, 8, .inl (fun k => nI (nt k))))], [(ad 21, .inl (gI G, 12, .inl (fa_fill (nwE nf nt nn fr si tf) kn i)))], [(at_, .inl (gI G, 12, .inl tf))]] H locs → W p l e R s m args below meth c H locs 0 0 Q (F0 m 9 ls []) := by
    intro fu
    induction fu with
    | zero => intro i _ hm; exact absurd hm (Nat.not_lt_zero _)
    | succ fu ih9 =>
      intro i hi hm ls H locs hl hw
      refine lv_iload S.1 S.2.1 dX4_spread_9 (lv_at hl 6 rfl) ?_
      refine lv_bipush (v := 12) S.1 S.2.1 dX4_spread_11 (by decide) ?_
      refine aw_icmpN_ge (x := i) (y := 12) (tgt := 89) S (by omega) (by omega) dX4_spread_13 (by decide) (fun c13 => ?_) (fun c13 => ?_)
      · have ex_i : i = 12 := by omega
        try rw [ex_i] at hl
        try rw [ex_i] at hw
        have hw := aw_arr hw 3 rfl (nwE nf nt nn fr si tf) (fun j hj => by rw [fa_fill_in hj])
        have hw : bW G A s.heap [[(ad 5, .inr (4, [.ref (ad 16), .ref (ad 17), .ref (ad 18), .ref (ad 19), .ref (ad 20), .ref (ad 21), .int (nI nn), .int (nI nr)]))], [(ad 16, .inl (gI G, 8, .inl (fun k => nI (nf k))))], [(ad 17, .inl (gI G, 8, .inl (fun k => nI (nt k))))], [(ad 21, .inl (gI G, 12, .inl (nwE nf nt nn fr si tf)))], [(at_, .inl (gI G, 12, .inl tf))]] H locs := hw
        exact aw_vret S hr hlk ha hQ hAe hw dX4_spread_89 (Nat.le_of_ble_eq_true rfl) (Nat.le_of_ble_eq_true rfl) ⟨rfl, rfl⟩
      · refine lv_iload S.1 S.2.1 dX4_spread_16 (lv_at hl 6 rfl) ?_
        refine lv_iload_n S.1 S.2.1 dX4_spread_18 rfl (lv_at hl 2 rfl) ?_
        have join27 : ∀ (H : Heap) (locs : List Loc), ∀ (ls : Array Slot), lv_has ls 7 [(0, .ref (ad 5)), (1, .int (nI fr)), (2, .int (nI si)), (3, .ref at_), (4, .int (nk0 fr si i (nwK nf nt nn fr si tf i).1)), (5, .int ((nwK nf nt nn fr si tf i).2)), (6, .int (nI i))] → bW G A s.heap [[(ad 5, .inr (4, [.ref (ad 16), .ref (ad 17), .ref (ad 18), .ref (ad 19), .ref (ad 20), .ref (ad 21), .int (nI nn), .int (nI nr)]))], [(ad 16, .inl (gI G, 8, .inl (fun k => nI (nf k))))], [(ad 17, .inl (gI G, 8, .inl (fun k => nI (nt k))))], [(ad 21, .inl (gI G, 12, .inl (fa_fill (nwE nf nt nn fr si tf) kn i)))], [(at_, .inl (gI G, 12, .inl tf))]] H locs → W p l e R s m args below meth c H locs 0 0 Q (F0 m 27 ls []) := by
          intro  H locs ls hl hw
          refine lv_iload S.1 S.2.1 dX4_spread_27 (lv_at hl 4 rfl) ?_
          refine lv_aload_n S.1 S.2.1 dX4_spread_29 rfl (lv_at hl 0 rfl) ?_
          refine lv_iload S.1 S.2.1 dX4_spread_30 (lv_at hl 5 rfl) ?_
          refine aw_callV S hE (c_X4_readersOf l G ad nn nr nf nt ((nwK nf nt nn fr si tf i).2) (by first | assumption | omega) (by first | assumption | omega)) gX4_spread_X4_readersOf (n := 1) rfl (by decide +kernel) rfl (by rw [hRm]; exact ⟨Nat.le_of_ble_eq_true rfl, Nat.le_of_ble_eq_true rfl⟩) (by rw [hRm]; exact ⟨Nat.le_of_ble_eq_true rfl, Nat.le_of_ble_eq_true rfl⟩) hw hA hl.1 [0, 1, 2] rfl rfl (aw_recv (i := 0) hE hw rfl rfl rfl) rfl (Nat.le_of_ble_eq_true rfl) dX4_spread_32 ?_
          rintro v w1 H locs ⟨rfl, rfl⟩ hw
          have hw : bW G A s.heap [[(ad 5, .inr (4, [.ref (ad 16), .ref (ad 17), .ref (ad 18), .ref (ad 19), .ref (ad 20), .ref (ad 21), .int (nI nn), .int (nI nr)]))], [(ad 16, .inl (gI G, 8, .inl (fun k => nI (nf k))))], [(ad 17, .inl (gI G, 8, .inl (fun k => nI (nt k))))], [(ad 21, .inl (gI G, 12, .inl (fa_fill (nwE nf nt nn fr si tf) kn i)))], [(at_, .inl (gI G, 12, .inl tf))]] H locs := hw
          refine W.eq (g2 := (F0 m 35 ls [.int (rdF nf nt ((nwK nf nt nn fr si tf i).2) nn), .int (nk0 fr si i (nwK nf nt nn fr si tf i).1)])) rfl ?_
          refine lv_aload_n S.1 S.2.1 dX4_spread_35 rfl (lv_at hl 3 rfl) ?_
          refine lv_iload S.1 S.2.1 dX4_spread_36 (lv_at hl 6 rfl) ?_
          refine aw_iald S hE hw 4 (k := i) rfl (by omega) (by decide) dX4_spread_38 ?_
          refine lv_iand S.1 S.2.1 dX4_spread_39 ?_
          refine lv_ior S.1 S.2.1 dX4_spread_40 ?_
          refine aw_eqi (show ((nk0 fr si i (nwK nf nt nn fr si tf i).1) ||| ((rdF nf nt ((nwK nf nt nn fr si tf i).2) nn) &&& (tf i)) : Int32) = nk1 (nk0 fr si i (nwK nf nt nn fr si tf i).1) (rdF nf nt (nwK nf nt nn fr si tf i).2 nn) (tf i) from rfl) ?_
          refine lv_istore (lv' := [(4, .int (nk1 (nk0 fr si i (nwK nf nt nn fr si tf i).1) (rdF nf nt (nwK nf nt nn fr si tf i).2 nn) (tf i))), (0, .ref (ad 5)), (1, .int (nI fr)), (2, .int (nI si)), (3, .ref at_), (5, .int ((nwK nf nt nn fr si tf i).2)), (6, .int (nI i))]) S.1 S.2.1 dX4_spread_41 hl (by decide) rfl (fun ls hl => ?_)
          refine lv_iload S.1 S.2.1 dX4_spread_43 (lv_at hl 0 rfl) ?_
          refine lv_aload_n S.1 S.2.1 dX4_spread_45 rfl (lv_at hl 4 rfl) ?_
          refine lv_iload S.1 S.2.1 dX4_spread_46 (lv_at hl 6 rfl) ?_
          refine aw_iald S hE hw 4 (k := i) rfl (by omega) (by decide) dX4_spread_48 ?_
          refine lv_iand S.1 S.2.1 dX4_spread_49 ?_
          have join62 : ∀ (H : Heap) (locs : List Loc), ∀ (ls : Array Slot), lv_has ls 7 [(4, .int (nk2 (nk1 (nk0 fr si i (nwK nf nt nn fr si tf i).1) (rdF nf nt (nwK nf nt nn fr si tf i).2 nn) (tf i)) (tf i))), (0, .ref (ad 5)), (1, .int (nI fr)), (2, .int (nI si)), (3, .ref at_), (5, .int ((nwK nf nt nn fr si tf i).2)), (6, .int (nI i))] → bW G A s.heap [[(ad 5, .inr (4, [.ref (ad 16), .ref (ad 17), .ref (ad 18), .ref (ad 19), .ref (ad 20), .ref (ad 21), .int (nI nn), .int (nI nr)]))], [(ad 16, .inl (gI G, 8, .inl (fun k => nI (nf k))))], [(ad 17, .inl (gI G, 8, .inl (fun k => nI (nt k))))], [(ad 21, .inl (gI G, 12, .inl (fa_fill (nwE nf nt nn fr si tf) kn i)))], [(at_, .inl (gI G, 12, .inl tf))]] H locs → W p l e R s m args below meth c H locs 0 0 Q (F0 m 62 ls []) := by
            intro  H locs ls hl hw
            refine lv_iload S.1 S.2.1 dX4_spread_62 (lv_at hl 5 rfl) ?_
            refine lv_iload S.1 S.2.1 dX4_spread_64 (lv_at hl 0 rfl) ?_
            refine lv_aload_n S.1 S.2.1 dX4_spread_66 rfl (lv_at hl 4 rfl) ?_
            refine lv_iload S.1 S.2.1 dX4_spread_67 (lv_at hl 6 rfl) ?_
            refine aw_iald S hE hw 4 (k := i) rfl (by omega) (by decide) dX4_spread_69 ?_
            refine lv_iand S.1 S.2.1 dX4_spread_70 ?_
            refine lv_ior S.1 S.2.1 dX4_spread_71 ?_
            refine lv_istore (lv' := [(5, .int (((nwK nf nt nn fr si tf i).2) ||| ((nk2 (nk1 (nk0 fr si i (nwK nf nt nn fr si tf i).1) (rdF nf nt (nwK nf nt nn fr si tf i).2 nn) (tf i)) (tf i)) &&& (tf i)))), (4, .int (nk2 (nk1 (nk0 fr si i (nwK nf nt nn fr si tf i).1) (rdF nf nt (nwK nf nt nn fr si tf i).2 nn) (tf i)) (tf i))), (0, .ref (ad 5)), (1, .int (nI fr)), (2, .int (nI si)), (3, .ref at_), (6, .int (nI i))]) S.1 S.2.1 dX4_spread_72 hl (by decide) rfl (fun ls hl => ?_)
            refine lv_aload_n S.1 S.2.1 dX4_spread_74 rfl (lv_at hl 2 rfl) ?_
            refine aw_get S hE hw 0 (C := RX4) (T := TX4) (N := 8) rfl rfl hinX4 5 (by decide) hf27 rfl dX4_spread_75 ?_
            refine lv_iload S.1 S.2.1 dX4_spread_78 (lv_at hl 6 rfl) ?_
            refine lv_iload S.1 S.2.1 dX4_spread_80 (lv_at hl 1 rfl) ?_
            refine aw_iast S hE hw 3 (k := i) rfl (by omega) (by decide) dX4_spread_82 (fun H locs hw => ?_)
            have hw : bW G A s.heap [[(ad 5, .inr (4, [.ref (ad 16), .ref (ad 17), .ref (ad 18), .ref (ad 19), .ref (ad 20), .ref (ad 21), .int (nI nn), .int (nI nr)]))], [(ad 16, .inl (gI G, 8, .inl (fun k => nI (nf k))))], [(ad 17, .inl (gI G, 8, .inl (fun k => nI (nt k))))], [(ad 21, .inl (gI G, 12, .inl (upd (fa_fill (nwE nf nt nn fr si tf) kn i) i (nk2 (nk1 (nk0 fr si i (nwK nf nt nn fr si tf i).1) (rdF nf nt (nwK nf nt nn fr si tf i).2 nn) (tf i)) (tf i)))))], [(at_, .inl (gI G, 12, .inl tf))]] H locs := hw
            refine lv_iinc (v := nI (i + 1)) (lv' := [(6, .int (nI (i + 1))), (5, .int (((nwK nf nt nn fr si tf i).2) ||| ((nk2 (nk1 (nk0 fr si i (nwK nf nt nn fr si tf i).1) (rdF nf nt (nwK nf nt nn fr si tf i).2 nn) (tf i)) (tf i)) &&& (tf i)))), (4, .int (nk2 (nk1 (nk0 fr si i (nwK nf nt nn fr si tf i).1) (rdF nf nt (nwK nf nt nn fr si tf i).2 nn) (tf i)) (tf i))), (0, .ref (ad 5)), (1, .int (nI fr)), (2, .int (nI si)), (3, .ref at_)]) S.1 S.2.1 dX4_spread_83 hl (k := 6) rfl (by first | exact nI_1 _ | exact nI_add _ _ | rfl) (by decide) rfl (fun ls hl => ?_)
            refine lv_goto (tgt := 9) S.1 S.2.1 dX4_spread_86 (by decide) ?_
            have hw := aw_arr hw 3 rfl (fa_fill (nwE nf nt nn fr si tf) kn (i + 1)) (fun _ _ => by rw [← fa_fill_succ]; rfl)
            have hw : bW G A s.heap [[(ad 5, .inr (4, [.ref (ad 16), .ref (ad 17), .ref (ad 18), .ref (ad 19), .ref (ad 20), .ref (ad 21), .int (nI nn), .int (nI nr)]))], [(ad 16, .inl (gI G, 8, .inl (fun k => nI (nf k))))], [(ad 17, .inl (gI G, 8, .inl (fun k => nI (nt k))))], [(ad 21, .inl (gI G, 12, .inl (fa_fill (nwE nf nt nn fr si tf) kn (i + 1))))], [(at_, .inl (gI G, 12, .inl tf))]] H locs := hw
            exact ih9 (i + 1) (by first | assumption | omega) (by omega) _ _ _ (lv_sub hl [3, 4, 5, 6, 2, 1, 0] rfl) hw
          refine lv_if_eq (tgt := 62) S.1 S.2.1 dX4_spread_50 (by decide) (fun c50 => ?_) (fun c50 => ?_)
          · have hl := Eq.mp (congrArg (fun z_ : Int32 => lv_has ls 7 [(4, .int z_), (0, .ref (ad 5)), (1, .int (nI fr)), (2, .int (nI si)), (3, .ref at_), (5, .int ((nwK nf nt nn fr si tf i).2)), (6, .int (nI i))]) (show (nk1 (nk0 fr si i (nwK nf nt nn fr si tf i).1) (rdF nf nt (nwK nf nt nn fr si tf i).2 nn) (tf i) : Int32) = nk2 (nk1 (nk0 fr si i (nwK nf nt nn fr si tf i).1) (rdF nf nt (nwK nf nt nn fr si tf i).2 nn) (tf i)) (tf i) from (by rw [nk2, if_pos c50]))) hl
            have hl : lv_has ls 7 [(4, .int (nk2 (nk1 (nk0 fr si i (nwK nf nt nn fr si tf i).1) (rdF nf nt (nwK nf nt nn fr si tf i).2 nn) (tf i)) (tf i))), (0, .ref (ad 5)), (1, .int (nI fr)), (2, .int (nI si)), (3, .ref at_), (5, .int ((nwK nf nt nn fr si tf i).2)), (6, .int (nI i))] := hl
            exact join62  _ _ _ (lv_sub hl [0, 1, 2, 3, 4, 5, 6] rfl) hw
          · refine lv_iload S.1 S.2.1 dX4_spread_53 (lv_at hl 0 rfl) ?_
            refine lv_aload_n S.1 S.2.1 dX4_spread_55 rfl (lv_at hl 4 rfl) ?_
            refine lv_iload S.1 S.2.1 dX4_spread_56 (lv_at hl 6 rfl) ?_
            refine aw_iald S hE hw 4 (k := i) rfl (by omega) (by decide) dX4_spread_58 ?_
            refine lv_ior S.1 S.2.1 dX4_spread_59 ?_
            refine aw_eqi (show ((nk1 (nk0 fr si i (nwK nf nt nn fr si tf i).1) (rdF nf nt (nwK nf nt nn fr si tf i).2 nn) (tf i)) ||| (tf i) : Int32) = nk2 (nk1 (nk0 fr si i (nwK nf nt nn fr si tf i).1) (rdF nf nt (nwK nf nt nn fr si tf i).2 nn) (tf i)) (tf i) from (by rw [nk2, if_neg c50])) ?_
            refine lv_istore (lv' := [(4, .int (nk2 (nk1 (nk0 fr si i (nwK nf nt nn fr si tf i).1) (rdF nf nt (nwK nf nt nn fr si tf i).2 nn) (tf i)) (tf i))), (0, .ref (ad 5)), (1, .int (nI fr)), (2, .int (nI si)), (3, .ref at_), (5, .int ((nwK nf nt nn fr si tf i).2)), (6, .int (nI i))]) S.1 S.2.1 dX4_spread_60 hl (by decide) rfl (fun ls hl => ?_)
            exact join62  _ _ _ (lv_sub hl [0, 1, 2, 3, 4, 5, 6] rfl) hw
        refine aw_icmpN_ne (x := i) (y := si) (tgt := 27) S (by omega) (by omega) dX4_spread_19 (by decide) (fun c19 => ?_) (fun c19 => ?_)
        · have hl := Eq.mp (congrArg (fun z_ : Int32 => lv_has ls 7 [(0, .ref (ad 5)), (1, .int (nI fr)), (2, .int (nI si)), (3, .ref at_), (4, .int z_), (5, .int ((nwK nf nt nn fr si tf i).2)), (6, .int (nI i))]) (show ((nwK nf nt nn fr si tf i).1 : Int32) = nk0 fr si i (nwK nf nt nn fr si tf i).1 from (by unfold nk0; simp [c19]))) hl
          have hl : lv_has ls 7 [(0, .ref (ad 5)), (1, .int (nI fr)), (2, .int (nI si)), (3, .ref at_), (4, .int (nk0 fr si i (nwK nf nt nn fr si tf i).1)), (5, .int ((nwK nf nt nn fr si tf i).2)), (6, .int (nI i))] := hl
          exact join27  _ _ _ (lv_sub hl [0, 1, 2, 3, 4, 5, 6] rfl) hw
        · refine lv_iconst (v := 1) S.1 S.2.1 dX4_spread_22 (by decide) ?_
          refine lv_iload_n S.1 S.2.1 dX4_spread_23 rfl (lv_at hl 1 rfl) ?_
          refine lv_ishl S.1 S.2.1 dX4_spread_24 ?_
          refine lv_istore (lv' := [(4, .int (1 <<< ((nI fr) &&& 31))), (0, .ref (ad 5)), (1, .int (nI fr)), (2, .int (nI si)), (3, .ref at_), (5, .int ((nwK nf nt nn fr si tf i).2)), (6, .int (nI i))]) S.1 S.2.1 dX4_spread_25 hl (by decide) rfl (fun ls hl => ?_)
          have hl := Eq.mp (congrArg (fun z_ : Int32 => lv_has ls 7 [(4, .int z_), (0, .ref (ad 5)), (1, .int (nI fr)), (2, .int (nI si)), (3, .ref at_), (5, .int ((nwK nf nt nn fr si tf i).2)), (6, .int (nI i))]) (show (1 <<< ((nI fr) &&& 31) : Int32) = nk0 fr si i (nwK nf nt nn fr si tf i).1 from (by unfold nk0; simp [c19]))) hl
          have hl : lv_has ls 7 [(4, .int (nk0 fr si i (nwK nf nt nn fr si tf i).1)), (0, .ref (ad 5)), (1, .int (nI fr)), (2, .int (nI si)), (3, .ref at_), (5, .int ((nwK nf nt nn fr si tf i).2)), (6, .int (nI i))] := hl
          exact join27  _ _ _ (lv_sub hl [1, 2, 3, 4, 0, 5, 6] rfl) hw
  exact loop9 _ 0 (by first | assumption | omega) (Nat.lt_succ_self _) _ _ _ (lv_sub hl [3, 4, 5, 6, 2, 1, 0] rfl) hw
set_option maxRecDepth 100000 in
set_option maxHeartbeats 4000000 in
theorem c_X4_firstMonthOf (l : Launch) (G : aw_G) (ad : Nat → Nat) (nn nr : Nat) (kn : Nat → Int32) (sv : Nat) (hs : sv < 6) : CT l G yX4_firstMonthOf wsX4_firstMonthOf ({ frames := 1, cells := 0, slots := 0, locals := 21 }) [.ref (ad 5), .int (nI sv)] [[(ad 5, .inr (4, [.ref (ad 16), .ref (ad 17), .ref (ad 18), .ref (ad 19), .ref (ad 20), .ref (ad 21), .int (nI nn), .int (nI nr)]))], [(ad 21, .inl (gI G, 12, .inl kn))]] (dt (some (.int (noI (fF (fun m => bt (kn m) sv) 12) 12))) [[(ad 5, .inr (4, [.ref (ad 16), .ref (ad 17), .ref (ad 18), .ref (ad 19), .ref (ad 20), .ref (ad 21), .int (nI nn), .int (nI nr)]))], [(ad 21, .inl (gI G, 12, .inl kn))]]) := by
  refine CT.of (cc := cX4_firstMonthOf) (nL := 3) (ret := (some .int)) (by decide) rfl (Nat.le_of_ble_eq_true rfl) ?_
  intro p e s m below meth c R args Q A hRm ha hQ hAe hA S hE hr hlk hnm H locs hH0 hL0 ls hl hw
  have S : CallFix p m c cX4_firstMonthOf 3 s args wsX4_firstMonthOf RX4 := S
  have hl : lv_has ls 3 [(0, .ref (ad 5)), (1, .int (nI sv))] := hl
  have hinX4 : ∀ w ∈ u_ws RX4 TX4 8, w ∈ wsX4_firstMonthOf := by decide +kernel
  have hf27 := S.2.2.2.2 (.fieldLink RX4 27 "AwakeTurns$News" "knowing" "[I") (by decide +kernel)
  have hz_ini_X10_isIn := S.2.2.2.2 (.initialized RX10) (by decide +kernel)
  have hz_st_X10_isIn := S.2.2.2.2 (.static yX10_isIn) (by decide +kernel)
  refine lv_iconst (v := 0) S.1 S.2.1 dX4_firstMonthOf_0 (by decide) ?_
  refine lv_istore_n (lv' := [(2, .int 0), (0, .ref (ad 5)), (1, .int (nI sv))]) S.1 S.2.1 dX4_firstMonthOf_1 rfl hl (by decide) rfl (fun ls hl => ?_)
  have loop2 : ∀ (fu : Nat) (i : Nat), (i ≤ 12) → (∀ j, j < i → (fun m => bt (kn m) sv) j = false) → (12 - i) < fu → ∀ (ls : Array Slot) (H : Heap) (locs : List Loc), lv_has ls 3 [(0, .ref (ad 5)), (1, .int (nI sv)), (2, .int (nI i))] → bW G A s.heap [[(ad 5, .inr (4, [.ref (ad 16), .ref (ad 17), .ref (ad 18), .ref (ad 19), .ref (ad 20), .ref (ad 21), .int (nI nn), .int (nI nr)]))], [(ad 21, .inl (gI G, 12, .inl kn))]] H locs → W p l e R s m args below meth c H locs 0 0 Q (F0 m 2 ls []) := by
    intro fu
    induction fu with
    | zero => intro i _ _ hm; exact absurd hm (Nat.not_lt_zero _)
    | succ fu ih2 =>
      intro i hi hp hm ls H locs hl hw
      refine lv_iload_n S.1 S.2.1 dX4_firstMonthOf_2 rfl (lv_at hl 2 rfl) ?_
      refine lv_bipush (v := 12) S.1 S.2.1 dX4_firstMonthOf_3 (by decide) ?_
      refine aw_icmpN_ge (x := i) (y := 12) (tgt := 29) S (by omega) (by omega) dX4_firstMonthOf_5 (by decide) (fun c5 => ?_) (fun c5 => ?_)
      · have ex_i : i = 12 := by omega
        refine lv_bipush (v := (-9)) S.1 S.2.1 dX4_firstMonthOf_29 (by decide) ?_
        refine aw_eqi (show ((-9) : Int32) = noI (fF (fun m => bt (kn m) sv) 12) 12 from (by rw [fF_none (fun j hj => hp j (by omega))]; rfl)) ?_
        exact aw_iret S hr hlk ha hQ hAe hw dX4_firstMonthOf_31 rfl (Nat.le_of_ble_eq_true rfl) (Nat.le_of_ble_eq_true rfl) ⟨rfl, rfl⟩
      · refine lv_aload_n S.1 S.2.1 dX4_firstMonthOf_8 rfl (lv_at hl 0 rfl) ?_
        refine aw_get S hE hw 0 (C := RX4) (T := TX4) (N := 8) rfl rfl hinX4 5 (by decide) hf27 rfl dX4_firstMonthOf_9 ?_
        refine lv_iload_n S.1 S.2.1 dX4_firstMonthOf_12 rfl (lv_at hl 2 rfl) ?_
        refine aw_iald S hE hw 1 (k := i) rfl (by omega) (by decide) dX4_firstMonthOf_13 ?_
        refine lv_iload_n S.1 S.2.1 dX4_firstMonthOf_14 rfl (lv_at hl 1 rfl) ?_
        refine aw_callSN (n := 2) S hE (c_X10_isIn l G (kn i) sv (by first | assumption | omega)) gX4_firstMonthOf_X10_isIn_n41 rfl hE.2.1.2.1 hz_ini_X10_isIn hz_st_X10_isIn (by decide +kernel) rfl (by rw [hRm]; exact ⟨Nat.le_of_ble_eq_true rfl, Nat.le_of_ble_eq_true rfl⟩) (by rw [hRm]; exact ⟨Nat.le_of_ble_eq_true rfl, Nat.le_of_ble_eq_true rfl⟩) hw hA hl.1 [] rfl rfl rfl (Nat.le_of_ble_eq_true rfl) dX4_firstMonthOf_15 ?_
        rintro v w1 H locs ⟨rfl, rfl⟩ hw
        have hw : bW G A s.heap [[(ad 5, .inr (4, [.ref (ad 16), .ref (ad 17), .ref (ad 18), .ref (ad 19), .ref (ad 20), .ref (ad 21), .int (nI nn), .int (nI nr)]))], [(ad 21, .inl (gI G, 12, .inl kn))]] H locs := hw
        refine W.eq (g2 := (F0 m 18 ls [.int (if bt (kn i) sv = true then 1 else 0)])) rfl ?_
        refine aw_ifeq (P := bt (kn i) sv = true) (tgt := 23) S dX4_firstMonthOf_18 (by decide) (fun c18 => ?_) (fun c18 => ?_)
        · refine lv_iinc (v := nI (i + 1)) (lv' := [(2, .int (nI (i + 1))), (0, .ref (ad 5)), (1, .int (nI sv))]) S.1 S.2.1 dX4_firstMonthOf_23 hl (k := 2) rfl (by first | exact nI_1 _ | exact nI_add _ _ | rfl) (by decide) rfl (fun ls hl => ?_)
          refine lv_goto (tgt := 2) S.1 S.2.1 dX4_firstMonthOf_26 (by decide) ?_
          exact ih2 (i + 1) (by first | assumption | omega) (lt_s hp (by simpa using c18)) (by omega) _ _ _ (lv_sub hl [1, 2, 0] rfl) hw
        · refine lv_iload_n S.1 S.2.1 dX4_firstMonthOf_21 rfl (lv_at hl 2 rfl) ?_
          refine aw_eqi (show (nI i : Int32) = noI (fF (fun m => bt (kn m) sv) 12) 12 from (by rw [fF_is (k := i) (by omega) c18 hp, noI, if_pos (by omega)])) ?_
          exact aw_iret S hr hlk ha hQ hAe hw dX4_firstMonthOf_22 rfl (Nat.le_of_ble_eq_true rfl) (Nat.le_of_ble_eq_true rfl) ⟨rfl, rfl⟩
  exact loop2 _ 0 (by first | assumption | omega) (fun j hj => absurd hj (Nat.not_lt_zero j)) (Nat.lt_succ_self _) _ _ _ (lv_sub hl [1, 2, 0] rfl) hw
set_option maxRecDepth 100000 in
set_option maxHeartbeats 4000000 in
theorem c_X4_makesReadingsSo (l : Launch) (G : aw_G) (ad : Nat → Nat) (nn nr : Nat) (ro rmo : Nat → Nat) (rb : Nat → Bool) (kn : Nat → Int32) (hnr : nr ≤ 8) (hro : ∀ k, k < nr → ro k < 6) (hrm : ∀ k, k < nr → rmo k < 12) : CT l G yX4_makesReadingsSo wsX4_makesReadingsSo ({ frames := 0, cells := 0, slots := 0, locals := 0 }) [.ref (ad 5)] [[(ad 5, .inr (4, [.ref (ad 16), .ref (ad 17), .ref (ad 18), .ref (ad 19), .ref (ad 20), .ref (ad 21), .int (nI nn), .int (nI nr)]))], [(ad 18, .inl (gI G, 8, .inl (fun k => nI (ro k))))], [(ad 19, .inl (gI G, 8, .inl (fun k => nI (rmo k))))], [(ad 20, .inl (gI G, 8, .inl (fun k => if rb k = true then 1 else 0)))], [(ad 21, .inl (gI G, 12, .inl kn))]] (dt (some (.int (if rsF kn ro rmo rb nr = nr then 1 else 0))) [[(ad 5, .inr (4, [.ref (ad 16), .ref (ad 17), .ref (ad 18), .ref (ad 19), .ref (ad 20), .ref (ad 21), .int (nI nn), .int (nI nr)]))], [(ad 18, .inl (gI G, 8, .inl (fun k => nI (ro k))))], [(ad 19, .inl (gI G, 8, .inl (fun k => nI (rmo k))))], [(ad 20, .inl (gI G, 8, .inl (fun k => if rb k = true then 1 else 0)))], [(ad 21, .inl (gI G, 12, .inl kn))]]) := by
  refine CT.of (cc := cX4_makesReadingsSo) (nL := 3) (ret := (some .boolean)) (by decide) rfl (Nat.le_of_ble_eq_true rfl) ?_
  intro p e s m below meth c R args Q A hRm ha hQ hAe hA S hE hr hlk hnm H locs hH0 hL0 ls hl hw
  have S : CallFix p m c cX4_makesReadingsSo 3 s args wsX4_makesReadingsSo RX4 := S
  have hl : lv_has ls 3 [(0, .ref (ad 5))] := hl
  have hinX4 : ∀ w ∈ u_ws RX4 TX4 8, w ∈ wsX4_makesReadingsSo := by decide +kernel
  have hf34 := S.2.2.2.2 (.fieldLink RX4 34 "AwakeTurns$News" "readings" "I") (by decide +kernel)
  have hf27 := S.2.2.2.2 (.fieldLink RX4 27 "AwakeTurns$News" "knowing" "[I") (by decide +kernel)
  have hf21 := S.2.2.2.2 (.fieldLink RX4 21 "AwakeTurns$News" "readingMonth" "[I") (by decide +kernel)
  have hf18 := S.2.2.2.2 (.fieldLink RX4 18 "AwakeTurns$News" "readingOf" "[I") (by decide +kernel)
  have hf24 := S.2.2.2.2 (.fieldLink RX4 24 "AwakeTurns$News" "readingBit" "[I") (by decide +kernel)
  refine lv_iconst (v := 0) S.1 S.2.1 dX4_makesReadingsSo_0 (by decide) ?_
  refine lv_istore_n (lv' := [(1, .int 0), (0, .ref (ad 5))]) S.1 S.2.1 dX4_makesReadingsSo_1 rfl hl (by decide) rfl (fun ls hl => ?_)
  have loop2 : ∀ (fu : Nat) (i : Nat), (i ≤ nr) → (∀ j, j < i → (fun k => bt (kn (rmo k)) (ro k) != rb k) j = false) → (nr - i) < fu → ∀ (ls : Array Slot) (H : Heap) (locs : List Loc), lv_has ls 3 [(0, .ref (ad 5)), (1, .int (nI i))] → bW G A s.heap [[(ad 5, .inr (4, [.ref (ad 16), .ref (ad 17), .ref (ad 18), .ref (ad 19), .ref (ad 20), .ref (ad 21), .int (nI nn), .int (nI nr)]))], [(ad 18, .inl (gI G, 8, .inl (fun k => nI (ro k))))], [(ad 19, .inl (gI G, 8, .inl (fun k => nI (rmo k))))], [(ad 20, .inl (gI G, 8, .inl (fun k => if rb k = true then 1 else 0)))], [(ad 21, .inl (gI G, 12, .inl kn))]] H locs → W p l e R s m args below meth c H locs 0 0 Q (F0 m 2 ls []) := by
    intro fu
    induction fu with
    | zero => intro i _ _ hm; exact absurd hm (Nat.not_lt_zero _)
    | succ fu ih2 =>
      intro i hi hp hm ls H locs hl hw
      refine lv_iload_n S.1 S.2.1 dX4_makesReadingsSo_2 rfl (lv_at hl 1 rfl) ?_
      refine lv_aload_n S.1 S.2.1 dX4_makesReadingsSo_3 rfl (lv_at hl 0 rfl) ?_
      refine aw_get S hE hw 0 (C := RX4) (T := TX4) (N := 8) rfl rfl hinX4 7 (by decide) hf34 rfl dX4_makesReadingsSo_4 ?_
      refine aw_icmpN_ge (x := i) (y := nr) (tgt := 49) S (by omega) (by omega) dX4_makesReadingsSo_7 (by decide) (fun c7 => ?_) (fun c7 => ?_)
      · have ex_i : i = nr := by omega
        refine lv_iconst (v := 1) S.1 S.2.1 dX4_makesReadingsSo_49 (by decide) ?_
        refine aw_eqi (show (1 : Int32) = if rsF kn ro rmo rb nr = nr then 1 else 0 from (by rw [if_pos]; exact fF_none (fun j hj => hp j (by omega)))) ?_
        exact aw_iret S hr hlk ha hQ hAe hw dX4_makesReadingsSo_50 (aw_nb _) (Nat.le_of_ble_eq_true rfl) (Nat.le_of_ble_eq_true rfl) ⟨rfl, rfl⟩
      · refine lv_aload_n S.1 S.2.1 dX4_makesReadingsSo_10 rfl (lv_at hl 0 rfl) ?_
        refine aw_get S hE hw 0 (C := RX4) (T := TX4) (N := 8) rfl rfl hinX4 5 (by decide) hf27 rfl dX4_makesReadingsSo_11 ?_
        refine lv_aload_n S.1 S.2.1 dX4_makesReadingsSo_14 rfl (lv_at hl 0 rfl) ?_
        refine aw_get S hE hw 0 (C := RX4) (T := TX4) (N := 8) rfl rfl hinX4 3 (by decide) hf21 rfl dX4_makesReadingsSo_15 ?_
        refine lv_iload_n S.1 S.2.1 dX4_makesReadingsSo_18 rfl (lv_at hl 1 rfl) ?_
        refine aw_iald S hE hw 2 (k := i) rfl (by omega) (by decide) dX4_makesReadingsSo_19 ?_
        refine aw_iald S hE hw 4 (k := (rmo i)) rfl (hrm i (by omega)) (by decide) dX4_makesReadingsSo_20 ?_
        refine lv_aload_n S.1 S.2.1 dX4_makesReadingsSo_21 rfl (lv_at hl 0 rfl) ?_
        refine aw_get S hE hw 0 (C := RX4) (T := TX4) (N := 8) rfl rfl hinX4 2 (by decide) hf18 rfl dX4_makesReadingsSo_22 ?_
        refine lv_iload_n S.1 S.2.1 dX4_makesReadingsSo_25 rfl (lv_at hl 1 rfl) ?_
        refine aw_iald S hE hw 1 (k := i) rfl (by omega) (by decide) dX4_makesReadingsSo_26 ?_
        refine lv_ishr S.1 S.2.1 dX4_makesReadingsSo_27 ?_
        refine lv_iconst (v := 1) S.1 S.2.1 dX4_makesReadingsSo_28 (by decide) ?_
        refine lv_iand S.1 S.2.1 dX4_makesReadingsSo_29 ?_
        refine lv_istore_n (lv' := [(2, .int (((kn (rmo i)) >>> ((nI (ro i)) &&& 31)) &&& 1)), (0, .ref (ad 5)), (1, .int (nI i))]) S.1 S.2.1 dX4_makesReadingsSo_30 rfl hl (by decide) rfl (fun ls hl => ?_)
        refine lv_iload_n S.1 S.2.1 dX4_makesReadingsSo_31 rfl (lv_at hl 0 rfl) ?_
        refine lv_aload_n S.1 S.2.1 dX4_makesReadingsSo_32 rfl (lv_at hl 1 rfl) ?_
        refine aw_get S hE hw 0 (C := RX4) (T := TX4) (N := 8) rfl rfl hinX4 4 (by decide) hf24 rfl dX4_makesReadingsSo_33 ?_
        refine lv_iload_n S.1 S.2.1 dX4_makesReadingsSo_36 rfl (lv_at hl 2 rfl) ?_
        refine aw_iald S hE hw 3 (k := i) rfl (by omega) (by decide) dX4_makesReadingsSo_37 ?_
        refine lv_icmp_eq (tgt := 43) S.1 S.2.1 dX4_makesReadingsSo_38 (by decide) (fun c38 => ?_) (fun c38 => ?_)
        · refine lv_iinc (v := nI (i + 1)) (lv' := [(1, .int (nI (i + 1))), (2, .int (((kn (rmo i)) >>> ((nI (ro i)) &&& 31)) &&& 1)), (0, .ref (ad 5))]) S.1 S.2.1 dX4_makesReadingsSo_43 hl (k := 2) rfl (by first | exact nI_1 _ | exact nI_add _ _ | rfl) (by decide) rfl (fun ls hl => ?_)
          refine lv_goto (tgt := 2) S.1 S.2.1 dX4_makesReadingsSo_46 (by decide) ?_
          exact ih2 (i + 1) (by first | assumption | omega) (lt_s hp (by simpa using (b_rd (by have := hro i (by omega); omega)).mp c38)) (by omega) _ _ _ (lv_sub hl [2, 0] rfl) hw
        · refine lv_iconst (v := 0) S.1 S.2.1 dX4_makesReadingsSo_41 (by decide) ?_
          refine aw_eqi (show (0 : Int32) = if rsF kn ro rmo rb nr = nr then 1 else 0 from (by rw [if_neg]; intro h; have h2 : rsF kn ro rmo rb nr = i := fF_is (by omega) (by simpa using fun q => c38 ((b_rd (by have := hro i (by omega); omega)).mpr q)) hp; omega)) ?_
          exact aw_iret S hr hlk ha hQ hAe hw dX4_makesReadingsSo_42 (aw_nb _) (Nat.le_of_ble_eq_true rfl) (Nat.le_of_ble_eq_true rfl) ⟨rfl, rfl⟩
  exact loop2 _ 0 (by first | assumption | omega) (fun j hj => absurd hj (Nat.not_lt_zero j)) (Nat.lt_succ_self _) _ _ _ (lv_sub hl [1, 0] rfl) hw
