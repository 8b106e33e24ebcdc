/-! the reference: reading a text -/
/-- the code at a place of a text of so many cells from bs on -/
def cdF (shm : Nat → Int32) (bs tl x : Nat) : Int32 := if x < tl then shm (bs + x) else -9
/-- whether a code is a figure in these bounds -/
def figB (c : Int32) (lo hi : Nat) : Bool := decide (48 + (lo : Int) ≤ c.toInt ∧ c.toInt ≤ 48 + (hi : Int))
theorem fig_in {c : Int32} {lo hi : Nat} (h1 : lo ≤ 9) (h2 : hi ≤ 9) : ((nI lo).toInt64.toInt ≤ (c - 48).toInt64.toInt ∧ (c - 48).toInt64.toInt ≤ (nI hi).toInt64.toInt) ↔ (48 + (lo : Int) ≤ c.toInt ∧ c.toInt ≤ 48 + (hi : Int)) := by
  have q1 := Int32.toInt_lt c
  have q2 := Int32.le_toInt c
  rw [l64, l64, l64, nI_toInt (by omega), nI_toInt (by omega), Int32.toInt_sub, show (48 : Int32).toInt = 48 from rfl]
  rcases Int.lt_or_le c.toInt (-2147483600) with z | z
  · have e : (c.toInt - 48).bmod (2 ^ 32) = c.toInt - 48 + 4294967296 := by
      rw [Int.bmod_def]; split <;> omega
    rw [e]; omega
  · rw [Int.bmod_eq_of_le (by omega) (by omega)]; omega
set_option maxRecDepth 100000 in
set_option maxHeartbeats 4000000 in
theorem c_X11_codeAt (l : Launch) (G : aw_G) (am : Nat → Nat) (fl : Int32) (n : Nat) (lw : Int32) (nn ra rsn nr : Nat) (tr : Int32) (shm : Nat → Int32) (bs tl : Nat) (hbs : bs + tl ≤ 240) (hra : ra ≤ 240) : CT l G yX11_codeAt wsX11_codeAt ({ frames := 0, cells := 0, slots := 0, locals := 0 }) [.ref (am 31), .int (nI bs), .int (nI tl)] [[(am 31, mdO am fl n lw nn ra rsn nr tr)], [(am 28, .inl (gI G, 240, .inl shm))]] (dt (some (.int (cdF shm bs tl ra))) [[(am 31, mdO am fl n lw nn ra rsn nr tr)], [(am 28, .inl (gI G, 240, .inl shm))]]) := by
  refine CT.of (cc := cX11_codeAt) (nL := 3) (ret := (some .int)) (by decide) rfl (Nat.le_of_ble_eq_true rfl) ?_
  intro p e s m below meth c R args Q A hRm ha hQ hAe hA S hE hr hlk hnm H locs hH0 hL0 ls hl hw
  have S : CallFix p m c cX11_codeAt 3 s args wsX11_codeAt RX11 := S
  have hl : lv_has ls 3 [(0, .ref (am 31)), (1, .int (nI bs)), (2, .int (nI tl))] := hl
  have hinX11 : ∀ w ∈ u_ws RX11 TX11 31, w ∈ wsX11_codeAt := by decide +kernel
  have hf99 := S.2.2.2.2 (.fieldLink RX11 99 "AwakeTurnsModel" "readAt" "I") (by decide +kernel)
  have hf74 := S.2.2.2.2 (.fieldLink RX11 74 "AwakeTurnsModel" "sheet" "[I") (by decide +kernel)
  refine lv_aload_n S.1 S.2.1 dX11_codeAt_0 rfl (lv_at hl 0 rfl) ?_
  refine aw_get S hE hw 0 (C := RX11) (T := TX11) (N := 31) rfl rfl hinX11 11 (by decide) hf99 rfl dX11_codeAt_1 ?_
  refine lv_iload_n S.1 S.2.1 dX11_codeAt_4 rfl (lv_at hl 2 rfl) ?_
  refine aw_icmpN_ge (x := ra) (y := tl) (tgt := 22) S (by omega) (by omega) dX11_codeAt_5 (by decide) (fun c5 => ?_) (fun c5 => ?_)
  · refine lv_bipush (v := (-9)) S.1 S.2.1 dX11_codeAt_22 (by decide) ?_
    refine aw_eqi (show ((-9) : Int32) = cdF shm bs tl ra from (by rw [cdF, if_neg (by omega)])) ?_
    exact aw_iret S hr hlk ha hQ hAe hw dX11_codeAt_24 rfl (Nat.le_of_ble_eq_true rfl) (Nat.le_of_ble_eq_true rfl) ⟨rfl, rfl⟩
  · refine lv_aload_n S.1 S.2.1 dX11_codeAt_8 rfl (lv_at hl 0 rfl) ?_
    refine aw_get S hE hw 0 (C := RX11) (T := TX11) (N := 31) rfl rfl hinX11 28 (by decide) hf74 rfl dX11_codeAt_9 ?_
    refine lv_iload_n S.1 S.2.1 dX11_codeAt_12 rfl (lv_at hl 1 rfl) ?_
    refine lv_aload_n S.1 S.2.1 dX11_codeAt_13 rfl (lv_at hl 0 rfl) ?_
    refine aw_get S hE hw 0 (C := RX11) (T := TX11) (N := 31) rfl rfl hinX11 11 (by decide) hf99 rfl dX11_codeAt_14 ?_
    refine lv_iadd S.1 S.2.1 dX11_codeAt_17 ?_
    refine aw_eqi (show ((nI bs) + (nI ra) : Int32) = nI (bs + ra) from (nI_add bs ra)) ?_
    refine aw_iald S hE hw 1 (k := (bs + ra)) rfl (by omega) (by decide) dX11_codeAt_18 ?_
    refine lv_goto (tgt := 24) S.1 S.2.1 dX11_codeAt_19 (by decide) ?_
    refine aw_eqi (show (shm (bs + ra) : Int32) = cdF shm bs tl ra from (by rw [cdF, if_pos c5])) ?_
    exact aw_iret S hr hlk ha hQ hAe hw dX11_codeAt_24 rfl (Nat.le_of_ble_eq_true rfl) (Nat.le_of_ble_eq_true rfl) ⟨rfl, rfl⟩
set_option maxRecDepth 100000 in
set_option maxHeartbeats 4000000 in
theorem c_X11_figure (l : Launch) (G : aw_G) (am : Nat → Nat) (fl : Int32) (n : Nat) (lw : Int32) (nn ra rsn nr : Nat) (tr : Int32) (shm : Nat → Int32) (bs tl lo hi : Nat) (hbs : bs + tl ≤ 240) (hra : ra ≤ 240) (hlo : lo ≤ 9) (hhi : hi ≤ 9) : CT l G yX11_figure wsX11_figure ({ frames := 1, cells := 0, slots := 0, locals := 25 }) [.ref (am 31), .int (nI bs), .int (nI tl), .int (nI lo), .int (nI hi)] [[(am 31, mdO am fl n lw nn ra rsn nr tr)], [(am 28, .inl (gI G, 240, .inl shm))]] (dt (some (.int (if figB (cdF shm bs tl ra) lo hi = true then cdF shm bs tl ra - 48 else -9))) [[(am 31, mdO am fl n lw nn (ra + (if figB (cdF shm bs tl ra) lo hi = true then 1 else 0)) rsn nr tr)], [(am 28, .inl (gI G, 240, .inl shm))]]) := by
  refine CT.of (cc := cX11_figure) (nL := 7) (ret := (some .int)) (by decide) rfl (Nat.le_of_ble_eq_true rfl) ?_
  intro p e s m below meth c R args Q A hRm ha hQ hAe hA S hE hr hlk hnm H locs hH0 hL0 ls hl hw
  have S : CallFix p m c cX11_figure 7 s args wsX11_figure RX11 := S
  have hl : lv_has ls 7 [(0, .ref (am 31)), (1, .int (nI bs)), (2, .int (nI tl)), (3, .int (nI lo)), (4, .int (nI hi))] := hl
  have hinX11 : ∀ w ∈ u_ws RX11 TX11 31, w ∈ wsX11_figure := by decide +kernel
  have hf99 := S.2.2.2.2 (.fieldLink RX11 99 "AwakeTurnsModel" "readAt" "I") (by decide +kernel)
  refine lv_aload_n S.1 S.2.1 dX11_figure_0 rfl (lv_at hl 0 rfl) ?_
  refine lv_iload_n S.1 S.2.1 dX11_figure_1 rfl (lv_at hl 1 rfl) ?_
  refine lv_iload_n S.1 S.2.1 dX11_figure_2 rfl (lv_at hl 2 rfl) ?_
  refine aw_callV S hE (c_X11_codeAt l G am fl n lw nn ra rsn nr tr shm bs tl (by first | assumption | omega) (by first | assumption | omega)) gX11_figure_X11_codeAt (n := 2) rfl (by decide +kernel) rfl (by rw [hRm]; exact ⟨Nat.le_of_ble_eq_true rfl, Nat.le_of_ble_eq_true rfl⟩) (by rw [hRm]; exact ⟨Nat.le_of_ble_eq_true rfl, Nat.le_of_ble_eq_true rfl⟩) hw hA hl.1 [0, 1] rfl rfl (aw_recv (i := 0) hE hw rfl rfl rfl) rfl (Nat.le_of_ble_eq_true rfl) dX11_figure_3 ?_
  rintro v w1 H locs ⟨rfl, rfl⟩ hw
  have hw : bW G A s.heap [[(am 31, mdO am fl n lw nn ra rsn nr tr)], [(am 28, .inl (gI G, 240, .inl shm))]] H locs := hw
  refine W.eq (g2 := (F0 m 6 ls [.int (cdF shm bs tl ra)])) rfl ?_
  refine lv_bipush (v := 48) S.1 S.2.1 dX11_figure_6 (by decide) ?_
  refine lv_isub S.1 S.2.1 dX11_figure_8 ?_
  refine lv_istore (lv' := [(5, .int ((cdF shm bs tl ra) - 48)), (0, .ref (am 31)), (1, .int (nI bs)), (2, .int (nI tl)), (3, .int (nI lo)), (4, .int (nI hi))]) S.1 S.2.1 dX11_figure_9 hl (by decide) rfl (fun ls hl => ?_)
  refine lv_iload S.1 S.2.1 dX11_figure_11 (lv_at hl 0 rfl) ?_
  refine lv_i2l S.1 S.2.1 dX11_figure_13 rfl ?_
  refine lv_iload_n S.1 S.2.1 dX11_figure_14 rfl (lv_at hl 4 rfl) ?_
  refine lv_i2l S.1 S.2.1 dX11_figure_15 rfl ?_
  refine lv_iload S.1 S.2.1 dX11_figure_16 (lv_at hl 5 rfl) ?_
  refine lv_i2l S.1 S.2.1 dX11_figure_18 rfl ?_
  refine aw_callS S hE (c_X11_in l G (((cdF shm bs tl ra) - 48).toInt64) ((nI lo).toInt64) ((nI hi).toInt64)) gX11_figure_X11_in (n := 3) rfl (by decide +kernel) rfl (by rw [hRm]; exact ⟨Nat.le_of_ble_eq_true rfl, Nat.le_of_ble_eq_true rfl⟩) (by rw [hRm]; exact ⟨Nat.le_of_ble_eq_true rfl, Nat.le_of_ble_eq_true rfl⟩) hw hA hl.1 [] rfl rfl rfl (Nat.le_of_ble_eq_true rfl) dX11_figure_19 ?_
  rintro v w1 H locs ⟨rfl, rfl⟩ hw
  have hw : bW G A s.heap [[(am 31, mdO am fl n lw nn ra rsn nr tr)], [(am 28, .inl (gI G, 240, .inl shm))]] H locs := hw
  refine W.eq (g2 := (F0 m 22 ls [.int (if Int64.toInt ((nI lo).toInt64) ≤ Int64.toInt (((cdF shm bs tl ra) - 48).toInt64) ∧ Int64.toInt (((cdF shm bs tl ra) - 48).toInt64) ≤ Int64.toInt ((nI hi).toInt64) then 1 else 0)])) rfl ?_
  refine aw_eqi (show (if Int64.toInt ((nI lo).toInt64) ≤ Int64.toInt (((cdF shm bs tl ra) - 48).toInt64) ∧ Int64.toInt (((cdF shm bs tl ra) - 48).toInt64) ≤ Int64.toInt ((nI hi).toInt64) then 1 else 0 : Int32) = if figB (cdF shm bs tl ra) lo hi = true then 1 else 0 from (aw_ifi ((fig_in hlo hhi).trans decide_eq_true_iff.symm))) ?_
  refine lv_istore (lv' := [(6, .int (if figB (cdF shm bs tl ra) lo hi = true then 1 else 0)), (5, .int ((cdF shm bs tl ra) - 48)), (0, .ref (am 31)), (1, .int (nI bs)), (2, .int (nI tl)), (3, .int (nI lo)), (4, .int (nI hi))]) S.1 S.2.1 dX11_figure_22 hl (by decide) rfl (fun ls hl => ?_)
  refine lv_aload_n S.1 S.2.1 dX11_figure_24 rfl (lv_at hl 2 rfl) ?_
  refine lv_dup S.1 S.2.1 dX11_figure_25 rfl ?_
  refine aw_get S hE hw 0 (C := RX11) (T := TX11) (N := 31) rfl rfl hinX11 11 (by decide) hf99 rfl dX11_figure_26 ?_
  refine lv_iload S.1 S.2.1 dX11_figure_29 (lv_at hl 0 rfl) ?_
  have join39 : ∀ (H : Heap) (locs : List Loc), ∀ (ls : Array Slot), lv_has ls 7 [(6, .int (if figB (cdF shm bs tl ra) lo hi = true then 1 else 0)), (5, .int ((cdF shm bs tl ra) - 48)), (0, .ref (am 31)), (1, .int (nI bs)), (2, .int (nI tl)), (3, .int (nI lo)), (4, .int (nI hi))] → bW G A s.heap [[(am 31, mdO am fl n lw nn ra rsn nr tr)], [(am 28, .inl (gI G, 240, .inl shm))]] H locs → W p l e R s m args below meth c H locs 0 0 Q (F0 m 39 ls [.int (nI (if figB (cdF shm bs tl ra) lo hi = true then 1 else 0)), .int (nI ra), .ref (am 31)]) := by
    intro  H locs ls hl hw
    refine lv_iadd S.1 S.2.1 dX11_figure_39 ?_
    refine aw_eqi (show ((nI ra) + (nI (if figB (cdF shm bs tl ra) lo hi = true then 1 else 0)) : Int32) = nI (ra + (if figB (cdF shm bs tl ra) lo hi = true then 1 else 0)) from (nI_add ra (if figB (cdF shm bs tl ra) lo hi = true then 1 else 0))) ?_
    refine aw_putf S hE hw 0 (C := RX11) (T := TX11) (N := 31) rfl rfl hinX11 tyX11 tyX11_ok nmX11 11 (by decide) hf99 rfl rfl rfl (Nat.le_of_ble_eq_true rfl) dX11_figure_40 (fun H locs hw => ?_)
    have hw : bW G A s.heap [[(am 31, mdO am fl n lw nn (ra + (if figB (cdF shm bs tl ra) lo hi = true then 1 else 0)) rsn nr tr)], [(am 28, .inl (gI G, 240, .inl shm))]] H locs := hw
    refine lv_iload S.1 S.2.1 dX11_figure_43 (lv_at hl 0 rfl) ?_
    refine aw_ifeq (P := figB (cdF shm bs tl ra) lo hi = true) (tgt := 53) S dX11_figure_45 (by decide) (fun c45 => ?_) (fun c45 => ?_)
    · refine lv_bipush (v := (-9)) S.1 S.2.1 dX11_figure_53 (by decide) ?_
      refine aw_eqi (show ((-9) : Int32) = if figB (cdF shm bs tl ra) lo hi = true then cdF shm bs tl ra - 48 else -9 from (by rw [if_neg c45])) ?_
      exact aw_iret S hr hlk ha hQ hAe hw dX11_figure_55 rfl (Nat.le_of_ble_eq_true rfl) (Nat.le_of_ble_eq_true rfl) ⟨rfl, rfl⟩
    · refine lv_iload S.1 S.2.1 dX11_figure_48 (lv_at hl 1 rfl) ?_
      refine lv_goto (tgt := 55) S.1 S.2.1 dX11_figure_50 (by decide) ?_
      refine aw_eqi (show ((cdF shm bs tl ra) - 48 : Int32) = if figB (cdF shm bs tl ra) lo hi = true then cdF shm bs tl ra - 48 else -9 from (by rw [if_pos c45])) ?_
      exact aw_iret S hr hlk ha hQ hAe hw dX11_figure_55 rfl (Nat.le_of_ble_eq_true rfl) (Nat.le_of_ble_eq_true rfl) ⟨rfl, rfl⟩
  refine aw_ifeq (P := figB (cdF shm bs tl ra) lo hi = true) (tgt := 38) S dX11_figure_31 (by decide) (fun c31 => ?_) (fun c31 => ?_)
  · refine lv_iconst (v := 0) S.1 S.2.1 dX11_figure_38 (by decide) ?_
    refine aw_eqi (show (0 : Int32) = nI (if figB (cdF shm bs tl ra) lo hi = true then 1 else 0) from (by rw [if_neg c31]; rfl)) ?_
    exact join39  _ _ _ (lv_sub hl [0, 1, 2, 3, 4, 5, 6] rfl) hw
  · refine lv_iconst (v := 1) S.1 S.2.1 dX11_figure_34 (by decide) ?_
    refine lv_goto (tgt := 39) S.1 S.2.1 dX11_figure_35 (by decide) ?_
    refine aw_eqi (show (1 : Int32) = nI (if figB (cdF shm bs tl ra) lo hi = true then 1 else 0) from (by rw [if_pos c31]; rfl)) ?_
    exact join39  _ _ _ (lv_sub hl [0, 1, 2, 3, 4, 5, 6] rfl) hw
