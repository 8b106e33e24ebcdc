/-! the reference: a sleeper read -/
theorem fig07 (c : Int32) : figB c 0 7 = decide (48 ≤ c.toInt ∧ c.toInt ≤ 55) := by
  unfold figB; exact decide_eq_decide.mpr (by omega)
theorem fig19 (c : Int32) : figB c 1 9 = decide (49 ≤ c.toInt ∧ c.toInt ≤ 57) := by
  unfold figB; exact decide_eq_decide.mpr (by omega)
theorem fig_nn {c : Int32} {lo hi : Nat} (h2 : hi ≤ 9) (h : figB c lo hi = true) : 0 ≤ c - 48 := by
  have q := of_decide_eq_true h
  rw [fa_le, li_0, Int32.toInt_sub, show (48 : Int32).toInt = 48 from rfl, Int.bmod_eq_of_le (by omega) (by omega)]
  omega
theorem gd_s {P : Nat → Bool} {r d : Nat} (h : ∀ x, r ≤ x → x < r + d → P x = true) (h2 : P (r + d) = true) : ∀ x, r ≤ x → x < r + (d + 1) → P x = true := fun x h3 h4 =>
  (Nat.lt_or_ge x (r + d)).elim (h x h3) (fun q => by rw [show x = r + d by omega]; exact h2)
theorem gd_0 {P : Nat → Bool} {r : Nat} : ∀ x, r ≤ x → x < r + 0 → P x = true := fun x h3 h4 => absurd h3 (by omega)
set_option maxRecDepth 100000 in
set_option maxHeartbeats 4000000 in
theorem c_X11_readsSleeper (l : Launch) (G : aw_G) (am : Nat → Nat) (fl : Int32) (n : Nat) (lw : Int32) (nn ra rsn nr : Nat) (tr : Int32) (shm rk rsk rbe : Nat → Int32) (bs tl : Nat) (hbs : bs + tl ≤ 240) (hrs : rsn ≤ 6) : CT l G yX11_readsSleeper wsX11_readsSleeper ({ frames := 2, cells := 0, slots := 0, locals := 51 }) [.ref (am 31), .int (nI bs), .int (nI tl)] [[(am 31, mdO am fl n lw nn (1 + 4 * rsn) rsn nr tr)], [(am 13, .inl (gI G, 6, .inl rk))], [(am 14, .inl (gI G, 6, .inl rsk))], [(am 15, .inl (gI G, 6, .inl rbe))], [(am 28, .inl (gI G, 240, .inl shm))]] (fun v w => (v = some (.int 1) ∧ rsn < 6 ∧ (∀ x, 1 + 4 * rsn ≤ x → x < 1 + 4 * rsn + 4 → gdB shm bs tl x = true) ∧ w = [[(am 31, mdO am fl n lw nn (1 + 4 * rsn + 4) (rsn + 1) nr tr)], [(am 13, .inl (gI G, 6, .inl (upd rk rsn (kdT (cdF shm bs tl (1 + 4 * rsn + 1))))))], [(am 14, .inl (gI G, 6, .inl (upd rsk rsn (cdF shm bs tl (1 + 4 * rsn + 1 + 1) - 48))))], [(am 15, .inl (gI G, 6, .inl (upd rbe rsn (cdF shm bs tl (1 + 4 * rsn + 1 + 1 + 1) - 48))))], [(am 28, .inl (gI G, 240, .inl shm))]]) ∨ (∃ d, v = some (.int 0) ∧ d < 4 ∧ (∀ x, 1 + 4 * rsn ≤ x → x < 1 + 4 * rsn + d → gdB shm bs tl x = true) ∧ gdB shm bs tl (1 + 4 * rsn + d) = false ∧ w = [[(am 31, mdO am fl n lw nn (1 + 4 * rsn + d) rsn nr tr)], [(am 13, .inl (gI G, 6, .inl rk))], [(am 14, .inl (gI G, 6, .inl rsk))], [(am 15, .inl (gI G, 6, .inl rbe))], [(am 28, .inl (gI G, 240, .inl shm))]])) := by
  refine CT.of (cc := cX11_readsSleeper) (nL := 6) (ret := (some .boolean)) (by decide) rfl (Nat.le_of_ble_eq_true rfl) ?_
  intro p e s m below meth c R args Q A hRm ha hQ hAe hA S hE hr hlk hnm H locs hH0 hL0 ls hl hw
  have S : CallFix p m c cX11_readsSleeper 6 s args wsX11_readsSleeper RX11 := S
  have hl : lv_has ls 6 [(0, .ref (am 31)), (1, .int (nI bs)), (2, .int (nI tl))] := hl
  have hinX11 : ∀ w ∈ u_ws RX11 TX11 31, w ∈ wsX11_readsSleeper := by decide +kernel
  have hf106 := S.2.2.2.2 (.fieldLink RX11 106 "AwakeTurnsModel" "readSleepers" "I") (by decide +kernel)
  have hf99 := S.2.2.2.2 (.fieldLink RX11 99 "AwakeTurnsModel" "readAt" "I") (by decide +kernel)
  have hf31 := S.2.2.2.2 (.fieldLink RX11 31 "AwakeTurnsModel" "readKind" "[I") (by decide +kernel)
  have hf34 := S.2.2.2.2 (.fieldLink RX11 34 "AwakeTurnsModel" "readSkills" "[I") (by decide +kernel)
  have hf37 := S.2.2.2.2 (.fieldLink RX11 37 "AwakeTurnsModel" "readBears" "[I") (by decide +kernel)
  refine lv_aload_n S.1 S.2.1 dX11_readsSleeper_0 rfl (lv_at hl 0 rfl) ?_
  refine aw_get S hE hw 0 (C := RX11) (T := TX11) (N := 31) rfl rfl hinX11 12 (by decide) hf106 rfl dX11_readsSleeper_1 ?_
  refine lv_bipush (v := 6) S.1 S.2.1 dX11_readsSleeper_4 (by decide) ?_
  refine aw_icmpN_eq (x := rsn) (y := 6) (tgt := 20) S (by omega) (by omega) dX11_readsSleeper_6 (by decide) (fun c6 => ?_) (fun c6 => ?_)
  · refine lv_iconst (v := 0) S.1 S.2.1 dX11_readsSleeper_20 (by decide) ?_
    exact aw_iret S hr hlk ha hQ hAe hw dX11_readsSleeper_21 (by rfl) (Nat.le_of_ble_eq_true rfl) (Nat.le_of_ble_eq_true rfl) (Or.inr ⟨0, rfl, by omega, gd_0, (by rw [Nat.add_zero]; exact gd6 (by omega)), rfl⟩)
  · refine lv_aload_n S.1 S.2.1 dX11_readsSleeper_9 rfl (lv_at hl 0 rfl) ?_
    refine lv_iload_n S.1 S.2.1 dX11_readsSleeper_10 rfl (lv_at hl 1 rfl) ?_
    refine lv_iload_n S.1 S.2.1 dX11_readsSleeper_11 rfl (lv_at hl 2 rfl) ?_
    refine aw_callV S hE (c_X11_codeAt l G am fl n lw nn (1 + 4 * rsn) rsn nr tr shm bs tl (by first | assumption | omega) (by first | assumption | omega)) gX11_readsSleeper_X11_codeAt (n := 2) rfl (by decide +kernel) rfl (by rw [hRm]; exact ⟨Nat.le_of_ble_eq_true rfl, Nat.le_of_ble_eq_true rfl⟩) (by rw [hRm]; exact ⟨Nat.le_of_ble_eq_true rfl, Nat.le_of_ble_eq_true rfl⟩) hw hA hl.1 [0, 4] rfl rfl (aw_recv (i := 0) hE hw rfl rfl rfl) rfl (Nat.le_of_ble_eq_true rfl) dX11_readsSleeper_12 ?_
    rintro v w1 H locs ⟨rfl, rfl⟩ hw
    have hw : bW G A s.heap [[(am 31, mdO am fl n lw nn (1 + 4 * rsn) rsn nr tr)], [(am 13, .inl (gI G, 6, .inl rk))], [(am 14, .inl (gI G, 6, .inl rsk))], [(am 15, .inl (gI G, 6, .inl rbe))], [(am 28, .inl (gI G, 240, .inl shm))]] H locs := hw
    refine W.eq (g2 := (F0 m 15 ls [.int (cdF shm bs tl (1 + 4 * rsn))])) rfl ?_
    refine lv_bipush (v := 59) S.1 S.2.1 dX11_readsSleeper_15 (by decide) ?_
    refine lv_icmp_eq (tgt := 22) S.1 S.2.1 dX11_readsSleeper_17 (by decide) (fun c17 => ?_) (fun c17 => ?_)
    · have a1 := gd_s (P := gdB shm bs tl) (r := 1 + 4 * rsn) (d := 0) gd_0 (by rw [Nat.add_zero, gd1 (by omega)]; exact decide_eq_true c17)
      refine lv_aload_n S.1 S.2.1 dX11_readsSleeper_22 rfl (lv_at hl 0 rfl) ?_
      refine lv_dup S.1 S.2.1 dX11_readsSleeper_23 rfl ?_
      refine aw_get S hE hw 0 (C := RX11) (T := TX11) (N := 31) rfl rfl hinX11 11 (by decide) hf99 rfl dX11_readsSleeper_24 ?_
      refine lv_iconst (v := 1) S.1 S.2.1 dX11_readsSleeper_27 (by decide) ?_
      refine lv_iadd S.1 S.2.1 dX11_readsSleeper_28 ?_
      refine aw_eqi (show ((nI (1 + 4 * rsn)) + 1 : Int32) = nI ((1 + 4 * rsn) + 1) from (nI_add (1 + 4 * rsn) 1)) ?_
      refine aw_putf S hE hw 0 (C := RX11) (T := TX11) (N := 31) rfl rfl hinX11 tyX11 tyX11_ok nmX11 11 (by decide) hf99 rfl rfl rfl (Nat.le_of_ble_eq_true rfl) dX11_readsSleeper_29 (fun H locs hw => ?_)
      have hw : bW G A s.heap [[(am 31, mdO am fl n lw nn ((1 + 4 * rsn) + 1) rsn nr tr)], [(am 13, .inl (gI G, 6, .inl rk))], [(am 14, .inl (gI G, 6, .inl rsk))], [(am 15, .inl (gI G, 6, .inl rbe))], [(am 28, .inl (gI G, 240, .inl shm))]] H locs := hw
      refine lv_aload_n S.1 S.2.1 dX11_readsSleeper_32 rfl (lv_at hl 0 rfl) ?_
      refine lv_iload_n S.1 S.2.1 dX11_readsSleeper_33 rfl (lv_at hl 1 rfl) ?_
      refine lv_iload_n S.1 S.2.1 dX11_readsSleeper_34 rfl (lv_at hl 2 rfl) ?_
      refine aw_callV S hE (c_X11_codeAt l G am fl n lw nn ((1 + 4 * rsn) + 1) rsn nr tr shm bs tl (by first | assumption | omega) (by first | assumption | omega)) gX11_readsSleeper_X11_codeAt (n := 2) rfl (by decide +kernel) rfl (by rw [hRm]; exact ⟨Nat.le_of_ble_eq_true rfl, Nat.le_of_ble_eq_true rfl⟩) (by rw [hRm]; exact ⟨Nat.le_of_ble_eq_true rfl, Nat.le_of_ble_eq_true rfl⟩) hw hA hl.1 [0, 4] rfl rfl (aw_recv (i := 0) hE hw rfl rfl rfl) rfl (Nat.le_of_ble_eq_true rfl) dX11_readsSleeper_35 ?_
      rintro v w1 H locs ⟨rfl, rfl⟩ hw
      have hw : bW G A s.heap [[(am 31, mdO am fl n lw nn ((1 + 4 * rsn) + 1) rsn nr tr)], [(am 13, .inl (gI G, 6, .inl rk))], [(am 14, .inl (gI G, 6, .inl rsk))], [(am 15, .inl (gI G, 6, .inl rbe))], [(am 28, .inl (gI G, 240, .inl shm))]] H locs := hw
      refine W.eq (g2 := (F0 m 38 ls [.int (cdF shm bs tl ((1 + 4 * rsn) + 1))])) rfl ?_
      refine lv_istore_n (lv' := [(3, .int (cdF shm bs tl ((1 + 4 * rsn) + 1))), (0, .ref (am 31)), (1, .int (nI bs)), (2, .int (nI tl))]) S.1 S.2.1 dX11_readsSleeper_38 rfl hl (by decide) rfl (fun ls hl => ?_)
      have join59 : (cdF shm bs tl (1 + 4 * rsn + 1) = 115 ∨ cdF shm bs tl (1 + 4 * rsn + 1) = 102 ∨ cdF shm bs tl (1 + 4 * rsn + 1) = 111) → ∀ (H : Heap) (locs : List Loc), ∀ (ls : Array Slot), lv_has ls 6 [(3, .int (cdF shm bs tl ((1 + 4 * rsn) + 1))), (0, .ref (am 31)), (1, .int (nI bs)), (2, .int (nI tl))] → bW G A s.heap [[(am 31, mdO am fl n lw nn ((1 + 4 * rsn) + 1) rsn nr tr)], [(am 13, .inl (gI G, 6, .inl rk))], [(am 14, .inl (gI G, 6, .inl rsk))], [(am 15, .inl (gI G, 6, .inl rbe))], [(am 28, .inl (gI G, 240, .inl shm))]] H locs → W p l e R s m args below meth c H locs 0 0 Q (F0 m 59 ls []) := by
        intro hcd H locs ls hl hw
        have a2 := gd_s (d := 1) a1 (by rw [gd2 (by omega)]; exact decide_eq_true hcd)
        refine lv_aload_n S.1 S.2.1 dX11_readsSleeper_59 rfl (lv_at hl 1 rfl) ?_
        refine lv_dup S.1 S.2.1 dX11_readsSleeper_60 rfl ?_
        refine aw_get S hE hw 0 (C := RX11) (T := TX11) (N := 31) rfl rfl hinX11 11 (by decide) hf99 rfl dX11_readsSleeper_61 ?_
        refine lv_iconst (v := 1) S.1 S.2.1 dX11_readsSleeper_64 (by decide) ?_
        refine lv_iadd S.1 S.2.1 dX11_readsSleeper_65 ?_
        refine aw_eqi (show ((nI ((1 + 4 * rsn) + 1)) + 1 : Int32) = nI (((1 + 4 * rsn) + 1) + 1) from (nI_add ((1 + 4 * rsn) + 1) 1)) ?_
        refine aw_putf S hE hw 0 (C := RX11) (T := TX11) (N := 31) rfl rfl hinX11 tyX11 tyX11_ok nmX11 11 (by decide) hf99 rfl rfl rfl (Nat.le_of_ble_eq_true rfl) dX11_readsSleeper_66 (fun H locs hw => ?_)
        have hw : bW G A s.heap [[(am 31, mdO am fl n lw nn (((1 + 4 * rsn) + 1) + 1) rsn nr tr)], [(am 13, .inl (gI G, 6, .inl rk))], [(am 14, .inl (gI G, 6, .inl rsk))], [(am 15, .inl (gI G, 6, .inl rbe))], [(am 28, .inl (gI G, 240, .inl shm))]] H locs := hw
        refine lv_aload_n S.1 S.2.1 dX11_readsSleeper_69 rfl (lv_at hl 1 rfl) ?_
        refine lv_iload_n S.1 S.2.1 dX11_readsSleeper_70 rfl (lv_at hl 2 rfl) ?_
        refine lv_iload_n S.1 S.2.1 dX11_readsSleeper_71 rfl (lv_at hl 3 rfl) ?_
        refine lv_iconst (v := 0) S.1 S.2.1 dX11_readsSleeper_72 (by decide) ?_
        refine lv_bipush (v := 7) S.1 S.2.1 dX11_readsSleeper_73 (by decide) ?_
        refine aw_callV S hE (c_X11_figure l G am fl n lw nn (((1 + 4 * rsn) + 1) + 1) rsn nr tr shm bs tl 0 7 (by first | assumption | omega) (by first | assumption | omega) (by first | assumption | omega) (by first | assumption | omega)) gX11_readsSleeper_X11_figure (n := 4) rfl (by decide +kernel) rfl (by rw [hRm]; exact ⟨Nat.le_of_ble_eq_true rfl, Nat.le_of_ble_eq_true rfl⟩) (by rw [hRm]; exact ⟨Nat.le_of_ble_eq_true rfl, Nat.le_of_ble_eq_true rfl⟩) hw hA hl.1 [0, 4] rfl rfl (aw_recv (i := 0) hE hw rfl rfl rfl) rfl (Nat.le_of_ble_eq_true rfl) dX11_readsSleeper_75 ?_
        rintro v w1 H locs ⟨rfl, rfl⟩ hw
        have hw : bW G A s.heap [[(am 31, mdO am fl n lw nn ((((1 + 4 * rsn) + 1) + 1) + (if figB (cdF shm bs tl (((1 + 4 * rsn) + 1) + 1)) 0 7 = true then 1 else 0)) rsn nr tr)], [(am 13, .inl (gI G, 6, .inl rk))], [(am 14, .inl (gI G, 6, .inl rsk))], [(am 15, .inl (gI G, 6, .inl rbe))], [(am 28, .inl (gI G, 240, .inl shm))]] H locs := hw
        refine W.eq (g2 := (F0 m 78 ls [.int (if figB (cdF shm bs tl (((1 + 4 * rsn) + 1) + 1)) 0 7 = true then cdF shm bs tl (((1 + 4 * rsn) + 1) + 1) - 48 else -9)])) rfl ?_
        refine lv_istore (lv' := [(4, .int (if figB (cdF shm bs tl (((1 + 4 * rsn) + 1) + 1)) 0 7 = true then cdF shm bs tl (((1 + 4 * rsn) + 1) + 1) - 48 else -9)), (3, .int (cdF shm bs tl ((1 + 4 * rsn) + 1))), (0, .ref (am 31)), (1, .int (nI bs)), (2, .int (nI tl))]) S.1 S.2.1 dX11_readsSleeper_78 hl (by decide) rfl (fun ls hl => ?_)
        refine lv_iload S.1 S.2.1 dX11_readsSleeper_80 (lv_at hl 0 rfl) ?_
        refine lv_if_ge (tgt := 90) S.1 S.2.1 dX11_readsSleeper_82 (by decide) (fun c82 => ?_) (fun c82 => ?_)
        · have hok1 : figB (cdF shm bs tl (1 + 4 * rsn + 1 + 1)) 0 7 = true := Decidable.not_not.mp (fun q => absurd c82 (by rw [if_neg q]; decide))
          rw [if_pos hok1] at hw
          have hw : bW G A s.heap [[(am 31, mdO am fl n lw nn (1 + 4 * rsn + 1 + 1 + 1) rsn nr tr)], [(am 13, .inl (gI G, 6, .inl rk))], [(am 14, .inl (gI G, 6, .inl rsk))], [(am 15, .inl (gI G, 6, .inl rbe))], [(am 28, .inl (gI G, 240, .inl shm))]] H locs := hw
          have hl := Eq.mp (congrArg (fun z_ : Int32 => lv_has ls 6 [(4, .int z_), (3, .int (cdF shm bs tl ((1 + 4 * rsn) + 1))), (0, .ref (am 31)), (1, .int (nI bs)), (2, .int (nI tl))]) (show (if figB (cdF shm bs tl (((1 + 4 * rsn) + 1) + 1)) 0 7 = true then cdF shm bs tl (((1 + 4 * rsn) + 1) + 1) - 48 else -9 : Int32) = cdF shm bs tl (1 + 4 * rsn + 1 + 1) - 48 from (by rw [if_pos hok1]))) hl
          have hl : lv_has ls 6 [(4, .int (cdF shm bs tl (1 + 4 * rsn + 1 + 1) - 48)), (3, .int (cdF shm bs tl ((1 + 4 * rsn) + 1))), (0, .ref (am 31)), (1, .int (nI bs)), (2, .int (nI tl))] := hl
          have a3 := gd_s (d := 2) a2 (show gdB shm bs tl (1 + 4 * rsn + 1 + 1) = true by rw [gd3 (by omega), ← fig07]; exact hok1)
          refine lv_aload_n S.1 S.2.1 dX11_readsSleeper_90 rfl (lv_at hl 2 rfl) ?_
          refine lv_iload_n S.1 S.2.1 dX11_readsSleeper_91 rfl (lv_at hl 3 rfl) ?_
          refine lv_iload_n S.1 S.2.1 dX11_readsSleeper_92 rfl (lv_at hl 4 rfl) ?_
          refine lv_iconst (v := 1) S.1 S.2.1 dX11_readsSleeper_93 (by decide) ?_
          refine lv_bipush (v := 9) S.1 S.2.1 dX11_readsSleeper_94 (by decide) ?_
          refine aw_callV S hE (c_X11_figure l G am fl n lw nn (1 + 4 * rsn + 1 + 1 + 1) rsn nr tr shm bs tl 1 9 (by first | assumption | omega) (by first | assumption | omega) (by first | assumption | omega) (by first | assumption | omega)) gX11_readsSleeper_X11_figure (n := 4) rfl (by decide +kernel) rfl (by rw [hRm]; exact ⟨Nat.le_of_ble_eq_true rfl, Nat.le_of_ble_eq_true rfl⟩) (by rw [hRm]; exact ⟨Nat.le_of_ble_eq_true rfl, Nat.le_of_ble_eq_true rfl⟩) hw hA hl.1 [0, 4] rfl rfl (aw_recv (i := 0) hE hw rfl rfl rfl) rfl (Nat.le_of_ble_eq_true rfl) dX11_readsSleeper_96 ?_
          rintro v w1 H locs ⟨rfl, rfl⟩ hw
          have hw : bW G A s.heap [[(am 31, mdO am fl n lw nn ((1 + 4 * rsn + 1 + 1 + 1) + (if figB (cdF shm bs tl (1 + 4 * rsn + 1 + 1 + 1)) 1 9 = true then 1 else 0)) rsn nr tr)], [(am 13, .inl (gI G, 6, .inl rk))], [(am 14, .inl (gI G, 6, .inl rsk))], [(am 15, .inl (gI G, 6, .inl rbe))], [(am 28, .inl (gI G, 240, .inl shm))]] H locs := hw
          refine W.eq (g2 := (F0 m 99 ls [.int (if figB (cdF shm bs tl (1 + 4 * rsn + 1 + 1 + 1)) 1 9 = true then cdF shm bs tl (1 + 4 * rsn + 1 + 1 + 1) - 48 else -9)])) rfl ?_
          refine lv_istore (lv' := [(5, .int (if figB (cdF shm bs tl (1 + 4 * rsn + 1 + 1 + 1)) 1 9 = true then cdF shm bs tl (1 + 4 * rsn + 1 + 1 + 1) - 48 else -9)), (4, .int (cdF shm bs tl (1 + 4 * rsn + 1 + 1) - 48)), (3, .int (cdF shm bs tl ((1 + 4 * rsn) + 1))), (0, .ref (am 31)), (1, .int (nI bs)), (2, .int (nI tl))]) S.1 S.2.1 dX11_readsSleeper_99 hl (by decide) rfl (fun ls hl => ?_)
          refine lv_iload S.1 S.2.1 dX11_readsSleeper_101 (lv_at hl 0 rfl) ?_
          refine lv_if_ge (tgt := 108) S.1 S.2.1 dX11_readsSleeper_103 (by decide) (fun c103 => ?_) (fun c103 => ?_)
          · have hok2 : figB (cdF shm bs tl (1 + 4 * rsn + 1 + 1 + 1)) 1 9 = true := Decidable.not_not.mp (fun q => absurd c103 (by rw [if_neg q]; decide))
            rw [if_pos hok2] at hw
            have hw : bW G A s.heap [[(am 31, mdO am fl n lw nn (1 + 4 * rsn + 1 + 1 + 1 + 1) rsn nr tr)], [(am 13, .inl (gI G, 6, .inl rk))], [(am 14, .inl (gI G, 6, .inl rsk))], [(am 15, .inl (gI G, 6, .inl rbe))], [(am 28, .inl (gI G, 240, .inl shm))]] H locs := hw
            have hl := Eq.mp (congrArg (fun z_ : Int32 => lv_has ls 6 [(5, .int z_), (4, .int (cdF shm bs tl (1 + 4 * rsn + 1 + 1) - 48)), (3, .int (cdF shm bs tl ((1 + 4 * rsn) + 1))), (0, .ref (am 31)), (1, .int (nI bs)), (2, .int (nI tl))]) (show (if figB (cdF shm bs tl (1 + 4 * rsn + 1 + 1 + 1)) 1 9 = true then cdF shm bs tl (1 + 4 * rsn + 1 + 1 + 1) - 48 else -9 : Int32) = cdF shm bs tl (1 + 4 * rsn + 1 + 1 + 1) - 48 from (by rw [if_pos hok2]))) hl
            have hl : lv_has ls 6 [(5, .int (cdF shm bs tl (1 + 4 * rsn + 1 + 1 + 1) - 48)), (4, .int (cdF shm bs tl (1 + 4 * rsn + 1 + 1) - 48)), (3, .int (cdF shm bs tl ((1 + 4 * rsn) + 1))), (0, .ref (am 31)), (1, .int (nI bs)), (2, .int (nI tl))] := hl
            have a4 := gd_s (d := 3) a3 (show gdB shm bs tl (1 + 4 * rsn + 1 + 1 + 1) = true by rw [gd4 (by omega), ← fig19]; exact hok2)
            refine lv_aload_n S.1 S.2.1 dX11_readsSleeper_108 rfl (lv_at hl 3 rfl) ?_
            refine aw_get S hE hw 0 (C := RX11) (T := TX11) (N := 31) rfl rfl hinX11 13 (by decide) hf31 rfl dX11_readsSleeper_109 ?_
            refine lv_aload_n S.1 S.2.1 dX11_readsSleeper_112 rfl (lv_at hl 3 rfl) ?_
            refine aw_get S hE hw 0 (C := RX11) (T := TX11) (N := 31) rfl rfl hinX11 12 (by decide) hf106 rfl dX11_readsSleeper_113 ?_
            refine lv_iload_n S.1 S.2.1 dX11_readsSleeper_116 rfl (lv_at hl 2 rfl) ?_
            refine lv_bipush (v := 115) S.1 S.2.1 dX11_readsSleeper_117 (by decide) ?_
            have join137 : ∀ (H : Heap) (locs : List Loc), ∀ (ls : Array Slot), lv_has ls 6 [(5, .int (cdF shm bs tl (1 + 4 * rsn + 1 + 1 + 1) - 48)), (4, .int (cdF shm bs tl (1 + 4 * rsn + 1 + 1) - 48)), (3, .int (cdF shm bs tl ((1 + 4 * rsn) + 1))), (0, .ref (am 31)), (1, .int (nI bs)), (2, .int (nI tl))] → bW G A s.heap [[(am 31, mdO am fl n lw nn (1 + 4 * rsn + 1 + 1 + 1 + 1) rsn nr tr)], [(am 13, .inl (gI G, 6, .inl rk))], [(am 14, .inl (gI G, 6, .inl rsk))], [(am 15, .inl (gI G, 6, .inl rbe))], [(am 28, .inl (gI G, 240, .inl shm))]] H locs → W p l e R s m args below meth c H locs 0 0 Q (F0 m 137 ls [.int (kdT (cdF shm bs tl (1 + 4 * rsn + 1))), .int (nI rsn), .ref (am 13)]) := by
              intro  H locs ls hl hw
              refine aw_iast S hE hw 1 (k := rsn) rfl (by omega) (by decide) dX11_readsSleeper_137 (fun H locs hw => ?_)
              have hw : bW G A s.heap [[(am 31, mdO am fl n lw nn (1 + 4 * rsn + 1 + 1 + 1 + 1) rsn nr tr)], [(am 13, .inl (gI G, 6, .inl (upd rk rsn (kdT (cdF shm bs tl (1 + 4 * rsn + 1))))))], [(am 14, .inl (gI G, 6, .inl rsk))], [(am 15, .inl (gI G, 6, .inl rbe))], [(am 28, .inl (gI G, 240, .inl shm))]] H locs := hw
              refine lv_aload_n S.1 S.2.1 dX11_readsSleeper_138 rfl (lv_at hl 3 rfl) ?_
              refine aw_get S hE hw 0 (C := RX11) (T := TX11) (N := 31) rfl rfl hinX11 14 (by decide) hf34 rfl dX11_readsSleeper_139 ?_
              refine lv_aload_n S.1 S.2.1 dX11_readsSleeper_142 rfl (lv_at hl 3 rfl) ?_
              refine aw_get S hE hw 0 (C := RX11) (T := TX11) (N := 31) rfl rfl hinX11 12 (by decide) hf106 rfl dX11_readsSleeper_143 ?_
              refine lv_iload S.1 S.2.1 dX11_readsSleeper_146 (lv_at hl 1 rfl) ?_
              refine aw_iast S hE hw 2 (k := rsn) rfl (by omega) (by decide) dX11_readsSleeper_148 (fun H locs hw => ?_)
              have hw : bW G A s.heap [[(am 31, mdO am fl n lw nn (1 + 4 * rsn + 1 + 1 + 1 + 1) rsn nr tr)], [(am 13, .inl (gI G, 6, .inl (upd rk rsn (kdT (cdF shm bs tl (1 + 4 * rsn + 1))))))], [(am 14, .inl (gI G, 6, .inl (upd rsk rsn (cdF shm bs tl (1 + 4 * rsn + 1 + 1) - 48))))], [(am 15, .inl (gI G, 6, .inl rbe))], [(am 28, .inl (gI G, 240, .inl shm))]] H locs := hw
              refine lv_aload_n S.1 S.2.1 dX11_readsSleeper_149 rfl (lv_at hl 3 rfl) ?_
              refine aw_get S hE hw 0 (C := RX11) (T := TX11) (N := 31) rfl rfl hinX11 15 (by decide) hf37 rfl dX11_readsSleeper_150 ?_
              refine lv_aload_n S.1 S.2.1 dX11_readsSleeper_153 rfl (lv_at hl 3 rfl) ?_
              refine aw_get S hE hw 0 (C := RX11) (T := TX11) (N := 31) rfl rfl hinX11 12 (by decide) hf106 rfl dX11_readsSleeper_154 ?_
              refine lv_iload S.1 S.2.1 dX11_readsSleeper_157 (lv_at hl 0 rfl) ?_
              refine aw_iast S hE hw 3 (k := rsn) rfl (by omega) (by decide) dX11_readsSleeper_159 (fun H locs hw => ?_)
              have hw : bW G A s.heap [[(am 31, mdO am fl n lw nn (1 + 4 * rsn + 1 + 1 + 1 + 1) rsn nr tr)], [(am 13, .inl (gI G, 6, .inl (upd rk rsn (kdT (cdF shm bs tl (1 + 4 * rsn + 1))))))], [(am 14, .inl (gI G, 6, .inl (upd rsk rsn (cdF shm bs tl (1 + 4 * rsn + 1 + 1) - 48))))], [(am 15, .inl (gI G, 6, .inl (upd rbe rsn (cdF shm bs tl (1 + 4 * rsn + 1 + 1 + 1) - 48))))], [(am 28, .inl (gI G, 240, .inl shm))]] H locs := hw
              refine lv_aload_n S.1 S.2.1 dX11_readsSleeper_160 rfl (lv_at hl 3 rfl) ?_
              refine lv_dup S.1 S.2.1 dX11_readsSleeper_161 rfl ?_
              refine aw_get S hE hw 0 (C := RX11) (T := TX11) (N := 31) rfl rfl hinX11 12 (by decide) hf106 rfl dX11_readsSleeper_162 ?_
              refine lv_iconst (v := 1) S.1 S.2.1 dX11_readsSleeper_165 (by decide) ?_
              refine lv_iadd S.1 S.2.1 dX11_readsSleeper_166 ?_
              refine aw_eqi (show ((nI rsn) + 1 : Int32) = nI (rsn + 1) from (nI_add rsn 1)) ?_
              refine aw_putf S hE hw 0 (C := RX11) (T := TX11) (N := 31) rfl rfl hinX11 tyX11 tyX11_ok nmX11 12 (by decide) hf106 rfl rfl rfl (Nat.le_of_ble_eq_true rfl) dX11_readsSleeper_167 (fun H locs hw => ?_)
              have hw : bW G A s.heap [[(am 31, mdO am fl n lw nn (1 + 4 * rsn + 1 + 1 + 1 + 1) (rsn + 1) nr tr)], [(am 13, .inl (gI G, 6, .inl (upd rk rsn (kdT (cdF shm bs tl (1 + 4 * rsn + 1))))))], [(am 14, .inl (gI G, 6, .inl (upd rsk rsn (cdF shm bs tl (1 + 4 * rsn + 1 + 1) - 48))))], [(am 15, .inl (gI G, 6, .inl (upd rbe rsn (cdF shm bs tl (1 + 4 * rsn + 1 + 1 + 1) - 48))))], [(am 28, .inl (gI G, 240, .inl shm))]] H locs := hw
              refine lv_iconst (v := 1) S.1 S.2.1 dX11_readsSleeper_170 (by decide) ?_
              exact aw_iret S hr hlk ha hQ hAe hw dX11_readsSleeper_171 (by rfl) (Nat.le_of_ble_eq_true rfl) (Nat.le_of_ble_eq_true rfl) (Or.inl ⟨rfl, by omega, a4, rfl⟩)
            refine lv_icmp_ne (tgt := 126) S.1 S.2.1 dX11_readsSleeper_119 (by decide) (fun c119 => ?_) (fun c119 => ?_)
            · refine lv_iload_n S.1 S.2.1 dX11_readsSleeper_126 rfl (lv_at hl 2 rfl) ?_
              refine lv_bipush (v := 102) S.1 S.2.1 dX11_readsSleeper_127 (by decide) ?_
              refine lv_icmp_ne (tgt := 136) S.1 S.2.1 dX11_readsSleeper_129 (by decide) (fun c129 => ?_) (fun c129 => ?_)
              · refine lv_iconst (v := 2) S.1 S.2.1 dX11_readsSleeper_136 (by decide) ?_
                refine aw_eqi (show (2 : Int32) = kdT (cdF shm bs tl (1 + 4 * rsn + 1)) from (by rw [(hcd.resolve_left c119).resolve_left c129]; rfl)) ?_
                exact join137  _ _ _ (lv_sub hl [0, 1, 2, 3, 4, 5] rfl) hw
              · refine lv_iconst (v := 1) S.1 S.2.1 dX11_readsSleeper_132 (by decide) ?_
                refine lv_goto (tgt := 137) S.1 S.2.1 dX11_readsSleeper_133 (by decide) ?_
                refine aw_eqi (show (1 : Int32) = kdT (cdF shm bs tl (1 + 4 * rsn + 1)) from (by rw [c129]; rfl)) ?_
                exact join137  _ _ _ (lv_sub hl [0, 1, 2, 3, 4, 5] rfl) hw
            · refine lv_iconst (v := 0) S.1 S.2.1 dX11_readsSleeper_122 (by decide) ?_
              refine lv_goto (tgt := 137) S.1 S.2.1 dX11_readsSleeper_123 (by decide) ?_
              refine aw_eqi (show (0 : Int32) = kdT (cdF shm bs tl (1 + 4 * rsn + 1)) from (by rw [c119]; rfl)) ?_
              exact join137  _ _ _ (lv_sub hl [0, 1, 2, 3, 4, 5] rfl) hw
          · have hno2 : ¬ figB (cdF shm bs tl (1 + 4 * rsn + 1 + 1 + 1)) 1 9 = true := fun q => c103 (by rw [if_pos q]; exact fig_nn (by decide) q)
            rw [if_neg hno2] at hw
            have hw : bW G A s.heap [[(am 31, mdO am fl n lw nn (1 + 4 * rsn + 1 + 1 + 1) rsn nr tr)], [(am 13, .inl (gI G, 6, .inl rk))], [(am 14, .inl (gI G, 6, .inl rsk))], [(am 15, .inl (gI G, 6, .inl rbe))], [(am 28, .inl (gI G, 240, .inl shm))]] H locs := hw
            refine lv_iconst (v := 0) S.1 S.2.1 dX11_readsSleeper_106 (by decide) ?_
            exact aw_iret S hr hlk ha hQ hAe hw dX11_readsSleeper_107 (by rfl) (Nat.le_of_ble_eq_true rfl) (Nat.le_of_ble_eq_true rfl) (Or.inr ⟨3, rfl, by omega, a3, (show gdB shm bs tl (1 + 4 * rsn + 1 + 1 + 1) = false by rw [gd4 (by omega), ← fig19]; exact eq_false_of_ne_true hno2), rfl⟩)
        · have hno1 : ¬ figB (cdF shm bs tl (1 + 4 * rsn + 1 + 1)) 0 7 = true := fun q => c82 (by rw [if_pos q]; exact fig_nn (by decide) q)
          rw [if_neg hno1] at hw
          have hw : bW G A s.heap [[(am 31, mdO am fl n lw nn (1 + 4 * rsn + 1 + 1) rsn nr tr)], [(am 13, .inl (gI G, 6, .inl rk))], [(am 14, .inl (gI G, 6, .inl rsk))], [(am 15, .inl (gI G, 6, .inl rbe))], [(am 28, .inl (gI G, 240, .inl shm))]] H locs := hw
          refine lv_bipush (v := (-9)) S.1 S.2.1 dX11_readsSleeper_85 (by decide) ?_
          refine lv_goto (tgt := 99) S.1 S.2.1 dX11_readsSleeper_87 (by decide) ?_
          refine lv_istore (lv' := [(5, .int (-9)), (4, .int (if figB (cdF shm bs tl (((1 + 4 * rsn) + 1) + 1)) 0 7 = true then cdF shm bs tl (((1 + 4 * rsn) + 1) + 1) - 48 else -9)), (3, .int (cdF shm bs tl ((1 + 4 * rsn) + 1))), (0, .ref (am 31)), (1, .int (nI bs)), (2, .int (nI tl))]) S.1 S.2.1 dX11_readsSleeper_99 hl (by decide) rfl (fun ls hl => ?_)
          refine lv_iload S.1 S.2.1 dX11_readsSleeper_101 (lv_at hl 0 rfl) ?_
          refine lv_if_ge (tgt := 108) S.1 S.2.1 dX11_readsSleeper_103 (by decide) (fun c103 => ?_) (fun c103 => ?_)
          · exact absurd c103 (by decide)
          · refine lv_iconst (v := 0) S.1 S.2.1 dX11_readsSleeper_106 (by decide) ?_
            exact aw_iret S hr hlk ha hQ hAe hw dX11_readsSleeper_107 (by rfl) (Nat.le_of_ble_eq_true rfl) (Nat.le_of_ble_eq_true rfl) (Or.inr ⟨2, rfl, by omega, a2, (show gdB shm bs tl (1 + 4 * rsn + 1 + 1) = false by rw [gd3 (by omega), ← fig07]; exact eq_false_of_ne_true hno1), rfl⟩)
      refine lv_iload_n S.1 S.2.1 dX11_readsSleeper_39 rfl (lv_at hl 0 rfl) ?_
      refine lv_bipush (v := 115) S.1 S.2.1 dX11_readsSleeper_40 (by decide) ?_
      refine lv_icmp_eq (tgt := 59) S.1 S.2.1 dX11_readsSleeper_42 (by decide) (fun c42 => ?_) (fun c42 => ?_)
      · exact join59 (Or.inl c42) _ _ _ (lv_sub hl [0, 1, 2, 3] rfl) hw
      · refine lv_iload_n S.1 S.2.1 dX11_readsSleeper_45 rfl (lv_at hl 0 rfl) ?_
        refine lv_bipush (v := 102) S.1 S.2.1 dX11_readsSleeper_46 (by decide) ?_
        refine lv_icmp_eq (tgt := 59) S.1 S.2.1 dX11_readsSleeper_48 (by decide) (fun c48 => ?_) (fun c48 => ?_)
        · exact join59 (Or.inr (Or.inl c48)) _ _ _ (lv_sub hl [0, 1, 2, 3] rfl) hw
        · refine lv_iload_n S.1 S.2.1 dX11_readsSleeper_51 rfl (lv_at hl 0 rfl) ?_
          refine lv_bipush (v := 111) S.1 S.2.1 dX11_readsSleeper_52 (by decide) ?_
          refine lv_icmp_eq (tgt := 59) S.1 S.2.1 dX11_readsSleeper_54 (by decide) (fun c54 => ?_) (fun c54 => ?_)
          · exact join59 (Or.inr (Or.inr c54)) _ _ _ (lv_sub hl [0, 1, 2, 3] rfl) hw
          · refine lv_iconst (v := 0) S.1 S.2.1 dX11_readsSleeper_57 (by decide) ?_
            exact aw_iret S hr hlk ha hQ hAe hw dX11_readsSleeper_58 (by rfl) (Nat.le_of_ble_eq_true rfl) (Nat.le_of_ble_eq_true rfl) (Or.inr ⟨1, rfl, by omega, a1, (by rw [gd2 (by omega)]; exact decide_eq_false (fun q => q.elim c42 (fun q => q.elim c48 c54))), rfl⟩)
    · refine lv_iconst (v := 0) S.1 S.2.1 dX11_readsSleeper_20 (by decide) ?_
      exact aw_iret S hr hlk ha hQ hAe hw dX11_readsSleeper_21 (by rfl) (Nat.le_of_ble_eq_true rfl) (Nat.le_of_ble_eq_true rfl) (Or.inr ⟨0, rfl, by omega, gd_0, (by rw [Nat.add_zero, gd1 (by omega)]; exact decide_eq_false c17), rfl⟩)
