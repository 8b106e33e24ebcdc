/-! sleepers, months -/
set_option maxRecDepth 100000 in
set_option maxHeartbeats 4000000 in
theorem c_X8_kindNumber (l : Launch) (G : aw_G) (a : Nat)  : CT l G yX8_kindNumber wsX8_kindNumber ({ frames := 0, cells := 0, slots := 0, locals := 0 }) [.ref a] [] (dt (some (.int 0)) []) := by
  refine CT.of (cc := cX8_kindNumber) (nL := 1) (ret := (some .int)) (by decide) rfl (Nat.le_of_ble_eq_true rfl) ?_
  intro p e s m below meth c R args Q A hRm ha hQ hAe hA S hE hr hlk hnm H locs hH0 hL0 ls hl hw
  have S : CallFix p m c cX8_kindNumber 1 s args wsX8_kindNumber RX8 := S
  have hl : lv_has ls 1 [(0, .ref a)] := hl
  refine lv_iconst (v := 0) S.1 S.2.1 dX8_kindNumber_0 (by decide) ?_
  exact aw_iret S hr hlk ha hQ hAe hw dX8_kindNumber_1 rfl (Nat.le_of_ble_eq_true rfl) (Nat.le_of_ble_eq_true rfl) ⟨rfl, rfl⟩
set_option maxRecDepth 100000 in
set_option maxHeartbeats 4000000 in
theorem c_X1_kindNumber (l : Launch) (G : aw_G) (a : Nat)  : CT l G yX1_kindNumber wsX1_kindNumber ({ frames := 0, cells := 0, slots := 0, locals := 0 }) [.ref a] [] (dt (some (.int 1)) []) := by
  refine CT.of (cc := cX1_kindNumber) (nL := 1) (ret := (some .int)) (by decide) rfl (Nat.le_of_ble_eq_true rfl) ?_
  intro p e s m below meth c R args Q A hRm ha hQ hAe hA S hE hr hlk hnm H locs hH0 hL0 ls hl hw
  have S : CallFix p m c cX1_kindNumber 1 s args wsX1_kindNumber RX1 := S
  have hl : lv_has ls 1 [(0, .ref a)] := hl
  refine lv_iconst (v := 1) S.1 S.2.1 dX1_kindNumber_0 (by decide) ?_
  exact aw_iret S hr hlk ha hQ hAe hw dX1_kindNumber_1 rfl (Nat.le_of_ble_eq_true rfl) (Nat.le_of_ble_eq_true rfl) ⟨rfl, rfl⟩
set_option maxRecDepth 100000 in
set_option maxHeartbeats 4000000 in
theorem c_X5_kindNumber (l : Launch) (G : aw_G) (a : Nat)  : CT l G yX5_kindNumber wsX5_kindNumber ({ frames := 0, cells := 0, slots := 0, locals := 0 }) [.ref a] [] (dt (some (.int 2)) []) := by
  refine CT.of (cc := cX5_kindNumber) (nL := 1) (ret := (some .int)) (by decide) rfl (Nat.le_of_ble_eq_true rfl) ?_
  intro p e s m below meth c R args Q A hRm ha hQ hAe hA S hE hr hlk hnm H locs hH0 hL0 ls hl hw
  have S : CallFix p m c cX5_kindNumber 1 s args wsX5_kindNumber RX5 := S
  have hl : lv_has ls 1 [(0, .ref a)] := hl
  refine lv_iconst (v := 2) S.1 S.2.1 dX5_kindNumber_0 (by decide) ?_
  exact aw_iret S hr hlk ha hQ hAe hw dX5_kindNumber_1 rfl (Nat.le_of_ble_eq_true rfl) (Nat.le_of_ble_eq_true rfl) ⟨rfl, rfl⟩
set_option maxRecDepth 100000 in
set_option maxHeartbeats 4000000 in
theorem c_X8_harmOnce (l : Launch) (G : aw_G) (a : Nat)  : CT l G yX8_harmOnce wsX8_harmOnce ({ frames := 0, cells := 0, slots := 0, locals := 0 }) [.ref a] [] (dt (some (.int 1)) []) := by
  refine CT.of (cc := cX8_harmOnce) (nL := 1) (ret := (some .int)) (by decide) rfl (Nat.le_of_ble_eq_true rfl) ?_
  intro p e s m below meth c R args Q A hRm ha hQ hAe hA S hE hr hlk hnm H locs hH0 hL0 ls hl hw
  have S : CallFix p m c cX8_harmOnce 1 s args wsX8_harmOnce RX8 := S
  have hl : lv_has ls 1 [(0, .ref a)] := hl
  refine lv_iconst (v := 1) S.1 S.2.1 dX8_harmOnce_0 (by decide) ?_
  exact aw_iret S hr hlk ha hQ hAe hw dX8_harmOnce_1 rfl (Nat.le_of_ble_eq_true rfl) (Nat.le_of_ble_eq_true rfl) ⟨rfl, rfl⟩
set_option maxRecDepth 100000 in
set_option maxHeartbeats 4000000 in
theorem c_X1_harmOnce (l : Launch) (G : aw_G) (a : Nat) (nu ski bri : Int32)  : CT l G yX1_harmOnce wsX1_harmOnce ({ frames := 1, cells := 0, slots := 0, locals := 20 }) [.ref a] [[(a, .inr (1, [.int nu, .int ski, .int bri]))]] (dt (some (.int 2)) [[(a, .inr (1, [.int nu, .int ski, .int bri]))]]) := by
  refine CT.of (cc := cX1_harmOnce) (nL := 1) (ret := (some .int)) (by decide) rfl (Nat.le_of_ble_eq_true rfl) ?_
  intro p e s m below meth c R args Q A hRm ha hQ hAe hA S hE hr hlk hnm H locs hH0 hL0 ls hl hw
  have S : CallFix p m c cX1_harmOnce 1 s args wsX1_harmOnce RX1 := S
  have hl : lv_has ls 1 [(0, .ref a)] := hl
  refine lv_aload_n S.1 S.2.1 dX1_harmOnce_0 rfl (lv_at hl 0 rfl) ?_
  refine aw_callSU (n := 0) S hE (hE.1.1 1 _ rfl).2 (c_X8_harmOnce l G a) gX1_harmOnce_X8_harmOnce_s7 rfl (by decide +kernel) rfl (by rw [hRm]; exact ⟨Nat.le_of_ble_eq_true rfl, Nat.le_of_ble_eq_true rfl⟩) (by rw [hRm]; exact ⟨Nat.le_of_ble_eq_true rfl, Nat.le_of_ble_eq_true rfl⟩) hw hA hl.1 [] rfl rfl (aw_recv (i := 0) hE hw rfl rfl rfl) rfl (Nat.le_of_ble_eq_true rfl) dX1_harmOnce_1 ?_
  rintro v w1 H locs ⟨rfl, rfl⟩ hw
  have hw : bW G A s.heap [[(a, .inr (1, [.int nu, .int ski, .int bri]))]] H locs := hw
  refine W.eq (g2 := (F0 m 4 ls [.int 1])) rfl ?_
  refine lv_iconst (v := 1) S.1 S.2.1 dX1_harmOnce_4 (by decide) ?_
  refine lv_iadd S.1 S.2.1 dX1_harmOnce_5 ?_
  refine aw_eqi (show (1 + 1 : Int32) = 2 from (by decide)) ?_
  exact aw_iret S hr hlk ha hQ hAe hw dX1_harmOnce_6 rfl (Nat.le_of_ble_eq_true rfl) (Nat.le_of_ble_eq_true rfl) ⟨rfl, rfl⟩
set_option maxRecDepth 100000 in
set_option maxHeartbeats 4000000 in
theorem c_X1_harmOnce_X5 (l : Launch) (G : aw_G) (a : Nat) (nu ski bri : Int32)  : CT l G yX1_harmOnce wsX1_harmOnce ({ frames := 1, cells := 0, slots := 0, locals := 20 }) [.ref a] [[(a, .inr (5, [.int nu, .int ski, .int bri]))]] (dt (some (.int 2)) [[(a, .inr (5, [.int nu, .int ski, .int bri]))]]) := by
  refine CT.of (cc := cX1_harmOnce) (nL := 1) (ret := (some .int)) (by decide) rfl (Nat.le_of_ble_eq_true rfl) ?_
  intro p e s m below meth c R args Q A hRm ha hQ hAe hA S hE hr hlk hnm H locs hH0 hL0 ls hl hw
  have S : CallFix p m c cX1_harmOnce 1 s args wsX1_harmOnce RX1 := S
  have hl : lv_has ls 1 [(0, .ref a)] := hl
  refine lv_aload_n S.1 S.2.1 dX1_harmOnce_0 rfl (lv_at hl 0 rfl) ?_
  refine aw_callSU (n := 0) S hE (hE.1.1 5 _ rfl).2 (c_X8_harmOnce l G a) gX1_harmOnce_X8_harmOnce_s7 rfl (by decide +kernel) rfl (by rw [hRm]; exact ⟨Nat.le_of_ble_eq_true rfl, Nat.le_of_ble_eq_true rfl⟩) (by rw [hRm]; exact ⟨Nat.le_of_ble_eq_true rfl, Nat.le_of_ble_eq_true rfl⟩) hw hA hl.1 [] rfl rfl (aw_recv (i := 0) hE hw rfl rfl rfl) rfl (Nat.le_of_ble_eq_true rfl) dX1_harmOnce_1 ?_
  rintro v w1 H locs ⟨rfl, rfl⟩ hw
  have hw : bW G A s.heap [[(a, .inr (5, [.int nu, .int ski, .int bri]))]] H locs := hw
  refine W.eq (g2 := (F0 m 4 ls [.int 1])) rfl ?_
  refine lv_iconst (v := 1) S.1 S.2.1 dX1_harmOnce_4 (by decide) ?_
  refine lv_iadd S.1 S.2.1 dX1_harmOnce_5 ?_
  refine aw_eqi (show (1 + 1 : Int32) = 2 from (by decide)) ?_
  exact aw_iret S hr hlk ha hQ hAe hw dX1_harmOnce_6 rfl (Nat.le_of_ble_eq_true rfl) (Nat.le_of_ble_eq_true rfl) ⟨rfl, rfl⟩
set_option maxRecDepth 100000 in
set_option maxHeartbeats 4000000 in
theorem c_X5_harmOnce (l : Launch) (G : aw_G) (a : Nat) (nu ski bri : Int32)  : CT l G yX5_harmOnce wsX5_harmOnce ({ frames := 2, cells := 0, slots := 0, locals := 40 }) [.ref a] [[(a, .inr (5, [.int nu, .int ski, .int bri]))]] (dt (some (.int 4)) [[(a, .inr (5, [.int nu, .int ski, .int bri]))]]) := by
  refine CT.of (cc := cX5_harmOnce) (nL := 1) (ret := (some .int)) (by decide) rfl (Nat.le_of_ble_eq_true rfl) ?_
  intro p e s m below meth c R args Q A hRm ha hQ hAe hA S hE hr hlk hnm H locs hH0 hL0 ls hl hw
  have S : CallFix p m c cX5_harmOnce 1 s args wsX5_harmOnce RX5 := S
  have hl : lv_has ls 1 [(0, .ref a)] := hl
  refine lv_iconst (v := 2) S.1 S.2.1 dX5_harmOnce_0 (by decide) ?_
  refine lv_aload_n S.1 S.2.1 dX5_harmOnce_1 rfl (lv_at hl 0 rfl) ?_
  refine aw_callSU (n := 0) S hE (hE.1.1 5 _ rfl).2 (c_X1_harmOnce_X5 l G a nu ski bri) gX5_harmOnce_X1_harmOnce_s7 rfl (by decide +kernel) rfl (by rw [hRm]; exact ⟨Nat.le_of_ble_eq_true rfl, Nat.le_of_ble_eq_true rfl⟩) (by rw [hRm]; exact ⟨Nat.le_of_ble_eq_true rfl, Nat.le_of_ble_eq_true rfl⟩) hw hA hl.1 [0] rfl rfl (aw_recv (i := 0) hE hw rfl rfl rfl) rfl (Nat.le_of_ble_eq_true rfl) dX5_harmOnce_2 ?_
  rintro v w1 H locs ⟨rfl, rfl⟩ hw
  have hw : bW G A s.heap [[(a, .inr (5, [.int nu, .int ski, .int bri]))]] H locs := hw
  refine W.eq (g2 := (F0 m 5 ls [.int 2, .int 2])) rfl ?_
  refine lv_imul S.1 S.2.1 dX5_harmOnce_5 ?_
  refine aw_eqi (show (2 * 2 : Int32) = 4 from (by decide)) ?_
  exact aw_iret S hr hlk ha hQ hAe hw dX5_harmOnce_6 rfl (Nat.le_of_ble_eq_true rfl) (Nat.le_of_ble_eq_true rfl) ⟨rfl, rfl⟩
set_option maxRecDepth 100000 in
set_option maxHeartbeats 4000000 in
theorem c_X3_knownBy (l : Launch) (G : aw_G) (ad : Nat → Nat) (n : Nat) (lw la ub : Int32) (wk : Nat → Int32) (set : Int32) (hn : n ≤ 6) : CT l G yX3_knownBy wsX3_knownBy ({ frames := 1, cells := 0, slots := 0, locals := 21 }) [.ref (ad 3), .int set] [[(ad 3, .inr (3, [.ref (ad 2), .ref (ad 13), .ref (ad 14), .int la, .int ub]))], [(ad 14, .inl (gI G, 6, .inl wk))], [(ad 2, .inr (0, [.ref (ad 8), .ref (ad 9), .ref (ad 10), .ref (ad 11), .ref (ad 12), .int (nI n), .int lw]))]] (dt (some (.int (tgF set wk n))) [[(ad 3, .inr (3, [.ref (ad 2), .ref (ad 13), .ref (ad 14), .int la, .int ub]))], [(ad 14, .inl (gI G, 6, .inl wk))], [(ad 2, .inr (0, [.ref (ad 8), .ref (ad 9), .ref (ad 10), .ref (ad 11), .ref (ad 12), .int (nI n), .int lw]))]]) := by
  refine CT.of (cc := cX3_knownBy) (nL := 4) (ret := (some .int)) (by decide) rfl (Nat.le_of_ble_eq_true rfl) ?_
  intro p e s m below meth c R args Q A hRm ha hQ hAe hA S hE hr hlk hnm H locs hH0 hL0 ls hl hw
  have S : CallFix p m c cX3_knownBy 4 s args wsX3_knownBy RX3 := S
  have hl : lv_has ls 4 [(0, .ref (ad 3)), (1, .int set)] := hl
  have hinX3 : ∀ w ∈ u_ws RX3 TX3 5, w ∈ wsX3_knownBy := by decide +kernel
  have hf25 := S.2.2.2.2 (.fieldLink RX3 25 "AwakeTurns$MonthWalk" "crew" "LAwakeTurns$Crew;") (by decide +kernel)
  have hinX0 : ∀ w ∈ u_ws RX0 TX0 7, w ∈ wsX3_knownBy := by decide +kernel
  have hf45 := S.2.2.2.2 (.fieldLink RX3 45 "AwakeTurns$Crew" "count" "I") (by decide +kernel)
  have hz_ini_X10_isIn := S.2.2.2.2 (.initialized RX10) (by decide +kernel)
  have hz_st_X10_isIn := S.2.2.2.2 (.static yX10_isIn) (by decide +kernel)
  have hf15 := S.2.2.2.2 (.fieldLink RX3 15 "AwakeTurns$MonthWalk" "known" "[I") (by decide +kernel)
  refine lv_iconst (v := 0) S.1 S.2.1 dX3_knownBy_0 (by decide) ?_
  refine lv_istore_n (lv' := [(2, .int 0), (0, .ref (ad 3)), (1, .int set)]) S.1 S.2.1 dX3_knownBy_1 rfl hl (by decide) rfl (fun ls hl => ?_)
  refine lv_iconst (v := 0) S.1 S.2.1 dX3_knownBy_2 (by decide) ?_
  refine lv_istore_n (lv' := [(3, .int 0), (2, .int 0), (0, .ref (ad 3)), (1, .int set)]) S.1 S.2.1 dX3_knownBy_3 rfl hl (by decide) rfl (fun ls hl => ?_)
  have loop4 : ∀ (fu : Nat) (i : Nat), (i ≤ n) → (n - i) < fu → ∀ (ls : Array Slot) (H : Heap) (locs : List Loc), lv_has ls 4 [(0, .ref (ad 3)), (1, .int set), (2, .int (tgF set wk i)), (3, .int (nI i))] → bW G A s.heap [[(ad 3, .inr (3, [.ref (ad 2), .ref (ad 13), .ref (ad 14), .int la, .int ub]))], [(ad 14, .inl (gI G, 6, .inl wk))], [(ad 2, .inr (0, [.ref (ad 8), .ref (ad 9), .ref (ad 10), .ref (ad 11), .ref (ad 12), .int (nI n), .int lw]))]] H locs → W p l e R s m args below meth c H locs 0 0 Q (F0 m 4 ls []) := by
    intro fu
    induction fu with
    | zero => intro i _ hm; exact absurd hm (Nat.not_lt_zero _)
    | succ fu ih4 =>
      intro i hi hm ls H locs hl hw
      refine lv_iload_n S.1 S.2.1 dX3_knownBy_4 rfl (lv_at hl 3 rfl) ?_
      refine lv_aload_n S.1 S.2.1 dX3_knownBy_5 rfl (lv_at hl 0 rfl) ?_
      refine aw_get S hE hw 0 (C := RX3) (T := TX3) (N := 5) rfl rfl hinX3 0 (by decide) hf25 rfl dX3_knownBy_6 ?_
      refine aw_get S hE hw 2 (C := RX0) (T := TX0) (N := 7) rfl rfl hinX0 5 (by decide) hf45 rfl dX3_knownBy_9 ?_
      refine aw_icmpN_ge (x := i) (y := n) (tgt := 38) S (by omega) (by omega) dX3_knownBy_12 (by decide) (fun c12 => ?_) (fun c12 => ?_)
      · have ex_i : i = n := by omega
        try rw [ex_i] at hl
        try rw [ex_i] at hw
        refine lv_iload_n S.1 S.2.1 dX3_knownBy_38 rfl (lv_at hl 2 rfl) ?_
        exact aw_iret S hr hlk ha hQ hAe hw dX3_knownBy_39 rfl (Nat.le_of_ble_eq_true rfl) (Nat.le_of_ble_eq_true rfl) ⟨rfl, rfl⟩
      · refine lv_iload_n S.1 S.2.1 dX3_knownBy_15 rfl (lv_at hl 1 rfl) ?_
        refine lv_iload_n S.1 S.2.1 dX3_knownBy_16 rfl (lv_at hl 3 rfl) ?_
        refine aw_callSN (n := 2) S hE (c_X10_isIn l G set i (by first | assumption | omega)) gX3_knownBy_X10_isIn_n74 rfl hE.2.1.1 hz_ini_X10_isIn hz_st_X10_isIn (by decide +kernel) rfl (by rw [hRm]; exact ⟨Nat.le_of_ble_eq_true rfl, Nat.le_of_ble_eq_true rfl⟩) (by rw [hRm]; exact ⟨Nat.le_of_ble_eq_true rfl, Nat.le_of_ble_eq_true rfl⟩) hw hA hl.1 [] rfl rfl rfl (Nat.le_of_ble_eq_true rfl) dX3_knownBy_17 ?_
        rintro v w1 H locs ⟨rfl, rfl⟩ hw
        have hw : bW G A s.heap [[(ad 3, .inr (3, [.ref (ad 2), .ref (ad 13), .ref (ad 14), .int la, .int ub]))], [(ad 14, .inl (gI G, 6, .inl wk))], [(ad 2, .inr (0, [.ref (ad 8), .ref (ad 9), .ref (ad 10), .ref (ad 11), .ref (ad 12), .int (nI n), .int lw]))]] H locs := hw
        refine W.eq (g2 := (F0 m 20 ls [.int (if bt set i = true then 1 else 0)])) rfl ?_
        refine aw_ifeq (P := bt set i = true) (tgt := 32) S dX3_knownBy_20 (by decide) (fun c20 => ?_) (fun c20 => ?_)
        · have hl := Eq.mp (congrArg (fun z_ : Int32 => lv_has ls 4 [(0, .ref (ad 3)), (1, .int set), (2, .int z_), (3, .int (nI i))]) (show (tgF set wk i : Int32) = tgF set wk (i + 1) from (by rw [tgF, if_neg c20]))) hl
          have hl : lv_has ls 4 [(0, .ref (ad 3)), (1, .int set), (2, .int (tgF set wk (i + 1))), (3, .int (nI i))] := hl
          refine lv_iinc (v := nI (i + 1)) (lv' := [(3, .int (nI (i + 1))), (0, .ref (ad 3)), (1, .int set), (2, .int (tgF set wk (i + 1)))]) S.1 S.2.1 dX3_knownBy_32 hl (k := 3) rfl (by first | exact nI_1 _ | exact nI_add _ _ | rfl) (by decide) rfl (fun ls hl => ?_)
          refine lv_goto (tgt := 4) S.1 S.2.1 dX3_knownBy_35 (by decide) ?_
          exact ih4 (i + 1) (by first | assumption | omega) (by omega) _ _ _ (lv_sub hl [1, 2, 3, 0] rfl) hw
        · refine lv_iload_n S.1 S.2.1 dX3_knownBy_23 rfl (lv_at hl 2 rfl) ?_
          refine lv_aload_n S.1 S.2.1 dX3_knownBy_24 rfl (lv_at hl 0 rfl) ?_
          refine aw_get S hE hw 0 (C := RX3) (T := TX3) (N := 5) rfl rfl hinX3 2 (by decide) hf15 rfl dX3_knownBy_25 ?_
          refine lv_iload_n S.1 S.2.1 dX3_knownBy_28 rfl (lv_at hl 3 rfl) ?_
          refine aw_iald S hE hw 1 (k := i) rfl (by omega) (by decide) dX3_knownBy_29 ?_
          refine lv_ior S.1 S.2.1 dX3_knownBy_30 ?_
          refine aw_eqi (show ((tgF set wk i) ||| (wk i) : Int32) = tgF set wk (i + 1) from (by rw [tgF, if_pos c20])) ?_
          refine lv_istore_n (lv' := [(2, .int (tgF set wk (i + 1))), (0, .ref (ad 3)), (1, .int set), (3, .int (nI i))]) S.1 S.2.1 dX3_knownBy_31 rfl hl (by decide) rfl (fun ls hl => ?_)
          refine lv_iinc (v := nI (i + 1)) (lv' := [(3, .int (nI (i + 1))), (2, .int (tgF set wk (i + 1))), (0, .ref (ad 3)), (1, .int set)]) S.1 S.2.1 dX3_knownBy_32 hl (k := 3) rfl (by first | exact nI_1 _ | exact nI_add _ _ | rfl) (by decide) rfl (fun ls hl => ?_)
          refine lv_goto (tgt := 4) S.1 S.2.1 dX3_knownBy_35 (by decide) ?_
          exact ih4 (i + 1) (by first | assumption | omega) (by omega) _ _ _ (lv_sub hl [2, 3, 1, 0] rfl) hw
  exact loop4 _ 0 (by first | assumption | omega) (Nat.lt_succ_self _) _ _ _ (lv_sub hl [2, 3, 1, 0] rfl) hw
set_option maxRecDepth 100000 in
set_option maxHeartbeats 4000000 in
theorem c_X3_teachEachOther (l : Launch) (G : aw_G) (ad : Nat → Nat) (n : Nat) (lw la ub : Int32) (wk : Nat → Int32) (set : Int32) (hn : n ≤ 6) : CT l G yX3_teachEachOther wsX3_teachEachOther ({ frames := 2, cells := 0, slots := 0, locals := 44 }) [.ref (ad 3), .int set] [[(ad 3, .inr (3, [.ref (ad 2), .ref (ad 13), .ref (ad 14), .int la, .int ub]))], [(ad 14, .inl (gI G, 6, .inl wk))], [(ad 2, .inr (0, [.ref (ad 8), .ref (ad 9), .ref (ad 10), .ref (ad 11), .ref (ad 12), .int (nI n), .int lw]))]] (dt none [[(ad 3, .inr (3, [.ref (ad 2), .ref (ad 13), .ref (ad 14), .int la, .int ub]))], [(ad 14, .inl (gI G, 6, .inl (pwF (bt set) (fun _ => tgF set wk n) wk n)))], [(ad 2, .inr (0, [.ref (ad 8), .ref (ad 9), .ref (ad 10), .ref (ad 11), .ref (ad 12), .int (nI n), .int lw]))]]) := by
  refine CT.of (cc := cX3_teachEachOther) (nL := 4) (ret := none) (by decide) rfl (Nat.le_of_ble_eq_true rfl) ?_
  intro p e s m below meth c R args Q A hRm ha hQ hAe hA S hE hr hlk hnm H locs hH0 hL0 ls hl hw
  have S : CallFix p m c cX3_teachEachOther 4 s args wsX3_teachEachOther RX3 := S
  have hl : lv_has ls 4 [(0, .ref (ad 3)), (1, .int set)] := hl
  have hinX3 : ∀ w ∈ u_ws RX3 TX3 5, w ∈ wsX3_teachEachOther := by decide +kernel
  have hf25 := S.2.2.2.2 (.fieldLink RX3 25 "AwakeTurns$MonthWalk" "crew" "LAwakeTurns$Crew;") (by decide +kernel)
  have hinX0 : ∀ w ∈ u_ws RX0 TX0 7, w ∈ wsX3_teachEachOther := by decide +kernel
  have hf45 := S.2.2.2.2 (.fieldLink RX3 45 "AwakeTurns$Crew" "count" "I") (by decide +kernel)
  have hz_ini_X10_isIn := S.2.2.2.2 (.initialized RX10) (by decide +kernel)
  have hz_st_X10_isIn := S.2.2.2.2 (.static yX10_isIn) (by decide +kernel)
  have hf15 := S.2.2.2.2 (.fieldLink RX3 15 "AwakeTurns$MonthWalk" "known" "[I") (by decide +kernel)
  refine lv_aload_n S.1 S.2.1 dX3_teachEachOther_0 rfl (lv_at hl 0 rfl) ?_
  refine lv_iload_n S.1 S.2.1 dX3_teachEachOther_1 rfl (lv_at hl 1 rfl) ?_
  refine aw_callV S hE (c_X3_knownBy l G ad n lw la ub wk set (by first | assumption | omega)) gX3_teachEachOther_X3_knownBy (n := 1) rfl (by decide +kernel) rfl (by rw [hRm]; exact ⟨Nat.le_of_ble_eq_true rfl, Nat.le_of_ble_eq_true rfl⟩) (by rw [hRm]; exact ⟨Nat.le_of_ble_eq_true rfl, Nat.le_of_ble_eq_true rfl⟩) hw hA hl.1 [0, 1, 2] rfl rfl (aw_recv (i := 0) hE hw rfl rfl rfl) rfl (Nat.le_of_ble_eq_true rfl) dX3_teachEachOther_2 ?_
  rintro v w1 H locs ⟨rfl, rfl⟩ hw
  have hw : bW G A s.heap [[(ad 3, .inr (3, [.ref (ad 2), .ref (ad 13), .ref (ad 14), .int la, .int ub]))], [(ad 14, .inl (gI G, 6, .inl wk))], [(ad 2, .inr (0, [.ref (ad 8), .ref (ad 9), .ref (ad 10), .ref (ad 11), .ref (ad 12), .int (nI n), .int lw]))]] H locs := hw
  refine W.eq (g2 := (F0 m 5 ls [.int (tgF set wk n)])) rfl ?_
  refine lv_istore_n (lv' := [(2, .int (tgF set wk n)), (0, .ref (ad 3)), (1, .int set)]) S.1 S.2.1 dX3_teachEachOther_5 rfl hl (by decide) rfl (fun ls hl => ?_)
  refine lv_iconst (v := 0) S.1 S.2.1 dX3_teachEachOther_6 (by decide) ?_
  refine lv_istore_n (lv' := [(3, .int 0), (2, .int (tgF set wk n)), (0, .ref (ad 3)), (1, .int set)]) S.1 S.2.1 dX3_teachEachOther_7 rfl hl (by decide) rfl (fun ls hl => ?_)
  have hw := aw_arr hw 1 rfl (pwF (bt set) (fun _ => tgF set wk n) wk 0) (fun _ _ => by rw [pwF_0])
  have hw : bW G A s.heap [[(ad 3, .inr (3, [.ref (ad 2), .ref (ad 13), .ref (ad 14), .int la, .int ub]))], [(ad 14, .inl (gI G, 6, .inl (pwF (bt set) (fun _ => tgF set wk n) wk 0)))], [(ad 2, .inr (0, [.ref (ad 8), .ref (ad 9), .ref (ad 10), .ref (ad 11), .ref (ad 12), .int (nI n), .int lw]))]] H locs := hw
  have loop8 : ∀ (fu : Nat) (i : Nat), (i ≤ n) → (n - i) < fu → ∀ (ls : Array Slot) (H : Heap) (locs : List Loc), lv_has ls 4 [(0, .ref (ad 3)), (1, .int set), (2, .int (tgF set wk n)), (3, .int (nI i))] → bW G A s.heap [[(ad 3, .inr (3, [.ref (ad 2), .ref (ad 13), .ref (ad 14), .int la, .int ub]))], [(ad 14, .inl (gI G, 6, .inl (pwF (bt set) (fun _ => tgF set wk n) wk i)))], [(ad 2, .inr (0, [.ref (ad 8), .ref (ad 9), .ref (ad 10), .ref (ad 11), .ref (ad 12), .int (nI n), .int lw]))]] H locs → W p l e R s m args below meth c H locs 0 0 Q (F0 m 8 ls []) := by
    intro fu
    induction fu with
    | zero => intro i _ hm; exact absurd hm (Nat.not_lt_zero _)
    | succ fu ih8 =>
      intro i hi hm ls H locs hl hw
      refine lv_iload_n S.1 S.2.1 dX3_teachEachOther_8 rfl (lv_at hl 3 rfl) ?_
      refine lv_aload_n S.1 S.2.1 dX3_teachEachOther_9 rfl (lv_at hl 0 rfl) ?_
      refine aw_get S hE hw 0 (C := RX3) (T := TX3) (N := 5) rfl rfl hinX3 0 (by decide) hf25 rfl dX3_teachEachOther_10 ?_
      refine aw_get S hE hw 2 (C := RX0) (T := TX0) (N := 7) rfl rfl hinX0 5 (by decide) hf45 rfl dX3_teachEachOther_13 ?_
      refine aw_icmpN_ge (x := i) (y := n) (tgt := 40) S (by omega) (by omega) dX3_teachEachOther_16 (by decide) (fun c16 => ?_) (fun c16 => ?_)
      · have ex_i : i = n := by omega
        try rw [ex_i] at hl
        try rw [ex_i] at hw
        exact aw_vret S hr hlk ha hQ hAe hw dX3_teachEachOther_40 (Nat.le_of_ble_eq_true rfl) (Nat.le_of_ble_eq_true rfl) ⟨rfl, rfl⟩
      · refine lv_iload_n S.1 S.2.1 dX3_teachEachOther_19 rfl (lv_at hl 1 rfl) ?_
        refine lv_iload_n S.1 S.2.1 dX3_teachEachOther_20 rfl (lv_at hl 3 rfl) ?_
        refine aw_callSN (n := 2) S hE (c_X10_isIn l G set i (by first | assumption | omega)) gX3_teachEachOther_X10_isIn_n74 rfl hE.2.1.1 hz_ini_X10_isIn hz_st_X10_isIn (by decide +kernel) rfl (by rw [hRm]; exact ⟨Nat.le_of_ble_eq_true rfl, Nat.le_of_ble_eq_true rfl⟩) (by rw [hRm]; exact ⟨Nat.le_of_ble_eq_true rfl, Nat.le_of_ble_eq_true rfl⟩) hw hA hl.1 [] rfl rfl rfl (Nat.le_of_ble_eq_true rfl) dX3_teachEachOther_21 ?_
        rintro v w1 H locs ⟨rfl, rfl⟩ hw
        have hw : bW G A s.heap [[(ad 3, .inr (3, [.ref (ad 2), .ref (ad 13), .ref (ad 14), .int la, .int ub]))], [(ad 14, .inl (gI G, 6, .inl (pwF (bt set) (fun _ => tgF set wk n) wk i)))], [(ad 2, .inr (0, [.ref (ad 8), .ref (ad 9), .ref (ad 10), .ref (ad 11), .ref (ad 12), .int (nI n), .int lw]))]] H locs := hw
        refine W.eq (g2 := (F0 m 24 ls [.int (if bt set i = true then 1 else 0)])) rfl ?_
        refine aw_ifeq (P := bt set i = true) (tgt := 34) S dX3_teachEachOther_24 (by decide) (fun c24 => ?_) (fun c24 => ?_)
        · have hw := aw_arr hw 1 rfl (pwF (bt set) (fun _ => tgF set wk n) wk (i + 1)) (fun _ _ => by rw [← pwF_f c24])
          have hw : bW G A s.heap [[(ad 3, .inr (3, [.ref (ad 2), .ref (ad 13), .ref (ad 14), .int la, .int ub]))], [(ad 14, .inl (gI G, 6, .inl (pwF (bt set) (fun _ => tgF set wk n) wk (i + 1))))], [(ad 2, .inr (0, [.ref (ad 8), .ref (ad 9), .ref (ad 10), .ref (ad 11), .ref (ad 12), .int (nI n), .int lw]))]] H locs := hw
          refine lv_iinc (v := nI (i + 1)) (lv' := [(3, .int (nI (i + 1))), (0, .ref (ad 3)), (1, .int set), (2, .int (tgF set wk n))]) S.1 S.2.1 dX3_teachEachOther_34 hl (k := 3) rfl (by first | exact nI_1 _ | exact nI_add _ _ | rfl) (by decide) rfl (fun ls hl => ?_)
          refine lv_goto (tgt := 8) S.1 S.2.1 dX3_teachEachOther_37 (by decide) ?_
          exact ih8 (i + 1) (by first | assumption | omega) (by omega) _ _ _ (lv_sub hl [1, 2, 3, 0] rfl) hw
        · refine lv_aload_n S.1 S.2.1 dX3_teachEachOther_27 rfl (lv_at hl 0 rfl) ?_
          refine aw_get S hE hw 0 (C := RX3) (T := TX3) (N := 5) rfl rfl hinX3 2 (by decide) hf15 rfl dX3_teachEachOther_28 ?_
          refine lv_iload_n S.1 S.2.1 dX3_teachEachOther_31 rfl (lv_at hl 3 rfl) ?_
          refine lv_iload_n S.1 S.2.1 dX3_teachEachOther_32 rfl (lv_at hl 2 rfl) ?_
          refine aw_iast S hE hw 1 (k := i) rfl (by omega) (by decide) dX3_teachEachOther_33 (fun H locs hw => ?_)
          have hw : bW G A s.heap [[(ad 3, .inr (3, [.ref (ad 2), .ref (ad 13), .ref (ad 14), .int la, .int ub]))], [(ad 14, .inl (gI G, 6, .inl (upd (pwF (bt set) (fun _ => tgF set wk n) wk i) i (tgF set wk n))))], [(ad 2, .inr (0, [.ref (ad 8), .ref (ad 9), .ref (ad 10), .ref (ad 11), .ref (ad 12), .int (nI n), .int lw]))]] H locs := hw
          have hw := aw_arr hw 1 rfl (pwF (bt set) (fun _ => tgF set wk n) wk (i + 1)) (fun _ _ => by rw [← pwF_t c24])
          have hw : bW G A s.heap [[(ad 3, .inr (3, [.ref (ad 2), .ref (ad 13), .ref (ad 14), .int la, .int ub]))], [(ad 14, .inl (gI G, 6, .inl (pwF (bt set) (fun _ => tgF set wk n) wk (i + 1))))], [(ad 2, .inr (0, [.ref (ad 8), .ref (ad 9), .ref (ad 10), .ref (ad 11), .ref (ad 12), .int (nI n), .int lw]))]] H locs := hw
          refine lv_iinc (v := nI (i + 1)) (lv' := [(3, .int (nI (i + 1))), (0, .ref (ad 3)), (1, .int set), (2, .int (tgF set wk n))]) S.1 S.2.1 dX3_teachEachOther_34 hl (k := 3) rfl (by first | exact nI_1 _ | exact nI_add _ _ | rfl) (by decide) rfl (fun ls hl => ?_)
          refine lv_goto (tgt := 8) S.1 S.2.1 dX3_teachEachOther_37 (by decide) ?_
          exact ih8 (i + 1) (by first | assumption | omega) (by omega) _ _ _ (lv_sub hl [1, 2, 3, 0] rfl) hw
  exact loop8 _ 0 (by first | assumption | omega) (Nat.lt_succ_self _) _ _ _ (lv_sub hl [2, 3, 1, 0] rfl) hw
set_option maxRecDepth 100000 in
set_option maxHeartbeats 4000000 in
theorem c_X3_thaw (l : Launch) (G : aw_G) (ad : Nat → Nat) (n : Nat) (lw : Int32) (sg : Nat → Option Nat) (sa : Nat → Nat) (kd sk br : Nat → Int32) (la ub : Int32) (wh wk : Nat → Int32) (set : Int32) (hn : n ≤ 6) (hsg : ∀ i, i < n → sg i = some (sa i)) : CT l G yX3_thaw wsX3_thaw ({ frames := 3, cells := 0, slots := 0, locals := 60 }) [.ref (ad 3), .int set] [[(ad 3, .inr (3, [.ref (ad 2), .ref (ad 13), .ref (ad 14), .int la, .int ub]))], [(ad 13, .inl (gI G, 6, .inl wh))], [(ad 2, .inr (0, [.ref (ad 8), .ref (ad 9), .ref (ad 10), .ref (ad 11), .ref (ad 12), .int (nI n), .int lw]))], [(ad 8, .inl (gL G, 6, .inr (.inr (.inr (.inr sg)))))], fam n sa (slE kd sk br)] (dt none [[(ad 3, .inr (3, [.ref (ad 2), .ref (ad 13), .ref (ad 14), .int la, .int ub]))], [(ad 13, .inl (gI G, 6, .inl (pwF (bt set) (fun j => wh j + hoK (kd j)) wh n)))], [(ad 2, .inr (0, [.ref (ad 8), .ref (ad 9), .ref (ad 10), .ref (ad 11), .ref (ad 12), .int (nI n), .int lw]))], [(ad 8, .inl (gL G, 6, .inr (.inr (.inr (.inr sg)))))], fam n sa (slE kd sk br)]) := by
  refine CT.of (cc := cX3_thaw) (nL := 3) (ret := none) (by decide) rfl (Nat.le_of_ble_eq_true rfl) ?_
  intro p e s m below meth c R args Q A hRm ha hQ hAe hA S hE hr hlk hnm H locs hH0 hL0 ls hl hw
  have S : CallFix p m c cX3_thaw 3 s args wsX3_thaw RX3 := S
  have hl : lv_has ls 3 [(0, .ref (ad 3)), (1, .int set)] := hl
  have hinX3 : ∀ w ∈ u_ws RX3 TX3 5, w ∈ wsX3_thaw := by decide +kernel
  have hf25 := S.2.2.2.2 (.fieldLink RX3 25 "AwakeTurns$MonthWalk" "crew" "LAwakeTurns$Crew;") (by decide +kernel)
  have hinX0 : ∀ w ∈ u_ws RX0 TX0 7, w ∈ wsX3_thaw := by decide +kernel
  have hf45 := S.2.2.2.2 (.fieldLink RX3 45 "AwakeTurns$Crew" "count" "I") (by decide +kernel)
  have hz_ini_X10_isIn := S.2.2.2.2 (.initialized RX10) (by decide +kernel)
  have hz_st_X10_isIn := S.2.2.2.2 (.static yX10_isIn) (by decide +kernel)
  have hf9 := S.2.2.2.2 (.fieldLink RX3 9 "AwakeTurns$MonthWalk" "harmSoFar" "[I") (by decide +kernel)
  have hf48 := S.2.2.2.2 (.fieldLink RX3 48 "AwakeTurns$Crew" "sleepers" "[LAwakeTurns$Sleeper;") (by decide +kernel)
  refine lv_iconst (v := 0) S.1 S.2.1 dX3_thaw_0 (by decide) ?_
  refine lv_istore_n (lv' := [(2, .int 0), (0, .ref (ad 3)), (1, .int set)]) S.1 S.2.1 dX3_thaw_1 rfl hl (by decide) rfl (fun ls hl => ?_)
  have hw := aw_arr hw 1 rfl (pwF (bt set) (fun j => wh j + hoK (kd j)) wh 0) (fun _ _ => by rw [pwF_0])
  have hw : bW G A s.heap [[(ad 3, .inr (3, [.ref (ad 2), .ref (ad 13), .ref (ad 14), .int la, .int ub]))], [(ad 13, .inl (gI G, 6, .inl (pwF (bt set) (fun j => wh j + hoK (kd j)) wh 0)))], [(ad 2, .inr (0, [.ref (ad 8), .ref (ad 9), .ref (ad 10), .ref (ad 11), .ref (ad 12), .int (nI n), .int lw]))], [(ad 8, .inl (gL G, 6, .inr (.inr (.inr (.inr sg)))))], fam n sa (slE kd sk br)] H locs := hw
  have loop2 : ∀ (fu : Nat) (i : Nat), (i ≤ n) → (n - i) < fu → ∀ (ls : Array Slot) (H : Heap) (locs : List Loc), lv_has ls 3 [(0, .ref (ad 3)), (1, .int set), (2, .int (nI i))] → bW G A s.heap [[(ad 3, .inr (3, [.ref (ad 2), .ref (ad 13), .ref (ad 14), .int la, .int ub]))], [(ad 13, .inl (gI G, 6, .inl (pwF (bt set) (fun j => wh j + hoK (kd j)) wh i)))], [(ad 2, .inr (0, [.ref (ad 8), .ref (ad 9), .ref (ad 10), .ref (ad 11), .ref (ad 12), .int (nI n), .int lw]))], [(ad 8, .inl (gL G, 6, .inr (.inr (.inr (.inr sg)))))], fam n sa (slE kd sk br)] H locs → W p l e R s m args below meth c H locs 0 0 Q (F0 m 2 ls []) := by
    intro fu
    induction fu with
    | zero => intro i _ hm; exact absurd hm (Nat.not_lt_zero _)
    | succ fu ih2 =>
      intro i hi hm ls H locs hl hw
      refine lv_iload_n S.1 S.2.1 dX3_thaw_2 rfl (lv_at hl 2 rfl) ?_
      refine lv_aload_n S.1 S.2.1 dX3_thaw_3 rfl (lv_at hl 0 rfl) ?_
      refine aw_get S hE hw 0 (C := RX3) (T := TX3) (N := 5) rfl rfl hinX3 0 (by decide) hf25 rfl dX3_thaw_4 ?_
      refine aw_get S hE hw 2 (C := RX0) (T := TX0) (N := 7) rfl rfl hinX0 5 (by decide) hf45 rfl dX3_thaw_7 ?_
      refine aw_icmpN_ge (x := i) (y := n) (tgt := 48) S (by omega) (by omega) dX3_thaw_10 (by decide) (fun c10 => ?_) (fun c10 => ?_)
      · have ex_i : i = n := by omega
        try rw [ex_i] at hl
        try rw [ex_i] at hw
        exact aw_vret S hr hlk ha hQ hAe hw dX3_thaw_48 (Nat.le_of_ble_eq_true rfl) (Nat.le_of_ble_eq_true rfl) ⟨rfl, rfl⟩
      · refine lv_iload_n S.1 S.2.1 dX3_thaw_13 rfl (lv_at hl 1 rfl) ?_
        refine lv_iload_n S.1 S.2.1 dX3_thaw_14 rfl (lv_at hl 2 rfl) ?_
        refine aw_callSN (n := 2) S hE (c_X10_isIn l G set i (by first | assumption | omega)) gX3_thaw_X10_isIn_n74 rfl hE.2.1.1 hz_ini_X10_isIn hz_st_X10_isIn (by decide +kernel) rfl (by rw [hRm]; exact ⟨Nat.le_of_ble_eq_true rfl, Nat.le_of_ble_eq_true rfl⟩) (by rw [hRm]; exact ⟨Nat.le_of_ble_eq_true rfl, Nat.le_of_ble_eq_true rfl⟩) hw hA hl.1 [] rfl rfl rfl (Nat.le_of_ble_eq_true rfl) dX3_thaw_15 ?_
        rintro v w1 H locs ⟨rfl, rfl⟩ hw
        have hw : bW G A s.heap [[(ad 3, .inr (3, [.ref (ad 2), .ref (ad 13), .ref (ad 14), .int la, .int ub]))], [(ad 13, .inl (gI G, 6, .inl (pwF (bt set) (fun j => wh j + hoK (kd j)) wh i)))], [(ad 2, .inr (0, [.ref (ad 8), .ref (ad 9), .ref (ad 10), .ref (ad 11), .ref (ad 12), .int (nI n), .int lw]))], [(ad 8, .inl (gL G, 6, .inr (.inr (.inr (.inr sg)))))], fam n sa (slE kd sk br)] H locs := hw
        refine W.eq (g2 := (F0 m 18 ls [.int (if bt set i = true then 1 else 0)])) rfl ?_
        refine aw_ifeq (P := bt set i = true) (tgt := 42) S dX3_thaw_18 (by decide) (fun c18 => ?_) (fun c18 => ?_)
        · have hw := aw_arr hw 1 rfl (pwF (bt set) (fun j => wh j + hoK (kd j)) wh (i + 1)) (fun _ _ => by rw [← pwF_f c18])
          have hw : bW G A s.heap [[(ad 3, .inr (3, [.ref (ad 2), .ref (ad 13), .ref (ad 14), .int la, .int ub]))], [(ad 13, .inl (gI G, 6, .inl (pwF (bt set) (fun j => wh j + hoK (kd j)) wh (i + 1))))], [(ad 2, .inr (0, [.ref (ad 8), .ref (ad 9), .ref (ad 10), .ref (ad 11), .ref (ad 12), .int (nI n), .int lw]))], [(ad 8, .inl (gL G, 6, .inr (.inr (.inr (.inr sg)))))], fam n sa (slE kd sk br)] H locs := hw
          refine lv_iinc (v := nI (i + 1)) (lv' := [(2, .int (nI (i + 1))), (0, .ref (ad 3)), (1, .int set)]) S.1 S.2.1 dX3_thaw_42 hl (k := 2) rfl (by first | exact nI_1 _ | exact nI_add _ _ | rfl) (by decide) rfl (fun ls hl => ?_)
          refine lv_goto (tgt := 2) S.1 S.2.1 dX3_thaw_45 (by decide) ?_
          exact ih2 (i + 1) (by first | assumption | omega) (by omega) _ _ _ (lv_sub hl [1, 2, 0] rfl) hw
        · refine lv_aload_n S.1 S.2.1 dX3_thaw_21 rfl (lv_at hl 0 rfl) ?_
          refine aw_get S hE hw 0 (C := RX3) (T := TX3) (N := 5) rfl rfl hinX3 1 (by decide) hf9 rfl dX3_thaw_22 ?_
          refine lv_iload_n S.1 S.2.1 dX3_thaw_25 rfl (lv_at hl 2 rfl) ?_
          refine lv_dup2_11 S.1 S.2.1 dX3_thaw_26 rfl rfl ?_
          refine aw_iald S hE hw 1 (k := i) rfl (by omega) (by decide) dX3_thaw_27 ?_
          refine aw_eqi (show ((pwF (bt set) (fun j => wh j + hoK (kd j)) wh i) i : Int32) = wh i from (pwF_at _ _ _ _)) ?_
          refine lv_aload_n S.1 S.2.1 dX3_thaw_28 rfl (lv_at hl 0 rfl) ?_
          refine aw_get S hE hw 0 (C := RX3) (T := TX3) (N := 5) rfl rfl hinX3 0 (by decide) hf25 rfl dX3_thaw_29 ?_
          refine aw_get S hE hw 2 (C := RX0) (T := TX0) (N := 7) rfl rfl hinX0 0 (by decide) hf48 rfl dX3_thaw_32 ?_
          refine lv_iload_n S.1 S.2.1 dX3_thaw_35 rfl (lv_at hl 2 rfl) ?_
          refine aw_aald_L S hE hw 3 (k := i) (r := (sa i)) rfl (by omega) (by decide) (hsg i (by omega)) dX3_thaw_36 ?_
          have join40 : ∀ (H : Heap) (locs : List Loc), bW G A s.heap [[(ad 3, .inr (3, [.ref (ad 2), .ref (ad 13), .ref (ad 14), .int la, .int ub]))], [(ad 13, .inl (gI G, 6, .inl (pwF (bt set) (fun j => wh j + hoK (kd j)) wh i)))], [(ad 2, .inr (0, [.ref (ad 8), .ref (ad 9), .ref (ad 10), .ref (ad 11), .ref (ad 12), .int (nI n), .int lw]))], [(ad 8, .inl (gL G, 6, .inr (.inr (.inr (.inr sg)))))], fam n sa (slE kd sk br)] H locs → W p l e R s m args below meth c H locs 0 0 Q (F0 m 40 ls [.int (hoK (kd i)), .int (wh i), .int (nI i), .ref (ad 13)]) := by
            intro H locs hw
            refine lv_iadd S.1 S.2.1 dX3_thaw_40 ?_
            refine aw_iast S hE hw 1 (k := i) rfl (by omega) (by decide) dX3_thaw_41 (fun H locs hw => ?_)
            have hw : bW G A s.heap [[(ad 3, .inr (3, [.ref (ad 2), .ref (ad 13), .ref (ad 14), .int la, .int ub]))], [(ad 13, .inl (gI G, 6, .inl (upd (pwF (bt set) (fun j => wh j + hoK (kd j)) wh i) i ((wh i) + (hoK (kd i))))))], [(ad 2, .inr (0, [.ref (ad 8), .ref (ad 9), .ref (ad 10), .ref (ad 11), .ref (ad 12), .int (nI n), .int lw]))], [(ad 8, .inl (gL G, 6, .inr (.inr (.inr (.inr sg)))))], fam n sa (slE kd sk br)] H locs := hw
            have hw := aw_arr hw 1 rfl (pwF (bt set) (fun j => wh j + hoK (kd j)) wh (i + 1)) (fun _ _ => by rw [← pwF_t c18])
            have hw : bW G A s.heap [[(ad 3, .inr (3, [.ref (ad 2), .ref (ad 13), .ref (ad 14), .int la, .int ub]))], [(ad 13, .inl (gI G, 6, .inl (pwF (bt set) (fun j => wh j + hoK (kd j)) wh (i + 1))))], [(ad 2, .inr (0, [.ref (ad 8), .ref (ad 9), .ref (ad 10), .ref (ad 11), .ref (ad 12), .int (nI n), .int lw]))], [(ad 8, .inl (gL G, 6, .inr (.inr (.inr (.inr sg)))))], fam n sa (slE kd sk br)] H locs := hw
            refine lv_iinc (v := nI (i + 1)) (lv' := [(2, .int (nI (i + 1))), (0, .ref (ad 3)), (1, .int set)]) S.1 S.2.1 dX3_thaw_42 hl (k := 2) rfl (by first | exact nI_1 _ | exact nI_add _ _ | rfl) (by decide) rfl (fun ls hl => ?_)
            refine lv_goto (tgt := 2) S.1 S.2.1 dX3_thaw_45 (by decide) ?_
            exact ih2 (i + 1) (by first | assumption | omega) (by omega) _ _ _ (lv_sub hl [1, 2, 0] rfl) hw
          have hw := aw_out hw 4 rfl i (by omega)
          have hw : bW G A s.heap [[(ad 3, .inr (3, [.ref (ad 2), .ref (ad 13), .ref (ad 14), .int la, .int ub]))], [(ad 13, .inl (gI G, 6, .inl (pwF (bt set) (fun j => wh j + hoK (kd j)) wh i)))], [(ad 2, .inr (0, [.ref (ad 8), .ref (ad 9), .ref (ad 10), .ref (ad 11), .ref (ad 12), .int (nI n), .int lw]))], [(ad 8, .inl (gL G, 6, .inr (.inr (.inr (.inr sg)))))], famX n sa (slE kd sk br) i, [(sa i, slE kd sk br i)]] H locs := hw
          rcases slE_cases kd sk br i with ⟨hz, ez⟩ | ⟨hz, ez⟩ | ⟨hz, ez⟩
          · rw [ez] at hw
            have hw : bW G A s.heap [[(ad 3, .inr (3, [.ref (ad 2), .ref (ad 13), .ref (ad 14), .int la, .int ub]))], [(ad 13, .inl (gI G, 6, .inl (pwF (bt set) (fun j => wh j + hoK (kd j)) wh i)))], [(ad 2, .inr (0, [.ref (ad 8), .ref (ad 9), .ref (ad 10), .ref (ad 11), .ref (ad 12), .int (nI n), .int lw]))], [(ad 8, .inl (gL G, 6, .inr (.inr (.inr (.inr sg)))))], famX n sa (slE kd sk br) i, [(sa i, .inr (8, [.int (nI i), .int (sk i), .int (br i)]))]] H locs := hw
            refine aw_callV S hE (c_X8_harmOnce l G (sa i)) gX3_thaw_X8_harmOnce (n := 0) rfl (by decide +kernel) rfl (by rw [hRm]; exact ⟨Nat.le_of_ble_eq_true rfl, Nat.le_of_ble_eq_true rfl⟩) (by rw [hRm]; exact ⟨Nat.le_of_ble_eq_true rfl, Nat.le_of_ble_eq_true rfl⟩) hw hA hl.1 [] rfl rfl (aw_recv (i := 5) hE hw rfl rfl rfl) rfl (Nat.le_of_ble_eq_true rfl) dX3_thaw_37 ?_
            rintro v w1 H locs ⟨rfl, rfl⟩ hw
            have hw : bW G A s.heap [[(ad 3, .inr (3, [.ref (ad 2), .ref (ad 13), .ref (ad 14), .int la, .int ub]))], [(ad 13, .inl (gI G, 6, .inl (pwF (bt set) (fun j => wh j + hoK (kd j)) wh i)))], [(ad 2, .inr (0, [.ref (ad 8), .ref (ad 9), .ref (ad 10), .ref (ad 11), .ref (ad 12), .int (nI n), .int lw]))], [(ad 8, .inl (gL G, 6, .inr (.inr (.inr (.inr sg)))))], famX n sa (slE kd sk br) i, [(sa i, .inr (8, [.int (nI i), .int (sk i), .int (br i)]))]] H locs := hw
            refine W.eq (g2 := (F0 m 40 ls [.int 1, .int (wh i), .int (nI i), .ref (ad 13)])) rfl ?_
            refine aw_eqi (show (1 : Int32) = hoK (kd i) from (by rw [hz]; rfl)) ?_
            rw [show (.inr (8, [.int (nI i), .int (sk i), .int (br i)]) : va_E) = slE kd sk br i from ez.symm] at hw
            have hw := aw_inS [[(ad 3, .inr (3, [.ref (ad 2), .ref (ad 13), .ref (ad 14), .int la, .int ub]))], [(ad 13, .inl (gI G, 6, .inl (pwF (bt set) (fun j => wh j + hoK (kd j)) wh i)))], [(ad 2, .inr (0, [.ref (ad 8), .ref (ad 9), .ref (ad 10), .ref (ad 11), .ref (ad 12), .int (nI n), .int lw]))], [(ad 8, .inl (gL G, 6, .inr (.inr (.inr (.inr sg)))))], famX n sa (slE kd sk br) i] hw 4 rfl (by omega)
            have hw : bW G A s.heap [[(ad 3, .inr (3, [.ref (ad 2), .ref (ad 13), .ref (ad 14), .int la, .int ub]))], [(ad 13, .inl (gI G, 6, .inl (pwF (bt set) (fun j => wh j + hoK (kd j)) wh i)))], [(ad 2, .inr (0, [.ref (ad 8), .ref (ad 9), .ref (ad 10), .ref (ad 11), .ref (ad 12), .int (nI n), .int lw]))], [(ad 8, .inl (gL G, 6, .inr (.inr (.inr (.inr sg)))))], fam n sa (slE kd sk br)] H locs := hw
            exact join40 _ _ hw
          · rw [ez] at hw
            have hw : bW G A s.heap [[(ad 3, .inr (3, [.ref (ad 2), .ref (ad 13), .ref (ad 14), .int la, .int ub]))], [(ad 13, .inl (gI G, 6, .inl (pwF (bt set) (fun j => wh j + hoK (kd j)) wh i)))], [(ad 2, .inr (0, [.ref (ad 8), .ref (ad 9), .ref (ad 10), .ref (ad 11), .ref (ad 12), .int (nI n), .int lw]))], [(ad 8, .inl (gL G, 6, .inr (.inr (.inr (.inr sg)))))], famX n sa (slE kd sk br) i, [(sa i, .inr (1, [.int (nI i), .int (sk i), .int (br i)]))]] H locs := hw
            refine aw_callU (n := 0) S hE (c_X1_harmOnce l G (sa i) (nI i) (sk i) (br i)) gX3_thaw_X1_harmOnce_u78X1 rfl (show Cond.code ⟨"AwakeTurns$Sleeper", "harmOnce", "()I"⟩ cX8_harmOnce 1 (some .int) ∈ wsX3_thaw by decide +kernel) (by decide +kernel) rfl (by rw [hRm]; exact ⟨Nat.le_of_ble_eq_true rfl, Nat.le_of_ble_eq_true rfl⟩) (by rw [hRm]; exact ⟨Nat.le_of_ble_eq_true rfl, Nat.le_of_ble_eq_true rfl⟩) hw hA hl.1 [5] rfl rfl (aw_recv (i := 5) hE hw rfl rfl rfl) rfl (Nat.le_of_ble_eq_true rfl) dX3_thaw_37 ?_
            rintro v w1 H locs ⟨rfl, rfl⟩ hw
            have hw : bW G A s.heap [[(ad 3, .inr (3, [.ref (ad 2), .ref (ad 13), .ref (ad 14), .int la, .int ub]))], [(ad 13, .inl (gI G, 6, .inl (pwF (bt set) (fun j => wh j + hoK (kd j)) wh i)))], [(ad 2, .inr (0, [.ref (ad 8), .ref (ad 9), .ref (ad 10), .ref (ad 11), .ref (ad 12), .int (nI n), .int lw]))], [(ad 8, .inl (gL G, 6, .inr (.inr (.inr (.inr sg)))))], famX n sa (slE kd sk br) i, [(sa i, .inr (1, [.int (nI i), .int (sk i), .int (br i)]))]] H locs := hw
            refine W.eq (g2 := (F0 m 40 ls [.int 2, .int (wh i), .int (nI i), .ref (ad 13)])) rfl ?_
            refine aw_eqi (show (2 : Int32) = hoK (kd i) from (by rw [hz]; rfl)) ?_
            rw [show (.inr (1, [.int (nI i), .int (sk i), .int (br i)]) : va_E) = slE kd sk br i from ez.symm] at hw
            have hw := aw_inS [[(ad 3, .inr (3, [.ref (ad 2), .ref (ad 13), .ref (ad 14), .int la, .int ub]))], [(ad 13, .inl (gI G, 6, .inl (pwF (bt set) (fun j => wh j + hoK (kd j)) wh i)))], [(ad 2, .inr (0, [.ref (ad 8), .ref (ad 9), .ref (ad 10), .ref (ad 11), .ref (ad 12), .int (nI n), .int lw]))], [(ad 8, .inl (gL G, 6, .inr (.inr (.inr (.inr sg)))))], famX n sa (slE kd sk br) i] hw 4 rfl (by omega)
            have hw : bW G A s.heap [[(ad 3, .inr (3, [.ref (ad 2), .ref (ad 13), .ref (ad 14), .int la, .int ub]))], [(ad 13, .inl (gI G, 6, .inl (pwF (bt set) (fun j => wh j + hoK (kd j)) wh i)))], [(ad 2, .inr (0, [.ref (ad 8), .ref (ad 9), .ref (ad 10), .ref (ad 11), .ref (ad 12), .int (nI n), .int lw]))], [(ad 8, .inl (gL G, 6, .inr (.inr (.inr (.inr sg)))))], fam n sa (slE kd sk br)] H locs := hw
            exact join40 _ _ hw
          · rw [ez] at hw
            have hw : bW G A s.heap [[(ad 3, .inr (3, [.ref (ad 2), .ref (ad 13), .ref (ad 14), .int la, .int ub]))], [(ad 13, .inl (gI G, 6, .inl (pwF (bt set) (fun j => wh j + hoK (kd j)) wh i)))], [(ad 2, .inr (0, [.ref (ad 8), .ref (ad 9), .ref (ad 10), .ref (ad 11), .ref (ad 12), .int (nI n), .int lw]))], [(ad 8, .inl (gL G, 6, .inr (.inr (.inr (.inr sg)))))], famX n sa (slE kd sk br) i, [(sa i, .inr (5, [.int (nI i), .int (sk i), .int (br i)]))]] H locs := hw
            refine aw_callU (n := 0) S hE (c_X5_harmOnce l G (sa i) (nI i) (sk i) (br i)) gX3_thaw_X5_harmOnce_u78X5 rfl (show Cond.code ⟨"AwakeTurns$Sleeper", "harmOnce", "()I"⟩ cX8_harmOnce 1 (some .int) ∈ wsX3_thaw by decide +kernel) (by decide +kernel) rfl (by rw [hRm]; exact ⟨Nat.le_of_ble_eq_true rfl, Nat.le_of_ble_eq_true rfl⟩) (by rw [hRm]; exact ⟨Nat.le_of_ble_eq_true rfl, Nat.le_of_ble_eq_true rfl⟩) hw hA hl.1 [5] rfl rfl (aw_recv (i := 5) hE hw rfl rfl rfl) rfl (Nat.le_of_ble_eq_true rfl) dX3_thaw_37 ?_
            rintro v w1 H locs ⟨rfl, rfl⟩ hw
            have hw : bW G A s.heap [[(ad 3, .inr (3, [.ref (ad 2), .ref (ad 13), .ref (ad 14), .int la, .int ub]))], [(ad 13, .inl (gI G, 6, .inl (pwF (bt set) (fun j => wh j + hoK (kd j)) wh i)))], [(ad 2, .inr (0, [.ref (ad 8), .ref (ad 9), .ref (ad 10), .ref (ad 11), .ref (ad 12), .int (nI n), .int lw]))], [(ad 8, .inl (gL G, 6, .inr (.inr (.inr (.inr sg)))))], famX n sa (slE kd sk br) i, [(sa i, .inr (5, [.int (nI i), .int (sk i), .int (br i)]))]] H locs := hw
            refine W.eq (g2 := (F0 m 40 ls [.int 4, .int (wh i), .int (nI i), .ref (ad 13)])) rfl ?_
            refine aw_eqi (show (4 : Int32) = hoK (kd i) from (by rw [hoK, if_neg hz.1, if_neg hz.2])) ?_
            rw [show (.inr (5, [.int (nI i), .int (sk i), .int (br i)]) : va_E) = slE kd sk br i from ez.symm] at hw
            have hw := aw_inS [[(ad 3, .inr (3, [.ref (ad 2), .ref (ad 13), .ref (ad 14), .int la, .int ub]))], [(ad 13, .inl (gI G, 6, .inl (pwF (bt set) (fun j => wh j + hoK (kd j)) wh i)))], [(ad 2, .inr (0, [.ref (ad 8), .ref (ad 9), .ref (ad 10), .ref (ad 11), .ref (ad 12), .int (nI n), .int lw]))], [(ad 8, .inl (gL G, 6, .inr (.inr (.inr (.inr sg)))))], famX n sa (slE kd sk br) i] hw 4 rfl (by omega)
            have hw : bW G A s.heap [[(ad 3, .inr (3, [.ref (ad 2), .ref (ad 13), .ref (ad 14), .int la, .int ub]))], [(ad 13, .inl (gI G, 6, .inl (pwF (bt set) (fun j => wh j + hoK (kd j)) wh i)))], [(ad 2, .inr (0, [.ref (ad 8), .ref (ad 9), .ref (ad 10), .ref (ad 11), .ref (ad 12), .int (nI n), .int lw]))], [(ad 8, .inl (gL G, 6, .inr (.inr (.inr (.inr sg)))))], fam n sa (slE kd sk br)] H locs := hw
            exact join40 _ _ hw
  exact loop2 _ 0 (by first | assumption | omega) (Nat.lt_succ_self _) _ _ _ (lv_sub hl [1, 2, 0] rfl) hw
set_option maxRecDepth 100000 in
set_option maxHeartbeats 4000000 in
theorem c_X3_begin (l : Launch) (G : aw_G) (ad : Nat → Nat) (n : Nat) (lw : Int32) (sg : Nat → Option Nat) (sa : Nat → Nat) (kd sk br : Nat → Int32) (la ub : Int32) (wh wk : Nat → Int32) (hn : n ≤ 6) (hsg : ∀ i, i < n → sg i = some (sa i)) : CT l G yX3_begin wsX3_begin ({ frames := 0, cells := 0, slots := 0, locals := 0 }) [.ref (ad 3)] [[(ad 3, .inr (3, [.ref (ad 2), .ref (ad 13), .ref (ad 14), .int la, .int ub]))], [(ad 13, .inl (gI G, 6, .inl wh))], [(ad 14, .inl (gI G, 6, .inl wk))], [(ad 2, .inr (0, [.ref (ad 8), .ref (ad 9), .ref (ad 10), .ref (ad 11), .ref (ad 12), .int (nI n), .int lw]))], [(ad 8, .inl (gL G, 6, .inr (.inr (.inr (.inr sg)))))], fam n sa (slE kd sk br)] (dt none [[(ad 3, .inr (3, [.ref (ad 2), .ref (ad 13), .ref (ad 14), .int 0, .int 0]))], [(ad 13, .inl (gI G, 6, .inl (fa_fill (fun _ => 0) wh n)))], [(ad 14, .inl (gI G, 6, .inl (fa_fill sk wk n)))], [(ad 2, .inr (0, [.ref (ad 8), .ref (ad 9), .ref (ad 10), .ref (ad 11), .ref (ad 12), .int (nI n), .int lw]))], [(ad 8, .inl (gL G, 6, .inr (.inr (.inr (.inr sg)))))], fam n sa (slE kd sk br)]) := by
  refine CT.of (cc := cX3_begin) (nL := 2) (ret := none) (by decide) rfl (Nat.le_of_ble_eq_true rfl) ?_
  intro p e s m below meth c R args Q A hRm ha hQ hAe hA S hE hr hlk hnm H locs hH0 hL0 ls hl hw
  have S : CallFix p m c cX3_begin 2 s args wsX3_begin RX3 := S
  have hl : lv_has ls 2 [(0, .ref (ad 3))] := hl
  have hinX3 : ∀ w ∈ u_ws RX3 TX3 5, w ∈ wsX3_begin := by decide +kernel
  have hf25 := S.2.2.2.2 (.fieldLink RX3 25 "AwakeTurns$MonthWalk" "crew" "LAwakeTurns$Crew;") (by decide +kernel)
  have hinX0 : ∀ w ∈ u_ws RX0 TX0 7, w ∈ wsX3_begin := by decide +kernel
  have hf45 := S.2.2.2.2 (.fieldLink RX3 45 "AwakeTurns$Crew" "count" "I") (by decide +kernel)
  have hf18 := S.2.2.2.2 (.fieldLink RX3 18 "AwakeTurns$MonthWalk" "lacking" "I") (by decide +kernel)
  have hf22 := S.2.2.2.2 (.fieldLink RX3 22 "AwakeTurns$MonthWalk" "upBefore" "I") (by decide +kernel)
  have hf9 := S.2.2.2.2 (.fieldLink RX3 9 "AwakeTurns$MonthWalk" "harmSoFar" "[I") (by decide +kernel)
  have hf15 := S.2.2.2.2 (.fieldLink RX3 15 "AwakeTurns$MonthWalk" "known" "[I") (by decide +kernel)
  have hf48 := S.2.2.2.2 (.fieldLink RX3 48 "AwakeTurns$Crew" "sleepers" "[LAwakeTurns$Sleeper;") (by decide +kernel)
  have hinX8 : ∀ w ∈ u_ws RX8 TX8 3, w ∈ wsX3_begin := by decide +kernel
  have hinX1 : ∀ w ∈ u_ws RX1 TX1 3, w ∈ wsX3_begin := by decide +kernel
  have hinX5 : ∀ w ∈ u_ws RX5 TX5 3, w ∈ wsX3_begin := by decide +kernel
  have hf57 := S.2.2.2.2 (.fieldLink RX3 57 "AwakeTurns$Sleeper" "skillSet" "I") (by decide +kernel)
  refine lv_iconst (v := 0) S.1 S.2.1 dX3_begin_0 (by decide) ?_
  refine lv_istore_n (lv' := [(1, .int 0), (0, .ref (ad 3))]) S.1 S.2.1 dX3_begin_1 rfl hl (by decide) rfl (fun ls hl => ?_)
  have hw := aw_arr hw 1 rfl (fa_fill (fun _ => 0) wh 0) (fun _ _ => by rw [fa_fill_0])
  have hw : bW G A s.heap [[(ad 3, .inr (3, [.ref (ad 2), .ref (ad 13), .ref (ad 14), .int la, .int ub]))], [(ad 13, .inl (gI G, 6, .inl (fa_fill (fun _ => 0) wh 0)))], [(ad 14, .inl (gI G, 6, .inl wk))], [(ad 2, .inr (0, [.ref (ad 8), .ref (ad 9), .ref (ad 10), .ref (ad 11), .ref (ad 12), .int (nI n), .int lw]))], [(ad 8, .inl (gL G, 6, .inr (.inr (.inr (.inr sg)))))], fam n sa (slE kd sk br)] H locs := hw
  have hw := aw_arr hw 2 rfl (fa_fill sk wk 0) (fun _ _ => by rw [fa_fill_0])
  have hw : bW G A s.heap [[(ad 3, .inr (3, [.ref (ad 2), .ref (ad 13), .ref (ad 14), .int la, .int ub]))], [(ad 13, .inl (gI G, 6, .inl (fa_fill (fun _ => 0) wh 0)))], [(ad 14, .inl (gI G, 6, .inl (fa_fill sk wk 0)))], [(ad 2, .inr (0, [.ref (ad 8), .ref (ad 9), .ref (ad 10), .ref (ad 11), .ref (ad 12), .int (nI n), .int lw]))], [(ad 8, .inl (gL G, 6, .inr (.inr (.inr (.inr sg)))))], fam n sa (slE kd sk br)] H locs := hw
  have loop2 : ∀ (fu : Nat) (i : Nat), (i ≤ n) → (n - i) < fu → ∀ (ls : Array Slot) (H : Heap) (locs : List Loc), lv_has ls 2 [(0, .ref (ad 3)), (1, .int (nI i))] → bW G A s.heap [[(ad 3, .inr (3, [.ref (ad 2), .ref (ad 13), .ref (ad 14), .int la, .int ub]))], [(ad 13, .inl (gI G, 6, .inl (fa_fill (fun _ => 0) wh i)))], [(ad 14, .inl (gI G, 6, .inl (fa_fill sk wk i)))], [(ad 2, .inr (0, [.ref (ad 8), .ref (ad 9), .ref (ad 10), .ref (ad 11), .ref (ad 12), .int (nI n), .int lw]))], [(ad 8, .inl (gL G, 6, .inr (.inr (.inr (.inr sg)))))], fam n sa (slE kd sk br)] H locs → W p l e R s m args below meth c H locs 0 0 Q (F0 m 2 ls []) := by
    intro fu
    induction fu with
    | zero => intro i _ hm; exact absurd hm (Nat.not_lt_zero _)
    | succ fu ih2 =>
      intro i hi hm ls H locs hl hw
      refine lv_iload_n S.1 S.2.1 dX3_begin_2 rfl (lv_at hl 1 rfl) ?_
      refine lv_aload_n S.1 S.2.1 dX3_begin_3 rfl (lv_at hl 0 rfl) ?_
      refine aw_get S hE hw 0 (C := RX3) (T := TX3) (N := 5) rfl rfl hinX3 0 (by decide) hf25 rfl dX3_begin_4 ?_
      refine aw_get S hE hw 3 (C := RX0) (T := TX0) (N := 7) rfl rfl hinX0 5 (by decide) hf45 rfl dX3_begin_7 ?_
      refine aw_icmpN_ge (x := i) (y := n) (tgt := 44) S (by omega) (by omega) dX3_begin_10 (by decide) (fun c10 => ?_) (fun c10 => ?_)
      · have ex_i : i = n := by omega
        try rw [ex_i] at hl
        try rw [ex_i] at hw
        refine lv_aload_n S.1 S.2.1 dX3_begin_44 rfl (lv_at hl 0 rfl) ?_
        refine lv_iconst (v := 0) S.1 S.2.1 dX3_begin_45 (by decide) ?_
        refine aw_putf S hE hw 0 (C := RX3) (T := TX3) (N := 5) rfl rfl hinX3 tyX3 tyX3_ok nmX3 3 (by decide) hf18 rfl rfl rfl (Nat.le_of_ble_eq_true rfl) dX3_begin_46 (fun H locs hw => ?_)
        have hw : bW G A s.heap [[(ad 3, .inr (3, [.ref (ad 2), .ref (ad 13), .ref (ad 14), .int 0, .int ub]))], [(ad 13, .inl (gI G, 6, .inl (fa_fill (fun _ => 0) wh n)))], [(ad 14, .inl (gI G, 6, .inl (fa_fill sk wk n)))], [(ad 2, .inr (0, [.ref (ad 8), .ref (ad 9), .ref (ad 10), .ref (ad 11), .ref (ad 12), .int (nI n), .int lw]))], [(ad 8, .inl (gL G, 6, .inr (.inr (.inr (.inr sg)))))], fam n sa (slE kd sk br)] H locs := hw
        refine lv_aload_n S.1 S.2.1 dX3_begin_49 rfl (lv_at hl 0 rfl) ?_
        refine lv_iconst (v := 0) S.1 S.2.1 dX3_begin_50 (by decide) ?_
        refine aw_putf S hE hw 0 (C := RX3) (T := TX3) (N := 5) rfl rfl hinX3 tyX3 tyX3_ok nmX3 4 (by decide) hf22 rfl rfl rfl (Nat.le_of_ble_eq_true rfl) dX3_begin_51 (fun H locs hw => ?_)
        have hw : bW G A s.heap [[(ad 3, .inr (3, [.ref (ad 2), .ref (ad 13), .ref (ad 14), .int 0, .int 0]))], [(ad 13, .inl (gI G, 6, .inl (fa_fill (fun _ => 0) wh n)))], [(ad 14, .inl (gI G, 6, .inl (fa_fill sk wk n)))], [(ad 2, .inr (0, [.ref (ad 8), .ref (ad 9), .ref (ad 10), .ref (ad 11), .ref (ad 12), .int (nI n), .int lw]))], [(ad 8, .inl (gL G, 6, .inr (.inr (.inr (.inr sg)))))], fam n sa (slE kd sk br)] H locs := hw
        exact aw_vret S hr hlk ha hQ hAe hw dX3_begin_54 (Nat.le_of_ble_eq_true rfl) (Nat.le_of_ble_eq_true rfl) ⟨rfl, rfl⟩
      · refine lv_aload_n S.1 S.2.1 dX3_begin_13 rfl (lv_at hl 0 rfl) ?_
        refine aw_get S hE hw 0 (C := RX3) (T := TX3) (N := 5) rfl rfl hinX3 1 (by decide) hf9 rfl dX3_begin_14 ?_
        refine lv_iload_n S.1 S.2.1 dX3_begin_17 rfl (lv_at hl 1 rfl) ?_
        refine lv_iconst (v := 0) S.1 S.2.1 dX3_begin_18 (by decide) ?_
        refine aw_iast S hE hw 1 (k := i) rfl (by omega) (by decide) dX3_begin_19 (fun H locs hw => ?_)
        have hw : bW G A s.heap [[(ad 3, .inr (3, [.ref (ad 2), .ref (ad 13), .ref (ad 14), .int la, .int ub]))], [(ad 13, .inl (gI G, 6, .inl (upd (fa_fill (fun _ => 0) wh i) i 0)))], [(ad 14, .inl (gI G, 6, .inl (fa_fill sk wk i)))], [(ad 2, .inr (0, [.ref (ad 8), .ref (ad 9), .ref (ad 10), .ref (ad 11), .ref (ad 12), .int (nI n), .int lw]))], [(ad 8, .inl (gL G, 6, .inr (.inr (.inr (.inr sg)))))], fam n sa (slE kd sk br)] H locs := hw
        refine lv_aload_n S.1 S.2.1 dX3_begin_20 rfl (lv_at hl 0 rfl) ?_
        refine aw_get S hE hw 0 (C := RX3) (T := TX3) (N := 5) rfl rfl hinX3 2 (by decide) hf15 rfl dX3_begin_21 ?_
        refine lv_iload_n S.1 S.2.1 dX3_begin_24 rfl (lv_at hl 1 rfl) ?_
        refine lv_aload_n S.1 S.2.1 dX3_begin_25 rfl (lv_at hl 0 rfl) ?_
        refine aw_get S hE hw 0 (C := RX3) (T := TX3) (N := 5) rfl rfl hinX3 0 (by decide) hf25 rfl dX3_begin_26 ?_
        refine aw_get S hE hw 3 (C := RX0) (T := TX0) (N := 7) rfl rfl hinX0 0 (by decide) hf48 rfl dX3_begin_29 ?_
        refine lv_iload_n S.1 S.2.1 dX3_begin_32 rfl (lv_at hl 1 rfl) ?_
        refine aw_aald_L S hE hw 4 (k := i) (r := (sa i)) rfl (by omega) (by decide) (hsg i (by omega)) dX3_begin_33 ?_
        refine aw_slget S hE hw 5 (k := i) rfl (by omega) hinX8 hinX1 hinX5 1 (by decide) hf57 rfl dX3_begin_34 ?_
        refine aw_iast S hE hw 2 (k := i) rfl (by omega) (by decide) dX3_begin_37 (fun H locs hw => ?_)
        have hw : bW G A s.heap [[(ad 3, .inr (3, [.ref (ad 2), .ref (ad 13), .ref (ad 14), .int la, .int ub]))], [(ad 13, .inl (gI G, 6, .inl (upd (fa_fill (fun _ => 0) wh i) i 0)))], [(ad 14, .inl (gI G, 6, .inl (upd (fa_fill sk wk i) i (sk i))))], [(ad 2, .inr (0, [.ref (ad 8), .ref (ad 9), .ref (ad 10), .ref (ad 11), .ref (ad 12), .int (nI n), .int lw]))], [(ad 8, .inl (gL G, 6, .inr (.inr (.inr (.inr sg)))))], fam n sa (slE kd sk br)] H locs := hw
        refine lv_iinc (v := nI (i + 1)) (lv' := [(1, .int (nI (i + 1))), (0, .ref (ad 3))]) S.1 S.2.1 dX3_begin_38 hl (k := 1) rfl (by first | exact nI_1 _ | exact nI_add _ _ | rfl) (by decide) rfl (fun ls hl => ?_)
        refine lv_goto (tgt := 2) S.1 S.2.1 dX3_begin_41 (by decide) ?_
        have hw := aw_arr hw 1 rfl (fa_fill (fun _ => 0) wh (i + 1)) (fun _ _ => by rw [← fa_fill_succ])
        have hw : bW G A s.heap [[(ad 3, .inr (3, [.ref (ad 2), .ref (ad 13), .ref (ad 14), .int la, .int ub]))], [(ad 13, .inl (gI G, 6, .inl (fa_fill (fun _ => 0) wh (i + 1))))], [(ad 14, .inl (gI G, 6, .inl (upd (fa_fill sk wk i) i (sk i))))], [(ad 2, .inr (0, [.ref (ad 8), .ref (ad 9), .ref (ad 10), .ref (ad 11), .ref (ad 12), .int (nI n), .int lw]))], [(ad 8, .inl (gL G, 6, .inr (.inr (.inr (.inr sg)))))], fam n sa (slE kd sk br)] H locs := hw
        have hw := aw_arr hw 2 rfl (fa_fill sk wk (i + 1)) (fun _ _ => by rw [← fa_fill_succ])
        have hw : bW G A s.heap [[(ad 3, .inr (3, [.ref (ad 2), .ref (ad 13), .ref (ad 14), .int la, .int ub]))], [(ad 13, .inl (gI G, 6, .inl (fa_fill (fun _ => 0) wh (i + 1))))], [(ad 14, .inl (gI G, 6, .inl (fa_fill sk wk (i + 1))))], [(ad 2, .inr (0, [.ref (ad 8), .ref (ad 9), .ref (ad 10), .ref (ad 11), .ref (ad 12), .int (nI n), .int lw]))], [(ad 8, .inl (gL G, 6, .inr (.inr (.inr (.inr sg)))))], fam n sa (slE kd sk br)] H locs := hw
        exact ih2 (i + 1) (by first | assumption | omega) (by omega) _ _ _ (lv_sub hl [1, 0] rfl) hw
  exact loop2 _ 0 (by first | assumption | omega) (Nat.lt_succ_self _) _ _ _ (lv_sub hl [1, 0] rfl) hw
set_option maxRecDepth 100000 in
set_option maxHeartbeats 4000000 in
theorem c_X3_whoIsSpent (l : Launch) (G : aw_G) (ad : Nat → Nat) (n : Nat) (lw : Int32) (sg : Nat → Option Nat) (sa : Nat → Nat) (kd sk br : Nat → Int32) (la ub : Int32) (wh wk : Nat → Int32) (hn : n ≤ 6) (hsg : ∀ i, i < n → sg i = some (sa i)) : CT l G yX3_whoIsSpent wsX3_whoIsSpent ({ frames := 0, cells := 0, slots := 0, locals := 0 }) [.ref (ad 3)] [[(ad 3, .inr (3, [.ref (ad 2), .ref (ad 13), .ref (ad 14), .int la, .int ub]))], [(ad 13, .inl (gI G, 6, .inl wh))], [(ad 2, .inr (0, [.ref (ad 8), .ref (ad 9), .ref (ad 10), .ref (ad 11), .ref (ad 12), .int (nI n), .int lw]))], [(ad 8, .inl (gL G, 6, .inr (.inr (.inr (.inr sg)))))], fam n sa (slE kd sk br)] (dt (some (.int (spF n br wh))) [[(ad 3, .inr (3, [.ref (ad 2), .ref (ad 13), .ref (ad 14), .int la, .int ub]))], [(ad 13, .inl (gI G, 6, .inl wh))], [(ad 2, .inr (0, [.ref (ad 8), .ref (ad 9), .ref (ad 10), .ref (ad 11), .ref (ad 12), .int (nI n), .int lw]))], [(ad 8, .inl (gL G, 6, .inr (.inr (.inr (.inr sg)))))], fam n sa (slE kd sk br)]) := by
  refine CT.of (cc := cX3_whoIsSpent) (nL := 2) (ret := (some .int)) (by decide) rfl (Nat.le_of_ble_eq_true rfl) ?_
  intro p e s m below meth c R args Q A hRm ha hQ hAe hA S hE hr hlk hnm H locs hH0 hL0 ls hl hw
  have S : CallFix p m c cX3_whoIsSpent 2 s args wsX3_whoIsSpent RX3 := S
  have hl : lv_has ls 2 [(0, .ref (ad 3))] := hl
  have hinX3 : ∀ w ∈ u_ws RX3 TX3 5, w ∈ wsX3_whoIsSpent := by decide +kernel
  have hf25 := S.2.2.2.2 (.fieldLink RX3 25 "AwakeTurns$MonthWalk" "crew" "LAwakeTurns$Crew;") (by decide +kernel)
  have hinX0 : ∀ w ∈ u_ws RX0 TX0 7, w ∈ wsX3_whoIsSpent := by decide +kernel
  have hf45 := S.2.2.2.2 (.fieldLink RX3 45 "AwakeTurns$Crew" "count" "I") (by decide +kernel)
  have hf9 := S.2.2.2.2 (.fieldLink RX3 9 "AwakeTurns$MonthWalk" "harmSoFar" "[I") (by decide +kernel)
  have hf48 := S.2.2.2.2 (.fieldLink RX3 48 "AwakeTurns$Crew" "sleepers" "[LAwakeTurns$Sleeper;") (by decide +kernel)
  have hinX8 : ∀ w ∈ u_ws RX8 TX8 3, w ∈ wsX3_whoIsSpent := by decide +kernel
  have hinX1 : ∀ w ∈ u_ws RX1 TX1 3, w ∈ wsX3_whoIsSpent := by decide +kernel
  have hinX5 : ∀ w ∈ u_ws RX5 TX5 3, w ∈ wsX3_whoIsSpent := by decide +kernel
  have hf52 := S.2.2.2.2 (.fieldLink RX3 52 "AwakeTurns$Sleeper" "bears" "I") (by decide +kernel)
  refine lv_iconst (v := 0) S.1 S.2.1 dX3_whoIsSpent_0 (by decide) ?_
  refine lv_istore_n (lv' := [(1, .int 0), (0, .ref (ad 3))]) S.1 S.2.1 dX3_whoIsSpent_1 rfl hl (by decide) rfl (fun ls hl => ?_)
  have loop2 : ∀ (fu : Nat) (i : Nat), (i ≤ n) → (∀ j, j < i → spP br wh j = false) → (n - i) < fu → ∀ (ls : Array Slot) (H : Heap) (locs : List Loc), lv_has ls 2 [(0, .ref (ad 3)), (1, .int (nI i))] → bW G A s.heap [[(ad 3, .inr (3, [.ref (ad 2), .ref (ad 13), .ref (ad 14), .int la, .int ub]))], [(ad 13, .inl (gI G, 6, .inl wh))], [(ad 2, .inr (0, [.ref (ad 8), .ref (ad 9), .ref (ad 10), .ref (ad 11), .ref (ad 12), .int (nI n), .int lw]))], [(ad 8, .inl (gL G, 6, .inr (.inr (.inr (.inr sg)))))], fam n sa (slE kd sk br)] H locs → W p l e R s m args below meth c H locs 0 0 Q (F0 m 2 ls []) := by
    intro fu
    induction fu with
    | zero => intro i _ _ hm; exact absurd hm (Nat.not_lt_zero _)
    | succ fu ih2 =>
      intro i hi hp hm ls H locs hl hw
      refine lv_iload_n S.1 S.2.1 dX3_whoIsSpent_2 rfl (lv_at hl 1 rfl) ?_
      refine lv_aload_n S.1 S.2.1 dX3_whoIsSpent_3 rfl (lv_at hl 0 rfl) ?_
      refine aw_get S hE hw 0 (C := RX3) (T := TX3) (N := 5) rfl rfl hinX3 0 (by decide) hf25 rfl dX3_whoIsSpent_4 ?_
      refine aw_get S hE hw 2 (C := RX0) (T := TX0) (N := 7) rfl rfl hinX0 5 (by decide) hf45 rfl dX3_whoIsSpent_7 ?_
      refine aw_icmpN_ge (x := i) (y := n) (tgt := 42) S (by omega) (by omega) dX3_whoIsSpent_10 (by decide) (fun c10 => ?_) (fun c10 => ?_)
      · have ex_i : i = n := by omega
        refine lv_bipush (v := (-9)) S.1 S.2.1 dX3_whoIsSpent_42 (by decide) ?_
        refine aw_eqi (show ((-9) : Int32) = spF n br wh from (by unfold spF; rw [fF_none (fun j hj => hp j (by omega)), noI, if_neg (by omega)])) ?_
        exact aw_iret S hr hlk ha hQ hAe hw dX3_whoIsSpent_44 rfl (Nat.le_of_ble_eq_true rfl) (Nat.le_of_ble_eq_true rfl) ⟨rfl, rfl⟩
      · refine lv_aload_n S.1 S.2.1 dX3_whoIsSpent_13 rfl (lv_at hl 0 rfl) ?_
        refine aw_get S hE hw 0 (C := RX3) (T := TX3) (N := 5) rfl rfl hinX3 1 (by decide) hf9 rfl dX3_whoIsSpent_14 ?_
        refine lv_iload_n S.1 S.2.1 dX3_whoIsSpent_17 rfl (lv_at hl 1 rfl) ?_
        refine aw_iald S hE hw 1 (k := i) rfl (by omega) (by decide) dX3_whoIsSpent_18 ?_
        refine lv_aload_n S.1 S.2.1 dX3_whoIsSpent_19 rfl (lv_at hl 0 rfl) ?_
        refine aw_get S hE hw 0 (C := RX3) (T := TX3) (N := 5) rfl rfl hinX3 0 (by decide) hf25 rfl dX3_whoIsSpent_20 ?_
        refine aw_get S hE hw 2 (C := RX0) (T := TX0) (N := 7) rfl rfl hinX0 0 (by decide) hf48 rfl dX3_whoIsSpent_23 ?_
        refine lv_iload_n S.1 S.2.1 dX3_whoIsSpent_26 rfl (lv_at hl 1 rfl) ?_
        refine aw_aald_L S hE hw 3 (k := i) (r := (sa i)) rfl (by omega) (by decide) (hsg i (by omega)) dX3_whoIsSpent_27 ?_
        refine aw_slget S hE hw 4 (k := i) rfl (by omega) hinX8 hinX1 hinX5 2 (by decide) hf52 rfl dX3_whoIsSpent_28 ?_
        refine lv_icmp_le (tgt := 36) S.1 S.2.1 dX3_whoIsSpent_31 (by decide) (fun c31 => ?_) (fun c31 => ?_)
        · refine lv_iinc (v := nI (i + 1)) (lv' := [(1, .int (nI (i + 1))), (0, .ref (ad 3))]) S.1 S.2.1 dX3_whoIsSpent_36 hl (k := 1) rfl (by first | exact nI_1 _ | exact nI_add _ _ | rfl) (by decide) rfl (fun ls hl => ?_)
          refine lv_goto (tgt := 2) S.1 S.2.1 dX3_whoIsSpent_39 (by decide) ?_
          exact ih2 (i + 1) (by first | assumption | omega) (lt_s hp (by unfold spP; exact decide_eq_false (fun q => by rw [fa_le] at c31; rw [fa_lt] at q; omega))) (by omega) _ _ _ (lv_sub hl [1, 0] rfl) hw
        · refine lv_iload_n S.1 S.2.1 dX3_whoIsSpent_34 rfl (lv_at hl 1 rfl) ?_
          refine aw_eqi (show (nI i : Int32) = spF n br wh from (by unfold spF; rw [fF_is (k := i) (by omega) (by unfold spP; exact decide_eq_true (by rw [fa_le] at c31; rw [fa_lt]; omega)) hp, noI, if_pos (by omega)])) ?_
          exact aw_iret S hr hlk ha hQ hAe hw dX3_whoIsSpent_35 rfl (Nat.le_of_ble_eq_true rfl) (Nat.le_of_ble_eq_true rfl) ⟨rfl, rfl⟩
  exact loop2 _ 0 (by first | assumption | omega) (fun j hj => absurd hj (Nat.not_lt_zero j)) (Nat.lt_succ_self _) _ _ _ (lv_sub hl [1, 0] rfl) hw
set_option maxRecDepth 100000 in
set_option maxHeartbeats 4000000 in
theorem c_X3_enter (l : Launch) (G : aw_G) (ad : Nat → Nat) (n : Nat) (lw : Int32) (sg : Nat → Option Nat) (sa : Nat → Nat) (kd sk br : Nat → Int32) (la ub : Int32) (wh wk : Nat → Int32) (up wn : Int32) (hn : n ≤ 6) (hsg : ∀ i, i < n → sg i = some (sa i)) : CT l G yX3_enter wsX3_enter ({ frames := 4, cells := 0, slots := 0, locals := 82 }) [.ref (ad 3), .int up, .int wn] [[(ad 3, .inr (3, [.ref (ad 2), .ref (ad 13), .ref (ad 14), .int la, .int ub]))], [(ad 13, .inl (gI G, 6, .inl wh))], [(ad 14, .inl (gI G, 6, .inl wk))], [(ad 2, .inr (0, [.ref (ad 8), .ref (ad 9), .ref (ad 10), .ref (ad 11), .ref (ad 12), .int (nI n), .int lw]))], [(ad 8, .inl (gL G, 6, .inr (.inr (.inr (.inr sg)))))], fam n sa (slE kd sk br)] (dt none [[(ad 3, .inr (3, [.ref (ad 2), .ref (ad 13), .ref (ad 14), .int (wn &&& (tgF up (if lw = 1 then pwF (bt ub) (fun _ => tgF ub wk n) wk n else wk) n ^^^ (-1))), .int up]))], [(ad 13, .inl (gI G, 6, .inl (pwF (bt (up &&& (ub ^^^ (-1)))) (fun j => wh j + hoK (kd j)) wh n)))], [(ad 14, .inl (gI G, 6, .inl (if lw = 1 then pwF (bt ub) (fun _ => tgF ub wk n) wk n else wk)))], [(ad 2, .inr (0, [.ref (ad 8), .ref (ad 9), .ref (ad 10), .ref (ad 11), .ref (ad 12), .int (nI n), .int lw]))], [(ad 8, .inl (gL G, 6, .inr (.inr (.inr (.inr sg)))))], fam n sa (slE kd sk br)]) := by
  refine CT.of (cc := cX3_enter) (nL := 3) (ret := none) (by decide) rfl (Nat.le_of_ble_eq_true rfl) ?_
  intro p e s m below meth c R args Q A hRm ha hQ hAe hA S hE hr hlk hnm H locs hH0 hL0 ls hl hw
  have S : CallFix p m c cX3_enter 3 s args wsX3_enter RX3 := S
  have hl : lv_has ls 3 [(0, .ref (ad 3)), (1, .int up), (2, .int wn)] := hl
  have hinX3 : ∀ w ∈ u_ws RX3 TX3 5, w ∈ wsX3_enter := by decide +kernel
  have hf25 := S.2.2.2.2 (.fieldLink RX3 25 "AwakeTurns$MonthWalk" "crew" "LAwakeTurns$Crew;") (by decide +kernel)
  have hinX0 : ∀ w ∈ u_ws RX0 TX0 7, w ∈ wsX3_enter := by decide +kernel
  have hf60 := S.2.2.2.2 (.fieldLink RX3 60 "AwakeTurns$Crew" "lawNow" "I") (by decide +kernel)
  have hf22 := S.2.2.2.2 (.fieldLink RX3 22 "AwakeTurns$MonthWalk" "upBefore" "I") (by decide +kernel)
  have hf18 := S.2.2.2.2 (.fieldLink RX3 18 "AwakeTurns$MonthWalk" "lacking" "I") (by decide +kernel)
  refine lv_aload_n S.1 S.2.1 dX3_enter_0 rfl (lv_at hl 0 rfl) ?_
  refine aw_get S hE hw 0 (C := RX3) (T := TX3) (N := 5) rfl rfl hinX3 0 (by decide) hf25 rfl dX3_enter_1 ?_
  refine aw_get S hE hw 3 (C := RX0) (T := TX0) (N := 7) rfl rfl hinX0 6 (by decide) hf60 rfl dX3_enter_4 ?_
  refine lv_iconst (v := 1) S.1 S.2.1 dX3_enter_7 (by decide) ?_
  have join19 : ∀ (H : Heap) (locs : List Loc), ∀ (ls : Array Slot), lv_has ls 3 [(0, .ref (ad 3)), (1, .int up), (2, .int wn)] → bW G A s.heap [[(ad 3, .inr (3, [.ref (ad 2), .ref (ad 13), .ref (ad 14), .int la, .int ub]))], [(ad 13, .inl (gI G, 6, .inl wh))], [(ad 14, .inl (gI G, 6, .inl (if lw = 1 then pwF (bt ub) (fun _ => tgF ub wk n) wk n else wk)))], [(ad 2, .inr (0, [.ref (ad 8), .ref (ad 9), .ref (ad 10), .ref (ad 11), .ref (ad 12), .int (nI n), .int lw]))], [(ad 8, .inl (gL G, 6, .inr (.inr (.inr (.inr sg)))))], fam n sa (slE kd sk br)] H locs → W p l e R s m args below meth c H locs 0 0 Q (F0 m 19 ls []) := by
    intro  H locs ls hl hw
    refine lv_aload_n S.1 S.2.1 dX3_enter_19 rfl (lv_at hl 0 rfl) ?_
    refine lv_iload_n S.1 S.2.1 dX3_enter_20 rfl (lv_at hl 1 rfl) ?_
    refine lv_aload_n S.1 S.2.1 dX3_enter_21 rfl (lv_at hl 0 rfl) ?_
    refine aw_get S hE hw 0 (C := RX3) (T := TX3) (N := 5) rfl rfl hinX3 4 (by decide) hf22 rfl dX3_enter_22 ?_
    refine lv_iconst (v := (-1)) S.1 S.2.1 dX3_enter_25 (by decide) ?_
    refine lv_ixor S.1 S.2.1 dX3_enter_26 ?_
    refine lv_iand S.1 S.2.1 dX3_enter_27 ?_
    refine aw_callV S hE (c_X3_thaw l G ad n lw sg sa kd sk br la ub wh wk (up &&& (ub ^^^ (-1))) (by first | assumption | omega) (by first | assumption | omega)) gX3_enter_X3_thaw (n := 1) rfl (by decide +kernel) rfl (by rw [hRm]; exact ⟨Nat.le_of_ble_eq_true rfl, Nat.le_of_ble_eq_true rfl⟩) (by rw [hRm]; exact ⟨Nat.le_of_ble_eq_true rfl, Nat.le_of_ble_eq_true rfl⟩) hw hA hl.1 [0, 1, 3, 4, 5] rfl rfl (aw_recv (i := 0) hE hw rfl rfl rfl) rfl (Nat.le_of_ble_eq_true rfl) dX3_enter_28 ?_
    rintro v w1 H locs ⟨rfl, rfl⟩ hw
    have hw : bW G A s.heap [[(ad 3, .inr (3, [.ref (ad 2), .ref (ad 13), .ref (ad 14), .int la, .int ub]))], [(ad 13, .inl (gI G, 6, .inl (pwF (bt (up &&& (ub ^^^ (-1)))) (fun j => wh j + hoK (kd j)) wh n)))], [(ad 14, .inl (gI G, 6, .inl (if lw = 1 then pwF (bt ub) (fun _ => tgF ub wk n) wk n else wk)))], [(ad 2, .inr (0, [.ref (ad 8), .ref (ad 9), .ref (ad 10), .ref (ad 11), .ref (ad 12), .int (nI n), .int lw]))], [(ad 8, .inl (gL G, 6, .inr (.inr (.inr (.inr sg)))))], fam n sa (slE kd sk br)] H locs := hw
    refine W.eq (g2 := (F0 m 31 ls [])) rfl ?_
    refine lv_aload_n S.1 S.2.1 dX3_enter_31 rfl (lv_at hl 0 rfl) ?_
    refine lv_iload_n S.1 S.2.1 dX3_enter_32 rfl (lv_at hl 2 rfl) ?_
    refine lv_aload_n S.1 S.2.1 dX3_enter_33 rfl (lv_at hl 0 rfl) ?_
    refine lv_iload_n S.1 S.2.1 dX3_enter_34 rfl (lv_at hl 1 rfl) ?_
    refine aw_callV S hE (c_X3_knownBy l G ad n lw la ub (if lw = 1 then pwF (bt ub) (fun _ => tgF ub wk n) wk n else wk) up (by first | assumption | omega)) gX3_enter_X3_knownBy (n := 1) rfl (by decide +kernel) rfl (by rw [hRm]; exact ⟨Nat.le_of_ble_eq_true rfl, Nat.le_of_ble_eq_true rfl⟩) (by rw [hRm]; exact ⟨Nat.le_of_ble_eq_true rfl, Nat.le_of_ble_eq_true rfl⟩) hw hA hl.1 [0, 2, 3] rfl rfl (aw_recv (i := 0) hE hw rfl rfl rfl) rfl (Nat.le_of_ble_eq_true rfl) dX3_enter_35 ?_
    rintro v w1 H locs ⟨rfl, rfl⟩ hw
    have hw : bW G A s.heap [[(ad 3, .inr (3, [.ref (ad 2), .ref (ad 13), .ref (ad 14), .int la, .int ub]))], [(ad 13, .inl (gI G, 6, .inl (pwF (bt (up &&& (ub ^^^ (-1)))) (fun j => wh j + hoK (kd j)) wh n)))], [(ad 14, .inl (gI G, 6, .inl (if lw = 1 then pwF (bt ub) (fun _ => tgF ub wk n) wk n else wk)))], [(ad 2, .inr (0, [.ref (ad 8), .ref (ad 9), .ref (ad 10), .ref (ad 11), .ref (ad 12), .int (nI n), .int lw]))], [(ad 8, .inl (gL G, 6, .inr (.inr (.inr (.inr sg)))))], fam n sa (slE kd sk br)] H locs := hw
    refine W.eq (g2 := (F0 m 38 ls [.int (tgF up (if lw = 1 then pwF (bt ub) (fun _ => tgF ub wk n) wk n else wk) n), .int wn, .ref (ad 3)])) rfl ?_
    refine lv_iconst (v := (-1)) S.1 S.2.1 dX3_enter_38 (by decide) ?_
    refine lv_ixor S.1 S.2.1 dX3_enter_39 ?_
    refine lv_iand S.1 S.2.1 dX3_enter_40 ?_
    refine aw_putf S hE hw 0 (C := RX3) (T := TX3) (N := 5) rfl rfl hinX3 tyX3 tyX3_ok nmX3 3 (by decide) hf18 rfl rfl rfl (Nat.le_of_ble_eq_true rfl) dX3_enter_41 (fun H locs hw => ?_)
    have hw : bW G A s.heap [[(ad 3, .inr (3, [.ref (ad 2), .ref (ad 13), .ref (ad 14), .int (wn &&& ((tgF up (if lw = 1 then pwF (bt ub) (fun _ => tgF ub wk n) wk n else wk) n) ^^^ (-1))), .int ub]))], [(ad 13, .inl (gI G, 6, .inl (pwF (bt (up &&& (ub ^^^ (-1)))) (fun j => wh j + hoK (kd j)) wh n)))], [(ad 14, .inl (gI G, 6, .inl (if lw = 1 then pwF (bt ub) (fun _ => tgF ub wk n) wk n else wk)))], [(ad 2, .inr (0, [.ref (ad 8), .ref (ad 9), .ref (ad 10), .ref (ad 11), .ref (ad 12), .int (nI n), .int lw]))], [(ad 8, .inl (gL G, 6, .inr (.inr (.inr (.inr sg)))))], fam n sa (slE kd sk br)] H locs := hw
    refine lv_aload_n S.1 S.2.1 dX3_enter_44 rfl (lv_at hl 0 rfl) ?_
    refine lv_iload_n S.1 S.2.1 dX3_enter_45 rfl (lv_at hl 1 rfl) ?_
    refine aw_putf S hE hw 0 (C := RX3) (T := TX3) (N := 5) rfl rfl hinX3 tyX3 tyX3_ok nmX3 4 (by decide) hf22 rfl rfl rfl (Nat.le_of_ble_eq_true rfl) dX3_enter_46 (fun H locs hw => ?_)
    have hw : bW G A s.heap [[(ad 3, .inr (3, [.ref (ad 2), .ref (ad 13), .ref (ad 14), .int (wn &&& ((tgF up (if lw = 1 then pwF (bt ub) (fun _ => tgF ub wk n) wk n else wk) n) ^^^ (-1))), .int up]))], [(ad 13, .inl (gI G, 6, .inl (pwF (bt (up &&& (ub ^^^ (-1)))) (fun j => wh j + hoK (kd j)) wh n)))], [(ad 14, .inl (gI G, 6, .inl (if lw = 1 then pwF (bt ub) (fun _ => tgF ub wk n) wk n else wk)))], [(ad 2, .inr (0, [.ref (ad 8), .ref (ad 9), .ref (ad 10), .ref (ad 11), .ref (ad 12), .int (nI n), .int lw]))], [(ad 8, .inl (gL G, 6, .inr (.inr (.inr (.inr sg)))))], fam n sa (slE kd sk br)] H locs := hw
    exact aw_vret S hr hlk ha hQ hAe hw dX3_enter_49 (Nat.le_of_ble_eq_true rfl) (Nat.le_of_ble_eq_true rfl) ⟨rfl, rfl⟩
  refine lv_icmp_ne (tgt := 19) S.1 S.2.1 dX3_enter_8 (by decide) (fun c8 => ?_) (fun c8 => ?_)
  · have hw := aw_arr hw 2 rfl (if lw = 1 then pwF (bt ub) (fun _ => tgF ub wk n) wk n else wk) (fun _ _ => by simp [c8])
    have hw : bW G A s.heap [[(ad 3, .inr (3, [.ref (ad 2), .ref (ad 13), .ref (ad 14), .int la, .int ub]))], [(ad 13, .inl (gI G, 6, .inl wh))], [(ad 14, .inl (gI G, 6, .inl (if lw = 1 then pwF (bt ub) (fun _ => tgF ub wk n) wk n else wk)))], [(ad 2, .inr (0, [.ref (ad 8), .ref (ad 9), .ref (ad 10), .ref (ad 11), .ref (ad 12), .int (nI n), .int lw]))], [(ad 8, .inl (gL G, 6, .inr (.inr (.inr (.inr sg)))))], fam n sa (slE kd sk br)] H locs := hw
    exact join19  _ _ _ (lv_sub hl [0, 1, 2] rfl) hw
  · refine lv_aload_n S.1 S.2.1 dX3_enter_11 rfl (lv_at hl 0 rfl) ?_
    refine lv_aload_n S.1 S.2.1 dX3_enter_12 rfl (lv_at hl 0 rfl) ?_
    refine aw_get S hE hw 0 (C := RX3) (T := TX3) (N := 5) rfl rfl hinX3 4 (by decide) hf22 rfl dX3_enter_13 ?_
    refine aw_callV S hE (c_X3_teachEachOther l G ad n lw la ub wk ub (by first | assumption | omega)) gX3_enter_X3_teachEachOther (n := 1) rfl (by decide +kernel) rfl (by rw [hRm]; exact ⟨Nat.le_of_ble_eq_true rfl, Nat.le_of_ble_eq_true rfl⟩) (by rw [hRm]; exact ⟨Nat.le_of_ble_eq_true rfl, Nat.le_of_ble_eq_true rfl⟩) hw hA hl.1 [0, 2, 3] rfl rfl (aw_recv (i := 0) hE hw rfl rfl rfl) rfl (Nat.le_of_ble_eq_true rfl) dX3_enter_16 ?_
    rintro v w1 H locs ⟨rfl, rfl⟩ hw
    have hw : bW G A s.heap [[(ad 3, .inr (3, [.ref (ad 2), .ref (ad 13), .ref (ad 14), .int la, .int ub]))], [(ad 13, .inl (gI G, 6, .inl wh))], [(ad 14, .inl (gI G, 6, .inl (pwF (bt ub) (fun _ => tgF ub wk n) wk n)))], [(ad 2, .inr (0, [.ref (ad 8), .ref (ad 9), .ref (ad 10), .ref (ad 11), .ref (ad 12), .int (nI n), .int lw]))], [(ad 8, .inl (gL G, 6, .inr (.inr (.inr (.inr sg)))))], fam n sa (slE kd sk br)] H locs := hw
    refine W.eq (g2 := (F0 m 19 ls [])) rfl ?_
    have hw := aw_arr hw 2 rfl (if lw = 1 then pwF (bt ub) (fun _ => tgF ub wk n) wk n else wk) (fun _ _ => by simp [c8])
    have hw : bW G A s.heap [[(ad 3, .inr (3, [.ref (ad 2), .ref (ad 13), .ref (ad 14), .int la, .int ub]))], [(ad 13, .inl (gI G, 6, .inl wh))], [(ad 14, .inl (gI G, 6, .inl (if lw = 1 then pwF (bt ub) (fun _ => tgF ub wk n) wk n else wk)))], [(ad 2, .inr (0, [.ref (ad 8), .ref (ad 9), .ref (ad 10), .ref (ad 11), .ref (ad 12), .int (nI n), .int lw]))], [(ad 8, .inl (gL G, 6, .inr (.inr (.inr (.inr sg)))))], fam n sa (slE kd sk br)] H locs := hw
    exact join19  _ _ _ (lv_sub hl [0, 1, 2] rfl) hw
set_option maxRecDepth 100000 in
set_option maxHeartbeats 4000000 in
theorem c_X3_goTo (l : Launch) (G : aw_G) (ad : Nat → Nat) (n : Nat) (lw : Int32) (sg : Nat → Option Nat) (sa : Nat → Nat) (kd sk br : Nat → Int32) (la ub : Int32) (wh wk : Nat → Int32) (at_ : Nat) (tf wa : Nat → Int32) (mo : Nat) (hn : n ≤ 6) (hsg : ∀ i, i < n → sg i = some (sa i)) (hmo : mo < 12) : CT l G yX3_goTo wsX3_goTo ({ frames := 5, cells := 0, slots := 0, locals := 104 }) [.ref (ad 3), .ref at_, .int (nI mo)] [[(ad 3, .inr (3, [.ref (ad 2), .ref (ad 13), .ref (ad 14), .int la, .int ub]))], [(ad 13, .inl (gI G, 6, .inl wh))], [(ad 14, .inl (gI G, 6, .inl wk))], [(ad 2, .inr (0, [.ref (ad 8), .ref (ad 9), .ref (ad 10), .ref (ad 11), .ref (ad 12), .int (nI n), .int lw]))], [(ad 8, .inl (gL G, 6, .inr (.inr (.inr (.inr sg)))))], fam n sa (slE kd sk br), [(at_, .inl (gI G, 12, .inl tf))], [(ad 10, .inl (gI G, 12, .inl wa))]] (dt none [[(ad 3, .inr (3, [.ref (ad 2), .ref (ad 13), .ref (ad 14), .int (laB n lw sk tf wa (mo + 1)), .int (uB tf (mo + 1))]))], [(ad 13, .inl (gI G, 6, .inl (fa_fill (hB n (fun j => hoK (kd j)) tf (mo + 1)) wh n)))], [(ad 14, .inl (gI G, 6, .inl (fa_fill (kA n lw sk tf (mo + 1 - 1)) wk n)))], [(ad 2, .inr (0, [.ref (ad 8), .ref (ad 9), .ref (ad 10), .ref (ad 11), .ref (ad 12), .int (nI n), .int lw]))], [(ad 8, .inl (gL G, 6, .inr (.inr (.inr (.inr sg)))))], fam n sa (slE kd sk br), [(at_, .inl (gI G, 12, .inl tf))], [(ad 10, .inl (gI G, 12, .inl wa))]]) := by
  refine CT.of (cc := cX3_goTo) (nL := 4) (ret := none) (by decide) rfl (Nat.le_of_ble_eq_true rfl) ?_
  intro p e s m below meth c R args Q A hRm ha hQ hAe hA S hE hr hlk hnm H locs hH0 hL0 ls hl hw
  have S : CallFix p m c cX3_goTo 4 s args wsX3_goTo RX3 := S
  have hl : lv_has ls 4 [(0, .ref (ad 3)), (1, .ref at_), (2, .int (nI mo))] := hl
  have hinX3 : ∀ w ∈ u_ws RX3 TX3 5, w ∈ wsX3_goTo := by decide +kernel
  have hf25 := S.2.2.2.2 (.fieldLink RX3 25 "AwakeTurns$MonthWalk" "crew" "LAwakeTurns$Crew;") (by decide +kernel)
  have hinX0 : ∀ w ∈ u_ws RX0 TX0 7, w ∈ wsX3_goTo := by decide +kernel
  have hf32 := S.2.2.2.2 (.fieldLink RX3 32 "AwakeTurns$Crew" "wanted" "[I") (by decide +kernel)
  refine lv_aload_n S.1 S.2.1 dX3_goTo_0 rfl (lv_at hl 0 rfl) ?_
  refine aw_callV S hE (c_X3_begin l G ad n lw sg sa kd sk br la ub wh wk (by first | assumption | omega) (by first | assumption | omega)) gX3_goTo_X3_begin (n := 0) rfl (by decide +kernel) rfl (by rw [hRm]; exact ⟨Nat.le_of_ble_eq_true rfl, Nat.le_of_ble_eq_true rfl⟩) (by rw [hRm]; exact ⟨Nat.le_of_ble_eq_true rfl, Nat.le_of_ble_eq_true rfl⟩) hw hA hl.1 [0, 1, 2, 3, 4, 5] rfl rfl (aw_recv (i := 0) hE hw rfl rfl rfl) rfl (Nat.le_of_ble_eq_true rfl) dX3_goTo_1 ?_
  rintro v w1 H locs ⟨rfl, rfl⟩ hw
  have hw : bW G A s.heap [[(ad 3, .inr (3, [.ref (ad 2), .ref (ad 13), .ref (ad 14), .int 0, .int 0]))], [(ad 13, .inl (gI G, 6, .inl (fa_fill (fun _ => 0) wh n)))], [(ad 14, .inl (gI G, 6, .inl (fa_fill sk wk n)))], [(ad 2, .inr (0, [.ref (ad 8), .ref (ad 9), .ref (ad 10), .ref (ad 11), .ref (ad 12), .int (nI n), .int lw]))], [(ad 8, .inl (gL G, 6, .inr (.inr (.inr (.inr sg)))))], fam n sa (slE kd sk br), [(at_, .inl (gI G, 12, .inl tf))], [(ad 10, .inl (gI G, 12, .inl wa))]] H locs := hw
  refine W.eq (g2 := (F0 m 4 ls [])) rfl ?_
  refine lv_iconst (v := 0) S.1 S.2.1 dX3_goTo_4 (by decide) ?_
  refine lv_istore_n (lv' := [(3, .int 0), (0, .ref (ad 3)), (1, .ref at_), (2, .int (nI mo))]) S.1 S.2.1 dX3_goTo_5 rfl hl (by decide) rfl (fun ls hl => ?_)
  have hw := aw_arr hw 1 rfl (fa_fill (hB n (fun j => hoK (kd j)) tf 0) wh n) (fun _ _ => rfl)
  have hw : bW G A s.heap [[(ad 3, .inr (3, [.ref (ad 2), .ref (ad 13), .ref (ad 14), .int 0, .int 0]))], [(ad 13, .inl (gI G, 6, .inl (fa_fill (hB n (fun j => hoK (kd j)) tf 0) wh n)))], [(ad 14, .inl (gI G, 6, .inl (fa_fill sk wk n)))], [(ad 2, .inr (0, [.ref (ad 8), .ref (ad 9), .ref (ad 10), .ref (ad 11), .ref (ad 12), .int (nI n), .int lw]))], [(ad 8, .inl (gL G, 6, .inr (.inr (.inr (.inr sg)))))], fam n sa (slE kd sk br), [(at_, .inl (gI G, 12, .inl tf))], [(ad 10, .inl (gI G, 12, .inl wa))]] H locs := hw
  have hw := aw_arr hw 2 rfl (fa_fill (kA n lw sk tf (0 - 1)) wk n) (fun _ _ => rfl)
  have hw : bW G A s.heap [[(ad 3, .inr (3, [.ref (ad 2), .ref (ad 13), .ref (ad 14), .int 0, .int 0]))], [(ad 13, .inl (gI G, 6, .inl (fa_fill (hB n (fun j => hoK (kd j)) tf 0) wh n)))], [(ad 14, .inl (gI G, 6, .inl (fa_fill (kA n lw sk tf (0 - 1)) wk n)))], [(ad 2, .inr (0, [.ref (ad 8), .ref (ad 9), .ref (ad 10), .ref (ad 11), .ref (ad 12), .int (nI n), .int lw]))], [(ad 8, .inl (gL G, 6, .inr (.inr (.inr (.inr sg)))))], fam n sa (slE kd sk br), [(at_, .inl (gI G, 12, .inl tf))], [(ad 10, .inl (gI G, 12, .inl wa))]] H locs := hw
  have loop6 : ∀ (fu : Nat) (i : Nat), (i ≤ mo + 1) → (mo + 1 - i) < fu → ∀ (ls : Array Slot) (H : Heap) (locs : List Loc), lv_has ls 4 [(0, .ref (ad 3)), (1, .ref at_), (2, .int (nI mo)), (3, .int (nI i))] → bW G A s.heap [[(ad 3, .inr (3, [.ref (ad 2), .ref (ad 13), .ref (ad 14), .int (laB n lw sk tf wa i), .int (uB tf i)]))], [(ad 13, .inl (gI G, 6, .inl (fa_fill (hB n (fun j => hoK (kd j)) tf i) wh n)))], [(ad 14, .inl (gI G, 6, .inl (fa_fill (kA n lw sk tf (i - 1)) wk n)))], [(ad 2, .inr (0, [.ref (ad 8), .ref (ad 9), .ref (ad 10), .ref (ad 11), .ref (ad 12), .int (nI n), .int lw]))], [(ad 8, .inl (gL G, 6, .inr (.inr (.inr (.inr sg)))))], fam n sa (slE kd sk br), [(at_, .inl (gI G, 12, .inl tf))], [(ad 10, .inl (gI G, 12, .inl wa))]] H locs → W p l e R s m args below meth c H locs 0 0 Q (F0 m 6 ls []) := by
    intro fu
    induction fu with
    | zero => intro i _ hm; exact absurd hm (Nat.not_lt_zero _)
    | succ fu ih6 =>
      intro i hi hm ls H locs hl hw
      refine lv_iload_n S.1 S.2.1 dX3_goTo_6 rfl (lv_at hl 3 rfl) ?_
      refine lv_iload_n S.1 S.2.1 dX3_goTo_7 rfl (lv_at hl 2 rfl) ?_
      refine aw_icmpN_gt (x := i) (y := mo) (tgt := 33) S (by omega) (by omega) dX3_goTo_8 (by decide) (fun c8 => ?_) (fun c8 => ?_)
      · have ex_i : i = mo + 1 := by omega
        try rw [ex_i] at hl
        try rw [ex_i] at hw
        have hw := aw_arr hw 2 rfl (fa_fill (kA n lw sk tf (mo + 1 - 1)) wk n) (fun _ _ => rfl)
        have hw : bW G A s.heap [[(ad 3, .inr (3, [.ref (ad 2), .ref (ad 13), .ref (ad 14), .int (laB n lw sk tf wa (mo + 1)), .int (uB tf (mo + 1))]))], [(ad 13, .inl (gI G, 6, .inl (fa_fill (hB n (fun j => hoK (kd j)) tf (mo + 1)) wh n)))], [(ad 14, .inl (gI G, 6, .inl (fa_fill (kA n lw sk tf (mo + 1 - 1)) wk n)))], [(ad 2, .inr (0, [.ref (ad 8), .ref (ad 9), .ref (ad 10), .ref (ad 11), .ref (ad 12), .int (nI n), .int lw]))], [(ad 8, .inl (gL G, 6, .inr (.inr (.inr (.inr sg)))))], fam n sa (slE kd sk br), [(at_, .inl (gI G, 12, .inl tf))], [(ad 10, .inl (gI G, 12, .inl wa))]] H locs := hw
        exact aw_vret S hr hlk ha hQ hAe hw dX3_goTo_33 (Nat.le_of_ble_eq_true rfl) (Nat.le_of_ble_eq_true rfl) ⟨rfl, rfl⟩
      · refine lv_aload_n S.1 S.2.1 dX3_goTo_11 rfl (lv_at hl 0 rfl) ?_
        refine lv_aload_n S.1 S.2.1 dX3_goTo_12 rfl (lv_at hl 1 rfl) ?_
        refine lv_iload_n S.1 S.2.1 dX3_goTo_13 rfl (lv_at hl 3 rfl) ?_
        refine aw_iald S hE hw 6 (k := i) rfl (by omega) (by decide) dX3_goTo_14 ?_
        refine lv_aload_n S.1 S.2.1 dX3_goTo_15 rfl (lv_at hl 0 rfl) ?_
        refine aw_get S hE hw 0 (C := RX3) (T := TX3) (N := 5) rfl rfl hinX3 0 (by decide) hf25 rfl dX3_goTo_16 ?_
        refine aw_get S hE hw 3 (C := RX0) (T := TX0) (N := 7) rfl rfl hinX0 2 (by decide) hf32 rfl dX3_goTo_19 ?_
        refine lv_iload_n S.1 S.2.1 dX3_goTo_22 rfl (lv_at hl 3 rfl) ?_
        refine aw_iald S hE hw 7 (k := i) rfl (by omega) (by decide) dX3_goTo_23 ?_
        refine aw_callV S hE (c_X3_enter l G ad n lw sg sa kd sk br (laB n lw sk tf wa i) (uB tf i) (fa_fill (hB n (fun j => hoK (kd j)) tf i) wh n) (fa_fill (kA n lw sk tf (i - 1)) wk n) (tf i) (wa i) (by first | assumption | omega) (by first | assumption | omega)) gX3_goTo_X3_enter (n := 2) rfl (by decide +kernel) rfl (by rw [hRm]; exact ⟨Nat.le_of_ble_eq_true rfl, Nat.le_of_ble_eq_true rfl⟩) (by rw [hRm]; exact ⟨Nat.le_of_ble_eq_true rfl, Nat.le_of_ble_eq_true rfl⟩) hw hA hl.1 [0, 1, 2, 3, 4, 5] rfl rfl (aw_recv (i := 0) hE hw rfl rfl rfl) rfl (Nat.le_of_ble_eq_true rfl) dX3_goTo_24 ?_
        rintro v w1 H locs ⟨rfl, rfl⟩ hw
        have hw : bW G A s.heap [[(ad 3, .inr (3, [.ref (ad 2), .ref (ad 13), .ref (ad 14), .int ((wa i) &&& (tgF (tf i) (if lw = 1 then pwF (bt (uB tf i)) (fun _ => tgF (uB tf i) (fa_fill (kA n lw sk tf (i - 1)) wk n) n) (fa_fill (kA n lw sk tf (i - 1)) wk n) n else (fa_fill (kA n lw sk tf (i - 1)) wk n)) n ^^^ (-1))), .int (tf i)]))], [(ad 13, .inl (gI G, 6, .inl (pwF (bt ((tf i) &&& ((uB tf i) ^^^ (-1)))) (fun j => (fa_fill (hB n (fun j => hoK (kd j)) tf i) wh n) j + hoK (kd j)) (fa_fill (hB n (fun j => hoK (kd j)) tf i) wh n) n)))], [(ad 14, .inl (gI G, 6, .inl (if lw = 1 then pwF (bt (uB tf i)) (fun _ => tgF (uB tf i) (fa_fill (kA n lw sk tf (i - 1)) wk n) n) (fa_fill (kA n lw sk tf (i - 1)) wk n) n else (fa_fill (kA n lw sk tf (i - 1)) wk n))))], [(ad 2, .inr (0, [.ref (ad 8), .ref (ad 9), .ref (ad 10), .ref (ad 11), .ref (ad 12), .int (nI n), .int lw]))], [(ad 8, .inl (gL G, 6, .inr (.inr (.inr (.inr sg)))))], fam n sa (slE kd sk br), [(at_, .inl (gI G, 12, .inl tf))], [(ad 10, .inl (gI G, 12, .inl wa))]] H locs := hw
        refine W.eq (g2 := (F0 m 27 ls [])) rfl ?_
        refine lv_iinc (v := nI (i + 1)) (lv' := [(3, .int (nI (i + 1))), (0, .ref (ad 3)), (1, .ref at_), (2, .int (nI mo))]) S.1 S.2.1 dX3_goTo_27 hl (k := 3) rfl (by first | exact nI_1 _ | exact nI_add _ _ | rfl) (by decide) rfl (fun ls hl => ?_)
        refine lv_goto (tgt := 6) S.1 S.2.1 dX3_goTo_30 (by decide) ?_
        have hw := Eq.mp (congrArg (fun z_ : Int32 => bW G A s.heap [[(ad 3, .inr (3, [.ref (ad 2), .ref (ad 13), .ref (ad 14), .int z_, .int (tf i)]))], [(ad 13, .inl (gI G, 6, .inl (pwF (bt ((tf i) &&& ((uB tf i) ^^^ (-1)))) (fun j => (fa_fill (hB n (fun j => hoK (kd j)) tf i) wh n) j + hoK (kd j)) (fa_fill (hB n (fun j => hoK (kd j)) tf i) wh n) n)))], [(ad 14, .inl (gI G, 6, .inl (if lw = 1 then pwF (bt (uB tf i)) (fun _ => tgF (uB tf i) (fa_fill (kA n lw sk tf (i - 1)) wk n) n) (fa_fill (kA n lw sk tf (i - 1)) wk n) n else (fa_fill (kA n lw sk tf (i - 1)) wk n))))], [(ad 2, .inr (0, [.ref (ad 8), .ref (ad 9), .ref (ad 10), .ref (ad 11), .ref (ad 12), .int (nI n), .int lw]))], [(ad 8, .inl (gL G, 6, .inr (.inr (.inr (.inr sg)))))], fam n sa (slE kd sk br), [(at_, .inl (gI G, 12, .inl tf))], [(ad 10, .inl (gI G, 12, .inl wa))]] H locs) (show ((wa i) &&& (tgF (tf i) (if lw = 1 then pwF (bt (uB tf i)) (fun _ => tgF (uB tf i) (fa_fill (kA n lw sk tf (i - 1)) wk n) n) (fa_fill (kA n lw sk tf (i - 1)) wk n) n else (fa_fill (kA n lw sk tf (i - 1)) wk n)) n ^^^ (-1)) : Int32) = laB n lw sk tf wa (i + 1) from (by rw [en_wk]; exact en_la))) hw
        have hw : bW G A s.heap [[(ad 3, .inr (3, [.ref (ad 2), .ref (ad 13), .ref (ad 14), .int (laB n lw sk tf wa (i + 1)), .int (tf i)]))], [(ad 13, .inl (gI G, 6, .inl (pwF (bt ((tf i) &&& ((uB tf i) ^^^ (-1)))) (fun j => (fa_fill (hB n (fun j => hoK (kd j)) tf i) wh n) j + hoK (kd j)) (fa_fill (hB n (fun j => hoK (kd j)) tf i) wh n) n)))], [(ad 14, .inl (gI G, 6, .inl (if lw = 1 then pwF (bt (uB tf i)) (fun _ => tgF (uB tf i) (fa_fill (kA n lw sk tf (i - 1)) wk n) n) (fa_fill (kA n lw sk tf (i - 1)) wk n) n else (fa_fill (kA n lw sk tf (i - 1)) wk n))))], [(ad 2, .inr (0, [.ref (ad 8), .ref (ad 9), .ref (ad 10), .ref (ad 11), .ref (ad 12), .int (nI n), .int lw]))], [(ad 8, .inl (gL G, 6, .inr (.inr (.inr (.inr sg)))))], fam n sa (slE kd sk br), [(at_, .inl (gI G, 12, .inl tf))], [(ad 10, .inl (gI G, 12, .inl wa))]] H locs := hw
        have hw := aw_arr hw 2 rfl (fa_fill (kA n lw sk tf ((i + 1) - 1)) wk n) (fun _ _ => by rw [en_wk]; rfl)
        have hw : bW G A s.heap [[(ad 3, .inr (3, [.ref (ad 2), .ref (ad 13), .ref (ad 14), .int (laB n lw sk tf wa (i + 1)), .int (tf i)]))], [(ad 13, .inl (gI G, 6, .inl (pwF (bt ((tf i) &&& ((uB tf i) ^^^ (-1)))) (fun j => (fa_fill (hB n (fun j => hoK (kd j)) tf i) wh n) j + hoK (kd j)) (fa_fill (hB n (fun j => hoK (kd j)) tf i) wh n) n)))], [(ad 14, .inl (gI G, 6, .inl (fa_fill (kA n lw sk tf ((i + 1) - 1)) wk n)))], [(ad 2, .inr (0, [.ref (ad 8), .ref (ad 9), .ref (ad 10), .ref (ad 11), .ref (ad 12), .int (nI n), .int lw]))], [(ad 8, .inl (gL G, 6, .inr (.inr (.inr (.inr sg)))))], fam n sa (slE kd sk br), [(at_, .inl (gI G, 12, .inl tf))], [(ad 10, .inl (gI G, 12, .inl wa))]] H locs := hw
        have hw := aw_arr hw 1 rfl (fa_fill (hB n (fun j => hoK (kd j)) tf (i + 1)) wh n) (fun _ _ => by rw [en_wh])
        have hw : bW G A s.heap [[(ad 3, .inr (3, [.ref (ad 2), .ref (ad 13), .ref (ad 14), .int (laB n lw sk tf wa (i + 1)), .int (tf i)]))], [(ad 13, .inl (gI G, 6, .inl (fa_fill (hB n (fun j => hoK (kd j)) tf (i + 1)) wh n)))], [(ad 14, .inl (gI G, 6, .inl (fa_fill (kA n lw sk tf ((i + 1) - 1)) wk n)))], [(ad 2, .inr (0, [.ref (ad 8), .ref (ad 9), .ref (ad 10), .ref (ad 11), .ref (ad 12), .int (nI n), .int lw]))], [(ad 8, .inl (gL G, 6, .inr (.inr (.inr (.inr sg)))))], fam n sa (slE kd sk br), [(at_, .inl (gI G, 12, .inl tf))], [(ad 10, .inl (gI G, 12, .inl wa))]] H locs := hw
        exact ih6 (i + 1) (by first | assumption | omega) (by omega) _ _ _ (lv_sub hl [1, 2, 3, 0] rfl) hw
  exact loop6 _ 0 (by first | assumption | omega) (Nat.lt_succ_self _) _ _ _ (lv_sub hl [1, 2, 3, 0] rfl) hw
set_option maxRecDepth 100000 in
set_option maxHeartbeats 4000000 in
theorem c_X3_firstWrong (l : Launch) (G : aw_G) (ad : Nat → Nat) (n : Nat) (lw : Int32) (sg : Nat → Option Nat) (sa : Nat → Nat) (kd sk br : Nat → Int32) (la ub : Int32) (wh wk : Nat → Int32) (at_ : Nat) (tf wa : Nat → Int32) (mm : Nat) (ol os : Bool) (hn : n ≤ 6) (hsg : ∀ i, i < n → sg i = some (sa i)) (hmo : mm ≤ 12) : CT l G yX3_firstWrong wsX3_firstWrong ({ frames := 5, cells := 0, slots := 0, locals := 104 }) [.ref (ad 3), .ref at_, .int (nI mm), .int (if ol = true then 1 else 0), .int (if os = true then 1 else 0)] [[(ad 3, .inr (3, [.ref (ad 2), .ref (ad 13), .ref (ad 14), .int la, .int ub]))], [(ad 13, .inl (gI G, 6, .inl wh))], [(ad 14, .inl (gI G, 6, .inl wk))], [(ad 2, .inr (0, [.ref (ad 8), .ref (ad 9), .ref (ad 10), .ref (ad 11), .ref (ad 12), .int (nI n), .int lw]))], [(ad 8, .inl (gL G, 6, .inr (.inr (.inr (.inr sg)))))], fam n sa (slE kd sk br), [(at_, .inl (gI G, 12, .inl tf))], [(ad 10, .inl (gI G, 12, .inl wa))]] (dt (some (.int (noI (fwF n lw sk (fun j => hoK (kd j)) br tf wa mm ol os) mm))) [[(ad 3, .inr (3, [.ref (ad 2), .ref (ad 13), .ref (ad 14), .int (laB n lw sk tf wa (min (fwF n lw sk (fun j => hoK (kd j)) br tf wa mm ol os + 1) mm)), .int (uB tf (min (fwF n lw sk (fun j => hoK (kd j)) br tf wa mm ol os + 1) mm))]))], [(ad 13, .inl (gI G, 6, .inl (fa_fill (hB n (fun j => hoK (kd j)) tf (min (fwF n lw sk (fun j => hoK (kd j)) br tf wa mm ol os + 1) mm)) wh n)))], [(ad 14, .inl (gI G, 6, .inl (fa_fill (kA n lw sk tf ((min (fwF n lw sk (fun j => hoK (kd j)) br tf wa mm ol os + 1) mm) - 1)) wk n)))], [(ad 2, .inr (0, [.ref (ad 8), .ref (ad 9), .ref (ad 10), .ref (ad 11), .ref (ad 12), .int (nI n), .int lw]))], [(ad 8, .inl (gL G, 6, .inr (.inr (.inr (.inr sg)))))], fam n sa (slE kd sk br), [(at_, .inl (gI G, 12, .inl tf))], [(ad 10, .inl (gI G, 12, .inl wa))]]) := by
  refine CT.of (cc := cX3_firstWrong) (nL := 6) (ret := (some .int)) (by decide) rfl (Nat.le_of_ble_eq_true rfl) ?_
  intro p e s m below meth c R args Q A hRm ha hQ hAe hA S hE hr hlk hnm H locs hH0 hL0 ls hl hw
  have S : CallFix p m c cX3_firstWrong 6 s args wsX3_firstWrong RX3 := S
  have hl : lv_has ls 6 [(0, .ref (ad 3)), (1, .ref at_), (2, .int (nI mm)), (3, .int (if ol = true then 1 else 0)), (4, .int (if os = true then 1 else 0))] := hl
  have hinX3 : ∀ w ∈ u_ws RX3 TX3 5, w ∈ wsX3_firstWrong := by decide +kernel
  have hf25 := S.2.2.2.2 (.fieldLink RX3 25 "AwakeTurns$MonthWalk" "crew" "LAwakeTurns$Crew;") (by decide +kernel)
  have hinX0 : ∀ w ∈ u_ws RX0 TX0 7, w ∈ wsX3_firstWrong := by decide +kernel
  have hf32 := S.2.2.2.2 (.fieldLink RX3 32 "AwakeTurns$Crew" "wanted" "[I") (by decide +kernel)
  have hf18 := S.2.2.2.2 (.fieldLink RX3 18 "AwakeTurns$MonthWalk" "lacking" "I") (by decide +kernel)
  refine lv_aload_n S.1 S.2.1 dX3_firstWrong_0 rfl (lv_at hl 0 rfl) ?_
  refine aw_callV S hE (c_X3_begin l G ad n lw sg sa kd sk br la ub wh wk (by first | assumption | omega) (by first | assumption | omega)) gX3_firstWrong_X3_begin (n := 0) rfl (by decide +kernel) rfl (by rw [hRm]; exact ⟨Nat.le_of_ble_eq_true rfl, Nat.le_of_ble_eq_true rfl⟩) (by rw [hRm]; exact ⟨Nat.le_of_ble_eq_true rfl, Nat.le_of_ble_eq_true rfl⟩) hw hA hl.1 [0, 1, 2, 3, 4, 5] rfl rfl (aw_recv (i := 0) hE hw rfl rfl rfl) rfl (Nat.le_of_ble_eq_true rfl) dX3_firstWrong_1 ?_
  rintro v w1 H locs ⟨rfl, rfl⟩ hw
  have hw : bW G A s.heap [[(ad 3, .inr (3, [.ref (ad 2), .ref (ad 13), .ref (ad 14), .int 0, .int 0]))], [(ad 13, .inl (gI G, 6, .inl (fa_fill (fun _ => 0) wh n)))], [(ad 14, .inl (gI G, 6, .inl (fa_fill sk wk n)))], [(ad 2, .inr (0, [.ref (ad 8), .ref (ad 9), .ref (ad 10), .ref (ad 11), .ref (ad 12), .int (nI n), .int lw]))], [(ad 8, .inl (gL G, 6, .inr (.inr (.inr (.inr sg)))))], fam n sa (slE kd sk br), [(at_, .inl (gI G, 12, .inl tf))], [(ad 10, .inl (gI G, 12, .inl wa))]] H locs := hw
  refine W.eq (g2 := (F0 m 4 ls [])) rfl ?_
  refine lv_iconst (v := 0) S.1 S.2.1 dX3_firstWrong_4 (by decide) ?_
  refine lv_istore (lv' := [(5, .int 0), (0, .ref (ad 3)), (1, .ref at_), (2, .int (nI mm)), (3, .int (if ol = true then 1 else 0)), (4, .int (if os = true then 1 else 0))]) S.1 S.2.1 dX3_firstWrong_5 hl (by decide) rfl (fun ls hl => ?_)
  have hw := aw_arr hw 1 rfl (fa_fill (hB n (fun j => hoK (kd j)) tf 0) wh n) (fun _ _ => rfl)
  have hw : bW G A s.heap [[(ad 3, .inr (3, [.ref (ad 2), .ref (ad 13), .ref (ad 14), .int 0, .int 0]))], [(ad 13, .inl (gI G, 6, .inl (fa_fill (hB n (fun j => hoK (kd j)) tf 0) wh n)))], [(ad 14, .inl (gI G, 6, .inl (fa_fill sk wk n)))], [(ad 2, .inr (0, [.ref (ad 8), .ref (ad 9), .ref (ad 10), .ref (ad 11), .ref (ad 12), .int (nI n), .int lw]))], [(ad 8, .inl (gL G, 6, .inr (.inr (.inr (.inr sg)))))], fam n sa (slE kd sk br), [(at_, .inl (gI G, 12, .inl tf))], [(ad 10, .inl (gI G, 12, .inl wa))]] H locs := hw
  have hw := aw_arr hw 2 rfl (fa_fill (kA n lw sk tf (0 - 1)) wk n) (fun _ _ => rfl)
  have hw : bW G A s.heap [[(ad 3, .inr (3, [.ref (ad 2), .ref (ad 13), .ref (ad 14), .int 0, .int 0]))], [(ad 13, .inl (gI G, 6, .inl (fa_fill (hB n (fun j => hoK (kd j)) tf 0) wh n)))], [(ad 14, .inl (gI G, 6, .inl (fa_fill (kA n lw sk tf (0 - 1)) wk n)))], [(ad 2, .inr (0, [.ref (ad 8), .ref (ad 9), .ref (ad 10), .ref (ad 11), .ref (ad 12), .int (nI n), .int lw]))], [(ad 8, .inl (gL G, 6, .inr (.inr (.inr (.inr sg)))))], fam n sa (slE kd sk br), [(at_, .inl (gI G, 12, .inl tf))], [(ad 10, .inl (gI G, 12, .inl wa))]] H locs := hw
  have loop7 : ∀ (fu : Nat) (i : Nat), (i ≤ mm) → (∀ j, j < i → wrP n lw sk (fun j => hoK (kd j)) br tf wa ol os j = false) → (mm - i) < fu → ∀ (ls : Array Slot) (H : Heap) (locs : List Loc), lv_has ls 6 [(0, .ref (ad 3)), (1, .ref at_), (2, .int (nI mm)), (3, .int (if ol = true then 1 else 0)), (4, .int (if os = true then 1 else 0)), (5, .int (nI i))] → bW G A s.heap [[(ad 3, .inr (3, [.ref (ad 2), .ref (ad 13), .ref (ad 14), .int (laB n lw sk tf wa i), .int (uB tf i)]))], [(ad 13, .inl (gI G, 6, .inl (fa_fill (hB n (fun j => hoK (kd j)) tf i) wh n)))], [(ad 14, .inl (gI G, 6, .inl (fa_fill (kA n lw sk tf (i - 1)) wk n)))], [(ad 2, .inr (0, [.ref (ad 8), .ref (ad 9), .ref (ad 10), .ref (ad 11), .ref (ad 12), .int (nI n), .int lw]))], [(ad 8, .inl (gL G, 6, .inr (.inr (.inr (.inr sg)))))], fam n sa (slE kd sk br), [(at_, .inl (gI G, 12, .inl tf))], [(ad 10, .inl (gI G, 12, .inl wa))]] H locs → W p l e R s m args below meth c H locs 0 0 Q (F0 m 7 ls []) := by
    intro fu
    induction fu with
    | zero => intro i _ _ hm; exact absurd hm (Nat.not_lt_zero _)
    | succ fu ih7 =>
      intro i hi hp hm ls H locs hl hw
      refine lv_iload S.1 S.2.1 dX3_firstWrong_7 (lv_at hl 5 rfl) ?_
      refine lv_iload_n S.1 S.2.1 dX3_firstWrong_9 rfl (lv_at hl 2 rfl) ?_
      refine aw_icmpN_ge (x := i) (y := mm) (tgt := 65) S (by omega) (by omega) dX3_firstWrong_10 (by decide) (fun c10 => ?_) (fun c10 => ?_)
      · have ex_i : i = mm := by omega
        try rw [ex_i] at hl
        try rw [ex_i] at hw
        have hk : fwF n lw sk (fun j => hoK (kd j)) br tf wa mm ol os = mm := fF_none (fun j hj => hp j (by omega))
        have hq : min (fwF n lw sk (fun j => hoK (kd j)) br tf wa mm ol os + 1) mm = mm := by rw [hk]; omega
        refine lv_bipush (v := (-9)) S.1 S.2.1 dX3_firstWrong_65 (by decide) ?_
        have hw := Eq.mp (congrArg (fun z_ : Int32 => bW G A s.heap [[(ad 3, .inr (3, [.ref (ad 2), .ref (ad 13), .ref (ad 14), .int z_, .int (uB tf mm)]))], [(ad 13, .inl (gI G, 6, .inl (fa_fill (hB n (fun j => hoK (kd j)) tf mm) wh n)))], [(ad 14, .inl (gI G, 6, .inl (fa_fill (kA n lw sk tf (mm - 1)) wk n)))], [(ad 2, .inr (0, [.ref (ad 8), .ref (ad 9), .ref (ad 10), .ref (ad 11), .ref (ad 12), .int (nI n), .int lw]))], [(ad 8, .inl (gL G, 6, .inr (.inr (.inr (.inr sg)))))], fam n sa (slE kd sk br), [(at_, .inl (gI G, 12, .inl tf))], [(ad 10, .inl (gI G, 12, .inl wa))]] H locs) (show (laB n lw sk tf wa mm : Int32) = laB n lw sk tf wa (min (fwF n lw sk (fun j => hoK (kd j)) br tf wa mm ol os + 1) mm) from (by rw [hq]))) hw
        have hw : bW G A s.heap [[(ad 3, .inr (3, [.ref (ad 2), .ref (ad 13), .ref (ad 14), .int (laB n lw sk tf wa (min (fwF n lw sk (fun j => hoK (kd j)) br tf wa mm ol os + 1) mm)), .int (uB tf mm)]))], [(ad 13, .inl (gI G, 6, .inl (fa_fill (hB n (fun j => hoK (kd j)) tf mm) wh n)))], [(ad 14, .inl (gI G, 6, .inl (fa_fill (kA n lw sk tf (mm - 1)) wk n)))], [(ad 2, .inr (0, [.ref (ad 8), .ref (ad 9), .ref (ad 10), .ref (ad 11), .ref (ad 12), .int (nI n), .int lw]))], [(ad 8, .inl (gL G, 6, .inr (.inr (.inr (.inr sg)))))], fam n sa (slE kd sk br), [(at_, .inl (gI G, 12, .inl tf))], [(ad 10, .inl (gI G, 12, .inl wa))]] H locs := hw
        have hw := Eq.mp (congrArg (fun z_ : Int32 => bW G A s.heap [[(ad 3, .inr (3, [.ref (ad 2), .ref (ad 13), .ref (ad 14), .int (laB n lw sk tf wa (min (fwF n lw sk (fun j => hoK (kd j)) br tf wa mm ol os + 1) mm)), .int z_]))], [(ad 13, .inl (gI G, 6, .inl (fa_fill (hB n (fun j => hoK (kd j)) tf mm) wh n)))], [(ad 14, .inl (gI G, 6, .inl (fa_fill (kA n lw sk tf (mm - 1)) wk n)))], [(ad 2, .inr (0, [.ref (ad 8), .ref (ad 9), .ref (ad 10), .ref (ad 11), .ref (ad 12), .int (nI n), .int lw]))], [(ad 8, .inl (gL G, 6, .inr (.inr (.inr (.inr sg)))))], fam n sa (slE kd sk br), [(at_, .inl (gI G, 12, .inl tf))], [(ad 10, .inl (gI G, 12, .inl wa))]] H locs) (show (uB tf mm : Int32) = uB tf (min (fwF n lw sk (fun j => hoK (kd j)) br tf wa mm ol os + 1) mm) from (by rw [hq]))) hw
        have hw : bW G A s.heap [[(ad 3, .inr (3, [.ref (ad 2), .ref (ad 13), .ref (ad 14), .int (laB n lw sk tf wa (min (fwF n lw sk (fun j => hoK (kd j)) br tf wa mm ol os + 1) mm)), .int (uB tf (min (fwF n lw sk (fun j => hoK (kd j)) br tf wa mm ol os + 1) mm))]))], [(ad 13, .inl (gI G, 6, .inl (fa_fill (hB n (fun j => hoK (kd j)) tf mm) wh n)))], [(ad 14, .inl (gI G, 6, .inl (fa_fill (kA n lw sk tf (mm - 1)) wk n)))], [(ad 2, .inr (0, [.ref (ad 8), .ref (ad 9), .ref (ad 10), .ref (ad 11), .ref (ad 12), .int (nI n), .int lw]))], [(ad 8, .inl (gL G, 6, .inr (.inr (.inr (.inr sg)))))], fam n sa (slE kd sk br), [(at_, .inl (gI G, 12, .inl tf))], [(ad 10, .inl (gI G, 12, .inl wa))]] H locs := hw
        have hw := aw_arr hw 2 rfl (fa_fill (kA n lw sk tf ((min (fwF n lw sk (fun j => hoK (kd j)) br tf wa mm ol os + 1) mm) - 1)) wk n) (fun _ _ => by rw [hq])
        have hw : bW G A s.heap [[(ad 3, .inr (3, [.ref (ad 2), .ref (ad 13), .ref (ad 14), .int (laB n lw sk tf wa (min (fwF n lw sk (fun j => hoK (kd j)) br tf wa mm ol os + 1) mm)), .int (uB tf (min (fwF n lw sk (fun j => hoK (kd j)) br tf wa mm ol os + 1) mm))]))], [(ad 13, .inl (gI G, 6, .inl (fa_fill (hB n (fun j => hoK (kd j)) tf mm) wh n)))], [(ad 14, .inl (gI G, 6, .inl (fa_fill (kA n lw sk tf ((min (fwF n lw sk (fun j => hoK (kd j)) br tf wa mm ol os + 1) mm) - 1)) wk n)))], [(ad 2, .inr (0, [.ref (ad 8), .ref (ad 9), .ref (ad 10), .ref (ad 11), .ref (ad 12), .int (nI n), .int lw]))], [(ad 8, .inl (gL G, 6, .inr (.inr (.inr (.inr sg)))))], fam n sa (slE kd sk br), [(at_, .inl (gI G, 12, .inl tf))], [(ad 10, .inl (gI G, 12, .inl wa))]] H locs := hw
        have hw := aw_arr hw 1 rfl (fa_fill (hB n (fun j => hoK (kd j)) tf (min (fwF n lw sk (fun j => hoK (kd j)) br tf wa mm ol os + 1) mm)) wh n) (fun _ _ => by rw [hq])
        have hw : bW G A s.heap [[(ad 3, .inr (3, [.ref (ad 2), .ref (ad 13), .ref (ad 14), .int (laB n lw sk tf wa (min (fwF n lw sk (fun j => hoK (kd j)) br tf wa mm ol os + 1) mm)), .int (uB tf (min (fwF n lw sk (fun j => hoK (kd j)) br tf wa mm ol os + 1) mm))]))], [(ad 13, .inl (gI G, 6, .inl (fa_fill (hB n (fun j => hoK (kd j)) tf (min (fwF n lw sk (fun j => hoK (kd j)) br tf wa mm ol os + 1) mm)) wh n)))], [(ad 14, .inl (gI G, 6, .inl (fa_fill (kA n lw sk tf ((min (fwF n lw sk (fun j => hoK (kd j)) br tf wa mm ol os + 1) mm) - 1)) wk n)))], [(ad 2, .inr (0, [.ref (ad 8), .ref (ad 9), .ref (ad 10), .ref (ad 11), .ref (ad 12), .int (nI n), .int lw]))], [(ad 8, .inl (gL G, 6, .inr (.inr (.inr (.inr sg)))))], fam n sa (slE kd sk br), [(at_, .inl (gI G, 12, .inl tf))], [(ad 10, .inl (gI G, 12, .inl wa))]] H locs := hw
        refine aw_eqi (show ((-9) : Int32) = noI (fwF n lw sk (fun j => hoK (kd j)) br tf wa mm ol os) mm from (by rw [hk, noI, if_neg (by omega)])) ?_
        exact aw_iret S hr hlk ha hQ hAe hw dX3_firstWrong_67 rfl (Nat.le_of_ble_eq_true rfl) (Nat.le_of_ble_eq_true rfl) ⟨rfl, rfl⟩
      · refine lv_aload_n S.1 S.2.1 dX3_firstWrong_13 rfl (lv_at hl 0 rfl) ?_
        refine lv_aload_n S.1 S.2.1 dX3_firstWrong_14 rfl (lv_at hl 1 rfl) ?_
        refine lv_iload S.1 S.2.1 dX3_firstWrong_15 (lv_at hl 5 rfl) ?_
        refine aw_iald S hE hw 6 (k := i) rfl (by omega) (by decide) dX3_firstWrong_17 ?_
        refine lv_aload_n S.1 S.2.1 dX3_firstWrong_18 rfl (lv_at hl 0 rfl) ?_
        refine aw_get S hE hw 0 (C := RX3) (T := TX3) (N := 5) rfl rfl hinX3 0 (by decide) hf25 rfl dX3_firstWrong_19 ?_
        refine aw_get S hE hw 3 (C := RX0) (T := TX0) (N := 7) rfl rfl hinX0 2 (by decide) hf32 rfl dX3_firstWrong_22 ?_
        refine lv_iload S.1 S.2.1 dX3_firstWrong_25 (lv_at hl 5 rfl) ?_
        refine aw_iald S hE hw 7 (k := i) rfl (by omega) (by decide) dX3_firstWrong_27 ?_
        refine aw_callV S hE (c_X3_enter l G ad n lw sg sa kd sk br (laB n lw sk tf wa i) (uB tf i) (fa_fill (hB n (fun j => hoK (kd j)) tf i) wh n) (fa_fill (kA n lw sk tf (i - 1)) wk n) (tf i) (wa i) (by first | assumption | omega) (by first | assumption | omega)) gX3_firstWrong_X3_enter (n := 2) rfl (by decide +kernel) rfl (by rw [hRm]; exact ⟨Nat.le_of_ble_eq_true rfl, Nat.le_of_ble_eq_true rfl⟩) (by rw [hRm]; exact ⟨Nat.le_of_ble_eq_true rfl, Nat.le_of_ble_eq_true rfl⟩) hw hA hl.1 [0, 1, 2, 3, 4, 5] rfl rfl (aw_recv (i := 0) hE hw rfl rfl rfl) rfl (Nat.le_of_ble_eq_true rfl) dX3_firstWrong_28 ?_
        rintro v w1 H locs ⟨rfl, rfl⟩ hw
        have hw : bW G A s.heap [[(ad 3, .inr (3, [.ref (ad 2), .ref (ad 13), .ref (ad 14), .int ((wa i) &&& (tgF (tf i) (if lw = 1 then pwF (bt (uB tf i)) (fun _ => tgF (uB tf i) (fa_fill (kA n lw sk tf (i - 1)) wk n) n) (fa_fill (kA n lw sk tf (i - 1)) wk n) n else (fa_fill (kA n lw sk tf (i - 1)) wk n)) n ^^^ (-1))), .int (tf i)]))], [(ad 13, .inl (gI G, 6, .inl (pwF (bt ((tf i) &&& ((uB tf i) ^^^ (-1)))) (fun j => (fa_fill (hB n (fun j => hoK (kd j)) tf i) wh n) j + hoK (kd j)) (fa_fill (hB n (fun j => hoK (kd j)) tf i) wh n) n)))], [(ad 14, .inl (gI G, 6, .inl (if lw = 1 then pwF (bt (uB tf i)) (fun _ => tgF (uB tf i) (fa_fill (kA n lw sk tf (i - 1)) wk n) n) (fa_fill (kA n lw sk tf (i - 1)) wk n) n else (fa_fill (kA n lw sk tf (i - 1)) wk n))))], [(ad 2, .inr (0, [.ref (ad 8), .ref (ad 9), .ref (ad 10), .ref (ad 11), .ref (ad 12), .int (nI n), .int lw]))], [(ad 8, .inl (gL G, 6, .inr (.inr (.inr (.inr sg)))))], fam n sa (slE kd sk br), [(at_, .inl (gI G, 12, .inl tf))], [(ad 10, .inl (gI G, 12, .inl wa))]] H locs := hw
        refine W.eq (g2 := (F0 m 31 ls [])) rfl ?_
        have hw := Eq.mp (congrArg (fun z_ : Int32 => bW G A s.heap [[(ad 3, .inr (3, [.ref (ad 2), .ref (ad 13), .ref (ad 14), .int z_, .int (tf i)]))], [(ad 13, .inl (gI G, 6, .inl (pwF (bt ((tf i) &&& ((uB tf i) ^^^ (-1)))) (fun j => (fa_fill (hB n (fun j => hoK (kd j)) tf i) wh n) j + hoK (kd j)) (fa_fill (hB n (fun j => hoK (kd j)) tf i) wh n) n)))], [(ad 14, .inl (gI G, 6, .inl (if lw = 1 then pwF (bt (uB tf i)) (fun _ => tgF (uB tf i) (fa_fill (kA n lw sk tf (i - 1)) wk n) n) (fa_fill (kA n lw sk tf (i - 1)) wk n) n else (fa_fill (kA n lw sk tf (i - 1)) wk n))))], [(ad 2, .inr (0, [.ref (ad 8), .ref (ad 9), .ref (ad 10), .ref (ad 11), .ref (ad 12), .int (nI n), .int lw]))], [(ad 8, .inl (gL G, 6, .inr (.inr (.inr (.inr sg)))))], fam n sa (slE kd sk br), [(at_, .inl (gI G, 12, .inl tf))], [(ad 10, .inl (gI G, 12, .inl wa))]] H locs) (show ((wa i) &&& (tgF (tf i) (if lw = 1 then pwF (bt (uB tf i)) (fun _ => tgF (uB tf i) (fa_fill (kA n lw sk tf (i - 1)) wk n) n) (fa_fill (kA n lw sk tf (i - 1)) wk n) n else (fa_fill (kA n lw sk tf (i - 1)) wk n)) n ^^^ (-1)) : Int32) = laB n lw sk tf wa (i + 1) from (by rw [en_wk]; exact en_la))) hw
        have hw : bW G A s.heap [[(ad 3, .inr (3, [.ref (ad 2), .ref (ad 13), .ref (ad 14), .int (laB n lw sk tf wa (i + 1)), .int (tf i)]))], [(ad 13, .inl (gI G, 6, .inl (pwF (bt ((tf i) &&& ((uB tf i) ^^^ (-1)))) (fun j => (fa_fill (hB n (fun j => hoK (kd j)) tf i) wh n) j + hoK (kd j)) (fa_fill (hB n (fun j => hoK (kd j)) tf i) wh n) n)))], [(ad 14, .inl (gI G, 6, .inl (if lw = 1 then pwF (bt (uB tf i)) (fun _ => tgF (uB tf i) (fa_fill (kA n lw sk tf (i - 1)) wk n) n) (fa_fill (kA n lw sk tf (i - 1)) wk n) n else (fa_fill (kA n lw sk tf (i - 1)) wk n))))], [(ad 2, .inr (0, [.ref (ad 8), .ref (ad 9), .ref (ad 10), .ref (ad 11), .ref (ad 12), .int (nI n), .int lw]))], [(ad 8, .inl (gL G, 6, .inr (.inr (.inr (.inr sg)))))], fam n sa (slE kd sk br), [(at_, .inl (gI G, 12, .inl tf))], [(ad 10, .inl (gI G, 12, .inl wa))]] H locs := hw
        have hw := aw_arr hw 2 rfl (fa_fill (kA n lw sk tf ((i + 1) - 1)) wk n) (fun _ _ => by rw [en_wk]; rfl)
        have hw : bW G A s.heap [[(ad 3, .inr (3, [.ref (ad 2), .ref (ad 13), .ref (ad 14), .int (laB n lw sk tf wa (i + 1)), .int (tf i)]))], [(ad 13, .inl (gI G, 6, .inl (pwF (bt ((tf i) &&& ((uB tf i) ^^^ (-1)))) (fun j => (fa_fill (hB n (fun j => hoK (kd j)) tf i) wh n) j + hoK (kd j)) (fa_fill (hB n (fun j => hoK (kd j)) tf i) wh n) n)))], [(ad 14, .inl (gI G, 6, .inl (fa_fill (kA n lw sk tf ((i + 1) - 1)) wk n)))], [(ad 2, .inr (0, [.ref (ad 8), .ref (ad 9), .ref (ad 10), .ref (ad 11), .ref (ad 12), .int (nI n), .int lw]))], [(ad 8, .inl (gL G, 6, .inr (.inr (.inr (.inr sg)))))], fam n sa (slE kd sk br), [(at_, .inl (gI G, 12, .inl tf))], [(ad 10, .inl (gI G, 12, .inl wa))]] H locs := hw
        have hw := aw_arr hw 1 rfl (fa_fill (hB n (fun j => hoK (kd j)) tf (i + 1)) wh n) (fun _ _ => by rw [en_wh])
        have hw : bW G A s.heap [[(ad 3, .inr (3, [.ref (ad 2), .ref (ad 13), .ref (ad 14), .int (laB n lw sk tf wa (i + 1)), .int (tf i)]))], [(ad 13, .inl (gI G, 6, .inl (fa_fill (hB n (fun j => hoK (kd j)) tf (i + 1)) wh n)))], [(ad 14, .inl (gI G, 6, .inl (fa_fill (kA n lw sk tf ((i + 1) - 1)) wk n)))], [(ad 2, .inr (0, [.ref (ad 8), .ref (ad 9), .ref (ad 10), .ref (ad 11), .ref (ad 12), .int (nI n), .int lw]))], [(ad 8, .inl (gL G, 6, .inr (.inr (.inr (.inr sg)))))], fam n sa (slE kd sk br), [(at_, .inl (gI G, 12, .inl tf))], [(ad 10, .inl (gI G, 12, .inl wa))]] H locs := hw
        refine lv_iload_n S.1 S.2.1 dX3_firstWrong_31 rfl (lv_at hl 3 rfl) ?_
        refine aw_ifeq (P := ol = true) (tgt := 42) S dX3_firstWrong_32 (by decide) (fun c32 => ?_) (fun c32 => ?_)
        · refine lv_iload S.1 S.2.1 dX3_firstWrong_42 (lv_at hl 4 rfl) ?_
          refine aw_ifeq (P := os = true) (tgt := 59) S dX3_firstWrong_44 (by decide) (fun c44 => ?_) (fun c44 => ?_)
          · have hz : wrP n lw sk (fun j => hoK (kd j)) br tf wa ol os i = false := by unfold wrP; simp [c44, c32]
            refine lv_iinc (v := nI (i + 1)) (lv' := [(5, .int (nI (i + 1))), (0, .ref (ad 3)), (1, .ref at_), (2, .int (nI mm)), (3, .int (if ol = true then 1 else 0)), (4, .int (if os = true then 1 else 0))]) S.1 S.2.1 dX3_firstWrong_59 hl (k := 5) rfl (by first | exact nI_1 _ | exact nI_add _ _ | rfl) (by decide) rfl (fun ls hl => ?_)
            refine lv_goto (tgt := 7) S.1 S.2.1 dX3_firstWrong_62 (by decide) ?_
            exact ih7 (i + 1) (by first | assumption | omega) (lt_s hp hz) (by omega) _ _ _ (lv_sub hl [1, 2, 3, 4, 5, 0] rfl) hw
          · refine lv_aload_n S.1 S.2.1 dX3_firstWrong_47 rfl (lv_at hl 0 rfl) ?_
            refine aw_callV S hE (c_X3_whoIsSpent l G ad n lw sg sa kd sk br (laB n lw sk tf wa (i + 1)) (tf i) (fa_fill (hB n (fun j => hoK (kd j)) tf (i + 1)) wh n) wk (by first | assumption | omega) (by first | assumption | omega)) gX3_firstWrong_X3_whoIsSpent (n := 0) rfl (by decide +kernel) rfl (by rw [hRm]; exact ⟨Nat.le_of_ble_eq_true rfl, Nat.le_of_ble_eq_true rfl⟩) (by rw [hRm]; exact ⟨Nat.le_of_ble_eq_true rfl, Nat.le_of_ble_eq_true rfl⟩) hw hA hl.1 [0, 1, 3, 4, 5] rfl rfl (aw_recv (i := 0) hE hw rfl rfl rfl) rfl (Nat.le_of_ble_eq_true rfl) dX3_firstWrong_48 ?_
            rintro v w1 H locs ⟨rfl, rfl⟩ hw
            have hw : bW G A s.heap [[(ad 3, .inr (3, [.ref (ad 2), .ref (ad 13), .ref (ad 14), .int (laB n lw sk tf wa (i + 1)), .int (tf i)]))], [(ad 13, .inl (gI G, 6, .inl (fa_fill (hB n (fun j => hoK (kd j)) tf (i + 1)) wh n)))], [(ad 14, .inl (gI G, 6, .inl (fa_fill (kA n lw sk tf ((i + 1) - 1)) wk n)))], [(ad 2, .inr (0, [.ref (ad 8), .ref (ad 9), .ref (ad 10), .ref (ad 11), .ref (ad 12), .int (nI n), .int lw]))], [(ad 8, .inl (gL G, 6, .inr (.inr (.inr (.inr sg)))))], fam n sa (slE kd sk br), [(at_, .inl (gI G, 12, .inl tf))], [(ad 10, .inl (gI G, 12, .inl wa))]] H locs := hw
            refine W.eq (g2 := (F0 m 51 ls [.int (spF n br (fa_fill (hB n (fun j => hoK (kd j)) tf (i + 1)) wh n))])) rfl ?_
            refine lv_bipush (v := (-9)) S.1 S.2.1 dX3_firstWrong_51 (by decide) ?_
            refine lv_icmp_eq (tgt := 59) S.1 S.2.1 dX3_firstWrong_53 (by decide) (fun c53 => ?_) (fun c53 => ?_)
            · have hz : wrP n lw sk (fun j => hoK (kd j)) br tf wa ol os i = false := by unfold wrP; rw [en_sp] at c53; simp [c53, c32]
              refine lv_iinc (v := nI (i + 1)) (lv' := [(5, .int (nI (i + 1))), (0, .ref (ad 3)), (1, .ref at_), (2, .int (nI mm)), (3, .int (if ol = true then 1 else 0)), (4, .int (if os = true then 1 else 0))]) S.1 S.2.1 dX3_firstWrong_59 hl (k := 5) rfl (by first | exact nI_1 _ | exact nI_add _ _ | rfl) (by decide) rfl (fun ls hl => ?_)
              refine lv_goto (tgt := 7) S.1 S.2.1 dX3_firstWrong_62 (by decide) ?_
              exact ih7 (i + 1) (by first | assumption | omega) (lt_s hp hz) (by omega) _ _ _ (lv_sub hl [1, 2, 3, 4, 5, 0] rfl) hw
            · have hz : wrP n lw sk (fun j => hoK (kd j)) br tf wa ol os i = true := by unfold wrP; rw [en_sp] at c53; simp [c44, c53]
              have hk : fwF n lw sk (fun j => hoK (kd j)) br tf wa mm ol os = i := fF_is (by omega) hz hp
              have hq : min (fwF n lw sk (fun j => hoK (kd j)) br tf wa mm ol os + 1) mm = i + 1 := by rw [hk]; omega
              refine lv_iload S.1 S.2.1 dX3_firstWrong_56 (lv_at hl 5 rfl) ?_
              have hw := Eq.mp (congrArg (fun z_ : Int32 => bW G A s.heap [[(ad 3, .inr (3, [.ref (ad 2), .ref (ad 13), .ref (ad 14), .int z_, .int (tf i)]))], [(ad 13, .inl (gI G, 6, .inl (fa_fill (hB n (fun j => hoK (kd j)) tf (i + 1)) wh n)))], [(ad 14, .inl (gI G, 6, .inl (fa_fill (kA n lw sk tf ((i + 1) - 1)) wk n)))], [(ad 2, .inr (0, [.ref (ad 8), .ref (ad 9), .ref (ad 10), .ref (ad 11), .ref (ad 12), .int (nI n), .int lw]))], [(ad 8, .inl (gL G, 6, .inr (.inr (.inr (.inr sg)))))], fam n sa (slE kd sk br), [(at_, .inl (gI G, 12, .inl tf))], [(ad 10, .inl (gI G, 12, .inl wa))]] H locs) (show (laB n lw sk tf wa (i + 1) : Int32) = laB n lw sk tf wa (min (fwF n lw sk (fun j => hoK (kd j)) br tf wa mm ol os + 1) mm) from (by rw [hq]))) hw
              have hw : bW G A s.heap [[(ad 3, .inr (3, [.ref (ad 2), .ref (ad 13), .ref (ad 14), .int (laB n lw sk tf wa (min (fwF n lw sk (fun j => hoK (kd j)) br tf wa mm ol os + 1) mm)), .int (tf i)]))], [(ad 13, .inl (gI G, 6, .inl (fa_fill (hB n (fun j => hoK (kd j)) tf (i + 1)) wh n)))], [(ad 14, .inl (gI G, 6, .inl (fa_fill (kA n lw sk tf ((i + 1) - 1)) wk n)))], [(ad 2, .inr (0, [.ref (ad 8), .ref (ad 9), .ref (ad 10), .ref (ad 11), .ref (ad 12), .int (nI n), .int lw]))], [(ad 8, .inl (gL G, 6, .inr (.inr (.inr (.inr sg)))))], fam n sa (slE kd sk br), [(at_, .inl (gI G, 12, .inl tf))], [(ad 10, .inl (gI G, 12, .inl wa))]] H locs := hw
              have hw := Eq.mp (congrArg (fun z_ : Int32 => bW G A s.heap [[(ad 3, .inr (3, [.ref (ad 2), .ref (ad 13), .ref (ad 14), .int (laB n lw sk tf wa (min (fwF n lw sk (fun j => hoK (kd j)) br tf wa mm ol os + 1) mm)), .int z_]))], [(ad 13, .inl (gI G, 6, .inl (fa_fill (hB n (fun j => hoK (kd j)) tf (i + 1)) wh n)))], [(ad 14, .inl (gI G, 6, .inl (fa_fill (kA n lw sk tf ((i + 1) - 1)) wk n)))], [(ad 2, .inr (0, [.ref (ad 8), .ref (ad 9), .ref (ad 10), .ref (ad 11), .ref (ad 12), .int (nI n), .int lw]))], [(ad 8, .inl (gL G, 6, .inr (.inr (.inr (.inr sg)))))], fam n sa (slE kd sk br), [(at_, .inl (gI G, 12, .inl tf))], [(ad 10, .inl (gI G, 12, .inl wa))]] H locs) (show ((tf i) : Int32) = uB tf (min (fwF n lw sk (fun j => hoK (kd j)) br tf wa mm ol os + 1) mm) from (by rw [hq]; rfl))) hw
              have hw : bW G A s.heap [[(ad 3, .inr (3, [.ref (ad 2), .ref (ad 13), .ref (ad 14), .int (laB n lw sk tf wa (min (fwF n lw sk (fun j => hoK (kd j)) br tf wa mm ol os + 1) mm)), .int (uB tf (min (fwF n lw sk (fun j => hoK (kd j)) br tf wa mm ol os + 1) mm))]))], [(ad 13, .inl (gI G, 6, .inl (fa_fill (hB n (fun j => hoK (kd j)) tf (i + 1)) wh n)))], [(ad 14, .inl (gI G, 6, .inl (fa_fill (kA n lw sk tf ((i + 1) - 1)) wk n)))], [(ad 2, .inr (0, [.ref (ad 8), .ref (ad 9), .ref (ad 10), .ref (ad 11), .ref (ad 12), .int (nI n), .int lw]))], [(ad 8, .inl (gL G, 6, .inr (.inr (.inr (.inr sg)))))], fam n sa (slE kd sk br), [(at_, .inl (gI G, 12, .inl tf))], [(ad 10, .inl (gI G, 12, .inl wa))]] H locs := hw
              have hw := aw_arr hw 2 rfl (fa_fill (kA n lw sk tf ((min (fwF n lw sk (fun j => hoK (kd j)) br tf wa mm ol os + 1) mm) - 1)) wk n) (fun _ _ => by rw [hq])
              have hw : bW G A s.heap [[(ad 3, .inr (3, [.ref (ad 2), .ref (ad 13), .ref (ad 14), .int (laB n lw sk tf wa (min (fwF n lw sk (fun j => hoK (kd j)) br tf wa mm ol os + 1) mm)), .int (uB tf (min (fwF n lw sk (fun j => hoK (kd j)) br tf wa mm ol os + 1) mm))]))], [(ad 13, .inl (gI G, 6, .inl (fa_fill (hB n (fun j => hoK (kd j)) tf (i + 1)) wh n)))], [(ad 14, .inl (gI G, 6, .inl (fa_fill (kA n lw sk tf ((min (fwF n lw sk (fun j => hoK (kd j)) br tf wa mm ol os + 1) mm) - 1)) wk n)))], [(ad 2, .inr (0, [.ref (ad 8), .ref (ad 9), .ref (ad 10), .ref (ad 11), .ref (ad 12), .int (nI n), .int lw]))], [(ad 8, .inl (gL G, 6, .inr (.inr (.inr (.inr sg)))))], fam n sa (slE kd sk br), [(at_, .inl (gI G, 12, .inl tf))], [(ad 10, .inl (gI G, 12, .inl wa))]] H locs := hw
              have hw := aw_arr hw 1 rfl (fa_fill (hB n (fun j => hoK (kd j)) tf (min (fwF n lw sk (fun j => hoK (kd j)) br tf wa mm ol os + 1) mm)) wh n) (fun _ _ => by rw [hq])
              have hw : bW G A s.heap [[(ad 3, .inr (3, [.ref (ad 2), .ref (ad 13), .ref (ad 14), .int (laB n lw sk tf wa (min (fwF n lw sk (fun j => hoK (kd j)) br tf wa mm ol os + 1) mm)), .int (uB tf (min (fwF n lw sk (fun j => hoK (kd j)) br tf wa mm ol os + 1) mm))]))], [(ad 13, .inl (gI G, 6, .inl (fa_fill (hB n (fun j => hoK (kd j)) tf (min (fwF n lw sk (fun j => hoK (kd j)) br tf wa mm ol os + 1) mm)) wh n)))], [(ad 14, .inl (gI G, 6, .inl (fa_fill (kA n lw sk tf ((min (fwF n lw sk (fun j => hoK (kd j)) br tf wa mm ol os + 1) mm) - 1)) wk n)))], [(ad 2, .inr (0, [.ref (ad 8), .ref (ad 9), .ref (ad 10), .ref (ad 11), .ref (ad 12), .int (nI n), .int lw]))], [(ad 8, .inl (gL G, 6, .inr (.inr (.inr (.inr sg)))))], fam n sa (slE kd sk br), [(at_, .inl (gI G, 12, .inl tf))], [(ad 10, .inl (gI G, 12, .inl wa))]] H locs := hw
              refine aw_eqi (show (nI i : Int32) = noI (fwF n lw sk (fun j => hoK (kd j)) br tf wa mm ol os) mm from (by rw [hk, noI, if_pos (by omega)])) ?_
              exact aw_iret S hr hlk ha hQ hAe hw dX3_firstWrong_58 rfl (Nat.le_of_ble_eq_true rfl) (Nat.le_of_ble_eq_true rfl) ⟨rfl, rfl⟩
        · refine lv_aload_n S.1 S.2.1 dX3_firstWrong_35 rfl (lv_at hl 0 rfl) ?_
          refine aw_get S hE hw 0 (C := RX3) (T := TX3) (N := 5) rfl rfl hinX3 3 (by decide) hf18 rfl dX3_firstWrong_36 ?_
          refine lv_if_ne (tgt := 56) S.1 S.2.1 dX3_firstWrong_39 (by decide) (fun c39 => ?_) (fun c39 => ?_)
          · have hz : wrP n lw sk (fun j => hoK (kd j)) br tf wa ol os i = true := by unfold wrP; simp [c32, show ¬ lkF n lw sk tf wa i = 0 from c39]
            have hk : fwF n lw sk (fun j => hoK (kd j)) br tf wa mm ol os = i := fF_is (by omega) hz hp
            have hq : min (fwF n lw sk (fun j => hoK (kd j)) br tf wa mm ol os + 1) mm = i + 1 := by rw [hk]; omega
            refine lv_iload S.1 S.2.1 dX3_firstWrong_56 (lv_at hl 5 rfl) ?_
            have hw := Eq.mp (congrArg (fun z_ : Int32 => bW G A s.heap [[(ad 3, .inr (3, [.ref (ad 2), .ref (ad 13), .ref (ad 14), .int z_, .int (tf i)]))], [(ad 13, .inl (gI G, 6, .inl (fa_fill (hB n (fun j => hoK (kd j)) tf (i + 1)) wh n)))], [(ad 14, .inl (gI G, 6, .inl (fa_fill (kA n lw sk tf ((i + 1) - 1)) wk n)))], [(ad 2, .inr (0, [.ref (ad 8), .ref (ad 9), .ref (ad 10), .ref (ad 11), .ref (ad 12), .int (nI n), .int lw]))], [(ad 8, .inl (gL G, 6, .inr (.inr (.inr (.inr sg)))))], fam n sa (slE kd sk br), [(at_, .inl (gI G, 12, .inl tf))], [(ad 10, .inl (gI G, 12, .inl wa))]] H locs) (show (laB n lw sk tf wa (i + 1) : Int32) = laB n lw sk tf wa (min (fwF n lw sk (fun j => hoK (kd j)) br tf wa mm ol os + 1) mm) from (by rw [hq]))) hw
            have hw : bW G A s.heap [[(ad 3, .inr (3, [.ref (ad 2), .ref (ad 13), .ref (ad 14), .int (laB n lw sk tf wa (min (fwF n lw sk (fun j => hoK (kd j)) br tf wa mm ol os + 1) mm)), .int (tf i)]))], [(ad 13, .inl (gI G, 6, .inl (fa_fill (hB n (fun j => hoK (kd j)) tf (i + 1)) wh n)))], [(ad 14, .inl (gI G, 6, .inl (fa_fill (kA n lw sk tf ((i + 1) - 1)) wk n)))], [(ad 2, .inr (0, [.ref (ad 8), .ref (ad 9), .ref (ad 10), .ref (ad 11), .ref (ad 12), .int (nI n), .int lw]))], [(ad 8, .inl (gL G, 6, .inr (.inr (.inr (.inr sg)))))], fam n sa (slE kd sk br), [(at_, .inl (gI G, 12, .inl tf))], [(ad 10, .inl (gI G, 12, .inl wa))]] H locs := hw
            have hw := Eq.mp (congrArg (fun z_ : Int32 => bW G A s.heap [[(ad 3, .inr (3, [.ref (ad 2), .ref (ad 13), .ref (ad 14), .int (laB n lw sk tf wa (min (fwF n lw sk (fun j => hoK (kd j)) br tf wa mm ol os + 1) mm)), .int z_]))], [(ad 13, .inl (gI G, 6, .inl (fa_fill (hB n (fun j => hoK (kd j)) tf (i + 1)) wh n)))], [(ad 14, .inl (gI G, 6, .inl (fa_fill (kA n lw sk tf ((i + 1) - 1)) wk n)))], [(ad 2, .inr (0, [.ref (ad 8), .ref (ad 9), .ref (ad 10), .ref (ad 11), .ref (ad 12), .int (nI n), .int lw]))], [(ad 8, .inl (gL G, 6, .inr (.inr (.inr (.inr sg)))))], fam n sa (slE kd sk br), [(at_, .inl (gI G, 12, .inl tf))], [(ad 10, .inl (gI G, 12, .inl wa))]] H locs) (show ((tf i) : Int32) = uB tf (min (fwF n lw sk (fun j => hoK (kd j)) br tf wa mm ol os + 1) mm) from (by rw [hq]; rfl))) hw
            have hw : bW G A s.heap [[(ad 3, .inr (3, [.ref (ad 2), .ref (ad 13), .ref (ad 14), .int (laB n lw sk tf wa (min (fwF n lw sk (fun j => hoK (kd j)) br tf wa mm ol os + 1) mm)), .int (uB tf (min (fwF n lw sk (fun j => hoK (kd j)) br tf wa mm ol os + 1) mm))]))], [(ad 13, .inl (gI G, 6, .inl (fa_fill (hB n (fun j => hoK (kd j)) tf (i + 1)) wh n)))], [(ad 14, .inl (gI G, 6, .inl (fa_fill (kA n lw sk tf ((i + 1) - 1)) wk n)))], [(ad 2, .inr (0, [.ref (ad 8), .ref (ad 9), .ref (ad 10), .ref (ad 11), .ref (ad 12), .int (nI n), .int lw]))], [(ad 8, .inl (gL G, 6, .inr (.inr (.inr (.inr sg)))))], fam n sa (slE kd sk br), [(at_, .inl (gI G, 12, .inl tf))], [(ad 10, .inl (gI G, 12, .inl wa))]] H locs := hw
            have hw := aw_arr hw 2 rfl (fa_fill (kA n lw sk tf ((min (fwF n lw sk (fun j => hoK (kd j)) br tf wa mm ol os + 1) mm) - 1)) wk n) (fun _ _ => by rw [hq])
            have hw : bW G A s.heap [[(ad 3, .inr (3, [.ref (ad 2), .ref (ad 13), .ref (ad 14), .int (laB n lw sk tf wa (min (fwF n lw sk (fun j => hoK (kd j)) br tf wa mm ol os + 1) mm)), .int (uB tf (min (fwF n lw sk (fun j => hoK (kd j)) br tf wa mm ol os + 1) mm))]))], [(ad 13, .inl (gI G, 6, .inl (fa_fill (hB n (fun j => hoK (kd j)) tf (i + 1)) wh n)))], [(ad 14, .inl (gI G, 6, .inl (fa_fill (kA n lw sk tf ((min (fwF n lw sk (fun j => hoK (kd j)) br tf wa mm ol os + 1) mm) - 1)) wk n)))], [(ad 2, .inr (0, [.ref (ad 8), .ref (ad 9), .ref (ad 10), .ref (ad 11), .ref (ad 12), .int (nI n), .int lw]))], [(ad 8, .inl (gL G, 6, .inr (.inr (.inr (.inr sg)))))], fam n sa (slE kd sk br), [(at_, .inl (gI G, 12, .inl tf))], [(ad 10, .inl (gI G, 12, .inl wa))]] H locs := hw
            have hw := aw_arr hw 1 rfl (fa_fill (hB n (fun j => hoK (kd j)) tf (min (fwF n lw sk (fun j => hoK (kd j)) br tf wa mm ol os + 1) mm)) wh n) (fun _ _ => by rw [hq])
            have hw : bW G A s.heap [[(ad 3, .inr (3, [.ref (ad 2), .ref (ad 13), .ref (ad 14), .int (laB n lw sk tf wa (min (fwF n lw sk (fun j => hoK (kd j)) br tf wa mm ol os + 1) mm)), .int (uB tf (min (fwF n lw sk (fun j => hoK (kd j)) br tf wa mm ol os + 1) mm))]))], [(ad 13, .inl (gI G, 6, .inl (fa_fill (hB n (fun j => hoK (kd j)) tf (min (fwF n lw sk (fun j => hoK (kd j)) br tf wa mm ol os + 1) mm)) wh n)))], [(ad 14, .inl (gI G, 6, .inl (fa_fill (kA n lw sk tf ((min (fwF n lw sk (fun j => hoK (kd j)) br tf wa mm ol os + 1) mm) - 1)) wk n)))], [(ad 2, .inr (0, [.ref (ad 8), .ref (ad 9), .ref (ad 10), .ref (ad 11), .ref (ad 12), .int (nI n), .int lw]))], [(ad 8, .inl (gL G, 6, .inr (.inr (.inr (.inr sg)))))], fam n sa (slE kd sk br), [(at_, .inl (gI G, 12, .inl tf))], [(ad 10, .inl (gI G, 12, .inl wa))]] H locs := hw
            refine aw_eqi (show (nI i : Int32) = noI (fwF n lw sk (fun j => hoK (kd j)) br tf wa mm ol os) mm from (by rw [hk, noI, if_pos (by omega)])) ?_
            exact aw_iret S hr hlk ha hQ hAe hw dX3_firstWrong_58 rfl (Nat.le_of_ble_eq_true rfl) (Nat.le_of_ble_eq_true rfl) ⟨rfl, rfl⟩
          · have z39 : lkF n lw sk tf wa i = 0 := c39
            refine lv_iload S.1 S.2.1 dX3_firstWrong_42 (lv_at hl 4 rfl) ?_
            refine aw_ifeq (P := os = true) (tgt := 59) S dX3_firstWrong_44 (by decide) (fun c44 => ?_) (fun c44 => ?_)
            · have hz : wrP n lw sk (fun j => hoK (kd j)) br tf wa ol os i = false := by unfold wrP; simp [c44, z39]
              refine lv_iinc (v := nI (i + 1)) (lv' := [(5, .int (nI (i + 1))), (0, .ref (ad 3)), (1, .ref at_), (2, .int (nI mm)), (3, .int (if ol = true then 1 else 0)), (4, .int (if os = true then 1 else 0))]) S.1 S.2.1 dX3_firstWrong_59 hl (k := 5) rfl (by first | exact nI_1 _ | exact nI_add _ _ | rfl) (by decide) rfl (fun ls hl => ?_)
              refine lv_goto (tgt := 7) S.1 S.2.1 dX3_firstWrong_62 (by decide) ?_
              exact ih7 (i + 1) (by first | assumption | omega) (lt_s hp hz) (by omega) _ _ _ (lv_sub hl [1, 2, 3, 4, 5, 0] rfl) hw
            · refine lv_aload_n S.1 S.2.1 dX3_firstWrong_47 rfl (lv_at hl 0 rfl) ?_
              refine aw_callV S hE (c_X3_whoIsSpent l G ad n lw sg sa kd sk br (laB n lw sk tf wa (i + 1)) (tf i) (fa_fill (hB n (fun j => hoK (kd j)) tf (i + 1)) wh n) wk (by first | assumption | omega) (by first | assumption | omega)) gX3_firstWrong_X3_whoIsSpent (n := 0) rfl (by decide +kernel) rfl (by rw [hRm]; exact ⟨Nat.le_of_ble_eq_true rfl, Nat.le_of_ble_eq_true rfl⟩) (by rw [hRm]; exact ⟨Nat.le_of_ble_eq_true rfl, Nat.le_of_ble_eq_true rfl⟩) hw hA hl.1 [0, 1, 3, 4, 5] rfl rfl (aw_recv (i := 0) hE hw rfl rfl rfl) rfl (Nat.le_of_ble_eq_true rfl) dX3_firstWrong_48 ?_
              rintro v w1 H locs ⟨rfl, rfl⟩ hw
              have hw : bW G A s.heap [[(ad 3, .inr (3, [.ref (ad 2), .ref (ad 13), .ref (ad 14), .int (laB n lw sk tf wa (i + 1)), .int (tf i)]))], [(ad 13, .inl (gI G, 6, .inl (fa_fill (hB n (fun j => hoK (kd j)) tf (i + 1)) wh n)))], [(ad 14, .inl (gI G, 6, .inl (fa_fill (kA n lw sk tf ((i + 1) - 1)) wk n)))], [(ad 2, .inr (0, [.ref (ad 8), .ref (ad 9), .ref (ad 10), .ref (ad 11), .ref (ad 12), .int (nI n), .int lw]))], [(ad 8, .inl (gL G, 6, .inr (.inr (.inr (.inr sg)))))], fam n sa (slE kd sk br), [(at_, .inl (gI G, 12, .inl tf))], [(ad 10, .inl (gI G, 12, .inl wa))]] H locs := hw
              refine W.eq (g2 := (F0 m 51 ls [.int (spF n br (fa_fill (hB n (fun j => hoK (kd j)) tf (i + 1)) wh n))])) rfl ?_
              refine lv_bipush (v := (-9)) S.1 S.2.1 dX3_firstWrong_51 (by decide) ?_
              refine lv_icmp_eq (tgt := 59) S.1 S.2.1 dX3_firstWrong_53 (by decide) (fun c53 => ?_) (fun c53 => ?_)
              · have hz : wrP n lw sk (fun j => hoK (kd j)) br tf wa ol os i = false := by unfold wrP; rw [en_sp] at c53; simp [c53, z39]
                refine lv_iinc (v := nI (i + 1)) (lv' := [(5, .int (nI (i + 1))), (0, .ref (ad 3)), (1, .ref at_), (2, .int (nI mm)), (3, .int (if ol = true then 1 else 0)), (4, .int (if os = true then 1 else 0))]) S.1 S.2.1 dX3_firstWrong_59 hl (k := 5) rfl (by first | exact nI_1 _ | exact nI_add _ _ | rfl) (by decide) rfl (fun ls hl => ?_)
                refine lv_goto (tgt := 7) S.1 S.2.1 dX3_firstWrong_62 (by decide) ?_
                exact ih7 (i + 1) (by first | assumption | omega) (lt_s hp hz) (by omega) _ _ _ (lv_sub hl [1, 2, 3, 4, 5, 0] rfl) hw
              · have hz : wrP n lw sk (fun j => hoK (kd j)) br tf wa ol os i = true := by unfold wrP; rw [en_sp] at c53; simp [c44, c53]
                have hk : fwF n lw sk (fun j => hoK (kd j)) br tf wa mm ol os = i := fF_is (by omega) hz hp
                have hq : min (fwF n lw sk (fun j => hoK (kd j)) br tf wa mm ol os + 1) mm = i + 1 := by rw [hk]; omega
                refine lv_iload S.1 S.2.1 dX3_firstWrong_56 (lv_at hl 5 rfl) ?_
                have hw := Eq.mp (congrArg (fun z_ : Int32 => bW G A s.heap [[(ad 3, .inr (3, [.ref (ad 2), .ref (ad 13), .ref (ad 14), .int z_, .int (tf i)]))], [(ad 13, .inl (gI G, 6, .inl (fa_fill (hB n (fun j => hoK (kd j)) tf (i + 1)) wh n)))], [(ad 14, .inl (gI G, 6, .inl (fa_fill (kA n lw sk tf ((i + 1) - 1)) wk n)))], [(ad 2, .inr (0, [.ref (ad 8), .ref (ad 9), .ref (ad 10), .ref (ad 11), .ref (ad 12), .int (nI n), .int lw]))], [(ad 8, .inl (gL G, 6, .inr (.inr (.inr (.inr sg)))))], fam n sa (slE kd sk br), [(at_, .inl (gI G, 12, .inl tf))], [(ad 10, .inl (gI G, 12, .inl wa))]] H locs) (show (laB n lw sk tf wa (i + 1) : Int32) = laB n lw sk tf wa (min (fwF n lw sk (fun j => hoK (kd j)) br tf wa mm ol os + 1) mm) from (by rw [hq]))) hw
                have hw : bW G A s.heap [[(ad 3, .inr (3, [.ref (ad 2), .ref (ad 13), .ref (ad 14), .int (laB n lw sk tf wa (min (fwF n lw sk (fun j => hoK (kd j)) br tf wa mm ol os + 1) mm)), .int (tf i)]))], [(ad 13, .inl (gI G, 6, .inl (fa_fill (hB n (fun j => hoK (kd j)) tf (i + 1)) wh n)))], [(ad 14, .inl (gI G, 6, .inl (fa_fill (kA n lw sk tf ((i + 1) - 1)) wk n)))], [(ad 2, .inr (0, [.ref (ad 8), .ref (ad 9), .ref (ad 10), .ref (ad 11), .ref (ad 12), .int (nI n), .int lw]))], [(ad 8, .inl (gL G, 6, .inr (.inr (.inr (.inr sg)))))], fam n sa (slE kd sk br), [(at_, .inl (gI G, 12, .inl tf))], [(ad 10, .inl (gI G, 12, .inl wa))]] H locs := hw
                have hw := Eq.mp (congrArg (fun z_ : Int32 => bW G A s.heap [[(ad 3, .inr (3, [.ref (ad 2), .ref (ad 13), .ref (ad 14), .int (laB n lw sk tf wa (min (fwF n lw sk (fun j => hoK (kd j)) br tf wa mm ol os + 1) mm)), .int z_]))], [(ad 13, .inl (gI G, 6, .inl (fa_fill (hB n (fun j => hoK (kd j)) tf (i + 1)) wh n)))], [(ad 14, .inl (gI G, 6, .inl (fa_fill (kA n lw sk tf ((i + 1) - 1)) wk n)))], [(ad 2, .inr (0, [.ref (ad 8), .ref (ad 9), .ref (ad 10), .ref (ad 11), .ref (ad 12), .int (nI n), .int lw]))], [(ad 8, .inl (gL G, 6, .inr (.inr (.inr (.inr sg)))))], fam n sa (slE kd sk br), [(at_, .inl (gI G, 12, .inl tf))], [(ad 10, .inl (gI G, 12, .inl wa))]] H locs) (show ((tf i) : Int32) = uB tf (min (fwF n lw sk (fun j => hoK (kd j)) br tf wa mm ol os + 1) mm) from (by rw [hq]; rfl))) hw
                have hw : bW G A s.heap [[(ad 3, .inr (3, [.ref (ad 2), .ref (ad 13), .ref (ad 14), .int (laB n lw sk tf wa (min (fwF n lw sk (fun j => hoK (kd j)) br tf wa mm ol os + 1) mm)), .int (uB tf (min (fwF n lw sk (fun j => hoK (kd j)) br tf wa mm ol os + 1) mm))]))], [(ad 13, .inl (gI G, 6, .inl (fa_fill (hB n (fun j => hoK (kd j)) tf (i + 1)) wh n)))], [(ad 14, .inl (gI G, 6, .inl (fa_fill (kA n lw sk tf ((i + 1) - 1)) wk n)))], [(ad 2, .inr (0, [.ref (ad 8), .ref (ad 9), .ref (ad 10), .ref (ad 11), .ref (ad 12), .int (nI n), .int lw]))], [(ad 8, .inl (gL G, 6, .inr (.inr (.inr (.inr sg)))))], fam n sa (slE kd sk br), [(at_, .inl (gI G, 12, .inl tf))], [(ad 10, .inl (gI G, 12, .inl wa))]] H locs := hw
                have hw := aw_arr hw 2 rfl (fa_fill (kA n lw sk tf ((min (fwF n lw sk (fun j => hoK (kd j)) br tf wa mm ol os + 1) mm) - 1)) wk n) (fun _ _ => by rw [hq])
                have hw : bW G A s.heap [[(ad 3, .inr (3, [.ref (ad 2), .ref (ad 13), .ref (ad 14), .int (laB n lw sk tf wa (min (fwF n lw sk (fun j => hoK (kd j)) br tf wa mm ol os + 1) mm)), .int (uB tf (min (fwF n lw sk (fun j => hoK (kd j)) br tf wa mm ol os + 1) mm))]))], [(ad 13, .inl (gI G, 6, .inl (fa_fill (hB n (fun j => hoK (kd j)) tf (i + 1)) wh n)))], [(ad 14, .inl (gI G, 6, .inl (fa_fill (kA n lw sk tf ((min (fwF n lw sk (fun j => hoK (kd j)) br tf wa mm ol os + 1) mm) - 1)) wk n)))], [(ad 2, .inr (0, [.ref (ad 8), .ref (ad 9), .ref (ad 10), .ref (ad 11), .ref (ad 12), .int (nI n), .int lw]))], [(ad 8, .inl (gL G, 6, .inr (.inr (.inr (.inr sg)))))], fam n sa (slE kd sk br), [(at_, .inl (gI G, 12, .inl tf))], [(ad 10, .inl (gI G, 12, .inl wa))]] H locs := hw
                have hw := aw_arr hw 1 rfl (fa_fill (hB n (fun j => hoK (kd j)) tf (min (fwF n lw sk (fun j => hoK (kd j)) br tf wa mm ol os + 1) mm)) wh n) (fun _ _ => by rw [hq])
                have hw : bW G A s.heap [[(ad 3, .inr (3, [.ref (ad 2), .ref (ad 13), .ref (ad 14), .int (laB n lw sk tf wa (min (fwF n lw sk (fun j => hoK (kd j)) br tf wa mm ol os + 1) mm)), .int (uB tf (min (fwF n lw sk (fun j => hoK (kd j)) br tf wa mm ol os + 1) mm))]))], [(ad 13, .inl (gI G, 6, .inl (fa_fill (hB n (fun j => hoK (kd j)) tf (min (fwF n lw sk (fun j => hoK (kd j)) br tf wa mm ol os + 1) mm)) wh n)))], [(ad 14, .inl (gI G, 6, .inl (fa_fill (kA n lw sk tf ((min (fwF n lw sk (fun j => hoK (kd j)) br tf wa mm ol os + 1) mm) - 1)) wk n)))], [(ad 2, .inr (0, [.ref (ad 8), .ref (ad 9), .ref (ad 10), .ref (ad 11), .ref (ad 12), .int (nI n), .int lw]))], [(ad 8, .inl (gL G, 6, .inr (.inr (.inr (.inr sg)))))], fam n sa (slE kd sk br), [(at_, .inl (gI G, 12, .inl tf))], [(ad 10, .inl (gI G, 12, .inl wa))]] H locs := hw
                refine aw_eqi (show (nI i : Int32) = noI (fwF n lw sk (fun j => hoK (kd j)) br tf wa mm ol os) mm from (by rw [hk, noI, if_pos (by omega)])) ?_
                exact aw_iret S hr hlk ha hQ hAe hw dX3_firstWrong_58 rfl (Nat.le_of_ble_eq_true rfl) (Nat.le_of_ble_eq_true rfl) ⟨rfl, rfl⟩
  exact loop7 _ 0 (by first | assumption | omega) (fun j hj => absurd hj (Nat.not_lt_zero j)) (Nat.lt_succ_self _) _ _ _ (lv_sub hl [1, 2, 3, 4, 5, 0] rfl) hw
