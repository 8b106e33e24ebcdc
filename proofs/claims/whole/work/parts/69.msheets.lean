/-! the reference: sheets -/
/-- what its sheets hold, beside the class's -/
def shR (sz sl_ shm : Nat → Int32) (ln : Nat → Int32) (le : Nat → Nat) (ce : Nat → Nat → Int32) : Prop :=
  ∀ k, k < 4 → (sz k = if ln k = -1 then -1 else nI (le k)) ∧ (¬ ln k = -1 → sl_ k = ln k) ∧ le k ≤ 60 ∧ (¬ ln k = -1 → ∀ i, i < le k → shm (60 * k + i) = ce k i)
theorem shR.neg {sz sl_ shm ln : Nat → Int32} {le : Nat → Nat} {ce : Nat → Nat → Int32} (h : shR sz sl_ shm ln le ce) {k : Nat} (hk : k < 4) : sz k < 0 ↔ ln k = -1 := by
  have q := h k hk
  rw [q.1]
  by_cases z : ln k = -1
  · rw [if_pos z]; exact ⟨fun _ => z, fun _ => by decide⟩
  · rw [if_neg z, fa_lt, nI_toInt (by omega), li_0]; exact ⟨fun y => by omega, fun y => absurd y z⟩
theorem shR.pos {sz sl_ shm ln : Nat → Int32} {le : Nat → Nat} {ce : Nat → Nat → Int32} (h : shR sz sl_ shm ln le ce) {k : Nat} (hk : k < 4) : 0 ≤ sz k ↔ ¬ ln k = -1 := by
  rw [← h.neg hk, fa_lt, fa_le]; omega
theorem shR.len {sz sl_ shm ln : Nat → Int32} {le : Nat → Nat} {ce : Nat → Nat → Int32} (h : shR sz sl_ shm ln le ce) {k : Nat} (hk : k < 4) (z : ¬ ln k = -1) : (sz k).toInt = le k := by
  have q := h k hk
  rw [q.1, if_neg z, nI_toInt (by omega)]
theorem sh_lose {sz sl_ shm ln : Nat → Int32} {le : Nat → Nat} {ce : Nat → Nat → Int32} (h : shR sz sl_ shm ln le ce) {k : Nat} : shR (upd sz k (-1)) sl_ shm (va_up ln k (-1)) (va_up le k 0) ce := by
  intro j hj
  have q := h j hj
  unfold upd va_up
  by_cases e : j = k
  · rw [if_pos e, if_pos e, if_pos e, if_pos rfl]
    exact ⟨rfl, fun z => absurd rfl z, Nat.zero_le _, fun z => absurd rfl z⟩
  · rw [if_neg e, if_neg e, if_neg e]
    exact q
set_option maxRecDepth 100000 in
set_option maxHeartbeats 4000000 in
theorem c_X11_noCell (l : Launch) (G : aw_G) (am : Nat → Nat) (fl : Int32) (n : Nat) (lw : Int32) (nn ra rsn nr : Nat) (tr : Int32) (sz sl_ shm : Nat → Int32) (ln : Nat → Int32) (le : Nat → Nat) (ce : Nat → Nat → Int32) (kv : Nat) (iv : Int32) (hR : shR sz sl_ shm ln le ce) (hkv : kv < 4) : CT l G yX11_noCell wsX11_noCell ({ frames := 1, cells := 0, slots := 0, locals := 25 }) [.ref (am 31), .int (nI kv), .int iv] [[(am 31, mdO am fl n lw nn ra rsn nr tr)], [(am 26, .inl (gI G, 4, .inl sz))]] (dt (some (.int (if ln kv = -1 then 1 else if 0 ≤ iv.toInt ∧ iv.toInt < le kv then 0 else 3))) [[(am 31, mdO am fl n lw nn ra rsn nr tr)], [(am 26, .inl (gI G, 4, .inl sz))]]) := by
  refine CT.of (cc := cX11_noCell) (nL := 3) (ret := (some .int)) (by decide) rfl (Nat.le_of_ble_eq_true rfl) ?_
  intro p e s m below meth c R args Q A hRm ha hQ hAe hA S hE hr hlk hnm H locs hH0 hL0 ls hl hw
  have S : CallFix p m c cX11_noCell 3 s args wsX11_noCell RX11 := S
  have hl : lv_has ls 3 [(0, .ref (am 31)), (1, .int (nI kv)), (2, .int iv)] := hl
  have hinX11 : ∀ w ∈ u_ws RX11 TX11 31, w ∈ wsX11_noCell := by decide +kernel
  have hf68 := S.2.2.2.2 (.fieldLink RX11 68 "AwakeTurnsModel" "sheetSize" "[I") (by decide +kernel)
  refine lv_aload_n S.1 S.2.1 dX11_noCell_0 rfl (lv_at hl 0 rfl) ?_
  refine aw_get S hE hw 0 (C := RX11) (T := TX11) (N := 31) rfl rfl hinX11 26 (by decide) hf68 rfl dX11_noCell_1 ?_
  refine lv_iload_n S.1 S.2.1 dX11_noCell_4 rfl (lv_at hl 1 rfl) ?_
  refine aw_iald S hE hw 1 (k := kv) rfl (by omega) (by decide) dX11_noCell_5 ?_
  refine lv_if_ge (tgt := 13) S.1 S.2.1 dX11_noCell_6 (by decide) (fun c6 => ?_) (fun c6 => ?_)
  · have hz := (hR.pos hkv).mp c6
    have hlen := hR.len hkv hz
    refine lv_iload_n S.1 S.2.1 dX11_noCell_13 rfl (lv_at hl 2 rfl) ?_
    refine lv_i2l S.1 S.2.1 dX11_noCell_14 rfl ?_
    refine lv_lconst (v := 0) S.1 S.2.1 dX11_noCell_15 (by decide) ?_
    refine lv_aload_n S.1 S.2.1 dX11_noCell_16 rfl (lv_at hl 0 rfl) ?_
    refine aw_get S hE hw 0 (C := RX11) (T := TX11) (N := 31) rfl rfl hinX11 26 (by decide) hf68 rfl dX11_noCell_17 ?_
    refine lv_iload_n S.1 S.2.1 dX11_noCell_20 rfl (lv_at hl 1 rfl) ?_
    refine aw_iald S hE hw 1 (k := kv) rfl (by omega) (by decide) dX11_noCell_21 ?_
    refine lv_i2l S.1 S.2.1 dX11_noCell_22 rfl ?_
    refine lv_lconst (v := 1) S.1 S.2.1 dX11_noCell_23 (by decide) ?_
    refine lv_lsub S.1 S.2.1 dX11_noCell_24 ?_
    refine aw_callS S hE (c_X11_in l G iv.toInt64 0 (((sz kv).toInt64) - 1)) gX11_noCell_X11_in (n := 3) rfl (by decide +kernel) rfl (by rw [hRm]; exact ⟨Nat.le_of_ble_eq_true rfl, Nat.le_of_ble_eq_true rfl⟩) (by rw [hRm]; exact ⟨Nat.le_of_ble_eq_true rfl, Nat.le_of_ble_eq_true rfl⟩) hw hA hl.1 [] rfl rfl rfl (Nat.le_of_ble_eq_true rfl) dX11_noCell_25 ?_
    rintro v w1 H locs ⟨rfl, rfl⟩ hw
    have hw : bW G A s.heap [[(am 31, mdO am fl n lw nn ra rsn nr tr)], [(am 26, .inl (gI G, 4, .inl sz))]] H locs := hw
    refine W.eq (g2 := (F0 m 28 ls [.int (if Int64.toInt 0 ≤ Int64.toInt iv.toInt64 ∧ Int64.toInt iv.toInt64 ≤ Int64.toInt (((sz kv).toInt64) - 1) then 1 else 0)])) rfl ?_
    refine aw_ifeq (P := Int64.toInt 0 ≤ Int64.toInt iv.toInt64 ∧ Int64.toInt iv.toInt64 ≤ Int64.toInt (((sz kv).toInt64) - 1)) (tgt := 35) S dX11_noCell_28 (by decide) (fun c28 => ?_) (fun c28 => ?_)
    · rw [l64, l64_0, l64_sub1, hlen] at c28
      refine lv_iconst (v := 3) S.1 S.2.1 dX11_noCell_35 (by decide) ?_
      refine aw_eqi (show (3 : Int32) = (if ln kv = -1 then 1 else if 0 ≤ iv.toInt ∧ iv.toInt < le kv then 0 else 3) from (by rw [if_neg hz, if_neg (show ¬ (0 ≤ iv.toInt ∧ iv.toInt < le kv) by omega)])) ?_
      exact aw_iret S hr hlk ha hQ hAe hw dX11_noCell_36 rfl (Nat.le_of_ble_eq_true rfl) (Nat.le_of_ble_eq_true rfl) ⟨rfl, rfl⟩
    · rw [l64, l64_0, l64_sub1, hlen] at c28
      refine lv_iconst (v := 0) S.1 S.2.1 dX11_noCell_31 (by decide) ?_
      refine lv_goto (tgt := 36) S.1 S.2.1 dX11_noCell_32 (by decide) ?_
      refine aw_eqi (show (0 : Int32) = (if ln kv = -1 then 1 else if 0 ≤ iv.toInt ∧ iv.toInt < le kv then 0 else 3) from (by rw [if_neg hz, if_pos (show 0 ≤ iv.toInt ∧ iv.toInt < le kv by omega)])) ?_
      exact aw_iret S hr hlk ha hQ hAe hw dX11_noCell_36 rfl (Nat.le_of_ble_eq_true rfl) (Nat.le_of_ble_eq_true rfl) ⟨rfl, rfl⟩
  · have hz : ln kv = -1 := Decidable.not_not.mp (fun q => c6 ((hR.pos hkv).mpr q))
    refine lv_iconst (v := 1) S.1 S.2.1 dX11_noCell_9 (by decide) ?_
    refine lv_goto (tgt := 36) S.1 S.2.1 dX11_noCell_10 (by decide) ?_
    refine aw_eqi (show (1 : Int32) = (if ln kv = -1 then 1 else if 0 ≤ iv.toInt ∧ iv.toInt < le kv then 0 else 3) from (by rw [if_pos hz])) ?_
    exact aw_iret S hr hlk ha hQ hAe hw dX11_noCell_36 rfl (Nat.le_of_ble_eq_true rfl) (Nat.le_of_ble_eq_true rfl) ⟨rfl, rfl⟩
set_option maxRecDepth 100000 in
set_option maxHeartbeats 4000000 in
theorem c_X11_lose (l : Launch) (G : aw_G) (am : Nat → Nat) (fl : Int32) (n : Nat) (lw : Int32) (nn ra rsn nr : Nat) (tr : Int32) (sz sl_ shm : Nat → Int32) (ln : Nat → Int32) (le : Nat → Nat) (ce : Nat → Nat → Int32) (kv : Int32) (hR : shR sz sl_ shm ln le ce) : CT l G yX11_lose wsX11_lose ({ frames := 2, cells := 0, slots := 0, locals := 45 }) [.ref (am 31), .int kv] [[(am 31, mdO am fl n lw nn ra rsn nr tr)], [(am 26, .inl (gI G, 4, .inl sz))], [(am 27, .inl (gI G, 4, .inl sl_))], [(am 28, .inl (gI G, 240, .inl shm))]] (fun v w => v = some (.int (f_lose ln kv)) ∧ ∃ sz sl_ shm : Nat → Int32, shR sz sl_ shm (f_setIf (0 ≤ kv.toInt ∧ kv.toInt < 4) ln (tn kv) (-1)) (f_setIf (0 ≤ kv.toInt ∧ kv.toInt < 4) le (tn kv) 0) ce ∧ w = [[(am 31, mdO am fl n lw nn ra rsn nr tr)], [(am 26, .inl (gI G, 4, .inl sz))], [(am 27, .inl (gI G, 4, .inl sl_))], [(am 28, .inl (gI G, 240, .inl shm))]]) := by
  refine CT.of (cc := cX11_lose) (nL := 3) (ret := (some .int)) (by decide) rfl (Nat.le_of_ble_eq_true rfl) ?_
  intro p e s m below meth c R args Q A hRm ha hQ hAe hA S hE hr hlk hnm H locs hH0 hL0 ls hl hw
  have S : CallFix p m c cX11_lose 3 s args wsX11_lose RX11 := S
  have hl : lv_has ls 3 [(0, .ref (am 31)), (1, .int kv)] := hl
  have hinX11 : ∀ w ∈ u_ws RX11 TX11 31, w ∈ wsX11_lose := by decide +kernel
  have hf68 := S.2.2.2.2 (.fieldLink RX11 68 "AwakeTurnsModel" "sheetSize" "[I") (by decide +kernel)
  refine lv_iload_n S.1 S.2.1 dX11_lose_0 rfl (lv_at hl 1 rfl) ?_
  refine aw_callS S hE (c_X11_noSheet l G kv) gX11_lose_X11_noSheet (n := 1) rfl (by decide +kernel) rfl (by rw [hRm]; exact ⟨Nat.le_of_ble_eq_true rfl, Nat.le_of_ble_eq_true rfl⟩) (by rw [hRm]; exact ⟨Nat.le_of_ble_eq_true rfl, Nat.le_of_ble_eq_true rfl⟩) hw hA hl.1 [] rfl rfl rfl (Nat.le_of_ble_eq_true rfl) dX11_lose_1 ?_
  rintro v w1 H locs ⟨rfl, rfl⟩ hw
  have hw : bW G A s.heap [[(am 31, mdO am fl n lw nn ra rsn nr tr)], [(am 26, .inl (gI G, 4, .inl sz))], [(am 27, .inl (gI G, 4, .inl sl_))], [(am 28, .inl (gI G, 240, .inl shm))]] H locs := hw
  refine W.eq (g2 := (F0 m 4 ls [.int (if ¬ (0 ≤ kv.toInt ∧ kv.toInt < 4) then 1 else 0)])) rfl ?_
  refine aw_ifeq (P := ¬ (0 ≤ kv.toInt ∧ kv.toInt < 4)) (tgt := 9) S dX11_lose_4 (by decide) (fun c4 => ?_) (fun c4 => ?_)
  · have c4 := Decidable.not_not.mp c4
    have hb_kv : tn kv < 4 := aw_tnL c4
    have hl := Eq.mp (congrArg (fun z_ : Int32 => lv_has ls 3 [(0, .ref (am 31)), (1, .int z_)]) (show (kv : Int32) = nI (tn kv) from (aw_tnE c4))) hl
    have hl : lv_has ls 3 [(0, .ref (am 31)), (1, .int (nI (tn kv)))] := hl
    refine lv_aload_n S.1 S.2.1 dX11_lose_9 rfl (lv_at hl 0 rfl) ?_
    refine aw_get S hE hw 0 (C := RX11) (T := TX11) (N := 31) rfl rfl hinX11 26 (by decide) hf68 rfl dX11_lose_10 ?_
    refine lv_iload_n S.1 S.2.1 dX11_lose_13 rfl (lv_at hl 1 rfl) ?_
    refine aw_iald S hE hw 1 (k := (tn kv)) rfl (by omega) (by decide) dX11_lose_14 ?_
    have join23 : ∀ (H : Heap) (locs : List Loc), ∀ (ls : Array Slot), lv_has ls 3 [(0, .ref (am 31)), (1, .int (nI (tn kv)))] → bW G A s.heap [[(am 31, mdO am fl n lw nn ra rsn nr tr)], [(am 26, .inl (gI G, 4, .inl sz))], [(am 27, .inl (gI G, 4, .inl sl_))], [(am 28, .inl (gI G, 240, .inl shm))]] H locs → W p l e R s m args below meth c H locs 0 0 Q (F0 m 23 ls [.int (if ln (tn kv) = -1 then 0 else 1)]) := by
      intro  H locs ls hl hw
      refine lv_istore_n (lv' := [(2, .int (if ln (tn kv) = -1 then 0 else 1)), (0, .ref (am 31)), (1, .int (nI (tn kv)))]) S.1 S.2.1 dX11_lose_23 rfl hl (by decide) rfl (fun ls hl => ?_)
      refine lv_aload_n S.1 S.2.1 dX11_lose_24 rfl (lv_at hl 1 rfl) ?_
      refine aw_get S hE hw 0 (C := RX11) (T := TX11) (N := 31) rfl rfl hinX11 26 (by decide) hf68 rfl dX11_lose_25 ?_
      refine lv_iload_n S.1 S.2.1 dX11_lose_28 rfl (lv_at hl 2 rfl) ?_
      refine lv_iconst (v := (-1)) S.1 S.2.1 dX11_lose_29 (by decide) ?_
      refine aw_iast S hE hw 1 (k := (tn kv)) rfl (by omega) (by decide) dX11_lose_30 (fun H locs hw => ?_)
      have hw : bW G A s.heap [[(am 31, mdO am fl n lw nn ra rsn nr tr)], [(am 26, .inl (gI G, 4, .inl (upd sz (tn kv) (-1))))], [(am 27, .inl (gI G, 4, .inl sl_))], [(am 28, .inl (gI G, 240, .inl shm))]] H locs := hw
      refine lv_iload_n S.1 S.2.1 dX11_lose_31 rfl (lv_at hl 0 rfl) ?_
      refine aw_eqi (show (if ln (tn kv) = -1 then 0 else 1 : Int32) = f_lose ln kv from (by rw [f_lose, if_pos c4])) ?_
      exact aw_iret S hr hlk ha hQ hAe hw dX11_lose_32 rfl (Nat.le_of_ble_eq_true rfl) (Nat.le_of_ble_eq_true rfl) ⟨rfl, _, _, _, by rw [f_setIf, if_pos c4, f_setIf, if_pos c4]; exact sh_lose hR, rfl⟩
    refine lv_if_ge (tgt := 22) S.1 S.2.1 dX11_lose_15 (by decide) (fun c15 => ?_) (fun c15 => ?_)
    · refine lv_iconst (v := 1) S.1 S.2.1 dX11_lose_22 (by decide) ?_
      refine aw_eqi (show (1 : Int32) = if ln (tn kv) = -1 then 0 else 1 from (by rw [if_neg ((hR.pos hb_kv).mp c15)])) ?_
      exact join23  _ _ _ (lv_sub hl [0, 1] rfl) hw
    · refine lv_iconst (v := 0) S.1 S.2.1 dX11_lose_18 (by decide) ?_
      refine lv_goto (tgt := 23) S.1 S.2.1 dX11_lose_19 (by decide) ?_
      refine aw_eqi (show (0 : Int32) = if ln (tn kv) = -1 then 0 else 1 from (by rw [if_pos (Decidable.not_not.mp (fun q => c15 ((hR.pos hb_kv).mpr q)))])) ?_
      exact join23  _ _ _ (lv_sub hl [0, 1] rfl) hw
  · refine lv_iconst (v := (-1)) S.1 S.2.1 dX11_lose_7 (by decide) ?_
    refine aw_eqi (show ((-1) : Int32) = f_lose ln kv from (by rw [f_lose, if_neg c4])) ?_
    exact aw_iret S hr hlk ha hQ hAe hw dX11_lose_8 rfl (Nat.le_of_ble_eq_true rfl) (Nat.le_of_ble_eq_true rfl) ⟨rfl, _, _, _, by rw [f_setIf, if_neg c4, f_setIf, if_neg c4]; exact hR, rfl⟩
