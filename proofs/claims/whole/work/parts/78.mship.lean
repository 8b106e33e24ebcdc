/-! the reference: a ship read -/
/-- what the reading keeps: how far it is, and what it has read -/
def rdI (shm : Nat → Int32) (bs tl : Nat) (isb : Bool) (ra rs : Nat) (k1 k2 k3 : Nat → Int32) : Prop :=
  rs ≤ 6 ∧ (∀ x, x < ra → gdB shm bs tl x = true) ∧ (isb = true → ra = 1 + 4 * rs) ∧ (isb = false → gdB shm bs tl ra = false ∧ (ra < tl ∨ ¬ (9 ≤ ra ∧ ra % 4 = 1))) ∧
  ∀ j, j < rs → k1 j = kdT (cdF shm bs tl (1 + 4 * j + 1)) ∧ k2 j = cdF shm bs tl (1 + 4 * j + 1 + 1) - 48 ∧ k3 j = cdF shm bs tl (1 + 4 * j + 1 + 1 + 1) - 48
theorem gd0 {shm : Nat → Int32} {bs tl : Nat} : gdB shm bs tl 0 = true ↔ cdF shm bs tl 0 = 97 := by
  unfold gdB msB
  rw [if_pos rfl]; exact decide_eq_true_iff
theorem rdI_0 (shm : Nat → Int32) (bs tl : Nat) (k1 k2 k3 : Nat → Int32) : rdI shm bs tl (gdB shm bs tl 0) (0 + (if gdB shm bs tl 0 = true then 1 else 0)) 0 k1 k2 k3 := by
  by_cases h : gdB shm bs tl 0 = true
  · rw [if_pos h]
    refine ⟨by omega, fun x hx => ?_, fun _ => rfl, fun q => ?_, fun j hj => absurd hj (Nat.not_lt_zero j)⟩
    · rw [show x = 0 by omega]; exact h
    · rw [h] at q; cases q
  · rw [if_neg h]
    refine ⟨by omega, fun x hx => absurd hx (Nat.not_lt_zero x), fun q => absurd q h, fun q => ⟨q, Or.inr (by omega)⟩, fun j hj => absurd hj (Nat.not_lt_zero j)⟩
theorem rdI_t {shm : Nat → Int32} {bs tl rs : Nat} {k1 k2 k3 : Nat → Int32} (h : rdI shm bs tl true (1 + 4 * rs) rs k1 k2 k3) (h6 : rs < 6) (ha : ∀ x, 1 + 4 * rs ≤ x → x < 1 + 4 * rs + 4 → gdB shm bs tl x = true) :
    rdI shm bs tl true (1 + 4 * rs + 4) (rs + 1) (upd k1 rs (kdT (cdF shm bs tl (1 + 4 * rs + 1)))) (upd k2 rs (cdF shm bs tl (1 + 4 * rs + 1 + 1) - 48)) (upd k3 rs (cdF shm bs tl (1 + 4 * rs + 1 + 1 + 1) - 48)) := by
  obtain ⟨h1, h2, h3, h4, h5⟩ := h
  refine ⟨by omega, fun x hx => ?_, fun _ => by omega, fun q => (by cases q), fun j hj => ?_⟩
  · rcases Nat.lt_or_ge x (1 + 4 * rs) with q | q
    · exact h2 x q
    · exact ha x q hx
  · unfold upd
    by_cases e : j = rs
    · subst e; rw [if_pos rfl, if_pos rfl, if_pos rfl]; exact ⟨rfl, rfl, rfl⟩
    · rw [if_neg e, if_neg e, if_neg e]; exact h5 j (by omega)
theorem rdI_f {shm : Nat → Int32} {bs tl rs d : Nat} {k1 k2 k3 : Nat → Int32} (h : rdI shm bs tl true (1 + 4 * rs) rs k1 k2 k3) (hd : d < 4) (hc : rs < 2 ∨ 1 + 4 * rs < tl) (ha : ∀ x, 1 + 4 * rs ≤ x → x < 1 + 4 * rs + d → gdB shm bs tl x = true) (hf : gdB shm bs tl (1 + 4 * rs + d) = false) :
    rdI shm bs tl false (1 + 4 * rs + d) rs k1 k2 k3 := by
  obtain ⟨h1, h2, h3, h4, h5⟩ := h
  refine ⟨h1, fun x hx => ?_, fun q => (by cases q), fun _ => ⟨hf, by omega⟩, h5⟩
  rcases Nat.lt_or_ge x (1 + 4 * rs) with q | q
  · exact h2 x q
  · exact ha x q hx
theorem gd_lt {shm : Nat → Int32} {bs tl x : Nat} (h : gdB shm bs tl x = true) : x < tl := by
  rcases Nat.lt_or_ge x tl with q | q
  · exact q
  · unfold gdB cdF at h
    rw [if_neg (by omega)] at h
    unfold msB at h
    split at h
    · exact absurd h (by decide)
    · split at h
      · cases h
      · split at h
        · exact absurd h (by decide)
        · split at h
          · exact absurd h (by decide)
          · split at h
            · exact absurd h (by decide)
            · exact absurd h (by decide)
theorem gd_in {shm : Nat → Int32} {bs tl x : Nat} (h : x < tl) : (!msB (shm (bs + x)) x) = !gdB shm bs tl x := by
  unfold gdB cdF; rw [if_pos h]
theorem rd_le {shm : Nat → Int32} {bs tl ra : Nat} (h : ∀ x, x < ra → gdB shm bs tl x = true) : ra ≤ tl := by
  rcases Nat.eq_zero_or_pos ra with q | q
  · omega
  · have := gd_lt (h (ra - 1) (by omega)); omega
theorem rd_ok {shm : Nat → Int32} {bs tl ra rs : Nat} {k1 k2 k3 : Nat → Int32} (h : rdI shm bs tl true ra rs k1 k2 k3) (h2 : 2 ≤ rs) (h3 : tl ≤ ra) : ffF shm bs tl = -9 ∧ tl = 1 + 4 * rs ∧ ∀ j, j < rs → k1 j = tkd shm bs j ∧ k2 j = tsk shm bs j ∧ k3 j = tbr shm bs j := by
  obtain ⟨q1, q2, q3, q4, q5⟩ := h
  have q3 := q3 rfl
  have ql := rd_le q2
  have hn : ffN shm bs tl = tl := fF_none (fun j hj => by rw [gd_in hj, q2 j (by omega)]; rfl)
  refine ⟨?_, by omega, fun j hj => ?_⟩
  · unfold ffF
    rw [hn, if_neg (Nat.lt_irrefl _), if_pos (by omega)]
  · obtain ⟨e1, e2, e3⟩ := q5 j hj
    unfold cdF at e1 e2 e3
    rw [if_pos (by omega)] at e1 e2 e3
    unfold tkd tsk tbr
    rw [e1, e2, e3]
    rw [show bs + (1 + 4 * j + 1) = bs + 1 + 4 * j + 1 by omega, show bs + (1 + 4 * j + 1 + 1) = bs + 1 + 4 * j + 2 by omega, show bs + (1 + 4 * j + 1 + 1 + 1) = bs + 1 + 4 * j + 3 by omega]
    exact ⟨rfl, rfl, rfl⟩
theorem rd_no {shm : Nat → Int32} {bs tl ra rs : Nat} {k1 k2 k3 : Nat → Int32} (hb : tl ≤ 240) (h : rdI shm bs tl false ra rs k1 k2 k3) : ffF shm bs tl = nI ra ∧ ¬ ffF shm bs tl = -9 := by
  obtain ⟨q1, q2, q3, q4, q5⟩ := h
  obtain ⟨z1, z2⟩ := q4 rfl
  have ql := rd_le q2
  have e : ffF shm bs tl = nI ra := by
    unfold ffF
    rcases Nat.lt_or_ge ra tl with q | q
    · have hn : ffN shm bs tl = ra := fF_is q (by rw [gd_in q, z1]; rfl) (fun j hj => by rw [gd_in (tl := tl) (by omega), q2 j hj]; rfl)
      rw [hn, if_pos q]
    · have hn : ffN shm bs tl = tl := fF_none (fun j hj => by rw [gd_in hj, q2 j (by omega)]; rfl)
      rw [hn, if_neg (Nat.lt_irrefl _), if_neg (by omega), show ra = tl by omega]
  refine ⟨e, ?_⟩
  rw [e, fa_eq, nI_toInt (by omega), li_m9]
  omega
theorem ff_cong {f g : Nat → Int32} {i j tl : Nat} (h : ∀ x, x < tl → f (i + x) = g (j + x)) : ffF f i tl = ffF g j tl := by
  unfold ffF
  rw [show ffN f i tl = ffN g j tl from fF_cong (fun x hx => by rw [h x hx])]
set_option maxRecDepth 100000 in
set_option maxHeartbeats 4000000 in
theorem c_X11_readsShip (l : Launch) (G : aw_G) (am : Nat → Nat) (fl : Int32) (n : Nat) (lw : Int32) (nn ra rsn nr : Nat) (tr : Int32) (shm rk rsk rbe : Nat → Int32) (bs tl : Nat) (hbs : bs + tl ≤ 240) : CT l G yX11_readsShip wsX11_readsShip ({ frames := 3, cells := 0, slots := 0, locals := 76 }) [.ref (am 31), .int (nI bs), .int (nI tl)] [[(am 31, mdO am fl n lw nn ra rsn nr tr)], [(am 13, .inl (gI G, 6, .inl rk))], [(am 14, .inl (gI G, 6, .inl rsk))], [(am 15, .inl (gI G, 6, .inl rbe))], [(am 28, .inl (gI G, 240, .inl shm))]] (fun v w => ∃ (isb : Bool) (ra1 rs1 : Nat) (k1 k2 k3 : Nat → Int32), v = some (.int (if isb = true then 1 else 0)) ∧ rdI shm bs tl isb ra1 rs1 k1 k2 k3 ∧ (isb = true → 2 ≤ rs1 ∧ tl ≤ ra1) ∧ w = [[(am 31, mdO am fl n lw nn ra1 rs1 nr tr)], [(am 13, .inl (gI G, 6, .inl k1))], [(am 14, .inl (gI G, 6, .inl k2))], [(am 15, .inl (gI G, 6, .inl k3))], [(am 28, .inl (gI G, 240, .inl shm))]]) := by
  refine CT.of (cc := cX11_readsShip) (nL := 4) (ret := (some .boolean)) (by decide) rfl (Nat.le_of_ble_eq_true rfl) ?_
  intro p e s m below meth c R args Q A hRm ha hQ hAe hA S hE hr hlk hnm H locs hH0 hL0 ls hl hw
  have S : CallFix p m c cX11_readsShip 4 s args wsX11_readsShip RX11 := S
  have hl : lv_has ls 4 [(0, .ref (am 31)), (1, .int (nI bs)), (2, .int (nI tl))] := hl
  have hinX11 : ∀ w ∈ u_ws RX11 TX11 31, w ∈ wsX11_readsShip := by decide +kernel
  have hf99 := S.2.2.2.2 (.fieldLink RX11 99 "AwakeTurnsModel" "readAt" "I") (by decide +kernel)
  have hf106 := S.2.2.2.2 (.fieldLink RX11 106 "AwakeTurnsModel" "readSleepers" "I") (by decide +kernel)
  refine lv_aload_n S.1 S.2.1 dX11_readsShip_0 rfl (lv_at hl 0 rfl) ?_
  refine lv_iconst (v := 0) S.1 S.2.1 dX11_readsShip_1 (by decide) ?_
  refine aw_putf S hE hw 0 (C := RX11) (T := TX11) (N := 31) rfl rfl hinX11 tyX11 tyX11_ok nmX11 11 (by decide) hf99 rfl rfl rfl (Nat.le_of_ble_eq_true rfl) dX11_readsShip_2 (fun H locs hw => ?_)
  have hw : bW G A s.heap [[(am 31, mdO am fl n lw nn 0 rsn nr tr)], [(am 13, .inl (gI G, 6, .inl rk))], [(am 14, .inl (gI G, 6, .inl rsk))], [(am 15, .inl (gI G, 6, .inl rbe))], [(am 28, .inl (gI G, 240, .inl shm))]] H locs := hw
  refine lv_aload_n S.1 S.2.1 dX11_readsShip_5 rfl (lv_at hl 0 rfl) ?_
  refine lv_iconst (v := 0) S.1 S.2.1 dX11_readsShip_6 (by decide) ?_
  refine aw_putf S hE hw 0 (C := RX11) (T := TX11) (N := 31) rfl rfl hinX11 tyX11 tyX11_ok nmX11 12 (by decide) hf106 rfl rfl rfl (Nat.le_of_ble_eq_true rfl) dX11_readsShip_7 (fun H locs hw => ?_)
  have hw : bW G A s.heap [[(am 31, mdO am fl n lw nn 0 0 nr tr)], [(am 13, .inl (gI G, 6, .inl rk))], [(am 14, .inl (gI G, 6, .inl rsk))], [(am 15, .inl (gI G, 6, .inl rbe))], [(am 28, .inl (gI G, 240, .inl shm))]] H locs := hw
  refine lv_aload_n S.1 S.2.1 dX11_readsShip_10 rfl (lv_at hl 0 rfl) ?_
  refine lv_iload_n S.1 S.2.1 dX11_readsShip_11 rfl (lv_at hl 1 rfl) ?_
  refine lv_iload_n S.1 S.2.1 dX11_readsShip_12 rfl (lv_at hl 2 rfl) ?_
  refine aw_callV S hE (c_X11_codeAt l G am fl n lw nn 0 0 nr tr shm bs tl (by first | assumption | omega) (by first | assumption | omega)) gX11_readsShip_X11_codeAt (n := 2) rfl (by decide +kernel) rfl (by rw [hRm]; exact ⟨Nat.le_of_ble_eq_true rfl, Nat.le_of_ble_eq_true rfl⟩) (by rw [hRm]; exact ⟨Nat.le_of_ble_eq_true rfl, Nat.le_of_ble_eq_true rfl⟩) hw hA hl.1 [0, 4] rfl rfl (aw_recv (i := 0) hE hw rfl rfl rfl) rfl (Nat.le_of_ble_eq_true rfl) dX11_readsShip_13 ?_
  rintro v w1 H locs ⟨rfl, rfl⟩ hw
  have hw : bW G A s.heap [[(am 31, mdO am fl n lw nn 0 0 nr tr)], [(am 13, .inl (gI G, 6, .inl rk))], [(am 14, .inl (gI G, 6, .inl rsk))], [(am 15, .inl (gI G, 6, .inl rbe))], [(am 28, .inl (gI G, 240, .inl shm))]] H locs := hw
  refine W.eq (g2 := (F0 m 16 ls [.int (cdF shm bs tl 0)])) rfl ?_
  refine lv_bipush (v := 97) S.1 S.2.1 dX11_readsShip_16 (by decide) ?_
  have join26 : ∀ (H : Heap) (locs : List Loc), ∀ (ls : Array Slot), lv_has ls 4 [(0, .ref (am 31)), (1, .int (nI bs)), (2, .int (nI tl))] → bW G A s.heap [[(am 31, mdO am fl n lw nn 0 0 nr tr)], [(am 13, .inl (gI G, 6, .inl rk))], [(am 14, .inl (gI G, 6, .inl rsk))], [(am 15, .inl (gI G, 6, .inl rbe))], [(am 28, .inl (gI G, 240, .inl shm))]] H locs → W p l e R s m args below meth c H locs 0 0 Q (F0 m 26 ls [.int (if gdB shm bs tl 0 = true then 1 else 0)]) := by
    intro  H locs ls hl hw
    refine lv_istore_n (lv' := [(3, .int (if gdB shm bs tl 0 = true then 1 else 0)), (0, .ref (am 31)), (1, .int (nI bs)), (2, .int (nI tl))]) S.1 S.2.1 dX11_readsShip_26 rfl hl (by decide) rfl (fun ls hl => ?_)
    refine lv_aload_n S.1 S.2.1 dX11_readsShip_27 rfl (lv_at hl 1 rfl) ?_
    refine lv_dup S.1 S.2.1 dX11_readsShip_28 rfl ?_
    refine aw_get S hE hw 0 (C := RX11) (T := TX11) (N := 31) rfl rfl hinX11 11 (by decide) hf99 rfl dX11_readsShip_29 ?_
    refine lv_iload_n S.1 S.2.1 dX11_readsShip_32 rfl (lv_at hl 0 rfl) ?_
    have join41 : ∀ (H : Heap) (locs : List Loc), ∀ (ls : Array Slot), lv_has ls 4 [(3, .int (if gdB shm bs tl 0 = true then 1 else 0)), (0, .ref (am 31)), (1, .int (nI bs)), (2, .int (nI tl))] → bW G A s.heap [[(am 31, mdO am fl n lw nn 0 0 nr tr)], [(am 13, .inl (gI G, 6, .inl rk))], [(am 14, .inl (gI G, 6, .inl rsk))], [(am 15, .inl (gI G, 6, .inl rbe))], [(am 28, .inl (gI G, 240, .inl shm))]] H locs → W p l e R s m args below meth c H locs 0 0 Q (F0 m 41 ls [.int (nI (if gdB shm bs tl 0 = true then 1 else 0)), .int 0, .ref (am 31)]) := by
      intro  H locs ls hl hw
      refine lv_iadd S.1 S.2.1 dX11_readsShip_41 ?_
      refine aw_eqi (show (0 + (nI (if gdB shm bs tl 0 = true then 1 else 0)) : Int32) = nI (0 + (if gdB shm bs tl 0 = true then 1 else 0)) from (nI_add 0 (if gdB shm bs tl 0 = true then 1 else 0))) ?_
      refine aw_putf S hE hw 0 (C := RX11) (T := TX11) (N := 31) rfl rfl hinX11 tyX11 tyX11_ok nmX11 11 (by decide) hf99 rfl rfl rfl (Nat.le_of_ble_eq_true rfl) dX11_readsShip_42 (fun H locs hw => ?_)
      have hw : bW G A s.heap [[(am 31, mdO am fl n lw nn (0 + (if gdB shm bs tl 0 = true then 1 else 0)) 0 nr tr)], [(am 13, .inl (gI G, 6, .inl rk))], [(am 14, .inl (gI G, 6, .inl rsk))], [(am 15, .inl (gI G, 6, .inl rbe))], [(am 28, .inl (gI G, 240, .inl shm))]] H locs := hw
      have loop45 : ∀ (fu : Nat) (k : Nat) (isb : Bool) (ra1 : Nat) (rs1 : Nat) (k1 : Nat → Int32) (k2 : Nat → Int32) (k3 : Nat → Int32), (rdI shm bs tl isb ra1 rs1 k1 k2 k3) → (isb = true → 6 - rs1 < k) → k < fu → ∀ (ls : Array Slot) (H : Heap) (locs : List Loc), lv_has ls 4 [(0, .ref (am 31)), (1, .int (nI bs)), (2, .int (nI tl)), (3, .int (if isb = true then 1 else 0))] → bW G A s.heap [[(am 31, mdO am fl n lw nn ra1 rs1 nr tr)], [(am 13, .inl (gI G, 6, .inl k1))], [(am 14, .inl (gI G, 6, .inl k2))], [(am 15, .inl (gI G, 6, .inl k3))], [(am 28, .inl (gI G, 240, .inl shm))]] H locs → W p l e R s m args below meth c H locs 0 0 Q (F0 m 45 ls []) := by
        intro fu
        induction fu with
        | zero => intro k isb ra1 rs1 k1 k2 k3 _ _ hm; exact absurd hm (Nat.not_lt_zero _)
        | succ fu ih45 =>
          intro k isb ra1 rs1 k1 k2 k3 hinv hk hm ls H locs hl hw
          refine lv_iload_n S.1 S.2.1 dX11_readsShip_45 rfl (lv_at hl 3 rfl) ?_
          refine aw_ifeq (P := isb = true) (tgt := 75) S dX11_readsShip_46 (by decide) (fun c46 => ?_) (fun c46 => ?_)
          · refine lv_iload_n S.1 S.2.1 dX11_readsShip_75 rfl (lv_at hl 3 rfl) ?_
            exact aw_iret S hr hlk ha hQ hAe hw dX11_readsShip_76 (aw_nb _) (Nat.le_of_ble_eq_true rfl) (Nat.le_of_ble_eq_true rfl) ⟨isb, ra1, rs1, k1, k2, k3, rfl, hinv, fun q => absurd q c46, rfl⟩
          · have ex_ra : ra1 = 1 + 4 * rs1 := hinv.2.2.1 c46
            subst ex_ra
            have hk0 := hk c46
            have hr6 := hinv.1
            subst c46
            have hl : lv_has ls 4 [(0, .ref (am 31)), (1, .int (nI bs)), (2, .int (nI tl)), (3, .int (if true = true then 1 else 0))] := hl
            have hw : bW G A s.heap [[(am 31, mdO am fl n lw nn (1 + 4 * rs1) rs1 nr tr)], [(am 13, .inl (gI G, 6, .inl k1))], [(am 14, .inl (gI G, 6, .inl k2))], [(am 15, .inl (gI G, 6, .inl k3))], [(am 28, .inl (gI G, 240, .inl shm))]] H locs := hw
            refine lv_aload_n S.1 S.2.1 dX11_readsShip_49 rfl (lv_at hl 0 rfl) ?_
            refine aw_get S hE hw 0 (C := RX11) (T := TX11) (N := 31) rfl rfl hinX11 12 (by decide) hf106 rfl dX11_readsShip_50 ?_
            refine lv_iconst (v := 2) S.1 S.2.1 dX11_readsShip_53 (by decide) ?_
            refine aw_icmpN_lt (x := rs1) (y := 2) (tgt := 65) S (by omega) (by omega) dX11_readsShip_54 (by decide) (fun c54 => ?_) (fun c54 => ?_)
            · have hgo : rs1 < 2 ∨ 1 + 4 * rs1 < tl := Or.inl c54
              refine lv_aload_n S.1 S.2.1 dX11_readsShip_65 rfl (lv_at hl 0 rfl) ?_
              refine lv_iload_n S.1 S.2.1 dX11_readsShip_66 rfl (lv_at hl 1 rfl) ?_
              refine lv_iload_n S.1 S.2.1 dX11_readsShip_67 rfl (lv_at hl 2 rfl) ?_
              refine aw_callV S hE (c_X11_readsSleeper l G am fl n lw nn ra rs1 nr tr shm k1 k2 k3 bs tl (by first | assumption | omega) hinv.1) gX11_readsShip_X11_readsSleeper (n := 2) rfl (by decide +kernel) rfl (by rw [hRm]; exact ⟨Nat.le_of_ble_eq_true rfl, Nat.le_of_ble_eq_true rfl⟩) (by rw [hRm]; exact ⟨Nat.le_of_ble_eq_true rfl, Nat.le_of_ble_eq_true rfl⟩) hw hA hl.1 [0, 1, 2, 3, 4] rfl rfl (aw_recv (i := 0) hE hw rfl rfl rfl) rfl (Nat.le_of_ble_eq_true rfl) dX11_readsShip_68 ?_
              rintro v w1 H locs (⟨rfl, h6, ha, rfl⟩ | ⟨d, rfl, hd, ha, hf, rfl⟩) hw
              · have hw : bW G A s.heap [[(am 31, mdO am fl n lw nn (1 + 4 * rs1 + 4) (rs1 + 1) nr tr)], [(am 13, .inl (gI G, 6, .inl (upd k1 rs1 (kdT (cdF shm bs tl (1 + 4 * rs1 + 1))))))], [(am 14, .inl (gI G, 6, .inl (upd k2 rs1 (cdF shm bs tl (1 + 4 * rs1 + 1 + 1) - 48))))], [(am 15, .inl (gI G, 6, .inl (upd k3 rs1 (cdF shm bs tl (1 + 4 * rs1 + 1 + 1 + 1) - 48))))], [(am 28, .inl (gI G, 240, .inl shm))]] H locs := hw
                refine W.eq (g2 := (F0 m 71 ls [.int 1])) rfl ?_
                refine lv_istore_n (lv' := [(3, .int 1), (0, .ref (am 31)), (1, .int (nI bs)), (2, .int (nI tl))]) S.1 S.2.1 dX11_readsShip_71 rfl hl (by decide) rfl (fun ls hl => ?_)
                refine lv_goto (tgt := 45) S.1 S.2.1 dX11_readsShip_72 (by decide) ?_
                have hl := Eq.mp (congrArg (fun z_ : Int32 => lv_has ls 4 [(3, .int z_), (0, .ref (am 31)), (1, .int (nI bs)), (2, .int (nI tl))]) (show (1 : Int32) = if true = true then 1 else 0 from (if_pos rfl).symm)) hl
                have hl : lv_has ls 4 [(3, .int (if true = true then 1 else 0)), (0, .ref (am 31)), (1, .int (nI bs)), (2, .int (nI tl))] := hl
                have hN := rdI_t hinv h6 ha
                exact ih45 (k - 1) true (1 + 4 * rs1 + 4) (rs1 + 1) (upd k1 rs1 (kdT (cdF shm bs tl (1 + 4 * rs1 + 1)))) (upd k2 rs1 (cdF shm bs tl (1 + 4 * rs1 + 1 + 1) - 48)) (upd k3 rs1 (cdF shm bs tl (1 + 4 * rs1 + 1 + 1 + 1) - 48)) hN (fun q => by first | omega | (cases q)) (by omega) _ _ _ (lv_sub hl [1, 2, 3, 0] rfl) hw
              have hw : bW G A s.heap [[(am 31, mdO am fl n lw nn (1 + 4 * rs1 + d) rs1 nr tr)], [(am 13, .inl (gI G, 6, .inl k1))], [(am 14, .inl (gI G, 6, .inl k2))], [(am 15, .inl (gI G, 6, .inl k3))], [(am 28, .inl (gI G, 240, .inl shm))]] H locs := hw
              refine W.eq (g2 := (F0 m 71 ls [.int 0])) rfl ?_
              refine lv_istore_n (lv' := [(3, .int 0), (0, .ref (am 31)), (1, .int (nI bs)), (2, .int (nI tl))]) S.1 S.2.1 dX11_readsShip_71 rfl hl (by decide) rfl (fun ls hl => ?_)
              refine lv_goto (tgt := 45) S.1 S.2.1 dX11_readsShip_72 (by decide) ?_
              have hl := Eq.mp (congrArg (fun z_ : Int32 => lv_has ls 4 [(3, .int z_), (0, .ref (am 31)), (1, .int (nI bs)), (2, .int (nI tl))]) (show (0 : Int32) = if false = true then 1 else 0 from (if_neg (by decide)).symm)) hl
              have hl : lv_has ls 4 [(3, .int (if false = true then 1 else 0)), (0, .ref (am 31)), (1, .int (nI bs)), (2, .int (nI tl))] := hl
              have hN := rdI_f hinv hd hgo ha hf
              exact ih45 (k - 1) false (1 + 4 * rs1 + d) rs1 k1 k2 k3 hN (fun q => by first | omega | (cases q)) (by omega) _ _ _ (lv_sub hl [1, 2, 3, 0] rfl) hw
            · refine lv_aload_n S.1 S.2.1 dX11_readsShip_57 rfl (lv_at hl 0 rfl) ?_
              refine aw_get S hE hw 0 (C := RX11) (T := TX11) (N := 31) rfl rfl hinX11 11 (by decide) hf99 rfl dX11_readsShip_58 ?_
              refine lv_iload_n S.1 S.2.1 dX11_readsShip_61 rfl (lv_at hl 2 rfl) ?_
              refine aw_icmpN_ge (x := (1 + 4 * rs1)) (y := tl) (tgt := 75) S (by omega) (by omega) dX11_readsShip_62 (by decide) (fun c62 => ?_) (fun c62 => ?_)
              · refine lv_iload_n S.1 S.2.1 dX11_readsShip_75 rfl (lv_at hl 3 rfl) ?_
                exact aw_iret S hr hlk ha hQ hAe hw dX11_readsShip_76 (aw_nb _) (Nat.le_of_ble_eq_true rfl) (Nat.le_of_ble_eq_true rfl) ⟨true, 1 + 4 * rs1, rs1, k1, k2, k3, rfl, hinv, fun _ => by omega, rfl⟩
              · have hgo : rs1 < 2 ∨ 1 + 4 * rs1 < tl := Or.inr (by omega)
                refine lv_aload_n S.1 S.2.1 dX11_readsShip_65 rfl (lv_at hl 0 rfl) ?_
                refine lv_iload_n S.1 S.2.1 dX11_readsShip_66 rfl (lv_at hl 1 rfl) ?_
                refine lv_iload_n S.1 S.2.1 dX11_readsShip_67 rfl (lv_at hl 2 rfl) ?_
                refine aw_callV S hE (c_X11_readsSleeper l G am fl n lw nn ra rs1 nr tr shm k1 k2 k3 bs tl (by first | assumption | omega) hinv.1) gX11_readsShip_X11_readsSleeper (n := 2) rfl (by decide +kernel) rfl (by rw [hRm]; exact ⟨Nat.le_of_ble_eq_true rfl, Nat.le_of_ble_eq_true rfl⟩) (by rw [hRm]; exact ⟨Nat.le_of_ble_eq_true rfl, Nat.le_of_ble_eq_true rfl⟩) hw hA hl.1 [0, 1, 2, 3, 4] rfl rfl (aw_recv (i := 0) hE hw rfl rfl rfl) rfl (Nat.le_of_ble_eq_true rfl) dX11_readsShip_68 ?_
                rintro v w1 H locs (⟨rfl, h6, ha, rfl⟩ | ⟨d, rfl, hd, ha, hf, rfl⟩) hw
                · have hw : bW G A s.heap [[(am 31, mdO am fl n lw nn (1 + 4 * rs1 + 4) (rs1 + 1) nr tr)], [(am 13, .inl (gI G, 6, .inl (upd k1 rs1 (kdT (cdF shm bs tl (1 + 4 * rs1 + 1))))))], [(am 14, .inl (gI G, 6, .inl (upd k2 rs1 (cdF shm bs tl (1 + 4 * rs1 + 1 + 1) - 48))))], [(am 15, .inl (gI G, 6, .inl (upd k3 rs1 (cdF shm bs tl (1 + 4 * rs1 + 1 + 1 + 1) - 48))))], [(am 28, .inl (gI G, 240, .inl shm))]] H locs := hw
                  refine W.eq (g2 := (F0 m 71 ls [.int 1])) rfl ?_
                  refine lv_istore_n (lv' := [(3, .int 1), (0, .ref (am 31)), (1, .int (nI bs)), (2, .int (nI tl))]) S.1 S.2.1 dX11_readsShip_71 rfl hl (by decide) rfl (fun ls hl => ?_)
                  refine lv_goto (tgt := 45) S.1 S.2.1 dX11_readsShip_72 (by decide) ?_
                  have hl := Eq.mp (congrArg (fun z_ : Int32 => lv_has ls 4 [(3, .int z_), (0, .ref (am 31)), (1, .int (nI bs)), (2, .int (nI tl))]) (show (1 : Int32) = if true = true then 1 else 0 from (if_pos rfl).symm)) hl
                  have hl : lv_has ls 4 [(3, .int (if true = true then 1 else 0)), (0, .ref (am 31)), (1, .int (nI bs)), (2, .int (nI tl))] := hl
                  have hN := rdI_t hinv h6 ha
                  exact ih45 (k - 1) true (1 + 4 * rs1 + 4) (rs1 + 1) (upd k1 rs1 (kdT (cdF shm bs tl (1 + 4 * rs1 + 1)))) (upd k2 rs1 (cdF shm bs tl (1 + 4 * rs1 + 1 + 1) - 48)) (upd k3 rs1 (cdF shm bs tl (1 + 4 * rs1 + 1 + 1 + 1) - 48)) hN (fun q => by first | omega | (cases q)) (by omega) _ _ _ (lv_sub hl [1, 2, 3, 0] rfl) hw
                have hw : bW G A s.heap [[(am 31, mdO am fl n lw nn (1 + 4 * rs1 + d) rs1 nr tr)], [(am 13, .inl (gI G, 6, .inl k1))], [(am 14, .inl (gI G, 6, .inl k2))], [(am 15, .inl (gI G, 6, .inl k3))], [(am 28, .inl (gI G, 240, .inl shm))]] H locs := hw
                refine W.eq (g2 := (F0 m 71 ls [.int 0])) rfl ?_
                refine lv_istore_n (lv' := [(3, .int 0), (0, .ref (am 31)), (1, .int (nI bs)), (2, .int (nI tl))]) S.1 S.2.1 dX11_readsShip_71 rfl hl (by decide) rfl (fun ls hl => ?_)
                refine lv_goto (tgt := 45) S.1 S.2.1 dX11_readsShip_72 (by decide) ?_
                have hl := Eq.mp (congrArg (fun z_ : Int32 => lv_has ls 4 [(3, .int z_), (0, .ref (am 31)), (1, .int (nI bs)), (2, .int (nI tl))]) (show (0 : Int32) = if false = true then 1 else 0 from (if_neg (by decide)).symm)) hl
                have hl : lv_has ls 4 [(3, .int (if false = true then 1 else 0)), (0, .ref (am 31)), (1, .int (nI bs)), (2, .int (nI tl))] := hl
                have hN := rdI_f hinv hd hgo ha hf
                exact ih45 (k - 1) false (1 + 4 * rs1 + d) rs1 k1 k2 k3 hN (fun q => by first | omega | (cases q)) (by omega) _ _ _ (lv_sub hl [1, 2, 3, 0] rfl) hw
      exact loop45 _ 8 (gdB shm bs tl 0) (0 + (if gdB shm bs tl 0 = true then 1 else 0)) 0 rk rsk rbe (rdI_0 shm bs tl rk rsk rbe) (fun _ => by omega) (Nat.lt_succ_self _) _ _ _ (lv_sub hl [1, 2, 3, 0] rfl) hw
    refine aw_ifeq (P := gdB shm bs tl 0 = true) (tgt := 40) S dX11_readsShip_33 (by decide) (fun c33 => ?_) (fun c33 => ?_)
    · refine lv_iconst (v := 0) S.1 S.2.1 dX11_readsShip_40 (by decide) ?_
      refine aw_eqi (show (0 : Int32) = nI (if gdB shm bs tl 0 = true then 1 else 0) from (by rw [if_neg c33]; rfl)) ?_
      exact join41  _ _ _ (lv_sub hl [0, 1, 2, 3] rfl) hw
    · refine lv_iconst (v := 1) S.1 S.2.1 dX11_readsShip_36 (by decide) ?_
      refine lv_goto (tgt := 41) S.1 S.2.1 dX11_readsShip_37 (by decide) ?_
      refine aw_eqi (show (1 : Int32) = nI (if gdB shm bs tl 0 = true then 1 else 0) from (by rw [if_pos c33]; rfl)) ?_
      exact join41  _ _ _ (lv_sub hl [0, 1, 2, 3] rfl) hw
  refine lv_icmp_ne (tgt := 25) S.1 S.2.1 dX11_readsShip_18 (by decide) (fun c18 => ?_) (fun c18 => ?_)
  · refine lv_iconst (v := 0) S.1 S.2.1 dX11_readsShip_25 (by decide) ?_
    refine aw_eqi (show (0 : Int32) = if gdB shm bs tl 0 = true then 1 else 0 from (by rw [if_neg (fun q => c18 (gd0.mp q))])) ?_
    exact join26  _ _ _ (lv_sub hl [0, 1, 2] rfl) hw
  · refine lv_iconst (v := 1) S.1 S.2.1 dX11_readsShip_21 (by decide) ?_
    refine lv_goto (tgt := 26) S.1 S.2.1 dX11_readsShip_22 (by decide) ?_
    refine aw_eqi (show (1 : Int32) = if gdB shm bs tl 0 = true then 1 else 0 from (by rw [if_pos (gd0.mpr c18)])) ?_
    exact join26  _ _ _ (lv_sub hl [0, 1, 2] rfl) hw
