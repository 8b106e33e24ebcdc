/-! the reference: cells -/
theorem fc_nc {ln lv iv : Int32} {le : Nat} (h : ln = -1 ∨ ln = lv) : fcF ln le lv iv = if ln = -1 then 1 else if 0 ≤ iv.toInt ∧ iv.toInt < le then 0 else 3 := by
  unfold fcF
  by_cases z : ln = -1
  · rw [if_pos z, if_pos z]
  · rw [if_neg z, if_neg z, if_neg (fun q => q (h.resolve_left z))]
theorem sh_put {sz sl_ shm ln : Nat → Int32} {le : Nat → Nat} {ce : Nat → Nat → Int32} (h : shR sz sl_ shm ln le ce) {k i : Nat} {v : Int32} (hk : k < 4) (hi : i < le k) : shR sz sl_ (upd shm (60 * k + i) v) ln le (va_up ce k (upd (ce k) i v)) := by
  intro j hj
  have q := h j hj
  have q2 := (h k hk).2.2.1
  refine ⟨q.1, q.2.1, q.2.2.1, fun z x hx => ?_⟩
  unfold upd va_up
  by_cases e : j = k
  · subst e
    rw [if_pos rfl]
    by_cases y : x = i
    · rw [if_pos (by omega)]
      show v = if x = i then v else ce j x
      rw [if_pos y]
    · rw [if_neg (by omega)]
      show shm _ = if x = i then v else ce j x
      rw [if_neg y]; exact q.2.2.2 z x hx
  · rw [if_neg e, if_neg (by have := q.2.2.1; omega)]
    exact q.2.2.2 z x hx
set_option maxRecDepth 100000 in
set_option maxHeartbeats 4000000 in
theorem c_X11_cellsBarred (l : Launch) (G : aw_G) (am : Nat → Nat) (fl : Int32) (n : Nat) (lw : Int32) (nn ra rsn nr : Nat) (tr : Int32) (sz sl_ shm : Nat → Int32) (ln : Nat → Int32) (le : Nat → Nat) (ce : Nat → Nat → Int32) (kv : Nat) (lv iv nv : Int32) (hR : shR sz sl_ shm ln le ce) (hkv : kv < 4) : CT l G yX11_cellsBarred wsX11_cellsBarred ({ frames := 1, cells := 0, slots := 0, locals := 23 }) [.ref (am 31), .int (nI kv), .int lv, .int iv, .long nv.toInt64] [[(am 31, mdO am fl n lw nn ra rsn nr tr)], [(am 26, .inl (gI G, 4, .inl sz))], [(am 27, .inl (gI G, 4, .inl sl_))]] (dt (some (.int (if frF (ln kv) (le kv) lv iv nv = 0 then 0 else -10 - frF (ln kv) (le kv) lv iv nv))) [[(am 31, mdO am (if frF (ln kv) (le kv) lv iv nv = 0 then fl else frF (ln kv) (le kv) lv iv nv) n lw nn ra rsn nr tr)], [(am 26, .inl (gI G, 4, .inl sz))], [(am 27, .inl (gI G, 4, .inl sl_))]]) := by
  refine CT.of (cc := cX11_cellsBarred) (nL := 6) (ret := (some .int)) (by decide) rfl (Nat.le_of_ble_eq_true rfl) ?_
  intro p e s m below meth c R args Q A hRm ha hQ hAe hA S hE hr hlk hnm H locs hH0 hL0 ls hl hw
  have S : CallFix p m c cX11_cellsBarred 6 s args wsX11_cellsBarred RX11 := S
  have hl : lv_has ls 6 [(0, .ref (am 31)), (1, .int (nI kv)), (2, .int lv), (3, .int iv), (4, .long nv.toInt64)] := hl
  have hinX11 : ∀ w ∈ u_ws RX11 TX11 31, w ∈ wsX11_cellsBarred := by decide +kernel
  have hf68 := S.2.2.2.2 (.fieldLink RX11 68 "AwakeTurnsModel" "sheetSize" "[I") (by decide +kernel)
  have hf71 := S.2.2.2.2 (.fieldLink RX11 71 "AwakeTurnsModel" "sheetLane" "[I") (by decide +kernel)
  have e1 : nv.toInt64.toInt = nv.toInt := l64 nv
  refine lv_aload_n S.1 S.2.1 dX11_cellsBarred_0 rfl (lv_at hl 0 rfl) ?_
  refine aw_get S hE hw 0 (C := RX11) (T := TX11) (N := 31) rfl rfl hinX11 26 (by decide) hf68 rfl dX11_cellsBarred_1 ?_
  refine lv_iload_n S.1 S.2.1 dX11_cellsBarred_4 rfl (lv_at hl 1 rfl) ?_
  refine aw_iald S hE hw 1 (k := kv) rfl (by omega) (by decide) dX11_cellsBarred_5 ?_
  refine lv_if_lt (tgt := 25) S.1 S.2.1 dX11_cellsBarred_6 (by decide) (fun c6 => ?_) (fun c6 => ?_)
  · refine lv_aload_n S.1 S.2.1 dX11_cellsBarred_25 rfl (lv_at hl 0 rfl) ?_
    refine aw_get S hE hw 0 (C := RX11) (T := TX11) (N := 31) rfl rfl hinX11 26 (by decide) hf68 rfl dX11_cellsBarred_26 ?_
    refine lv_iload_n S.1 S.2.1 dX11_cellsBarred_29 rfl (lv_at hl 1 rfl) ?_
    refine aw_iald S hE hw 1 (k := kv) rfl (by omega) (by decide) dX11_cellsBarred_30 ?_
    refine lv_if_ge (tgt := 40) S.1 S.2.1 dX11_cellsBarred_31 (by decide) (fun c31 => ?_) (fun c31 => ?_)
    · exact absurd ((hR.neg hkv).mp c6) ((hR.pos hkv).mp c31)
    · have hFR : frF (ln kv) (le kv) lv iv nv = 1 := by rw [frF, if_pos ((hR.neg hkv).mp c6)]
      refine lv_aload_n S.1 S.2.1 dX11_cellsBarred_34 rfl (lv_at hl 0 rfl) ?_
      refine lv_iconst (v := 1) S.1 S.2.1 dX11_cellsBarred_35 (by decide) ?_
      refine aw_callV S hE (c_X11_failed l G am fl n lw nn ra rsn nr tr 1) gX11_cellsBarred_X11_failed (n := 1) rfl (by decide +kernel) rfl (by rw [hRm]; exact ⟨Nat.le_of_ble_eq_true rfl, Nat.le_of_ble_eq_true rfl⟩) (by rw [hRm]; exact ⟨Nat.le_of_ble_eq_true rfl, Nat.le_of_ble_eq_true rfl⟩) hw hA hl.1 [0] rfl rfl (aw_recv (i := 0) hE hw rfl rfl rfl) rfl (Nat.le_of_ble_eq_true rfl) dX11_cellsBarred_36 ?_
      rintro v w1 H locs ⟨rfl, rfl⟩ hw
      have hw : bW G A s.heap [[(am 31, mdO am 1 n lw nn ra rsn nr tr)], [(am 26, .inl (gI G, 4, .inl sz))], [(am 27, .inl (gI G, 4, .inl sl_))]] H locs := hw
      refine W.eq (g2 := (F0 m 39 ls [.int (-10 - 1)])) rfl ?_
      have hw := Eq.mp (congrArg (fun z_ : Int32 => bW G A s.heap [[(am 31, mdO am z_ n lw nn ra rsn nr tr)], [(am 26, .inl (gI G, 4, .inl sz))], [(am 27, .inl (gI G, 4, .inl sl_))]] H locs) (show (1 : Int32) = if frF (ln kv) (le kv) lv iv nv = 0 then fl else frF (ln kv) (le kv) lv iv nv from (by rw [hFR, if_neg (by decide)]))) hw
      have hw : bW G A s.heap [[(am 31, mdO am (if frF (ln kv) (le kv) lv iv nv = 0 then fl else frF (ln kv) (le kv) lv iv nv) n lw nn ra rsn nr tr)], [(am 26, .inl (gI G, 4, .inl sz))], [(am 27, .inl (gI G, 4, .inl sl_))]] H locs := hw
      refine aw_eqi (show (-10 - 1 : Int32) = if frF (ln kv) (le kv) lv iv nv = 0 then 0 else -10 - frF (ln kv) (le kv) lv iv nv from (by rw [hFR, if_neg (by decide)])) ?_
      exact aw_iret S hr hlk ha hQ hAe hw dX11_cellsBarred_39 rfl (Nat.le_of_ble_eq_true rfl) (Nat.le_of_ble_eq_true rfl) ⟨rfl, rfl⟩
  · have hz : ¬ ln kv = -1 := fun q => c6 ((hR.neg hkv).mpr q)
    have hsl := (hR kv hkv).2.1 hz
    have hlen := hR.len hkv hz
    refine lv_aload_n S.1 S.2.1 dX11_cellsBarred_9 rfl (lv_at hl 0 rfl) ?_
    refine aw_get S hE hw 0 (C := RX11) (T := TX11) (N := 31) rfl rfl hinX11 27 (by decide) hf71 rfl dX11_cellsBarred_10 ?_
    refine lv_iload_n S.1 S.2.1 dX11_cellsBarred_13 rfl (lv_at hl 1 rfl) ?_
    refine aw_iald S hE hw 2 (k := kv) rfl (by omega) (by decide) dX11_cellsBarred_14 ?_
    refine lv_iload_n S.1 S.2.1 dX11_cellsBarred_15 rfl (lv_at hl 2 rfl) ?_
    refine lv_icmp_eq (tgt := 25) S.1 S.2.1 dX11_cellsBarred_16 (by decide) (fun c16 => ?_) (fun c16 => ?_)
    · rw [hsl] at c16
      refine lv_aload_n S.1 S.2.1 dX11_cellsBarred_25 rfl (lv_at hl 0 rfl) ?_
      refine aw_get S hE hw 0 (C := RX11) (T := TX11) (N := 31) rfl rfl hinX11 26 (by decide) hf68 rfl dX11_cellsBarred_26 ?_
      refine lv_iload_n S.1 S.2.1 dX11_cellsBarred_29 rfl (lv_at hl 1 rfl) ?_
      refine aw_iald S hE hw 1 (k := kv) rfl (by omega) (by decide) dX11_cellsBarred_30 ?_
      refine lv_if_ge (tgt := 40) S.1 S.2.1 dX11_cellsBarred_31 (by decide) (fun c31 => ?_) (fun c31 => ?_)
      · refine lv_lload S.1 S.2.1 dX11_cellsBarred_40 (lv_at hl 4 rfl) ?_
        refine lv_lconst (v := 0) S.1 S.2.1 dX11_cellsBarred_42 (by decide) ?_
        refine W.lcmp S.1 S.2.1 dX11_cellsBarred_43 ?_
        refine aw_lcmp_ge (tgt := 53) S dX11_cellsBarred_44 (by decide) (fun c44 => ?_) (fun c44 => ?_)
        · rw [fa_lt64, l64_0, e1] at c44
          refine lv_iload_n S.1 S.2.1 dX11_cellsBarred_53 rfl (lv_at hl 3 rfl) ?_
          refine lv_lload S.1 S.2.1 dX11_cellsBarred_54 (lv_at hl 4 rfl) ?_
          refine lv_aload_n S.1 S.2.1 dX11_cellsBarred_56 rfl (lv_at hl 0 rfl) ?_
          refine aw_get S hE hw 0 (C := RX11) (T := TX11) (N := 31) rfl rfl hinX11 26 (by decide) hf68 rfl dX11_cellsBarred_57 ?_
          refine lv_iload_n S.1 S.2.1 dX11_cellsBarred_60 rfl (lv_at hl 1 rfl) ?_
          refine aw_iald S hE hw 1 (k := kv) rfl (by omega) (by decide) dX11_cellsBarred_61 ?_
          refine aw_callS S hE (c_X11_isBeyond l G iv nv.toInt64 (sz kv) (by rw [e1]; have h1 := Int32.toInt_lt nv; have h2 := Int32.le_toInt nv; omega)) gX11_cellsBarred_X11_isBeyond (n := 3) rfl (by decide +kernel) rfl (by rw [hRm]; exact ⟨Nat.le_of_ble_eq_true rfl, Nat.le_of_ble_eq_true rfl⟩) (by rw [hRm]; exact ⟨Nat.le_of_ble_eq_true rfl, Nat.le_of_ble_eq_true rfl⟩) hw hA hl.1 [] rfl rfl rfl (Nat.le_of_ble_eq_true rfl) dX11_cellsBarred_62 ?_
          rintro v w1 H locs ⟨rfl, rfl⟩ hw
          have hw : bW G A s.heap [[(am 31, mdO am fl n lw nn ra rsn nr tr)], [(am 26, .inl (gI G, 4, .inl sz))], [(am 27, .inl (gI G, 4, .inl sl_))]] H locs := hw
          refine W.eq (g2 := (F0 m 65 ls [.int (if iv.toInt < 0 ∨ nv.toInt64.toInt < 0 ∨ (sz kv).toInt < iv.toInt + nv.toInt64.toInt then 1 else 0)])) rfl ?_
          refine aw_ifeq (P := iv.toInt < 0 ∨ nv.toInt64.toInt < 0 ∨ (sz kv).toInt < iv.toInt + nv.toInt64.toInt) (tgt := 76) S dX11_cellsBarred_65 (by decide) (fun c65 => ?_) (fun c65 => ?_)
          · rw [e1, hlen] at c65
            have hFR : frF (ln kv) (le kv) lv iv nv = 0 := by rw [frF, if_neg hz, if_neg (fun q => q c16), if_neg (by omega), if_pos (by omega)]
            refine lv_iconst (v := 0) S.1 S.2.1 dX11_cellsBarred_76 (by decide) ?_
            have hw := Eq.mp (congrArg (fun z_ : Int32 => bW G A s.heap [[(am 31, mdO am z_ n lw nn ra rsn nr tr)], [(am 26, .inl (gI G, 4, .inl sz))], [(am 27, .inl (gI G, 4, .inl sl_))]] H locs) (show (fl : Int32) = if frF (ln kv) (le kv) lv iv nv = 0 then fl else frF (ln kv) (le kv) lv iv nv from (by rw [hFR, if_pos rfl]))) hw
            have hw : bW G A s.heap [[(am 31, mdO am (if frF (ln kv) (le kv) lv iv nv = 0 then fl else frF (ln kv) (le kv) lv iv nv) n lw nn ra rsn nr tr)], [(am 26, .inl (gI G, 4, .inl sz))], [(am 27, .inl (gI G, 4, .inl sl_))]] H locs := hw
            refine aw_eqi (show (0 : Int32) = if frF (ln kv) (le kv) lv iv nv = 0 then 0 else -10 - frF (ln kv) (le kv) lv iv nv from (by rw [hFR, if_pos rfl])) ?_
            exact aw_iret S hr hlk ha hQ hAe hw dX11_cellsBarred_77 rfl (Nat.le_of_ble_eq_true rfl) (Nat.le_of_ble_eq_true rfl) ⟨rfl, rfl⟩
          · rw [e1, hlen] at c65
            have hFR : frF (ln kv) (le kv) lv iv nv = 3 := by rw [frF, if_neg hz, if_neg (fun q => q c16), if_neg (by omega), if_neg (by omega)]
            refine lv_aload_n S.1 S.2.1 dX11_cellsBarred_68 rfl (lv_at hl 0 rfl) ?_
            refine lv_iconst (v := 3) S.1 S.2.1 dX11_cellsBarred_69 (by decide) ?_
            refine aw_callV S hE (c_X11_failed l G am fl n lw nn ra rsn nr tr 3) gX11_cellsBarred_X11_failed (n := 1) rfl (by decide +kernel) rfl (by rw [hRm]; exact ⟨Nat.le_of_ble_eq_true rfl, Nat.le_of_ble_eq_true rfl⟩) (by rw [hRm]; exact ⟨Nat.le_of_ble_eq_true rfl, Nat.le_of_ble_eq_true rfl⟩) hw hA hl.1 [0] rfl rfl (aw_recv (i := 0) hE hw rfl rfl rfl) rfl (Nat.le_of_ble_eq_true rfl) dX11_cellsBarred_70 ?_
            rintro v w1 H locs ⟨rfl, rfl⟩ hw
            have hw : bW G A s.heap [[(am 31, mdO am 3 n lw nn ra rsn nr tr)], [(am 26, .inl (gI G, 4, .inl sz))], [(am 27, .inl (gI G, 4, .inl sl_))]] H locs := hw
            refine W.eq (g2 := (F0 m 73 ls [.int (-10 - 3)])) rfl ?_
            refine lv_goto (tgt := 77) S.1 S.2.1 dX11_cellsBarred_73 (by decide) ?_
            have hw := Eq.mp (congrArg (fun z_ : Int32 => bW G A s.heap [[(am 31, mdO am z_ n lw nn ra rsn nr tr)], [(am 26, .inl (gI G, 4, .inl sz))], [(am 27, .inl (gI G, 4, .inl sl_))]] H locs) (show (3 : Int32) = if frF (ln kv) (le kv) lv iv nv = 0 then fl else frF (ln kv) (le kv) lv iv nv from (by rw [hFR, if_neg (by decide)]))) hw
            have hw : bW G A s.heap [[(am 31, mdO am (if frF (ln kv) (le kv) lv iv nv = 0 then fl else frF (ln kv) (le kv) lv iv nv) n lw nn ra rsn nr tr)], [(am 26, .inl (gI G, 4, .inl sz))], [(am 27, .inl (gI G, 4, .inl sl_))]] H locs := hw
            refine aw_eqi (show (-10 - 3 : Int32) = if frF (ln kv) (le kv) lv iv nv = 0 then 0 else -10 - frF (ln kv) (le kv) lv iv nv from (by rw [hFR, if_neg (by decide)])) ?_
            exact aw_iret S hr hlk ha hQ hAe hw dX11_cellsBarred_77 rfl (Nat.le_of_ble_eq_true rfl) (Nat.le_of_ble_eq_true rfl) ⟨rfl, rfl⟩
        · rw [fa_lt64, l64_0, e1] at c44
          have hFR : frF (ln kv) (le kv) lv iv nv = 4 := by rw [frF, if_neg hz, if_neg (fun q => q c16), if_pos (by omega)]
          refine lv_aload_n S.1 S.2.1 dX11_cellsBarred_47 rfl (lv_at hl 0 rfl) ?_
          refine lv_iconst (v := 4) S.1 S.2.1 dX11_cellsBarred_48 (by decide) ?_
          refine aw_callV S hE (c_X11_failed l G am fl n lw nn ra rsn nr tr 4) gX11_cellsBarred_X11_failed (n := 1) rfl (by decide +kernel) rfl (by rw [hRm]; exact ⟨Nat.le_of_ble_eq_true rfl, Nat.le_of_ble_eq_true rfl⟩) (by rw [hRm]; exact ⟨Nat.le_of_ble_eq_true rfl, Nat.le_of_ble_eq_true rfl⟩) hw hA hl.1 [0] rfl rfl (aw_recv (i := 0) hE hw rfl rfl rfl) rfl (Nat.le_of_ble_eq_true rfl) dX11_cellsBarred_49 ?_
          rintro v w1 H locs ⟨rfl, rfl⟩ hw
          have hw : bW G A s.heap [[(am 31, mdO am 4 n lw nn ra rsn nr tr)], [(am 26, .inl (gI G, 4, .inl sz))], [(am 27, .inl (gI G, 4, .inl sl_))]] H locs := hw
          refine W.eq (g2 := (F0 m 52 ls [.int (-10 - 4)])) rfl ?_
          have hw := Eq.mp (congrArg (fun z_ : Int32 => bW G A s.heap [[(am 31, mdO am z_ n lw nn ra rsn nr tr)], [(am 26, .inl (gI G, 4, .inl sz))], [(am 27, .inl (gI G, 4, .inl sl_))]] H locs) (show (4 : Int32) = if frF (ln kv) (le kv) lv iv nv = 0 then fl else frF (ln kv) (le kv) lv iv nv from (by rw [hFR, if_neg (by decide)]))) hw
          have hw : bW G A s.heap [[(am 31, mdO am (if frF (ln kv) (le kv) lv iv nv = 0 then fl else frF (ln kv) (le kv) lv iv nv) n lw nn ra rsn nr tr)], [(am 26, .inl (gI G, 4, .inl sz))], [(am 27, .inl (gI G, 4, .inl sl_))]] H locs := hw
          refine aw_eqi (show (-10 - 4 : Int32) = if frF (ln kv) (le kv) lv iv nv = 0 then 0 else -10 - frF (ln kv) (le kv) lv iv nv from (by rw [hFR, if_neg (by decide)])) ?_
          exact aw_iret S hr hlk ha hQ hAe hw dX11_cellsBarred_52 rfl (Nat.le_of_ble_eq_true rfl) (Nat.le_of_ble_eq_true rfl) ⟨rfl, rfl⟩
      · exact absurd ((hR.pos hkv).mpr hz) c31
    · rw [hsl] at c16
      have hFR : frF (ln kv) (le kv) lv iv nv = 2 := by rw [frF, if_neg hz, if_pos c16]
      refine lv_aload_n S.1 S.2.1 dX11_cellsBarred_19 rfl (lv_at hl 0 rfl) ?_
      refine lv_iconst (v := 2) S.1 S.2.1 dX11_cellsBarred_20 (by decide) ?_
      refine aw_callV S hE (c_X11_failed l G am fl n lw nn ra rsn nr tr 2) gX11_cellsBarred_X11_failed (n := 1) rfl (by decide +kernel) rfl (by rw [hRm]; exact ⟨Nat.le_of_ble_eq_true rfl, Nat.le_of_ble_eq_true rfl⟩) (by rw [hRm]; exact ⟨Nat.le_of_ble_eq_true rfl, Nat.le_of_ble_eq_true rfl⟩) hw hA hl.1 [0] rfl rfl (aw_recv (i := 0) hE hw rfl rfl rfl) rfl (Nat.le_of_ble_eq_true rfl) dX11_cellsBarred_21 ?_
      rintro v w1 H locs ⟨rfl, rfl⟩ hw
      have hw : bW G A s.heap [[(am 31, mdO am 2 n lw nn ra rsn nr tr)], [(am 26, .inl (gI G, 4, .inl sz))], [(am 27, .inl (gI G, 4, .inl sl_))]] H locs := hw
      refine W.eq (g2 := (F0 m 24 ls [.int (-10 - 2)])) rfl ?_
      have hw := Eq.mp (congrArg (fun z_ : Int32 => bW G A s.heap [[(am 31, mdO am z_ n lw nn ra rsn nr tr)], [(am 26, .inl (gI G, 4, .inl sz))], [(am 27, .inl (gI G, 4, .inl sl_))]] H locs) (show (2 : Int32) = if frF (ln kv) (le kv) lv iv nv = 0 then fl else frF (ln kv) (le kv) lv iv nv from (by rw [hFR, if_neg (by decide)]))) hw
      have hw : bW G A s.heap [[(am 31, mdO am (if frF (ln kv) (le kv) lv iv nv = 0 then fl else frF (ln kv) (le kv) lv iv nv) n lw nn ra rsn nr tr)], [(am 26, .inl (gI G, 4, .inl sz))], [(am 27, .inl (gI G, 4, .inl sl_))]] H locs := hw
      refine aw_eqi (show (-10 - 2 : Int32) = if frF (ln kv) (le kv) lv iv nv = 0 then 0 else -10 - frF (ln kv) (le kv) lv iv nv from (by rw [hFR, if_neg (by decide)])) ?_
      exact aw_iret S hr hlk ha hQ hAe hw dX11_cellsBarred_24 rfl (Nat.le_of_ble_eq_true rfl) (Nat.le_of_ble_eq_true rfl) ⟨rfl, rfl⟩
set_option maxRecDepth 100000 in
set_option maxHeartbeats 4000000 in
theorem c_X11_cell (l : Launch) (G : aw_G) (am : Nat → Nat) (fl : Int32) (n : Nat) (lw : Int32) (nn ra rsn nr : Nat) (tr : Int32) (sz sl_ shm : Nat → Int32) (ln : Nat → Int32) (le : Nat → Nat) (ce : Nat → Nat → Int32) (kv iv lv : Int32) (hR : shR sz sl_ shm ln le ce) : CT l G yX11_cell wsX11_cell ({ frames := 2, cells := 0, slots := 0, locals := 47 }) [.ref (am 31), .int kv, .int iv, .int lv] [[(am 31, mdO am fl n lw nn ra rsn nr tr)], [(am 26, .inl (gI G, 4, .inl sz))], [(am 27, .inl (gI G, 4, .inl sl_))], [(am 28, .inl (gI G, 240, .inl shm))]] (dt (some (.long (f_cell ln le ce kv iv lv))) [[(am 31, mdO am (f_cellF ln le kv iv lv) n lw nn ra rsn nr tr)], [(am 26, .inl (gI G, 4, .inl sz))], [(am 27, .inl (gI G, 4, .inl sl_))], [(am 28, .inl (gI G, 240, .inl shm))]]) := by
  refine CT.of (cc := cX11_cell) (nL := 4) (ret := (some .long)) (by decide) rfl (Nat.le_of_ble_eq_true rfl) ?_
  intro p e s m below meth c R args Q A hRm ha hQ hAe hA S hE hr hlk hnm H locs hH0 hL0 ls hl hw
  have S : CallFix p m c cX11_cell 4 s args wsX11_cell RX11 := S
  have hl : lv_has ls 4 [(0, .ref (am 31)), (1, .int kv), (2, .int iv), (3, .int lv)] := hl
  have hinX11 : ∀ w ∈ u_ws RX11 TX11 31, w ∈ wsX11_cell := by decide +kernel
  have hf82 := S.2.2.2.2 (.fieldLink RX11 82 "AwakeTurnsModel" "fault" "I") (by decide +kernel)
  have hf68 := S.2.2.2.2 (.fieldLink RX11 68 "AwakeTurnsModel" "sheetSize" "[I") (by decide +kernel)
  have hf74 := S.2.2.2.2 (.fieldLink RX11 74 "AwakeTurnsModel" "sheet" "[I") (by decide +kernel)
  have hf71 := S.2.2.2.2 (.fieldLink RX11 71 "AwakeTurnsModel" "sheetLane" "[I") (by decide +kernel)
  refine lv_aload_n S.1 S.2.1 dX11_cell_0 rfl (lv_at hl 0 rfl) ?_
  refine lv_iconst (v := 0) S.1 S.2.1 dX11_cell_1 (by decide) ?_
  refine aw_putf S hE hw 0 (C := RX11) (T := TX11) (N := 31) rfl rfl hinX11 tyX11 tyX11_ok nmX11 0 (by decide) hf82 rfl rfl rfl (Nat.le_of_ble_eq_true rfl) dX11_cell_2 (fun H locs hw => ?_)
  have hw : bW G A s.heap [[(am 31, mdO am 0 n lw nn ra rsn nr tr)], [(am 26, .inl (gI G, 4, .inl sz))], [(am 27, .inl (gI G, 4, .inl sl_))], [(am 28, .inl (gI G, 240, .inl shm))]] H locs := hw
  refine lv_iload_n S.1 S.2.1 dX11_cell_5 rfl (lv_at hl 1 rfl) ?_
  refine aw_callS S hE (c_X11_noSheet l G kv) gX11_cell_X11_noSheet (n := 1) rfl (by decide +kernel) rfl (by rw [hRm]; exact ⟨Nat.le_of_ble_eq_true rfl, Nat.le_of_ble_eq_true rfl⟩) (by rw [hRm]; exact ⟨Nat.le_of_ble_eq_true rfl, Nat.le_of_ble_eq_true rfl⟩) hw hA hl.1 [] rfl rfl rfl (Nat.le_of_ble_eq_true rfl) dX11_cell_6 ?_
  rintro v w1 H locs ⟨rfl, rfl⟩ hw
  have hw : bW G A s.heap [[(am 31, mdO am 0 n lw nn ra rsn nr tr)], [(am 26, .inl (gI G, 4, .inl sz))], [(am 27, .inl (gI G, 4, .inl sl_))], [(am 28, .inl (gI G, 240, .inl shm))]] H locs := hw
  refine W.eq (g2 := (F0 m 9 ls [.int (if ¬ (0 ≤ kv.toInt ∧ kv.toInt < 4) then 1 else 0)])) rfl ?_
  refine aw_ifne (P := ¬ (0 ≤ kv.toInt ∧ kv.toInt < 4)) (tgt := 24) S dX11_cell_9 (by decide) (fun c9 => ?_) (fun c9 => ?_)
  · refine aw_callS S hE (c_X11_lost l G ()) gX11_cell_X11_lost (n := 0) rfl (by decide +kernel) rfl (by rw [hRm]; exact ⟨Nat.le_of_ble_eq_true rfl, Nat.le_of_ble_eq_true rfl⟩) (by rw [hRm]; exact ⟨Nat.le_of_ble_eq_true rfl, Nat.le_of_ble_eq_true rfl⟩) hw hA hl.1 [] rfl rfl rfl (Nat.le_of_ble_eq_true rfl) dX11_cell_24 ?_
    rintro v w1 H locs ⟨rfl, rfl⟩ hw
    have hw : bW G A s.heap [[(am 31, mdO am 0 n lw nn ra rsn nr tr)], [(am 26, .inl (gI G, 4, .inl sz))], [(am 27, .inl (gI G, 4, .inl sl_))], [(am 28, .inl (gI G, 240, .inl shm))]] H locs := hw
    refine W.eq (g2 := (F0 m 27 ls [.long (-9223372036854775808)])) rfl ?_
    have hw := Eq.mp (congrArg (fun z_ : Int32 => bW G A s.heap [[(am 31, mdO am z_ n lw nn ra rsn nr tr)], [(am 26, .inl (gI G, 4, .inl sz))], [(am 27, .inl (gI G, 4, .inl sl_))], [(am 28, .inl (gI G, 240, .inl shm))]] H locs) (show (0 : Int32) = f_cellF ln le kv iv lv from (by rw [f_cellF, if_neg (fun q => c9 q.1)]))) hw
    have hw : bW G A s.heap [[(am 31, mdO am (f_cellF ln le kv iv lv) n lw nn ra rsn nr tr)], [(am 26, .inl (gI G, 4, .inl sz))], [(am 27, .inl (gI G, 4, .inl sl_))], [(am 28, .inl (gI G, 240, .inl shm))]] H locs := hw
    refine aw_eql (show (-9223372036854775808 : Int64) = f_cell ln le ce kv iv lv from (by rw [f_cell, if_neg (fun q => c9 q.1.1)])) ?_
    exact aw_lret S hr hlk ha hQ hAe hw dX11_cell_27 (Nat.le_of_ble_eq_true rfl) (Nat.le_of_ble_eq_true rfl) ⟨rfl, rfl⟩
  · have c9 := Decidable.not_not.mp c9
    have hb_kv : tn kv < 4 := aw_tnL c9
    have hl := Eq.mp (congrArg (fun z_ : Int32 => lv_has ls 4 [(0, .ref (am 31)), (1, .int z_), (2, .int iv), (3, .int lv)]) (show (kv : Int32) = nI (tn kv) from (aw_tnE c9))) hl
    have hl : lv_has ls 4 [(0, .ref (am 31)), (1, .int (nI (tn kv))), (2, .int iv), (3, .int lv)] := hl
    refine lv_iload_n S.1 S.2.1 dX11_cell_12 rfl (lv_at hl 3 rfl) ?_
    refine lv_i2l S.1 S.2.1 dX11_cell_13 rfl ?_
    refine lv_lconst (v := 0) S.1 S.2.1 dX11_cell_14 (by decide) ?_
    refine lv_ldc2 (v := 2) S.1 S.2.1 S.2.2.2.1 (S.2.2.2.2 (.constantLong RX11 132 2) (by decide +kernel)) dX11_cell_15 ?_
    refine aw_callS S hE (c_X11_in l G lv.toInt64 0 2) gX11_cell_X11_in (n := 3) rfl (by decide +kernel) rfl (by rw [hRm]; exact ⟨Nat.le_of_ble_eq_true rfl, Nat.le_of_ble_eq_true rfl⟩) (by rw [hRm]; exact ⟨Nat.le_of_ble_eq_true rfl, Nat.le_of_ble_eq_true rfl⟩) hw hA hl.1 [] rfl rfl rfl (Nat.le_of_ble_eq_true rfl) dX11_cell_18 ?_
    rintro v w1 H locs ⟨rfl, rfl⟩ hw
    have hw : bW G A s.heap [[(am 31, mdO am 0 n lw nn ra rsn nr tr)], [(am 26, .inl (gI G, 4, .inl sz))], [(am 27, .inl (gI G, 4, .inl sl_))], [(am 28, .inl (gI G, 240, .inl shm))]] H locs := hw
    refine W.eq (g2 := (F0 m 21 ls [.int (if Int64.toInt 0 ≤ Int64.toInt lv.toInt64 ∧ Int64.toInt lv.toInt64 ≤ Int64.toInt 2 then 1 else 0)])) rfl ?_
    refine aw_ifne (P := Int64.toInt 0 ≤ Int64.toInt lv.toInt64 ∧ Int64.toInt lv.toInt64 ≤ Int64.toInt 2) (tgt := 28) S dX11_cell_21 (by decide) (fun c21 => ?_) (fun c21 => ?_)
    · rw [l64, l64_0, l64_2] at c21
      have hlv : 0 ≤ lv.toInt ∧ lv.toInt < 3 := by omega
      refine lv_aload_n S.1 S.2.1 dX11_cell_28 rfl (lv_at hl 0 rfl) ?_
      refine aw_get S hE hw 0 (C := RX11) (T := TX11) (N := 31) rfl rfl hinX11 26 (by decide) hf68 rfl dX11_cell_29 ?_
      refine lv_iload_n S.1 S.2.1 dX11_cell_32 rfl (lv_at hl 1 rfl) ?_
      refine aw_iald S hE hw 1 (k := (tn kv)) rfl (by omega) (by decide) dX11_cell_33 ?_
      refine lv_if_lt (tgt := 53) S.1 S.2.1 dX11_cell_34 (by decide) (fun c34 => ?_) (fun c34 => ?_)
      · have hcl : ln (tn kv) = -1 ∨ ln (tn kv) = lv := Or.inl ((hR.neg hb_kv).mp c34)
        refine lv_aload_n S.1 S.2.1 dX11_cell_53 rfl (lv_at hl 0 rfl) ?_
        refine lv_iload_n S.1 S.2.1 dX11_cell_54 rfl (lv_at hl 1 rfl) ?_
        refine lv_iload_n S.1 S.2.1 dX11_cell_55 rfl (lv_at hl 2 rfl) ?_
        refine aw_callV S hE (c_X11_noCell l G am 0 n lw nn ra rsn nr tr sz sl_ shm ln le ce (tn kv) iv (by first | assumption | omega) (by first | assumption | omega)) gX11_cell_X11_noCell (n := 2) rfl (by decide +kernel) rfl (by rw [hRm]; exact ⟨Nat.le_of_ble_eq_true rfl, Nat.le_of_ble_eq_true rfl⟩) (by rw [hRm]; exact ⟨Nat.le_of_ble_eq_true rfl, Nat.le_of_ble_eq_true rfl⟩) hw hA hl.1 [0, 1] rfl rfl (aw_recv (i := 0) hE hw rfl rfl rfl) rfl (Nat.le_of_ble_eq_true rfl) dX11_cell_56 ?_
        rintro v w1 H locs ⟨rfl, rfl⟩ hw
        have hw : bW G A s.heap [[(am 31, mdO am 0 n lw nn ra rsn nr tr)], [(am 26, .inl (gI G, 4, .inl sz))], [(am 27, .inl (gI G, 4, .inl sl_))], [(am 28, .inl (gI G, 240, .inl shm))]] H locs := hw
        refine W.eq (g2 := (F0 m 59 ls [.int (if ln (tn kv) = -1 then 1 else if 0 ≤ iv.toInt ∧ iv.toInt < le (tn kv) then 0 else 3)])) rfl ?_
        refine lv_if_le (tgt := 75) S.1 S.2.1 dX11_cell_59 (by decide) (fun c59 => ?_) (fun c59 => ?_)
        · have hz : ¬ ln (tn kv) = -1 := fun q => absurd c59 (by rw [if_pos q]; decide)
          have hiv : 0 ≤ iv.toInt ∧ iv.toInt < le (tn kv) := Decidable.not_not.mp (fun q => absurd c59 (by rw [if_neg hz, if_neg q]; decide))
          have hle60 := (hR _ hb_kv).2.2.1
          have hb_iv : tn iv < le (tn kv) := aw_tnL hiv
          have hl := Eq.mp (congrArg (fun z_ : Int32 => lv_has ls 4 [(0, .ref (am 31)), (1, .int (nI (tn kv))), (2, .int z_), (3, .int lv)]) (show (iv : Int32) = nI (tn iv) from (aw_tnE hiv))) hl
          have hl : lv_has ls 4 [(0, .ref (am 31)), (1, .int (nI (tn kv))), (2, .int (nI (tn iv))), (3, .int lv)] := hl
          refine lv_aload_n S.1 S.2.1 dX11_cell_75 rfl (lv_at hl 0 rfl) ?_
          refine aw_get S hE hw 0 (C := RX11) (T := TX11) (N := 31) rfl rfl hinX11 28 (by decide) hf74 rfl dX11_cell_76 ?_
          refine lv_bipush (v := 60) S.1 S.2.1 dX11_cell_79 (by decide) ?_
          refine lv_iload_n S.1 S.2.1 dX11_cell_81 rfl (lv_at hl 1 rfl) ?_
          refine lv_imul S.1 S.2.1 dX11_cell_82 ?_
          refine aw_eqi (show (60 * (nI (tn kv)) : Int32) = nI (60 * (tn kv)) from (pk_mul 60 (tn kv))) ?_
          refine lv_iload_n S.1 S.2.1 dX11_cell_83 rfl (lv_at hl 2 rfl) ?_
          refine lv_iadd S.1 S.2.1 dX11_cell_84 ?_
          refine aw_eqi (show ((nI (60 * (tn kv))) + (nI (tn iv)) : Int32) = nI ((60 * (tn kv)) + (tn iv)) from (nI_add (60 * (tn kv)) (tn iv))) ?_
          refine aw_iald S hE hw 3 (k := ((60 * (tn kv)) + (tn iv))) rfl (by omega) (by decide) dX11_cell_85 ?_
          refine lv_i2l S.1 S.2.1 dX11_cell_86 rfl ?_
          have hw := Eq.mp (congrArg (fun z_ : Int32 => bW G A s.heap [[(am 31, mdO am z_ n lw nn ra rsn nr tr)], [(am 26, .inl (gI G, 4, .inl sz))], [(am 27, .inl (gI G, 4, .inl sl_))], [(am 28, .inl (gI G, 240, .inl shm))]] H locs) (show (0 : Int32) = f_cellF ln le kv iv lv from (by rw [f_cellF, if_pos (show (0 ≤ kv.toInt ∧ kv.toInt < 4) ∧ 0 ≤ lv.toInt ∧ lv.toInt < 3 from ⟨c9, hlv⟩), fc_nc hcl, if_neg hz, if_pos hiv]))) hw
          have hw : bW G A s.heap [[(am 31, mdO am (f_cellF ln le kv iv lv) n lw nn ra rsn nr tr)], [(am 26, .inl (gI G, 4, .inl sz))], [(am 27, .inl (gI G, 4, .inl sl_))], [(am 28, .inl (gI G, 240, .inl shm))]] H locs := hw
          refine aw_eql (show ((shm ((60 * (tn kv)) + (tn iv))).toInt64 : Int64) = f_cell ln le ce kv iv lv from (by rw [f_cell, if_pos ⟨⟨c9, hlv⟩, by rw [fc_nc hcl, if_neg hz, if_pos hiv]⟩, (hR _ hb_kv).2.2.2 hz _ hb_iv])) ?_
          exact aw_lret S hr hlk ha hQ hAe hw dX11_cell_87 (Nat.le_of_ble_eq_true rfl) (Nat.le_of_ble_eq_true rfl) ⟨rfl, rfl⟩
        · refine lv_aload_n S.1 S.2.1 dX11_cell_62 rfl (lv_at hl 0 rfl) ?_
          refine lv_aload_n S.1 S.2.1 dX11_cell_63 rfl (lv_at hl 0 rfl) ?_
          refine lv_iload_n S.1 S.2.1 dX11_cell_64 rfl (lv_at hl 1 rfl) ?_
          refine lv_iload_n S.1 S.2.1 dX11_cell_65 rfl (lv_at hl 2 rfl) ?_
          refine aw_callV S hE (c_X11_noCell l G am 0 n lw nn ra rsn nr tr sz sl_ shm ln le ce (tn kv) iv (by first | assumption | omega) (by first | assumption | omega)) gX11_cell_X11_noCell (n := 2) rfl (by decide +kernel) rfl (by rw [hRm]; exact ⟨Nat.le_of_ble_eq_true rfl, Nat.le_of_ble_eq_true rfl⟩) (by rw [hRm]; exact ⟨Nat.le_of_ble_eq_true rfl, Nat.le_of_ble_eq_true rfl⟩) hw hA hl.1 [0, 1] rfl rfl (aw_recv (i := 0) hE hw rfl rfl rfl) rfl (Nat.le_of_ble_eq_true rfl) dX11_cell_66 ?_
          rintro v w1 H locs ⟨rfl, rfl⟩ hw
          have hw : bW G A s.heap [[(am 31, mdO am 0 n lw nn ra rsn nr tr)], [(am 26, .inl (gI G, 4, .inl sz))], [(am 27, .inl (gI G, 4, .inl sl_))], [(am 28, .inl (gI G, 240, .inl shm))]] H locs := hw
          refine W.eq (g2 := (F0 m 69 ls [.int (if ln (tn kv) = -1 then 1 else if 0 ≤ iv.toInt ∧ iv.toInt < le (tn kv) then 0 else 3), .ref (am 31)])) rfl ?_
          refine aw_callV S hE (c_X11_failedLong l G am 0 n lw nn ra rsn nr tr (if ln (tn kv) = -1 then 1 else if 0 ≤ iv.toInt ∧ iv.toInt < le (tn kv) then 0 else 3)) gX11_cell_X11_failedLong (n := 1) rfl (by decide +kernel) rfl (by rw [hRm]; exact ⟨Nat.le_of_ble_eq_true rfl, Nat.le_of_ble_eq_true rfl⟩) (by rw [hRm]; exact ⟨Nat.le_of_ble_eq_true rfl, Nat.le_of_ble_eq_true rfl⟩) hw hA hl.1 [0] rfl rfl (aw_recv (i := 0) hE hw rfl rfl rfl) rfl (Nat.le_of_ble_eq_true rfl) dX11_cell_69 ?_
          rintro v w1 H locs ⟨rfl, rfl⟩ hw
          have hw : bW G A s.heap [[(am 31, mdO am (if ln (tn kv) = -1 then 1 else if 0 ≤ iv.toInt ∧ iv.toInt < le (tn kv) then 0 else 3) n lw nn ra rsn nr tr)], [(am 26, .inl (gI G, 4, .inl sz))], [(am 27, .inl (gI G, 4, .inl sl_))], [(am 28, .inl (gI G, 240, .inl shm))]] H locs := hw
          refine W.eq (g2 := (F0 m 72 ls [.long (-9223372036854775808)])) rfl ?_
          refine lv_goto (tgt := 87) S.1 S.2.1 dX11_cell_72 (by decide) ?_
          have hw := Eq.mp (congrArg (fun z_ : Int32 => bW G A s.heap [[(am 31, mdO am z_ n lw nn ra rsn nr tr)], [(am 26, .inl (gI G, 4, .inl sz))], [(am 27, .inl (gI G, 4, .inl sl_))], [(am 28, .inl (gI G, 240, .inl shm))]] H locs) (show ((if ln (tn kv) = -1 then 1 else if 0 ≤ iv.toInt ∧ iv.toInt < le (tn kv) then 0 else 3) : Int32) = f_cellF ln le kv iv lv from (by rw [f_cellF, if_pos (show (0 ≤ kv.toInt ∧ kv.toInt < 4) ∧ 0 ≤ lv.toInt ∧ lv.toInt < 3 from ⟨c9, hlv⟩), fc_nc hcl]))) hw
          have hw : bW G A s.heap [[(am 31, mdO am (f_cellF ln le kv iv lv) n lw nn ra rsn nr tr)], [(am 26, .inl (gI G, 4, .inl sz))], [(am 27, .inl (gI G, 4, .inl sl_))], [(am 28, .inl (gI G, 240, .inl shm))]] H locs := hw
          refine aw_eql (show (-9223372036854775808 : Int64) = f_cell ln le ce kv iv lv from (by rw [f_cell, if_neg (fun q => c59 (by have q1 := q.2; rw [fc_nc hcl] at q1; rw [q1]; decide))])) ?_
          exact aw_lret S hr hlk ha hQ hAe hw dX11_cell_87 (Nat.le_of_ble_eq_true rfl) (Nat.le_of_ble_eq_true rfl) ⟨rfl, rfl⟩
      · have hz0 : ¬ ln (tn kv) = -1 := fun q => c34 ((hR.neg hb_kv).mpr q)
        have hsl := (hR _ hb_kv).2.1 hz0
        refine lv_aload_n S.1 S.2.1 dX11_cell_37 rfl (lv_at hl 0 rfl) ?_
        refine aw_get S hE hw 0 (C := RX11) (T := TX11) (N := 31) rfl rfl hinX11 27 (by decide) hf71 rfl dX11_cell_38 ?_
        refine lv_iload_n S.1 S.2.1 dX11_cell_41 rfl (lv_at hl 1 rfl) ?_
        refine aw_iald S hE hw 2 (k := (tn kv)) rfl (by omega) (by decide) dX11_cell_42 ?_
        refine lv_iload_n S.1 S.2.1 dX11_cell_43 rfl (lv_at hl 3 rfl) ?_
        refine lv_icmp_eq (tgt := 53) S.1 S.2.1 dX11_cell_44 (by decide) (fun c44 => ?_) (fun c44 => ?_)
        · rw [hsl] at c44
          have hcl : ln (tn kv) = -1 ∨ ln (tn kv) = lv := Or.inr c44
          refine lv_aload_n S.1 S.2.1 dX11_cell_53 rfl (lv_at hl 0 rfl) ?_
          refine lv_iload_n S.1 S.2.1 dX11_cell_54 rfl (lv_at hl 1 rfl) ?_
          refine lv_iload_n S.1 S.2.1 dX11_cell_55 rfl (lv_at hl 2 rfl) ?_
          refine aw_callV S hE (c_X11_noCell l G am 0 n lw nn ra rsn nr tr sz sl_ shm ln le ce (tn kv) iv (by first | assumption | omega) (by first | assumption | omega)) gX11_cell_X11_noCell (n := 2) rfl (by decide +kernel) rfl (by rw [hRm]; exact ⟨Nat.le_of_ble_eq_true rfl, Nat.le_of_ble_eq_true rfl⟩) (by rw [hRm]; exact ⟨Nat.le_of_ble_eq_true rfl, Nat.le_of_ble_eq_true rfl⟩) hw hA hl.1 [0, 1] rfl rfl (aw_recv (i := 0) hE hw rfl rfl rfl) rfl (Nat.le_of_ble_eq_true rfl) dX11_cell_56 ?_
          rintro v w1 H locs ⟨rfl, rfl⟩ hw
          have hw : bW G A s.heap [[(am 31, mdO am 0 n lw nn ra rsn nr tr)], [(am 26, .inl (gI G, 4, .inl sz))], [(am 27, .inl (gI G, 4, .inl sl_))], [(am 28, .inl (gI G, 240, .inl shm))]] H locs := hw
          refine W.eq (g2 := (F0 m 59 ls [.int (if ln (tn kv) = -1 then 1 else if 0 ≤ iv.toInt ∧ iv.toInt < le (tn kv) then 0 else 3)])) rfl ?_
          refine lv_if_le (tgt := 75) S.1 S.2.1 dX11_cell_59 (by decide) (fun c59 => ?_) (fun c59 => ?_)
          · have hz : ¬ ln (tn kv) = -1 := fun q => absurd c59 (by rw [if_pos q]; decide)
            have hiv : 0 ≤ iv.toInt ∧ iv.toInt < le (tn kv) := Decidable.not_not.mp (fun q => absurd c59 (by rw [if_neg hz, if_neg q]; decide))
            have hle60 := (hR _ hb_kv).2.2.1
            have hb_iv : tn iv < le (tn kv) := aw_tnL hiv
            have hl := Eq.mp (congrArg (fun z_ : Int32 => lv_has ls 4 [(0, .ref (am 31)), (1, .int (nI (tn kv))), (2, .int z_), (3, .int lv)]) (show (iv : Int32) = nI (tn iv) from (aw_tnE hiv))) hl
            have hl : lv_has ls 4 [(0, .ref (am 31)), (1, .int (nI (tn kv))), (2, .int (nI (tn iv))), (3, .int lv)] := hl
            refine lv_aload_n S.1 S.2.1 dX11_cell_75 rfl (lv_at hl 0 rfl) ?_
            refine aw_get S hE hw 0 (C := RX11) (T := TX11) (N := 31) rfl rfl hinX11 28 (by decide) hf74 rfl dX11_cell_76 ?_
            refine lv_bipush (v := 60) S.1 S.2.1 dX11_cell_79 (by decide) ?_
            refine lv_iload_n S.1 S.2.1 dX11_cell_81 rfl (lv_at hl 1 rfl) ?_
            refine lv_imul S.1 S.2.1 dX11_cell_82 ?_
            refine aw_eqi (show (60 * (nI (tn kv)) : Int32) = nI (60 * (tn kv)) from (pk_mul 60 (tn kv))) ?_
            refine lv_iload_n S.1 S.2.1 dX11_cell_83 rfl (lv_at hl 2 rfl) ?_
            refine lv_iadd S.1 S.2.1 dX11_cell_84 ?_
            refine aw_eqi (show ((nI (60 * (tn kv))) + (nI (tn iv)) : Int32) = nI ((60 * (tn kv)) + (tn iv)) from (nI_add (60 * (tn kv)) (tn iv))) ?_
            refine aw_iald S hE hw 3 (k := ((60 * (tn kv)) + (tn iv))) rfl (by omega) (by decide) dX11_cell_85 ?_
            refine lv_i2l S.1 S.2.1 dX11_cell_86 rfl ?_
            have hw := Eq.mp (congrArg (fun z_ : Int32 => bW G A s.heap [[(am 31, mdO am z_ n lw nn ra rsn nr tr)], [(am 26, .inl (gI G, 4, .inl sz))], [(am 27, .inl (gI G, 4, .inl sl_))], [(am 28, .inl (gI G, 240, .inl shm))]] H locs) (show (0 : Int32) = f_cellF ln le kv iv lv from (by rw [f_cellF, if_pos (show (0 ≤ kv.toInt ∧ kv.toInt < 4) ∧ 0 ≤ lv.toInt ∧ lv.toInt < 3 from ⟨c9, hlv⟩), fc_nc hcl, if_neg hz, if_pos hiv]))) hw
            have hw : bW G A s.heap [[(am 31, mdO am (f_cellF ln le kv iv lv) n lw nn ra rsn nr tr)], [(am 26, .inl (gI G, 4, .inl sz))], [(am 27, .inl (gI G, 4, .inl sl_))], [(am 28, .inl (gI G, 240, .inl shm))]] H locs := hw
            refine aw_eql (show ((shm ((60 * (tn kv)) + (tn iv))).toInt64 : Int64) = f_cell ln le ce kv iv lv from (by rw [f_cell, if_pos ⟨⟨c9, hlv⟩, by rw [fc_nc hcl, if_neg hz, if_pos hiv]⟩, (hR _ hb_kv).2.2.2 hz _ hb_iv])) ?_
            exact aw_lret S hr hlk ha hQ hAe hw dX11_cell_87 (Nat.le_of_ble_eq_true rfl) (Nat.le_of_ble_eq_true rfl) ⟨rfl, rfl⟩
          · refine lv_aload_n S.1 S.2.1 dX11_cell_62 rfl (lv_at hl 0 rfl) ?_
            refine lv_aload_n S.1 S.2.1 dX11_cell_63 rfl (lv_at hl 0 rfl) ?_
            refine lv_iload_n S.1 S.2.1 dX11_cell_64 rfl (lv_at hl 1 rfl) ?_
            refine lv_iload_n S.1 S.2.1 dX11_cell_65 rfl (lv_at hl 2 rfl) ?_
            refine aw_callV S hE (c_X11_noCell l G am 0 n lw nn ra rsn nr tr sz sl_ shm ln le ce (tn kv) iv (by first | assumption | omega) (by first | assumption | omega)) gX11_cell_X11_noCell (n := 2) rfl (by decide +kernel) rfl (by rw [hRm]; exact ⟨Nat.le_of_ble_eq_true rfl, Nat.le_of_ble_eq_true rfl⟩) (by rw [hRm]; exact ⟨Nat.le_of_ble_eq_true rfl, Nat.le_of_ble_eq_true rfl⟩) hw hA hl.1 [0, 1] rfl rfl (aw_recv (i := 0) hE hw rfl rfl rfl) rfl (Nat.le_of_ble_eq_true rfl) dX11_cell_66 ?_
            rintro v w1 H locs ⟨rfl, rfl⟩ hw
            have hw : bW G A s.heap [[(am 31, mdO am 0 n lw nn ra rsn nr tr)], [(am 26, .inl (gI G, 4, .inl sz))], [(am 27, .inl (gI G, 4, .inl sl_))], [(am 28, .inl (gI G, 240, .inl shm))]] H locs := hw
            refine W.eq (g2 := (F0 m 69 ls [.int (if ln (tn kv) = -1 then 1 else if 0 ≤ iv.toInt ∧ iv.toInt < le (tn kv) then 0 else 3), .ref (am 31)])) rfl ?_
            refine aw_callV S hE (c_X11_failedLong l G am 0 n lw nn ra rsn nr tr (if ln (tn kv) = -1 then 1 else if 0 ≤ iv.toInt ∧ iv.toInt < le (tn kv) then 0 else 3)) gX11_cell_X11_failedLong (n := 1) rfl (by decide +kernel) rfl (by rw [hRm]; exact ⟨Nat.le_of_ble_eq_true rfl, Nat.le_of_ble_eq_true rfl⟩) (by rw [hRm]; exact ⟨Nat.le_of_ble_eq_true rfl, Nat.le_of_ble_eq_true rfl⟩) hw hA hl.1 [0] rfl rfl (aw_recv (i := 0) hE hw rfl rfl rfl) rfl (Nat.le_of_ble_eq_true rfl) dX11_cell_69 ?_
            rintro v w1 H locs ⟨rfl, rfl⟩ hw
            have hw : bW G A s.heap [[(am 31, mdO am (if ln (tn kv) = -1 then 1 else if 0 ≤ iv.toInt ∧ iv.toInt < le (tn kv) then 0 else 3) n lw nn ra rsn nr tr)], [(am 26, .inl (gI G, 4, .inl sz))], [(am 27, .inl (gI G, 4, .inl sl_))], [(am 28, .inl (gI G, 240, .inl shm))]] H locs := hw
            refine W.eq (g2 := (F0 m 72 ls [.long (-9223372036854775808)])) rfl ?_
            refine lv_goto (tgt := 87) S.1 S.2.1 dX11_cell_72 (by decide) ?_
            have hw := Eq.mp (congrArg (fun z_ : Int32 => bW G A s.heap [[(am 31, mdO am z_ n lw nn ra rsn nr tr)], [(am 26, .inl (gI G, 4, .inl sz))], [(am 27, .inl (gI G, 4, .inl sl_))], [(am 28, .inl (gI G, 240, .inl shm))]] H locs) (show ((if ln (tn kv) = -1 then 1 else if 0 ≤ iv.toInt ∧ iv.toInt < le (tn kv) then 0 else 3) : Int32) = f_cellF ln le kv iv lv from (by rw [f_cellF, if_pos (show (0 ≤ kv.toInt ∧ kv.toInt < 4) ∧ 0 ≤ lv.toInt ∧ lv.toInt < 3 from ⟨c9, hlv⟩), fc_nc hcl]))) hw
            have hw : bW G A s.heap [[(am 31, mdO am (f_cellF ln le kv iv lv) n lw nn ra rsn nr tr)], [(am 26, .inl (gI G, 4, .inl sz))], [(am 27, .inl (gI G, 4, .inl sl_))], [(am 28, .inl (gI G, 240, .inl shm))]] H locs := hw
            refine aw_eql (show (-9223372036854775808 : Int64) = f_cell ln le ce kv iv lv from (by rw [f_cell, if_neg (fun q => c59 (by have q1 := q.2; rw [fc_nc hcl] at q1; rw [q1]; decide))])) ?_
            exact aw_lret S hr hlk ha hQ hAe hw dX11_cell_87 (Nat.le_of_ble_eq_true rfl) (Nat.le_of_ble_eq_true rfl) ⟨rfl, rfl⟩
        · rw [hsl] at c44
          have hFC : fcF (ln (tn kv)) (le (tn kv)) lv iv = 2 := by rw [fcF, if_neg hz0, if_pos c44]
          refine lv_aload_n S.1 S.2.1 dX11_cell_47 rfl (lv_at hl 0 rfl) ?_
          refine lv_iconst (v := 2) S.1 S.2.1 dX11_cell_48 (by decide) ?_
          refine aw_callV S hE (c_X11_failedLong l G am 0 n lw nn ra rsn nr tr 2) gX11_cell_X11_failedLong (n := 1) rfl (by decide +kernel) rfl (by rw [hRm]; exact ⟨Nat.le_of_ble_eq_true rfl, Nat.le_of_ble_eq_true rfl⟩) (by rw [hRm]; exact ⟨Nat.le_of_ble_eq_true rfl, Nat.le_of_ble_eq_true rfl⟩) hw hA hl.1 [0] rfl rfl (aw_recv (i := 0) hE hw rfl rfl rfl) rfl (Nat.le_of_ble_eq_true rfl) dX11_cell_49 ?_
          rintro v w1 H locs ⟨rfl, rfl⟩ hw
          have hw : bW G A s.heap [[(am 31, mdO am 2 n lw nn ra rsn nr tr)], [(am 26, .inl (gI G, 4, .inl sz))], [(am 27, .inl (gI G, 4, .inl sl_))], [(am 28, .inl (gI G, 240, .inl shm))]] H locs := hw
          refine W.eq (g2 := (F0 m 52 ls [.long (-9223372036854775808)])) rfl ?_
          have hw := Eq.mp (congrArg (fun z_ : Int32 => bW G A s.heap [[(am 31, mdO am z_ n lw nn ra rsn nr tr)], [(am 26, .inl (gI G, 4, .inl sz))], [(am 27, .inl (gI G, 4, .inl sl_))], [(am 28, .inl (gI G, 240, .inl shm))]] H locs) (show (2 : Int32) = f_cellF ln le kv iv lv from (by rw [f_cellF, if_pos (show (0 ≤ kv.toInt ∧ kv.toInt < 4) ∧ 0 ≤ lv.toInt ∧ lv.toInt < 3 from ⟨c9, hlv⟩), hFC]))) hw
          have hw : bW G A s.heap [[(am 31, mdO am (f_cellF ln le kv iv lv) n lw nn ra rsn nr tr)], [(am 26, .inl (gI G, 4, .inl sz))], [(am 27, .inl (gI G, 4, .inl sl_))], [(am 28, .inl (gI G, 240, .inl shm))]] H locs := hw
          refine aw_eql (show (-9223372036854775808 : Int64) = f_cell ln le ce kv iv lv from (by rw [f_cell, if_neg (fun q => absurd (hFC.symm.trans q.2) (by decide))])) ?_
          exact aw_lret S hr hlk ha hQ hAe hw dX11_cell_52 (Nat.le_of_ble_eq_true rfl) (Nat.le_of_ble_eq_true rfl) ⟨rfl, rfl⟩
    · rw [l64, l64_0, l64_2] at c21
      refine aw_callS S hE (c_X11_lost l G ()) gX11_cell_X11_lost (n := 0) rfl (by decide +kernel) rfl (by rw [hRm]; exact ⟨Nat.le_of_ble_eq_true rfl, Nat.le_of_ble_eq_true rfl⟩) (by rw [hRm]; exact ⟨Nat.le_of_ble_eq_true rfl, Nat.le_of_ble_eq_true rfl⟩) hw hA hl.1 [] rfl rfl rfl (Nat.le_of_ble_eq_true rfl) dX11_cell_24 ?_
      rintro v w1 H locs ⟨rfl, rfl⟩ hw
      have hw : bW G A s.heap [[(am 31, mdO am 0 n lw nn ra rsn nr tr)], [(am 26, .inl (gI G, 4, .inl sz))], [(am 27, .inl (gI G, 4, .inl sl_))], [(am 28, .inl (gI G, 240, .inl shm))]] H locs := hw
      refine W.eq (g2 := (F0 m 27 ls [.long (-9223372036854775808)])) rfl ?_
      have hw := Eq.mp (congrArg (fun z_ : Int32 => bW G A s.heap [[(am 31, mdO am z_ n lw nn ra rsn nr tr)], [(am 26, .inl (gI G, 4, .inl sz))], [(am 27, .inl (gI G, 4, .inl sl_))], [(am 28, .inl (gI G, 240, .inl shm))]] H locs) (show (0 : Int32) = f_cellF ln le kv iv lv from (by rw [f_cellF, if_neg (fun q => by omega)]))) hw
      have hw : bW G A s.heap [[(am 31, mdO am (f_cellF ln le kv iv lv) n lw nn ra rsn nr tr)], [(am 26, .inl (gI G, 4, .inl sz))], [(am 27, .inl (gI G, 4, .inl sl_))], [(am 28, .inl (gI G, 240, .inl shm))]] H locs := hw
      refine aw_eql (show (-9223372036854775808 : Int64) = f_cell ln le ce kv iv lv from (by rw [f_cell, if_neg (fun q => by omega)])) ?_
      exact aw_lret S hr hlk ha hQ hAe hw dX11_cell_27 (Nat.le_of_ble_eq_true rfl) (Nat.le_of_ble_eq_true rfl) ⟨rfl, rfl⟩
set_option maxRecDepth 100000 in
set_option maxHeartbeats 4000000 in
theorem c_X11_put (l : Launch) (G : aw_G) (am : Nat → Nat) (fl : Int32) (n : Nat) (lw : Int32) (nn ra rsn nr : Nat) (tr : Int32) (sz sl_ shm : Nat → Int32) (ln : Nat → Int32) (le : Nat → Nat) (ce : Nat → Nat → Int32) (kv iv v_ : Int32) (hR : shR sz sl_ shm ln le ce) : CT l G yX11_put wsX11_put ({ frames := 2, cells := 0, slots := 0, locals := 47 }) [.ref (am 31), .int kv, .int iv, .int v_] [[(am 31, mdO am fl n lw nn ra rsn nr tr)], [(am 26, .inl (gI G, 4, .inl sz))], [(am 27, .inl (gI G, 4, .inl sl_))], [(am 28, .inl (gI G, 240, .inl shm))]] (fun v w => v = some (.int (f_put ln le kv iv)) ∧ ∃ sz sl_ shm : Nat → Int32, shR sz sl_ shm ln le (f_setIf (f_putP ln le kv iv) ce (tn kv) (upd (ce (tn kv)) (tn iv) (cutF (ln (tn kv)) v_))) ∧ w = [[(am 31, mdO am (f_putF ln le kv iv) n lw nn ra rsn nr tr)], [(am 26, .inl (gI G, 4, .inl sz))], [(am 27, .inl (gI G, 4, .inl sl_))], [(am 28, .inl (gI G, 240, .inl shm))]]) := by
  refine CT.of (cc := cX11_put) (nL := 4) (ret := (some .int)) (by decide) rfl (Nat.le_of_ble_eq_true rfl) ?_
  intro p e s m below meth c R args Q A hRm ha hQ hAe hA S hE hr hlk hnm H locs hH0 hL0 ls hl hw
  have S : CallFix p m c cX11_put 4 s args wsX11_put RX11 := S
  have hl : lv_has ls 4 [(0, .ref (am 31)), (1, .int kv), (2, .int iv), (3, .int v_)] := hl
  have hinX11 : ∀ w ∈ u_ws RX11 TX11 31, w ∈ wsX11_put := by decide +kernel
  have hf74 := S.2.2.2.2 (.fieldLink RX11 74 "AwakeTurnsModel" "sheet" "[I") (by decide +kernel)
  have hf71 := S.2.2.2.2 (.fieldLink RX11 71 "AwakeTurnsModel" "sheetLane" "[I") (by decide +kernel)
  refine lv_iload_n S.1 S.2.1 dX11_put_0 rfl (lv_at hl 1 rfl) ?_
  refine aw_callS S hE (c_X11_noSheet l G kv) gX11_put_X11_noSheet (n := 1) rfl (by decide +kernel) rfl (by rw [hRm]; exact ⟨Nat.le_of_ble_eq_true rfl, Nat.le_of_ble_eq_true rfl⟩) (by rw [hRm]; exact ⟨Nat.le_of_ble_eq_true rfl, Nat.le_of_ble_eq_true rfl⟩) hw hA hl.1 [] rfl rfl rfl (Nat.le_of_ble_eq_true rfl) dX11_put_1 ?_
  rintro v w1 H locs ⟨rfl, rfl⟩ hw
  have hw : bW G A s.heap [[(am 31, mdO am fl n lw nn ra rsn nr tr)], [(am 26, .inl (gI G, 4, .inl sz))], [(am 27, .inl (gI G, 4, .inl sl_))], [(am 28, .inl (gI G, 240, .inl shm))]] H locs := hw
  refine W.eq (g2 := (F0 m 4 ls [.int (if ¬ (0 ≤ kv.toInt ∧ kv.toInt < 4) then 1 else 0)])) rfl ?_
  refine aw_ifeq (P := ¬ (0 ≤ kv.toInt ∧ kv.toInt < 4)) (tgt := 13) S dX11_put_4 (by decide) (fun c4 => ?_) (fun c4 => ?_)
  · have c4 := Decidable.not_not.mp c4
    have hb_kv : tn kv < 4 := aw_tnL c4
    have hl := Eq.mp (congrArg (fun z_ : Int32 => lv_has ls 4 [(0, .ref (am 31)), (1, .int z_), (2, .int iv), (3, .int v_)]) (show (kv : Int32) = nI (tn kv) from (aw_tnE c4))) hl
    have hl : lv_has ls 4 [(0, .ref (am 31)), (1, .int (nI (tn kv))), (2, .int iv), (3, .int v_)] := hl
    refine lv_aload_n S.1 S.2.1 dX11_put_13 rfl (lv_at hl 0 rfl) ?_
    refine lv_iload_n S.1 S.2.1 dX11_put_14 rfl (lv_at hl 1 rfl) ?_
    refine lv_iload_n S.1 S.2.1 dX11_put_15 rfl (lv_at hl 2 rfl) ?_
    refine aw_callV S hE (c_X11_noCell l G am fl n lw nn ra rsn nr tr sz sl_ shm ln le ce (tn kv) iv (by first | assumption | omega) (by first | assumption | omega)) gX11_put_X11_noCell (n := 2) rfl (by decide +kernel) rfl (by rw [hRm]; exact ⟨Nat.le_of_ble_eq_true rfl, Nat.le_of_ble_eq_true rfl⟩) (by rw [hRm]; exact ⟨Nat.le_of_ble_eq_true rfl, Nat.le_of_ble_eq_true rfl⟩) hw hA hl.1 [0, 1] rfl rfl (aw_recv (i := 0) hE hw rfl rfl rfl) rfl (Nat.le_of_ble_eq_true rfl) dX11_put_16 ?_
    rintro v w1 H locs ⟨rfl, rfl⟩ hw
    have hw : bW G A s.heap [[(am 31, mdO am fl n lw nn ra rsn nr tr)], [(am 26, .inl (gI G, 4, .inl sz))], [(am 27, .inl (gI G, 4, .inl sl_))], [(am 28, .inl (gI G, 240, .inl shm))]] H locs := hw
    refine W.eq (g2 := (F0 m 19 ls [.int (if ln (tn kv) = -1 then 1 else if 0 ≤ iv.toInt ∧ iv.toInt < le (tn kv) then 0 else 3)])) rfl ?_
    refine lv_if_le (tgt := 33) S.1 S.2.1 dX11_put_19 (by decide) (fun c19 => ?_) (fun c19 => ?_)
    · have hz : ¬ ln (tn kv) = -1 := fun q => absurd c19 (by rw [if_pos q]; decide)
      have hiv : 0 ≤ iv.toInt ∧ iv.toInt < le (tn kv) := Decidable.not_not.mp (fun q => absurd c19 (by rw [if_neg hz, if_neg q]; decide))
      have hle60 := (hR _ hb_kv).2.2.1
      have hb_iv : tn iv < le (tn kv) := aw_tnL hiv
      have hl := Eq.mp (congrArg (fun z_ : Int32 => lv_has ls 4 [(0, .ref (am 31)), (1, .int (nI (tn kv))), (2, .int z_), (3, .int v_)]) (show (iv : Int32) = nI (tn iv) from (aw_tnE hiv))) hl
      have hl : lv_has ls 4 [(0, .ref (am 31)), (1, .int (nI (tn kv))), (2, .int (nI (tn iv))), (3, .int v_)] := hl
      refine lv_aload_n S.1 S.2.1 dX11_put_33 rfl (lv_at hl 0 rfl) ?_
      refine aw_get S hE hw 0 (C := RX11) (T := TX11) (N := 31) rfl rfl hinX11 28 (by decide) hf74 rfl dX11_put_34 ?_
      refine lv_bipush (v := 60) S.1 S.2.1 dX11_put_37 (by decide) ?_
      refine lv_iload_n S.1 S.2.1 dX11_put_39 rfl (lv_at hl 1 rfl) ?_
      refine lv_imul S.1 S.2.1 dX11_put_40 ?_
      refine aw_eqi (show (60 * (nI (tn kv)) : Int32) = nI (60 * (tn kv)) from (pk_mul 60 (tn kv))) ?_
      refine lv_iload_n S.1 S.2.1 dX11_put_41 rfl (lv_at hl 2 rfl) ?_
      refine lv_iadd S.1 S.2.1 dX11_put_42 ?_
      refine aw_eqi (show ((nI (60 * (tn kv))) + (nI (tn iv)) : Int32) = nI ((60 * (tn kv)) + (tn iv)) from (nI_add (60 * (tn kv)) (tn iv))) ?_
      refine lv_aload_n S.1 S.2.1 dX11_put_43 rfl (lv_at hl 0 rfl) ?_
      refine aw_get S hE hw 0 (C := RX11) (T := TX11) (N := 31) rfl rfl hinX11 27 (by decide) hf71 rfl dX11_put_44 ?_
      refine lv_iload_n S.1 S.2.1 dX11_put_47 rfl (lv_at hl 1 rfl) ?_
      refine aw_iald S hE hw 2 (k := (tn kv)) rfl (by omega) (by decide) dX11_put_48 ?_
      have join73 : ∀ (H : Heap) (locs : List Loc), ∀ (ls : Array Slot), lv_has ls 4 [(0, .ref (am 31)), (1, .int (nI (tn kv))), (2, .int (nI (tn iv))), (3, .int v_)] → bW G A s.heap [[(am 31, mdO am fl n lw nn ra rsn nr tr)], [(am 26, .inl (gI G, 4, .inl sz))], [(am 27, .inl (gI G, 4, .inl sl_))], [(am 28, .inl (gI G, 240, .inl shm))]] H locs → W p l e R s m args below meth c H locs 0 0 Q (F0 m 73 ls [.int (cutF (ln (tn kv)) v_), .int (nI ((60 * (tn kv)) + (tn iv))), .ref (am 28)]) := by
        intro  H locs ls hl hw
        refine aw_iast S hE hw 3 (k := ((60 * (tn kv)) + (tn iv))) rfl (by omega) (by decide) dX11_put_73 (fun H locs hw => ?_)
        have hw : bW G A s.heap [[(am 31, mdO am fl n lw nn ra rsn nr tr)], [(am 26, .inl (gI G, 4, .inl sz))], [(am 27, .inl (gI G, 4, .inl sl_))], [(am 28, .inl (gI G, 240, .inl (upd shm ((60 * (tn kv)) + (tn iv)) (cutF (ln (tn kv)) v_))))]] H locs := hw
        refine lv_aload_n S.1 S.2.1 dX11_put_74 rfl (lv_at hl 0 rfl) ?_
        refine lv_iconst (v := 1) S.1 S.2.1 dX11_put_75 (by decide) ?_
        refine aw_callV S hE (c_X11_refused l G am fl n lw nn ra rsn nr tr 1) gX11_put_X11_refused (n := 1) rfl (by decide +kernel) rfl (by rw [hRm]; exact ⟨Nat.le_of_ble_eq_true rfl, Nat.le_of_ble_eq_true rfl⟩) (by rw [hRm]; exact ⟨Nat.le_of_ble_eq_true rfl, Nat.le_of_ble_eq_true rfl⟩) hw hA hl.1 [0] rfl rfl (aw_recv (i := 0) hE hw rfl rfl rfl) rfl (Nat.le_of_ble_eq_true rfl) dX11_put_76 ?_
        rintro v w1 H locs ⟨rfl, rfl⟩ hw
        have hw : bW G A s.heap [[(am 31, mdO am 0 n lw nn ra rsn nr tr)], [(am 26, .inl (gI G, 4, .inl sz))], [(am 27, .inl (gI G, 4, .inl sl_))], [(am 28, .inl (gI G, 240, .inl (upd shm ((60 * (tn kv)) + (tn iv)) (cutF (ln (tn kv)) v_))))]] H locs := hw
        refine W.eq (g2 := (F0 m 79 ls [.int 1])) rfl ?_
        have hw := Eq.mp (congrArg (fun z_ : Int32 => bW G A s.heap [[(am 31, mdO am z_ n lw nn ra rsn nr tr)], [(am 26, .inl (gI G, 4, .inl sz))], [(am 27, .inl (gI G, 4, .inl sl_))], [(am 28, .inl (gI G, 240, .inl (upd shm ((60 * (tn kv)) + (tn iv)) (cutF (ln (tn kv)) v_))))]] H locs) (show (0 : Int32) = f_putF ln le kv iv from (by rw [f_putF, if_pos c4, if_neg hz, if_pos hiv]))) hw
        have hw : bW G A s.heap [[(am 31, mdO am (f_putF ln le kv iv) n lw nn ra rsn nr tr)], [(am 26, .inl (gI G, 4, .inl sz))], [(am 27, .inl (gI G, 4, .inl sl_))], [(am 28, .inl (gI G, 240, .inl (upd shm ((60 * (tn kv)) + (tn iv)) (cutF (ln (tn kv)) v_))))]] H locs := hw
        refine aw_eqi (show (1 : Int32) = f_put ln le kv iv from (by rw [f_put, if_pos c4, if_neg hz, if_pos hiv])) ?_
        exact aw_iret S hr hlk ha hQ hAe hw dX11_put_79 rfl (Nat.le_of_ble_eq_true rfl) (Nat.le_of_ble_eq_true rfl) ⟨rfl, _, _, _, by rw [f_setIf, if_pos ⟨c4, hz, hiv⟩]; exact sh_put hR hb_kv hb_iv, rfl⟩
      refine aw_eqi (show (sl_ (tn kv) : Int32) = ln (tn kv) from ((hR _ hb_kv).2.1 hz)) ?_
      refine lv_if_ne (tgt := 57) S.1 S.2.1 dX11_put_49 (by decide) (fun c49 => ?_) (fun c49 => ?_)
      · refine lv_aload_n S.1 S.2.1 dX11_put_57 rfl (lv_at hl 0 rfl) ?_
        refine aw_get S hE hw 0 (C := RX11) (T := TX11) (N := 31) rfl rfl hinX11 27 (by decide) hf71 rfl dX11_put_58 ?_
        refine lv_iload_n S.1 S.2.1 dX11_put_61 rfl (lv_at hl 1 rfl) ?_
        refine aw_iald S hE hw 2 (k := (tn kv)) rfl (by omega) (by decide) dX11_put_62 ?_
        refine aw_eqi (show (sl_ (tn kv) : Int32) = ln (tn kv) from ((hR _ hb_kv).2.1 hz)) ?_
        refine lv_iconst (v := 1) S.1 S.2.1 dX11_put_63 (by decide) ?_
        refine lv_icmp_ne (tgt := 72) S.1 S.2.1 dX11_put_64 (by decide) (fun c64 => ?_) (fun c64 => ?_)
        · refine lv_iload_n S.1 S.2.1 dX11_put_72 rfl (lv_at hl 3 rfl) ?_
          refine aw_eqi (show (v_ : Int32) = cutF (ln (tn kv)) v_ from (by rw [cutF, if_neg c49, if_neg c64])) ?_
          exact join73  _ _ _ (lv_sub hl [0, 1, 2, 3] rfl) hw
        · refine lv_iload_n S.1 S.2.1 dX11_put_67 rfl (lv_at hl 3 rfl) ?_
          refine lv_i2s S.1 S.2.1 dX11_put_68 rfl ?_
          refine lv_goto (tgt := 73) S.1 S.2.1 dX11_put_69 (by decide) ?_
          refine aw_eqi (show (v_.toInt16.toInt32 : Int32) = cutF (ln (tn kv)) v_ from (by rw [cutF, if_neg c49, if_pos c64])) ?_
          exact join73  _ _ _ (lv_sub hl [0, 1, 2, 3] rfl) hw
      · refine lv_iload_n S.1 S.2.1 dX11_put_52 rfl (lv_at hl 3 rfl) ?_
        refine lv_i2b S.1 S.2.1 dX11_put_53 rfl ?_
        refine lv_goto (tgt := 73) S.1 S.2.1 dX11_put_54 (by decide) ?_
        refine aw_eqi (show (v_.toInt8.toInt32 : Int32) = cutF (ln (tn kv)) v_ from (by rw [cutF, if_pos c49])) ?_
        exact join73  _ _ _ (lv_sub hl [0, 1, 2, 3] rfl) hw
    · refine lv_aload_n S.1 S.2.1 dX11_put_22 rfl (lv_at hl 0 rfl) ?_
      refine lv_aload_n S.1 S.2.1 dX11_put_23 rfl (lv_at hl 0 rfl) ?_
      refine lv_iload_n S.1 S.2.1 dX11_put_24 rfl (lv_at hl 1 rfl) ?_
      refine lv_iload_n S.1 S.2.1 dX11_put_25 rfl (lv_at hl 2 rfl) ?_
      refine aw_callV S hE (c_X11_noCell l G am fl n lw nn ra rsn nr tr sz sl_ shm ln le ce (tn kv) iv (by first | assumption | omega) (by first | assumption | omega)) gX11_put_X11_noCell (n := 2) rfl (by decide +kernel) rfl (by rw [hRm]; exact ⟨Nat.le_of_ble_eq_true rfl, Nat.le_of_ble_eq_true rfl⟩) (by rw [hRm]; exact ⟨Nat.le_of_ble_eq_true rfl, Nat.le_of_ble_eq_true rfl⟩) hw hA hl.1 [0, 1] rfl rfl (aw_recv (i := 0) hE hw rfl rfl rfl) rfl (Nat.le_of_ble_eq_true rfl) dX11_put_26 ?_
      rintro v w1 H locs ⟨rfl, rfl⟩ hw
      have hw : bW G A s.heap [[(am 31, mdO am fl n lw nn ra rsn nr tr)], [(am 26, .inl (gI G, 4, .inl sz))], [(am 27, .inl (gI G, 4, .inl sl_))], [(am 28, .inl (gI G, 240, .inl shm))]] H locs := hw
      refine W.eq (g2 := (F0 m 29 ls [.int (if ln (tn kv) = -1 then 1 else if 0 ≤ iv.toInt ∧ iv.toInt < le (tn kv) then 0 else 3), .ref (am 31)])) rfl ?_
      refine aw_callV S hE (c_X11_failed l G am fl n lw nn ra rsn nr tr (if ln (tn kv) = -1 then 1 else if 0 ≤ iv.toInt ∧ iv.toInt < le (tn kv) then 0 else 3)) gX11_put_X11_failed (n := 1) rfl (by decide +kernel) rfl (by rw [hRm]; exact ⟨Nat.le_of_ble_eq_true rfl, Nat.le_of_ble_eq_true rfl⟩) (by rw [hRm]; exact ⟨Nat.le_of_ble_eq_true rfl, Nat.le_of_ble_eq_true rfl⟩) hw hA hl.1 [0] rfl rfl (aw_recv (i := 0) hE hw rfl rfl rfl) rfl (Nat.le_of_ble_eq_true rfl) dX11_put_29 ?_
      rintro v w1 H locs ⟨rfl, rfl⟩ hw
      have hw : bW G A s.heap [[(am 31, mdO am (if ln (tn kv) = -1 then 1 else if 0 ≤ iv.toInt ∧ iv.toInt < le (tn kv) then 0 else 3) n lw nn ra rsn nr tr)], [(am 26, .inl (gI G, 4, .inl sz))], [(am 27, .inl (gI G, 4, .inl sl_))], [(am 28, .inl (gI G, 240, .inl shm))]] H locs := hw
      refine W.eq (g2 := (F0 m 32 ls [.int (-10 - (if ln (tn kv) = -1 then 1 else if 0 ≤ iv.toInt ∧ iv.toInt < le (tn kv) then 0 else 3))])) rfl ?_
      have hw := Eq.mp (congrArg (fun z_ : Int32 => bW G A s.heap [[(am 31, mdO am z_ n lw nn ra rsn nr tr)], [(am 26, .inl (gI G, 4, .inl sz))], [(am 27, .inl (gI G, 4, .inl sl_))], [(am 28, .inl (gI G, 240, .inl shm))]] H locs) (show ((if ln (tn kv) = -1 then 1 else if 0 ≤ iv.toInt ∧ iv.toInt < le (tn kv) then 0 else 3) : Int32) = f_putF ln le kv iv from (by rw [f_putF, if_pos c4]))) hw
      have hw : bW G A s.heap [[(am 31, mdO am (f_putF ln le kv iv) n lw nn ra rsn nr tr)], [(am 26, .inl (gI G, 4, .inl sz))], [(am 27, .inl (gI G, 4, .inl sl_))], [(am 28, .inl (gI G, 240, .inl shm))]] H locs := hw
      refine aw_eqi (show (-10 - (if ln (tn kv) = -1 then 1 else if 0 ≤ iv.toInt ∧ iv.toInt < le (tn kv) then 0 else 3) : Int32) = f_put ln le kv iv from (by rw [f_put, if_pos c4]; by_cases z : ln (tn kv) = -1; (rw [if_pos z, if_pos z]; rfl); (rw [if_neg z, if_neg z, if_neg (fun q => c19 (by rw [if_neg z, if_pos q]; decide)), if_neg (fun q => c19 (by rw [if_neg z, if_pos q]; decide))]; rfl))) ?_
      exact aw_iret S hr hlk ha hQ hAe hw dX11_put_32 rfl (Nat.le_of_ble_eq_true rfl) (Nat.le_of_ble_eq_true rfl) ⟨rfl, _, _, _, by rw [f_setIf, if_neg (fun q => c19 (by rw [if_neg q.2.1, if_pos q.2.2]; decide))]; exact hR, rfl⟩
  · refine lv_aload_n S.1 S.2.1 dX11_put_7 rfl (lv_at hl 0 rfl) ?_
    refine lv_iconst (v := (-1)) S.1 S.2.1 dX11_put_8 (by decide) ?_
    refine aw_callV S hE (c_X11_refused l G am fl n lw nn ra rsn nr tr (-1)) gX11_put_X11_refused (n := 1) rfl (by decide +kernel) rfl (by rw [hRm]; exact ⟨Nat.le_of_ble_eq_true rfl, Nat.le_of_ble_eq_true rfl⟩) (by rw [hRm]; exact ⟨Nat.le_of_ble_eq_true rfl, Nat.le_of_ble_eq_true rfl⟩) hw hA hl.1 [0] rfl rfl (aw_recv (i := 0) hE hw rfl rfl rfl) rfl (Nat.le_of_ble_eq_true rfl) dX11_put_9 ?_
    rintro v w1 H locs ⟨rfl, rfl⟩ hw
    have hw : bW G A s.heap [[(am 31, mdO am 0 n lw nn ra rsn nr tr)], [(am 26, .inl (gI G, 4, .inl sz))], [(am 27, .inl (gI G, 4, .inl sl_))], [(am 28, .inl (gI G, 240, .inl shm))]] H locs := hw
    refine W.eq (g2 := (F0 m 12 ls [.int (-1)])) rfl ?_
    have hw := Eq.mp (congrArg (fun z_ : Int32 => bW G A s.heap [[(am 31, mdO am z_ n lw nn ra rsn nr tr)], [(am 26, .inl (gI G, 4, .inl sz))], [(am 27, .inl (gI G, 4, .inl sl_))], [(am 28, .inl (gI G, 240, .inl shm))]] H locs) (show (0 : Int32) = f_putF ln le kv iv from (by rw [f_putF, if_neg c4]))) hw
    have hw : bW G A s.heap [[(am 31, mdO am (f_putF ln le kv iv) n lw nn ra rsn nr tr)], [(am 26, .inl (gI G, 4, .inl sz))], [(am 27, .inl (gI G, 4, .inl sl_))], [(am 28, .inl (gI G, 240, .inl shm))]] H locs := hw
    refine aw_eqi (show ((-1) : Int32) = f_put ln le kv iv from (by rw [f_put, if_neg c4])) ?_
    exact aw_iret S hr hlk ha hQ hAe hw dX11_put_12 rfl (Nat.le_of_ble_eq_true rfl) (Nat.le_of_ble_eq_true rfl) ⟨rfl, _, _, _, by rw [f_setIf, if_neg (fun q => c4 q.1)]; exact hR, rfl⟩
