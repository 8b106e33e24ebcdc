/-! the reference: a copy -/
theorem sh_copy {sz sl_ shm ln : Nat → Int32} {le : Nat → Nat} {ce : Nat → Nat → Int32} (h : shR sz sl_ shm ln le ce) {k o i j m : Nat} (hk : k < 4) (ho : o < 4) (zk : ¬ ln k = -1) (h1 : i + m ≤ le k) (h2 : j + m ≤ le o) : shR sz sl_ (stF (fun x => shm (60 * k + i + x)) shm (60 * o + j) m) ln le (va_up ce o (va_cpy (ce k) (ce o) i j m)) := by
  intro a ha
  have q := h a ha
  have qk := h k hk
  have qo := (h o ho).2.2.1
  have q3 := q.2.2.1
  refine ⟨q.1, q.2.1, q3, fun z x hx => ?_⟩
  unfold va_up
  by_cases e : a = o
  · subst e
    rw [if_pos rfl]
    by_cases y : j ≤ x ∧ x < j + m
    · rw [pk_cpy_in y.1 y.2, stF, if_pos (by omega)]
      show shm (60 * k + i + (60 * a + x - (60 * a + j))) = _
      rw [← qk.2.2.2 zk (i + (x - j)) (by omega)]
      congr 1
      omega
    · rw [pk_cpy_out (by omega), stF, if_neg (by omega)]
      exact q.2.2.2 z x hx
  · rw [if_neg e, stF, if_neg (by omega)]
    exact q.2.2.2 z x hx
set_option maxRecDepth 100000 in
set_option maxHeartbeats 4000000 in
theorem c_X11_copy (l : Launch) (G : aw_G) (am : Nat → Nat) (fl : Int32) (n : Nat) (lw : Int32) (nn ra rsn nr : Nat) (tr : Int32) (sz sl_ shm : Nat → Int32) (ln : Nat → Int32) (le : Nat → Nat) (ce : Nat → Nat → Int32) (hd : Nat → Int32) (kv iv ov jv nv : Int32) (hR : shR sz sl_ shm ln le ce) : CT l G yX11_copy wsX11_copy ({ frames := 2, cells := 0, slots := 0, locals := 45 }) [.ref (am 31), .int kv, .int iv, .int ov, .int jv, .int nv] [[(am 31, mdO am fl n lw nn ra rsn nr tr)], [(am 26, .inl (gI G, 4, .inl sz))], [(am 27, .inl (gI G, 4, .inl sl_))], [(am 28, .inl (gI G, 240, .inl shm))], [(am 29, .inl (gI G, 60, .inl hd))]] (fun v w => v = some (.int (f_copy ln le kv iv ov jv nv)) ∧ ∃ sz sl_ shm hd : Nat → Int32, shR sz sl_ shm ln le (f_setIf (f_copyP ln le kv iv ov jv nv) ce (tn ov) (va_cpy (ce (tn kv)) (ce (tn ov)) (tn iv) (tn jv) (tn nv))) ∧ w = [[(am 31, mdO am (f_copyF ln le kv iv ov jv nv) n lw nn ra rsn nr tr)], [(am 26, .inl (gI G, 4, .inl sz))], [(am 27, .inl (gI G, 4, .inl sl_))], [(am 28, .inl (gI G, 240, .inl shm))], [(am 29, .inl (gI G, 60, .inl hd))]]) := by
  refine CT.of (cc := cX11_copy) (nL := 7) (ret := (some .int)) (by decide) rfl (Nat.le_of_ble_eq_true rfl) ?_
  intro p e s m below meth c R args Q A hRm ha hQ hAe hA S hE hr hlk hnm H locs hH0 hL0 ls hl hw
  have S : CallFix p m c cX11_copy 7 s args wsX11_copy RX11 := S
  have hl : lv_has ls 7 [(0, .ref (am 31)), (1, .int kv), (2, .int iv), (3, .int ov), (4, .int jv), (5, .int nv)] := hl
  have hinX11 : ∀ w ∈ u_ws RX11 TX11 31, w ∈ wsX11_copy := by decide +kernel
  have hf68 := S.2.2.2.2 (.fieldLink RX11 68 "AwakeTurnsModel" "sheetSize" "[I") (by decide +kernel)
  have hf71 := S.2.2.2.2 (.fieldLink RX11 71 "AwakeTurnsModel" "sheetLane" "[I") (by decide +kernel)
  have hf74 := S.2.2.2.2 (.fieldLink RX11 74 "AwakeTurnsModel" "sheet" "[I") (by decide +kernel)
  have hf77 := S.2.2.2.2 (.fieldLink RX11 77 "AwakeTurnsModel" "hands" "[I") (by decide +kernel)
  have e1 : nv.toInt64.toInt = nv.toInt := l64 nv
  refine lv_iload_n S.1 S.2.1 dX11_copy_0 rfl (lv_at hl 1 rfl) ?_
  refine aw_callS S hE (c_X11_noSheet l G kv) gX11_copy_X11_noSheet (n := 1) rfl (by decide +kernel) rfl (by rw [hRm]; exact ⟨Nat.le_of_ble_eq_true rfl, Nat.le_of_ble_eq_true rfl⟩) (by rw [hRm]; exact ⟨Nat.le_of_ble_eq_true rfl, Nat.le_of_ble_eq_true rfl⟩) hw hA hl.1 [] rfl rfl rfl (Nat.le_of_ble_eq_true rfl) dX11_copy_1 ?_
  rintro v w1 H locs ⟨rfl, rfl⟩ hw
  have hw : bW G A s.heap [[(am 31, mdO am fl n lw nn ra rsn nr tr)], [(am 26, .inl (gI G, 4, .inl sz))], [(am 27, .inl (gI G, 4, .inl sl_))], [(am 28, .inl (gI G, 240, .inl shm))], [(am 29, .inl (gI G, 60, .inl hd))]] H locs := hw
  refine W.eq (g2 := (F0 m 4 ls [.int (if ¬ (0 ≤ kv.toInt ∧ kv.toInt < 4) then 1 else 0)])) rfl ?_
  refine aw_ifne (P := ¬ (0 ≤ kv.toInt ∧ kv.toInt < 4)) (tgt := 14) S dX11_copy_4 (by decide) (fun c4 => ?_) (fun c4 => ?_)
  · refine lv_aload_n S.1 S.2.1 dX11_copy_14 rfl (lv_at hl 0 rfl) ?_
    refine lv_iconst (v := (-1)) S.1 S.2.1 dX11_copy_15 (by decide) ?_
    refine aw_callV S hE (c_X11_refused l G am fl n lw nn ra rsn nr tr (-1)) gX11_copy_X11_refused (n := 1) rfl (by decide +kernel) rfl (by rw [hRm]; exact ⟨Nat.le_of_ble_eq_true rfl, Nat.le_of_ble_eq_true rfl⟩) (by rw [hRm]; exact ⟨Nat.le_of_ble_eq_true rfl, Nat.le_of_ble_eq_true rfl⟩) hw hA hl.1 [0] rfl rfl (aw_recv (i := 0) hE hw rfl rfl rfl) rfl (Nat.le_of_ble_eq_true rfl) dX11_copy_16 ?_
    rintro v w1 H locs ⟨rfl, rfl⟩ hw
    have hw : bW G A s.heap [[(am 31, mdO am 0 n lw nn ra rsn nr tr)], [(am 26, .inl (gI G, 4, .inl sz))], [(am 27, .inl (gI G, 4, .inl sl_))], [(am 28, .inl (gI G, 240, .inl shm))], [(am 29, .inl (gI G, 60, .inl hd))]] H locs := hw
    refine W.eq (g2 := (F0 m 19 ls [.int (-1)])) rfl ?_
    have hw := Eq.mp (congrArg (fun z_ : Int32 => bW G A s.heap [[(am 31, mdO am z_ n lw nn ra rsn nr tr)], [(am 26, .inl (gI G, 4, .inl sz))], [(am 27, .inl (gI G, 4, .inl sl_))], [(am 28, .inl (gI G, 240, .inl shm))], [(am 29, .inl (gI G, 60, .inl hd))]] H locs) (show (0 : Int32) = f_copyF ln le kv iv ov jv nv from (by rw [f_copyF, if_neg (fun q => c4 q.1)]))) hw
    have hw : bW G A s.heap [[(am 31, mdO am (f_copyF ln le kv iv ov jv nv) n lw nn ra rsn nr tr)], [(am 26, .inl (gI G, 4, .inl sz))], [(am 27, .inl (gI G, 4, .inl sl_))], [(am 28, .inl (gI G, 240, .inl shm))], [(am 29, .inl (gI G, 60, .inl hd))]] H locs := hw
    refine aw_eqi (show ((-1) : Int32) = f_copy ln le kv iv ov jv nv from (by rw [f_copy, if_neg (fun q => c4 q.1)])) ?_
    exact aw_iret S hr hlk ha hQ hAe hw dX11_copy_19 rfl (Nat.le_of_ble_eq_true rfl) (Nat.le_of_ble_eq_true rfl) ⟨rfl, _, _, _, _, by rw [f_setIf, if_neg (fun q => c4 q.1.1)]; exact hR, rfl⟩
  · have c4 := Decidable.not_not.mp c4
    have hb_kv : tn kv < 4 := aw_tnL c4
    have hl := Eq.mp (congrArg (fun z_ : Int32 => lv_has ls 7 [(0, .ref (am 31)), (1, .int z_), (2, .int iv), (3, .int ov), (4, .int jv), (5, .int nv)]) (show (kv : Int32) = nI (tn kv) from (aw_tnE c4))) hl
    have hl : lv_has ls 7 [(0, .ref (am 31)), (1, .int (nI (tn kv))), (2, .int iv), (3, .int ov), (4, .int jv), (5, .int nv)] := hl
    have hle1 := (hR _ hb_kv).2.2.1
    refine lv_iload_n S.1 S.2.1 dX11_copy_7 rfl (lv_at hl 3 rfl) ?_
    refine aw_callS S hE (c_X11_noSheet l G ov) gX11_copy_X11_noSheet (n := 1) rfl (by decide +kernel) rfl (by rw [hRm]; exact ⟨Nat.le_of_ble_eq_true rfl, Nat.le_of_ble_eq_true rfl⟩) (by rw [hRm]; exact ⟨Nat.le_of_ble_eq_true rfl, Nat.le_of_ble_eq_true rfl⟩) hw hA hl.1 [] rfl rfl rfl (Nat.le_of_ble_eq_true rfl) dX11_copy_8 ?_
    rintro v w1 H locs ⟨rfl, rfl⟩ hw
    have hw : bW G A s.heap [[(am 31, mdO am fl n lw nn ra rsn nr tr)], [(am 26, .inl (gI G, 4, .inl sz))], [(am 27, .inl (gI G, 4, .inl sl_))], [(am 28, .inl (gI G, 240, .inl shm))], [(am 29, .inl (gI G, 60, .inl hd))]] H locs := hw
    refine W.eq (g2 := (F0 m 11 ls [.int (if ¬ (0 ≤ ov.toInt ∧ ov.toInt < 4) then 1 else 0)])) rfl ?_
    refine aw_ifeq (P := ¬ (0 ≤ ov.toInt ∧ ov.toInt < 4)) (tgt := 20) S dX11_copy_11 (by decide) (fun c11 => ?_) (fun c11 => ?_)
    · have c11 := Decidable.not_not.mp c11
      have hb_ov : tn ov < 4 := aw_tnL c11
      have hl := Eq.mp (congrArg (fun z_ : Int32 => lv_has ls 7 [(0, .ref (am 31)), (1, .int (nI (tn kv))), (2, .int iv), (3, .int z_), (4, .int jv), (5, .int nv)]) (show (ov : Int32) = nI (tn ov) from (aw_tnE c11))) hl
      have hl : lv_has ls 7 [(0, .ref (am 31)), (1, .int (nI (tn kv))), (2, .int iv), (3, .int (nI (tn ov))), (4, .int jv), (5, .int nv)] := hl
      have hle2 := (hR _ hb_ov).2.2.1
      refine lv_aload_n S.1 S.2.1 dX11_copy_20 rfl (lv_at hl 0 rfl) ?_
      refine aw_get S hE hw 0 (C := RX11) (T := TX11) (N := 31) rfl rfl hinX11 26 (by decide) hf68 rfl dX11_copy_21 ?_
      refine lv_iload_n S.1 S.2.1 dX11_copy_24 rfl (lv_at hl 1 rfl) ?_
      refine aw_iald S hE hw 1 (k := (tn kv)) rfl (by omega) (by decide) dX11_copy_25 ?_
      refine lv_if_lt (tgt := 38) S.1 S.2.1 dX11_copy_26 (by decide) (fun c26 => ?_) (fun c26 => ?_)
      · have hFC : f_copyF ln le kv iv ov jv nv = 1 := by rw [f_copyF, if_pos (show (0 ≤ kv.toInt ∧ kv.toInt < 4) ∧ 0 ≤ ov.toInt ∧ ov.toInt < 4 from ⟨c4, c11⟩), if_pos (Or.inl ((hR.neg hb_kv).mp c26))]
        refine lv_aload_n S.1 S.2.1 dX11_copy_38 rfl (lv_at hl 0 rfl) ?_
        refine lv_iconst (v := 1) S.1 S.2.1 dX11_copy_39 (by decide) ?_
        refine aw_callV S hE (c_X11_failed l G am fl n lw nn ra rsn nr tr 1) gX11_copy_X11_failed (n := 1) rfl (by decide +kernel) rfl (by rw [hRm]; exact ⟨Nat.le_of_ble_eq_true rfl, Nat.le_of_ble_eq_true rfl⟩) (by rw [hRm]; exact ⟨Nat.le_of_ble_eq_true rfl, Nat.le_of_ble_eq_true rfl⟩) hw hA hl.1 [0] rfl rfl (aw_recv (i := 0) hE hw rfl rfl rfl) rfl (Nat.le_of_ble_eq_true rfl) dX11_copy_40 ?_
        rintro v w1 H locs ⟨rfl, rfl⟩ hw
        have hw : bW G A s.heap [[(am 31, mdO am 1 n lw nn ra rsn nr tr)], [(am 26, .inl (gI G, 4, .inl sz))], [(am 27, .inl (gI G, 4, .inl sl_))], [(am 28, .inl (gI G, 240, .inl shm))], [(am 29, .inl (gI G, 60, .inl hd))]] H locs := hw
        refine W.eq (g2 := (F0 m 43 ls [.int (-10 - 1)])) rfl ?_
        have hw := Eq.mp (congrArg (fun z_ : Int32 => bW G A s.heap [[(am 31, mdO am z_ n lw nn ra rsn nr tr)], [(am 26, .inl (gI G, 4, .inl sz))], [(am 27, .inl (gI G, 4, .inl sl_))], [(am 28, .inl (gI G, 240, .inl shm))], [(am 29, .inl (gI G, 60, .inl hd))]] H locs) (show (1 : Int32) = f_copyF ln le kv iv ov jv nv from hFC.symm)) hw
        have hw : bW G A s.heap [[(am 31, mdO am (f_copyF ln le kv iv ov jv nv) n lw nn ra rsn nr tr)], [(am 26, .inl (gI G, 4, .inl sz))], [(am 27, .inl (gI G, 4, .inl sl_))], [(am 28, .inl (gI G, 240, .inl shm))], [(am 29, .inl (gI G, 60, .inl hd))]] H locs := hw
        refine aw_eqi (show (-10 - 1 : Int32) = f_copy ln le kv iv ov jv nv from (by rw [f_copy, if_pos (show (0 ≤ kv.toInt ∧ kv.toInt < 4) ∧ 0 ≤ ov.toInt ∧ ov.toInt < 4 from ⟨c4, c11⟩), hFC, if_neg (by decide)])) ?_
        exact aw_iret S hr hlk ha hQ hAe hw dX11_copy_43 rfl (Nat.le_of_ble_eq_true rfl) (Nat.le_of_ble_eq_true rfl) ⟨rfl, _, _, _, _, by rw [f_setIf, if_neg (fun q => absurd (hFC.symm.trans q.2) (by decide))]; exact hR, rfl⟩
      · have hz1 : ¬ ln (tn kv) = -1 := fun q => c26 ((hR.neg hb_kv).mpr q)
        have hs1 := (hR _ hb_kv).2.1 hz1
        have hl1 := hR.len hb_kv hz1
        refine lv_aload_n S.1 S.2.1 dX11_copy_29 rfl (lv_at hl 0 rfl) ?_
        refine aw_get S hE hw 0 (C := RX11) (T := TX11) (N := 31) rfl rfl hinX11 26 (by decide) hf68 rfl dX11_copy_30 ?_
        refine lv_iload_n S.1 S.2.1 dX11_copy_33 rfl (lv_at hl 3 rfl) ?_
        refine aw_iald S hE hw 1 (k := (tn ov)) rfl (by omega) (by decide) dX11_copy_34 ?_
        refine lv_if_ge (tgt := 44) S.1 S.2.1 dX11_copy_35 (by decide) (fun c35 => ?_) (fun c35 => ?_)
        · have hz2 := (hR.pos hb_ov).mp c35
          have hs2 := (hR _ hb_ov).2.1 hz2
          have hl2 := hR.len hb_ov hz2
          have hzz : ¬ (ln (tn kv) = -1 ∨ ln (tn ov) = -1) := fun q => q.elim hz1 hz2
          refine lv_aload_n S.1 S.2.1 dX11_copy_44 rfl (lv_at hl 0 rfl) ?_
          refine aw_get S hE hw 0 (C := RX11) (T := TX11) (N := 31) rfl rfl hinX11 27 (by decide) hf71 rfl dX11_copy_45 ?_
          refine lv_iload_n S.1 S.2.1 dX11_copy_48 rfl (lv_at hl 1 rfl) ?_
          refine aw_iald S hE hw 2 (k := (tn kv)) rfl (by omega) (by decide) dX11_copy_49 ?_
          refine lv_aload_n S.1 S.2.1 dX11_copy_50 rfl (lv_at hl 0 rfl) ?_
          refine aw_get S hE hw 0 (C := RX11) (T := TX11) (N := 31) rfl rfl hinX11 27 (by decide) hf71 rfl dX11_copy_51 ?_
          refine lv_iload_n S.1 S.2.1 dX11_copy_54 rfl (lv_at hl 3 rfl) ?_
          refine aw_iald S hE hw 2 (k := (tn ov)) rfl (by omega) (by decide) dX11_copy_55 ?_
          refine lv_icmp_eq (tgt := 65) S.1 S.2.1 dX11_copy_56 (by decide) (fun c56 => ?_) (fun c56 => ?_)
          · rw [hs1, hs2] at c56
            refine lv_iload_n S.1 S.2.1 dX11_copy_65 rfl (lv_at hl 2 rfl) ?_
            refine lv_iload S.1 S.2.1 dX11_copy_66 (lv_at hl 5 rfl) ?_
            refine lv_i2l S.1 S.2.1 dX11_copy_68 rfl ?_
            refine lv_aload_n S.1 S.2.1 dX11_copy_69 rfl (lv_at hl 0 rfl) ?_
            refine aw_get S hE hw 0 (C := RX11) (T := TX11) (N := 31) rfl rfl hinX11 26 (by decide) hf68 rfl dX11_copy_70 ?_
            refine lv_iload_n S.1 S.2.1 dX11_copy_73 rfl (lv_at hl 1 rfl) ?_
            refine aw_iald S hE hw 1 (k := (tn kv)) rfl (by omega) (by decide) dX11_copy_74 ?_
            refine aw_callS S hE (c_X11_isBeyond l G iv nv.toInt64 (sz (tn kv)) (by rw [e1]; have h1 := Int32.toInt_lt nv; have h2 := Int32.le_toInt nv; omega)) gX11_copy_X11_isBeyond (n := 3) rfl (by decide +kernel) rfl (by rw [hRm]; exact ⟨Nat.le_of_ble_eq_true rfl, Nat.le_of_ble_eq_true rfl⟩) (by rw [hRm]; exact ⟨Nat.le_of_ble_eq_true rfl, Nat.le_of_ble_eq_true rfl⟩) hw hA hl.1 [] rfl rfl rfl (Nat.le_of_ble_eq_true rfl) dX11_copy_75 ?_
            rintro v w1 H locs ⟨rfl, rfl⟩ hw
            have hw : bW G A s.heap [[(am 31, mdO am fl n lw nn ra rsn nr tr)], [(am 26, .inl (gI G, 4, .inl sz))], [(am 27, .inl (gI G, 4, .inl sl_))], [(am 28, .inl (gI G, 240, .inl shm))], [(am 29, .inl (gI G, 60, .inl hd))]] H locs := hw
            refine W.eq (g2 := (F0 m 78 ls [.int (if iv.toInt < 0 ∨ nv.toInt64.toInt < 0 ∨ (sz (tn kv)).toInt < iv.toInt + nv.toInt64.toInt then 1 else 0)])) rfl ?_
            refine aw_ifne (P := iv.toInt < 0 ∨ nv.toInt64.toInt < 0 ∨ (sz (tn kv)).toInt < iv.toInt + nv.toInt64.toInt) (tgt := 98) S dX11_copy_78 (by decide) (fun c78 => ?_) (fun c78 => ?_)
            · rw [e1, hl1] at c78
              have hFC : f_copyF ln le kv iv ov jv nv = 3 := by rw [f_copyF, if_pos (show (0 ≤ kv.toInt ∧ kv.toInt < 4) ∧ 0 ≤ ov.toInt ∧ ov.toInt < 4 from ⟨c4, c11⟩), if_neg hzz, if_neg (fun q => q c56), if_neg (show ¬ (¬ nv.toInt < 0 ∧ f_rng (le (tn kv)) iv nv ∧ f_rng (le (tn ov)) jv nv) by unfold f_rng; omega)]
              refine lv_aload_n S.1 S.2.1 dX11_copy_98 rfl (lv_at hl 0 rfl) ?_
              refine lv_iconst (v := 3) S.1 S.2.1 dX11_copy_99 (by decide) ?_
              refine aw_callV S hE (c_X11_failed l G am fl n lw nn ra rsn nr tr 3) gX11_copy_X11_failed (n := 1) rfl (by decide +kernel) rfl (by rw [hRm]; exact ⟨Nat.le_of_ble_eq_true rfl, Nat.le_of_ble_eq_true rfl⟩) (by rw [hRm]; exact ⟨Nat.le_of_ble_eq_true rfl, Nat.le_of_ble_eq_true rfl⟩) hw hA hl.1 [0] rfl rfl (aw_recv (i := 0) hE hw rfl rfl rfl) rfl (Nat.le_of_ble_eq_true rfl) dX11_copy_100 ?_
              rintro v w1 H locs ⟨rfl, rfl⟩ hw
              have hw : bW G A s.heap [[(am 31, mdO am 3 n lw nn ra rsn nr tr)], [(am 26, .inl (gI G, 4, .inl sz))], [(am 27, .inl (gI G, 4, .inl sl_))], [(am 28, .inl (gI G, 240, .inl shm))], [(am 29, .inl (gI G, 60, .inl hd))]] H locs := hw
              refine W.eq (g2 := (F0 m 103 ls [.int (-10 - 3)])) rfl ?_
              have hw := Eq.mp (congrArg (fun z_ : Int32 => bW G A s.heap [[(am 31, mdO am z_ n lw nn ra rsn nr tr)], [(am 26, .inl (gI G, 4, .inl sz))], [(am 27, .inl (gI G, 4, .inl sl_))], [(am 28, .inl (gI G, 240, .inl shm))], [(am 29, .inl (gI G, 60, .inl hd))]] H locs) (show (3 : Int32) = f_copyF ln le kv iv ov jv nv from hFC.symm)) hw
              have hw : bW G A s.heap [[(am 31, mdO am (f_copyF ln le kv iv ov jv nv) n lw nn ra rsn nr tr)], [(am 26, .inl (gI G, 4, .inl sz))], [(am 27, .inl (gI G, 4, .inl sl_))], [(am 28, .inl (gI G, 240, .inl shm))], [(am 29, .inl (gI G, 60, .inl hd))]] H locs := hw
              refine aw_eqi (show (-10 - 3 : Int32) = f_copy ln le kv iv ov jv nv from (by rw [f_copy, if_pos (show (0 ≤ kv.toInt ∧ kv.toInt < 4) ∧ 0 ≤ ov.toInt ∧ ov.toInt < 4 from ⟨c4, c11⟩), hFC, if_neg (by decide)])) ?_
              exact aw_iret S hr hlk ha hQ hAe hw dX11_copy_103 rfl (Nat.le_of_ble_eq_true rfl) (Nat.le_of_ble_eq_true rfl) ⟨rfl, _, _, _, _, by rw [f_setIf, if_neg (fun q => absurd (hFC.symm.trans q.2) (by decide))]; exact hR, rfl⟩
            · rw [e1, hl1] at c78
              refine lv_iload S.1 S.2.1 dX11_copy_81 (lv_at hl 4 rfl) ?_
              refine lv_iload S.1 S.2.1 dX11_copy_83 (lv_at hl 5 rfl) ?_
              refine lv_i2l S.1 S.2.1 dX11_copy_85 rfl ?_
              refine lv_aload_n S.1 S.2.1 dX11_copy_86 rfl (lv_at hl 0 rfl) ?_
              refine aw_get S hE hw 0 (C := RX11) (T := TX11) (N := 31) rfl rfl hinX11 26 (by decide) hf68 rfl dX11_copy_87 ?_
              refine lv_iload_n S.1 S.2.1 dX11_copy_90 rfl (lv_at hl 3 rfl) ?_
              refine aw_iald S hE hw 1 (k := (tn ov)) rfl (by omega) (by decide) dX11_copy_91 ?_
              refine aw_callS S hE (c_X11_isBeyond l G jv nv.toInt64 (sz (tn ov)) (by rw [e1]; have h1 := Int32.toInt_lt nv; have h2 := Int32.le_toInt nv; omega)) gX11_copy_X11_isBeyond (n := 3) rfl (by decide +kernel) rfl (by rw [hRm]; exact ⟨Nat.le_of_ble_eq_true rfl, Nat.le_of_ble_eq_true rfl⟩) (by rw [hRm]; exact ⟨Nat.le_of_ble_eq_true rfl, Nat.le_of_ble_eq_true rfl⟩) hw hA hl.1 [] rfl rfl rfl (Nat.le_of_ble_eq_true rfl) dX11_copy_92 ?_
              rintro v w1 H locs ⟨rfl, rfl⟩ hw
              have hw : bW G A s.heap [[(am 31, mdO am fl n lw nn ra rsn nr tr)], [(am 26, .inl (gI G, 4, .inl sz))], [(am 27, .inl (gI G, 4, .inl sl_))], [(am 28, .inl (gI G, 240, .inl shm))], [(am 29, .inl (gI G, 60, .inl hd))]] H locs := hw
              refine W.eq (g2 := (F0 m 95 ls [.int (if jv.toInt < 0 ∨ nv.toInt64.toInt < 0 ∨ (sz (tn ov)).toInt < jv.toInt + nv.toInt64.toInt then 1 else 0)])) rfl ?_
              refine aw_ifeq (P := jv.toInt < 0 ∨ nv.toInt64.toInt < 0 ∨ (sz (tn ov)).toInt < jv.toInt + nv.toInt64.toInt) (tgt := 104) S dX11_copy_95 (by decide) (fun c95 => ?_) (fun c95 => ?_)
              · rw [e1, hl2] at c95
                have hFC : f_copyF ln le kv iv ov jv nv = 0 := by rw [f_copyF, if_pos (show (0 ≤ kv.toInt ∧ kv.toInt < 4) ∧ 0 ≤ ov.toInt ∧ ov.toInt < 4 from ⟨c4, c11⟩), if_neg hzz, if_neg (fun q => q c56), if_pos (show ¬ nv.toInt < 0 ∧ f_rng (le (tn kv)) iv nv ∧ f_rng (le (tn ov)) jv nv by unfold f_rng; omega)]
                have h_iv : 0 ≤ iv.toInt ∧ iv.toInt < ((61 : Nat) : Int) := by omega
                have t_iv : ((tn iv : Nat) : Int) = iv.toInt := by unfold tn; omega
                have hb_iv : tn iv < 61 := aw_tnL h_iv
                have hl := Eq.mp (congrArg (fun z_ : Int32 => lv_has ls 7 [(0, .ref (am 31)), (1, .int (nI (tn kv))), (2, .int z_), (3, .int (nI (tn ov))), (4, .int jv), (5, .int nv)]) (show (iv : Int32) = nI (tn iv) from (aw_tnE h_iv))) hl
                have hl : lv_has ls 7 [(0, .ref (am 31)), (1, .int (nI (tn kv))), (2, .int (nI (tn iv))), (3, .int (nI (tn ov))), (4, .int jv), (5, .int nv)] := hl
                have h_jv : 0 ≤ jv.toInt ∧ jv.toInt < ((61 : Nat) : Int) := by omega
                have t_jv : ((tn jv : Nat) : Int) = jv.toInt := by unfold tn; omega
                have hb_jv : tn jv < 61 := aw_tnL h_jv
                have hl := Eq.mp (congrArg (fun z_ : Int32 => lv_has ls 7 [(0, .ref (am 31)), (1, .int (nI (tn kv))), (2, .int (nI (tn iv))), (3, .int (nI (tn ov))), (4, .int z_), (5, .int nv)]) (show (jv : Int32) = nI (tn jv) from (aw_tnE h_jv))) hl
                have hl : lv_has ls 7 [(0, .ref (am 31)), (1, .int (nI (tn kv))), (2, .int (nI (tn iv))), (3, .int (nI (tn ov))), (4, .int (nI (tn jv))), (5, .int nv)] := hl
                have h_nv : 0 ≤ nv.toInt ∧ nv.toInt < ((61 : Nat) : Int) := by omega
                have t_nv : ((tn nv : Nat) : Int) = nv.toInt := by unfold tn; omega
                have hb_nv : tn nv < 61 := aw_tnL h_nv
                have hl := Eq.mp (congrArg (fun z_ : Int32 => lv_has ls 7 [(0, .ref (am 31)), (1, .int (nI (tn kv))), (2, .int (nI (tn iv))), (3, .int (nI (tn ov))), (4, .int (nI (tn jv))), (5, .int z_)]) (show (nv : Int32) = nI (tn nv) from (aw_tnE h_nv))) hl
                have hl : lv_has ls 7 [(0, .ref (am 31)), (1, .int (nI (tn kv))), (2, .int (nI (tn iv))), (3, .int (nI (tn ov))), (4, .int (nI (tn jv))), (5, .int (nI (tn nv)))] := hl
                refine lv_iconst (v := 0) S.1 S.2.1 dX11_copy_104 (by decide) ?_
                refine lv_istore (lv' := [(6, .int 0), (0, .ref (am 31)), (1, .int (nI (tn kv))), (2, .int (nI (tn iv))), (3, .int (nI (tn ov))), (4, .int (nI (tn jv))), (5, .int (nI (tn nv)))]) S.1 S.2.1 dX11_copy_105 hl (by decide) rfl (fun ls hl => ?_)
                have hw := aw_arr hw 4 rfl (fa_fill (fun x => shm (60 * tn kv + tn iv + x)) hd 0) (fun _ _ => by rw [fa_fill_0])
                have hw : bW G A s.heap [[(am 31, mdO am fl n lw nn ra rsn nr tr)], [(am 26, .inl (gI G, 4, .inl sz))], [(am 27, .inl (gI G, 4, .inl sl_))], [(am 28, .inl (gI G, 240, .inl shm))], [(am 29, .inl (gI G, 60, .inl (fa_fill (fun x => shm (60 * tn kv + tn iv + x)) hd 0)))]] H locs := hw
                have loop107 : ∀ (fu : Nat) (i : Nat), (i ≤ tn nv) → (tn nv - i) < fu → ∀ (ls : Array Slot) (H : Heap) (locs : List Loc), lv_has ls 7 [(0, .ref (am 31)), (1, .int (nI (tn kv))), (2, .int (nI (tn iv))), (3, .int (nI (tn ov))), (4, .int (nI (tn jv))), (5, .int (nI (tn nv))), (6, .int (nI i))] → bW G A s.heap [[(am 31, mdO am fl n lw nn ra rsn nr tr)], [(am 26, .inl (gI G, 4, .inl sz))], [(am 27, .inl (gI G, 4, .inl sl_))], [(am 28, .inl (gI G, 240, .inl shm))], [(am 29, .inl (gI G, 60, .inl (fa_fill (fun x => shm (60 * tn kv + tn iv + x)) hd i)))]] H locs → W p l e R s m args below meth c H locs 0 0 Q (F0 m 107 ls []) := by
                  intro fu
                  induction fu with
                  | zero => intro i _ hm; exact absurd hm (Nat.not_lt_zero _)
                  | succ fu ih107 =>
                    intro i hi hm ls H locs hl hw
                    refine lv_iload S.1 S.2.1 dX11_copy_107 (lv_at hl 6 rfl) ?_
                    refine lv_iload S.1 S.2.1 dX11_copy_109 (lv_at hl 5 rfl) ?_
                    refine aw_icmpN_ge (x := i) (y := tn nv) (tgt := 141) S (by omega) (by omega) dX11_copy_111 (by decide) (fun c111 => ?_) (fun c111 => ?_)
                    · have ex_i : i = tn nv := by omega
                      try rw [ex_i] at hl
                      try rw [ex_i] at hw
                      refine lv_iconst (v := 0) S.1 S.2.1 dX11_copy_141 (by decide) ?_
                      refine lv_istore (lv' := [(6, .int 0), (0, .ref (am 31)), (1, .int (nI (tn kv))), (2, .int (nI (tn iv))), (3, .int (nI (tn ov))), (4, .int (nI (tn jv))), (5, .int (nI (tn nv)))]) S.1 S.2.1 dX11_copy_142 hl (by decide) rfl (fun ls hl => ?_)
                      have hw := aw_arr hw 3 rfl (stF (fun x => shm (60 * tn kv + tn iv + x)) shm (60 * tn ov + tn jv) 0) (fun _ _ => by rw [stF_0])
                      have hw : bW G A s.heap [[(am 31, mdO am fl n lw nn ra rsn nr tr)], [(am 26, .inl (gI G, 4, .inl sz))], [(am 27, .inl (gI G, 4, .inl sl_))], [(am 28, .inl (gI G, 240, .inl (stF (fun x => shm (60 * tn kv + tn iv + x)) shm (60 * tn ov + tn jv) 0)))], [(am 29, .inl (gI G, 60, .inl (fa_fill (fun x => shm (60 * tn kv + tn iv + x)) hd (tn nv))))]] H locs := hw
                      have loop144 : ∀ (fu : Nat) (i : Nat), (i ≤ tn nv) → (tn nv - i) < fu → ∀ (ls : Array Slot) (H : Heap) (locs : List Loc), lv_has ls 7 [(0, .ref (am 31)), (1, .int (nI (tn kv))), (2, .int (nI (tn iv))), (3, .int (nI (tn ov))), (4, .int (nI (tn jv))), (5, .int (nI (tn nv))), (6, .int (nI i))] → bW G A s.heap [[(am 31, mdO am fl n lw nn ra rsn nr tr)], [(am 26, .inl (gI G, 4, .inl sz))], [(am 27, .inl (gI G, 4, .inl sl_))], [(am 28, .inl (gI G, 240, .inl (stF (fun x => shm (60 * tn kv + tn iv + x)) shm (60 * tn ov + tn jv) i)))], [(am 29, .inl (gI G, 60, .inl (fa_fill (fun x => shm (60 * tn kv + tn iv + x)) hd (tn nv))))]] H locs → W p l e R s m args below meth c H locs 0 0 Q (F0 m 144 ls []) := by
                        intro fu
                        induction fu with
                        | zero => intro i _ hm; exact absurd hm (Nat.not_lt_zero _)
                        | succ fu ih144 =>
                          intro i hi hm ls H locs hl hw
                          refine lv_iload S.1 S.2.1 dX11_copy_144 (lv_at hl 6 rfl) ?_
                          refine lv_iload S.1 S.2.1 dX11_copy_146 (lv_at hl 5 rfl) ?_
                          refine aw_icmpN_ge (x := i) (y := tn nv) (tgt := 179) S (by omega) (by omega) dX11_copy_148 (by decide) (fun c148 => ?_) (fun c148 => ?_)
                          · have ex_i : i = tn nv := by omega
                            try rw [ex_i] at hl
                            try rw [ex_i] at hw
                            refine lv_aload_n S.1 S.2.1 dX11_copy_179 rfl (lv_at hl 0 rfl) ?_
                            refine lv_iload S.1 S.2.1 dX11_copy_180 (lv_at hl 5 rfl) ?_
                            refine aw_callV S hE (c_X11_refused l G am fl n lw nn ra rsn nr tr (nI (tn nv))) gX11_copy_X11_refused (n := 1) rfl (by decide +kernel) rfl (by rw [hRm]; exact ⟨Nat.le_of_ble_eq_true rfl, Nat.le_of_ble_eq_true rfl⟩) (by rw [hRm]; exact ⟨Nat.le_of_ble_eq_true rfl, Nat.le_of_ble_eq_true rfl⟩) hw hA hl.1 [0] rfl rfl (aw_recv (i := 0) hE hw rfl rfl rfl) rfl (Nat.le_of_ble_eq_true rfl) dX11_copy_182 ?_
                            rintro v w1 H locs ⟨rfl, rfl⟩ hw
                            have hw : bW G A s.heap [[(am 31, mdO am 0 n lw nn ra rsn nr tr)], [(am 26, .inl (gI G, 4, .inl sz))], [(am 27, .inl (gI G, 4, .inl sl_))], [(am 28, .inl (gI G, 240, .inl (stF (fun x => shm (60 * tn kv + tn iv + x)) shm (60 * tn ov + tn jv) (tn nv))))], [(am 29, .inl (gI G, 60, .inl (fa_fill (fun x => shm (60 * tn kv + tn iv + x)) hd (tn nv))))]] H locs := hw
                            refine W.eq (g2 := (F0 m 185 ls [.int (nI (tn nv))])) rfl ?_
                            have hw := Eq.mp (congrArg (fun z_ : Int32 => bW G A s.heap [[(am 31, mdO am z_ n lw nn ra rsn nr tr)], [(am 26, .inl (gI G, 4, .inl sz))], [(am 27, .inl (gI G, 4, .inl sl_))], [(am 28, .inl (gI G, 240, .inl (stF (fun x => shm (60 * tn kv + tn iv + x)) shm (60 * tn ov + tn jv) (tn nv))))], [(am 29, .inl (gI G, 60, .inl (fa_fill (fun x => shm (60 * tn kv + tn iv + x)) hd (tn nv))))]] H locs) (show (0 : Int32) = f_copyF ln le kv iv ov jv nv from hFC.symm)) hw
                            have hw : bW G A s.heap [[(am 31, mdO am (f_copyF ln le kv iv ov jv nv) n lw nn ra rsn nr tr)], [(am 26, .inl (gI G, 4, .inl sz))], [(am 27, .inl (gI G, 4, .inl sl_))], [(am 28, .inl (gI G, 240, .inl (stF (fun x => shm (60 * tn kv + tn iv + x)) shm (60 * tn ov + tn jv) (tn nv))))], [(am 29, .inl (gI G, 60, .inl (fa_fill (fun x => shm (60 * tn kv + tn iv + x)) hd (tn nv))))]] H locs := hw
                            refine aw_eqi (show ((nI (tn nv)) : Int32) = f_copy ln le kv iv ov jv nv from (by rw [f_copy, if_pos (show (0 ≤ kv.toInt ∧ kv.toInt < 4) ∧ 0 ≤ ov.toInt ∧ ov.toInt < 4 from ⟨c4, c11⟩), hFC, if_pos rfl]; exact (aw_tnE h_nv).symm)) ?_
                            exact aw_iret S hr hlk ha hQ hAe hw dX11_copy_185 rfl (Nat.le_of_ble_eq_true rfl) (Nat.le_of_ble_eq_true rfl) ⟨rfl, _, _, _, _, by rw [f_setIf, if_pos (show f_copyP ln le kv iv ov jv nv from ⟨⟨c4, c11⟩, hFC⟩)]; exact sh_copy hR hb_kv hb_ov hz1 (by omega) (by omega), rfl⟩
                          · refine lv_aload_n S.1 S.2.1 dX11_copy_151 rfl (lv_at hl 0 rfl) ?_
                            refine aw_get S hE hw 0 (C := RX11) (T := TX11) (N := 31) rfl rfl hinX11 28 (by decide) hf74 rfl dX11_copy_152 ?_
                            refine lv_bipush (v := 60) S.1 S.2.1 dX11_copy_155 (by decide) ?_
                            refine lv_iload_n S.1 S.2.1 dX11_copy_157 rfl (lv_at hl 3 rfl) ?_
                            refine lv_imul S.1 S.2.1 dX11_copy_158 ?_
                            refine aw_eqi (show (60 * (nI (tn ov)) : Int32) = nI (60 * (tn ov)) from (pk_mul 60 (tn ov))) ?_
                            refine lv_iload S.1 S.2.1 dX11_copy_159 (lv_at hl 4 rfl) ?_
                            refine lv_iadd S.1 S.2.1 dX11_copy_161 ?_
                            refine aw_eqi (show ((nI (60 * (tn ov))) + (nI (tn jv)) : Int32) = nI ((60 * (tn ov)) + (tn jv)) from (nI_add (60 * (tn ov)) (tn jv))) ?_
                            refine lv_iload S.1 S.2.1 dX11_copy_162 (lv_at hl 6 rfl) ?_
                            refine lv_iadd S.1 S.2.1 dX11_copy_164 ?_
                            refine aw_eqi (show ((nI ((60 * (tn ov)) + (tn jv))) + (nI i) : Int32) = nI (((60 * (tn ov)) + (tn jv)) + i) from (nI_add ((60 * (tn ov)) + (tn jv)) i)) ?_
                            refine lv_aload_n S.1 S.2.1 dX11_copy_165 rfl (lv_at hl 0 rfl) ?_
                            refine aw_get S hE hw 0 (C := RX11) (T := TX11) (N := 31) rfl rfl hinX11 29 (by decide) hf77 rfl dX11_copy_166 ?_
                            refine lv_iload S.1 S.2.1 dX11_copy_169 (lv_at hl 6 rfl) ?_
                            refine aw_iald S hE hw 4 (k := i) rfl (by omega) (by decide) dX11_copy_171 ?_
                            refine aw_iast S hE hw 3 (k := (((60 * (tn ov)) + (tn jv)) + i)) rfl (by omega) (by decide) dX11_copy_172 (fun H locs hw => ?_)
                            have hw : bW G A s.heap [[(am 31, mdO am fl n lw nn ra rsn nr tr)], [(am 26, .inl (gI G, 4, .inl sz))], [(am 27, .inl (gI G, 4, .inl sl_))], [(am 28, .inl (gI G, 240, .inl (upd (stF (fun x => shm (60 * tn kv + tn iv + x)) shm (60 * tn ov + tn jv) i) (((60 * (tn ov)) + (tn jv)) + i) ((fa_fill (fun x => shm (60 * tn kv + tn iv + x)) hd (tn nv)) i))))], [(am 29, .inl (gI G, 60, .inl (fa_fill (fun x => shm (60 * tn kv + tn iv + x)) hd (tn nv))))]] H locs := hw
                            refine lv_iinc (v := nI (i + 1)) (lv' := [(6, .int (nI (i + 1))), (0, .ref (am 31)), (1, .int (nI (tn kv))), (2, .int (nI (tn iv))), (3, .int (nI (tn ov))), (4, .int (nI (tn jv))), (5, .int (nI (tn nv)))]) S.1 S.2.1 dX11_copy_173 hl (k := 6) rfl (by first | exact nI_1 _ | exact nI_add _ _ | rfl) (by decide) rfl (fun ls hl => ?_)
                            refine lv_goto (tgt := 144) S.1 S.2.1 dX11_copy_176 (by decide) ?_
                            have hw := aw_arr hw 3 rfl (stF (fun x => shm (60 * tn kv + tn iv + x)) shm (60 * tn ov + tn jv) (i + 1)) (fun _ _ => by rw [stF_s (fa_fill_in (by omega))])
                            have hw : bW G A s.heap [[(am 31, mdO am fl n lw nn ra rsn nr tr)], [(am 26, .inl (gI G, 4, .inl sz))], [(am 27, .inl (gI G, 4, .inl sl_))], [(am 28, .inl (gI G, 240, .inl (stF (fun x => shm (60 * tn kv + tn iv + x)) shm (60 * tn ov + tn jv) (i + 1))))], [(am 29, .inl (gI G, 60, .inl (fa_fill (fun x => shm (60 * tn kv + tn iv + x)) hd (tn nv))))]] H locs := hw
                            exact ih144 (i + 1) (by first | assumption | omega) (by omega) _ _ _ (lv_sub hl [1, 2, 3, 4, 5, 6, 0] rfl) hw
                      exact loop144 _ 0 (by first | assumption | omega) (Nat.lt_succ_self _) _ _ _ (lv_sub hl [1, 2, 3, 4, 5, 6, 0] rfl) hw
                    · refine lv_aload_n S.1 S.2.1 dX11_copy_114 rfl (lv_at hl 0 rfl) ?_
                      refine aw_get S hE hw 0 (C := RX11) (T := TX11) (N := 31) rfl rfl hinX11 29 (by decide) hf77 rfl dX11_copy_115 ?_
                      refine lv_iload S.1 S.2.1 dX11_copy_118 (lv_at hl 6 rfl) ?_
                      refine lv_aload_n S.1 S.2.1 dX11_copy_120 rfl (lv_at hl 0 rfl) ?_
                      refine aw_get S hE hw 0 (C := RX11) (T := TX11) (N := 31) rfl rfl hinX11 28 (by decide) hf74 rfl dX11_copy_121 ?_
                      refine lv_bipush (v := 60) S.1 S.2.1 dX11_copy_124 (by decide) ?_
                      refine lv_iload_n S.1 S.2.1 dX11_copy_126 rfl (lv_at hl 1 rfl) ?_
                      refine lv_imul S.1 S.2.1 dX11_copy_127 ?_
                      refine aw_eqi (show (60 * (nI (tn kv)) : Int32) = nI (60 * (tn kv)) from (pk_mul 60 (tn kv))) ?_
                      refine lv_iload_n S.1 S.2.1 dX11_copy_128 rfl (lv_at hl 2 rfl) ?_
                      refine lv_iadd S.1 S.2.1 dX11_copy_129 ?_
                      refine aw_eqi (show ((nI (60 * (tn kv))) + (nI (tn iv)) : Int32) = nI ((60 * (tn kv)) + (tn iv)) from (nI_add (60 * (tn kv)) (tn iv))) ?_
                      refine lv_iload S.1 S.2.1 dX11_copy_130 (lv_at hl 6 rfl) ?_
                      refine lv_iadd S.1 S.2.1 dX11_copy_132 ?_
                      refine aw_eqi (show ((nI ((60 * (tn kv)) + (tn iv))) + (nI i) : Int32) = nI (((60 * (tn kv)) + (tn iv)) + i) from (nI_add ((60 * (tn kv)) + (tn iv)) i)) ?_
                      refine aw_iald S hE hw 3 (k := (((60 * (tn kv)) + (tn iv)) + i)) rfl (by omega) (by decide) dX11_copy_133 ?_
                      refine aw_iast S hE hw 4 (k := i) rfl (by omega) (by decide) dX11_copy_134 (fun H locs hw => ?_)
                      have hw : bW G A s.heap [[(am 31, mdO am fl n lw nn ra rsn nr tr)], [(am 26, .inl (gI G, 4, .inl sz))], [(am 27, .inl (gI G, 4, .inl sl_))], [(am 28, .inl (gI G, 240, .inl shm))], [(am 29, .inl (gI G, 60, .inl (upd (fa_fill (fun x => shm (60 * tn kv + tn iv + x)) hd i) i (shm (((60 * (tn kv)) + (tn iv)) + i)))))]] H locs := hw
                      refine lv_iinc (v := nI (i + 1)) (lv' := [(6, .int (nI (i + 1))), (0, .ref (am 31)), (1, .int (nI (tn kv))), (2, .int (nI (tn iv))), (3, .int (nI (tn ov))), (4, .int (nI (tn jv))), (5, .int (nI (tn nv)))]) S.1 S.2.1 dX11_copy_135 hl (k := 6) rfl (by first | exact nI_1 _ | exact nI_add _ _ | rfl) (by decide) rfl (fun ls hl => ?_)
                      refine lv_goto (tgt := 107) S.1 S.2.1 dX11_copy_138 (by decide) ?_
                      have hw := aw_arr hw 4 rfl (fa_fill (fun x => shm (60 * tn kv + tn iv + x)) hd (i + 1)) (fun _ _ => by rw [← fa_fill_succ])
                      have hw : bW G A s.heap [[(am 31, mdO am fl n lw nn ra rsn nr tr)], [(am 26, .inl (gI G, 4, .inl sz))], [(am 27, .inl (gI G, 4, .inl sl_))], [(am 28, .inl (gI G, 240, .inl shm))], [(am 29, .inl (gI G, 60, .inl (fa_fill (fun x => shm (60 * tn kv + tn iv + x)) hd (i + 1))))]] H locs := hw
                      exact ih107 (i + 1) (by first | assumption | omega) (by omega) _ _ _ (lv_sub hl [1, 2, 3, 4, 5, 6, 0] rfl) hw
                exact loop107 _ 0 (by first | assumption | omega) (Nat.lt_succ_self _) _ _ _ (lv_sub hl [1, 2, 3, 4, 5, 6, 0] rfl) hw
              · rw [e1, hl2] at c95
                have hFC : f_copyF ln le kv iv ov jv nv = 3 := by rw [f_copyF, if_pos (show (0 ≤ kv.toInt ∧ kv.toInt < 4) ∧ 0 ≤ ov.toInt ∧ ov.toInt < 4 from ⟨c4, c11⟩), if_neg hzz, if_neg (fun q => q c56), if_neg (show ¬ (¬ nv.toInt < 0 ∧ f_rng (le (tn kv)) iv nv ∧ f_rng (le (tn ov)) jv nv) by unfold f_rng; omega)]
                refine lv_aload_n S.1 S.2.1 dX11_copy_98 rfl (lv_at hl 0 rfl) ?_
                refine lv_iconst (v := 3) S.1 S.2.1 dX11_copy_99 (by decide) ?_
                refine aw_callV S hE (c_X11_failed l G am fl n lw nn ra rsn nr tr 3) gX11_copy_X11_failed (n := 1) rfl (by decide +kernel) rfl (by rw [hRm]; exact ⟨Nat.le_of_ble_eq_true rfl, Nat.le_of_ble_eq_true rfl⟩) (by rw [hRm]; exact ⟨Nat.le_of_ble_eq_true rfl, Nat.le_of_ble_eq_true rfl⟩) hw hA hl.1 [0] rfl rfl (aw_recv (i := 0) hE hw rfl rfl rfl) rfl (Nat.le_of_ble_eq_true rfl) dX11_copy_100 ?_
                rintro v w1 H locs ⟨rfl, rfl⟩ hw
                have hw : bW G A s.heap [[(am 31, mdO am 3 n lw nn ra rsn nr tr)], [(am 26, .inl (gI G, 4, .inl sz))], [(am 27, .inl (gI G, 4, .inl sl_))], [(am 28, .inl (gI G, 240, .inl shm))], [(am 29, .inl (gI G, 60, .inl hd))]] H locs := hw
                refine W.eq (g2 := (F0 m 103 ls [.int (-10 - 3)])) rfl ?_
                have hw := Eq.mp (congrArg (fun z_ : Int32 => bW G A s.heap [[(am 31, mdO am z_ n lw nn ra rsn nr tr)], [(am 26, .inl (gI G, 4, .inl sz))], [(am 27, .inl (gI G, 4, .inl sl_))], [(am 28, .inl (gI G, 240, .inl shm))], [(am 29, .inl (gI G, 60, .inl hd))]] H locs) (show (3 : Int32) = f_copyF ln le kv iv ov jv nv from hFC.symm)) hw
                have hw : bW G A s.heap [[(am 31, mdO am (f_copyF ln le kv iv ov jv nv) n lw nn ra rsn nr tr)], [(am 26, .inl (gI G, 4, .inl sz))], [(am 27, .inl (gI G, 4, .inl sl_))], [(am 28, .inl (gI G, 240, .inl shm))], [(am 29, .inl (gI G, 60, .inl hd))]] H locs := hw
                refine aw_eqi (show (-10 - 3 : Int32) = f_copy ln le kv iv ov jv nv from (by rw [f_copy, if_pos (show (0 ≤ kv.toInt ∧ kv.toInt < 4) ∧ 0 ≤ ov.toInt ∧ ov.toInt < 4 from ⟨c4, c11⟩), hFC, if_neg (by decide)])) ?_
                exact aw_iret S hr hlk ha hQ hAe hw dX11_copy_103 rfl (Nat.le_of_ble_eq_true rfl) (Nat.le_of_ble_eq_true rfl) ⟨rfl, _, _, _, _, by rw [f_setIf, if_neg (fun q => absurd (hFC.symm.trans q.2) (by decide))]; exact hR, rfl⟩
          · rw [hs1, hs2] at c56
            have hFC : f_copyF ln le kv iv ov jv nv = 2 := by rw [f_copyF, if_pos (show (0 ≤ kv.toInt ∧ kv.toInt < 4) ∧ 0 ≤ ov.toInt ∧ ov.toInt < 4 from ⟨c4, c11⟩), if_neg hzz, if_pos c56]
            refine lv_aload_n S.1 S.2.1 dX11_copy_59 rfl (lv_at hl 0 rfl) ?_
            refine lv_iconst (v := 2) S.1 S.2.1 dX11_copy_60 (by decide) ?_
            refine aw_callV S hE (c_X11_failed l G am fl n lw nn ra rsn nr tr 2) gX11_copy_X11_failed (n := 1) rfl (by decide +kernel) rfl (by rw [hRm]; exact ⟨Nat.le_of_ble_eq_true rfl, Nat.le_of_ble_eq_true rfl⟩) (by rw [hRm]; exact ⟨Nat.le_of_ble_eq_true rfl, Nat.le_of_ble_eq_true rfl⟩) hw hA hl.1 [0] rfl rfl (aw_recv (i := 0) hE hw rfl rfl rfl) rfl (Nat.le_of_ble_eq_true rfl) dX11_copy_61 ?_
            rintro v w1 H locs ⟨rfl, rfl⟩ hw
            have hw : bW G A s.heap [[(am 31, mdO am 2 n lw nn ra rsn nr tr)], [(am 26, .inl (gI G, 4, .inl sz))], [(am 27, .inl (gI G, 4, .inl sl_))], [(am 28, .inl (gI G, 240, .inl shm))], [(am 29, .inl (gI G, 60, .inl hd))]] H locs := hw
            refine W.eq (g2 := (F0 m 64 ls [.int (-10 - 2)])) rfl ?_
            have hw := Eq.mp (congrArg (fun z_ : Int32 => bW G A s.heap [[(am 31, mdO am z_ n lw nn ra rsn nr tr)], [(am 26, .inl (gI G, 4, .inl sz))], [(am 27, .inl (gI G, 4, .inl sl_))], [(am 28, .inl (gI G, 240, .inl shm))], [(am 29, .inl (gI G, 60, .inl hd))]] H locs) (show (2 : Int32) = f_copyF ln le kv iv ov jv nv from hFC.symm)) hw
            have hw : bW G A s.heap [[(am 31, mdO am (f_copyF ln le kv iv ov jv nv) n lw nn ra rsn nr tr)], [(am 26, .inl (gI G, 4, .inl sz))], [(am 27, .inl (gI G, 4, .inl sl_))], [(am 28, .inl (gI G, 240, .inl shm))], [(am 29, .inl (gI G, 60, .inl hd))]] H locs := hw
            refine aw_eqi (show (-10 - 2 : Int32) = f_copy ln le kv iv ov jv nv from (by rw [f_copy, if_pos (show (0 ≤ kv.toInt ∧ kv.toInt < 4) ∧ 0 ≤ ov.toInt ∧ ov.toInt < 4 from ⟨c4, c11⟩), hFC, if_neg (by decide)])) ?_
            exact aw_iret S hr hlk ha hQ hAe hw dX11_copy_64 rfl (Nat.le_of_ble_eq_true rfl) (Nat.le_of_ble_eq_true rfl) ⟨rfl, _, _, _, _, by rw [f_setIf, if_neg (fun q => absurd (hFC.symm.trans q.2) (by decide))]; exact hR, rfl⟩
        · have hFC : f_copyF ln le kv iv ov jv nv = 1 := by rw [f_copyF, if_pos (show (0 ≤ kv.toInt ∧ kv.toInt < 4) ∧ 0 ≤ ov.toInt ∧ ov.toInt < 4 from ⟨c4, c11⟩), if_pos (Or.inr (Decidable.not_not.mp (fun q => c35 ((hR.pos hb_ov).mpr q))))]
          refine lv_aload_n S.1 S.2.1 dX11_copy_38 rfl (lv_at hl 0 rfl) ?_
          refine lv_iconst (v := 1) S.1 S.2.1 dX11_copy_39 (by decide) ?_
          refine aw_callV S hE (c_X11_failed l G am fl n lw nn ra rsn nr tr 1) gX11_copy_X11_failed (n := 1) rfl (by decide +kernel) rfl (by rw [hRm]; exact ⟨Nat.le_of_ble_eq_true rfl, Nat.le_of_ble_eq_true rfl⟩) (by rw [hRm]; exact ⟨Nat.le_of_ble_eq_true rfl, Nat.le_of_ble_eq_true rfl⟩) hw hA hl.1 [0] rfl rfl (aw_recv (i := 0) hE hw rfl rfl rfl) rfl (Nat.le_of_ble_eq_true rfl) dX11_copy_40 ?_
          rintro v w1 H locs ⟨rfl, rfl⟩ hw
          have hw : bW G A s.heap [[(am 31, mdO am 1 n lw nn ra rsn nr tr)], [(am 26, .inl (gI G, 4, .inl sz))], [(am 27, .inl (gI G, 4, .inl sl_))], [(am 28, .inl (gI G, 240, .inl shm))], [(am 29, .inl (gI G, 60, .inl hd))]] H locs := hw
          refine W.eq (g2 := (F0 m 43 ls [.int (-10 - 1)])) rfl ?_
          have hw := Eq.mp (congrArg (fun z_ : Int32 => bW G A s.heap [[(am 31, mdO am z_ n lw nn ra rsn nr tr)], [(am 26, .inl (gI G, 4, .inl sz))], [(am 27, .inl (gI G, 4, .inl sl_))], [(am 28, .inl (gI G, 240, .inl shm))], [(am 29, .inl (gI G, 60, .inl hd))]] H locs) (show (1 : Int32) = f_copyF ln le kv iv ov jv nv from hFC.symm)) hw
          have hw : bW G A s.heap [[(am 31, mdO am (f_copyF ln le kv iv ov jv nv) n lw nn ra rsn nr tr)], [(am 26, .inl (gI G, 4, .inl sz))], [(am 27, .inl (gI G, 4, .inl sl_))], [(am 28, .inl (gI G, 240, .inl shm))], [(am 29, .inl (gI G, 60, .inl hd))]] H locs := hw
          refine aw_eqi (show (-10 - 1 : Int32) = f_copy ln le kv iv ov jv nv from (by rw [f_copy, if_pos (show (0 ≤ kv.toInt ∧ kv.toInt < 4) ∧ 0 ≤ ov.toInt ∧ ov.toInt < 4 from ⟨c4, c11⟩), hFC, if_neg (by decide)])) ?_
          exact aw_iret S hr hlk ha hQ hAe hw dX11_copy_43 rfl (Nat.le_of_ble_eq_true rfl) (Nat.le_of_ble_eq_true rfl) ⟨rfl, _, _, _, _, by rw [f_setIf, if_neg (fun q => absurd (hFC.symm.trans q.2) (by decide))]; exact hR, rfl⟩
    · refine lv_aload_n S.1 S.2.1 dX11_copy_14 rfl (lv_at hl 0 rfl) ?_
      refine lv_iconst (v := (-1)) S.1 S.2.1 dX11_copy_15 (by decide) ?_
      refine aw_callV S hE (c_X11_refused l G am fl n lw nn ra rsn nr tr (-1)) gX11_copy_X11_refused (n := 1) rfl (by decide +kernel) rfl (by rw [hRm]; exact ⟨Nat.le_of_ble_eq_true rfl, Nat.le_of_ble_eq_true rfl⟩) (by rw [hRm]; exact ⟨Nat.le_of_ble_eq_true rfl, Nat.le_of_ble_eq_true rfl⟩) hw hA hl.1 [0] rfl rfl (aw_recv (i := 0) hE hw rfl rfl rfl) rfl (Nat.le_of_ble_eq_true rfl) dX11_copy_16 ?_
      rintro v w1 H locs ⟨rfl, rfl⟩ hw
      have hw : bW G A s.heap [[(am 31, mdO am 0 n lw nn ra rsn nr tr)], [(am 26, .inl (gI G, 4, .inl sz))], [(am 27, .inl (gI G, 4, .inl sl_))], [(am 28, .inl (gI G, 240, .inl shm))], [(am 29, .inl (gI G, 60, .inl hd))]] H locs := hw
      refine W.eq (g2 := (F0 m 19 ls [.int (-1)])) rfl ?_
      have hw := Eq.mp (congrArg (fun z_ : Int32 => bW G A s.heap [[(am 31, mdO am z_ n lw nn ra rsn nr tr)], [(am 26, .inl (gI G, 4, .inl sz))], [(am 27, .inl (gI G, 4, .inl sl_))], [(am 28, .inl (gI G, 240, .inl shm))], [(am 29, .inl (gI G, 60, .inl hd))]] H locs) (show (0 : Int32) = f_copyF ln le kv iv ov jv nv from (by rw [f_copyF, if_neg (fun q => c11 q.2)]))) hw
      have hw : bW G A s.heap [[(am 31, mdO am (f_copyF ln le kv iv ov jv nv) n lw nn ra rsn nr tr)], [(am 26, .inl (gI G, 4, .inl sz))], [(am 27, .inl (gI G, 4, .inl sl_))], [(am 28, .inl (gI G, 240, .inl shm))], [(am 29, .inl (gI G, 60, .inl hd))]] H locs := hw
      refine aw_eqi (show ((-1) : Int32) = f_copy ln le kv iv ov jv nv from (by rw [f_copy, if_neg (fun q => c11 q.2)])) ?_
      exact aw_iret S hr hlk ha hQ hAe hw dX11_copy_19 rfl (Nat.le_of_ble_eq_true rfl) (Nat.le_of_ble_eq_true rfl) ⟨rfl, _, _, _, _, by rw [f_setIf, if_neg (fun q => c11 q.1.2)]; exact hR, rfl⟩
