/-! the reference: sheets laid and copied -/
/-- a stretch told anew -/
def stF (g f : Nat → Int32) (a i : Nat) : Nat → Int32 := fun q => if a ≤ q ∧ q < a + i then g (q - a) else f q
theorem stF_0 (g f : Nat → Int32) (a : Nat) : stF g f a 0 = f := funext fun q => if_neg (by omega)
theorem stF_s {g f : Nat → Int32} {a i : Nat} {v : Int32} (h : v = g i) : upd (stF g f a i) (a + i) v = stF g f a (i + 1) := by
  funext q
  unfold upd stF
  by_cases e : q = a + i
  · rw [if_pos e, if_pos (by omega), h, show q - a = i by omega]
  · rw [if_neg e]
    by_cases z : a ≤ q ∧ q < a + i
    · rw [if_pos z, if_pos (by omega)]
    · rw [if_neg z, if_neg (by omega)]
theorem sh_new {sz sl_ shm ln : Nat → Int32} {le : Nat → Nat} {ce : Nat → Nat → Int32} (h : shR sz sl_ shm ln le ce) {k m : Nat} {lv : Int32} (hm : m ≤ 60) (hlv : ¬ lv = -1) (hk : k < 4) : shR (upd sz k (nI m)) (upd sl_ k lv) (stF (fun _ => 0) shm (60 * k) m) (va_up ln k lv) (va_up le k m) (va_up ce k (fun _ => 0)) := by
  intro j hj
  have q := h j hj
  unfold upd va_up
  by_cases e : j = k
  · subst e
    rw [if_pos rfl, if_pos rfl, if_pos rfl, if_pos rfl, if_neg hlv]
    refine ⟨rfl, fun _ => rfl, hm, fun _ x hx => ?_⟩
    rw [if_pos rfl, stF, if_pos (by omega)]
  · rw [if_neg e, if_neg e, if_neg e, if_neg e]
    refine ⟨q.1, q.2.1, q.2.2.1, fun z x hx => ?_⟩
    have q3 := q.2.2.1
    rw [if_neg e, stF, if_neg (by omega)]
    exact q.2.2.2 z x hx
set_option maxRecDepth 100000 in
set_option maxHeartbeats 4000000 in
theorem c_X11_sheet (l : Launch) (G : aw_G) (am : Nat → Nat) (fl : Int32) (n : Nat) (lw : Int32) (nn ra rsn nr : Nat) (tr : Int32) (sz sl_ shm : Nat → Int32) (ln : Nat → Int32) (le : Nat → Nat) (ce : Nat → Nat → Int32) (kv lv nv : Int32) (hR : shR sz sl_ shm ln le ce) : CT l G yX11_sheet wsX11_sheet ({ frames := 2, cells := 0, slots := 0, locals := 45 }) [.ref (am 31), .int kv, .int lv, .int nv] [[(am 31, mdO am fl n lw nn ra rsn nr tr)], [(am 26, .inl (gI G, 4, .inl sz))], [(am 27, .inl (gI G, 4, .inl sl_))], [(am 28, .inl (gI G, 240, .inl shm))]] (fun v w => v = some (.int (f_sheet kv lv nv)) ∧ ∃ sz sl_ shm : Nat → Int32, shR sz sl_ shm (f_setIf (f_sheetP kv lv nv) ln (tn kv) lv) (f_setIf (f_sheetP kv lv nv) le (tn kv) (tn nv)) (f_setIf (f_sheetP kv lv nv) ce (tn kv) (fun _ => 0)) ∧ w = [[(am 31, mdO am (f_sheetF kv lv nv) n lw nn ra rsn nr tr)], [(am 26, .inl (gI G, 4, .inl sz))], [(am 27, .inl (gI G, 4, .inl sl_))], [(am 28, .inl (gI G, 240, .inl shm))]]) := by
  refine CT.of (cc := cX11_sheet) (nL := 5) (ret := (some .int)) (by decide) rfl (Nat.le_of_ble_eq_true rfl) ?_
  intro p e s m below meth c R args Q A hRm ha hQ hAe hA S hE hr hlk hnm H locs hH0 hL0 ls hl hw
  have S : CallFix p m c cX11_sheet 5 s args wsX11_sheet RX11 := S
  have hl : lv_has ls 5 [(0, .ref (am 31)), (1, .int kv), (2, .int lv), (3, .int nv)] := hl
  have hinX11 : ∀ w ∈ u_ws RX11 TX11 31, w ∈ wsX11_sheet := by decide +kernel
  have hf68 := S.2.2.2.2 (.fieldLink RX11 68 "AwakeTurnsModel" "sheetSize" "[I") (by decide +kernel)
  have hf71 := S.2.2.2.2 (.fieldLink RX11 71 "AwakeTurnsModel" "sheetLane" "[I") (by decide +kernel)
  have hf74 := S.2.2.2.2 (.fieldLink RX11 74 "AwakeTurnsModel" "sheet" "[I") (by decide +kernel)
  refine lv_iload_n S.1 S.2.1 dX11_sheet_0 rfl (lv_at hl 1 rfl) ?_
  refine aw_callS S hE (c_X11_noSheet l G kv) gX11_sheet_X11_noSheet (n := 1) rfl (by decide +kernel) rfl (by rw [hRm]; exact ⟨Nat.le_of_ble_eq_true rfl, Nat.le_of_ble_eq_true rfl⟩) (by rw [hRm]; exact ⟨Nat.le_of_ble_eq_true rfl, Nat.le_of_ble_eq_true rfl⟩) hw hA hl.1 [] rfl rfl rfl (Nat.le_of_ble_eq_true rfl) dX11_sheet_1 ?_
  rintro v w1 H locs ⟨rfl, rfl⟩ hw
  have hw : bW G A s.heap [[(am 31, mdO am fl n lw nn ra rsn nr tr)], [(am 26, .inl (gI G, 4, .inl sz))], [(am 27, .inl (gI G, 4, .inl sl_))], [(am 28, .inl (gI G, 240, .inl shm))]] H locs := hw
  refine W.eq (g2 := (F0 m 4 ls [.int (if ¬ (0 ≤ kv.toInt ∧ kv.toInt < 4) then 1 else 0)])) rfl ?_
  refine aw_ifeq (P := ¬ (0 ≤ kv.toInt ∧ kv.toInt < 4)) (tgt := 13) S dX11_sheet_4 (by decide) (fun c4 => ?_) (fun c4 => ?_)
  · have c4 := Decidable.not_not.mp c4
    have hb_kv : tn kv < 4 := aw_tnL c4
    have hl := Eq.mp (congrArg (fun z_ : Int32 => lv_has ls 5 [(0, .ref (am 31)), (1, .int z_), (2, .int lv), (3, .int nv)]) (show (kv : Int32) = nI (tn kv) from (aw_tnE c4))) hl
    have hl : lv_has ls 5 [(0, .ref (am 31)), (1, .int (nI (tn kv))), (2, .int lv), (3, .int nv)] := hl
    refine lv_iload_n S.1 S.2.1 dX11_sheet_13 rfl (lv_at hl 2 rfl) ?_
    refine lv_i2l S.1 S.2.1 dX11_sheet_14 rfl ?_
    refine lv_lconst (v := 0) S.1 S.2.1 dX11_sheet_15 (by decide) ?_
    refine lv_ldc2 (v := 2) S.1 S.2.1 S.2.2.2.1 (S.2.2.2.2 (.constantLong RX11 132 2) (by decide +kernel)) dX11_sheet_16 ?_
    refine aw_callS S hE (c_X11_in l G lv.toInt64 0 2) gX11_sheet_X11_in (n := 3) rfl (by decide +kernel) rfl (by rw [hRm]; exact ⟨Nat.le_of_ble_eq_true rfl, Nat.le_of_ble_eq_true rfl⟩) (by rw [hRm]; exact ⟨Nat.le_of_ble_eq_true rfl, Nat.le_of_ble_eq_true rfl⟩) hw hA hl.1 [] rfl rfl rfl (Nat.le_of_ble_eq_true rfl) dX11_sheet_19 ?_
    rintro v w1 H locs ⟨rfl, rfl⟩ hw
    have hw : bW G A s.heap [[(am 31, mdO am fl n lw nn ra rsn nr tr)], [(am 26, .inl (gI G, 4, .inl sz))], [(am 27, .inl (gI G, 4, .inl sl_))], [(am 28, .inl (gI G, 240, .inl shm))]] H locs := hw
    refine W.eq (g2 := (F0 m 22 ls [.int (if Int64.toInt 0 ≤ Int64.toInt lv.toInt64 ∧ Int64.toInt lv.toInt64 ≤ Int64.toInt 2 then 1 else 0)])) rfl ?_
    refine aw_ifeq (P := Int64.toInt 0 ≤ Int64.toInt lv.toInt64 ∧ Int64.toInt lv.toInt64 ≤ Int64.toInt 2) (tgt := 31) S dX11_sheet_22 (by decide) (fun c22 => ?_) (fun c22 => ?_)
    · rw [l64, l64_0, l64_2] at c22
      refine lv_aload_n S.1 S.2.1 dX11_sheet_31 rfl (lv_at hl 0 rfl) ?_
      refine lv_bipush (v := (-2)) S.1 S.2.1 dX11_sheet_32 (by decide) ?_
      refine aw_callV S hE (c_X11_refused l G am fl n lw nn ra rsn nr tr (-2)) gX11_sheet_X11_refused (n := 1) rfl (by decide +kernel) rfl (by rw [hRm]; exact ⟨Nat.le_of_ble_eq_true rfl, Nat.le_of_ble_eq_true rfl⟩) (by rw [hRm]; exact ⟨Nat.le_of_ble_eq_true rfl, Nat.le_of_ble_eq_true rfl⟩) hw hA hl.1 [0] rfl rfl (aw_recv (i := 0) hE hw rfl rfl rfl) rfl (Nat.le_of_ble_eq_true rfl) dX11_sheet_34 ?_
      rintro v w1 H locs ⟨rfl, rfl⟩ hw
      have hw : bW G A s.heap [[(am 31, mdO am 0 n lw nn ra rsn nr tr)], [(am 26, .inl (gI G, 4, .inl sz))], [(am 27, .inl (gI G, 4, .inl sl_))], [(am 28, .inl (gI G, 240, .inl shm))]] H locs := hw
      refine W.eq (g2 := (F0 m 37 ls [.int (-2)])) rfl ?_
      have hw := Eq.mp (congrArg (fun z_ : Int32 => bW G A s.heap [[(am 31, mdO am z_ n lw nn ra rsn nr tr)], [(am 26, .inl (gI G, 4, .inl sz))], [(am 27, .inl (gI G, 4, .inl sl_))], [(am 28, .inl (gI G, 240, .inl shm))]] H locs) (show (0 : Int32) = f_sheetF kv lv nv from (by rw [f_sheetF, if_neg (by omega)]))) hw
      have hw : bW G A s.heap [[(am 31, mdO am (f_sheetF kv lv nv) n lw nn ra rsn nr tr)], [(am 26, .inl (gI G, 4, .inl sz))], [(am 27, .inl (gI G, 4, .inl sl_))], [(am 28, .inl (gI G, 240, .inl shm))]] H locs := hw
      refine aw_eqi (show ((-2) : Int32) = f_sheet kv lv nv from (by rw [f_sheet, if_pos c4, if_neg (by omega)])) ?_
      exact aw_iret S hr hlk ha hQ hAe hw dX11_sheet_37 rfl (Nat.le_of_ble_eq_true rfl) (Nat.le_of_ble_eq_true rfl) ⟨rfl, _, _, _, by rw [f_setIf, if_neg (show ¬ f_sheetP kv lv nv by omega), f_setIf, if_neg (show ¬ f_sheetP kv lv nv by omega), f_setIf, if_neg (show ¬ f_sheetP kv lv nv by omega)]; exact hR, rfl⟩
    · rw [l64, l64_0, l64_2] at c22
      refine lv_iload_n S.1 S.2.1 dX11_sheet_25 rfl (lv_at hl 3 rfl) ?_
      refine lv_bipush (v := 60) S.1 S.2.1 dX11_sheet_26 (by decide) ?_
      refine lv_icmp_le (tgt := 38) S.1 S.2.1 dX11_sheet_28 (by decide) (fun c28 => ?_) (fun c28 => ?_)
      · rw [fa_le, li_60] at c28
        refine lv_iload_n S.1 S.2.1 dX11_sheet_38 rfl (lv_at hl 3 rfl) ?_
        refine lv_if_ge (tgt := 48) S.1 S.2.1 dX11_sheet_39 (by decide) (fun c39 => ?_) (fun c39 => ?_)
        · rw [fa_le, li_0] at c39
          have hnv : 0 ≤ nv.toInt ∧ nv.toInt < ((61 : Nat) : Int) := by omega
          have hlv1 : ¬ lv = -1 := by rw [fa_eq, li_m1]; omega
          have hPP : f_sheetP kv lv nv := by omega
          have hb_nv : tn nv < 61 := aw_tnL hnv
          have hl := Eq.mp (congrArg (fun z_ : Int32 => lv_has ls 5 [(0, .ref (am 31)), (1, .int (nI (tn kv))), (2, .int lv), (3, .int z_)]) (show (nv : Int32) = nI (tn nv) from (aw_tnE hnv))) hl
          have hl : lv_has ls 5 [(0, .ref (am 31)), (1, .int (nI (tn kv))), (2, .int lv), (3, .int (nI (tn nv)))] := hl
          refine lv_aload_n S.1 S.2.1 dX11_sheet_48 rfl (lv_at hl 0 rfl) ?_
          refine aw_get S hE hw 0 (C := RX11) (T := TX11) (N := 31) rfl rfl hinX11 26 (by decide) hf68 rfl dX11_sheet_49 ?_
          refine lv_iload_n S.1 S.2.1 dX11_sheet_52 rfl (lv_at hl 1 rfl) ?_
          refine lv_iload_n S.1 S.2.1 dX11_sheet_53 rfl (lv_at hl 3 rfl) ?_
          refine aw_iast S hE hw 1 (k := (tn kv)) rfl (by omega) (by decide) dX11_sheet_54 (fun H locs hw => ?_)
          have hw : bW G A s.heap [[(am 31, mdO am fl n lw nn ra rsn nr tr)], [(am 26, .inl (gI G, 4, .inl (upd sz (tn kv) (nI (tn nv)))))], [(am 27, .inl (gI G, 4, .inl sl_))], [(am 28, .inl (gI G, 240, .inl shm))]] H locs := hw
          refine lv_aload_n S.1 S.2.1 dX11_sheet_55 rfl (lv_at hl 0 rfl) ?_
          refine aw_get S hE hw 0 (C := RX11) (T := TX11) (N := 31) rfl rfl hinX11 27 (by decide) hf71 rfl dX11_sheet_56 ?_
          refine lv_iload_n S.1 S.2.1 dX11_sheet_59 rfl (lv_at hl 1 rfl) ?_
          refine lv_iload_n S.1 S.2.1 dX11_sheet_60 rfl (lv_at hl 2 rfl) ?_
          refine aw_iast S hE hw 2 (k := (tn kv)) rfl (by omega) (by decide) dX11_sheet_61 (fun H locs hw => ?_)
          have hw : bW G A s.heap [[(am 31, mdO am fl n lw nn ra rsn nr tr)], [(am 26, .inl (gI G, 4, .inl (upd sz (tn kv) (nI (tn nv)))))], [(am 27, .inl (gI G, 4, .inl (upd sl_ (tn kv) lv)))], [(am 28, .inl (gI G, 240, .inl shm))]] H locs := hw
          refine lv_iconst (v := 0) S.1 S.2.1 dX11_sheet_62 (by decide) ?_
          refine lv_istore (lv' := [(4, .int 0), (0, .ref (am 31)), (1, .int (nI (tn kv))), (2, .int lv), (3, .int (nI (tn nv)))]) S.1 S.2.1 dX11_sheet_63 hl (by decide) rfl (fun ls hl => ?_)
          have hw := aw_arr hw 3 rfl (stF (fun _ => 0) shm (60 * tn kv) 0) (fun _ _ => by rw [stF_0])
          have hw : bW G A s.heap [[(am 31, mdO am fl n lw nn ra rsn nr tr)], [(am 26, .inl (gI G, 4, .inl (upd sz (tn kv) (nI (tn nv)))))], [(am 27, .inl (gI G, 4, .inl (upd sl_ (tn kv) lv)))], [(am 28, .inl (gI G, 240, .inl (stF (fun _ => 0) shm (60 * tn kv) 0)))]] H locs := hw
          have loop65 : ∀ (fu : Nat) (i : Nat), (i ≤ tn nv) → (tn nv - i) < fu → ∀ (ls : Array Slot) (H : Heap) (locs : List Loc), lv_has ls 5 [(0, .ref (am 31)), (1, .int (nI (tn kv))), (2, .int lv), (3, .int (nI (tn nv))), (4, .int (nI i))] → bW G A s.heap [[(am 31, mdO am fl n lw nn ra rsn nr tr)], [(am 26, .inl (gI G, 4, .inl (upd sz (tn kv) (nI (tn nv)))))], [(am 27, .inl (gI G, 4, .inl (upd sl_ (tn kv) lv)))], [(am 28, .inl (gI G, 240, .inl (stF (fun _ => 0) shm (60 * tn kv) i)))]] H locs → W p l e R s m args below meth c H locs 0 0 Q (F0 m 65 ls []) := by
            intro fu
            induction fu with
            | zero => intro i _ hm; exact absurd hm (Nat.not_lt_zero _)
            | succ fu ih65 =>
              intro i hi hm ls H locs hl hw
              refine lv_iload S.1 S.2.1 dX11_sheet_65 (lv_at hl 4 rfl) ?_
              refine lv_iload_n S.1 S.2.1 dX11_sheet_67 rfl (lv_at hl 3 rfl) ?_
              refine aw_icmpN_ge (x := i) (y := tn nv) (tgt := 90) S (by omega) (by omega) dX11_sheet_68 (by decide) (fun c68 => ?_) (fun c68 => ?_)
              · have ex_i : i = tn nv := by omega
                try rw [ex_i] at hl
                try rw [ex_i] at hw
                refine lv_aload_n S.1 S.2.1 dX11_sheet_90 rfl (lv_at hl 0 rfl) ?_
                refine lv_iconst (v := 1) S.1 S.2.1 dX11_sheet_91 (by decide) ?_
                refine aw_callV S hE (c_X11_refused l G am fl n lw nn ra rsn nr tr 1) gX11_sheet_X11_refused (n := 1) rfl (by decide +kernel) rfl (by rw [hRm]; exact ⟨Nat.le_of_ble_eq_true rfl, Nat.le_of_ble_eq_true rfl⟩) (by rw [hRm]; exact ⟨Nat.le_of_ble_eq_true rfl, Nat.le_of_ble_eq_true rfl⟩) hw hA hl.1 [0] rfl rfl (aw_recv (i := 0) hE hw rfl rfl rfl) rfl (Nat.le_of_ble_eq_true rfl) dX11_sheet_92 ?_
                rintro v w1 H locs ⟨rfl, rfl⟩ hw
                have hw : bW G A s.heap [[(am 31, mdO am 0 n lw nn ra rsn nr tr)], [(am 26, .inl (gI G, 4, .inl (upd sz (tn kv) (nI (tn nv)))))], [(am 27, .inl (gI G, 4, .inl (upd sl_ (tn kv) lv)))], [(am 28, .inl (gI G, 240, .inl (stF (fun _ => 0) shm (60 * tn kv) (tn nv))))]] H locs := hw
                refine W.eq (g2 := (F0 m 95 ls [.int 1])) rfl ?_
                have hw := Eq.mp (congrArg (fun z_ : Int32 => bW G A s.heap [[(am 31, mdO am z_ n lw nn ra rsn nr tr)], [(am 26, .inl (gI G, 4, .inl (upd sz (tn kv) (nI (tn nv)))))], [(am 27, .inl (gI G, 4, .inl (upd sl_ (tn kv) lv)))], [(am 28, .inl (gI G, 240, .inl (stF (fun _ => 0) shm (60 * tn kv) (tn nv))))]] H locs) (show (0 : Int32) = f_sheetF kv lv nv from (by rw [f_sheetF, if_neg (by omega)]))) hw
                have hw : bW G A s.heap [[(am 31, mdO am (f_sheetF kv lv nv) n lw nn ra rsn nr tr)], [(am 26, .inl (gI G, 4, .inl (upd sz (tn kv) (nI (tn nv)))))], [(am 27, .inl (gI G, 4, .inl (upd sl_ (tn kv) lv)))], [(am 28, .inl (gI G, 240, .inl (stF (fun _ => 0) shm (60 * tn kv) (tn nv))))]] H locs := hw
                refine aw_eqi (show (1 : Int32) = f_sheet kv lv nv from (by rw [f_sheet, if_pos c4, if_pos (show (0 ≤ lv.toInt ∧ lv.toInt < 3) ∧ nv.toInt ≤ 60 by omega), if_neg (by omega)])) ?_
                exact aw_iret S hr hlk ha hQ hAe hw dX11_sheet_95 rfl (Nat.le_of_ble_eq_true rfl) (Nat.le_of_ble_eq_true rfl) ⟨rfl, _, _, _, by rw [f_setIf, if_pos hPP, f_setIf, if_pos hPP, f_setIf, if_pos hPP]; exact sh_new hR (by omega) hlv1 hb_kv, rfl⟩
              · refine lv_aload_n S.1 S.2.1 dX11_sheet_71 rfl (lv_at hl 0 rfl) ?_
                refine aw_get S hE hw 0 (C := RX11) (T := TX11) (N := 31) rfl rfl hinX11 28 (by decide) hf74 rfl dX11_sheet_72 ?_
                refine lv_bipush (v := 60) S.1 S.2.1 dX11_sheet_75 (by decide) ?_
                refine lv_iload_n S.1 S.2.1 dX11_sheet_77 rfl (lv_at hl 1 rfl) ?_
                refine lv_imul S.1 S.2.1 dX11_sheet_78 ?_
                refine aw_eqi (show (60 * (nI (tn kv)) : Int32) = nI (60 * (tn kv)) from (pk_mul 60 (tn kv))) ?_
                refine lv_iload S.1 S.2.1 dX11_sheet_79 (lv_at hl 4 rfl) ?_
                refine lv_iadd S.1 S.2.1 dX11_sheet_81 ?_
                refine aw_eqi (show ((nI (60 * (tn kv))) + (nI i) : Int32) = nI ((60 * (tn kv)) + i) from (nI_add (60 * (tn kv)) i)) ?_
                refine lv_iconst (v := 0) S.1 S.2.1 dX11_sheet_82 (by decide) ?_
                refine aw_iast S hE hw 3 (k := ((60 * (tn kv)) + i)) rfl (by omega) (by decide) dX11_sheet_83 (fun H locs hw => ?_)
                have hw : bW G A s.heap [[(am 31, mdO am fl n lw nn ra rsn nr tr)], [(am 26, .inl (gI G, 4, .inl (upd sz (tn kv) (nI (tn nv)))))], [(am 27, .inl (gI G, 4, .inl (upd sl_ (tn kv) lv)))], [(am 28, .inl (gI G, 240, .inl (upd (stF (fun _ => 0) shm (60 * tn kv) i) ((60 * (tn kv)) + i) 0)))]] H locs := hw
                refine lv_iinc (v := nI (i + 1)) (lv' := [(4, .int (nI (i + 1))), (0, .ref (am 31)), (1, .int (nI (tn kv))), (2, .int lv), (3, .int (nI (tn nv)))]) S.1 S.2.1 dX11_sheet_84 hl (k := 4) rfl (by first | exact nI_1 _ | exact nI_add _ _ | rfl) (by decide) rfl (fun ls hl => ?_)
                refine lv_goto (tgt := 65) S.1 S.2.1 dX11_sheet_87 (by decide) ?_
                have hw := aw_arr hw 3 rfl (stF (fun _ => 0) shm (60 * tn kv) (i + 1)) (fun _ _ => by rw [stF_s rfl])
                have hw : bW G A s.heap [[(am 31, mdO am fl n lw nn ra rsn nr tr)], [(am 26, .inl (gI G, 4, .inl (upd sz (tn kv) (nI (tn nv)))))], [(am 27, .inl (gI G, 4, .inl (upd sl_ (tn kv) lv)))], [(am 28, .inl (gI G, 240, .inl (stF (fun _ => 0) shm (60 * tn kv) (i + 1))))]] H locs := hw
                exact ih65 (i + 1) (by first | assumption | omega) (by omega) _ _ _ (lv_sub hl [1, 2, 3, 4, 0] rfl) hw
          exact loop65 _ 0 (by first | assumption | omega) (Nat.lt_succ_self _) _ _ _ (lv_sub hl [1, 2, 3, 4, 0] rfl) hw
        · rw [fa_le, li_0] at c39
          refine lv_aload_n S.1 S.2.1 dX11_sheet_42 rfl (lv_at hl 0 rfl) ?_
          refine lv_iconst (v := 4) S.1 S.2.1 dX11_sheet_43 (by decide) ?_
          refine aw_callV S hE (c_X11_failed l G am fl n lw nn ra rsn nr tr 4) gX11_sheet_X11_failed (n := 1) rfl (by decide +kernel) rfl (by rw [hRm]; exact ⟨Nat.le_of_ble_eq_true rfl, Nat.le_of_ble_eq_true rfl⟩) (by rw [hRm]; exact ⟨Nat.le_of_ble_eq_true rfl, Nat.le_of_ble_eq_true rfl⟩) hw hA hl.1 [0] rfl rfl (aw_recv (i := 0) hE hw rfl rfl rfl) rfl (Nat.le_of_ble_eq_true rfl) dX11_sheet_44 ?_
          rintro v w1 H locs ⟨rfl, rfl⟩ hw
          have hw : bW G A s.heap [[(am 31, mdO am 4 n lw nn ra rsn nr tr)], [(am 26, .inl (gI G, 4, .inl sz))], [(am 27, .inl (gI G, 4, .inl sl_))], [(am 28, .inl (gI G, 240, .inl shm))]] H locs := hw
          refine W.eq (g2 := (F0 m 47 ls [.int (-10 - 4)])) rfl ?_
          have hw := Eq.mp (congrArg (fun z_ : Int32 => bW G A s.heap [[(am 31, mdO am z_ n lw nn ra rsn nr tr)], [(am 26, .inl (gI G, 4, .inl sz))], [(am 27, .inl (gI G, 4, .inl sl_))], [(am 28, .inl (gI G, 240, .inl shm))]] H locs) (show (4 : Int32) = f_sheetF kv lv nv from (by rw [f_sheetF, if_pos (by omega)]))) hw
          have hw : bW G A s.heap [[(am 31, mdO am (f_sheetF kv lv nv) n lw nn ra rsn nr tr)], [(am 26, .inl (gI G, 4, .inl sz))], [(am 27, .inl (gI G, 4, .inl sl_))], [(am 28, .inl (gI G, 240, .inl shm))]] H locs := hw
          refine aw_eqi (show (-10 - 4 : Int32) = f_sheet kv lv nv from (by rw [f_sheet, if_pos c4, if_pos (show (0 ≤ lv.toInt ∧ lv.toInt < 3) ∧ nv.toInt ≤ 60 by omega), if_pos (by omega)]; rfl)) ?_
          exact aw_iret S hr hlk ha hQ hAe hw dX11_sheet_47 rfl (Nat.le_of_ble_eq_true rfl) (Nat.le_of_ble_eq_true rfl) ⟨rfl, _, _, _, by rw [f_setIf, if_neg (show ¬ f_sheetP kv lv nv by omega), f_setIf, if_neg (show ¬ f_sheetP kv lv nv by omega), f_setIf, if_neg (show ¬ f_sheetP kv lv nv by omega)]; exact hR, rfl⟩
      · rw [fa_le, li_60] at c28
        refine lv_aload_n S.1 S.2.1 dX11_sheet_31 rfl (lv_at hl 0 rfl) ?_
        refine lv_bipush (v := (-2)) S.1 S.2.1 dX11_sheet_32 (by decide) ?_
        refine aw_callV S hE (c_X11_refused l G am fl n lw nn ra rsn nr tr (-2)) gX11_sheet_X11_refused (n := 1) rfl (by decide +kernel) rfl (by rw [hRm]; exact ⟨Nat.le_of_ble_eq_true rfl, Nat.le_of_ble_eq_true rfl⟩) (by rw [hRm]; exact ⟨Nat.le_of_ble_eq_true rfl, Nat.le_of_ble_eq_true rfl⟩) hw hA hl.1 [0] rfl rfl (aw_recv (i := 0) hE hw rfl rfl rfl) rfl (Nat.le_of_ble_eq_true rfl) dX11_sheet_34 ?_
        rintro v w1 H locs ⟨rfl, rfl⟩ hw
        have hw : bW G A s.heap [[(am 31, mdO am 0 n lw nn ra rsn nr tr)], [(am 26, .inl (gI G, 4, .inl sz))], [(am 27, .inl (gI G, 4, .inl sl_))], [(am 28, .inl (gI G, 240, .inl shm))]] H locs := hw
        refine W.eq (g2 := (F0 m 37 ls [.int (-2)])) rfl ?_
        have hw := Eq.mp (congrArg (fun z_ : Int32 => bW G A s.heap [[(am 31, mdO am z_ n lw nn ra rsn nr tr)], [(am 26, .inl (gI G, 4, .inl sz))], [(am 27, .inl (gI G, 4, .inl sl_))], [(am 28, .inl (gI G, 240, .inl shm))]] H locs) (show (0 : Int32) = f_sheetF kv lv nv from (by rw [f_sheetF, if_neg (by omega)]))) hw
        have hw : bW G A s.heap [[(am 31, mdO am (f_sheetF kv lv nv) n lw nn ra rsn nr tr)], [(am 26, .inl (gI G, 4, .inl sz))], [(am 27, .inl (gI G, 4, .inl sl_))], [(am 28, .inl (gI G, 240, .inl shm))]] H locs := hw
        refine aw_eqi (show ((-2) : Int32) = f_sheet kv lv nv from (by rw [f_sheet, if_pos c4, if_neg (by omega)])) ?_
        exact aw_iret S hr hlk ha hQ hAe hw dX11_sheet_37 rfl (Nat.le_of_ble_eq_true rfl) (Nat.le_of_ble_eq_true rfl) ⟨rfl, _, _, _, by rw [f_setIf, if_neg (show ¬ f_sheetP kv lv nv by omega), f_setIf, if_neg (show ¬ f_sheetP kv lv nv by omega), f_setIf, if_neg (show ¬ f_sheetP kv lv nv by omega)]; exact hR, rfl⟩
  · refine lv_aload_n S.1 S.2.1 dX11_sheet_7 rfl (lv_at hl 0 rfl) ?_
    refine lv_iconst (v := (-1)) S.1 S.2.1 dX11_sheet_8 (by decide) ?_
    refine aw_callV S hE (c_X11_refused l G am fl n lw nn ra rsn nr tr (-1)) gX11_sheet_X11_refused (n := 1) rfl (by decide +kernel) rfl (by rw [hRm]; exact ⟨Nat.le_of_ble_eq_true rfl, Nat.le_of_ble_eq_true rfl⟩) (by rw [hRm]; exact ⟨Nat.le_of_ble_eq_true rfl, Nat.le_of_ble_eq_true rfl⟩) hw hA hl.1 [0] rfl rfl (aw_recv (i := 0) hE hw rfl rfl rfl) rfl (Nat.le_of_ble_eq_true rfl) dX11_sheet_9 ?_
    rintro v w1 H locs ⟨rfl, rfl⟩ hw
    have hw : bW G A s.heap [[(am 31, mdO am 0 n lw nn ra rsn nr tr)], [(am 26, .inl (gI G, 4, .inl sz))], [(am 27, .inl (gI G, 4, .inl sl_))], [(am 28, .inl (gI G, 240, .inl shm))]] H locs := hw
    refine W.eq (g2 := (F0 m 12 ls [.int (-1)])) rfl ?_
    have hw := Eq.mp (congrArg (fun z_ : Int32 => bW G A s.heap [[(am 31, mdO am z_ n lw nn ra rsn nr tr)], [(am 26, .inl (gI G, 4, .inl sz))], [(am 27, .inl (gI G, 4, .inl sl_))], [(am 28, .inl (gI G, 240, .inl shm))]] H locs) (show (0 : Int32) = f_sheetF kv lv nv from (by rw [f_sheetF, if_neg (fun q => c4 q.1)]))) hw
    have hw : bW G A s.heap [[(am 31, mdO am (f_sheetF kv lv nv) n lw nn ra rsn nr tr)], [(am 26, .inl (gI G, 4, .inl sz))], [(am 27, .inl (gI G, 4, .inl sl_))], [(am 28, .inl (gI G, 240, .inl shm))]] H locs := hw
    refine aw_eqi (show ((-1) : Int32) = f_sheet kv lv nv from (by rw [f_sheet, if_neg c4])) ?_
    exact aw_iret S hr hlk ha hQ hAe hw dX11_sheet_12 rfl (Nat.le_of_ble_eq_true rfl) (Nat.le_of_ble_eq_true rfl) ⟨rfl, _, _, _, by rw [f_setIf, if_neg (show ¬ f_sheetP kv lv nv by omega), f_setIf, if_neg (show ¬ f_sheetP kv lv nv by omega), f_setIf, if_neg (show ¬ f_sheetP kv lv nv by omega)]; exact hR, rfl⟩
