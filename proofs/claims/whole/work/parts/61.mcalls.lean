/-! the reference: calls without turns; the tables of the months -/
theorem or_if {P : Prop} [Decidable P] (a b : Int32) : a ||| (if P then b else 0) = if P then a ||| b else a := by
  by_cases h : P
  · rw [if_pos h, if_pos h]
  · rw [if_neg h, if_neg h, Int32.or_zero]
theorem add_if {P : Prop} [Decidable P] (a b : Int32) : a + (if P then b else 0) = if P then a + b else a := by
  by_cases h : P
  · rw [if_pos h, if_pos h]
  · rw [if_neg h, if_neg h, Int32.add_zero]
/-- a table of rows of six, told up to a place -/
def tbF (f : Nat → Nat → Int32) (n L : Nat) (g : Nat → Int32) : Nat → Int32 := fun q => if q < L ∧ q % 6 < n then f (q / 6) (q % 6) else g q
theorem tbF_0 (f : Nat → Nat → Int32) (n : Nat) (g : Nat → Int32) : tbF f n 0 g = g := funext fun q => if_neg (by omega)
theorem tbF_s {f : Nat → Nat → Int32} {n m j : Nat} {g : Nat → Int32} {v : Int32} (hj : j < n) (hn : n ≤ 6) (hv : f m j = v) : upd (tbF f n (6 * m + j) g) (6 * m + j) v = tbF f n (6 * m + (j + 1)) g := by
  funext q
  unfold upd tbF
  by_cases e : q = 6 * m + j
  · rw [if_pos e, if_pos (by omega), ← hv, show q / 6 = m by omega, show q % 6 = j by omega]
  · rw [if_neg e]
    by_cases z : q < 6 * m + j ∧ q % 6 < n
    · rw [if_pos z, if_pos (by omega)]
    · rw [if_neg z, if_neg (by omega)]
theorem tbF_e {f : Nat → Nat → Int32} {n m : Nat} {g : Nat → Int32} (hn : n ≤ 6) : tbF f n (6 * m + n) g = tbF f n (6 * (m + 1)) g := by
  funext q
  unfold tbF
  by_cases z : q < 6 * m + n ∧ q % 6 < n
  · rw [if_pos z, if_pos (by omega)]
  · rw [if_neg z, if_neg (by omega)]
theorem tbF_at {f : Nat → Nat → Int32} {n m j L : Nat} {g : Nat → Int32} (hj : j < n) (hn : n ≤ 6) (hL : 6 * m + j < L) : tbF f n L g (6 * m + j) = f m j := by
  unfold tbF
  rw [if_pos (by omega), show (6 * m + j) / 6 = m by omega, show (6 * m + j) % 6 = j by omega]
theorem kA_next {n : Nat} {lw : Int32} {sk me : Nat → Int32} {m s : Nat} (hs : s < n) : kA n lw sk me (m + 1) s = kA n lw sk me m s ||| (if lw = 1 ∧ bt (me m) s = true then tgF (me m) (kA n lw sk me m) n else 0) := by
  show (if lw = 1 then pwF (bt (me m)) (fun _ => tgF (me m) (kA n lw sk me m) n) (kA n lw sk me m) n else kA n lw sk me m) s = _
  by_cases h : lw = 1
  · rw [if_pos h]
    unfold pwF
    by_cases q : bt (me m) s = true
    · rw [if_pos ⟨hs, q⟩, if_pos ⟨h, q⟩, tgF_or hs q]
    · rw [if_neg (fun z => q z.2), if_neg (fun z => q z.2), Int32.or_zero]
  · rw [if_neg h, if_neg (fun z => h z.1), Int32.or_zero]
theorem kA_step {n : Nat} {lw : Int32} {sk me : Nat → Int32} {m s : Nat} (hs : s < n) (h : ¬ m = 0) : kA n lw sk me (m - 1) s ||| (if (lw = 1 ∧ 0 < m) ∧ bt (me (m - 1)) s = true then (if m = 0 then 0 else tgF (me (m - 1)) (kA n lw sk me (m - 1)) n) else 0) = kA n lw sk me m s := by
  cases m with
  | zero => exact absurd rfl h
  | succ m =>
    rw [kA_next hs, show m + 1 - 1 = m from rfl]
    by_cases z : lw = 1 ∧ bt (me m) s = true
    · rw [if_pos z, if_pos ⟨⟨z.1, Nat.succ_pos m⟩, z.2⟩, if_neg (Nat.succ_ne_zero m)]
    · rw [if_neg z, if_neg (fun q => z ⟨q.1.1, q.2⟩)]
abbrev thwP (me : Nat → Int32) (s m : Nat) : Prop := bt (me m) s = true ∧ (m = 0 ∨ ¬ bt (me (m - 1)) s = true)
theorem hB_next {n : Nat} {ho me : Nat → Int32} {m s : Nat} (hs : s < n) (hn : n ≤ 6) : hB n ho me (m + 1) s = hB n ho me m s + (if thwP me s m then ho s else 0) := by
  have hb : bt (me m &&& (uB me m ^^^ (-1))) s = true ↔ thwP me s m := by
    rw [b_and, b_not _ (by omega), Bool.and_eq_true, Bool.not_eq_true']
    unfold thwP
    cases m with
    | zero => simp [uB, b_0]
    | succ m => simp [uB]
  show pwF (bt (me m &&& (uB me m ^^^ (-1)))) (fun j => hB n ho me m j + ho j) (hB n ho me m) n s = _
  unfold pwF
  by_cases q : thwP me s m
  · rw [if_pos ⟨hs, hb.mpr q⟩, if_pos q]
  · rw [if_neg (fun z => q (hb.mp z.2)), if_neg q, Int32.add_zero]
theorem spF_n {n : Nat} {br h1 h2 : Nat → Int32} (h : ∀ s, s < n → h1 s = h2 s) : spF n br h1 = spF n br h2 := by
  unfold spF
  rw [fF_cong (q := spP br h2) (fun j hj => by unfold spP; rw [h j hj])]
theorem noI_neg {k n : Nat} (hn : n < 2 ^ 31) : 0 ≤ noI k n ↔ k < n := by
  unfold noI
  by_cases h : k < n
  · rw [if_pos h, fa_le, nI_toInt (by omega), li_0]
    simp [h]
  · rw [if_neg h, fa_le, li_0, li_m9]
    simp [h]
set_option maxRecDepth 100000 in
set_option maxHeartbeats 4000000 in
theorem c_X11_ofSleeper (l : Launch) (G : aw_G) (am : Nat → Nat) (fl : Int32) (n : Nat) (lw : Int32) (nn ra rsn nr : Nat) (tr : Int32) (kd sk br : Nat → Int32) (sv wt : Int32) (hn : n ≤ 6) : CT l G yX11_ofSleeper wsX11_ofSleeper ({ frames := 2, cells := 0, slots := 0, locals := 46 }) [.ref (am 31), .int sv, .int wt] [[(am 31, mdO am fl n lw nn ra rsn nr tr)], [(am 2, .inl (gI G, 6, .inl kd))], [(am 3, .inl (gI G, 6, .inl sk))], [(am 4, .inl (gI G, 6, .inl br))]] (dt (some (.int (f_of n kd sk br sv wt))) [[(am 31, mdO am fl n lw nn ra rsn nr tr)], [(am 2, .inl (gI G, 6, .inl kd))], [(am 3, .inl (gI G, 6, .inl sk))], [(am 4, .inl (gI G, 6, .inl br))]]) := by
  refine CT.of (cc := cX11_ofSleeper) (nL := 3) (ret := (some .int)) (by decide) rfl (Nat.le_of_ble_eq_true rfl) ?_
  intro p e s m below meth c R args Q A hRm ha hQ hAe hA S hE hr hlk hnm H locs hH0 hL0 ls hl hw
  have S : CallFix p m c cX11_ofSleeper 3 s args wsX11_ofSleeper RX11 := S
  have hl : lv_has ls 3 [(0, .ref (am 31)), (1, .int sv), (2, .int wt)] := hl
  have hinX11 : ∀ w ∈ u_ws RX11 TX11 31, w ∈ wsX11_ofSleeper := by decide +kernel
  have hf7 := S.2.2.2.2 (.fieldLink RX11 7 "AwakeTurnsModel" "kindOf" "[I") (by decide +kernel)
  have hf13 := S.2.2.2.2 (.fieldLink RX11 13 "AwakeTurnsModel" "skillsOf" "[I") (by decide +kernel)
  have hf16 := S.2.2.2.2 (.fieldLink RX11 16 "AwakeTurnsModel" "bearsOf" "[I") (by decide +kernel)
  refine lv_aload_n S.1 S.2.1 dX11_ofSleeper_0 rfl (lv_at hl 0 rfl) ?_
  refine lv_iload_n S.1 S.2.1 dX11_ofSleeper_1 rfl (lv_at hl 1 rfl) ?_
  refine aw_callV S hE (c_X11_noSleeper l G am fl n lw nn ra rsn nr tr sv (by first | assumption | omega)) gX11_ofSleeper_X11_noSleeper (n := 1) rfl (by decide +kernel) rfl (by rw [hRm]; exact ⟨Nat.le_of_ble_eq_true rfl, Nat.le_of_ble_eq_true rfl⟩) (by rw [hRm]; exact ⟨Nat.le_of_ble_eq_true rfl, Nat.le_of_ble_eq_true rfl⟩) hw hA hl.1 [0] rfl rfl (aw_recv (i := 0) hE hw rfl rfl rfl) rfl (Nat.le_of_ble_eq_true rfl) dX11_ofSleeper_2 ?_
  rintro v w1 H locs ⟨rfl, rfl⟩ hw
  have hw : bW G A s.heap [[(am 31, mdO am fl n lw nn ra rsn nr tr)], [(am 2, .inl (gI G, 6, .inl kd))], [(am 3, .inl (gI G, 6, .inl sk))], [(am 4, .inl (gI G, 6, .inl br))]] H locs := hw
  refine W.eq (g2 := (F0 m 5 ls [.int (if ¬ (0 ≤ sv.toInt ∧ sv.toInt < n) then 1 else 0)])) rfl ?_
  refine aw_ifeq (P := ¬ (0 ≤ sv.toInt ∧ sv.toInt < n)) (tgt := 10) S dX11_ofSleeper_5 (by decide) (fun c5 => ?_) (fun c5 => ?_)
  · have c5 := Decidable.not_not.mp c5
    have hb_sv : tn sv < n := aw_tnL c5
    have hl := Eq.mp (congrArg (fun z_ : Int32 => lv_has ls 3 [(0, .ref (am 31)), (1, .int z_), (2, .int wt)]) (show (sv : Int32) = nI (tn sv) from (aw_tnE c5))) hl
    have hl : lv_has ls 3 [(0, .ref (am 31)), (1, .int (nI (tn sv))), (2, .int wt)] := hl
    refine lv_iload_n S.1 S.2.1 dX11_ofSleeper_10 rfl (lv_at hl 2 rfl) ?_
    by_cases c11_0 : wt = 0
    · refine lv_tableIn (off := 29) (tgt := 40) S.1 S.2.1 dX11_ofSleeper_11 (by rw [c11_0]; decide) (by rw [c11_0]; decide) (by rw [c11_0]; rfl) (by decide) ?_
      refine lv_aload_n S.1 S.2.1 dX11_ofSleeper_40 rfl (lv_at hl 0 rfl) ?_
      refine aw_get S hE hw 0 (C := RX11) (T := TX11) (N := 31) rfl rfl hinX11 2 (by decide) hf7 rfl dX11_ofSleeper_41 ?_
      refine lv_iload_n S.1 S.2.1 dX11_ofSleeper_44 rfl (lv_at hl 1 rfl) ?_
      refine aw_iald S hE hw 1 (k := (tn sv)) rfl (by omega) (by decide) dX11_ofSleeper_45 ?_
      refine aw_eqi (show (kd (tn sv) : Int32) = f_of n kd sk br sv wt from (by simp [f_of, c5, c11_0])) ?_
      exact aw_iret S hr hlk ha hQ hAe hw dX11_ofSleeper_46 rfl (Nat.le_of_ble_eq_true rfl) (Nat.le_of_ble_eq_true rfl) ⟨rfl, rfl⟩
    · by_cases c11_1 : wt = 1
      · refine lv_tableIn (off := 36) (tgt := 47) S.1 S.2.1 dX11_ofSleeper_11 (by rw [c11_1]; decide) (by rw [c11_1]; decide) (by rw [c11_1]; rfl) (by decide) ?_
        refine lv_aload_n S.1 S.2.1 dX11_ofSleeper_47 rfl (lv_at hl 0 rfl) ?_
        refine aw_get S hE hw 0 (C := RX11) (T := TX11) (N := 31) rfl rfl hinX11 3 (by decide) hf13 rfl dX11_ofSleeper_48 ?_
        refine lv_iload_n S.1 S.2.1 dX11_ofSleeper_51 rfl (lv_at hl 1 rfl) ?_
        refine aw_iald S hE hw 2 (k := (tn sv)) rfl (by omega) (by decide) dX11_ofSleeper_52 ?_
        refine aw_eqi (show (sk (tn sv) : Int32) = f_of n kd sk br sv wt from (by simp [f_of, c5, c11_0, c11_1])) ?_
        exact aw_iret S hr hlk ha hQ hAe hw dX11_ofSleeper_53 rfl (Nat.le_of_ble_eq_true rfl) (Nat.le_of_ble_eq_true rfl) ⟨rfl, rfl⟩
      · by_cases c11_2 : wt = 2
        · refine lv_tableIn (off := 43) (tgt := 54) S.1 S.2.1 dX11_ofSleeper_11 (by rw [c11_2]; decide) (by rw [c11_2]; decide) (by rw [c11_2]; rfl) (by decide) ?_
          refine lv_aload_n S.1 S.2.1 dX11_ofSleeper_54 rfl (lv_at hl 0 rfl) ?_
          refine aw_get S hE hw 0 (C := RX11) (T := TX11) (N := 31) rfl rfl hinX11 4 (by decide) hf16 rfl dX11_ofSleeper_55 ?_
          refine lv_iload_n S.1 S.2.1 dX11_ofSleeper_58 rfl (lv_at hl 1 rfl) ?_
          refine aw_iald S hE hw 3 (k := (tn sv)) rfl (by omega) (by decide) dX11_ofSleeper_59 ?_
          refine aw_eqi (show (br (tn sv) : Int32) = f_of n kd sk br sv wt from (by simp [f_of, c5, c11_0, c11_1, c11_2])) ?_
          exact aw_iret S hr hlk ha hQ hAe hw dX11_ofSleeper_60 rfl (Nat.le_of_ble_eq_true rfl) (Nat.le_of_ble_eq_true rfl) ⟨rfl, rfl⟩
        · by_cases c11_3 : wt = 3
          · refine lv_tableIn (off := 50) (tgt := 61) S.1 S.2.1 dX11_ofSleeper_11 (by rw [c11_3]; decide) (by rw [c11_3]; decide) (by rw [c11_3]; rfl) (by decide) ?_
            refine lv_aload_n S.1 S.2.1 dX11_ofSleeper_61 rfl (lv_at hl 0 rfl) ?_
            refine lv_iload_n S.1 S.2.1 dX11_ofSleeper_62 rfl (lv_at hl 1 rfl) ?_
            refine aw_callV S hE (c_X11_harmOnce l G am fl n lw nn ra rsn nr tr kd (tn sv) (by first | assumption | omega)) gX11_ofSleeper_X11_harmOnce (n := 1) rfl (by decide +kernel) rfl (by rw [hRm]; exact ⟨Nat.le_of_ble_eq_true rfl, Nat.le_of_ble_eq_true rfl⟩) (by rw [hRm]; exact ⟨Nat.le_of_ble_eq_true rfl, Nat.le_of_ble_eq_true rfl⟩) hw hA hl.1 [0, 1] rfl rfl (aw_recv (i := 0) hE hw rfl rfl rfl) rfl (Nat.le_of_ble_eq_true rfl) dX11_ofSleeper_63 ?_
            rintro v w1 H locs ⟨rfl, rfl⟩ hw
            have hw : bW G A s.heap [[(am 31, mdO am fl n lw nn ra rsn nr tr)], [(am 2, .inl (gI G, 6, .inl kd))], [(am 3, .inl (gI G, 6, .inl sk))], [(am 4, .inl (gI G, 6, .inl br))]] H locs := hw
            refine W.eq (g2 := (F0 m 66 ls [.int (hoK (kd (tn sv)))])) rfl ?_
            refine aw_eqi (show (hoK (kd (tn sv)) : Int32) = f_of n kd sk br sv wt from (by simp [f_of, c5, c11_0, c11_1, c11_2, c11_3])) ?_
            exact aw_iret S hr hlk ha hQ hAe hw dX11_ofSleeper_66 rfl (Nat.le_of_ble_eq_true rfl) (Nat.le_of_ble_eq_true rfl) ⟨rfl, rfl⟩
          · refine lv_tableOut (tgt := 67) S.1 S.2.1 dX11_ofSleeper_11 (by have := lv_neT (k := 0) (a := 0) c11_0 rfl; have := lv_neT (k := 1) (a := 1) c11_1 rfl; have := lv_neT (k := 2) (a := 2) c11_2 rfl; have := lv_neT (k := 3) (a := 3) c11_3 rfl; omega) (by decide) ?_
            refine lv_bipush (v := (-2)) S.1 S.2.1 dX11_ofSleeper_67 (by decide) ?_
            refine aw_eqi (show ((-2) : Int32) = f_of n kd sk br sv wt from (by simp [f_of, c5, c11_0, c11_1, c11_2, c11_3])) ?_
            exact aw_iret S hr hlk ha hQ hAe hw dX11_ofSleeper_69 rfl (Nat.le_of_ble_eq_true rfl) (Nat.le_of_ble_eq_true rfl) ⟨rfl, rfl⟩
  · refine lv_iconst (v := (-1)) S.1 S.2.1 dX11_ofSleeper_8 (by decide) ?_
    refine aw_eqi (show ((-1) : Int32) = f_of n kd sk br sv wt from (by simp [f_of, c5])) ?_
    exact aw_iret S hr hlk ha hQ hAe hw dX11_ofSleeper_9 rfl (Nat.le_of_ble_eq_true rfl) (Nat.le_of_ble_eq_true rfl) ⟨rfl, rfl⟩
set_option maxRecDepth 100000 in
set_option maxHeartbeats 4000000 in
theorem c_X11_up (l : Launch) (G : aw_G) (am : Nat → Nat) (fl : Int32) (n : Nat) (lw : Int32) (nn ra rsn nr : Nat) (tr : Int32) (tu : Nat → Int32) (sv mo : Int32) (is_ : Bool) (hn : n ≤ 6) : CT l G yX11_up wsX11_up ({ frames := 2, cells := 0, slots := 0, locals := 46 }) [.ref (am 31), .int sv, .int mo, .int (if is_ = true then 1 else 0)] [[(am 31, mdO am fl n lw nn ra rsn nr tr)], [(am 5, .inl (gI G, 12, .inl tu))]] (dt (some (.int (f_up n tu sv mo is_))) [[(am 31, mdO am fl n lw nn ra rsn nr tr)], [(am 5, .inl (gI G, 12, .inl (f_upT n tu sv mo is_)))]]) := by
  refine CT.of (cc := cX11_up) (nL := 5) (ret := (some .int)) (by decide) rfl (Nat.le_of_ble_eq_true rfl) ?_
  intro p e s m below meth c R args Q A hRm ha hQ hAe hA S hE hr hlk hnm H locs hH0 hL0 ls hl hw
  have S : CallFix p m c cX11_up 5 s args wsX11_up RX11 := S
  have hl : lv_has ls 5 [(0, .ref (am 31)), (1, .int sv), (2, .int mo), (3, .int (if is_ = true then 1 else 0))] := hl
  have hinX11 : ∀ w ∈ u_ws RX11 TX11 31, w ∈ wsX11_up := by decide +kernel
  have hf19 := S.2.2.2.2 (.fieldLink RX11 19 "AwakeTurnsModel" "upIn" "[I") (by decide +kernel)
  refine lv_aload_n S.1 S.2.1 dX11_up_0 rfl (lv_at hl 0 rfl) ?_
  refine lv_iload_n S.1 S.2.1 dX11_up_1 rfl (lv_at hl 1 rfl) ?_
  refine aw_callV S hE (c_X11_noSleeper l G am fl n lw nn ra rsn nr tr sv (by first | assumption | omega)) gX11_up_X11_noSleeper (n := 1) rfl (by decide +kernel) rfl (by rw [hRm]; exact ⟨Nat.le_of_ble_eq_true rfl, Nat.le_of_ble_eq_true rfl⟩) (by rw [hRm]; exact ⟨Nat.le_of_ble_eq_true rfl, Nat.le_of_ble_eq_true rfl⟩) hw hA hl.1 [0] rfl rfl (aw_recv (i := 0) hE hw rfl rfl rfl) rfl (Nat.le_of_ble_eq_true rfl) dX11_up_2 ?_
  rintro v w1 H locs ⟨rfl, rfl⟩ hw
  have hw : bW G A s.heap [[(am 31, mdO am fl n lw nn ra rsn nr tr)], [(am 5, .inl (gI G, 12, .inl tu))]] H locs := hw
  refine W.eq (g2 := (F0 m 5 ls [.int (if ¬ (0 ≤ sv.toInt ∧ sv.toInt < n) then 1 else 0)])) rfl ?_
  refine aw_ifeq (P := ¬ (0 ≤ sv.toInt ∧ sv.toInt < n)) (tgt := 10) S dX11_up_5 (by decide) (fun c5 => ?_) (fun c5 => ?_)
  · have c5 := Decidable.not_not.mp c5
    have hb_sv : tn sv < n := aw_tnL c5
    have hl := Eq.mp (congrArg (fun z_ : Int32 => lv_has ls 5 [(0, .ref (am 31)), (1, .int z_), (2, .int mo), (3, .int (if is_ = true then 1 else 0))]) (show (sv : Int32) = nI (tn sv) from (aw_tnE c5))) hl
    have hl : lv_has ls 5 [(0, .ref (am 31)), (1, .int (nI (tn sv))), (2, .int mo), (3, .int (if is_ = true then 1 else 0))] := hl
    refine lv_iload_n S.1 S.2.1 dX11_up_10 rfl (lv_at hl 2 rfl) ?_
    refine aw_callS S hE (c_X11_isMonth l G mo) gX11_up_X11_isMonth (n := 1) rfl (by decide +kernel) rfl (by rw [hRm]; exact ⟨Nat.le_of_ble_eq_true rfl, Nat.le_of_ble_eq_true rfl⟩) (by rw [hRm]; exact ⟨Nat.le_of_ble_eq_true rfl, Nat.le_of_ble_eq_true rfl⟩) hw hA hl.1 [] rfl rfl rfl (Nat.le_of_ble_eq_true rfl) dX11_up_11 ?_
    rintro v w1 H locs ⟨rfl, rfl⟩ hw
    have hw : bW G A s.heap [[(am 31, mdO am fl n lw nn ra rsn nr tr)], [(am 5, .inl (gI G, 12, .inl tu))]] H locs := hw
    refine W.eq (g2 := (F0 m 14 ls [.int (if 0 ≤ mo.toInt ∧ mo.toInt < 12 then 1 else 0)])) rfl ?_
    refine aw_ifne (P := 0 ≤ mo.toInt ∧ mo.toInt < 12) (tgt := 20) S dX11_up_14 (by decide) (fun c14 => ?_) (fun c14 => ?_)
    · have hb_mo : tn mo < 12 := aw_tnL c14
      have hl := Eq.mp (congrArg (fun z_ : Int32 => lv_has ls 5 [(0, .ref (am 31)), (1, .int (nI (tn sv))), (2, .int z_), (3, .int (if is_ = true then 1 else 0))]) (show (mo : Int32) = nI (tn mo) from (aw_tnE c14))) hl
      have hl : lv_has ls 5 [(0, .ref (am 31)), (1, .int (nI (tn sv))), (2, .int (nI (tn mo))), (3, .int (if is_ = true then 1 else 0))] := hl
      refine lv_aload_n S.1 S.2.1 dX11_up_20 rfl (lv_at hl 0 rfl) ?_
      refine aw_get S hE hw 0 (C := RX11) (T := TX11) (N := 31) rfl rfl hinX11 5 (by decide) hf19 rfl dX11_up_21 ?_
      refine lv_iload_n S.1 S.2.1 dX11_up_24 rfl (lv_at hl 2 rfl) ?_
      refine aw_iald S hE hw 1 (k := (tn mo)) rfl (by omega) (by decide) dX11_up_25 ?_
      refine lv_iload_n S.1 S.2.1 dX11_up_26 rfl (lv_at hl 1 rfl) ?_
      refine aw_callS S hE (c_X11_isIn l G (tu (tn mo)) (tn sv) (by first | assumption | omega)) gX11_up_X11_isIn (n := 2) rfl (by decide +kernel) rfl (by rw [hRm]; exact ⟨Nat.le_of_ble_eq_true rfl, Nat.le_of_ble_eq_true rfl⟩) (by rw [hRm]; exact ⟨Nat.le_of_ble_eq_true rfl, Nat.le_of_ble_eq_true rfl⟩) hw hA hl.1 [] rfl rfl rfl (Nat.le_of_ble_eq_true rfl) dX11_up_27 ?_
      rintro v w1 H locs ⟨rfl, rfl⟩ hw
      have hw : bW G A s.heap [[(am 31, mdO am fl n lw nn ra rsn nr tr)], [(am 5, .inl (gI G, 12, .inl tu))]] H locs := hw
      refine W.eq (g2 := (F0 m 30 ls [.int (if bt (tu (tn mo)) (tn sv) = true then 1 else 0)])) rfl ?_
      refine lv_istore (lv' := [(4, .int (if bt (tu (tn mo)) (tn sv) = true then 1 else 0)), (0, .ref (am 31)), (1, .int (nI (tn sv))), (2, .int (nI (tn mo))), (3, .int (if is_ = true then 1 else 0))]) S.1 S.2.1 dX11_up_30 hl (by decide) rfl (fun ls hl => ?_)
      refine lv_aload_n S.1 S.2.1 dX11_up_32 rfl (lv_at hl 1 rfl) ?_
      refine aw_get S hE hw 0 (C := RX11) (T := TX11) (N := 31) rfl rfl hinX11 5 (by decide) hf19 rfl dX11_up_33 ?_
      refine lv_iload_n S.1 S.2.1 dX11_up_36 rfl (lv_at hl 3 rfl) ?_
      refine lv_iload_n S.1 S.2.1 dX11_up_37 rfl (lv_at hl 4 rfl) ?_
      have join66 : ∀ (H : Heap) (locs : List Loc), ∀ (ls : Array Slot), lv_has ls 5 [(4, .int (if bt (tu (tn mo)) (tn sv) = true then 1 else 0)), (0, .ref (am 31)), (1, .int (nI (tn sv))), (2, .int (nI (tn mo))), (3, .int (if is_ = true then 1 else 0))] → bW G A s.heap [[(am 31, mdO am fl n lw nn ra rsn nr tr)], [(am 5, .inl (gI G, 12, .inl tu))]] H locs → W p l e R s m args below meth c H locs 0 0 Q (F0 m 66 ls [.int (f_upV (tu (tn mo)) (tn sv) is_), .int (nI (tn mo)), .ref (am 5)]) := by
        intro  H locs ls hl hw
        refine aw_iast S hE hw 1 (k := (tn mo)) rfl (by omega) (by decide) dX11_up_66 (fun H locs hw => ?_)
        have hw : bW G A s.heap [[(am 31, mdO am fl n lw nn ra rsn nr tr)], [(am 5, .inl (gI G, 12, .inl (upd tu (tn mo) (f_upV (tu (tn mo)) (tn sv) is_))))]] H locs := hw
        refine lv_iload S.1 S.2.1 dX11_up_67 (lv_at hl 0 rfl) ?_
        refine lv_iload_n S.1 S.2.1 dX11_up_69 rfl (lv_at hl 4 rfl) ?_
        refine lv_icmp_ne (tgt := 77) S.1 S.2.1 dX11_up_70 (by decide) (fun c70 => ?_) (fun c70 => ?_)
        · refine lv_iconst (v := 1) S.1 S.2.1 dX11_up_77 (by decide) ?_
          have hw := aw_arr hw 1 rfl (f_upT n tu sv mo is_) (fun _ _ => by unfold f_upT; first | rw [if_neg (fun q => c5 q.1)] | rw [if_neg (fun q => c14 q.2)] | rw [if_pos ⟨c5, c14⟩])
          have hw : bW G A s.heap [[(am 31, mdO am fl n lw nn ra rsn nr tr)], [(am 5, .inl (gI G, 12, .inl (f_upT n tu sv mo is_)))]] H locs := hw
          refine aw_eqi (show (1 : Int32) = f_up n tu sv mo is_ from (by rw [f_up, if_pos c5, if_pos c14]; first | rw [if_pos (b_eqB.mp c70)] | rw [if_neg (fun q => c70 (b_eqB.mpr q))])) ?_
          exact aw_iret S hr hlk ha hQ hAe hw dX11_up_78 rfl (Nat.le_of_ble_eq_true rfl) (Nat.le_of_ble_eq_true rfl) ⟨rfl, rfl⟩
        · refine lv_iconst (v := 0) S.1 S.2.1 dX11_up_73 (by decide) ?_
          refine lv_goto (tgt := 78) S.1 S.2.1 dX11_up_74 (by decide) ?_
          have hw := aw_arr hw 1 rfl (f_upT n tu sv mo is_) (fun _ _ => by unfold f_upT; first | rw [if_neg (fun q => c5 q.1)] | rw [if_neg (fun q => c14 q.2)] | rw [if_pos ⟨c5, c14⟩])
          have hw : bW G A s.heap [[(am 31, mdO am fl n lw nn ra rsn nr tr)], [(am 5, .inl (gI G, 12, .inl (f_upT n tu sv mo is_)))]] H locs := hw
          refine aw_eqi (show (0 : Int32) = f_up n tu sv mo is_ from (by rw [f_up, if_pos c5, if_pos c14]; first | rw [if_pos (b_eqB.mp c70)] | rw [if_neg (fun q => c70 (b_eqB.mpr q))])) ?_
          exact aw_iret S hr hlk ha hQ hAe hw dX11_up_78 rfl (Nat.le_of_ble_eq_true rfl) (Nat.le_of_ble_eq_true rfl) ⟨rfl, rfl⟩
      refine aw_ifeq (P := is_ = true) (tgt := 54) S dX11_up_38 (by decide) (fun c38 => ?_) (fun c38 => ?_)
      · refine lv_aload_n S.1 S.2.1 dX11_up_54 rfl (lv_at hl 1 rfl) ?_
        refine aw_get S hE hw 0 (C := RX11) (T := TX11) (N := 31) rfl rfl hinX11 5 (by decide) hf19 rfl dX11_up_55 ?_
        refine lv_iload_n S.1 S.2.1 dX11_up_58 rfl (lv_at hl 3 rfl) ?_
        refine aw_iald S hE hw 1 (k := (tn mo)) rfl (by omega) (by decide) dX11_up_59 ?_
        refine lv_iconst (v := 1) S.1 S.2.1 dX11_up_60 (by decide) ?_
        refine lv_iload_n S.1 S.2.1 dX11_up_61 rfl (lv_at hl 2 rfl) ?_
        refine lv_ishl S.1 S.2.1 dX11_up_62 ?_
        refine lv_iconst (v := (-1)) S.1 S.2.1 dX11_up_63 (by decide) ?_
        refine lv_ixor S.1 S.2.1 dX11_up_64 ?_
        refine lv_iand S.1 S.2.1 dX11_up_65 ?_
        refine aw_eqi (show ((tu (tn mo)) &&& ((1 <<< ((nI (tn sv)) &&& 31)) ^^^ (-1)) : Int32) = f_upV (tu (tn mo)) (tn sv) is_ from (by unfold f_upV; first | rw [if_pos c38] | rw [if_neg c38])) ?_
        exact join66  _ _ _ (lv_sub hl [0, 1, 2, 3, 4] rfl) hw
      · refine lv_aload_n S.1 S.2.1 dX11_up_41 rfl (lv_at hl 1 rfl) ?_
        refine aw_get S hE hw 0 (C := RX11) (T := TX11) (N := 31) rfl rfl hinX11 5 (by decide) hf19 rfl dX11_up_42 ?_
        refine lv_iload_n S.1 S.2.1 dX11_up_45 rfl (lv_at hl 3 rfl) ?_
        refine aw_iald S hE hw 1 (k := (tn mo)) rfl (by omega) (by decide) dX11_up_46 ?_
        refine lv_iconst (v := 1) S.1 S.2.1 dX11_up_47 (by decide) ?_
        refine lv_iload_n S.1 S.2.1 dX11_up_48 rfl (lv_at hl 2 rfl) ?_
        refine lv_ishl S.1 S.2.1 dX11_up_49 ?_
        refine lv_ior S.1 S.2.1 dX11_up_50 ?_
        refine lv_goto (tgt := 66) S.1 S.2.1 dX11_up_51 (by decide) ?_
        refine aw_eqi (show ((tu (tn mo)) ||| (1 <<< ((nI (tn sv)) &&& 31)) : Int32) = f_upV (tu (tn mo)) (tn sv) is_ from (by unfold f_upV; first | rw [if_pos c38] | rw [if_neg c38])) ?_
        exact join66  _ _ _ (lv_sub hl [0, 1, 2, 3, 4] rfl) hw
    · refine lv_bipush (v := (-2)) S.1 S.2.1 dX11_up_17 (by decide) ?_
      have hw := aw_arr hw 1 rfl (f_upT n tu sv mo is_) (fun _ _ => by unfold f_upT; first | rw [if_neg (fun q => c5 q.1)] | rw [if_neg (fun q => c14 q.2)] | rw [if_pos ⟨c5, c14⟩])
      have hw : bW G A s.heap [[(am 31, mdO am fl n lw nn ra rsn nr tr)], [(am 5, .inl (gI G, 12, .inl (f_upT n tu sv mo is_)))]] H locs := hw
      refine aw_eqi (show ((-2) : Int32) = f_up n tu sv mo is_ from (by rw [f_up, if_pos c5, if_neg c14])) ?_
      exact aw_iret S hr hlk ha hQ hAe hw dX11_up_19 rfl (Nat.le_of_ble_eq_true rfl) (Nat.le_of_ble_eq_true rfl) ⟨rfl, rfl⟩
  · refine lv_iconst (v := (-1)) S.1 S.2.1 dX11_up_8 (by decide) ?_
    have hw := aw_arr hw 1 rfl (f_upT n tu sv mo is_) (fun _ _ => by unfold f_upT; first | rw [if_neg (fun q => c5 q.1)] | rw [if_neg (fun q => c14 q.2)] | rw [if_pos ⟨c5, c14⟩])
    have hw : bW G A s.heap [[(am 31, mdO am fl n lw nn ra rsn nr tr)], [(am 5, .inl (gI G, 12, .inl (f_upT n tu sv mo is_)))]] H locs := hw
    refine aw_eqi (show ((-1) : Int32) = f_up n tu sv mo is_ from (by rw [f_up, if_neg c5])) ?_
    exact aw_iret S hr hlk ha hQ hAe hw dX11_up_9 rfl (Nat.le_of_ble_eq_true rfl) (Nat.le_of_ble_eq_true rfl) ⟨rfl, rfl⟩
set_option maxRecDepth 100000 in
set_option maxHeartbeats 4000000 in
theorem c_X11_wants (l : Launch) (G : aw_G) (am : Nat → Nat) (fl : Int32) (n : Nat) (lw : Int32) (nn ra rsn nr : Nat) (tr : Int32) (wa : Nat → Int32) (mo sv : Int32) (hn : n ≤ 6) : CT l G yX11_wants wsX11_wants ({ frames := 2, cells := 0, slots := 0, locals := 45 }) [.ref (am 31), .int mo, .int sv] [[(am 31, mdO am fl n lw nn ra rsn nr tr)], [(am 6, .inl (gI G, 12, .inl wa))]] (dt (some (.int (f_wants n wa mo sv))) [[(am 31, mdO am fl n lw nn ra rsn nr tr)], [(am 6, .inl (gI G, 12, .inl (f_wantsT n wa mo sv)))]]) := by
  refine CT.of (cc := cX11_wants) (nL := 4) (ret := (some .int)) (by decide) rfl (Nat.le_of_ble_eq_true rfl) ?_
  intro p e s m below meth c R args Q A hRm ha hQ hAe hA S hE hr hlk hnm H locs hH0 hL0 ls hl hw
  have S : CallFix p m c cX11_wants 4 s args wsX11_wants RX11 := S
  have hl : lv_has ls 4 [(0, .ref (am 31)), (1, .int mo), (2, .int sv)] := hl
  have hinX11 : ∀ w ∈ u_ws RX11 TX11 31, w ∈ wsX11_wants := by decide +kernel
  have hf90 := S.2.2.2.2 (.fieldLink RX11 90 "AwakeTurnsModel" "sleepers" "I") (by decide +kernel)
  have hf22 := S.2.2.2.2 (.fieldLink RX11 22 "AwakeTurnsModel" "wantedIn" "[I") (by decide +kernel)
  refine lv_iload_n S.1 S.2.1 dX11_wants_0 rfl (lv_at hl 1 rfl) ?_
  refine aw_callS S hE (c_X11_isMonth l G mo) gX11_wants_X11_isMonth (n := 1) rfl (by decide +kernel) rfl (by rw [hRm]; exact ⟨Nat.le_of_ble_eq_true rfl, Nat.le_of_ble_eq_true rfl⟩) (by rw [hRm]; exact ⟨Nat.le_of_ble_eq_true rfl, Nat.le_of_ble_eq_true rfl⟩) hw hA hl.1 [] rfl rfl rfl (Nat.le_of_ble_eq_true rfl) dX11_wants_1 ?_
  rintro v w1 H locs ⟨rfl, rfl⟩ hw
  have hw : bW G A s.heap [[(am 31, mdO am fl n lw nn ra rsn nr tr)], [(am 6, .inl (gI G, 12, .inl wa))]] H locs := hw
  refine W.eq (g2 := (F0 m 4 ls [.int (if 0 ≤ mo.toInt ∧ mo.toInt < 12 then 1 else 0)])) rfl ?_
  refine aw_ifeq (P := 0 ≤ mo.toInt ∧ mo.toInt < 12) (tgt := 19) S dX11_wants_4 (by decide) (fun c4 => ?_) (fun c4 => ?_)
  · refine lv_bipush (v := (-2)) S.1 S.2.1 dX11_wants_19 (by decide) ?_
    have hw := aw_arr hw 1 rfl (f_wantsT n wa mo sv) (fun _ _ => by unfold f_wantsT; first | rw [if_neg (by omega)] | rw [if_pos (by omega)])
    have hw : bW G A s.heap [[(am 31, mdO am fl n lw nn ra rsn nr tr)], [(am 6, .inl (gI G, 12, .inl (f_wantsT n wa mo sv)))]] H locs := hw
    refine aw_eqi (show ((-2) : Int32) = f_wants n wa mo sv from (by unfold f_wants; first | rw [if_neg (by omega)] | (rw [if_pos (by omega)]; first | rw [if_pos c26] | rw [if_neg c26]))) ?_
    exact aw_iret S hr hlk ha hQ hAe hw dX11_wants_21 rfl (Nat.le_of_ble_eq_true rfl) (Nat.le_of_ble_eq_true rfl) ⟨rfl, rfl⟩
  · have hb_mo : tn mo < 12 := aw_tnL c4
    have hl := Eq.mp (congrArg (fun z_ : Int32 => lv_has ls 4 [(0, .ref (am 31)), (1, .int z_), (2, .int sv)]) (show (mo : Int32) = nI (tn mo) from (aw_tnE c4))) hl
    have hl : lv_has ls 4 [(0, .ref (am 31)), (1, .int (nI (tn mo))), (2, .int sv)] := hl
    refine lv_iload_n S.1 S.2.1 dX11_wants_7 rfl (lv_at hl 2 rfl) ?_
    refine lv_i2l S.1 S.2.1 dX11_wants_8 rfl ?_
    refine lv_lconst (v := 0) S.1 S.2.1 dX11_wants_9 (by decide) ?_
    refine lv_ldc2 (v := 7) S.1 S.2.1 S.2.2.2.1 (S.2.2.2.2 (.constantLong RX11 162 7) (by decide +kernel)) dX11_wants_10 ?_
    refine aw_callS S hE (c_X11_in l G sv.toInt64 0 7) gX11_wants_X11_in (n := 3) rfl (by decide +kernel) rfl (by rw [hRm]; exact ⟨Nat.le_of_ble_eq_true rfl, Nat.le_of_ble_eq_true rfl⟩) (by rw [hRm]; exact ⟨Nat.le_of_ble_eq_true rfl, Nat.le_of_ble_eq_true rfl⟩) hw hA hl.1 [] rfl rfl rfl (Nat.le_of_ble_eq_true rfl) dX11_wants_13 ?_
    rintro v w1 H locs ⟨rfl, rfl⟩ hw
    have hw : bW G A s.heap [[(am 31, mdO am fl n lw nn ra rsn nr tr)], [(am 6, .inl (gI G, 12, .inl wa))]] H locs := hw
    refine W.eq (g2 := (F0 m 16 ls [.int (if Int64.toInt 0 ≤ Int64.toInt sv.toInt64 ∧ Int64.toInt sv.toInt64 ≤ Int64.toInt 7 then 1 else 0)])) rfl ?_
    refine aw_ifne (P := Int64.toInt 0 ≤ Int64.toInt sv.toInt64 ∧ Int64.toInt sv.toInt64 ≤ Int64.toInt 7) (tgt := 22) S dX11_wants_16 (by decide) (fun c16 => ?_) (fun c16 => ?_)
    · rw [l64, l64_0, l64_7] at c16
      refine lv_aload_n S.1 S.2.1 dX11_wants_22 rfl (lv_at hl 0 rfl) ?_
      refine aw_get S hE hw 0 (C := RX11) (T := TX11) (N := 31) rfl rfl hinX11 1 (by decide) hf90 rfl dX11_wants_23 ?_
      refine aw_ifN_ne (x := n) (tgt := 32) S (by omega) dX11_wants_26 (by decide) (fun c26 => ?_) (fun c26 => ?_)
      · refine lv_aload_n S.1 S.2.1 dX11_wants_32 rfl (lv_at hl 0 rfl) ?_
        refine aw_get S hE hw 0 (C := RX11) (T := TX11) (N := 31) rfl rfl hinX11 6 (by decide) hf22 rfl dX11_wants_33 ?_
        refine lv_iload_n S.1 S.2.1 dX11_wants_36 rfl (lv_at hl 1 rfl) ?_
        refine aw_iald S hE hw 1 (k := (tn mo)) rfl (by omega) (by decide) dX11_wants_37 ?_
        refine lv_istore_n (lv' := [(3, .int (wa (tn mo))), (0, .ref (am 31)), (1, .int (nI (tn mo))), (2, .int sv)]) S.1 S.2.1 dX11_wants_38 rfl hl (by decide) rfl (fun ls hl => ?_)
        refine lv_aload_n S.1 S.2.1 dX11_wants_39 rfl (lv_at hl 1 rfl) ?_
        refine aw_get S hE hw 0 (C := RX11) (T := TX11) (N := 31) rfl rfl hinX11 6 (by decide) hf22 rfl dX11_wants_40 ?_
        refine lv_iload_n S.1 S.2.1 dX11_wants_43 rfl (lv_at hl 2 rfl) ?_
        refine lv_iload_n S.1 S.2.1 dX11_wants_44 rfl (lv_at hl 3 rfl) ?_
        refine aw_iast S hE hw 1 (k := (tn mo)) rfl (by omega) (by decide) dX11_wants_45 (fun H locs hw => ?_)
        have hw : bW G A s.heap [[(am 31, mdO am fl n lw nn ra rsn nr tr)], [(am 6, .inl (gI G, 12, .inl (upd wa (tn mo) sv)))]] H locs := hw
        refine lv_iload_n S.1 S.2.1 dX11_wants_46 rfl (lv_at hl 0 rfl) ?_
        have hw := aw_arr hw 1 rfl (f_wantsT n wa mo sv) (fun _ _ => by unfold f_wantsT; first | rw [if_neg (by omega)] | rw [if_pos (by omega)])
        have hw : bW G A s.heap [[(am 31, mdO am fl n lw nn ra rsn nr tr)], [(am 6, .inl (gI G, 12, .inl (f_wantsT n wa mo sv)))]] H locs := hw
        refine aw_eqi (show (wa (tn mo) : Int32) = f_wants n wa mo sv from (by unfold f_wants; first | rw [if_neg (by omega)] | (rw [if_pos (by omega)]; first | rw [if_pos c26] | rw [if_neg c26]))) ?_
        exact aw_iret S hr hlk ha hQ hAe hw dX11_wants_47 rfl (Nat.le_of_ble_eq_true rfl) (Nat.le_of_ble_eq_true rfl) ⟨rfl, rfl⟩
      · refine lv_bipush (v := (-3)) S.1 S.2.1 dX11_wants_29 (by decide) ?_
        have hw := aw_arr hw 1 rfl (f_wantsT n wa mo sv) (fun _ _ => by unfold f_wantsT; first | rw [if_neg (by omega)] | rw [if_pos (by omega)])
        have hw : bW G A s.heap [[(am 31, mdO am fl n lw nn ra rsn nr tr)], [(am 6, .inl (gI G, 12, .inl (f_wantsT n wa mo sv)))]] H locs := hw
        refine aw_eqi (show ((-3) : Int32) = f_wants n wa mo sv from (by unfold f_wants; first | rw [if_neg (by omega)] | (rw [if_pos (by omega)]; first | rw [if_pos c26] | rw [if_neg c26]))) ?_
        exact aw_iret S hr hlk ha hQ hAe hw dX11_wants_31 rfl (Nat.le_of_ble_eq_true rfl) (Nat.le_of_ble_eq_true rfl) ⟨rfl, rfl⟩
    · rw [l64, l64_0, l64_7] at c16
      refine lv_bipush (v := (-2)) S.1 S.2.1 dX11_wants_19 (by decide) ?_
      have hw := aw_arr hw 1 rfl (f_wantsT n wa mo sv) (fun _ _ => by unfold f_wantsT; first | rw [if_neg (by omega)] | rw [if_pos (by omega)])
      have hw : bW G A s.heap [[(am 31, mdO am fl n lw nn ra rsn nr tr)], [(am 6, .inl (gI G, 12, .inl (f_wantsT n wa mo sv)))]] H locs := hw
      refine aw_eqi (show ((-2) : Int32) = f_wants n wa mo sv from (by unfold f_wants; first | rw [if_neg (by omega)] | (rw [if_pos (by omega)]; first | rw [if_pos c26] | rw [if_neg c26]))) ?_
      exact aw_iret S hr hlk ha hQ hAe hw dX11_wants_21 rfl (Nat.le_of_ble_eq_true rfl) (Nat.le_of_ble_eq_true rfl) ⟨rfl, rfl⟩
set_option maxRecDepth 100000 in
set_option maxHeartbeats 4000000 in
theorem c_X11_law (l : Launch) (G : aw_G) (am : Nat → Nat) (fl : Int32) (n : Nat) (lw : Int32) (nn ra rsn nr : Nat) (tr : Int32) (v : Int32) (hn : n ≤ 6) : CT l G yX11_law wsX11_law ({ frames := 1, cells := 0, slots := 0, locals := 25 }) [.ref (am 31), .int v] [[(am 31, mdO am fl n lw nn ra rsn nr tr)]] (dt (some (.int (f_law n lw v))) [[(am 31, mdO am fl n (f_lawT n lw v) nn ra rsn nr tr)]]) := by
  refine CT.of (cc := cX11_law) (nL := 3) (ret := (some .int)) (by decide) rfl (Nat.le_of_ble_eq_true rfl) ?_
  intro p e s m below meth c R args Q A hRm ha hQ hAe hA S hE hr hlk hnm H locs hH0 hL0 ls hl hw
  have S : CallFix p m c cX11_law 3 s args wsX11_law RX11 := S
  have hl : lv_has ls 3 [(0, .ref (am 31)), (1, .int v)] := hl
  have hinX11 : ∀ w ∈ u_ws RX11 TX11 31, w ∈ wsX11_law := by decide +kernel
  have hf90 := S.2.2.2.2 (.fieldLink RX11 90 "AwakeTurnsModel" "sleepers" "I") (by decide +kernel)
  have hf141 := S.2.2.2.2 (.fieldLink RX11 141 "AwakeTurnsModel" "lawNow" "I") (by decide +kernel)
  refine lv_iload_n S.1 S.2.1 dX11_law_0 rfl (lv_at hl 1 rfl) ?_
  refine lv_i2l S.1 S.2.1 dX11_law_1 rfl ?_
  refine lv_lconst (v := 0) S.1 S.2.1 dX11_law_2 (by decide) ?_
  refine lv_lconst (v := 1) S.1 S.2.1 dX11_law_3 (by decide) ?_
  refine aw_callS S hE (c_X11_in l G v.toInt64 0 1) gX11_law_X11_in (n := 3) rfl (by decide +kernel) rfl (by rw [hRm]; exact ⟨Nat.le_of_ble_eq_true rfl, Nat.le_of_ble_eq_true rfl⟩) (by rw [hRm]; exact ⟨Nat.le_of_ble_eq_true rfl, Nat.le_of_ble_eq_true rfl⟩) hw hA hl.1 [] rfl rfl rfl (Nat.le_of_ble_eq_true rfl) dX11_law_4 ?_
  rintro v w1 H locs ⟨rfl, rfl⟩ hw
  have hw : bW G A s.heap [[(am 31, mdO am fl n lw nn ra rsn nr tr)]] H locs := hw
  refine W.eq (g2 := (F0 m 7 ls [.int (if Int64.toInt 0 ≤ Int64.toInt v.toInt64 ∧ Int64.toInt v.toInt64 ≤ Int64.toInt 1 then 1 else 0)])) rfl ?_
  refine aw_ifne (P := Int64.toInt 0 ≤ Int64.toInt v.toInt64 ∧ Int64.toInt v.toInt64 ≤ Int64.toInt 1) (tgt := 13) S dX11_law_7 (by decide) (fun c7 => ?_) (fun c7 => ?_)
  · rw [l64, l64_0, l64_1] at c7
    have hv01 : v = 0 ∨ v = 1 := by rw [fa_eq, fa_eq, li_0, li_1]; omega
    refine lv_aload_n S.1 S.2.1 dX11_law_13 rfl (lv_at hl 0 rfl) ?_
    refine aw_get S hE hw 0 (C := RX11) (T := TX11) (N := 31) rfl rfl hinX11 1 (by decide) hf90 rfl dX11_law_14 ?_
    refine aw_ifN_ne (x := n) (tgt := 23) S (by omega) dX11_law_17 (by decide) (fun c17 => ?_) (fun c17 => ?_)
    · refine lv_aload_n S.1 S.2.1 dX11_law_23 rfl (lv_at hl 0 rfl) ?_
      refine aw_get S hE hw 0 (C := RX11) (T := TX11) (N := 31) rfl rfl hinX11 7 (by decide) hf141 rfl dX11_law_24 ?_
      refine lv_istore_n (lv' := [(2, .int lw), (0, .ref (am 31)), (1, .int v)]) S.1 S.2.1 dX11_law_27 rfl hl (by decide) rfl (fun ls hl => ?_)
      refine lv_aload_n S.1 S.2.1 dX11_law_28 rfl (lv_at hl 1 rfl) ?_
      refine lv_iload_n S.1 S.2.1 dX11_law_29 rfl (lv_at hl 2 rfl) ?_
      refine aw_putf S hE hw 0 (C := RX11) (T := TX11) (N := 31) rfl rfl hinX11 tyX11 tyX11_ok nmX11 7 (by decide) hf141 rfl rfl rfl (Nat.le_of_ble_eq_true rfl) dX11_law_30 (fun H locs hw => ?_)
      have hw : bW G A s.heap [[(am 31, mdO am fl n v nn ra rsn nr tr)]] H locs := hw
      refine lv_iload_n S.1 S.2.1 dX11_law_33 rfl (lv_at hl 0 rfl) ?_
      have hw := Eq.mp (congrArg (fun z_ : Int32 => bW G A s.heap [[(am 31, mdO am fl n z_ nn ra rsn nr tr)]] H locs) (show (v : Int32) = f_lawT n lw v from (by rw [f_lawT]; rw [if_pos ⟨hv01, c17⟩]))) hw
      have hw : bW G A s.heap [[(am 31, mdO am fl n (f_lawT n lw v) nn ra rsn nr tr)]] H locs := hw
      refine aw_eqi (show (lw : Int32) = f_law n lw v from (by rw [f_law]; first | rw [if_neg hv01] | (rw [if_pos hv01]; first | rw [if_pos c17] | rw [if_neg c17]))) ?_
      exact aw_iret S hr hlk ha hQ hAe hw dX11_law_34 rfl (Nat.le_of_ble_eq_true rfl) (Nat.le_of_ble_eq_true rfl) ⟨rfl, rfl⟩
    · refine lv_bipush (v := (-3)) S.1 S.2.1 dX11_law_20 (by decide) ?_
      have hw := Eq.mp (congrArg (fun z_ : Int32 => bW G A s.heap [[(am 31, mdO am fl n z_ nn ra rsn nr tr)]] H locs) (show (lw : Int32) = f_lawT n lw v from (by rw [f_lawT]; rw [if_neg (fun q => q.2 c17)]))) hw
      have hw : bW G A s.heap [[(am 31, mdO am fl n (f_lawT n lw v) nn ra rsn nr tr)]] H locs := hw
      refine aw_eqi (show ((-3) : Int32) = f_law n lw v from (by rw [f_law]; first | rw [if_neg hv01] | (rw [if_pos hv01]; first | rw [if_pos c17] | rw [if_neg c17]))) ?_
      exact aw_iret S hr hlk ha hQ hAe hw dX11_law_22 rfl (Nat.le_of_ble_eq_true rfl) (Nat.le_of_ble_eq_true rfl) ⟨rfl, rfl⟩
  · rw [l64, l64_0, l64_1] at c7
    have hv01 : ¬ (v = 0 ∨ v = 1) := by rw [fa_eq, fa_eq, li_0, li_1]; omega
    refine lv_bipush (v := (-2)) S.1 S.2.1 dX11_law_10 (by decide) ?_
    have hw := Eq.mp (congrArg (fun z_ : Int32 => bW G A s.heap [[(am 31, mdO am fl n z_ nn ra rsn nr tr)]] H locs) (show (lw : Int32) = f_lawT n lw v from (by rw [f_lawT]; rw [if_neg (fun q => hv01 q.1)]))) hw
    have hw : bW G A s.heap [[(am 31, mdO am fl n (f_lawT n lw v) nn ra rsn nr tr)]] H locs := hw
    refine aw_eqi (show ((-2) : Int32) = f_law n lw v from (by rw [f_law]; first | rw [if_neg hv01] | (rw [if_pos hv01]; first | rw [if_pos c17] | rw [if_neg c17]))) ?_
    exact aw_iret S hr hlk ha hQ hAe hw dX11_law_12 rfl (Nat.le_of_ble_eq_true rfl) (Nat.le_of_ble_eq_true rfl) ⟨rfl, rfl⟩
set_option maxRecDepth 100000 in
set_option maxHeartbeats 4000000 in
theorem c_X11_note (l : Launch) (G : aw_G) (am : Nat → Nat) (fl : Int32) (n : Nat) (lw : Int32) (nn ra rsn nr : Nat) (tr : Int32) (nf nt : Nat → Nat) (sv so_ : Int32) (hn : n ≤ 6) (hnn : nn ≤ 8) : CT l G yX11_note wsX11_note ({ frames := 2, cells := 0, slots := 0, locals := 46 }) [.ref (am 31), .int sv, .int so_] [[(am 31, mdO am fl n lw nn ra rsn nr tr)], [(am 9, .inl (gI G, 8, .inl (fun k => nI (nf k))))], [(am 10, .inl (gI G, 8, .inl (fun k => nI (nt k))))]] (fun v w => (f_noteP n sv so_ → v = some (.int (if nn < 8 then nI nn else -4)) ∧ w = [[(am 31, mdO am fl n lw (min (nn + 1) 8) ra rsn nr tr)], [(am 9, .inl (gI G, 8, .inl (fun k => nI ((nupd nn (tn sv) nf) k))))], [(am 10, .inl (gI G, 8, .inl (fun k => nI ((nupd nn (tn so_) nt) k))))]]) ∧ (¬ f_noteP n sv so_ → v = some (.int (-1)) ∧ w = [[(am 31, mdO am fl n lw nn ra rsn nr tr)], [(am 9, .inl (gI G, 8, .inl (fun k => nI (nf k))))], [(am 10, .inl (gI G, 8, .inl (fun k => nI (nt k))))]])) := by
  refine CT.of (cc := cX11_note) (nL := 3) (ret := (some .int)) (by decide) rfl (Nat.le_of_ble_eq_true rfl) ?_
  intro p e s m below meth c R args Q A hRm ha hQ hAe hA S hE hr hlk hnm H locs hH0 hL0 ls hl hw
  have S : CallFix p m c cX11_note 3 s args wsX11_note RX11 := S
  have hl : lv_has ls 3 [(0, .ref (am 31)), (1, .int sv), (2, .int so_)] := hl
  have hinX11 : ∀ w ∈ u_ws RX11 TX11 31, w ∈ wsX11_note := by decide +kernel
  have hf144 := S.2.2.2.2 (.fieldLink RX11 144 "AwakeTurnsModel" "notes" "I") (by decide +kernel)
  have hf25 := S.2.2.2.2 (.fieldLink RX11 25 "AwakeTurnsModel" "noteFrom" "[I") (by decide +kernel)
  have hf28 := S.2.2.2.2 (.fieldLink RX11 28 "AwakeTurnsModel" "noteTo" "[I") (by decide +kernel)
  refine lv_aload_n S.1 S.2.1 dX11_note_0 rfl (lv_at hl 0 rfl) ?_
  refine lv_iload_n S.1 S.2.1 dX11_note_1 rfl (lv_at hl 1 rfl) ?_
  refine aw_callV S hE (c_X11_noSleeper l G am fl n lw nn ra rsn nr tr sv (by first | assumption | omega)) gX11_note_X11_noSleeper (n := 1) rfl (by decide +kernel) rfl (by rw [hRm]; exact ⟨Nat.le_of_ble_eq_true rfl, Nat.le_of_ble_eq_true rfl⟩) (by rw [hRm]; exact ⟨Nat.le_of_ble_eq_true rfl, Nat.le_of_ble_eq_true rfl⟩) hw hA hl.1 [0] rfl rfl (aw_recv (i := 0) hE hw rfl rfl rfl) rfl (Nat.le_of_ble_eq_true rfl) dX11_note_2 ?_
  rintro v w1 H locs ⟨rfl, rfl⟩ hw
  have hw : bW G A s.heap [[(am 31, mdO am fl n lw nn ra rsn nr tr)], [(am 9, .inl (gI G, 8, .inl (fun k => nI (nf k))))], [(am 10, .inl (gI G, 8, .inl (fun k => nI (nt k))))]] H locs := hw
  refine W.eq (g2 := (F0 m 5 ls [.int (if ¬ (0 ≤ sv.toInt ∧ sv.toInt < n) then 1 else 0)])) rfl ?_
  refine aw_ifne (P := ¬ (0 ≤ sv.toInt ∧ sv.toInt < n)) (tgt := 21) S dX11_note_5 (by decide) (fun c5 => ?_) (fun c5 => ?_)
  · refine lv_iconst (v := (-1)) S.1 S.2.1 dX11_note_21 (by decide) ?_
    exact aw_iret S hr hlk ha hQ hAe hw dX11_note_22 rfl (Nat.le_of_ble_eq_true rfl) (Nat.le_of_ble_eq_true rfl) ⟨fun q => absurd q.1.1 c5, fun _ => ⟨rfl, rfl⟩⟩
  · have c5 := Decidable.not_not.mp c5
    refine lv_aload_n S.1 S.2.1 dX11_note_8 rfl (lv_at hl 0 rfl) ?_
    refine lv_iload_n S.1 S.2.1 dX11_note_9 rfl (lv_at hl 2 rfl) ?_
    refine aw_callV S hE (c_X11_noSleeper l G am fl n lw nn ra rsn nr tr so_ (by first | assumption | omega)) gX11_note_X11_noSleeper (n := 1) rfl (by decide +kernel) rfl (by rw [hRm]; exact ⟨Nat.le_of_ble_eq_true rfl, Nat.le_of_ble_eq_true rfl⟩) (by rw [hRm]; exact ⟨Nat.le_of_ble_eq_true rfl, Nat.le_of_ble_eq_true rfl⟩) hw hA hl.1 [0] rfl rfl (aw_recv (i := 0) hE hw rfl rfl rfl) rfl (Nat.le_of_ble_eq_true rfl) dX11_note_10 ?_
    rintro v w1 H locs ⟨rfl, rfl⟩ hw
    have hw : bW G A s.heap [[(am 31, mdO am fl n lw nn ra rsn nr tr)], [(am 9, .inl (gI G, 8, .inl (fun k => nI (nf k))))], [(am 10, .inl (gI G, 8, .inl (fun k => nI (nt k))))]] H locs := hw
    refine W.eq (g2 := (F0 m 13 ls [.int (if ¬ (0 ≤ so_.toInt ∧ so_.toInt < n) then 1 else 0)])) rfl ?_
    refine aw_ifne (P := ¬ (0 ≤ so_.toInt ∧ so_.toInt < n)) (tgt := 21) S dX11_note_13 (by decide) (fun c13 => ?_) (fun c13 => ?_)
    · refine lv_iconst (v := (-1)) S.1 S.2.1 dX11_note_21 (by decide) ?_
      exact aw_iret S hr hlk ha hQ hAe hw dX11_note_22 rfl (Nat.le_of_ble_eq_true rfl) (Nat.le_of_ble_eq_true rfl) ⟨fun q => absurd q.1.2 c13, fun _ => ⟨rfl, rfl⟩⟩
    · have c13 := Decidable.not_not.mp c13
      refine lv_iload_n S.1 S.2.1 dX11_note_16 rfl (lv_at hl 1 rfl) ?_
      refine lv_iload_n S.1 S.2.1 dX11_note_17 rfl (lv_at hl 2 rfl) ?_
      refine lv_icmp_ne (tgt := 23) S.1 S.2.1 dX11_note_18 (by decide) (fun c18 => ?_) (fun c18 => ?_)
      · have hb_sv : tn sv < n := aw_tnL c5
        have hl := Eq.mp (congrArg (fun z_ : Int32 => lv_has ls 3 [(0, .ref (am 31)), (1, .int z_), (2, .int so_)]) (show (sv : Int32) = nI (tn sv) from (aw_tnE c5))) hl
        have hl : lv_has ls 3 [(0, .ref (am 31)), (1, .int (nI (tn sv))), (2, .int so_)] := hl
        have hb_so_ : tn so_ < n := aw_tnL c13
        have hl := Eq.mp (congrArg (fun z_ : Int32 => lv_has ls 3 [(0, .ref (am 31)), (1, .int (nI (tn sv))), (2, .int z_)]) (show (so_ : Int32) = nI (tn so_) from (aw_tnE c13))) hl
        have hl : lv_has ls 3 [(0, .ref (am 31)), (1, .int (nI (tn sv))), (2, .int (nI (tn so_)))] := hl
        refine lv_aload_n S.1 S.2.1 dX11_note_23 rfl (lv_at hl 0 rfl) ?_
        refine aw_get S hE hw 0 (C := RX11) (T := TX11) (N := 31) rfl rfl hinX11 8 (by decide) hf144 rfl dX11_note_24 ?_
        refine lv_bipush (v := 8) S.1 S.2.1 dX11_note_27 (by decide) ?_
        refine aw_icmpN_ne (x := nn) (y := 8) (tgt := 35) S (by omega) (by omega) dX11_note_29 (by decide) (fun c29 => ?_) (fun c29 => ?_)
        · refine lv_aload_n S.1 S.2.1 dX11_note_35 rfl (lv_at hl 0 rfl) ?_
          refine aw_get S hE hw 0 (C := RX11) (T := TX11) (N := 31) rfl rfl hinX11 9 (by decide) hf25 rfl dX11_note_36 ?_
          refine lv_aload_n S.1 S.2.1 dX11_note_39 rfl (lv_at hl 0 rfl) ?_
          refine aw_get S hE hw 0 (C := RX11) (T := TX11) (N := 31) rfl rfl hinX11 8 (by decide) hf144 rfl dX11_note_40 ?_
          refine lv_iload_n S.1 S.2.1 dX11_note_43 rfl (lv_at hl 1 rfl) ?_
          refine aw_iast S hE hw 1 (k := nn) rfl (by omega) (by decide) dX11_note_44 (fun H locs hw => ?_)
          have hw : bW G A s.heap [[(am 31, mdO am fl n lw nn ra rsn nr tr)], [(am 9, .inl (gI G, 8, .inl (upd (fun k => nI (nf k)) nn (nI (tn sv)))))], [(am 10, .inl (gI G, 8, .inl (fun k => nI (nt k))))]] H locs := hw
          have hw := aw_arr hw 1 rfl (fun k => nI ((va_up nf nn (tn sv)) k)) (fun j _ => by unfold upd va_up; split <;> rfl)
          have hw : bW G A s.heap [[(am 31, mdO am fl n lw nn ra rsn nr tr)], [(am 9, .inl (gI G, 8, .inl (fun k => nI ((va_up nf nn (tn sv)) k))))], [(am 10, .inl (gI G, 8, .inl (fun k => nI (nt k))))]] H locs := hw
          refine lv_aload_n S.1 S.2.1 dX11_note_45 rfl (lv_at hl 0 rfl) ?_
          refine aw_get S hE hw 0 (C := RX11) (T := TX11) (N := 31) rfl rfl hinX11 10 (by decide) hf28 rfl dX11_note_46 ?_
          refine lv_aload_n S.1 S.2.1 dX11_note_49 rfl (lv_at hl 0 rfl) ?_
          refine aw_get S hE hw 0 (C := RX11) (T := TX11) (N := 31) rfl rfl hinX11 8 (by decide) hf144 rfl dX11_note_50 ?_
          refine lv_iload_n S.1 S.2.1 dX11_note_53 rfl (lv_at hl 2 rfl) ?_
          refine aw_iast S hE hw 2 (k := nn) rfl (by omega) (by decide) dX11_note_54 (fun H locs hw => ?_)
          have hw : bW G A s.heap [[(am 31, mdO am fl n lw nn ra rsn nr tr)], [(am 9, .inl (gI G, 8, .inl (fun k => nI ((va_up nf nn (tn sv)) k))))], [(am 10, .inl (gI G, 8, .inl (upd (fun k => nI (nt k)) nn (nI (tn so_)))))]] H locs := hw
          have hw := aw_arr hw 2 rfl (fun k => nI ((va_up nt nn (tn so_)) k)) (fun j _ => by unfold upd va_up; split <;> rfl)
          have hw : bW G A s.heap [[(am 31, mdO am fl n lw nn ra rsn nr tr)], [(am 9, .inl (gI G, 8, .inl (fun k => nI ((va_up nf nn (tn sv)) k))))], [(am 10, .inl (gI G, 8, .inl (fun k => nI ((va_up nt nn (tn so_)) k))))]] H locs := hw
          refine lv_aload_n S.1 S.2.1 dX11_note_55 rfl (lv_at hl 0 rfl) ?_
          refine lv_dup S.1 S.2.1 dX11_note_56 rfl ?_
          refine aw_get S hE hw 0 (C := RX11) (T := TX11) (N := 31) rfl rfl hinX11 8 (by decide) hf144 rfl dX11_note_57 ?_
          refine lv_iconst (v := 1) S.1 S.2.1 dX11_note_60 (by decide) ?_
          refine lv_iadd S.1 S.2.1 dX11_note_61 ?_
          refine aw_eqi (show ((nI nn) + 1 : Int32) = nI (nn + 1) from (nI_add nn 1)) ?_
          refine aw_putf S hE hw 0 (C := RX11) (T := TX11) (N := 31) rfl rfl hinX11 tyX11 tyX11_ok nmX11 8 (by decide) hf144 rfl rfl rfl (Nat.le_of_ble_eq_true rfl) dX11_note_62 (fun H locs hw => ?_)
          have hw : bW G A s.heap [[(am 31, mdO am fl n lw (nn + 1) ra rsn nr tr)], [(am 9, .inl (gI G, 8, .inl (fun k => nI ((va_up nf nn (tn sv)) k))))], [(am 10, .inl (gI G, 8, .inl (fun k => nI ((va_up nt nn (tn so_)) k))))]] H locs := hw
          refine lv_aload_n S.1 S.2.1 dX11_note_65 rfl (lv_at hl 0 rfl) ?_
          refine aw_get S hE hw 0 (C := RX11) (T := TX11) (N := 31) rfl rfl hinX11 8 (by decide) hf144 rfl dX11_note_66 ?_
          refine lv_iconst (v := 1) S.1 S.2.1 dX11_note_69 (by decide) ?_
          refine lv_isub S.1 S.2.1 dX11_note_70 ?_
          refine aw_eqi (show ((nI (nn + 1)) - 1 : Int32) = nI ((nn + 1) - 1) from (pk_sub (a := nn + 1) (b := 1) (by omega))) ?_
          have hw := aw_arr hw 1 rfl (fun k => nI ((nupd nn (tn sv) nf) k)) (fun _ _ => by rw [← nupd_t (by omega)])
          have hw : bW G A s.heap [[(am 31, mdO am fl n lw (nn + 1) ra rsn nr tr)], [(am 9, .inl (gI G, 8, .inl (fun k => nI ((nupd nn (tn sv) nf) k))))], [(am 10, .inl (gI G, 8, .inl (fun k => nI ((va_up nt nn (tn so_)) k))))]] H locs := hw
          have hw := aw_arr hw 2 rfl (fun k => nI ((nupd nn (tn so_) nt) k)) (fun _ _ => by rw [← nupd_t (by omega)])
          have hw : bW G A s.heap [[(am 31, mdO am fl n lw (nn + 1) ra rsn nr tr)], [(am 9, .inl (gI G, 8, .inl (fun k => nI ((nupd nn (tn sv) nf) k))))], [(am 10, .inl (gI G, 8, .inl (fun k => nI ((nupd nn (tn so_) nt) k))))]] H locs := hw
          rw [show (nn + 1 : Nat) = min (nn + 1) 8 from by omega] at hw
          have hw : bW G A s.heap [[(am 31, mdO am fl n lw (min (nn + 1) 8) ra rsn nr tr)], [(am 9, .inl (gI G, 8, .inl (fun k => nI ((nupd nn (tn sv) nf) k))))], [(am 10, .inl (gI G, 8, .inl (fun k => nI ((nupd nn (tn so_) nt) k))))]] H locs := hw
          exact aw_iret S hr hlk ha hQ hAe hw dX11_note_71 rfl (Nat.le_of_ble_eq_true rfl) (Nat.le_of_ble_eq_true rfl) ⟨fun _ => ⟨by rw [if_pos (by omega)]; rfl, rfl⟩, fun q => absurd ⟨⟨c5, c13⟩, c18⟩ q⟩
        · refine lv_bipush (v := (-4)) S.1 S.2.1 dX11_note_32 (by decide) ?_
          have hw := aw_arr hw 1 rfl (fun k => nI ((nupd nn (tn sv) nf) k)) (fun _ _ => by rw [← nupd_f (by omega)])
          have hw : bW G A s.heap [[(am 31, mdO am fl n lw nn ra rsn nr tr)], [(am 9, .inl (gI G, 8, .inl (fun k => nI ((nupd nn (tn sv) nf) k))))], [(am 10, .inl (gI G, 8, .inl (fun k => nI (nt k))))]] H locs := hw
          have hw := aw_arr hw 2 rfl (fun k => nI ((nupd nn (tn so_) nt) k)) (fun _ _ => by rw [← nupd_f (by omega)])
          have hw : bW G A s.heap [[(am 31, mdO am fl n lw nn ra rsn nr tr)], [(am 9, .inl (gI G, 8, .inl (fun k => nI ((nupd nn (tn sv) nf) k))))], [(am 10, .inl (gI G, 8, .inl (fun k => nI ((nupd nn (tn so_) nt) k))))]] H locs := hw
          have hw := Eq.mp (congrArg (fun z_ : Nat => bW G A s.heap [[(am 31, mdO am fl n lw z_ ra rsn nr tr)], [(am 9, .inl (gI G, 8, .inl (fun k => nI ((nupd nn (tn sv) nf) k))))], [(am 10, .inl (gI G, 8, .inl (fun k => nI ((nupd nn (tn so_) nt) k))))]] H locs) (show nn = min (nn + 1) 8 from by omega)) hw
          have hw : bW G A s.heap [[(am 31, mdO am fl n lw (min (nn + 1) 8) ra rsn nr tr)], [(am 9, .inl (gI G, 8, .inl (fun k => nI ((nupd nn (tn sv) nf) k))))], [(am 10, .inl (gI G, 8, .inl (fun k => nI ((nupd nn (tn so_) nt) k))))]] H locs := hw
          exact aw_iret S hr hlk ha hQ hAe hw dX11_note_34 rfl (Nat.le_of_ble_eq_true rfl) (Nat.le_of_ble_eq_true rfl) ⟨fun _ => ⟨by rw [if_neg (by omega)], rfl⟩, fun q => absurd ⟨⟨c5, c13⟩, c18⟩ q⟩
      · refine lv_iconst (v := (-1)) S.1 S.2.1 dX11_note_21 (by decide) ?_
        exact aw_iret S hr hlk ha hQ hAe hw dX11_note_22 rfl (Nat.le_of_ble_eq_true rfl) (Nat.le_of_ble_eq_true rfl) ⟨fun q => q.2 c18 |>.elim, fun _ => ⟨rfl, rfl⟩⟩
set_option maxRecDepth 100000 in
set_option maxHeartbeats 4000000 in
theorem c_X11_tear (l : Launch) (G : aw_G) (am : Nat → Nat) (fl : Int32) (n : Nat) (lw : Int32) (nn ra rsn nr : Nat) (tr : Int32) (k : Int32) (hnn : nn ≤ 8) : CT l G yX11_tear wsX11_tear ({ frames := 1, cells := 0, slots := 0, locals := 25 }) [.ref (am 31), .int k] [[(am 31, mdO am fl n lw nn ra rsn nr tr)]] (dt (some (.int (f_tear nn k))) [[(am 31, mdO am fl n lw (f_tearT nn k) ra rsn nr tr)]]) := by
  refine CT.of (cc := cX11_tear) (nL := 2) (ret := (some .int)) (by decide) rfl (Nat.le_of_ble_eq_true rfl) ?_
  intro p e s m below meth c R args Q A hRm ha hQ hAe hA S hE hr hlk hnm H locs hH0 hL0 ls hl hw
  have S : CallFix p m c cX11_tear 2 s args wsX11_tear RX11 := S
  have hl : lv_has ls 2 [(0, .ref (am 31)), (1, .int k)] := hl
  have hinX11 : ∀ w ∈ u_ws RX11 TX11 31, w ∈ wsX11_tear := by decide +kernel
  have hf144 := S.2.2.2.2 (.fieldLink RX11 144 "AwakeTurnsModel" "notes" "I") (by decide +kernel)
  have e1 := nI_toInt (show nn < 2 ^ 31 by omega)
  refine lv_iload_n S.1 S.2.1 dX11_tear_0 rfl (lv_at hl 1 rfl) ?_
  refine lv_i2l S.1 S.2.1 dX11_tear_1 rfl ?_
  refine lv_lconst (v := 0) S.1 S.2.1 dX11_tear_2 (by decide) ?_
  refine lv_aload_n S.1 S.2.1 dX11_tear_3 rfl (lv_at hl 0 rfl) ?_
  refine aw_get S hE hw 0 (C := RX11) (T := TX11) (N := 31) rfl rfl hinX11 8 (by decide) hf144 rfl dX11_tear_4 ?_
  refine lv_i2l S.1 S.2.1 dX11_tear_7 rfl ?_
  refine aw_callS S hE (c_X11_in l G k.toInt64 0 ((nI nn).toInt64)) gX11_tear_X11_in (n := 3) rfl (by decide +kernel) rfl (by rw [hRm]; exact ⟨Nat.le_of_ble_eq_true rfl, Nat.le_of_ble_eq_true rfl⟩) (by rw [hRm]; exact ⟨Nat.le_of_ble_eq_true rfl, Nat.le_of_ble_eq_true rfl⟩) hw hA hl.1 [] rfl rfl rfl (Nat.le_of_ble_eq_true rfl) dX11_tear_8 ?_
  rintro v w1 H locs ⟨rfl, rfl⟩ hw
  have hw : bW G A s.heap [[(am 31, mdO am fl n lw nn ra rsn nr tr)]] H locs := hw
  refine W.eq (g2 := (F0 m 11 ls [.int (if Int64.toInt 0 ≤ Int64.toInt k.toInt64 ∧ Int64.toInt k.toInt64 ≤ Int64.toInt ((nI nn).toInt64) then 1 else 0)])) rfl ?_
  refine aw_ifne (P := Int64.toInt 0 ≤ Int64.toInt k.toInt64 ∧ Int64.toInt k.toInt64 ≤ Int64.toInt ((nI nn).toInt64)) (tgt := 17) S dX11_tear_11 (by decide) (fun c11 => ?_) (fun c11 => ?_)
  · rw [l64, l64_0, l64, e1] at c11
    have hkk : 0 ≤ k.toInt ∧ k.toInt < ((nn + 1 : Nat) : Int) := by omega
    have hb_k : tn k < nn + 1 := aw_tnL hkk
    have hl := Eq.mp (congrArg (fun z_ : Int32 => lv_has ls 2 [(0, .ref (am 31)), (1, .int z_)]) (show (k : Int32) = nI (tn k) from (aw_tnE hkk))) hl
    have hl : lv_has ls 2 [(0, .ref (am 31)), (1, .int (nI (tn k)))] := hl
    refine lv_aload_n S.1 S.2.1 dX11_tear_17 rfl (lv_at hl 0 rfl) ?_
    refine lv_dup S.1 S.2.1 dX11_tear_18 rfl ?_
    refine aw_get S hE hw 0 (C := RX11) (T := TX11) (N := 31) rfl rfl hinX11 8 (by decide) hf144 rfl dX11_tear_19 ?_
    refine lv_iload_n S.1 S.2.1 dX11_tear_22 rfl (lv_at hl 1 rfl) ?_
    refine lv_isub S.1 S.2.1 dX11_tear_23 ?_
    refine aw_eqi (show ((nI nn) - (nI (tn k)) : Int32) = nI (nn - (tn k)) from (pk_sub (a := nn) (b := tn k) (by omega))) ?_
    refine aw_putf S hE hw 0 (C := RX11) (T := TX11) (N := 31) rfl rfl hinX11 tyX11 tyX11_ok nmX11 8 (by decide) hf144 rfl rfl rfl (Nat.le_of_ble_eq_true rfl) dX11_tear_24 (fun H locs hw => ?_)
    have hw : bW G A s.heap [[(am 31, mdO am fl n lw (nn - (tn k)) ra rsn nr tr)]] H locs := hw
    refine lv_aload_n S.1 S.2.1 dX11_tear_27 rfl (lv_at hl 0 rfl) ?_
    refine aw_get S hE hw 0 (C := RX11) (T := TX11) (N := 31) rfl rfl hinX11 8 (by decide) hf144 rfl dX11_tear_28 ?_
    have hw := Eq.mp (congrArg (fun z_ : Nat => bW G A s.heap [[(am 31, mdO am fl n lw z_ ra rsn nr tr)]] H locs) (show (nn - (tn k) : Nat) = f_tearT nn k from by unfold f_tearT; first | rw [if_neg (by omega)] | rw [if_pos (by omega)])) hw
    refine aw_eqi (show (nI (nn - (tn k)) : Int32) = f_tear nn k from (by unfold f_tear; first | rw [if_neg (by omega)] | rw [if_pos (by omega)])) ?_
    exact aw_iret S hr hlk ha hQ hAe hw dX11_tear_31 rfl (Nat.le_of_ble_eq_true rfl) (Nat.le_of_ble_eq_true rfl) ⟨rfl, rfl⟩
  · rw [l64, l64_0, l64, e1] at c11
    refine lv_bipush (v := (-2)) S.1 S.2.1 dX11_tear_14 (by decide) ?_
    have hw := Eq.mp (congrArg (fun z_ : Nat => bW G A s.heap [[(am 31, mdO am fl n lw z_ ra rsn nr tr)]] H locs) (show (nn : Nat) = f_tearT nn k from by unfold f_tearT; first | rw [if_neg (by omega)] | rw [if_pos (by omega)])) hw
    refine aw_eqi (show ((-2) : Int32) = f_tear nn k from (by unfold f_tear; first | rw [if_neg (by omega)] | rw [if_pos (by omega)])) ?_
    exact aw_iret S hr hlk ha hQ hAe hw dX11_tear_16 rfl (Nat.le_of_ble_eq_true rfl) (Nat.le_of_ble_eq_true rfl) ⟨rfl, rfl⟩
set_option maxRecDepth 100000 in
set_option maxHeartbeats 4000000 in
theorem c_X11_back (l : Launch) (G : aw_G) (am : Nat → Nat) (fl : Int32) (n : Nat) (lw : Int32) (nn ra rsn nr : Nat) (tr : Int32) (k : Int32) (hnn : nr ≤ 8) : CT l G yX11_back wsX11_back ({ frames := 1, cells := 0, slots := 0, locals := 25 }) [.ref (am 31), .int k] [[(am 31, mdO am fl n lw nn ra rsn nr tr)]] (dt (some (.int (f_tear nr k))) [[(am 31, mdO am fl n lw nn ra rsn (f_tearT nr k) tr)]]) := by
  refine CT.of (cc := cX11_back) (nL := 2) (ret := (some .int)) (by decide) rfl (Nat.le_of_ble_eq_true rfl) ?_
  intro p e s m below meth c R args Q A hRm ha hQ hAe hA S hE hr hlk hnm H locs hH0 hL0 ls hl hw
  have S : CallFix p m c cX11_back 2 s args wsX11_back RX11 := S
  have hl : lv_has ls 2 [(0, .ref (am 31)), (1, .int k)] := hl
  have hinX11 : ∀ w ∈ u_ws RX11 TX11 31, w ∈ wsX11_back := by decide +kernel
  have hf147 := S.2.2.2.2 (.fieldLink RX11 147 "AwakeTurnsModel" "readings" "I") (by decide +kernel)
  have e1 := nI_toInt (show nr < 2 ^ 31 by omega)
  refine lv_iload_n S.1 S.2.1 dX11_back_0 rfl (lv_at hl 1 rfl) ?_
  refine lv_i2l S.1 S.2.1 dX11_back_1 rfl ?_
  refine lv_lconst (v := 0) S.1 S.2.1 dX11_back_2 (by decide) ?_
  refine lv_aload_n S.1 S.2.1 dX11_back_3 rfl (lv_at hl 0 rfl) ?_
  refine aw_get S hE hw 0 (C := RX11) (T := TX11) (N := 31) rfl rfl hinX11 22 (by decide) hf147 rfl dX11_back_4 ?_
  refine lv_i2l S.1 S.2.1 dX11_back_7 rfl ?_
  refine aw_callS S hE (c_X11_in l G k.toInt64 0 ((nI nr).toInt64)) gX11_back_X11_in (n := 3) rfl (by decide +kernel) rfl (by rw [hRm]; exact ⟨Nat.le_of_ble_eq_true rfl, Nat.le_of_ble_eq_true rfl⟩) (by rw [hRm]; exact ⟨Nat.le_of_ble_eq_true rfl, Nat.le_of_ble_eq_true rfl⟩) hw hA hl.1 [] rfl rfl rfl (Nat.le_of_ble_eq_true rfl) dX11_back_8 ?_
  rintro v w1 H locs ⟨rfl, rfl⟩ hw
  have hw : bW G A s.heap [[(am 31, mdO am fl n lw nn ra rsn nr tr)]] H locs := hw
  refine W.eq (g2 := (F0 m 11 ls [.int (if Int64.toInt 0 ≤ Int64.toInt k.toInt64 ∧ Int64.toInt k.toInt64 ≤ Int64.toInt ((nI nr).toInt64) then 1 else 0)])) rfl ?_
  refine aw_ifne (P := Int64.toInt 0 ≤ Int64.toInt k.toInt64 ∧ Int64.toInt k.toInt64 ≤ Int64.toInt ((nI nr).toInt64)) (tgt := 17) S dX11_back_11 (by decide) (fun c11 => ?_) (fun c11 => ?_)
  · rw [l64, l64_0, l64, e1] at c11
    have hkk : 0 ≤ k.toInt ∧ k.toInt < ((nr + 1 : Nat) : Int) := by omega
    have hb_k : tn k < nr + 1 := aw_tnL hkk
    have hl := Eq.mp (congrArg (fun z_ : Int32 => lv_has ls 2 [(0, .ref (am 31)), (1, .int z_)]) (show (k : Int32) = nI (tn k) from (aw_tnE hkk))) hl
    have hl : lv_has ls 2 [(0, .ref (am 31)), (1, .int (nI (tn k)))] := hl
    refine lv_aload_n S.1 S.2.1 dX11_back_17 rfl (lv_at hl 0 rfl) ?_
    refine lv_dup S.1 S.2.1 dX11_back_18 rfl ?_
    refine aw_get S hE hw 0 (C := RX11) (T := TX11) (N := 31) rfl rfl hinX11 22 (by decide) hf147 rfl dX11_back_19 ?_
    refine lv_iload_n S.1 S.2.1 dX11_back_22 rfl (lv_at hl 1 rfl) ?_
    refine lv_isub S.1 S.2.1 dX11_back_23 ?_
    refine aw_eqi (show ((nI nr) - (nI (tn k)) : Int32) = nI (nr - (tn k)) from (pk_sub (a := nr) (b := tn k) (by omega))) ?_
    refine aw_putf S hE hw 0 (C := RX11) (T := TX11) (N := 31) rfl rfl hinX11 tyX11 tyX11_ok nmX11 22 (by decide) hf147 rfl rfl rfl (Nat.le_of_ble_eq_true rfl) dX11_back_24 (fun H locs hw => ?_)
    have hw : bW G A s.heap [[(am 31, mdO am fl n lw nn ra rsn (nr - (tn k)) tr)]] H locs := hw
    refine lv_aload_n S.1 S.2.1 dX11_back_27 rfl (lv_at hl 0 rfl) ?_
    refine aw_get S hE hw 0 (C := RX11) (T := TX11) (N := 31) rfl rfl hinX11 22 (by decide) hf147 rfl dX11_back_28 ?_
    have hw := Eq.mp (congrArg (fun z_ : Nat => bW G A s.heap [[(am 31, mdO am fl n lw nn ra rsn z_ tr)]] H locs) (show (nr - (tn k) : Nat) = f_tearT nr k from by unfold f_tearT; first | rw [if_neg (by omega)] | rw [if_pos (by omega)])) hw
    refine aw_eqi (show (nI (nr - (tn k)) : Int32) = f_tear nr k from (by unfold f_tear; first | rw [if_neg (by omega)] | rw [if_pos (by omega)])) ?_
    exact aw_iret S hr hlk ha hQ hAe hw dX11_back_31 rfl (Nat.le_of_ble_eq_true rfl) (Nat.le_of_ble_eq_true rfl) ⟨rfl, rfl⟩
  · rw [l64, l64_0, l64, e1] at c11
    refine lv_bipush (v := (-2)) S.1 S.2.1 dX11_back_14 (by decide) ?_
    have hw := Eq.mp (congrArg (fun z_ : Nat => bW G A s.heap [[(am 31, mdO am fl n lw nn ra rsn z_ tr)]] H locs) (show (nr : Nat) = f_tearT nr k from by unfold f_tearT; first | rw [if_neg (by omega)] | rw [if_pos (by omega)])) hw
    refine aw_eqi (show ((-2) : Int32) = f_tear nr k from (by unfold f_tear; first | rw [if_neg (by omega)] | rw [if_pos (by omega)])) ?_
    exact aw_iret S hr hlk ha hQ hAe hw dX11_back_16 rfl (Nat.le_of_ble_eq_true rfl) (Nat.le_of_ble_eq_true rfl) ⟨rfl, rfl⟩
set_option maxRecDepth 100000 in
set_option maxHeartbeats 4000000 in
theorem c_X11_awake (l : Launch) (G : aw_G) (am : Nat → Nat) (fl : Int32) (n : Nat) (lw : Int32) (nn ra rsn nr : Nat) (tr : Int32) (tu : Nat → Int32) (mo : Int32) (hn : n ≤ 6) : CT l G yX11_awake wsX11_awake ({ frames := 2, cells := 0, slots := 0, locals := 45 }) [.ref (am 31), .int mo] [[(am 31, mdO am fl n lw nn ra rsn nr tr)], [(am 5, .inl (gI G, 12, .inl tu))]] (dt (some (.int (f_awake n tu mo))) [[(am 31, mdO am fl n lw nn ra rsn nr tr)], [(am 5, .inl (gI G, 12, .inl tu))]]) := by
  refine CT.of (cc := cX11_awake) (nL := 2) (ret := (some .int)) (by decide) rfl (Nat.le_of_ble_eq_true rfl) ?_
  intro p e s m below meth c R args Q A hRm ha hQ hAe hA S hE hr hlk hnm H locs hH0 hL0 ls hl hw
  have S : CallFix p m c cX11_awake 2 s args wsX11_awake RX11 := S
  have hl : lv_has ls 2 [(0, .ref (am 31)), (1, .int mo)] := hl
  have hinX11 : ∀ w ∈ u_ws RX11 TX11 31, w ∈ wsX11_awake := by decide +kernel
  have hf90 := S.2.2.2.2 (.fieldLink RX11 90 "AwakeTurnsModel" "sleepers" "I") (by decide +kernel)
  have hf19 := S.2.2.2.2 (.fieldLink RX11 19 "AwakeTurnsModel" "upIn" "[I") (by decide +kernel)
  refine lv_iload_n S.1 S.2.1 dX11_awake_0 rfl (lv_at hl 1 rfl) ?_
  refine aw_callS S hE (c_X11_isMonth l G mo) gX11_awake_X11_isMonth (n := 1) rfl (by decide +kernel) rfl (by rw [hRm]; exact ⟨Nat.le_of_ble_eq_true rfl, Nat.le_of_ble_eq_true rfl⟩) (by rw [hRm]; exact ⟨Nat.le_of_ble_eq_true rfl, Nat.le_of_ble_eq_true rfl⟩) hw hA hl.1 [] rfl rfl rfl (Nat.le_of_ble_eq_true rfl) dX11_awake_1 ?_
  rintro v w1 H locs ⟨rfl, rfl⟩ hw
  have hw : bW G A s.heap [[(am 31, mdO am fl n lw nn ra rsn nr tr)], [(am 5, .inl (gI G, 12, .inl tu))]] H locs := hw
  refine W.eq (g2 := (F0 m 4 ls [.int (if 0 ≤ mo.toInt ∧ mo.toInt < 12 then 1 else 0)])) rfl ?_
  refine aw_ifne (P := 0 ≤ mo.toInt ∧ mo.toInt < 12) (tgt := 10) S dX11_awake_4 (by decide) (fun c4 => ?_) (fun c4 => ?_)
  · have hb_mo : tn mo < 12 := aw_tnL c4
    have hl := Eq.mp (congrArg (fun z_ : Int32 => lv_has ls 2 [(0, .ref (am 31)), (1, .int z_)]) (show (mo : Int32) = nI (tn mo) from (aw_tnE c4))) hl
    have hl : lv_has ls 2 [(0, .ref (am 31)), (1, .int (nI (tn mo)))] := hl
    refine lv_aload_n S.1 S.2.1 dX11_awake_10 rfl (lv_at hl 0 rfl) ?_
    refine aw_get S hE hw 0 (C := RX11) (T := TX11) (N := 31) rfl rfl hinX11 1 (by decide) hf90 rfl dX11_awake_11 ?_
    refine aw_ifN_ne (x := n) (tgt := 22) S (by omega) dX11_awake_14 (by decide) (fun c14 => ?_) (fun c14 => ?_)
    · refine lv_aload_n S.1 S.2.1 dX11_awake_22 rfl (lv_at hl 0 rfl) ?_
      refine aw_get S hE hw 0 (C := RX11) (T := TX11) (N := 31) rfl rfl hinX11 5 (by decide) hf19 rfl dX11_awake_23 ?_
      refine lv_iload_n S.1 S.2.1 dX11_awake_26 rfl (lv_at hl 1 rfl) ?_
      refine aw_iald S hE hw 1 (k := (tn mo)) rfl (by omega) (by decide) dX11_awake_27 ?_
      refine aw_eqi (show (tu (tn mo) : Int32) = f_awake n tu mo from (by simp [f_awake, c4, c14])) ?_
      exact aw_iret S hr hlk ha hQ hAe hw dX11_awake_28 rfl (Nat.le_of_ble_eq_true rfl) (Nat.le_of_ble_eq_true rfl) ⟨rfl, rfl⟩
    · refine lv_bipush (v := (-3)) S.1 S.2.1 dX11_awake_17 (by decide) ?_
      refine lv_goto (tgt := 28) S.1 S.2.1 dX11_awake_19 (by decide) ?_
      refine aw_eqi (show ((-3) : Int32) = f_awake n tu mo from (by simp [f_awake, c4, c14])) ?_
      exact aw_iret S hr hlk ha hQ hAe hw dX11_awake_28 rfl (Nat.le_of_ble_eq_true rfl) (Nat.le_of_ble_eq_true rfl) ⟨rfl, rfl⟩
  · refine lv_bipush (v := (-2)) S.1 S.2.1 dX11_awake_7 (by decide) ?_
    refine aw_eqi (show ((-2) : Int32) = f_awake n tu mo from (by simp [f_awake, c4])) ?_
    exact aw_iret S hr hlk ha hQ hAe hw dX11_awake_9 rfl (Nat.le_of_ble_eq_true rfl) (Nat.le_of_ble_eq_true rfl) ⟨rfl, rfl⟩
set_option maxRecDepth 100000 in
set_option maxHeartbeats 4000000 in
theorem c_X11_many (l : Launch) (G : aw_G) (am : Nat → Nat) (fl : Int32) (n : Nat) (lw : Int32) (nn ra rsn nr : Nat) (tr : Int32) (wt : Int32)  : CT l G yX11_many wsX11_many ({ frames := 0, cells := 0, slots := 0, locals := 0 }) [.ref (am 31), .int wt] [[(am 31, mdO am fl n lw nn ra rsn nr tr)]] (dt (some (.int (f_many n nn nr lw wt))) [[(am 31, mdO am fl n lw nn ra rsn nr tr)]]) := by
  refine CT.of (cc := cX11_many) (nL := 2) (ret := (some .int)) (by decide) rfl (Nat.le_of_ble_eq_true rfl) ?_
  intro p e s m below meth c R args Q A hRm ha hQ hAe hA S hE hr hlk hnm H locs hH0 hL0 ls hl hw
  have S : CallFix p m c cX11_many 2 s args wsX11_many RX11 := S
  have hl : lv_has ls 2 [(0, .ref (am 31)), (1, .int wt)] := hl
  have hinX11 : ∀ w ∈ u_ws RX11 TX11 31, w ∈ wsX11_many := by decide +kernel
  have hf90 := S.2.2.2.2 (.fieldLink RX11 90 "AwakeTurnsModel" "sleepers" "I") (by decide +kernel)
  have hf144 := S.2.2.2.2 (.fieldLink RX11 144 "AwakeTurnsModel" "notes" "I") (by decide +kernel)
  have hf147 := S.2.2.2.2 (.fieldLink RX11 147 "AwakeTurnsModel" "readings" "I") (by decide +kernel)
  have hf141 := S.2.2.2.2 (.fieldLink RX11 141 "AwakeTurnsModel" "lawNow" "I") (by decide +kernel)
  refine lv_iload_n S.1 S.2.1 dX11_many_0 rfl (lv_at hl 1 rfl) ?_
  by_cases c1_0 : wt = 0
  · refine lv_tableIn (off := 31) (tgt := 32) S.1 S.2.1 dX11_many_1 (by rw [c1_0]; decide) (by rw [c1_0]; decide) (by rw [c1_0]; rfl) (by decide) ?_
    refine lv_aload_n S.1 S.2.1 dX11_many_32 rfl (lv_at hl 0 rfl) ?_
    refine aw_get S hE hw 0 (C := RX11) (T := TX11) (N := 31) rfl rfl hinX11 1 (by decide) hf90 rfl dX11_many_33 ?_
    refine aw_eqi (show (nI n : Int32) = f_many n nn nr lw wt from (by simp [f_many, c1_0])) ?_
    exact aw_iret S hr hlk ha hQ hAe hw dX11_many_36 rfl (Nat.le_of_ble_eq_true rfl) (Nat.le_of_ble_eq_true rfl) ⟨rfl, rfl⟩
  · by_cases c1_1 : wt = 1
    · refine lv_tableIn (off := 36) (tgt := 37) S.1 S.2.1 dX11_many_1 (by rw [c1_1]; decide) (by rw [c1_1]; decide) (by rw [c1_1]; rfl) (by decide) ?_
      refine lv_aload_n S.1 S.2.1 dX11_many_37 rfl (lv_at hl 0 rfl) ?_
      refine aw_get S hE hw 0 (C := RX11) (T := TX11) (N := 31) rfl rfl hinX11 8 (by decide) hf144 rfl dX11_many_38 ?_
      refine aw_eqi (show (nI nn : Int32) = f_many n nn nr lw wt from (by simp [f_many, c1_0, c1_1])) ?_
      exact aw_iret S hr hlk ha hQ hAe hw dX11_many_41 rfl (Nat.le_of_ble_eq_true rfl) (Nat.le_of_ble_eq_true rfl) ⟨rfl, rfl⟩
    · by_cases c1_2 : wt = 2
      · refine lv_tableIn (off := 41) (tgt := 42) S.1 S.2.1 dX11_many_1 (by rw [c1_2]; decide) (by rw [c1_2]; decide) (by rw [c1_2]; rfl) (by decide) ?_
        refine lv_aload_n S.1 S.2.1 dX11_many_42 rfl (lv_at hl 0 rfl) ?_
        refine aw_get S hE hw 0 (C := RX11) (T := TX11) (N := 31) rfl rfl hinX11 22 (by decide) hf147 rfl dX11_many_43 ?_
        refine aw_eqi (show (nI nr : Int32) = f_many n nn nr lw wt from (by simp [f_many, c1_0, c1_1, c1_2])) ?_
        exact aw_iret S hr hlk ha hQ hAe hw dX11_many_46 rfl (Nat.le_of_ble_eq_true rfl) (Nat.le_of_ble_eq_true rfl) ⟨rfl, rfl⟩
      · by_cases c1_3 : wt = 3
        · refine lv_tableIn (off := 46) (tgt := 47) S.1 S.2.1 dX11_many_1 (by rw [c1_3]; decide) (by rw [c1_3]; decide) (by rw [c1_3]; rfl) (by decide) ?_
          refine lv_aload_n S.1 S.2.1 dX11_many_47 rfl (lv_at hl 0 rfl) ?_
          refine aw_get S hE hw 0 (C := RX11) (T := TX11) (N := 31) rfl rfl hinX11 7 (by decide) hf141 rfl dX11_many_48 ?_
          refine aw_eqi (show (lw : Int32) = f_many n nn nr lw wt from (by simp [f_many, c1_0, c1_1, c1_2, c1_3])) ?_
          exact aw_iret S hr hlk ha hQ hAe hw dX11_many_51 rfl (Nat.le_of_ble_eq_true rfl) (Nat.le_of_ble_eq_true rfl) ⟨rfl, rfl⟩
        · refine lv_tableOut (tgt := 52) S.1 S.2.1 dX11_many_1 (by have := lv_neT (k := 0) (a := 0) c1_0 rfl; have := lv_neT (k := 1) (a := 1) c1_1 rfl; have := lv_neT (k := 2) (a := 2) c1_2 rfl; have := lv_neT (k := 3) (a := 3) c1_3 rfl; omega) (by decide) ?_
          refine lv_bipush (v := (-2)) S.1 S.2.1 dX11_many_52 (by decide) ?_
          refine aw_eqi (show ((-2) : Int32) = f_many n nn nr lw wt from (by simp [f_many, c1_0, c1_1, c1_2, c1_3])) ?_
          exact aw_iret S hr hlk ha hQ hAe hw dX11_many_54 rfl (Nat.le_of_ble_eq_true rfl) (Nat.le_of_ble_eq_true rfl) ⟨rfl, rfl⟩
set_option maxRecDepth 100000 in
set_option maxHeartbeats 4000000 in
theorem c_X11_trace (l : Launch) (G : aw_G) (am : Nat → Nat) (fl : Int32) (n : Nat) (lw : Int32) (nn ra rsn nr : Nat) (tr : Int32)  : CT l G yX11_trace wsX11_trace ({ frames := 0, cells := 0, slots := 0, locals := 0 }) [.ref (am 31)] [[(am 31, mdO am fl n lw nn ra rsn nr tr)]] (dt (some (.int tr)) [[(am 31, mdO am fl n lw nn ra rsn nr tr)]]) := by
  refine CT.of (cc := cX11_trace) (nL := 1) (ret := (some .int)) (by decide) rfl (Nat.le_of_ble_eq_true rfl) ?_
  intro p e s m below meth c R args Q A hRm ha hQ hAe hA S hE hr hlk hnm H locs hH0 hL0 ls hl hw
  have S : CallFix p m c cX11_trace 1 s args wsX11_trace RX11 := S
  have hl : lv_has ls 1 [(0, .ref (am 31))] := hl
  have hinX11 : ∀ w ∈ u_ws RX11 TX11 31, w ∈ wsX11_trace := by decide +kernel
  have hf234 := S.2.2.2.2 (.fieldLink RX11 234 "AwakeTurnsModel" "traceNow" "I") (by decide +kernel)
  refine lv_aload_n S.1 S.2.1 dX11_trace_0 rfl (lv_at hl 0 rfl) ?_
  refine aw_get S hE hw 0 (C := RX11) (T := TX11) (N := 31) rfl rfl hinX11 30 (by decide) hf234 rfl dX11_trace_1 ?_
  exact aw_iret S hr hlk ha hQ hAe hw dX11_trace_4 rfl (Nat.le_of_ble_eq_true rfl) (Nat.le_of_ble_eq_true rfl) ⟨rfl, rfl⟩
set_option maxRecDepth 100000 in
set_option maxHeartbeats 4000000 in
theorem c_X11_fault (l : Launch) (G : aw_G) (am : Nat → Nat) (fl : Int32) (n : Nat) (lw : Int32) (nn ra rsn nr : Nat) (tr : Int32)  : CT l G yX11_fault wsX11_fault ({ frames := 0, cells := 0, slots := 0, locals := 0 }) [.ref (am 31)] [[(am 31, mdO am fl n lw nn ra rsn nr tr)]] (dt (some (.int fl)) [[(am 31, mdO am fl n lw nn ra rsn nr tr)]]) := by
  refine CT.of (cc := cX11_fault) (nL := 1) (ret := (some .int)) (by decide) rfl (Nat.le_of_ble_eq_true rfl) ?_
  intro p e s m below meth c R args Q A hRm ha hQ hAe hA S hE hr hlk hnm H locs hH0 hL0 ls hl hw
  have S : CallFix p m c cX11_fault 1 s args wsX11_fault RX11 := S
  have hl : lv_has ls 1 [(0, .ref (am 31))] := hl
  have hinX11 : ∀ w ∈ u_ws RX11 TX11 31, w ∈ wsX11_fault := by decide +kernel
  have hf82 := S.2.2.2.2 (.fieldLink RX11 82 "AwakeTurnsModel" "fault" "I") (by decide +kernel)
  refine lv_aload_n S.1 S.2.1 dX11_fault_0 rfl (lv_at hl 0 rfl) ?_
  refine aw_get S hE hw 0 (C := RX11) (T := TX11) (N := 31) rfl rfl hinX11 0 (by decide) hf82 rfl dX11_fault_1 ?_
  exact aw_iret S hr hlk ha hQ hAe hw dX11_fault_4 rfl (Nat.le_of_ble_eq_true rfl) (Nat.le_of_ble_eq_true rfl) ⟨rfl, rfl⟩
set_option maxRecDepth 100000 in
set_option maxHeartbeats 4000000 in
theorem c_X11_meanTold (l : Launch) (G : aw_G) (am : Nat → Nat) (fl : Int32) (n : Nat) (lw : Int32) (nn ra rsn nr : Nat) (tr : Int32) (tu me : Nat → Int32)  : CT l G yX11_meanTold wsX11_meanTold ({ frames := 0, cells := 0, slots := 0, locals := 0 }) [.ref (am 31)] [[(am 31, mdO am fl n lw nn ra rsn nr tr)], [(am 5, .inl (gI G, 12, .inl tu))], [(am 16, .inl (gI G, 12, .inl me))]] (dt none [[(am 31, mdO am fl n lw nn ra rsn nr tr)], [(am 5, .inl (gI G, 12, .inl tu))], [(am 16, .inl (gI G, 12, .inl tu))]]) := by
  refine CT.of (cc := cX11_meanTold) (nL := 2) (ret := none) (by decide) rfl (Nat.le_of_ble_eq_true rfl) ?_
  intro p e s m below meth c R args Q A hRm ha hQ hAe hA S hE hr hlk hnm H locs hH0 hL0 ls hl hw
  have S : CallFix p m c cX11_meanTold 2 s args wsX11_meanTold RX11 := S
  have hl : lv_has ls 2 [(0, .ref (am 31))] := hl
  have hinX11 : ∀ w ∈ u_ws RX11 TX11 31, w ∈ wsX11_meanTold := by decide +kernel
  have hf40 := S.2.2.2.2 (.fieldLink RX11 40 "AwakeTurnsModel" "meant" "[I") (by decide +kernel)
  have hf19 := S.2.2.2.2 (.fieldLink RX11 19 "AwakeTurnsModel" "upIn" "[I") (by decide +kernel)
  refine lv_iconst (v := 0) S.1 S.2.1 dX11_meanTold_0 (by decide) ?_
  refine lv_istore_n (lv' := [(1, .int 0), (0, .ref (am 31))]) S.1 S.2.1 dX11_meanTold_1 rfl hl (by decide) rfl (fun ls hl => ?_)
  have hw := aw_arr hw 2 rfl (fa_fill tu me 0) (fun _ _ => by rw [fa_fill_0])
  have hw : bW G A s.heap [[(am 31, mdO am fl n lw nn ra rsn nr tr)], [(am 5, .inl (gI G, 12, .inl tu))], [(am 16, .inl (gI G, 12, .inl (fa_fill tu me 0)))]] H locs := hw
  have loop2 : ∀ (fu : Nat) (i : Nat), (i ≤ 12) → (12 - i) < fu → ∀ (ls : Array Slot) (H : Heap) (locs : List Loc), lv_has ls 2 [(0, .ref (am 31)), (1, .int (nI i))] → bW G A s.heap [[(am 31, mdO am fl n lw nn ra rsn nr tr)], [(am 5, .inl (gI G, 12, .inl tu))], [(am 16, .inl (gI G, 12, .inl (fa_fill tu me i)))]] H locs → W p l e R s m args below meth c H locs 0 0 Q (F0 m 2 ls []) := by
    intro fu
    induction fu with
    | zero => intro i _ hm; exact absurd hm (Nat.not_lt_zero _)
    | succ fu ih2 =>
      intro i hi hm ls H locs hl hw
      refine lv_iload_n S.1 S.2.1 dX11_meanTold_2 rfl (lv_at hl 1 rfl) ?_
      refine lv_bipush (v := 12) S.1 S.2.1 dX11_meanTold_3 (by decide) ?_
      refine aw_icmpN_ge (x := i) (y := 12) (tgt := 26) S (by omega) (by omega) dX11_meanTold_5 (by decide) (fun c5 => ?_) (fun c5 => ?_)
      · have ex_i : i = 12 := by omega
        try rw [ex_i] at hl
        try rw [ex_i] at hw
        have hw := aw_arr hw 2 rfl tu (fun j hj => by rw [fa_fill_in hj])
        have hw : bW G A s.heap [[(am 31, mdO am fl n lw nn ra rsn nr tr)], [(am 5, .inl (gI G, 12, .inl tu))], [(am 16, .inl (gI G, 12, .inl tu))]] H locs := hw
        exact aw_vret S hr hlk ha hQ hAe hw dX11_meanTold_26 (Nat.le_of_ble_eq_true rfl) (Nat.le_of_ble_eq_true rfl) ⟨rfl, rfl⟩
      · refine lv_aload_n S.1 S.2.1 dX11_meanTold_8 rfl (lv_at hl 0 rfl) ?_
        refine aw_get S hE hw 0 (C := RX11) (T := TX11) (N := 31) rfl rfl hinX11 16 (by decide) hf40 rfl dX11_meanTold_9 ?_
        refine lv_iload_n S.1 S.2.1 dX11_meanTold_12 rfl (lv_at hl 1 rfl) ?_
        refine lv_aload_n S.1 S.2.1 dX11_meanTold_13 rfl (lv_at hl 0 rfl) ?_
        refine aw_get S hE hw 0 (C := RX11) (T := TX11) (N := 31) rfl rfl hinX11 5 (by decide) hf19 rfl dX11_meanTold_14 ?_
        refine lv_iload_n S.1 S.2.1 dX11_meanTold_17 rfl (lv_at hl 1 rfl) ?_
        refine aw_iald S hE hw 1 (k := i) rfl (by omega) (by decide) dX11_meanTold_18 ?_
        refine aw_iast S hE hw 2 (k := i) rfl (by omega) (by decide) dX11_meanTold_19 (fun H locs hw => ?_)
        have hw : bW G A s.heap [[(am 31, mdO am fl n lw nn ra rsn nr tr)], [(am 5, .inl (gI G, 12, .inl tu))], [(am 16, .inl (gI G, 12, .inl (upd (fa_fill tu me i) i (tu i))))]] H locs := hw
        refine lv_iinc (v := nI (i + 1)) (lv' := [(1, .int (nI (i + 1))), (0, .ref (am 31))]) S.1 S.2.1 dX11_meanTold_20 hl (k := 1) rfl (by first | exact nI_1 _ | exact nI_add _ _ | rfl) (by decide) rfl (fun ls hl => ?_)
        refine lv_goto (tgt := 2) S.1 S.2.1 dX11_meanTold_23 (by decide) ?_
        have hw := aw_arr hw 2 rfl (fa_fill tu me (i + 1)) (fun _ _ => by rw [← fa_fill_succ])
        have hw : bW G A s.heap [[(am 31, mdO am fl n lw nn ra rsn nr tr)], [(am 5, .inl (gI G, 12, .inl tu))], [(am 16, .inl (gI G, 12, .inl (fa_fill tu me (i + 1))))]] H locs := hw
        exact ih2 (i + 1) (by first | assumption | omega) (by omega) _ _ _ (lv_sub hl [1, 0] rfl) hw
  exact loop2 _ 0 (by first | assumption | omega) (Nat.lt_succ_self _) _ _ _ (lv_sub hl [1, 0] rfl) hw
set_option maxRecDepth 100000 in
set_option maxHeartbeats 4000000 in
theorem c_X11_togetherIn (l : Launch) (G : aw_G) (am : Nat → Nat) (fl : Int32) (n : Nat) (lw : Int32) (nn ra rsn nr : Nat) (tr : Int32) (me cn : Nat → Int32) (mo : Nat) (hn : n ≤ 6) (hmo : mo < 12) : CT l G yX11_togetherIn wsX11_togetherIn ({ frames := 1, cells := 0, slots := 0, locals := 21 }) [.ref (am 31), .int (nI mo)] [[(am 31, mdO am fl n lw nn ra rsn nr tr)], [(am 16, .inl (gI G, 12, .inl me))], [(am 17, .inl (gI G, 72, .inl cn))]] (dt (some (.int (tgF (me mo) (fun s => cn (6 * mo + s)) n))) [[(am 31, mdO am fl n lw nn ra rsn nr tr)], [(am 16, .inl (gI G, 12, .inl me))], [(am 17, .inl (gI G, 72, .inl cn))]]) := by
  refine CT.of (cc := cX11_togetherIn) (nL := 4) (ret := (some .int)) (by decide) rfl (Nat.le_of_ble_eq_true rfl) ?_
  intro p e s m below meth c R args Q A hRm ha hQ hAe hA S hE hr hlk hnm H locs hH0 hL0 ls hl hw
  have S : CallFix p m c cX11_togetherIn 4 s args wsX11_togetherIn RX11 := S
  have hl : lv_has ls 4 [(0, .ref (am 31)), (1, .int (nI mo))] := hl
  have hinX11 : ∀ w ∈ u_ws RX11 TX11 31, w ∈ wsX11_togetherIn := by decide +kernel
  have hf90 := S.2.2.2.2 (.fieldLink RX11 90 "AwakeTurnsModel" "sleepers" "I") (by decide +kernel)
  have hf40 := S.2.2.2.2 (.fieldLink RX11 40 "AwakeTurnsModel" "meant" "[I") (by decide +kernel)
  have hf43 := S.2.2.2.2 (.fieldLink RX11 43 "AwakeTurnsModel" "canIn" "[I") (by decide +kernel)
  refine lv_iconst (v := 0) S.1 S.2.1 dX11_togetherIn_0 (by decide) ?_
  refine lv_istore_n (lv' := [(2, .int 0), (0, .ref (am 31)), (1, .int (nI mo))]) S.1 S.2.1 dX11_togetherIn_1 rfl hl (by decide) rfl (fun ls hl => ?_)
  refine lv_iconst (v := 0) S.1 S.2.1 dX11_togetherIn_2 (by decide) ?_
  refine lv_istore_n (lv' := [(3, .int 0), (2, .int 0), (0, .ref (am 31)), (1, .int (nI mo))]) S.1 S.2.1 dX11_togetherIn_3 rfl hl (by decide) rfl (fun ls hl => ?_)
  have loop4 : ∀ (fu : Nat) (i : Nat), (i ≤ n) → (n - i) < fu → ∀ (ls : Array Slot) (H : Heap) (locs : List Loc), lv_has ls 4 [(0, .ref (am 31)), (1, .int (nI mo)), (2, .int (tgF (me mo) (fun s => cn (6 * mo + s)) i)), (3, .int (nI i))] → bW G A s.heap [[(am 31, mdO am fl n lw nn ra rsn nr tr)], [(am 16, .inl (gI G, 12, .inl me))], [(am 17, .inl (gI G, 72, .inl cn))]] H locs → W p l e R s m args below meth c H locs 0 0 Q (F0 m 4 ls []) := by
    intro fu
    induction fu with
    | zero => intro i _ hm; exact absurd hm (Nat.not_lt_zero _)
    | succ fu ih4 =>
      intro i hi hm ls H locs hl hw
      refine lv_iload_n S.1 S.2.1 dX11_togetherIn_4 rfl (lv_at hl 3 rfl) ?_
      refine lv_aload_n S.1 S.2.1 dX11_togetherIn_5 rfl (lv_at hl 0 rfl) ?_
      refine aw_get S hE hw 0 (C := RX11) (T := TX11) (N := 31) rfl rfl hinX11 1 (by decide) hf90 rfl dX11_togetherIn_6 ?_
      refine aw_icmpN_ge (x := i) (y := n) (tgt := 49) S (by omega) (by omega) dX11_togetherIn_9 (by decide) (fun c9 => ?_) (fun c9 => ?_)
      · have ex_i : i = n := by omega
        try rw [ex_i] at hl
        try rw [ex_i] at hw
        refine lv_iload_n S.1 S.2.1 dX11_togetherIn_49 rfl (lv_at hl 2 rfl) ?_
        exact aw_iret S hr hlk ha hQ hAe hw dX11_togetherIn_50 rfl (Nat.le_of_ble_eq_true rfl) (Nat.le_of_ble_eq_true rfl) ⟨rfl, rfl⟩
      · refine lv_iload_n S.1 S.2.1 dX11_togetherIn_12 rfl (lv_at hl 2 rfl) ?_
        refine lv_aload_n S.1 S.2.1 dX11_togetherIn_13 rfl (lv_at hl 0 rfl) ?_
        refine aw_get S hE hw 0 (C := RX11) (T := TX11) (N := 31) rfl rfl hinX11 16 (by decide) hf40 rfl dX11_togetherIn_14 ?_
        refine lv_iload_n S.1 S.2.1 dX11_togetherIn_17 rfl (lv_at hl 1 rfl) ?_
        refine aw_iald S hE hw 1 (k := mo) rfl (by omega) (by decide) dX11_togetherIn_18 ?_
        refine lv_iload_n S.1 S.2.1 dX11_togetherIn_19 rfl (lv_at hl 3 rfl) ?_
        refine aw_callS S hE (c_X11_isIn l G (me mo) i (by first | assumption | omega)) gX11_togetherIn_X11_isIn (n := 2) rfl (by decide +kernel) rfl (by rw [hRm]; exact ⟨Nat.le_of_ble_eq_true rfl, Nat.le_of_ble_eq_true rfl⟩) (by rw [hRm]; exact ⟨Nat.le_of_ble_eq_true rfl, Nat.le_of_ble_eq_true rfl⟩) hw hA hl.1 [] rfl rfl rfl (Nat.le_of_ble_eq_true rfl) dX11_togetherIn_20 ?_
        rintro v w1 H locs ⟨rfl, rfl⟩ hw
        have hw : bW G A s.heap [[(am 31, mdO am fl n lw nn ra rsn nr tr)], [(am 16, .inl (gI G, 12, .inl me))], [(am 17, .inl (gI G, 72, .inl cn))]] H locs := hw
        refine W.eq (g2 := (F0 m 23 ls [.int (if bt (me mo) i = true then 1 else 0), .int (tgF (me mo) (fun s => cn (6 * mo + s)) i)])) rfl ?_
        have join41 : ∀ (H : Heap) (locs : List Loc), ∀ (ls : Array Slot), lv_has ls 4 [(0, .ref (am 31)), (1, .int (nI mo)), (2, .int (tgF (me mo) (fun s => cn (6 * mo + s)) i)), (3, .int (nI i))] → bW G A s.heap [[(am 31, mdO am fl n lw nn ra rsn nr tr)], [(am 16, .inl (gI G, 12, .inl me))], [(am 17, .inl (gI G, 72, .inl cn))]] H locs → W p l e R s m args below meth c H locs 0 0 Q (F0 m 41 ls [.int (if bt (me mo) i = true then cn (6 * mo + i) else 0), .int (tgF (me mo) (fun s => cn (6 * mo + s)) i)]) := by
          intro  H locs ls hl hw
          refine lv_ior S.1 S.2.1 dX11_togetherIn_41 ?_
          refine aw_eqi (show ((tgF (me mo) (fun s => cn (6 * mo + s)) i) ||| (if bt (me mo) i = true then cn (6 * mo + i) else 0) : Int32) = tgF (me mo) (fun s => cn (6 * mo + s)) (i + 1) from (or_if _ _)) ?_
          refine lv_istore_n (lv' := [(2, .int (tgF (me mo) (fun s => cn (6 * mo + s)) (i + 1))), (0, .ref (am 31)), (1, .int (nI mo)), (3, .int (nI i))]) S.1 S.2.1 dX11_togetherIn_42 rfl hl (by decide) rfl (fun ls hl => ?_)
          refine lv_iinc (v := nI (i + 1)) (lv' := [(3, .int (nI (i + 1))), (2, .int (tgF (me mo) (fun s => cn (6 * mo + s)) (i + 1))), (0, .ref (am 31)), (1, .int (nI mo))]) S.1 S.2.1 dX11_togetherIn_43 hl (k := 3) rfl (by first | exact nI_1 _ | exact nI_add _ _ | rfl) (by decide) rfl (fun ls hl => ?_)
          refine lv_goto (tgt := 4) S.1 S.2.1 dX11_togetherIn_46 (by decide) ?_
          exact ih4 (i + 1) (by first | assumption | omega) (by omega) _ _ _ (lv_sub hl [2, 3, 1, 0] rfl) hw
        refine aw_ifeq (P := bt (me mo) i = true) (tgt := 40) S dX11_togetherIn_23 (by decide) (fun c23 => ?_) (fun c23 => ?_)
        · refine lv_iconst (v := 0) S.1 S.2.1 dX11_togetherIn_40 (by decide) ?_
          refine aw_eqi (show (0 : Int32) = if bt (me mo) i = true then cn (6 * mo + i) else 0 from (by first | rw [if_pos c23] | rw [if_neg c23])) ?_
          exact join41  _ _ _ (lv_sub hl [0, 1, 2, 3] rfl) hw
        · refine lv_aload_n S.1 S.2.1 dX11_togetherIn_26 rfl (lv_at hl 0 rfl) ?_
          refine aw_get S hE hw 0 (C := RX11) (T := TX11) (N := 31) rfl rfl hinX11 17 (by decide) hf43 rfl dX11_togetherIn_27 ?_
          refine lv_bipush (v := 6) S.1 S.2.1 dX11_togetherIn_30 (by decide) ?_
          refine lv_iload_n S.1 S.2.1 dX11_togetherIn_32 rfl (lv_at hl 1 rfl) ?_
          refine lv_imul S.1 S.2.1 dX11_togetherIn_33 ?_
          refine aw_eqi (show (6 * (nI mo) : Int32) = nI (6 * mo) from (pk_mul 6 mo)) ?_
          refine lv_iload_n S.1 S.2.1 dX11_togetherIn_34 rfl (lv_at hl 3 rfl) ?_
          refine lv_iadd S.1 S.2.1 dX11_togetherIn_35 ?_
          refine aw_eqi (show ((nI (6 * mo)) + (nI i) : Int32) = nI ((6 * mo) + i) from (nI_add (6 * mo) i)) ?_
          refine aw_iald S hE hw 2 (k := ((6 * mo) + i)) rfl (by omega) (by decide) dX11_togetherIn_36 ?_
          refine lv_goto (tgt := 41) S.1 S.2.1 dX11_togetherIn_37 (by decide) ?_
          refine aw_eqi (show (cn ((6 * mo) + i) : Int32) = if bt (me mo) i = true then cn (6 * mo + i) else 0 from (by first | rw [if_pos c23] | rw [if_neg c23])) ?_
          exact join41  _ _ _ (lv_sub hl [0, 1, 2, 3] rfl) hw
  exact loop4 _ 0 (by first | assumption | omega) (Nat.lt_succ_self _) _ _ _ (lv_sub hl [2, 3, 1, 0] rfl) hw
set_option maxRecDepth 100000 in
set_option maxHeartbeats 4000000 in
theorem c_X11_isThawed (l : Launch) (G : aw_G) (am : Nat → Nat) (fl : Int32) (n : Nat) (lw : Int32) (nn ra rsn nr : Nat) (tr : Int32) (me : Nat → Int32) (sv mo : Nat) (hs : sv < 6) (hmo : mo < 12) : CT l G yX11_isThawed wsX11_isThawed ({ frames := 1, cells := 0, slots := 0, locals := 21 }) [.ref (am 31), .int (nI sv), .int (nI mo)] [[(am 31, mdO am fl n lw nn ra rsn nr tr)], [(am 16, .inl (gI G, 12, .inl me))]] (dt (some (.int (if thwP me sv mo then 1 else 0))) [[(am 31, mdO am fl n lw nn ra rsn nr tr)], [(am 16, .inl (gI G, 12, .inl me))]]) := by
  refine CT.of (cc := cX11_isThawed) (nL := 3) (ret := (some .boolean)) (by decide) rfl (Nat.le_of_ble_eq_true rfl) ?_
  intro p e s m below meth c R args Q A hRm ha hQ hAe hA S hE hr hlk hnm H locs hH0 hL0 ls hl hw
  have S : CallFix p m c cX11_isThawed 3 s args wsX11_isThawed RX11 := S
  have hl : lv_has ls 3 [(0, .ref (am 31)), (1, .int (nI sv)), (2, .int (nI mo))] := hl
  have hinX11 : ∀ w ∈ u_ws RX11 TX11 31, w ∈ wsX11_isThawed := by decide +kernel
  have hf40 := S.2.2.2.2 (.fieldLink RX11 40 "AwakeTurnsModel" "meant" "[I") (by decide +kernel)
  refine lv_aload_n S.1 S.2.1 dX11_isThawed_0 rfl (lv_at hl 0 rfl) ?_
  refine aw_get S hE hw 0 (C := RX11) (T := TX11) (N := 31) rfl rfl hinX11 16 (by decide) hf40 rfl dX11_isThawed_1 ?_
  refine lv_iload_n S.1 S.2.1 dX11_isThawed_4 rfl (lv_at hl 2 rfl) ?_
  refine aw_iald S hE hw 1 (k := mo) rfl (by omega) (by decide) dX11_isThawed_5 ?_
  refine lv_iload_n S.1 S.2.1 dX11_isThawed_6 rfl (lv_at hl 1 rfl) ?_
  refine aw_callS S hE (c_X11_isIn l G (me mo) sv (by first | assumption | omega)) gX11_isThawed_X11_isIn (n := 2) rfl (by decide +kernel) rfl (by rw [hRm]; exact ⟨Nat.le_of_ble_eq_true rfl, Nat.le_of_ble_eq_true rfl⟩) (by rw [hRm]; exact ⟨Nat.le_of_ble_eq_true rfl, Nat.le_of_ble_eq_true rfl⟩) hw hA hl.1 [] rfl rfl rfl (Nat.le_of_ble_eq_true rfl) dX11_isThawed_7 ?_
  rintro v w1 H locs ⟨rfl, rfl⟩ hw
  have hw : bW G A s.heap [[(am 31, mdO am fl n lw nn ra rsn nr tr)], [(am 16, .inl (gI G, 12, .inl me))]] H locs := hw
  refine W.eq (g2 := (F0 m 10 ls [.int (if bt (me mo) sv = true then 1 else 0)])) rfl ?_
  refine aw_ifeq (P := bt (me mo) sv = true) (tgt := 36) S dX11_isThawed_10 (by decide) (fun c10 => ?_) (fun c10 => ?_)
  · refine lv_iconst (v := 0) S.1 S.2.1 dX11_isThawed_36 (by decide) ?_
    refine aw_eqi (show (0 : Int32) = if thwP me sv mo then 1 else 0 from (by rw [if_neg (fun q => c10 q.1)])) ?_
    exact aw_iret S hr hlk ha hQ hAe hw dX11_isThawed_37 (aw_nb _) (Nat.le_of_ble_eq_true rfl) (Nat.le_of_ble_eq_true rfl) ⟨rfl, rfl⟩
  · refine lv_iload_n S.1 S.2.1 dX11_isThawed_13 rfl (lv_at hl 2 rfl) ?_
    refine aw_ifN_eq (x := mo) (tgt := 32) S (by omega) dX11_isThawed_14 (by decide) (fun c14 => ?_) (fun c14 => ?_)
    · refine lv_iconst (v := 1) S.1 S.2.1 dX11_isThawed_32 (by decide) ?_
      refine lv_goto (tgt := 37) S.1 S.2.1 dX11_isThawed_33 (by decide) ?_
      refine aw_eqi (show (1 : Int32) = if thwP me sv mo then 1 else 0 from (by rw [if_pos ⟨c10, Or.inl c14⟩])) ?_
      exact aw_iret S hr hlk ha hQ hAe hw dX11_isThawed_37 (aw_nb _) (Nat.le_of_ble_eq_true rfl) (Nat.le_of_ble_eq_true rfl) ⟨rfl, rfl⟩
    · refine lv_aload_n S.1 S.2.1 dX11_isThawed_17 rfl (lv_at hl 0 rfl) ?_
      refine aw_get S hE hw 0 (C := RX11) (T := TX11) (N := 31) rfl rfl hinX11 16 (by decide) hf40 rfl dX11_isThawed_18 ?_
      refine lv_iload_n S.1 S.2.1 dX11_isThawed_21 rfl (lv_at hl 2 rfl) ?_
      refine lv_iconst (v := 1) S.1 S.2.1 dX11_isThawed_22 (by decide) ?_
      refine lv_isub S.1 S.2.1 dX11_isThawed_23 ?_
      refine aw_eqi (show ((nI mo) - 1 : Int32) = nI (mo - 1) from (pk_sub (a := mo) (b := 1) (by omega))) ?_
      refine aw_iald S hE hw 1 (k := (mo - 1)) rfl (by omega) (by decide) dX11_isThawed_24 ?_
      refine lv_iload_n S.1 S.2.1 dX11_isThawed_25 rfl (lv_at hl 1 rfl) ?_
      refine aw_callS S hE (c_X11_isIn l G (me (mo - 1)) sv (by first | assumption | omega)) gX11_isThawed_X11_isIn (n := 2) rfl (by decide +kernel) rfl (by rw [hRm]; exact ⟨Nat.le_of_ble_eq_true rfl, Nat.le_of_ble_eq_true rfl⟩) (by rw [hRm]; exact ⟨Nat.le_of_ble_eq_true rfl, Nat.le_of_ble_eq_true rfl⟩) hw hA hl.1 [] rfl rfl rfl (Nat.le_of_ble_eq_true rfl) dX11_isThawed_26 ?_
      rintro v w1 H locs ⟨rfl, rfl⟩ hw
      have hw : bW G A s.heap [[(am 31, mdO am fl n lw nn ra rsn nr tr)], [(am 16, .inl (gI G, 12, .inl me))]] H locs := hw
      refine W.eq (g2 := (F0 m 29 ls [.int (if bt (me (mo - 1)) sv = true then 1 else 0)])) rfl ?_
      refine aw_ifne (P := bt (me (mo - 1)) sv = true) (tgt := 36) S dX11_isThawed_29 (by decide) (fun c29 => ?_) (fun c29 => ?_)
      · refine lv_iconst (v := 0) S.1 S.2.1 dX11_isThawed_36 (by decide) ?_
        refine aw_eqi (show (0 : Int32) = if thwP me sv mo then 1 else 0 from (by rw [if_neg (fun q => q.2.elim c14 (fun y => y c29))])) ?_
        exact aw_iret S hr hlk ha hQ hAe hw dX11_isThawed_37 (aw_nb _) (Nat.le_of_ble_eq_true rfl) (Nat.le_of_ble_eq_true rfl) ⟨rfl, rfl⟩
      · refine lv_iconst (v := 1) S.1 S.2.1 dX11_isThawed_32 (by decide) ?_
        refine lv_goto (tgt := 37) S.1 S.2.1 dX11_isThawed_33 (by decide) ?_
        refine aw_eqi (show (1 : Int32) = if thwP me sv mo then 1 else 0 from (by rw [if_pos ⟨c10, Or.inr c29⟩])) ?_
        exact aw_iret S hr hlk ha hQ hAe hw dX11_isThawed_37 (aw_nb _) (Nat.le_of_ble_eq_true rfl) (Nat.le_of_ble_eq_true rfl) ⟨rfl, rfl⟩
set_option maxRecDepth 100000 in
set_option maxHeartbeats 4000000 in
theorem c_X11_lackedIn (l : Launch) (G : aw_G) (am : Nat → Nat) (fl : Int32) (n : Nat) (lw : Int32) (nn ra rsn nr : Nat) (tr : Int32) (wa me cn : Nat → Int32) (mo : Nat) (hn : n ≤ 6) (hmo : mo < 12) : CT l G yX11_lackedIn wsX11_lackedIn ({ frames := 2, cells := 0, slots := 0, locals := 44 }) [.ref (am 31), .int (nI mo)] [[(am 31, mdO am fl n lw nn ra rsn nr tr)], [(am 6, .inl (gI G, 12, .inl wa))], [(am 16, .inl (gI G, 12, .inl me))], [(am 17, .inl (gI G, 72, .inl cn))]] (dt (some (.int (wa mo &&& (tgF (me mo) (fun s => cn (6 * mo + s)) n ^^^ (-1))))) [[(am 31, mdO am fl n lw nn ra rsn nr tr)], [(am 6, .inl (gI G, 12, .inl wa))], [(am 16, .inl (gI G, 12, .inl me))], [(am 17, .inl (gI G, 72, .inl cn))]]) := by
  refine CT.of (cc := cX11_lackedIn) (nL := 2) (ret := (some .int)) (by decide) rfl (Nat.le_of_ble_eq_true rfl) ?_
  intro p e s m below meth c R args Q A hRm ha hQ hAe hA S hE hr hlk hnm H locs hH0 hL0 ls hl hw
  have S : CallFix p m c cX11_lackedIn 2 s args wsX11_lackedIn RX11 := S
  have hl : lv_has ls 2 [(0, .ref (am 31)), (1, .int (nI mo))] := hl
  have hinX11 : ∀ w ∈ u_ws RX11 TX11 31, w ∈ wsX11_lackedIn := by decide +kernel
  have hf22 := S.2.2.2.2 (.fieldLink RX11 22 "AwakeTurnsModel" "wantedIn" "[I") (by decide +kernel)
  refine lv_aload_n S.1 S.2.1 dX11_lackedIn_0 rfl (lv_at hl 0 rfl) ?_
  refine aw_get S hE hw 0 (C := RX11) (T := TX11) (N := 31) rfl rfl hinX11 6 (by decide) hf22 rfl dX11_lackedIn_1 ?_
  refine lv_iload_n S.1 S.2.1 dX11_lackedIn_4 rfl (lv_at hl 1 rfl) ?_
  refine aw_iald S hE hw 1 (k := mo) rfl (by omega) (by decide) dX11_lackedIn_5 ?_
  refine lv_aload_n S.1 S.2.1 dX11_lackedIn_6 rfl (lv_at hl 0 rfl) ?_
  refine lv_iload_n S.1 S.2.1 dX11_lackedIn_7 rfl (lv_at hl 1 rfl) ?_
  refine aw_callV S hE (c_X11_togetherIn l G am fl n lw nn ra rsn nr tr me cn mo (by first | assumption | omega) (by first | assumption | omega)) gX11_lackedIn_X11_togetherIn (n := 1) rfl (by decide +kernel) rfl (by rw [hRm]; exact ⟨Nat.le_of_ble_eq_true rfl, Nat.le_of_ble_eq_true rfl⟩) (by rw [hRm]; exact ⟨Nat.le_of_ble_eq_true rfl, Nat.le_of_ble_eq_true rfl⟩) hw hA hl.1 [0, 2, 3] rfl rfl (aw_recv (i := 0) hE hw rfl rfl rfl) rfl (Nat.le_of_ble_eq_true rfl) dX11_lackedIn_8 ?_
  rintro v w1 H locs ⟨rfl, rfl⟩ hw
  have hw : bW G A s.heap [[(am 31, mdO am fl n lw nn ra rsn nr tr)], [(am 6, .inl (gI G, 12, .inl wa))], [(am 16, .inl (gI G, 12, .inl me))], [(am 17, .inl (gI G, 72, .inl cn))]] H locs := hw
  refine W.eq (g2 := (F0 m 11 ls [.int (tgF (me mo) (fun s => cn (6 * mo + s)) n), .int (wa mo)])) rfl ?_
  refine lv_iconst (v := (-1)) S.1 S.2.1 dX11_lackedIn_11 (by decide) ?_
  refine lv_ixor S.1 S.2.1 dX11_lackedIn_12 ?_
  refine lv_iand S.1 S.2.1 dX11_lackedIn_13 ?_
  refine aw_eqi (show ((wa mo) &&& ((tgF (me mo) (fun s => cn (6 * mo + s)) n) ^^^ (-1)) : Int32) = wa mo &&& (tgF (me mo) (fun s => cn (6 * mo + s)) n ^^^ (-1)) from (by simp [])) ?_
  exact aw_iret S hr hlk ha hQ hAe hw dX11_lackedIn_14 rfl (Nat.le_of_ble_eq_true rfl) (Nat.le_of_ble_eq_true rfl) ⟨rfl, rfl⟩
set_option maxRecDepth 100000 in
set_option maxHeartbeats 4000000 in
theorem c_X11_spentIn (l : Launch) (G : aw_G) (am : Nat → Nat) (fl : Int32) (n : Nat) (lw : Int32) (nn ra rsn nr : Nat) (tr : Int32) (br hb : Nat → Int32) (mo : Nat) (hn : n ≤ 6) (hmo : mo < 12) : CT l G yX11_spentIn wsX11_spentIn ({ frames := 0, cells := 0, slots := 0, locals := 0 }) [.ref (am 31), .int (nI mo)] [[(am 31, mdO am fl n lw nn ra rsn nr tr)], [(am 4, .inl (gI G, 6, .inl br))], [(am 18, .inl (gI G, 72, .inl hb))]] (dt (some (.int (spF n br (fun s => hb (6 * mo + s))))) [[(am 31, mdO am fl n lw nn ra rsn nr tr)], [(am 4, .inl (gI G, 6, .inl br))], [(am 18, .inl (gI G, 72, .inl hb))]]) := by
  refine CT.of (cc := cX11_spentIn) (nL := 4) (ret := (some .int)) (by decide) rfl (Nat.le_of_ble_eq_true rfl) ?_
  intro p e s m below meth c R args Q A hRm ha hQ hAe hA S hE hr hlk hnm H locs hH0 hL0 ls hl hw
  have S : CallFix p m c cX11_spentIn 4 s args wsX11_spentIn RX11 := S
  have hl : lv_has ls 4 [(0, .ref (am 31)), (1, .int (nI mo))] := hl
  have hinX11 : ∀ w ∈ u_ws RX11 TX11 31, w ∈ wsX11_spentIn := by decide +kernel
  have hf90 := S.2.2.2.2 (.fieldLink RX11 90 "AwakeTurnsModel" "sleepers" "I") (by decide +kernel)
  have hf46 := S.2.2.2.2 (.fieldLink RX11 46 "AwakeTurnsModel" "harmBy" "[I") (by decide +kernel)
  have hf16 := S.2.2.2.2 (.fieldLink RX11 16 "AwakeTurnsModel" "bearsOf" "[I") (by decide +kernel)
  refine lv_bipush (v := (-9)) S.1 S.2.1 dX11_spentIn_0 (by decide) ?_
  refine lv_istore_n (lv' := [(2, .int (-9)), (0, .ref (am 31)), (1, .int (nI mo))]) S.1 S.2.1 dX11_spentIn_2 rfl hl (by decide) rfl (fun ls hl => ?_)
  refine lv_iconst (v := 0) S.1 S.2.1 dX11_spentIn_3 (by decide) ?_
  refine lv_istore_n (lv' := [(3, .int 0), (2, .int (-9)), (0, .ref (am 31)), (1, .int (nI mo))]) S.1 S.2.1 dX11_spentIn_4 rfl hl (by decide) rfl (fun ls hl => ?_)
  have loop5 : ∀ (fu : Nat) (i : Nat), (i ≤ n) → (n - i) < fu → ∀ (ls : Array Slot) (H : Heap) (locs : List Loc), lv_has ls 4 [(0, .ref (am 31)), (1, .int (nI mo)), (2, .int (noI (fF (spP br (fun s => hb (6 * mo + s))) i) i)), (3, .int (nI i))] → bW G A s.heap [[(am 31, mdO am fl n lw nn ra rsn nr tr)], [(am 4, .inl (gI G, 6, .inl br))], [(am 18, .inl (gI G, 72, .inl hb))]] H locs → W p l e R s m args below meth c H locs 0 0 Q (F0 m 5 ls []) := by
    intro fu
    induction fu with
    | zero => intro i _ hm; exact absurd hm (Nat.not_lt_zero _)
    | succ fu ih5 =>
      intro i hi hm ls H locs hl hw
      refine lv_iload_n S.1 S.2.1 dX11_spentIn_5 rfl (lv_at hl 3 rfl) ?_
      refine lv_aload_n S.1 S.2.1 dX11_spentIn_6 rfl (lv_at hl 0 rfl) ?_
      refine aw_get S hE hw 0 (C := RX11) (T := TX11) (N := 31) rfl rfl hinX11 1 (by decide) hf90 rfl dX11_spentIn_7 ?_
      refine aw_icmpN_ge (x := i) (y := n) (tgt := 49) S (by omega) (by omega) dX11_spentIn_10 (by decide) (fun c10 => ?_) (fun c10 => ?_)
      · have ex_i : i = n := by omega
        try rw [ex_i] at hl
        try rw [ex_i] at hw
        refine lv_iload_n S.1 S.2.1 dX11_spentIn_49 rfl (lv_at hl 2 rfl) ?_
        refine aw_eqi (show (noI (fF (spP br (fun s => hb (6 * mo + s))) n) n : Int32) = spF n br (fun s => hb (6 * mo + s)) from rfl) ?_
        exact aw_iret S hr hlk ha hQ hAe hw dX11_spentIn_50 rfl (Nat.le_of_ble_eq_true rfl) (Nat.le_of_ble_eq_true rfl) ⟨rfl, rfl⟩
      · refine lv_iload_n S.1 S.2.1 dX11_spentIn_13 rfl (lv_at hl 2 rfl) ?_
        refine lv_if_ge (tgt := 41) S.1 S.2.1 dX11_spentIn_14 (by decide) (fun c14 => ?_) (fun c14 => ?_)
        · have hlt := (noI_neg (by omega)).mp c14
          have hnx : fF (spP br (fun s => hb (6 * mo + s))) (i + 1) = fF (spP br (fun s => hb (6 * mo + s))) i := by rw [fF, if_pos hlt]
          refine lv_iload_n S.1 S.2.1 dX11_spentIn_41 rfl (lv_at hl 2 rfl) ?_
          refine aw_eqi (show (noI (fF (spP br (fun s => hb (6 * mo + s))) i) i : Int32) = noI (fF (spP br (fun s => hb (6 * mo + s))) (i + 1)) (i + 1) from (by rw [hnx]; unfold noI; first | rw [if_pos (by omega), if_pos (by omega)] | rw [if_neg (by omega), if_neg (by omega)] | rw [if_pos (by omega)])) ?_
          refine lv_istore_n (lv' := [(2, .int (noI (fF (spP br (fun s => hb (6 * mo + s))) (i + 1)) (i + 1))), (0, .ref (am 31)), (1, .int (nI mo)), (3, .int (nI i))]) S.1 S.2.1 dX11_spentIn_42 rfl hl (by decide) rfl (fun ls hl => ?_)
          refine lv_iinc (v := nI (i + 1)) (lv' := [(3, .int (nI (i + 1))), (2, .int (noI (fF (spP br (fun s => hb (6 * mo + s))) (i + 1)) (i + 1))), (0, .ref (am 31)), (1, .int (nI mo))]) S.1 S.2.1 dX11_spentIn_43 hl (k := 3) rfl (by first | exact nI_1 _ | exact nI_add _ _ | rfl) (by decide) rfl (fun ls hl => ?_)
          refine lv_goto (tgt := 5) S.1 S.2.1 dX11_spentIn_46 (by decide) ?_
          exact ih5 (i + 1) (by first | assumption | omega) (by omega) _ _ _ (lv_sub hl [2, 3, 1, 0] rfl) hw
        · have hge : ¬ fF (spP br (fun s => hb (6 * mo + s))) i < i := fun q => c14 ((noI_neg (by omega)).mpr q)
          refine lv_aload_n S.1 S.2.1 dX11_spentIn_17 rfl (lv_at hl 0 rfl) ?_
          refine aw_get S hE hw 0 (C := RX11) (T := TX11) (N := 31) rfl rfl hinX11 18 (by decide) hf46 rfl dX11_spentIn_18 ?_
          refine lv_bipush (v := 6) S.1 S.2.1 dX11_spentIn_21 (by decide) ?_
          refine lv_iload_n S.1 S.2.1 dX11_spentIn_23 rfl (lv_at hl 1 rfl) ?_
          refine lv_imul S.1 S.2.1 dX11_spentIn_24 ?_
          refine aw_eqi (show (6 * (nI mo) : Int32) = nI (6 * mo) from (pk_mul 6 mo)) ?_
          refine lv_iload_n S.1 S.2.1 dX11_spentIn_25 rfl (lv_at hl 3 rfl) ?_
          refine lv_iadd S.1 S.2.1 dX11_spentIn_26 ?_
          refine aw_eqi (show ((nI (6 * mo)) + (nI i) : Int32) = nI ((6 * mo) + i) from (nI_add (6 * mo) i)) ?_
          refine aw_iald S hE hw 2 (k := ((6 * mo) + i)) rfl (by omega) (by decide) dX11_spentIn_27 ?_
          refine lv_aload_n S.1 S.2.1 dX11_spentIn_28 rfl (lv_at hl 0 rfl) ?_
          refine aw_get S hE hw 0 (C := RX11) (T := TX11) (N := 31) rfl rfl hinX11 4 (by decide) hf16 rfl dX11_spentIn_29 ?_
          refine lv_iload_n S.1 S.2.1 dX11_spentIn_32 rfl (lv_at hl 3 rfl) ?_
          refine aw_iald S hE hw 1 (k := i) rfl (by omega) (by decide) dX11_spentIn_33 ?_
          refine lv_icmp_le (tgt := 41) S.1 S.2.1 dX11_spentIn_34 (by decide) (fun c34 => ?_) (fun c34 => ?_)
          · have hnx : fF (spP br (fun s => hb (6 * mo + s))) (i + 1) = i + 1 := by rw [fF, if_neg hge, if_neg (by show ¬ (decide (br i < hb (6 * mo + i)) = true); rw [decide_eq_true_eq, fa_lt]; rw [fa_le] at c34; omega)]
            refine lv_iload_n S.1 S.2.1 dX11_spentIn_41 rfl (lv_at hl 2 rfl) ?_
            refine aw_eqi (show (noI (fF (spP br (fun s => hb (6 * mo + s))) i) i : Int32) = noI (fF (spP br (fun s => hb (6 * mo + s))) (i + 1)) (i + 1) from (by rw [hnx]; unfold noI; first | rw [if_pos (by omega), if_pos (by omega)] | rw [if_neg (by omega), if_neg (by omega)] | rw [if_pos (by omega)])) ?_
            refine lv_istore_n (lv' := [(2, .int (noI (fF (spP br (fun s => hb (6 * mo + s))) (i + 1)) (i + 1))), (0, .ref (am 31)), (1, .int (nI mo)), (3, .int (nI i))]) S.1 S.2.1 dX11_spentIn_42 rfl hl (by decide) rfl (fun ls hl => ?_)
            refine lv_iinc (v := nI (i + 1)) (lv' := [(3, .int (nI (i + 1))), (2, .int (noI (fF (spP br (fun s => hb (6 * mo + s))) (i + 1)) (i + 1))), (0, .ref (am 31)), (1, .int (nI mo))]) S.1 S.2.1 dX11_spentIn_43 hl (k := 3) rfl (by first | exact nI_1 _ | exact nI_add _ _ | rfl) (by decide) rfl (fun ls hl => ?_)
            refine lv_goto (tgt := 5) S.1 S.2.1 dX11_spentIn_46 (by decide) ?_
            exact ih5 (i + 1) (by first | assumption | omega) (by omega) _ _ _ (lv_sub hl [2, 3, 1, 0] rfl) hw
          · have hnx : fF (spP br (fun s => hb (6 * mo + s))) (i + 1) = i := by rw [fF, if_neg hge, if_pos (show spP br (fun s => hb (6 * mo + s)) i = true from decide_eq_true (show br i < hb (6 * mo + i) from by rw [fa_lt]; rw [fa_le] at c34; omega))]
            refine lv_iload_n S.1 S.2.1 dX11_spentIn_37 rfl (lv_at hl 3 rfl) ?_
            refine lv_goto (tgt := 42) S.1 S.2.1 dX11_spentIn_38 (by decide) ?_
            refine aw_eqi (show (nI i : Int32) = noI (fF (spP br (fun s => hb (6 * mo + s))) (i + 1)) (i + 1) from (by rw [hnx]; unfold noI; first | rw [if_pos (by omega), if_pos (by omega)] | rw [if_neg (by omega), if_neg (by omega)] | rw [if_pos (by omega)])) ?_
            refine lv_istore_n (lv' := [(2, .int (noI (fF (spP br (fun s => hb (6 * mo + s))) (i + 1)) (i + 1))), (0, .ref (am 31)), (1, .int (nI mo)), (3, .int (nI i))]) S.1 S.2.1 dX11_spentIn_42 rfl hl (by decide) rfl (fun ls hl => ?_)
            refine lv_iinc (v := nI (i + 1)) (lv' := [(3, .int (nI (i + 1))), (2, .int (noI (fF (spP br (fun s => hb (6 * mo + s))) (i + 1)) (i + 1))), (0, .ref (am 31)), (1, .int (nI mo))]) S.1 S.2.1 dX11_spentIn_43 hl (k := 3) rfl (by first | exact nI_1 _ | exact nI_add _ _ | rfl) (by decide) rfl (fun ls hl => ?_)
            refine lv_goto (tgt := 5) S.1 S.2.1 dX11_spentIn_46 (by decide) ?_
            exact ih5 (i + 1) (by first | assumption | omega) (by omega) _ _ _ (lv_sub hl [2, 3, 1, 0] rfl) hw
  exact loop5 _ 0 (by first | assumption | omega) (Nat.lt_succ_self _) _ _ _ (lv_sub hl [2, 3, 1, 0] rfl) hw
set_option maxRecDepth 100000 in
set_option maxHeartbeats 4000000 in
theorem c_X11_goMonths (l : Launch) (G : aw_G) (am : Nat → Nat) (fl : Int32) (n : Nat) (lw : Int32) (nn ra rsn nr : Nat) (tr : Int32) (kd sk me cn hb : Nat → Int32) (hn : n ≤ 6) : CT l G yX11_goMonths wsX11_goMonths ({ frames := 2, cells := 0, slots := 0, locals := 44 }) [.ref (am 31)] [[(am 31, mdO am fl n lw nn ra rsn nr tr)], [(am 2, .inl (gI G, 6, .inl kd))], [(am 3, .inl (gI G, 6, .inl sk))], [(am 16, .inl (gI G, 12, .inl me))], [(am 17, .inl (gI G, 72, .inl cn))], [(am 18, .inl (gI G, 72, .inl hb))]] (dt none [[(am 31, mdO am fl n lw nn ra rsn nr tr)], [(am 2, .inl (gI G, 6, .inl kd))], [(am 3, .inl (gI G, 6, .inl sk))], [(am 16, .inl (gI G, 12, .inl me))], [(am 17, .inl (gI G, 72, .inl (tbF (kA n lw sk me) n 72 cn)))], [(am 18, .inl (gI G, 72, .inl (tbF (fun m => hB n (fun j => hoK (kd j)) me (m + 1)) n 72 hb)))]]) := by
  refine CT.of (cc := cX11_goMonths) (nL := 6) (ret := none) (by decide) rfl (Nat.le_of_ble_eq_true rfl) ?_
  intro p e s m below meth c R args Q A hRm ha hQ hAe hA S hE hr hlk hnm H locs hH0 hL0 ls hl hw
  have S : CallFix p m c cX11_goMonths 6 s args wsX11_goMonths RX11 := S
  have hl : lv_has ls 6 [(0, .ref (am 31))] := hl
  have hinX11 : ∀ w ∈ u_ws RX11 TX11 31, w ∈ wsX11_goMonths := by decide +kernel
  have hf90 := S.2.2.2.2 (.fieldLink RX11 90 "AwakeTurnsModel" "sleepers" "I") (by decide +kernel)
  have hf141 := S.2.2.2.2 (.fieldLink RX11 141 "AwakeTurnsModel" "lawNow" "I") (by decide +kernel)
  have hf43 := S.2.2.2.2 (.fieldLink RX11 43 "AwakeTurnsModel" "canIn" "[I") (by decide +kernel)
  have hf46 := S.2.2.2.2 (.fieldLink RX11 46 "AwakeTurnsModel" "harmBy" "[I") (by decide +kernel)
  have hf13 := S.2.2.2.2 (.fieldLink RX11 13 "AwakeTurnsModel" "skillsOf" "[I") (by decide +kernel)
  have hf40 := S.2.2.2.2 (.fieldLink RX11 40 "AwakeTurnsModel" "meant" "[I") (by decide +kernel)
  refine lv_iconst (v := 0) S.1 S.2.1 dX11_goMonths_0 (by decide) ?_
  refine lv_istore_n (lv' := [(1, .int 0), (0, .ref (am 31))]) S.1 S.2.1 dX11_goMonths_1 rfl hl (by decide) rfl (fun ls hl => ?_)
  have hw := aw_arr hw 4 rfl (tbF (kA n lw sk me) n (6 * 0) cn) (fun _ _ => by rw [show 6 * 0 = 0 from rfl, tbF_0])
  have hw : bW G A s.heap [[(am 31, mdO am fl n lw nn ra rsn nr tr)], [(am 2, .inl (gI G, 6, .inl kd))], [(am 3, .inl (gI G, 6, .inl sk))], [(am 16, .inl (gI G, 12, .inl me))], [(am 17, .inl (gI G, 72, .inl (tbF (kA n lw sk me) n (6 * 0) cn)))], [(am 18, .inl (gI G, 72, .inl hb))]] H locs := hw
  have hw := aw_arr hw 5 rfl (tbF (fun m => hB n (fun j => hoK (kd j)) me (m + 1)) n (6 * 0) hb) (fun _ _ => by rw [show 6 * 0 = 0 from rfl, tbF_0])
  have hw : bW G A s.heap [[(am 31, mdO am fl n lw nn ra rsn nr tr)], [(am 2, .inl (gI G, 6, .inl kd))], [(am 3, .inl (gI G, 6, .inl sk))], [(am 16, .inl (gI G, 12, .inl me))], [(am 17, .inl (gI G, 72, .inl (tbF (kA n lw sk me) n (6 * 0) cn)))], [(am 18, .inl (gI G, 72, .inl (tbF (fun m => hB n (fun j => hoK (kd j)) me (m + 1)) n (6 * 0) hb)))]] H locs := hw
  have loop2 : ∀ (fu : Nat) (mo : Nat), (mo ≤ 12) → (12 - mo) < fu → ∀ (ls : Array Slot) (H : Heap) (locs : List Loc), lv_has ls 6 [(0, .ref (am 31)), (1, .int (nI mo))] → bW G A s.heap [[(am 31, mdO am fl n lw nn ra rsn nr tr)], [(am 2, .inl (gI G, 6, .inl kd))], [(am 3, .inl (gI G, 6, .inl sk))], [(am 16, .inl (gI G, 12, .inl me))], [(am 17, .inl (gI G, 72, .inl (tbF (kA n lw sk me) n (6 * mo) cn)))], [(am 18, .inl (gI G, 72, .inl (tbF (fun m => hB n (fun j => hoK (kd j)) me (m + 1)) n (6 * mo) hb)))]] H locs → W p l e R s m args below meth c H locs 0 0 Q (F0 m 2 ls []) := by
    intro fu
    induction fu with
    | zero => intro mo _ hm; exact absurd hm (Nat.not_lt_zero _)
    | succ fu ih2 =>
      intro mo hmo hm ls H locs hl hw
      refine lv_iload_n S.1 S.2.1 dX11_goMonths_2 rfl (lv_at hl 1 rfl) ?_
      refine lv_bipush (v := 12) S.1 S.2.1 dX11_goMonths_3 (by decide) ?_
      refine aw_icmpN_ge (x := mo) (y := 12) (tgt := 173) S (by omega) (by omega) dX11_goMonths_5 (by decide) (fun c5 => ?_) (fun c5 => ?_)
      · have ex_m : mo = 12 := by omega
        try rw [ex_m] at hl
        try rw [ex_m] at hw
        have hw := aw_arr hw 4 rfl (tbF (kA n lw sk me) n 72 cn) (fun _ _ => rfl)
        have hw : bW G A s.heap [[(am 31, mdO am fl n lw nn ra rsn nr tr)], [(am 2, .inl (gI G, 6, .inl kd))], [(am 3, .inl (gI G, 6, .inl sk))], [(am 16, .inl (gI G, 12, .inl me))], [(am 17, .inl (gI G, 72, .inl (tbF (kA n lw sk me) n 72 cn)))], [(am 18, .inl (gI G, 72, .inl (tbF (fun m => hB n (fun j => hoK (kd j)) me (m + 1)) n (6 * 12) hb)))]] H locs := hw
        have hw := aw_arr hw 5 rfl (tbF (fun m => hB n (fun j => hoK (kd j)) me (m + 1)) n 72 hb) (fun _ _ => rfl)
        have hw : bW G A s.heap [[(am 31, mdO am fl n lw nn ra rsn nr tr)], [(am 2, .inl (gI G, 6, .inl kd))], [(am 3, .inl (gI G, 6, .inl sk))], [(am 16, .inl (gI G, 12, .inl me))], [(am 17, .inl (gI G, 72, .inl (tbF (kA n lw sk me) n 72 cn)))], [(am 18, .inl (gI G, 72, .inl (tbF (fun m => hB n (fun j => hoK (kd j)) me (m + 1)) n 72 hb)))]] H locs := hw
        exact aw_vret S hr hlk ha hQ hAe hw dX11_goMonths_173 (Nat.le_of_ble_eq_true rfl) (Nat.le_of_ble_eq_true rfl) ⟨rfl, rfl⟩
      · refine lv_iload_n S.1 S.2.1 dX11_goMonths_8 rfl (lv_at hl 1 rfl) ?_
        have join23 : ∀ (H : Heap) (locs : List Loc), ∀ (ls : Array Slot), lv_has ls 6 [(0, .ref (am 31)), (1, .int (nI mo))] → bW G A s.heap [[(am 31, mdO am fl n lw nn ra rsn nr tr)], [(am 2, .inl (gI G, 6, .inl kd))], [(am 3, .inl (gI G, 6, .inl sk))], [(am 16, .inl (gI G, 12, .inl me))], [(am 17, .inl (gI G, 72, .inl (tbF (kA n lw sk me) n (6 * mo) cn)))], [(am 18, .inl (gI G, 72, .inl (tbF (fun m => hB n (fun j => hoK (kd j)) me (m + 1)) n (6 * mo) hb)))]] H locs → W p l e R s m args below meth c H locs 0 0 Q (F0 m 23 ls [.int (if mo = 0 then 0 else tgF (me (mo - 1)) (kA n lw sk me (mo - 1)) n)]) := by
          intro  H locs ls hl hw
          refine lv_istore_n (lv' := [(2, .int (if mo = 0 then 0 else tgF (me (mo - 1)) (kA n lw sk me (mo - 1)) n)), (0, .ref (am 31)), (1, .int (nI mo))]) S.1 S.2.1 dX11_goMonths_23 rfl hl (by decide) rfl (fun ls hl => ?_)
          refine lv_iconst (v := 0) S.1 S.2.1 dX11_goMonths_24 (by decide) ?_
          refine lv_istore_n (lv' := [(3, .int 0), (2, .int (if mo = 0 then 0 else tgF (me (mo - 1)) (kA n lw sk me (mo - 1)) n)), (0, .ref (am 31)), (1, .int (nI mo))]) S.1 S.2.1 dX11_goMonths_25 rfl hl (by decide) rfl (fun ls hl => ?_)
          have loop26 : ∀ (fu : Nat) (i : Nat), (i ≤ n) → (n - i) < fu → ∀ (ls : Array Slot) (H : Heap) (locs : List Loc), lv_has ls 6 [(0, .ref (am 31)), (1, .int (nI mo)), (2, .int (if mo = 0 then 0 else tgF (me (mo - 1)) (kA n lw sk me (mo - 1)) n)), (3, .int (nI i))] → bW G A s.heap [[(am 31, mdO am fl n lw nn ra rsn nr tr)], [(am 2, .inl (gI G, 6, .inl kd))], [(am 3, .inl (gI G, 6, .inl sk))], [(am 16, .inl (gI G, 12, .inl me))], [(am 17, .inl (gI G, 72, .inl (tbF (kA n lw sk me) n (6 * mo + i) cn)))], [(am 18, .inl (gI G, 72, .inl (tbF (fun m => hB n (fun j => hoK (kd j)) me (m + 1)) n (6 * mo + i) hb)))]] H locs → W p l e R s m args below meth c H locs 0 0 Q (F0 m 26 ls []) := by
            intro fu
            induction fu with
            | zero => intro i _ hm; exact absurd hm (Nat.not_lt_zero _)
            | succ fu ih26 =>
              intro i hi hm ls H locs hl hw
              refine lv_iload_n S.1 S.2.1 dX11_goMonths_26 rfl (lv_at hl 3 rfl) ?_
              refine lv_aload_n S.1 S.2.1 dX11_goMonths_27 rfl (lv_at hl 0 rfl) ?_
              refine aw_get S hE hw 0 (C := RX11) (T := TX11) (N := 31) rfl rfl hinX11 1 (by decide) hf90 rfl dX11_goMonths_28 ?_
              refine aw_icmpN_ge (x := i) (y := n) (tgt := 167) S (by omega) (by omega) dX11_goMonths_31 (by decide) (fun c31 => ?_) (fun c31 => ?_)
              · have ex_i : i = n := by omega
                try rw [ex_i] at hl
                try rw [ex_i] at hw
                have hw := aw_arr hw 4 rfl (tbF (kA n lw sk me) n (6 * (mo + 1)) cn) (fun _ _ => by rw [tbF_e hn])
                have hw : bW G A s.heap [[(am 31, mdO am fl n lw nn ra rsn nr tr)], [(am 2, .inl (gI G, 6, .inl kd))], [(am 3, .inl (gI G, 6, .inl sk))], [(am 16, .inl (gI G, 12, .inl me))], [(am 17, .inl (gI G, 72, .inl (tbF (kA n lw sk me) n (6 * (mo + 1)) cn)))], [(am 18, .inl (gI G, 72, .inl (tbF (fun m => hB n (fun j => hoK (kd j)) me (m + 1)) n (6 * mo + n) hb)))]] H locs := hw
                have hw := aw_arr hw 5 rfl (tbF (fun m => hB n (fun j => hoK (kd j)) me (m + 1)) n (6 * (mo + 1)) hb) (fun _ _ => by rw [tbF_e hn])
                have hw : bW G A s.heap [[(am 31, mdO am fl n lw nn ra rsn nr tr)], [(am 2, .inl (gI G, 6, .inl kd))], [(am 3, .inl (gI G, 6, .inl sk))], [(am 16, .inl (gI G, 12, .inl me))], [(am 17, .inl (gI G, 72, .inl (tbF (kA n lw sk me) n (6 * (mo + 1)) cn)))], [(am 18, .inl (gI G, 72, .inl (tbF (fun m => hB n (fun j => hoK (kd j)) me (m + 1)) n (6 * (mo + 1)) hb)))]] H locs := hw
                refine lv_iinc (v := nI (mo + 1)) (lv' := [(1, .int (nI (mo + 1))), (0, .ref (am 31)), (2, .int (if mo = 0 then 0 else tgF (me (mo - 1)) (kA n lw sk me (mo - 1)) n)), (3, .int (nI n))]) S.1 S.2.1 dX11_goMonths_167 hl (k := 1) rfl (by first | exact nI_1 _ | exact nI_add _ _ | rfl) (by decide) rfl (fun ls hl => ?_)
                refine lv_goto (tgt := 2) S.1 S.2.1 dX11_goMonths_170 (by decide) ?_
                exact ih2 (mo + 1) (by first | assumption | omega) (by omega) _ _ _ (lv_sub hl [1, 0] rfl) hw
              · refine lv_bipush (v := 6) S.1 S.2.1 dX11_goMonths_34 (by decide) ?_
                refine lv_iload_n S.1 S.2.1 dX11_goMonths_36 rfl (lv_at hl 1 rfl) ?_
                refine lv_imul S.1 S.2.1 dX11_goMonths_37 ?_
                refine aw_eqi (show (6 * (nI mo) : Int32) = nI (6 * mo) from (pk_mul 6 mo)) ?_
                refine lv_iload_n S.1 S.2.1 dX11_goMonths_38 rfl (lv_at hl 3 rfl) ?_
                refine lv_iadd S.1 S.2.1 dX11_goMonths_39 ?_
                refine aw_eqi (show ((nI (6 * mo)) + (nI i) : Int32) = nI ((6 * mo) + i) from (nI_add (6 * mo) i)) ?_
                refine lv_istore (lv' := [(4, .int (nI ((6 * mo) + i))), (0, .ref (am 31)), (1, .int (nI mo)), (2, .int (if mo = 0 then 0 else tgF (me (mo - 1)) (kA n lw sk me (mo - 1)) n)), (3, .int (nI i))]) S.1 S.2.1 dX11_goMonths_40 hl (by decide) rfl (fun ls hl => ?_)
                refine lv_aload_n S.1 S.2.1 dX11_goMonths_42 rfl (lv_at hl 1 rfl) ?_
                refine aw_get S hE hw 0 (C := RX11) (T := TX11) (N := 31) rfl rfl hinX11 7 (by decide) hf141 rfl dX11_goMonths_43 ?_
                refine lv_iconst (v := 1) S.1 S.2.1 dX11_goMonths_46 (by decide) ?_
                have join74 : ∀ (H : Heap) (locs : List Loc), ∀ (ls : Array Slot), lv_has ls 6 [(4, .int (nI ((6 * mo) + i))), (0, .ref (am 31)), (1, .int (nI mo)), (2, .int (if mo = 0 then 0 else tgF (me (mo - 1)) (kA n lw sk me (mo - 1)) n)), (3, .int (nI i))] → bW G A s.heap [[(am 31, mdO am fl n lw nn ra rsn nr tr)], [(am 2, .inl (gI G, 6, .inl kd))], [(am 3, .inl (gI G, 6, .inl sk))], [(am 16, .inl (gI G, 12, .inl me))], [(am 17, .inl (gI G, 72, .inl (tbF (kA n lw sk me) n (6 * mo + i) cn)))], [(am 18, .inl (gI G, 72, .inl (tbF (fun m => hB n (fun j => hoK (kd j)) me (m + 1)) n (6 * mo + i) hb)))]] H locs → W p l e R s m args below meth c H locs 0 0 Q (F0 m 74 ls [.int (if (lw = 1 ∧ 0 < mo) ∧ bt (me (mo - 1)) i = true then 1 else 0)]) := by
                  intro  H locs ls hl hw
                  refine lv_istore (lv' := [(5, .int (if (lw = 1 ∧ 0 < mo) ∧ bt (me (mo - 1)) i = true then 1 else 0)), (4, .int (nI ((6 * mo) + i))), (0, .ref (am 31)), (1, .int (nI mo)), (2, .int (if mo = 0 then 0 else tgF (me (mo - 1)) (kA n lw sk me (mo - 1)) n)), (3, .int (nI i))]) S.1 S.2.1 dX11_goMonths_74 hl (by decide) rfl (fun ls hl => ?_)
                  refine lv_aload_n S.1 S.2.1 dX11_goMonths_76 rfl (lv_at hl 2 rfl) ?_
                  refine aw_get S hE hw 0 (C := RX11) (T := TX11) (N := 31) rfl rfl hinX11 17 (by decide) hf43 rfl dX11_goMonths_77 ?_
                  refine lv_iload S.1 S.2.1 dX11_goMonths_80 (lv_at hl 1 rfl) ?_
                  refine lv_iload_n S.1 S.2.1 dX11_goMonths_82 rfl (lv_at hl 3 rfl) ?_
                  have join116 : ∀ (H : Heap) (locs : List Loc), ∀ (ls : Array Slot), lv_has ls 6 [(5, .int (if (lw = 1 ∧ 0 < mo) ∧ bt (me (mo - 1)) i = true then 1 else 0)), (4, .int (nI ((6 * mo) + i))), (0, .ref (am 31)), (1, .int (nI mo)), (2, .int (if mo = 0 then 0 else tgF (me (mo - 1)) (kA n lw sk me (mo - 1)) n)), (3, .int (nI i))] → bW G A s.heap [[(am 31, mdO am fl n lw nn ra rsn nr tr)], [(am 2, .inl (gI G, 6, .inl kd))], [(am 3, .inl (gI G, 6, .inl sk))], [(am 16, .inl (gI G, 12, .inl me))], [(am 17, .inl (gI G, 72, .inl (tbF (kA n lw sk me) n (6 * mo + i) cn)))], [(am 18, .inl (gI G, 72, .inl (tbF (fun m => hB n (fun j => hoK (kd j)) me (m + 1)) n (6 * mo + i) hb)))]] H locs → W p l e R s m args below meth c H locs 0 0 Q (F0 m 116 ls [.int (kA n lw sk me mo i), .int (nI ((6 * mo) + i)), .ref (am 17)]) := by
                    intro  H locs ls hl hw
                    refine aw_iast S hE hw 4 (k := ((6 * mo) + i)) rfl (by omega) (by decide) dX11_goMonths_116 (fun H locs hw => ?_)
                    have hw : bW G A s.heap [[(am 31, mdO am fl n lw nn ra rsn nr tr)], [(am 2, .inl (gI G, 6, .inl kd))], [(am 3, .inl (gI G, 6, .inl sk))], [(am 16, .inl (gI G, 12, .inl me))], [(am 17, .inl (gI G, 72, .inl (upd (tbF (kA n lw sk me) n (6 * mo + i) cn) ((6 * mo) + i) (kA n lw sk me mo i))))], [(am 18, .inl (gI G, 72, .inl (tbF (fun m => hB n (fun j => hoK (kd j)) me (m + 1)) n (6 * mo + i) hb)))]] H locs := hw
                    refine lv_aload_n S.1 S.2.1 dX11_goMonths_117 rfl (lv_at hl 2 rfl) ?_
                    refine aw_get S hE hw 0 (C := RX11) (T := TX11) (N := 31) rfl rfl hinX11 18 (by decide) hf46 rfl dX11_goMonths_118 ?_
                    refine lv_iload S.1 S.2.1 dX11_goMonths_121 (lv_at hl 1 rfl) ?_
                    refine lv_iload_n S.1 S.2.1 dX11_goMonths_123 rfl (lv_at hl 3 rfl) ?_
                    have join141 : ∀ (H : Heap) (locs : List Loc), ∀ (ls : Array Slot), lv_has ls 6 [(5, .int (if (lw = 1 ∧ 0 < mo) ∧ bt (me (mo - 1)) i = true then 1 else 0)), (4, .int (nI ((6 * mo) + i))), (0, .ref (am 31)), (1, .int (nI mo)), (2, .int (if mo = 0 then 0 else tgF (me (mo - 1)) (kA n lw sk me (mo - 1)) n)), (3, .int (nI i))] → bW G A s.heap [[(am 31, mdO am fl n lw nn ra rsn nr tr)], [(am 2, .inl (gI G, 6, .inl kd))], [(am 3, .inl (gI G, 6, .inl sk))], [(am 16, .inl (gI G, 12, .inl me))], [(am 17, .inl (gI G, 72, .inl (upd (tbF (kA n lw sk me) n (6 * mo + i) cn) ((6 * mo) + i) (kA n lw sk me mo i))))], [(am 18, .inl (gI G, 72, .inl (tbF (fun m => hB n (fun j => hoK (kd j)) me (m + 1)) n (6 * mo + i) hb)))]] H locs → W p l e R s m args below meth c H locs 0 0 Q (F0 m 141 ls [.int (hB n (fun j => hoK (kd j)) me mo i), .int (nI ((6 * mo) + i)), .ref (am 18)]) := by
                      intro  H locs ls hl hw
                      refine lv_aload_n S.1 S.2.1 dX11_goMonths_141 rfl (lv_at hl 2 rfl) ?_
                      refine lv_iload_n S.1 S.2.1 dX11_goMonths_142 rfl (lv_at hl 5 rfl) ?_
                      refine lv_iload_n S.1 S.2.1 dX11_goMonths_143 rfl (lv_at hl 3 rfl) ?_
                      refine aw_callV S hE (c_X11_isThawed l G am fl n lw nn ra rsn nr tr me i mo (by first | assumption | omega) (by first | assumption | omega)) gX11_goMonths_X11_isThawed (n := 2) rfl (by decide +kernel) rfl (by rw [hRm]; exact ⟨Nat.le_of_ble_eq_true rfl, Nat.le_of_ble_eq_true rfl⟩) (by rw [hRm]; exact ⟨Nat.le_of_ble_eq_true rfl, Nat.le_of_ble_eq_true rfl⟩) hw hA hl.1 [0, 3] rfl rfl (aw_recv (i := 0) hE hw rfl rfl rfl) rfl (Nat.le_of_ble_eq_true rfl) dX11_goMonths_144 ?_
                      rintro v w1 H locs ⟨rfl, rfl⟩ hw
                      have hw : bW G A s.heap [[(am 31, mdO am fl n lw nn ra rsn nr tr)], [(am 2, .inl (gI G, 6, .inl kd))], [(am 3, .inl (gI G, 6, .inl sk))], [(am 16, .inl (gI G, 12, .inl me))], [(am 17, .inl (gI G, 72, .inl (upd (tbF (kA n lw sk me) n (6 * mo + i) cn) ((6 * mo) + i) (kA n lw sk me mo i))))], [(am 18, .inl (gI G, 72, .inl (tbF (fun m => hB n (fun j => hoK (kd j)) me (m + 1)) n (6 * mo + i) hb)))]] H locs := hw
                      refine W.eq (g2 := (F0 m 147 ls [.int (if thwP me i mo then 1 else 0), .int (hB n (fun j => hoK (kd j)) me mo i), .int (nI ((6 * mo) + i)), .ref (am 18)])) rfl ?_
                      have join159 : ∀ (H : Heap) (locs : List Loc), ∀ (ls : Array Slot), lv_has ls 6 [(5, .int (if (lw = 1 ∧ 0 < mo) ∧ bt (me (mo - 1)) i = true then 1 else 0)), (4, .int (nI ((6 * mo) + i))), (0, .ref (am 31)), (1, .int (nI mo)), (2, .int (if mo = 0 then 0 else tgF (me (mo - 1)) (kA n lw sk me (mo - 1)) n)), (3, .int (nI i))] → bW G A s.heap [[(am 31, mdO am fl n lw nn ra rsn nr tr)], [(am 2, .inl (gI G, 6, .inl kd))], [(am 3, .inl (gI G, 6, .inl sk))], [(am 16, .inl (gI G, 12, .inl me))], [(am 17, .inl (gI G, 72, .inl (upd (tbF (kA n lw sk me) n (6 * mo + i) cn) ((6 * mo) + i) (kA n lw sk me mo i))))], [(am 18, .inl (gI G, 72, .inl (tbF (fun m => hB n (fun j => hoK (kd j)) me (m + 1)) n (6 * mo + i) hb)))]] H locs → W p l e R s m args below meth c H locs 0 0 Q (F0 m 159 ls [.int (if thwP me i mo then hoK (kd i) else 0), .int (hB n (fun j => hoK (kd j)) me mo i), .int (nI ((6 * mo) + i)), .ref (am 18)]) := by
                        intro  H locs ls hl hw
                        refine lv_iadd S.1 S.2.1 dX11_goMonths_159 ?_
                        refine aw_iast S hE hw 5 (k := ((6 * mo) + i)) rfl (by omega) (by decide) dX11_goMonths_160 (fun H locs hw => ?_)
                        have hw : bW G A s.heap [[(am 31, mdO am fl n lw nn ra rsn nr tr)], [(am 2, .inl (gI G, 6, .inl kd))], [(am 3, .inl (gI G, 6, .inl sk))], [(am 16, .inl (gI G, 12, .inl me))], [(am 17, .inl (gI G, 72, .inl (upd (tbF (kA n lw sk me) n (6 * mo + i) cn) ((6 * mo) + i) (kA n lw sk me mo i))))], [(am 18, .inl (gI G, 72, .inl (upd (tbF (fun m => hB n (fun j => hoK (kd j)) me (m + 1)) n (6 * mo + i) hb) ((6 * mo) + i) ((hB n (fun j => hoK (kd j)) me mo i) + (if thwP me i mo then hoK (kd i) else 0)))))]] H locs := hw
                        refine lv_iinc (v := nI (i + 1)) (lv' := [(3, .int (nI (i + 1))), (5, .int (if (lw = 1 ∧ 0 < mo) ∧ bt (me (mo - 1)) i = true then 1 else 0)), (4, .int (nI ((6 * mo) + i))), (0, .ref (am 31)), (1, .int (nI mo)), (2, .int (if mo = 0 then 0 else tgF (me (mo - 1)) (kA n lw sk me (mo - 1)) n))]) S.1 S.2.1 dX11_goMonths_161 hl (k := 5) rfl (by first | exact nI_1 _ | exact nI_add _ _ | rfl) (by decide) rfl (fun ls hl => ?_)
                        refine lv_goto (tgt := 26) S.1 S.2.1 dX11_goMonths_164 (by decide) ?_
                        have hw := aw_arr hw 4 rfl (tbF (kA n lw sk me) n (6 * mo + (i + 1)) cn) (fun _ _ => by rw [tbF_s (by omega) hn rfl])
                        have hw : bW G A s.heap [[(am 31, mdO am fl n lw nn ra rsn nr tr)], [(am 2, .inl (gI G, 6, .inl kd))], [(am 3, .inl (gI G, 6, .inl sk))], [(am 16, .inl (gI G, 12, .inl me))], [(am 17, .inl (gI G, 72, .inl (tbF (kA n lw sk me) n (6 * mo + (i + 1)) cn)))], [(am 18, .inl (gI G, 72, .inl (upd (tbF (fun m => hB n (fun j => hoK (kd j)) me (m + 1)) n (6 * mo + i) hb) ((6 * mo) + i) ((hB n (fun j => hoK (kd j)) me mo i) + (if thwP me i mo then hoK (kd i) else 0)))))]] H locs := hw
                        have hw := aw_arr hw 5 rfl (tbF (fun m => hB n (fun j => hoK (kd j)) me (m + 1)) n (6 * mo + (i + 1)) hb) (fun _ _ => by rw [tbF_s (f := fun m => hB n (fun j => hoK (kd j)) me (m + 1)) (m := mo) (j := i) (by omega) hn (hB_next (by omega) hn)])
                        have hw : bW G A s.heap [[(am 31, mdO am fl n lw nn ra rsn nr tr)], [(am 2, .inl (gI G, 6, .inl kd))], [(am 3, .inl (gI G, 6, .inl sk))], [(am 16, .inl (gI G, 12, .inl me))], [(am 17, .inl (gI G, 72, .inl (tbF (kA n lw sk me) n (6 * mo + (i + 1)) cn)))], [(am 18, .inl (gI G, 72, .inl (tbF (fun m => hB n (fun j => hoK (kd j)) me (m + 1)) n (6 * mo + (i + 1)) hb)))]] H locs := hw
                        exact ih26 (i + 1) (by first | assumption | omega) (by omega) _ _ _ (lv_sub hl [3, 4, 5, 0] rfl) hw
                      refine aw_ifeq (P := thwP me i mo) (tgt := 158) S dX11_goMonths_147 (by decide) (fun c147 => ?_) (fun c147 => ?_)
                      · refine lv_iconst (v := 0) S.1 S.2.1 dX11_goMonths_158 (by decide) ?_
                        refine aw_eqi (show (0 : Int32) = if thwP me i mo then hoK (kd i) else 0 from (by rw [if_neg c147])) ?_
                        exact join159  _ _ _ (lv_sub hl [0, 1, 2, 3, 4, 5] rfl) hw
                      · refine lv_aload_n S.1 S.2.1 dX11_goMonths_150 rfl (lv_at hl 2 rfl) ?_
                        refine lv_iload_n S.1 S.2.1 dX11_goMonths_151 rfl (lv_at hl 5 rfl) ?_
                        refine aw_callV S hE (c_X11_harmOnce l G am fl n lw nn ra rsn nr tr kd i (by first | assumption | omega)) gX11_goMonths_X11_harmOnce (n := 1) rfl (by decide +kernel) rfl (by rw [hRm]; exact ⟨Nat.le_of_ble_eq_true rfl, Nat.le_of_ble_eq_true rfl⟩) (by rw [hRm]; exact ⟨Nat.le_of_ble_eq_true rfl, Nat.le_of_ble_eq_true rfl⟩) hw hA hl.1 [0, 1] rfl rfl (aw_recv (i := 0) hE hw rfl rfl rfl) rfl (Nat.le_of_ble_eq_true rfl) dX11_goMonths_152 ?_
                        rintro v w1 H locs ⟨rfl, rfl⟩ hw
                        have hw : bW G A s.heap [[(am 31, mdO am fl n lw nn ra rsn nr tr)], [(am 2, .inl (gI G, 6, .inl kd))], [(am 3, .inl (gI G, 6, .inl sk))], [(am 16, .inl (gI G, 12, .inl me))], [(am 17, .inl (gI G, 72, .inl (upd (tbF (kA n lw sk me) n (6 * mo + i) cn) ((6 * mo) + i) (kA n lw sk me mo i))))], [(am 18, .inl (gI G, 72, .inl (tbF (fun m => hB n (fun j => hoK (kd j)) me (m + 1)) n (6 * mo + i) hb)))]] H locs := hw
                        refine W.eq (g2 := (F0 m 155 ls [.int (hoK (kd i)), .int (hB n (fun j => hoK (kd j)) me mo i), .int (nI ((6 * mo) + i)), .ref (am 18)])) rfl ?_
                        refine lv_goto (tgt := 159) S.1 S.2.1 dX11_goMonths_155 (by decide) ?_
                        refine aw_eqi (show (hoK (kd i) : Int32) = if thwP me i mo then hoK (kd i) else 0 from (by rw [if_pos c147])) ?_
                        exact join159  _ _ _ (lv_sub hl [0, 1, 2, 3, 4, 5] rfl) hw
                    refine aw_ifN_ne (x := mo) (tgt := 131) S (by omega) dX11_goMonths_124 (by decide) (fun c124 => ?_) (fun c124 => ?_)
                    · refine lv_aload_n S.1 S.2.1 dX11_goMonths_131 rfl (lv_at hl 2 rfl) ?_
                      refine aw_get S hE hw 0 (C := RX11) (T := TX11) (N := 31) rfl rfl hinX11 18 (by decide) hf46 rfl dX11_goMonths_132 ?_
                      refine lv_iload S.1 S.2.1 dX11_goMonths_135 (lv_at hl 1 rfl) ?_
                      refine lv_bipush (v := 6) S.1 S.2.1 dX11_goMonths_137 (by decide) ?_
                      refine lv_isub S.1 S.2.1 dX11_goMonths_139 ?_
                      refine aw_eqi (show ((nI ((6 * mo) + i)) - 6 : Int32) = nI (((6 * mo) + i) - 6) from (pk_sub (a := (6 * mo) + i) (b := 6) (by omega))) ?_
                      refine aw_iald S hE hw 5 (k := (((6 * mo) + i) - 6)) rfl (by omega) (by decide) dX11_goMonths_140 ?_
                      refine aw_eqi (show ((tbF (fun m => hB n (fun j => hoK (kd j)) me (m + 1)) n (6 * mo + i) hb) (((6 * mo) + i) - 6) : Int32) = hB n (fun j => hoK (kd j)) me mo i from (by rw [show 6 * mo + i - 6 = 6 * (mo - 1) + i by omega]; exact (tbF_at (by omega) hn (by omega)).trans (by show hB n (fun j => hoK (kd j)) me (mo - 1 + 1) i = _; rw [show mo - 1 + 1 = mo by omega]))) ?_
                      exact join141  _ _ _ (lv_sub hl [0, 1, 2, 3, 4, 5] rfl) hw
                    · refine lv_iconst (v := 0) S.1 S.2.1 dX11_goMonths_127 (by decide) ?_
                      refine lv_goto (tgt := 141) S.1 S.2.1 dX11_goMonths_128 (by decide) ?_
                      refine aw_eqi (show (0 : Int32) = hB n (fun j => hoK (kd j)) me mo i from (by rw [c124]; rfl)) ?_
                      exact join141  _ _ _ (lv_sub hl [0, 1, 2, 3, 4, 5] rfl) hw
                  refine aw_ifN_ne (x := mo) (tgt := 95) S (by omega) dX11_goMonths_83 (by decide) (fun c83 => ?_) (fun c83 => ?_)
                  · refine lv_aload_n S.1 S.2.1 dX11_goMonths_95 rfl (lv_at hl 2 rfl) ?_
                    refine aw_get S hE hw 0 (C := RX11) (T := TX11) (N := 31) rfl rfl hinX11 17 (by decide) hf43 rfl dX11_goMonths_96 ?_
                    refine lv_iload S.1 S.2.1 dX11_goMonths_99 (lv_at hl 1 rfl) ?_
                    refine lv_bipush (v := 6) S.1 S.2.1 dX11_goMonths_101 (by decide) ?_
                    refine lv_isub S.1 S.2.1 dX11_goMonths_103 ?_
                    refine aw_eqi (show ((nI ((6 * mo) + i)) - 6 : Int32) = nI (((6 * mo) + i) - 6) from (pk_sub (a := (6 * mo) + i) (b := 6) (by omega))) ?_
                    refine aw_iald S hE hw 4 (k := (((6 * mo) + i) - 6)) rfl (by omega) (by decide) dX11_goMonths_104 ?_
                    refine lv_iload S.1 S.2.1 dX11_goMonths_105 (lv_at hl 0 rfl) ?_
                    have join115 : ∀ (H : Heap) (locs : List Loc), ∀ (ls : Array Slot), lv_has ls 6 [(5, .int (if (lw = 1 ∧ 0 < mo) ∧ bt (me (mo - 1)) i = true then 1 else 0)), (4, .int (nI ((6 * mo) + i))), (0, .ref (am 31)), (1, .int (nI mo)), (2, .int (if mo = 0 then 0 else tgF (me (mo - 1)) (kA n lw sk me (mo - 1)) n)), (3, .int (nI i))] → bW G A s.heap [[(am 31, mdO am fl n lw nn ra rsn nr tr)], [(am 2, .inl (gI G, 6, .inl kd))], [(am 3, .inl (gI G, 6, .inl sk))], [(am 16, .inl (gI G, 12, .inl me))], [(am 17, .inl (gI G, 72, .inl (tbF (kA n lw sk me) n (6 * mo + i) cn)))], [(am 18, .inl (gI G, 72, .inl (tbF (fun m => hB n (fun j => hoK (kd j)) me (m + 1)) n (6 * mo + i) hb)))]] H locs → W p l e R s m args below meth c H locs 0 0 Q (F0 m 115 ls [.int (if (lw = 1 ∧ 0 < mo) ∧ bt (me (mo - 1)) i = true then (if mo = 0 then 0 else tgF (me (mo - 1)) (kA n lw sk me (mo - 1)) n) else 0), .int ((tbF (kA n lw sk me) n (6 * mo + i) cn) (((6 * mo) + i) - 6)), .int (nI ((6 * mo) + i)), .ref (am 17)]) := by
                      intro  H locs ls hl hw
                      refine lv_ior S.1 S.2.1 dX11_goMonths_115 ?_
                      refine aw_eqi (show (((tbF (kA n lw sk me) n (6 * mo + i) cn) (((6 * mo) + i) - 6)) ||| (if (lw = 1 ∧ 0 < mo) ∧ bt (me (mo - 1)) i = true then (if mo = 0 then 0 else tgF (me (mo - 1)) (kA n lw sk me (mo - 1)) n) else 0) : Int32) = kA n lw sk me mo i from (by rw [show 6 * mo + i - 6 = 6 * (mo - 1) + i by omega, tbF_at (by omega) hn (by omega)]; exact kA_step (by omega) c83)) ?_
                      exact join116  _ _ _ (lv_sub hl [0, 1, 2, 3, 4, 5] rfl) hw
                    refine aw_ifeq (P := (lw = 1 ∧ 0 < mo) ∧ bt (me (mo - 1)) i = true) (tgt := 114) S dX11_goMonths_107 (by decide) (fun c107 => ?_) (fun c107 => ?_)
                    · refine lv_iconst (v := 0) S.1 S.2.1 dX11_goMonths_114 (by decide) ?_
                      refine aw_eqi (show (0 : Int32) = if (lw = 1 ∧ 0 < mo) ∧ bt (me (mo - 1)) i = true then (if mo = 0 then 0 else tgF (me (mo - 1)) (kA n lw sk me (mo - 1)) n) else 0 from (by rw [if_neg c107])) ?_
                      exact join115  _ _ _ (lv_sub hl [0, 1, 2, 3, 4, 5] rfl) hw
                    · refine lv_iload_n S.1 S.2.1 dX11_goMonths_110 rfl (lv_at hl 4 rfl) ?_
                      refine lv_goto (tgt := 115) S.1 S.2.1 dX11_goMonths_111 (by decide) ?_
                      refine aw_eqi (show (if mo = 0 then 0 else tgF (me (mo - 1)) (kA n lw sk me (mo - 1)) n : Int32) = if (lw = 1 ∧ 0 < mo) ∧ bt (me (mo - 1)) i = true then (if mo = 0 then 0 else tgF (me (mo - 1)) (kA n lw sk me (mo - 1)) n) else 0 from (by rw [if_pos c107])) ?_
                      exact join115  _ _ _ (lv_sub hl [0, 1, 2, 3, 4, 5] rfl) hw
                  · refine lv_aload_n S.1 S.2.1 dX11_goMonths_86 rfl (lv_at hl 2 rfl) ?_
                    refine aw_get S hE hw 0 (C := RX11) (T := TX11) (N := 31) rfl rfl hinX11 3 (by decide) hf13 rfl dX11_goMonths_87 ?_
                    refine lv_iload_n S.1 S.2.1 dX11_goMonths_90 rfl (lv_at hl 5 rfl) ?_
                    refine aw_iald S hE hw 2 (k := i) rfl (by omega) (by decide) dX11_goMonths_91 ?_
                    refine lv_goto (tgt := 116) S.1 S.2.1 dX11_goMonths_92 (by decide) ?_
                    refine aw_eqi (show (sk i : Int32) = kA n lw sk me mo i from (by rw [c83]; rfl)) ?_
                    exact join116  _ _ _ (lv_sub hl [0, 1, 2, 3, 4, 5] rfl) hw
                refine lv_icmp_ne (tgt := 73) S.1 S.2.1 dX11_goMonths_47 (by decide) (fun c47 => ?_) (fun c47 => ?_)
                · refine lv_iconst (v := 0) S.1 S.2.1 dX11_goMonths_73 (by decide) ?_
                  refine aw_eqi (show (0 : Int32) = if (lw = 1 ∧ 0 < mo) ∧ bt (me (mo - 1)) i = true then 1 else 0 from (by rw [if_neg (fun q => c47 q.1.1)])) ?_
                  exact join74  _ _ _ (lv_sub hl [0, 1, 2, 3, 4] rfl) hw
                · refine lv_iload_n S.1 S.2.1 dX11_goMonths_50 rfl (lv_at hl 2 rfl) ?_
                  refine aw_ifN_le (x := mo) (tgt := 73) S (by omega) dX11_goMonths_51 (by decide) (fun c51 => ?_) (fun c51 => ?_)
                  · refine lv_iconst (v := 0) S.1 S.2.1 dX11_goMonths_73 (by decide) ?_
                    refine aw_eqi (show (0 : Int32) = if (lw = 1 ∧ 0 < mo) ∧ bt (me (mo - 1)) i = true then 1 else 0 from (by rw [if_neg (fun q => by have q1 := q.1.2; omega)])) ?_
                    exact join74  _ _ _ (lv_sub hl [0, 1, 2, 3, 4] rfl) hw
                  · refine lv_aload_n S.1 S.2.1 dX11_goMonths_54 rfl (lv_at hl 1 rfl) ?_
                    refine aw_get S hE hw 0 (C := RX11) (T := TX11) (N := 31) rfl rfl hinX11 16 (by decide) hf40 rfl dX11_goMonths_55 ?_
                    refine lv_iload_n S.1 S.2.1 dX11_goMonths_58 rfl (lv_at hl 2 rfl) ?_
                    refine lv_iconst (v := 1) S.1 S.2.1 dX11_goMonths_59 (by decide) ?_
                    refine lv_isub S.1 S.2.1 dX11_goMonths_60 ?_
                    refine aw_eqi (show ((nI mo) - 1 : Int32) = nI (mo - 1) from (pk_sub (a := mo) (b := 1) (by omega))) ?_
                    refine aw_iald S hE hw 3 (k := (mo - 1)) rfl (by omega) (by decide) dX11_goMonths_61 ?_
                    refine lv_iload_n S.1 S.2.1 dX11_goMonths_62 rfl (lv_at hl 4 rfl) ?_
                    refine aw_callS S hE (c_X11_isIn l G (me (mo - 1)) i (by first | assumption | omega)) gX11_goMonths_X11_isIn (n := 2) rfl (by decide +kernel) rfl (by rw [hRm]; exact ⟨Nat.le_of_ble_eq_true rfl, Nat.le_of_ble_eq_true rfl⟩) (by rw [hRm]; exact ⟨Nat.le_of_ble_eq_true rfl, Nat.le_of_ble_eq_true rfl⟩) hw hA hl.1 [] rfl rfl rfl (Nat.le_of_ble_eq_true rfl) dX11_goMonths_63 ?_
                    rintro v w1 H locs ⟨rfl, rfl⟩ hw
                    have hw : bW G A s.heap [[(am 31, mdO am fl n lw nn ra rsn nr tr)], [(am 2, .inl (gI G, 6, .inl kd))], [(am 3, .inl (gI G, 6, .inl sk))], [(am 16, .inl (gI G, 12, .inl me))], [(am 17, .inl (gI G, 72, .inl (tbF (kA n lw sk me) n (6 * mo + i) cn)))], [(am 18, .inl (gI G, 72, .inl (tbF (fun m => hB n (fun j => hoK (kd j)) me (m + 1)) n (6 * mo + i) hb)))]] H locs := hw
                    refine W.eq (g2 := (F0 m 66 ls [.int (if bt (me (mo - 1)) i = true then 1 else 0)])) rfl ?_
                    refine aw_ifeq (P := bt (me (mo - 1)) i = true) (tgt := 73) S dX11_goMonths_66 (by decide) (fun c66 => ?_) (fun c66 => ?_)
                    · refine lv_iconst (v := 0) S.1 S.2.1 dX11_goMonths_73 (by decide) ?_
                      refine aw_eqi (show (0 : Int32) = if (lw = 1 ∧ 0 < mo) ∧ bt (me (mo - 1)) i = true then 1 else 0 from (by rw [if_neg (fun q => c66 q.2)])) ?_
                      exact join74  _ _ _ (lv_sub hl [0, 1, 2, 3, 4] rfl) hw
                    · refine lv_iconst (v := 1) S.1 S.2.1 dX11_goMonths_69 (by decide) ?_
                      refine lv_goto (tgt := 74) S.1 S.2.1 dX11_goMonths_70 (by decide) ?_
                      refine aw_eqi (show (1 : Int32) = if (lw = 1 ∧ 0 < mo) ∧ bt (me (mo - 1)) i = true then 1 else 0 from (by rw [if_pos ⟨⟨c47, by omega⟩, c66⟩])) ?_
                      exact join74  _ _ _ (lv_sub hl [0, 1, 2, 3, 4] rfl) hw
          exact loop26 _ 0 (by first | assumption | omega) (Nat.lt_succ_self _) _ _ _ (lv_sub hl [2, 3, 1, 0] rfl) hw
        refine aw_ifN_ne (x := mo) (tgt := 16) S (by omega) dX11_goMonths_9 (by decide) (fun c9 => ?_) (fun c9 => ?_)
        · refine lv_aload_n S.1 S.2.1 dX11_goMonths_16 rfl (lv_at hl 0 rfl) ?_
          refine lv_iload_n S.1 S.2.1 dX11_goMonths_17 rfl (lv_at hl 1 rfl) ?_
          refine lv_iconst (v := 1) S.1 S.2.1 dX11_goMonths_18 (by decide) ?_
          refine lv_isub S.1 S.2.1 dX11_goMonths_19 ?_
          refine aw_eqi (show ((nI mo) - 1 : Int32) = nI (mo - 1) from (pk_sub (a := mo) (b := 1) (by omega))) ?_
          refine aw_callV S hE (c_X11_togetherIn l G am fl n lw nn ra rsn nr tr me (tbF (kA n lw sk me) n (6 * mo) cn) (mo - 1) (by first | assumption | omega) (by first | assumption | omega)) gX11_goMonths_X11_togetherIn (n := 1) rfl (by decide +kernel) rfl (by rw [hRm]; exact ⟨Nat.le_of_ble_eq_true rfl, Nat.le_of_ble_eq_true rfl⟩) (by rw [hRm]; exact ⟨Nat.le_of_ble_eq_true rfl, Nat.le_of_ble_eq_true rfl⟩) hw hA hl.1 [0, 3, 4] rfl rfl (aw_recv (i := 0) hE hw rfl rfl rfl) rfl (Nat.le_of_ble_eq_true rfl) dX11_goMonths_20 ?_
          rintro v w1 H locs ⟨rfl, rfl⟩ hw
          have hw : bW G A s.heap [[(am 31, mdO am fl n lw nn ra rsn nr tr)], [(am 2, .inl (gI G, 6, .inl kd))], [(am 3, .inl (gI G, 6, .inl sk))], [(am 16, .inl (gI G, 12, .inl me))], [(am 17, .inl (gI G, 72, .inl (tbF (kA n lw sk me) n (6 * mo) cn)))], [(am 18, .inl (gI G, 72, .inl (tbF (fun m => hB n (fun j => hoK (kd j)) me (m + 1)) n (6 * mo) hb)))]] H locs := hw
          refine W.eq (g2 := (F0 m 23 ls [.int (tgF (me (mo - 1)) (fun s => (tbF (kA n lw sk me) n (6 * mo) cn) (6 * (mo - 1) + s)) n)])) rfl ?_
          refine aw_eqi (show (tgF (me (mo - 1)) (fun s => (tbF (kA n lw sk me) n (6 * mo) cn) (6 * (mo - 1) + s)) n : Int32) = if mo = 0 then 0 else tgF (me (mo - 1)) (kA n lw sk me (mo - 1)) n from (by rw [if_neg c9]; exact tgF_cong (fun s hs => tbF_at hs hn (by omega)))) ?_
          exact join23  _ _ _ (lv_sub hl [0, 1] rfl) hw
        · refine lv_iconst (v := 0) S.1 S.2.1 dX11_goMonths_12 (by decide) ?_
          refine lv_goto (tgt := 23) S.1 S.2.1 dX11_goMonths_13 (by decide) ?_
          refine aw_eqi (show (0 : Int32) = if mo = 0 then 0 else tgF (me (mo - 1)) (kA n lw sk me (mo - 1)) n from (by rw [if_pos c9])) ?_
          exact join23  _ _ _ (lv_sub hl [0, 1] rfl) hw
  exact loop2 _ 0 (by first | assumption | omega) (Nat.lt_succ_self _) _ _ _ (lv_sub hl [1, 0] rfl) hw
