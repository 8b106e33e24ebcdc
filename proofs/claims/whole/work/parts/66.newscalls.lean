/-! the reference: calls on news -/
theorem ksV_end {nf nt : Nat → Nat} {nn fr si : Nat} {tf : Nat → Int32} (hfr : fr < 32) (hsi : si < 12) {s : Nat} : ksV (nwE nf nt nn fr si tf) fr si 12 s = if fF (fun j => bt (nwE nf nt nn fr si tf j) s) 12 < 12 then nI (fF (fun j => bt (nwE nf nt nn fr si tf j) s) 12) else 9999 := by
  unfold ksV
  by_cases q : fF (fun j => bt (nwE nf nt nn fr si tf j) s) 12 < 12
  · rw [if_pos q, if_pos q]
  · rw [if_neg q, if_neg q]
    by_cases z : s = fr
    · have h1 := fF_no (fun j => bt (nwE nf nt nn fr si tf j) s) 12 si (by omega)
      have h2 : bt (nwE nf nt nn fr si tf si) s = true := by rw [z]; exact nw_fr hfr (by omega)
      rw [h2] at h1
      cases h1
    · rw [if_neg z]
theorem kn_out {nf nt : Nat → Nat} {nn fr si : Nat} {tf : Nat → Int32} (hfr : fr < 32) (hsi : si < 12) {s : Nat} {x : Int32} (h : x = ksV (nwE nf nt nn fr si tf) fr si 12 s) : noI (fF (fun m => bt (nwE nf nt nn fr si tf m) s) 12) 12 = if x = 9999 then -9 else x := by
  rw [h, ksV_end hfr hsi, noI]
  by_cases q : fF (fun j => bt (nwE nf nt nn fr si tf j) s) 12 < 12
  · rw [if_pos q, if_pos q, if_neg (by rw [fa_eq, nI_toInt (by omega), show (9999 : Int32).toInt = 9999 from rfl]; omega)]
  · rw [if_neg q, if_neg q, if_pos rfl]
theorem b_all : ∀ n, n < 7 → ∀ i, i < 32 → bt (nI (2 ^ n - 1)) i = decide (i < n) := by decide +kernel
theorem kp_out {n : Nat} {nf nt : Nat → Nat} {nn fr si : Nat} {tf : Nat → Int32} (hn : n ≤ 6) (hfr : fr < n) (hsi : si < 12) {kf : Nat → Int32} (hk : ∀ s, s < n → kf s = ksV (nwE nf nt nn fr si tf) fr si 12 s) : nI (2 ^ n - 1) &&& (bgF (fun s => decide (kf s ≤ nI 11)) n ^^^ (-1)) = nI (2 ^ n - 1) &&& (nwE nf nt nn fr si tf 11 ^^^ (-1)) := by
  refine b_ext (fun i hi => ?_)
  rw [b_and, b_and, b_not _ hi, b_not _ hi, b_all n (by omega) i hi]
  by_cases h : i < n
  · have e : bt (bgF (fun s => decide (kf s ≤ nI 11)) n) i = bt (nwE nf nt nn fr si tf 11) i := by
      have h1 := bgF_bt (p := fun s => decide (kf s ≤ nI 11)) hi (n := n) (by omega)
      rw [decide_eq_true_eq, hk i h, ksV_le (by omega) (Nat.le_refl 12) (by omega) (by omega)] at h1
      cases hx : bt (bgF (fun s => decide (kf s ≤ nI 11)) n) i <;> cases hy : bt (nwE nf nt nn fr si tf 11) i <;> simp_all
    rw [e]
  · rw [decide_eq_false h, Bool.false_and, Bool.false_and]
set_option maxRecDepth 100000 in
set_option maxHeartbeats 4000000 in
theorem c_X11_knows (l : Launch) (G : aw_G) (am : Nat → Nat) (fl : Int32) (n : Nat) (lw : Int32) (nn ra rsn nr : Nat) (tr : Int32) (nf nt : Nat → Nat) (tu me ks : Nat → Int32) (sv mo so_ : Int32) (hn : n ≤ 6) (hnn : nn ≤ 8) (hnf : ∀ k, k < nn → nf k < n) (hnt : ∀ k, k < nn → nt k < n) (htu : ∀ k, k < 12 → ∀ i, bt (tu k) i = true → i < n) : CT l G yX11_knows wsX11_knows ({ frames := 3, cells := 0, slots := 0, locals := 71 }) [.ref (am 31), .int sv, .int mo, .int so_] [[(am 31, mdO am fl n lw nn ra rsn nr tr)], [(am 5, .inl (gI G, 12, .inl tu))], [(am 9, .inl (gI G, 8, .inl (fun k => nI (nf k))))], [(am 10, .inl (gI G, 8, .inl (fun k => nI (nt k))))], [(am 16, .inl (gI G, 12, .inl me))], [(am 21, .inl (gI G, 6, .inl ks))]] (fun v w => v = some (.int (f_knows n sv so_ mo (nwE nf nt nn (tn sv) (tn mo) tu))) ∧ ∃ (me ks : Nat → Int32), w = [[(am 31, mdO am fl n lw nn ra rsn nr tr)], [(am 5, .inl (gI G, 12, .inl tu))], [(am 9, .inl (gI G, 8, .inl (fun k => nI (nf k))))], [(am 10, .inl (gI G, 8, .inl (fun k => nI (nt k))))], [(am 16, .inl (gI G, 12, .inl me))], [(am 21, .inl (gI G, 6, .inl ks))]]) := by
  refine CT.of (cc := cX11_knows) (nL := 4) (ret := (some .int)) (by decide) rfl (Nat.le_of_ble_eq_true rfl) ?_
  intro p e s m below meth c R args Q A hRm ha hQ hAe hA S hE hr hlk hnm H locs hH0 hL0 ls hl hw
  have S : CallFix p m c cX11_knows 4 s args wsX11_knows RX11 := S
  have hl : lv_has ls 4 [(0, .ref (am 31)), (1, .int sv), (2, .int mo), (3, .int so_)] := hl
  have hinX11 : ∀ w ∈ u_ws RX11 TX11 31, w ∈ wsX11_knows := by decide +kernel
  have hf55 := S.2.2.2.2 (.fieldLink RX11 55 "AwakeTurnsModel" "knowsSince" "[I") (by decide +kernel)
  refine lv_aload_n S.1 S.2.1 dX11_knows_0 rfl (lv_at hl 0 rfl) ?_
  refine lv_iload_n S.1 S.2.1 dX11_knows_1 rfl (lv_at hl 1 rfl) ?_
  refine aw_callV S hE (c_X11_noSleeper l G am fl n lw nn ra rsn nr tr sv (by first | assumption | omega)) gX11_knows_X11_noSleeper (n := 1) rfl (by decide +kernel) rfl (by rw [hRm]; exact ⟨Nat.le_of_ble_eq_true rfl, Nat.le_of_ble_eq_true rfl⟩) (by rw [hRm]; exact ⟨Nat.le_of_ble_eq_true rfl, Nat.le_of_ble_eq_true rfl⟩) hw hA hl.1 [0] rfl rfl (aw_recv (i := 0) hE hw rfl rfl rfl) rfl (Nat.le_of_ble_eq_true rfl) dX11_knows_2 ?_
  rintro v w1 H locs ⟨rfl, rfl⟩ hw
  have hw : bW G A s.heap [[(am 31, mdO am fl n lw nn ra rsn nr tr)], [(am 5, .inl (gI G, 12, .inl tu))], [(am 9, .inl (gI G, 8, .inl (fun k => nI (nf k))))], [(am 10, .inl (gI G, 8, .inl (fun k => nI (nt k))))], [(am 16, .inl (gI G, 12, .inl me))], [(am 21, .inl (gI G, 6, .inl ks))]] H locs := hw
  refine W.eq (g2 := (F0 m 5 ls [.int (if ¬ (0 ≤ sv.toInt ∧ sv.toInt < n) then 1 else 0)])) rfl ?_
  refine aw_ifne (P := ¬ (0 ≤ sv.toInt ∧ sv.toInt < n)) (tgt := 16) S dX11_knows_5 (by decide) (fun c5 => ?_) (fun c5 => ?_)
  · refine lv_iconst (v := (-1)) S.1 S.2.1 dX11_knows_16 (by decide) ?_
    refine aw_eqi (show ((-1) : Int32) = f_knows n sv so_ mo (nwE nf nt nn (tn sv) (tn mo) tu) from (by rw [f_knows, if_neg (fun q => c5 q.1)])) ?_
    exact aw_iret S hr hlk ha hQ hAe hw dX11_knows_17 rfl (Nat.le_of_ble_eq_true rfl) (Nat.le_of_ble_eq_true rfl) ⟨rfl, _, _, rfl⟩
  · have c5 := Decidable.not_not.mp c5
    have hb_sv : tn sv < n := aw_tnL c5
    have hl := Eq.mp (congrArg (fun z_ : Int32 => lv_has ls 4 [(0, .ref (am 31)), (1, .int z_), (2, .int mo), (3, .int so_)]) (show (sv : Int32) = nI (tn sv) from (aw_tnE c5))) hl
    have hl : lv_has ls 4 [(0, .ref (am 31)), (1, .int (nI (tn sv))), (2, .int mo), (3, .int so_)] := hl
    refine lv_aload_n S.1 S.2.1 dX11_knows_8 rfl (lv_at hl 0 rfl) ?_
    refine lv_iload_n S.1 S.2.1 dX11_knows_9 rfl (lv_at hl 3 rfl) ?_
    refine aw_callV S hE (c_X11_noSleeper l G am fl n lw nn ra rsn nr tr so_ (by first | assumption | omega)) gX11_knows_X11_noSleeper (n := 1) rfl (by decide +kernel) rfl (by rw [hRm]; exact ⟨Nat.le_of_ble_eq_true rfl, Nat.le_of_ble_eq_true rfl⟩) (by rw [hRm]; exact ⟨Nat.le_of_ble_eq_true rfl, Nat.le_of_ble_eq_true rfl⟩) hw hA hl.1 [0] rfl rfl (aw_recv (i := 0) hE hw rfl rfl rfl) rfl (Nat.le_of_ble_eq_true rfl) dX11_knows_10 ?_
    rintro v w1 H locs ⟨rfl, rfl⟩ hw
    have hw : bW G A s.heap [[(am 31, mdO am fl n lw nn ra rsn nr tr)], [(am 5, .inl (gI G, 12, .inl tu))], [(am 9, .inl (gI G, 8, .inl (fun k => nI (nf k))))], [(am 10, .inl (gI G, 8, .inl (fun k => nI (nt k))))], [(am 16, .inl (gI G, 12, .inl me))], [(am 21, .inl (gI G, 6, .inl ks))]] H locs := hw
    refine W.eq (g2 := (F0 m 13 ls [.int (if ¬ (0 ≤ so_.toInt ∧ so_.toInt < n) then 1 else 0)])) rfl ?_
    refine aw_ifeq (P := ¬ (0 ≤ so_.toInt ∧ so_.toInt < n)) (tgt := 18) S dX11_knows_13 (by decide) (fun c13 => ?_) (fun c13 => ?_)
    · have c13 := Decidable.not_not.mp c13
      have hb_so_ : tn so_ < n := aw_tnL c13
      have hl := Eq.mp (congrArg (fun z_ : Int32 => lv_has ls 4 [(0, .ref (am 31)), (1, .int (nI (tn sv))), (2, .int mo), (3, .int z_)]) (show (so_ : Int32) = nI (tn so_) from (aw_tnE c13))) hl
      have hl : lv_has ls 4 [(0, .ref (am 31)), (1, .int (nI (tn sv))), (2, .int mo), (3, .int (nI (tn so_)))] := hl
      refine lv_iload_n S.1 S.2.1 dX11_knows_18 rfl (lv_at hl 2 rfl) ?_
      refine aw_callS S hE (c_X11_isMonth l G mo) gX11_knows_X11_isMonth (n := 1) rfl (by decide +kernel) rfl (by rw [hRm]; exact ⟨Nat.le_of_ble_eq_true rfl, Nat.le_of_ble_eq_true rfl⟩) (by rw [hRm]; exact ⟨Nat.le_of_ble_eq_true rfl, Nat.le_of_ble_eq_true rfl⟩) hw hA hl.1 [] rfl rfl rfl (Nat.le_of_ble_eq_true rfl) dX11_knows_19 ?_
      rintro v w1 H locs ⟨rfl, rfl⟩ hw
      have hw : bW G A s.heap [[(am 31, mdO am fl n lw nn ra rsn nr tr)], [(am 5, .inl (gI G, 12, .inl tu))], [(am 9, .inl (gI G, 8, .inl (fun k => nI (nf k))))], [(am 10, .inl (gI G, 8, .inl (fun k => nI (nt k))))], [(am 16, .inl (gI G, 12, .inl me))], [(am 21, .inl (gI G, 6, .inl ks))]] H locs := hw
      refine W.eq (g2 := (F0 m 22 ls [.int (if 0 ≤ mo.toInt ∧ mo.toInt < 12 then 1 else 0)])) rfl ?_
      refine aw_ifne (P := 0 ≤ mo.toInt ∧ mo.toInt < 12) (tgt := 28) S dX11_knows_22 (by decide) (fun c22 => ?_) (fun c22 => ?_)
      · have hb_mo : tn mo < 12 := aw_tnL c22
        have hl := Eq.mp (congrArg (fun z_ : Int32 => lv_has ls 4 [(0, .ref (am 31)), (1, .int (nI (tn sv))), (2, .int z_), (3, .int (nI (tn so_)))]) (show (mo : Int32) = nI (tn mo) from (aw_tnE c22))) hl
        have hl : lv_has ls 4 [(0, .ref (am 31)), (1, .int (nI (tn sv))), (2, .int (nI (tn mo))), (3, .int (nI (tn so_)))] := hl
        refine lv_aload_n S.1 S.2.1 dX11_knows_28 rfl (lv_at hl 0 rfl) ?_
        refine aw_callV S hE (c_X11_meanTold l G am fl n lw nn ra rsn nr tr tu me) gX11_knows_X11_meanTold (n := 0) rfl (by decide +kernel) rfl (by rw [hRm]; exact ⟨Nat.le_of_ble_eq_true rfl, Nat.le_of_ble_eq_true rfl⟩) (by rw [hRm]; exact ⟨Nat.le_of_ble_eq_true rfl, Nat.le_of_ble_eq_true rfl⟩) hw hA hl.1 [0, 1, 4] rfl rfl (aw_recv (i := 0) hE hw rfl rfl rfl) rfl (Nat.le_of_ble_eq_true rfl) dX11_knows_29 ?_
        rintro v w1 H locs ⟨rfl, rfl⟩ hw
        have hw : bW G A s.heap [[(am 31, mdO am fl n lw nn ra rsn nr tr)], [(am 5, .inl (gI G, 12, .inl tu))], [(am 9, .inl (gI G, 8, .inl (fun k => nI (nf k))))], [(am 10, .inl (gI G, 8, .inl (fun k => nI (nt k))))], [(am 16, .inl (gI G, 12, .inl tu))], [(am 21, .inl (gI G, 6, .inl ks))]] H locs := hw
        refine W.eq (g2 := (F0 m 32 ls [])) rfl ?_
        refine lv_aload_n S.1 S.2.1 dX11_knows_32 rfl (lv_at hl 0 rfl) ?_
        refine lv_iload_n S.1 S.2.1 dX11_knows_33 rfl (lv_at hl 1 rfl) ?_
        refine lv_iload_n S.1 S.2.1 dX11_knows_34 rfl (lv_at hl 2 rfl) ?_
        refine aw_callV S hE (c_X11_goNews l G am fl n lw nn ra rsn nr tr nf nt tu ks (tn sv) (tn mo) (by first | assumption | omega) (by first | assumption | omega) (by first | assumption | omega) (by first | assumption | omega) (by first | assumption | omega) (by first | assumption | omega) (by first | assumption | omega)) gX11_knows_X11_goNews (n := 2) rfl (by decide +kernel) rfl (by rw [hRm]; exact ⟨Nat.le_of_ble_eq_true rfl, Nat.le_of_ble_eq_true rfl⟩) (by rw [hRm]; exact ⟨Nat.le_of_ble_eq_true rfl, Nat.le_of_ble_eq_true rfl⟩) hw hA hl.1 [0, 2, 3, 4, 5] rfl rfl (aw_recv (i := 0) hE hw rfl rfl rfl) rfl (Nat.le_of_ble_eq_true rfl) dX11_knows_35 ?_
        rintro v w1 H locs ⟨rfl, kf, hkf, rfl⟩ hw
        have hw : bW G A s.heap [[(am 31, mdO am fl n lw nn ra rsn nr tr)], [(am 5, .inl (gI G, 12, .inl tu))], [(am 9, .inl (gI G, 8, .inl (fun k => nI (nf k))))], [(am 10, .inl (gI G, 8, .inl (fun k => nI (nt k))))], [(am 16, .inl (gI G, 12, .inl tu))], [(am 21, .inl (gI G, 6, .inl kf))]] H locs := hw
        refine W.eq (g2 := (F0 m 38 ls [])) rfl ?_
        refine lv_aload_n S.1 S.2.1 dX11_knows_38 rfl (lv_at hl 0 rfl) ?_
        refine aw_get S hE hw 0 (C := RX11) (T := TX11) (N := 31) rfl rfl hinX11 21 (by decide) hf55 rfl dX11_knows_39 ?_
        refine lv_iload_n S.1 S.2.1 dX11_knows_42 rfl (lv_at hl 3 rfl) ?_
        refine aw_iald S hE hw 5 (k := (tn so_)) rfl (by omega) (by decide) dX11_knows_43 ?_
        refine lv_sipush (v := 9999) S.1 S.2.1 dX11_knows_44 (by decide) ?_
        refine lv_icmp_ne (tgt := 55) S.1 S.2.1 dX11_knows_47 (by decide) (fun c47 => ?_) (fun c47 => ?_)
        · refine lv_aload_n S.1 S.2.1 dX11_knows_55 rfl (lv_at hl 0 rfl) ?_
          refine aw_get S hE hw 0 (C := RX11) (T := TX11) (N := 31) rfl rfl hinX11 21 (by decide) hf55 rfl dX11_knows_56 ?_
          refine lv_iload_n S.1 S.2.1 dX11_knows_59 rfl (lv_at hl 3 rfl) ?_
          refine aw_iald S hE hw 5 (k := (tn so_)) rfl (by omega) (by decide) dX11_knows_60 ?_
          refine aw_eqi (show (kf (tn so_) : Int32) = f_knows n sv so_ mo (nwE nf nt nn (tn sv) (tn mo) tu) from (by rw [f_knows, if_pos ⟨c5, c13⟩, if_pos c22, kn_out (by omega) (by omega) (hkf _ hb_so_), if_neg c47])) ?_
          exact aw_iret S hr hlk ha hQ hAe hw dX11_knows_61 rfl (Nat.le_of_ble_eq_true rfl) (Nat.le_of_ble_eq_true rfl) ⟨rfl, _, _, rfl⟩
        · refine lv_bipush (v := (-9)) S.1 S.2.1 dX11_knows_50 (by decide) ?_
          refine lv_goto (tgt := 61) S.1 S.2.1 dX11_knows_52 (by decide) ?_
          refine aw_eqi (show ((-9) : Int32) = f_knows n sv so_ mo (nwE nf nt nn (tn sv) (tn mo) tu) from (by rw [f_knows, if_pos ⟨c5, c13⟩, if_pos c22, kn_out (by omega) (by omega) (hkf _ hb_so_), if_pos c47])) ?_
          exact aw_iret S hr hlk ha hQ hAe hw dX11_knows_61 rfl (Nat.le_of_ble_eq_true rfl) (Nat.le_of_ble_eq_true rfl) ⟨rfl, _, _, rfl⟩
      · refine lv_bipush (v := (-2)) S.1 S.2.1 dX11_knows_25 (by decide) ?_
        refine aw_eqi (show ((-2) : Int32) = f_knows n sv so_ mo (nwE nf nt nn (tn sv) (tn mo) tu) from (by rw [f_knows, if_pos ⟨c5, c13⟩, if_neg c22])) ?_
        exact aw_iret S hr hlk ha hQ hAe hw dX11_knows_27 rfl (Nat.le_of_ble_eq_true rfl) (Nat.le_of_ble_eq_true rfl) ⟨rfl, _, _, rfl⟩
    · refine lv_iconst (v := (-1)) S.1 S.2.1 dX11_knows_16 (by decide) ?_
      refine aw_eqi (show ((-1) : Int32) = f_knows n sv so_ mo (nwE nf nt nn (tn sv) (tn mo) tu) from (by rw [f_knows, if_neg (fun q => c13 q.2)])) ?_
      exact aw_iret S hr hlk ha hQ hAe hw dX11_knows_17 rfl (Nat.le_of_ble_eq_true rfl) (Nat.le_of_ble_eq_true rfl) ⟨rfl, _, _, rfl⟩
set_option maxRecDepth 100000 in
set_option maxHeartbeats 4000000 in
theorem c_X11_kept (l : Launch) (G : aw_G) (am : Nat → Nat) (fl : Int32) (n : Nat) (lw : Int32) (nn ra rsn nr : Nat) (tr : Int32) (nf nt : Nat → Nat) (tu me ks : Nat → Int32) (sv mo : Int32) (hn : n ≤ 6) (hnn : nn ≤ 8) (hnf : ∀ k, k < nn → nf k < n) (hnt : ∀ k, k < nn → nt k < n) (htu : ∀ k, k < 12 → ∀ i, bt (tu k) i = true → i < n) : CT l G yX11_kept wsX11_kept ({ frames := 3, cells := 0, slots := 0, locals := 71 }) [.ref (am 31), .int sv, .int mo] [[(am 31, mdO am fl n lw nn ra rsn nr tr)], [(am 5, .inl (gI G, 12, .inl tu))], [(am 9, .inl (gI G, 8, .inl (fun k => nI (nf k))))], [(am 10, .inl (gI G, 8, .inl (fun k => nI (nt k))))], [(am 16, .inl (gI G, 12, .inl me))], [(am 21, .inl (gI G, 6, .inl ks))]] (fun v w => v = some (.int (f_sm n sv mo (nI (2 ^ n - 1) &&& (nwE nf nt nn (tn sv) (tn mo) tu 11 ^^^ (-1))))) ∧ ∃ (me ks : Nat → Int32), w = [[(am 31, mdO am fl n lw nn ra rsn nr tr)], [(am 5, .inl (gI G, 12, .inl tu))], [(am 9, .inl (gI G, 8, .inl (fun k => nI (nf k))))], [(am 10, .inl (gI G, 8, .inl (fun k => nI (nt k))))], [(am 16, .inl (gI G, 12, .inl me))], [(am 21, .inl (gI G, 6, .inl ks))]]) := by
  refine CT.of (cc := cX11_kept) (nL := 3) (ret := (some .int)) (by decide) rfl (Nat.le_of_ble_eq_true rfl) ?_
  intro p e s m below meth c R args Q A hRm ha hQ hAe hA S hE hr hlk hnm H locs hH0 hL0 ls hl hw
  have S : CallFix p m c cX11_kept 3 s args wsX11_kept RX11 := S
  have hl : lv_has ls 3 [(0, .ref (am 31)), (1, .int sv), (2, .int mo)] := hl
  refine lv_aload_n S.1 S.2.1 dX11_kept_0 rfl (lv_at hl 0 rfl) ?_
  refine lv_iload_n S.1 S.2.1 dX11_kept_1 rfl (lv_at hl 1 rfl) ?_
  refine aw_callV S hE (c_X11_noSleeper l G am fl n lw nn ra rsn nr tr sv (by first | assumption | omega)) gX11_kept_X11_noSleeper (n := 1) rfl (by decide +kernel) rfl (by rw [hRm]; exact ⟨Nat.le_of_ble_eq_true rfl, Nat.le_of_ble_eq_true rfl⟩) (by rw [hRm]; exact ⟨Nat.le_of_ble_eq_true rfl, Nat.le_of_ble_eq_true rfl⟩) hw hA hl.1 [0] rfl rfl (aw_recv (i := 0) hE hw rfl rfl rfl) rfl (Nat.le_of_ble_eq_true rfl) dX11_kept_2 ?_
  rintro v w1 H locs ⟨rfl, rfl⟩ hw
  have hw : bW G A s.heap [[(am 31, mdO am fl n lw nn ra rsn nr tr)], [(am 5, .inl (gI G, 12, .inl tu))], [(am 9, .inl (gI G, 8, .inl (fun k => nI (nf k))))], [(am 10, .inl (gI G, 8, .inl (fun k => nI (nt k))))], [(am 16, .inl (gI G, 12, .inl me))], [(am 21, .inl (gI G, 6, .inl ks))]] H locs := hw
  refine W.eq (g2 := (F0 m 5 ls [.int (if ¬ (0 ≤ sv.toInt ∧ sv.toInt < n) then 1 else 0)])) rfl ?_
  refine aw_ifeq (P := ¬ (0 ≤ sv.toInt ∧ sv.toInt < n)) (tgt := 10) S dX11_kept_5 (by decide) (fun c5 => ?_) (fun c5 => ?_)
  · have c5 := Decidable.not_not.mp c5
    have hb_sv : tn sv < n := aw_tnL c5
    have hl := Eq.mp (congrArg (fun z_ : Int32 => lv_has ls 3 [(0, .ref (am 31)), (1, .int z_), (2, .int mo)]) (show (sv : Int32) = nI (tn sv) from (aw_tnE c5))) hl
    have hl : lv_has ls 3 [(0, .ref (am 31)), (1, .int (nI (tn sv))), (2, .int mo)] := hl
    refine lv_iload_n S.1 S.2.1 dX11_kept_10 rfl (lv_at hl 2 rfl) ?_
    refine aw_callS S hE (c_X11_isMonth l G mo) gX11_kept_X11_isMonth (n := 1) rfl (by decide +kernel) rfl (by rw [hRm]; exact ⟨Nat.le_of_ble_eq_true rfl, Nat.le_of_ble_eq_true rfl⟩) (by rw [hRm]; exact ⟨Nat.le_of_ble_eq_true rfl, Nat.le_of_ble_eq_true rfl⟩) hw hA hl.1 [] rfl rfl rfl (Nat.le_of_ble_eq_true rfl) dX11_kept_11 ?_
    rintro v w1 H locs ⟨rfl, rfl⟩ hw
    have hw : bW G A s.heap [[(am 31, mdO am fl n lw nn ra rsn nr tr)], [(am 5, .inl (gI G, 12, .inl tu))], [(am 9, .inl (gI G, 8, .inl (fun k => nI (nf k))))], [(am 10, .inl (gI G, 8, .inl (fun k => nI (nt k))))], [(am 16, .inl (gI G, 12, .inl me))], [(am 21, .inl (gI G, 6, .inl ks))]] H locs := hw
    refine W.eq (g2 := (F0 m 14 ls [.int (if 0 ≤ mo.toInt ∧ mo.toInt < 12 then 1 else 0)])) rfl ?_
    refine aw_ifne (P := 0 ≤ mo.toInt ∧ mo.toInt < 12) (tgt := 20) S dX11_kept_14 (by decide) (fun c14 => ?_) (fun c14 => ?_)
    · have hb_mo : tn mo < 12 := aw_tnL c14
      have hl := Eq.mp (congrArg (fun z_ : Int32 => lv_has ls 3 [(0, .ref (am 31)), (1, .int (nI (tn sv))), (2, .int z_)]) (show (mo : Int32) = nI (tn mo) from (aw_tnE c14))) hl
      have hl : lv_has ls 3 [(0, .ref (am 31)), (1, .int (nI (tn sv))), (2, .int (nI (tn mo)))] := hl
      refine lv_aload_n S.1 S.2.1 dX11_kept_20 rfl (lv_at hl 0 rfl) ?_
      refine aw_callV S hE (c_X11_meanTold l G am fl n lw nn ra rsn nr tr tu me) gX11_kept_X11_meanTold (n := 0) rfl (by decide +kernel) rfl (by rw [hRm]; exact ⟨Nat.le_of_ble_eq_true rfl, Nat.le_of_ble_eq_true rfl⟩) (by rw [hRm]; exact ⟨Nat.le_of_ble_eq_true rfl, Nat.le_of_ble_eq_true rfl⟩) hw hA hl.1 [0, 1, 4] rfl rfl (aw_recv (i := 0) hE hw rfl rfl rfl) rfl (Nat.le_of_ble_eq_true rfl) dX11_kept_21 ?_
      rintro v w1 H locs ⟨rfl, rfl⟩ hw
      have hw : bW G A s.heap [[(am 31, mdO am fl n lw nn ra rsn nr tr)], [(am 5, .inl (gI G, 12, .inl tu))], [(am 9, .inl (gI G, 8, .inl (fun k => nI (nf k))))], [(am 10, .inl (gI G, 8, .inl (fun k => nI (nt k))))], [(am 16, .inl (gI G, 12, .inl tu))], [(am 21, .inl (gI G, 6, .inl ks))]] H locs := hw
      refine W.eq (g2 := (F0 m 24 ls [])) rfl ?_
      refine lv_aload_n S.1 S.2.1 dX11_kept_24 rfl (lv_at hl 0 rfl) ?_
      refine lv_iload_n S.1 S.2.1 dX11_kept_25 rfl (lv_at hl 1 rfl) ?_
      refine lv_iload_n S.1 S.2.1 dX11_kept_26 rfl (lv_at hl 2 rfl) ?_
      refine aw_callV S hE (c_X11_goNews l G am fl n lw nn ra rsn nr tr nf nt tu ks (tn sv) (tn mo) (by first | assumption | omega) (by first | assumption | omega) (by first | assumption | omega) (by first | assumption | omega) (by first | assumption | omega) (by first | assumption | omega) (by first | assumption | omega)) gX11_kept_X11_goNews (n := 2) rfl (by decide +kernel) rfl (by rw [hRm]; exact ⟨Nat.le_of_ble_eq_true rfl, Nat.le_of_ble_eq_true rfl⟩) (by rw [hRm]; exact ⟨Nat.le_of_ble_eq_true rfl, Nat.le_of_ble_eq_true rfl⟩) hw hA hl.1 [0, 2, 3, 4, 5] rfl rfl (aw_recv (i := 0) hE hw rfl rfl rfl) rfl (Nat.le_of_ble_eq_true rfl) dX11_kept_27 ?_
      rintro v w1 H locs ⟨rfl, kf, hkf, rfl⟩ hw
      have hw : bW G A s.heap [[(am 31, mdO am fl n lw nn ra rsn nr tr)], [(am 5, .inl (gI G, 12, .inl tu))], [(am 9, .inl (gI G, 8, .inl (fun k => nI (nf k))))], [(am 10, .inl (gI G, 8, .inl (fun k => nI (nt k))))], [(am 16, .inl (gI G, 12, .inl tu))], [(am 21, .inl (gI G, 6, .inl kf))]] H locs := hw
      refine W.eq (g2 := (F0 m 30 ls [])) rfl ?_
      refine lv_aload_n S.1 S.2.1 dX11_kept_30 rfl (lv_at hl 0 rfl) ?_
      refine aw_callV S hE (c_X11_all l G am fl n lw nn ra rsn nr tr (by first | assumption | omega)) gX11_kept_X11_all (n := 0) rfl (by decide +kernel) rfl (by rw [hRm]; exact ⟨Nat.le_of_ble_eq_true rfl, Nat.le_of_ble_eq_true rfl⟩) (by rw [hRm]; exact ⟨Nat.le_of_ble_eq_true rfl, Nat.le_of_ble_eq_true rfl⟩) hw hA hl.1 [0] rfl rfl (aw_recv (i := 0) hE hw rfl rfl rfl) rfl (Nat.le_of_ble_eq_true rfl) dX11_kept_31 ?_
      rintro v w1 H locs ⟨rfl, rfl⟩ hw
      have hw : bW G A s.heap [[(am 31, mdO am fl n lw nn ra rsn nr tr)], [(am 5, .inl (gI G, 12, .inl tu))], [(am 9, .inl (gI G, 8, .inl (fun k => nI (nf k))))], [(am 10, .inl (gI G, 8, .inl (fun k => nI (nt k))))], [(am 16, .inl (gI G, 12, .inl tu))], [(am 21, .inl (gI G, 6, .inl kf))]] H locs := hw
      refine W.eq (g2 := (F0 m 34 ls [.int (nI (2 ^ n - 1))])) rfl ?_
      refine lv_aload_n S.1 S.2.1 dX11_kept_34 rfl (lv_at hl 0 rfl) ?_
      refine lv_bipush (v := 11) S.1 S.2.1 dX11_kept_35 (by decide) ?_
      refine aw_callV S hE (c_X11_knownBy l G am fl n lw nn ra rsn nr tr kf 11 (by first | assumption | omega) (by first | assumption | omega)) gX11_kept_X11_knownBy (n := 1) rfl (by decide +kernel) rfl (by rw [hRm]; exact ⟨Nat.le_of_ble_eq_true rfl, Nat.le_of_ble_eq_true rfl⟩) (by rw [hRm]; exact ⟨Nat.le_of_ble_eq_true rfl, Nat.le_of_ble_eq_true rfl⟩) hw hA hl.1 [0, 5] rfl rfl (aw_recv (i := 0) hE hw rfl rfl rfl) rfl (Nat.le_of_ble_eq_true rfl) dX11_kept_37 ?_
      rintro v w1 H locs ⟨rfl, rfl⟩ hw
      have hw : bW G A s.heap [[(am 31, mdO am fl n lw nn ra rsn nr tr)], [(am 5, .inl (gI G, 12, .inl tu))], [(am 9, .inl (gI G, 8, .inl (fun k => nI (nf k))))], [(am 10, .inl (gI G, 8, .inl (fun k => nI (nt k))))], [(am 16, .inl (gI G, 12, .inl tu))], [(am 21, .inl (gI G, 6, .inl kf))]] H locs := hw
      refine W.eq (g2 := (F0 m 40 ls [.int (bgF (fun s => decide (kf s ≤ nI 11)) n), .int (nI (2 ^ n - 1))])) rfl ?_
      refine lv_iconst (v := (-1)) S.1 S.2.1 dX11_kept_40 (by decide) ?_
      refine lv_ixor S.1 S.2.1 dX11_kept_41 ?_
      refine lv_iand S.1 S.2.1 dX11_kept_42 ?_
      refine aw_eqi (show ((nI (2 ^ n - 1)) &&& ((bgF (fun s => decide (kf s ≤ nI 11)) n) ^^^ (-1)) : Int32) = f_sm n sv mo (nI (2 ^ n - 1) &&& (nwE nf nt nn (tn sv) (tn mo) tu 11 ^^^ (-1))) from (by rw [f_sm, if_pos c5, if_pos c14]; exact kp_out hn (by omega) (by omega) hkf)) ?_
      exact aw_iret S hr hlk ha hQ hAe hw dX11_kept_43 rfl (Nat.le_of_ble_eq_true rfl) (Nat.le_of_ble_eq_true rfl) ⟨rfl, _, _, rfl⟩
    · refine lv_bipush (v := (-2)) S.1 S.2.1 dX11_kept_17 (by decide) ?_
      refine aw_eqi (show ((-2) : Int32) = f_sm n sv mo (nI (2 ^ n - 1) &&& (nwE nf nt nn (tn sv) (tn mo) tu 11 ^^^ (-1))) from (by rw [f_sm, if_pos c5, if_neg c14])) ?_
      exact aw_iret S hr hlk ha hQ hAe hw dX11_kept_19 rfl (Nat.le_of_ble_eq_true rfl) (Nat.le_of_ble_eq_true rfl) ⟨rfl, _, _, rfl⟩
  · refine lv_iconst (v := (-1)) S.1 S.2.1 dX11_kept_8 (by decide) ?_
    refine aw_eqi (show ((-1) : Int32) = f_sm n sv mo (nI (2 ^ n - 1) &&& (nwE nf nt nn (tn sv) (tn mo) tu 11 ^^^ (-1))) from (by rw [f_sm, if_neg c5])) ?_
    exact aw_iret S hr hlk ha hQ hAe hw dX11_kept_9 rfl (Nat.le_of_ble_eq_true rfl) (Nat.le_of_ble_eq_true rfl) ⟨rfl, _, _, rfl⟩
set_option maxRecDepth 100000 in
set_option maxHeartbeats 4000000 in
theorem c_X11_areSo (l : Launch) (G : aw_G) (am : Nat → Nat) (fl : Int32) (n : Nat) (lw : Int32) (nn ra rsn nr : Nat) (tr : Int32) (ks kn : Nat → Int32) (ro rmo : Nat → Nat) (rb : Nat → Bool) (hn : n ≤ 6) (hnr : nr ≤ 8) (hro : ∀ k, k < nr → ro k < n) (hrm : ∀ k, k < nr → rmo k < 12) (hks : ∀ k, k < nr → (ks (ro k) ≤ nI (rmo k) ↔ bt (kn (rmo k)) (ro k) = true)) : CT l G yX11_areSo wsX11_areSo ({ frames := 0, cells := 0, slots := 0, locals := 0 }) [.ref (am 31)] [[(am 31, mdO am fl n lw nn ra rsn nr tr)], [(am 21, .inl (gI G, 6, .inl ks))], [(am 23, .inl (gI G, 8, .inl (fun k => nI (ro k))))], [(am 24, .inl (gI G, 8, .inl (fun k => nI (rmo k))))], [(am 25, .inl (gZ G, 8, .inl (fun k => if rb k = true then 1 else 0)))]] (dt (some (.int (if rsF kn ro rmo rb nr = nr then 1 else 0))) [[(am 31, mdO am fl n lw nn ra rsn nr tr)], [(am 21, .inl (gI G, 6, .inl ks))], [(am 23, .inl (gI G, 8, .inl (fun k => nI (ro k))))], [(am 24, .inl (gI G, 8, .inl (fun k => nI (rmo k))))], [(am 25, .inl (gZ G, 8, .inl (fun k => if rb k = true then 1 else 0)))]]) := by
  refine CT.of (cc := cX11_areSo) (nL := 3) (ret := (some .boolean)) (by decide) rfl (Nat.le_of_ble_eq_true rfl) ?_
  intro p e s m below meth c R args Q A hRm ha hQ hAe hA S hE hr hlk hnm H locs hH0 hL0 ls hl hw
  have S : CallFix p m c cX11_areSo 3 s args wsX11_areSo RX11 := S
  have hl : lv_has ls 3 [(0, .ref (am 31))] := hl
  have hinX11 : ∀ w ∈ u_ws RX11 TX11 31, w ∈ wsX11_areSo := by decide +kernel
  have hf147 := S.2.2.2.2 (.fieldLink RX11 147 "AwakeTurnsModel" "readings" "I") (by decide +kernel)
  have hf55 := S.2.2.2.2 (.fieldLink RX11 55 "AwakeTurnsModel" "knowsSince" "[I") (by decide +kernel)
  have hf58 := S.2.2.2.2 (.fieldLink RX11 58 "AwakeTurnsModel" "readingOf" "[I") (by decide +kernel)
  have hf61 := S.2.2.2.2 (.fieldLink RX11 61 "AwakeTurnsModel" "readingIn" "[I") (by decide +kernel)
  have hf64 := S.2.2.2.2 (.fieldLink RX11 64 "AwakeTurnsModel" "readingKnew" "[Z") (by decide +kernel)
  refine lv_iconst (v := 1) S.1 S.2.1 dX11_areSo_0 (by decide) ?_
  refine lv_istore_n (lv' := [(1, .int 1), (0, .ref (am 31))]) S.1 S.2.1 dX11_areSo_1 rfl hl (by decide) rfl (fun ls hl => ?_)
  refine lv_iconst (v := 0) S.1 S.2.1 dX11_areSo_2 (by decide) ?_
  refine lv_istore_n (lv' := [(2, .int 0), (1, .int 1), (0, .ref (am 31))]) S.1 S.2.1 dX11_areSo_3 rfl hl (by decide) rfl (fun ls hl => ?_)
  have hl := Eq.mp (congrArg (fun z_ : Int32 => lv_has ls 3 [(2, .int 0), (1, .int z_), (0, .ref (am 31))]) (show (1 : Int32) = if fF (fun k => bt (kn (rmo k)) (ro k) != rb k) 0 = 0 then 1 else 0 from rfl)) hl
  have hl : lv_has ls 3 [(2, .int 0), (1, .int (if fF (fun k => bt (kn (rmo k)) (ro k) != rb k) 0 = 0 then 1 else 0)), (0, .ref (am 31))] := hl
  have loop4 : ∀ (fu : Nat) (i : Nat), (i ≤ nr) → (nr - i) < fu → ∀ (ls : Array Slot) (H : Heap) (locs : List Loc), lv_has ls 3 [(0, .ref (am 31)), (1, .int (if fF (fun k => bt (kn (rmo k)) (ro k) != rb k) i = i then 1 else 0)), (2, .int (nI i))] → bW G A s.heap [[(am 31, mdO am fl n lw nn ra rsn nr tr)], [(am 21, .inl (gI G, 6, .inl ks))], [(am 23, .inl (gI G, 8, .inl (fun k => nI (ro k))))], [(am 24, .inl (gI G, 8, .inl (fun k => nI (rmo k))))], [(am 25, .inl (gZ G, 8, .inl (fun k => if rb k = true then 1 else 0)))]] H locs → W p l e R s m args below meth c H locs 0 0 Q (F0 m 4 ls []) := by
    intro fu
    induction fu with
    | zero => intro i _ hm; exact absurd hm (Nat.not_lt_zero _)
    | succ fu ih4 =>
      intro i hi hm ls H locs hl hw
      refine lv_iload_n S.1 S.2.1 dX11_areSo_4 rfl (lv_at hl 2 rfl) ?_
      refine lv_aload_n S.1 S.2.1 dX11_areSo_5 rfl (lv_at hl 0 rfl) ?_
      refine aw_get S hE hw 0 (C := RX11) (T := TX11) (N := 31) rfl rfl hinX11 22 (by decide) hf147 rfl dX11_areSo_6 ?_
      refine aw_icmpN_ge (x := i) (y := nr) (tgt := 62) S (by omega) (by omega) dX11_areSo_9 (by decide) (fun c9 => ?_) (fun c9 => ?_)
      · have ex_i : i = nr := by omega
        try rw [ex_i] at hl
        try rw [ex_i] at hw
        refine lv_iload_n S.1 S.2.1 dX11_areSo_62 rfl (lv_at hl 1 rfl) ?_
        refine aw_eqi (show (if fF (fun k => bt (kn (rmo k)) (ro k) != rb k) nr = nr then 1 else 0 : Int32) = if rsF kn ro rmo rb nr = nr then 1 else 0 from rfl) ?_
        exact aw_iret S hr hlk ha hQ hAe hw dX11_areSo_63 (aw_nb _) (Nat.le_of_ble_eq_true rfl) (Nat.le_of_ble_eq_true rfl) ⟨rfl, rfl⟩
      · have hro1 := hro i c9
        have hrm1 := hrm i c9
        refine lv_iload_n S.1 S.2.1 dX11_areSo_12 rfl (lv_at hl 1 rfl) ?_
        have join55 : ∀ (H : Heap) (locs : List Loc), ∀ (ls : Array Slot), lv_has ls 3 [(0, .ref (am 31)), (1, .int (if fF (fun k => bt (kn (rmo k)) (ro k) != rb k) i = i then 1 else 0)), (2, .int (nI i))] → bW G A s.heap [[(am 31, mdO am fl n lw nn ra rsn nr tr)], [(am 21, .inl (gI G, 6, .inl ks))], [(am 23, .inl (gI G, 8, .inl (fun k => nI (ro k))))], [(am 24, .inl (gI G, 8, .inl (fun k => nI (rmo k))))], [(am 25, .inl (gZ G, 8, .inl (fun k => if rb k = true then 1 else 0)))]] H locs → W p l e R s m args below meth c H locs 0 0 Q (F0 m 55 ls [.int (if fF (fun k => bt (kn (rmo k)) (ro k) != rb k) (i + 1) = i + 1 then 1 else 0)]) := by
          intro  H locs ls hl hw
          refine lv_istore_n (lv' := [(1, .int (if fF (fun k => bt (kn (rmo k)) (ro k) != rb k) (i + 1) = i + 1 then 1 else 0)), (0, .ref (am 31)), (2, .int (nI i))]) S.1 S.2.1 dX11_areSo_55 rfl hl (by decide) rfl (fun ls hl => ?_)
          refine lv_iinc (v := nI (i + 1)) (lv' := [(2, .int (nI (i + 1))), (1, .int (if fF (fun k => bt (kn (rmo k)) (ro k) != rb k) (i + 1) = i + 1 then 1 else 0)), (0, .ref (am 31))]) S.1 S.2.1 dX11_areSo_56 hl (k := 2) rfl (by first | exact nI_1 _ | exact nI_add _ _ | rfl) (by decide) rfl (fun ls hl => ?_)
          refine lv_goto (tgt := 4) S.1 S.2.1 dX11_areSo_59 (by decide) ?_
          exact ih4 (i + 1) (by first | assumption | omega) (by omega) _ _ _ (lv_sub hl [2, 1, 0] rfl) hw
        refine aw_ifeq (P := fF (fun k => bt (kn (rmo k)) (ro k) != rb k) i = i) (tgt := 54) S dX11_areSo_13 (by decide) (fun c13 => ?_) (fun c13 => ?_)
        · refine lv_iconst (v := 0) S.1 S.2.1 dX11_areSo_54 (by decide) ?_
          refine aw_eqi (show (0 : Int32) = if fF (fun k => bt (kn (rmo k)) (ro k) != rb k) (i + 1) = i + 1 then 1 else 0 from (by rw [if_neg (fun q => c13 (fF_sB.mp q).1)])) ?_
          exact join55  _ _ _ (lv_sub hl [0, 1, 2] rfl) hw
        · refine lv_aload_n S.1 S.2.1 dX11_areSo_16 rfl (lv_at hl 0 rfl) ?_
          refine aw_get S hE hw 0 (C := RX11) (T := TX11) (N := 31) rfl rfl hinX11 21 (by decide) hf55 rfl dX11_areSo_17 ?_
          refine lv_aload_n S.1 S.2.1 dX11_areSo_20 rfl (lv_at hl 0 rfl) ?_
          refine aw_get S hE hw 0 (C := RX11) (T := TX11) (N := 31) rfl rfl hinX11 23 (by decide) hf58 rfl dX11_areSo_21 ?_
          refine lv_iload_n S.1 S.2.1 dX11_areSo_24 rfl (lv_at hl 2 rfl) ?_
          refine aw_iald S hE hw 2 (k := i) rfl (by omega) (by decide) dX11_areSo_25 ?_
          refine aw_iald S hE hw 1 (k := (ro i)) rfl (by omega) (by decide) dX11_areSo_26 ?_
          refine lv_aload_n S.1 S.2.1 dX11_areSo_27 rfl (lv_at hl 0 rfl) ?_
          refine aw_get S hE hw 0 (C := RX11) (T := TX11) (N := 31) rfl rfl hinX11 24 (by decide) hf61 rfl dX11_areSo_28 ?_
          refine lv_iload_n S.1 S.2.1 dX11_areSo_31 rfl (lv_at hl 2 rfl) ?_
          refine aw_iald S hE hw 3 (k := i) rfl (by omega) (by decide) dX11_areSo_32 ?_
          have join41 : ∀ (H : Heap) (locs : List Loc), ∀ (ls : Array Slot), lv_has ls 3 [(0, .ref (am 31)), (1, .int (if fF (fun k => bt (kn (rmo k)) (ro k) != rb k) i = i then 1 else 0)), (2, .int (nI i))] → bW G A s.heap [[(am 31, mdO am fl n lw nn ra rsn nr tr)], [(am 21, .inl (gI G, 6, .inl ks))], [(am 23, .inl (gI G, 8, .inl (fun k => nI (ro k))))], [(am 24, .inl (gI G, 8, .inl (fun k => nI (rmo k))))], [(am 25, .inl (gZ G, 8, .inl (fun k => if rb k = true then 1 else 0)))]] H locs → W p l e R s m args below meth c H locs 0 0 Q (F0 m 41 ls [.int (if bt (kn (rmo i)) (ro i) = true then 1 else 0)]) := by
            intro  H locs ls hl hw
            refine lv_aload_n S.1 S.2.1 dX11_areSo_41 rfl (lv_at hl 0 rfl) ?_
            refine aw_get S hE hw 0 (C := RX11) (T := TX11) (N := 31) rfl rfl hinX11 25 (by decide) hf64 rfl dX11_areSo_42 ?_
            refine lv_iload_n S.1 S.2.1 dX11_areSo_45 rfl (lv_at hl 2 rfl) ?_
            refine aw_zald S hE hw 4 (k := i) rfl (by omega) (by decide) dX11_areSo_46 ?_
            refine lv_icmp_ne (tgt := 54) S.1 S.2.1 dX11_areSo_47 (by decide) (fun c47 => ?_) (fun c47 => ?_)
            · refine lv_iconst (v := 0) S.1 S.2.1 dX11_areSo_54 (by decide) ?_
              refine aw_eqi (show (0 : Int32) = if fF (fun k => bt (kn (rmo k)) (ro k) != rb k) (i + 1) = i + 1 then 1 else 0 from (by rw [if_neg (fun q => c47 (b_eqB.mpr (bne_eq_false_iff_eq.mp (fF_sB.mp q).2)))])) ?_
              exact join55  _ _ _ (lv_sub hl [0, 1, 2] rfl) hw
            · refine lv_iconst (v := 1) S.1 S.2.1 dX11_areSo_50 (by decide) ?_
              refine lv_goto (tgt := 55) S.1 S.2.1 dX11_areSo_51 (by decide) ?_
              refine aw_eqi (show (1 : Int32) = if fF (fun k => bt (kn (rmo k)) (ro k) != rb k) (i + 1) = i + 1 then 1 else 0 from (by rw [if_pos (fF_sB.mpr ⟨c13, bne_eq_false_iff_eq.mpr (b_eqB.mp c47)⟩)])) ?_
              exact join55  _ _ _ (lv_sub hl [0, 1, 2] rfl) hw
          refine lv_icmp_gt (tgt := 40) S.1 S.2.1 dX11_areSo_33 (by decide) (fun c33 => ?_) (fun c33 => ?_)
          · refine lv_iconst (v := 0) S.1 S.2.1 dX11_areSo_40 (by decide) ?_
            refine aw_eqi (show (0 : Int32) = if bt (kn (rmo i)) (ro i) = true then 1 else 0 from (by rw [if_neg (fun q => by have q1 := (hks i c9).mpr q; rw [fa_lt] at c33; rw [fa_le] at q1; omega)])) ?_
            exact join41  _ _ _ (lv_sub hl [0, 1, 2] rfl) hw
          · refine lv_iconst (v := 1) S.1 S.2.1 dX11_areSo_36 (by decide) ?_
            refine lv_goto (tgt := 41) S.1 S.2.1 dX11_areSo_37 (by decide) ?_
            refine aw_eqi (show (1 : Int32) = if bt (kn (rmo i)) (ro i) = true then 1 else 0 from (by rw [if_pos ((hks i c9).mp (by rw [fa_lt] at c33; rw [fa_le]; omega))])) ?_
            exact join41  _ _ _ (lv_sub hl [0, 1, 2] rfl) hw
  exact loop4 _ 0 (by first | assumption | omega) (Nat.lt_succ_self _) _ _ _ (lv_sub hl [2, 1, 0] rfl) hw
set_option maxRecDepth 100000 in
set_option maxHeartbeats 4000000 in
theorem c_X11_reading (l : Launch) (G : aw_G) (am : Nat → Nat) (fl : Int32) (n : Nat) (lw : Int32) (nn ra rsn nr : Nat) (tr : Int32) (ro rmo : Nat → Nat) (rb : Nat → Bool) (sv mo : Int32) (kw : Bool) (hn : n ≤ 6) (hnr : nr ≤ 8) : CT l G yX11_reading wsX11_reading ({ frames := 2, cells := 0, slots := 0, locals := 46 }) [.ref (am 31), .int sv, .int mo, .int (if kw = true then 1 else 0)] [[(am 31, mdO am fl n lw nn ra rsn nr tr)], [(am 23, .inl (gI G, 8, .inl (fun k => nI (ro k))))], [(am 24, .inl (gI G, 8, .inl (fun k => nI (rmo k))))], [(am 25, .inl (gZ G, 8, .inl (fun k => if rb k = true then 1 else 0)))]] (fun v w => v = some (.int (f_sm n sv mo (if nr < 8 then nI nr else -4))) ∧ ((f_smP n sv mo ∧ w = [[(am 31, mdO am fl n lw nn ra rsn (min (nr + 1) 8) tr)], [(am 23, .inl (gI G, 8, .inl (fun k => nI ((nupd nr (tn sv) ro) k))))], [(am 24, .inl (gI G, 8, .inl (fun k => nI ((nupd nr (tn mo) rmo) k))))], [(am 25, .inl (gZ G, 8, .inl (fun k => if (nupd nr kw rb) k = true then 1 else 0)))]]) ∨ (¬ f_smP n sv mo ∧ w = [[(am 31, mdO am fl n lw nn ra rsn nr tr)], [(am 23, .inl (gI G, 8, .inl (fun k => nI (ro k))))], [(am 24, .inl (gI G, 8, .inl (fun k => nI (rmo k))))], [(am 25, .inl (gZ G, 8, .inl (fun k => if rb k = true then 1 else 0)))]]))) := by
  refine CT.of (cc := cX11_reading) (nL := 4) (ret := (some .int)) (by decide) rfl (Nat.le_of_ble_eq_true rfl) ?_
  intro p e s m below meth c R args Q A hRm ha hQ hAe hA S hE hr hlk hnm H locs hH0 hL0 ls hl hw
  have S : CallFix p m c cX11_reading 4 s args wsX11_reading RX11 := S
  have hl : lv_has ls 4 [(0, .ref (am 31)), (1, .int sv), (2, .int mo), (3, .int (if kw = true then 1 else 0))] := hl
  have hinX11 : ∀ w ∈ u_ws RX11 TX11 31, w ∈ wsX11_reading := by decide +kernel
  have hf147 := S.2.2.2.2 (.fieldLink RX11 147 "AwakeTurnsModel" "readings" "I") (by decide +kernel)
  have hf58 := S.2.2.2.2 (.fieldLink RX11 58 "AwakeTurnsModel" "readingOf" "[I") (by decide +kernel)
  have hf61 := S.2.2.2.2 (.fieldLink RX11 61 "AwakeTurnsModel" "readingIn" "[I") (by decide +kernel)
  have hf64 := S.2.2.2.2 (.fieldLink RX11 64 "AwakeTurnsModel" "readingKnew" "[Z") (by decide +kernel)
  refine lv_aload_n S.1 S.2.1 dX11_reading_0 rfl (lv_at hl 0 rfl) ?_
  refine lv_iload_n S.1 S.2.1 dX11_reading_1 rfl (lv_at hl 1 rfl) ?_
  refine aw_callV S hE (c_X11_noSleeper l G am fl n lw nn ra rsn nr tr sv (by first | assumption | omega)) gX11_reading_X11_noSleeper (n := 1) rfl (by decide +kernel) rfl (by rw [hRm]; exact ⟨Nat.le_of_ble_eq_true rfl, Nat.le_of_ble_eq_true rfl⟩) (by rw [hRm]; exact ⟨Nat.le_of_ble_eq_true rfl, Nat.le_of_ble_eq_true rfl⟩) hw hA hl.1 [0] rfl rfl (aw_recv (i := 0) hE hw rfl rfl rfl) rfl (Nat.le_of_ble_eq_true rfl) dX11_reading_2 ?_
  rintro v w1 H locs ⟨rfl, rfl⟩ hw
  have hw : bW G A s.heap [[(am 31, mdO am fl n lw nn ra rsn nr tr)], [(am 23, .inl (gI G, 8, .inl (fun k => nI (ro k))))], [(am 24, .inl (gI G, 8, .inl (fun k => nI (rmo k))))], [(am 25, .inl (gZ G, 8, .inl (fun k => if rb k = true then 1 else 0)))]] H locs := hw
  refine W.eq (g2 := (F0 m 5 ls [.int (if ¬ (0 ≤ sv.toInt ∧ sv.toInt < n) then 1 else 0)])) rfl ?_
  refine aw_ifeq (P := ¬ (0 ≤ sv.toInt ∧ sv.toInt < n)) (tgt := 10) S dX11_reading_5 (by decide) (fun c5 => ?_) (fun c5 => ?_)
  · have c5 := Decidable.not_not.mp c5
    have hb_sv : tn sv < n := aw_tnL c5
    have hl := Eq.mp (congrArg (fun z_ : Int32 => lv_has ls 4 [(0, .ref (am 31)), (1, .int z_), (2, .int mo), (3, .int (if kw = true then 1 else 0))]) (show (sv : Int32) = nI (tn sv) from (aw_tnE c5))) hl
    have hl : lv_has ls 4 [(0, .ref (am 31)), (1, .int (nI (tn sv))), (2, .int mo), (3, .int (if kw = true then 1 else 0))] := hl
    refine lv_iload_n S.1 S.2.1 dX11_reading_10 rfl (lv_at hl 2 rfl) ?_
    refine aw_callS S hE (c_X11_isMonth l G mo) gX11_reading_X11_isMonth (n := 1) rfl (by decide +kernel) rfl (by rw [hRm]; exact ⟨Nat.le_of_ble_eq_true rfl, Nat.le_of_ble_eq_true rfl⟩) (by rw [hRm]; exact ⟨Nat.le_of_ble_eq_true rfl, Nat.le_of_ble_eq_true rfl⟩) hw hA hl.1 [] rfl rfl rfl (Nat.le_of_ble_eq_true rfl) dX11_reading_11 ?_
    rintro v w1 H locs ⟨rfl, rfl⟩ hw
    have hw : bW G A s.heap [[(am 31, mdO am fl n lw nn ra rsn nr tr)], [(am 23, .inl (gI G, 8, .inl (fun k => nI (ro k))))], [(am 24, .inl (gI G, 8, .inl (fun k => nI (rmo k))))], [(am 25, .inl (gZ G, 8, .inl (fun k => if rb k = true then 1 else 0)))]] H locs := hw
    refine W.eq (g2 := (F0 m 14 ls [.int (if 0 ≤ mo.toInt ∧ mo.toInt < 12 then 1 else 0)])) rfl ?_
    refine aw_ifne (P := 0 ≤ mo.toInt ∧ mo.toInt < 12) (tgt := 20) S dX11_reading_14 (by decide) (fun c14 => ?_) (fun c14 => ?_)
    · have hb_mo : tn mo < 12 := aw_tnL c14
      have hl := Eq.mp (congrArg (fun z_ : Int32 => lv_has ls 4 [(0, .ref (am 31)), (1, .int (nI (tn sv))), (2, .int z_), (3, .int (if kw = true then 1 else 0))]) (show (mo : Int32) = nI (tn mo) from (aw_tnE c14))) hl
      have hl : lv_has ls 4 [(0, .ref (am 31)), (1, .int (nI (tn sv))), (2, .int (nI (tn mo))), (3, .int (if kw = true then 1 else 0))] := hl
      refine lv_aload_n S.1 S.2.1 dX11_reading_20 rfl (lv_at hl 0 rfl) ?_
      refine aw_get S hE hw 0 (C := RX11) (T := TX11) (N := 31) rfl rfl hinX11 22 (by decide) hf147 rfl dX11_reading_21 ?_
      refine lv_bipush (v := 8) S.1 S.2.1 dX11_reading_24 (by decide) ?_
      refine aw_icmpN_ne (x := nr) (y := 8) (tgt := 32) S (by omega) (by omega) dX11_reading_26 (by decide) (fun c26 => ?_) (fun c26 => ?_)
      · refine lv_aload_n S.1 S.2.1 dX11_reading_32 rfl (lv_at hl 0 rfl) ?_
        refine aw_get S hE hw 0 (C := RX11) (T := TX11) (N := 31) rfl rfl hinX11 23 (by decide) hf58 rfl dX11_reading_33 ?_
        refine lv_aload_n S.1 S.2.1 dX11_reading_36 rfl (lv_at hl 0 rfl) ?_
        refine aw_get S hE hw 0 (C := RX11) (T := TX11) (N := 31) rfl rfl hinX11 22 (by decide) hf147 rfl dX11_reading_37 ?_
        refine lv_iload_n S.1 S.2.1 dX11_reading_40 rfl (lv_at hl 1 rfl) ?_
        refine aw_iast S hE hw 1 (k := nr) rfl (by omega) (by decide) dX11_reading_41 (fun H locs hw => ?_)
        have hw : bW G A s.heap [[(am 31, mdO am fl n lw nn ra rsn nr tr)], [(am 23, .inl (gI G, 8, .inl (upd (fun k => nI (ro k)) nr (nI (tn sv)))))], [(am 24, .inl (gI G, 8, .inl (fun k => nI (rmo k))))], [(am 25, .inl (gZ G, 8, .inl (fun k => if rb k = true then 1 else 0)))]] H locs := hw
        have hw := aw_arr hw 1 rfl (fun k => nI ((va_up ro nr (tn sv)) k)) (fun j _ => by unfold upd va_up; split <;> rfl)
        have hw : bW G A s.heap [[(am 31, mdO am fl n lw nn ra rsn nr tr)], [(am 23, .inl (gI G, 8, .inl (fun k => nI ((va_up ro nr (tn sv)) k))))], [(am 24, .inl (gI G, 8, .inl (fun k => nI (rmo k))))], [(am 25, .inl (gZ G, 8, .inl (fun k => if rb k = true then 1 else 0)))]] H locs := hw
        refine lv_aload_n S.1 S.2.1 dX11_reading_42 rfl (lv_at hl 0 rfl) ?_
        refine aw_get S hE hw 0 (C := RX11) (T := TX11) (N := 31) rfl rfl hinX11 24 (by decide) hf61 rfl dX11_reading_43 ?_
        refine lv_aload_n S.1 S.2.1 dX11_reading_46 rfl (lv_at hl 0 rfl) ?_
        refine aw_get S hE hw 0 (C := RX11) (T := TX11) (N := 31) rfl rfl hinX11 22 (by decide) hf147 rfl dX11_reading_47 ?_
        refine lv_iload_n S.1 S.2.1 dX11_reading_50 rfl (lv_at hl 2 rfl) ?_
        refine aw_iast S hE hw 2 (k := nr) rfl (by omega) (by decide) dX11_reading_51 (fun H locs hw => ?_)
        have hw : bW G A s.heap [[(am 31, mdO am fl n lw nn ra rsn nr tr)], [(am 23, .inl (gI G, 8, .inl (fun k => nI ((va_up ro nr (tn sv)) k))))], [(am 24, .inl (gI G, 8, .inl (upd (fun k => nI (rmo k)) nr (nI (tn mo)))))], [(am 25, .inl (gZ G, 8, .inl (fun k => if rb k = true then 1 else 0)))]] H locs := hw
        have hw := aw_arr hw 2 rfl (fun k => nI ((va_up rmo nr (tn mo)) k)) (fun j _ => by unfold upd va_up; split <;> rfl)
        have hw : bW G A s.heap [[(am 31, mdO am fl n lw nn ra rsn nr tr)], [(am 23, .inl (gI G, 8, .inl (fun k => nI ((va_up ro nr (tn sv)) k))))], [(am 24, .inl (gI G, 8, .inl (fun k => nI ((va_up rmo nr (tn mo)) k))))], [(am 25, .inl (gZ G, 8, .inl (fun k => if rb k = true then 1 else 0)))]] H locs := hw
        refine lv_aload_n S.1 S.2.1 dX11_reading_52 rfl (lv_at hl 0 rfl) ?_
        refine aw_get S hE hw 0 (C := RX11) (T := TX11) (N := 31) rfl rfl hinX11 25 (by decide) hf64 rfl dX11_reading_53 ?_
        refine lv_aload_n S.1 S.2.1 dX11_reading_56 rfl (lv_at hl 0 rfl) ?_
        refine aw_get S hE hw 0 (C := RX11) (T := TX11) (N := 31) rfl rfl hinX11 22 (by decide) hf147 rfl dX11_reading_57 ?_
        refine lv_iload_n S.1 S.2.1 dX11_reading_60 rfl (lv_at hl 3 rfl) ?_
        refine aw_zast S hE hw 3 (k := nr) rfl (by omega) (by decide) dX11_reading_61 (by cases kw <;> rfl) (fun H locs hw => ?_)
        have hw : bW G A s.heap [[(am 31, mdO am fl n lw nn ra rsn nr tr)], [(am 23, .inl (gI G, 8, .inl (fun k => nI ((va_up ro nr (tn sv)) k))))], [(am 24, .inl (gI G, 8, .inl (fun k => nI ((va_up rmo nr (tn mo)) k))))], [(am 25, .inl (gZ G, 8, .inl (upd (fun k => if rb k = true then 1 else 0) nr (if kw = true then 1 else 0))))]] H locs := hw
        have hw := aw_arr hw 3 rfl (fun k => if (va_up rb nr kw) k = true then 1 else 0) (fun j _ => by unfold upd va_up; split <;> rfl)
        have hw : bW G A s.heap [[(am 31, mdO am fl n lw nn ra rsn nr tr)], [(am 23, .inl (gI G, 8, .inl (fun k => nI ((va_up ro nr (tn sv)) k))))], [(am 24, .inl (gI G, 8, .inl (fun k => nI ((va_up rmo nr (tn mo)) k))))], [(am 25, .inl (gZ G, 8, .inl (fun k => if (va_up rb nr kw) k = true then 1 else 0)))]] H locs := hw
        refine lv_aload_n S.1 S.2.1 dX11_reading_62 rfl (lv_at hl 0 rfl) ?_
        refine lv_dup S.1 S.2.1 dX11_reading_63 rfl ?_
        refine aw_get S hE hw 0 (C := RX11) (T := TX11) (N := 31) rfl rfl hinX11 22 (by decide) hf147 rfl dX11_reading_64 ?_
        refine lv_iconst (v := 1) S.1 S.2.1 dX11_reading_67 (by decide) ?_
        refine lv_iadd S.1 S.2.1 dX11_reading_68 ?_
        refine aw_eqi (show ((nI nr) + 1 : Int32) = nI (nr + 1) from (nI_add nr 1)) ?_
        refine aw_putf S hE hw 0 (C := RX11) (T := TX11) (N := 31) rfl rfl hinX11 tyX11 tyX11_ok nmX11 22 (by decide) hf147 rfl rfl rfl (Nat.le_of_ble_eq_true rfl) dX11_reading_69 (fun H locs hw => ?_)
        have hw : bW G A s.heap [[(am 31, mdO am fl n lw nn ra rsn (nr + 1) tr)], [(am 23, .inl (gI G, 8, .inl (fun k => nI ((va_up ro nr (tn sv)) k))))], [(am 24, .inl (gI G, 8, .inl (fun k => nI ((va_up rmo nr (tn mo)) k))))], [(am 25, .inl (gZ G, 8, .inl (fun k => if (va_up rb nr kw) k = true then 1 else 0)))]] H locs := hw
        refine lv_aload_n S.1 S.2.1 dX11_reading_72 rfl (lv_at hl 0 rfl) ?_
        refine aw_get S hE hw 0 (C := RX11) (T := TX11) (N := 31) rfl rfl hinX11 22 (by decide) hf147 rfl dX11_reading_73 ?_
        refine lv_iconst (v := 1) S.1 S.2.1 dX11_reading_76 (by decide) ?_
        refine lv_isub S.1 S.2.1 dX11_reading_77 ?_
        refine aw_eqi (show ((nI (nr + 1)) - 1 : Int32) = nI ((nr + 1) - 1) from (pk_sub (a := nr + 1) (b := 1) (by omega))) ?_
        have hw := aw_arr hw 1 rfl (fun k => nI ((nupd nr (tn sv) ro) k)) (fun _ _ => by rw [← nupd_t (by omega)])
        have hw : bW G A s.heap [[(am 31, mdO am fl n lw nn ra rsn (nr + 1) tr)], [(am 23, .inl (gI G, 8, .inl (fun k => nI ((nupd nr (tn sv) ro) k))))], [(am 24, .inl (gI G, 8, .inl (fun k => nI ((va_up rmo nr (tn mo)) k))))], [(am 25, .inl (gZ G, 8, .inl (fun k => if (va_up rb nr kw) k = true then 1 else 0)))]] H locs := hw
        have hw := aw_arr hw 2 rfl (fun k => nI ((nupd nr (tn mo) rmo) k)) (fun _ _ => by rw [← nupd_t (by omega)])
        have hw : bW G A s.heap [[(am 31, mdO am fl n lw nn ra rsn (nr + 1) tr)], [(am 23, .inl (gI G, 8, .inl (fun k => nI ((nupd nr (tn sv) ro) k))))], [(am 24, .inl (gI G, 8, .inl (fun k => nI ((nupd nr (tn mo) rmo) k))))], [(am 25, .inl (gZ G, 8, .inl (fun k => if (va_up rb nr kw) k = true then 1 else 0)))]] H locs := hw
        have hw := aw_arr hw 3 rfl (fun k => if (nupd nr kw rb) k = true then 1 else 0) (fun _ _ => by rw [← nupd_t (by omega)])
        have hw : bW G A s.heap [[(am 31, mdO am fl n lw nn ra rsn (nr + 1) tr)], [(am 23, .inl (gI G, 8, .inl (fun k => nI ((nupd nr (tn sv) ro) k))))], [(am 24, .inl (gI G, 8, .inl (fun k => nI ((nupd nr (tn mo) rmo) k))))], [(am 25, .inl (gZ G, 8, .inl (fun k => if (nupd nr kw rb) k = true then 1 else 0)))]] H locs := hw
        have hw := Eq.mp (congrArg (fun z_ : Nat => bW G A s.heap [[(am 31, mdO am fl n lw nn ra rsn z_ tr)], [(am 23, .inl (gI G, 8, .inl (fun k => nI ((nupd nr (tn sv) ro) k))))], [(am 24, .inl (gI G, 8, .inl (fun k => nI ((nupd nr (tn mo) rmo) k))))], [(am 25, .inl (gZ G, 8, .inl (fun k => if (nupd nr kw rb) k = true then 1 else 0)))]] H locs) (show (nr + 1 : Nat) = min (nr + 1) 8 from by omega)) hw
        have hw : bW G A s.heap [[(am 31, mdO am fl n lw nn ra rsn (min (nr + 1) 8) tr)], [(am 23, .inl (gI G, 8, .inl (fun k => nI ((nupd nr (tn sv) ro) k))))], [(am 24, .inl (gI G, 8, .inl (fun k => nI ((nupd nr (tn mo) rmo) k))))], [(am 25, .inl (gZ G, 8, .inl (fun k => if (nupd nr kw rb) k = true then 1 else 0)))]] H locs := hw
        refine aw_eqi (show (nI ((nr + 1) - 1) : Int32) = f_sm n sv mo (if nr < 8 then nI nr else -4) from (by rw [f_sm, if_pos c5, if_pos c14, if_pos (by omega)]; exact congrArg nI (by omega))) ?_
        exact aw_iret S hr hlk ha hQ hAe hw dX11_reading_78 rfl (Nat.le_of_ble_eq_true rfl) (Nat.le_of_ble_eq_true rfl) ⟨rfl, Or.inl ⟨⟨c5, c14⟩, rfl⟩⟩
      · refine lv_bipush (v := (-4)) S.1 S.2.1 dX11_reading_29 (by decide) ?_
        have hw := aw_arr hw 1 rfl (fun k => nI ((nupd nr (tn sv) ro) k)) (fun _ _ => by rw [← nupd_f (by omega)])
        have hw : bW G A s.heap [[(am 31, mdO am fl n lw nn ra rsn nr tr)], [(am 23, .inl (gI G, 8, .inl (fun k => nI ((nupd nr (tn sv) ro) k))))], [(am 24, .inl (gI G, 8, .inl (fun k => nI (rmo k))))], [(am 25, .inl (gZ G, 8, .inl (fun k => if rb k = true then 1 else 0)))]] H locs := hw
        have hw := aw_arr hw 2 rfl (fun k => nI ((nupd nr (tn mo) rmo) k)) (fun _ _ => by rw [← nupd_f (by omega)])
        have hw : bW G A s.heap [[(am 31, mdO am fl n lw nn ra rsn nr tr)], [(am 23, .inl (gI G, 8, .inl (fun k => nI ((nupd nr (tn sv) ro) k))))], [(am 24, .inl (gI G, 8, .inl (fun k => nI ((nupd nr (tn mo) rmo) k))))], [(am 25, .inl (gZ G, 8, .inl (fun k => if rb k = true then 1 else 0)))]] H locs := hw
        have hw := aw_arr hw 3 rfl (fun k => if (nupd nr kw rb) k = true then 1 else 0) (fun _ _ => by rw [← nupd_f (by omega)])
        have hw : bW G A s.heap [[(am 31, mdO am fl n lw nn ra rsn nr tr)], [(am 23, .inl (gI G, 8, .inl (fun k => nI ((nupd nr (tn sv) ro) k))))], [(am 24, .inl (gI G, 8, .inl (fun k => nI ((nupd nr (tn mo) rmo) k))))], [(am 25, .inl (gZ G, 8, .inl (fun k => if (nupd nr kw rb) k = true then 1 else 0)))]] H locs := hw
        have hw := Eq.mp (congrArg (fun z_ : Nat => bW G A s.heap [[(am 31, mdO am fl n lw nn ra rsn z_ tr)], [(am 23, .inl (gI G, 8, .inl (fun k => nI ((nupd nr (tn sv) ro) k))))], [(am 24, .inl (gI G, 8, .inl (fun k => nI ((nupd nr (tn mo) rmo) k))))], [(am 25, .inl (gZ G, 8, .inl (fun k => if (nupd nr kw rb) k = true then 1 else 0)))]] H locs) (show (nr : Nat) = min (nr + 1) 8 from by omega)) hw
        have hw : bW G A s.heap [[(am 31, mdO am fl n lw nn ra rsn (min (nr + 1) 8) tr)], [(am 23, .inl (gI G, 8, .inl (fun k => nI ((nupd nr (tn sv) ro) k))))], [(am 24, .inl (gI G, 8, .inl (fun k => nI ((nupd nr (tn mo) rmo) k))))], [(am 25, .inl (gZ G, 8, .inl (fun k => if (nupd nr kw rb) k = true then 1 else 0)))]] H locs := hw
        refine aw_eqi (show ((-4) : Int32) = f_sm n sv mo (if nr < 8 then nI nr else -4) from (by rw [f_sm, if_pos c5, if_pos c14, if_neg (by omega)])) ?_
        exact aw_iret S hr hlk ha hQ hAe hw dX11_reading_31 rfl (Nat.le_of_ble_eq_true rfl) (Nat.le_of_ble_eq_true rfl) ⟨rfl, Or.inl ⟨⟨c5, c14⟩, rfl⟩⟩
    · refine lv_bipush (v := (-2)) S.1 S.2.1 dX11_reading_17 (by decide) ?_
      refine aw_eqi (show ((-2) : Int32) = f_sm n sv mo (if nr < 8 then nI nr else -4) from (by rw [f_sm, if_pos c5, if_neg c14])) ?_
      exact aw_iret S hr hlk ha hQ hAe hw dX11_reading_19 rfl (Nat.le_of_ble_eq_true rfl) (Nat.le_of_ble_eq_true rfl) ⟨rfl, Or.inr ⟨fun q => c14 q.2, rfl⟩⟩
  · refine lv_iconst (v := (-1)) S.1 S.2.1 dX11_reading_8 (by decide) ?_
    refine aw_eqi (show ((-1) : Int32) = f_sm n sv mo (if nr < 8 then nI nr else -4) from (by rw [f_sm, if_neg c5])) ?_
    exact aw_iret S hr hlk ha hQ hAe hw dX11_reading_9 rfl (Nat.le_of_ble_eq_true rfl) (Nat.le_of_ble_eq_true rfl) ⟨rfl, Or.inr ⟨fun q => c5 q.1, rfl⟩⟩
set_option maxRecDepth 100000 in
set_option maxHeartbeats 4000000 in
theorem c_X11_began (l : Launch) (G : aw_G) (am : Nat → Nat) (fl : Int32) (n : Nat) (lw : Int32) (nn ra rsn nr : Nat) (tr : Int32) (nf nt : Nat → Nat) (tu me ks : Nat → Int32) (ro rmo : Nat → Nat) (rb : Nat → Bool) (mo : Int32) (hn : n ≤ 6) (hnn : nn ≤ 8) (hnf : ∀ k, k < nn → nf k < n) (hnt : ∀ k, k < nn → nt k < n) (hnr : nr ≤ 8) (hro : ∀ k, k < nr → ro k < n) (hrm : ∀ k, k < nr → rmo k < 12) (htu : ∀ k, k < 12 → ∀ i, bt (tu k) i = true → i < n) : CT l G yX11_began wsX11_began ({ frames := 3, cells := 0, slots := 0, locals := 71 }) [.ref (am 31), .int mo] [[(am 31, mdO am fl n lw nn ra rsn nr tr)], [(am 5, .inl (gI G, 12, .inl tu))], [(am 9, .inl (gI G, 8, .inl (fun k => nI (nf k))))], [(am 10, .inl (gI G, 8, .inl (fun k => nI (nt k))))], [(am 16, .inl (gI G, 12, .inl me))], [(am 21, .inl (gI G, 6, .inl ks))], [(am 23, .inl (gI G, 8, .inl (fun k => nI (ro k))))], [(am 24, .inl (gI G, 8, .inl (fun k => nI (rmo k))))], [(am 25, .inl (gZ G, 8, .inl (fun k => if rb k = true then 1 else 0)))]] (fun v w => v = some (.int (f_ms n mo (bgF (bgP nf nt nn tu ro rmo rb nr (tn mo)) n))) ∧ ∃ (me ks : Nat → Int32), w = [[(am 31, mdO am fl n lw nn ra rsn nr tr)], [(am 5, .inl (gI G, 12, .inl tu))], [(am 9, .inl (gI G, 8, .inl (fun k => nI (nf k))))], [(am 10, .inl (gI G, 8, .inl (fun k => nI (nt k))))], [(am 16, .inl (gI G, 12, .inl me))], [(am 21, .inl (gI G, 6, .inl ks))], [(am 23, .inl (gI G, 8, .inl (fun k => nI (ro k))))], [(am 24, .inl (gI G, 8, .inl (fun k => nI (rmo k))))], [(am 25, .inl (gZ G, 8, .inl (fun k => if rb k = true then 1 else 0)))]]) := by
  refine CT.of (cc := cX11_began) (nL := 4) (ret := (some .int)) (by decide) rfl (Nat.le_of_ble_eq_true rfl) ?_
  intro p e s m below meth c R args Q A hRm ha hQ hAe hA S hE hr hlk hnm H locs hH0 hL0 ls hl hw
  have S : CallFix p m c cX11_began 4 s args wsX11_began RX11 := S
  have hl : lv_has ls 4 [(0, .ref (am 31)), (1, .int mo)] := hl
  have hinX11 : ∀ w ∈ u_ws RX11 TX11 31, w ∈ wsX11_began := by decide +kernel
  have hf90 := S.2.2.2.2 (.fieldLink RX11 90 "AwakeTurnsModel" "sleepers" "I") (by decide +kernel)
  refine lv_iload_n S.1 S.2.1 dX11_began_0 rfl (lv_at hl 1 rfl) ?_
  refine aw_callS S hE (c_X11_isMonth l G mo) gX11_began_X11_isMonth (n := 1) rfl (by decide +kernel) rfl (by rw [hRm]; exact ⟨Nat.le_of_ble_eq_true rfl, Nat.le_of_ble_eq_true rfl⟩) (by rw [hRm]; exact ⟨Nat.le_of_ble_eq_true rfl, Nat.le_of_ble_eq_true rfl⟩) hw hA hl.1 [] rfl rfl rfl (Nat.le_of_ble_eq_true rfl) dX11_began_1 ?_
  rintro v w1 H locs ⟨rfl, rfl⟩ hw
  have hw : bW G A s.heap [[(am 31, mdO am fl n lw nn ra rsn nr tr)], [(am 5, .inl (gI G, 12, .inl tu))], [(am 9, .inl (gI G, 8, .inl (fun k => nI (nf k))))], [(am 10, .inl (gI G, 8, .inl (fun k => nI (nt k))))], [(am 16, .inl (gI G, 12, .inl me))], [(am 21, .inl (gI G, 6, .inl ks))], [(am 23, .inl (gI G, 8, .inl (fun k => nI (ro k))))], [(am 24, .inl (gI G, 8, .inl (fun k => nI (rmo k))))], [(am 25, .inl (gZ G, 8, .inl (fun k => if rb k = true then 1 else 0)))]] H locs := hw
  refine W.eq (g2 := (F0 m 4 ls [.int (if 0 ≤ mo.toInt ∧ mo.toInt < 12 then 1 else 0)])) rfl ?_
  refine aw_ifne (P := 0 ≤ mo.toInt ∧ mo.toInt < 12) (tgt := 10) S dX11_began_4 (by decide) (fun c4 => ?_) (fun c4 => ?_)
  · have hb_mo : tn mo < 12 := aw_tnL c4
    have hl := Eq.mp (congrArg (fun z_ : Int32 => lv_has ls 4 [(0, .ref (am 31)), (1, .int z_)]) (show (mo : Int32) = nI (tn mo) from (aw_tnE c4))) hl
    have hl : lv_has ls 4 [(0, .ref (am 31)), (1, .int (nI (tn mo)))] := hl
    refine lv_aload_n S.1 S.2.1 dX11_began_10 rfl (lv_at hl 0 rfl) ?_
    refine aw_get S hE hw 0 (C := RX11) (T := TX11) (N := 31) rfl rfl hinX11 1 (by decide) hf90 rfl dX11_began_11 ?_
    refine aw_ifN_ne (x := n) (tgt := 20) S (by omega) dX11_began_14 (by decide) (fun c14 => ?_) (fun c14 => ?_)
    · refine lv_aload_n S.1 S.2.1 dX11_began_20 rfl (lv_at hl 0 rfl) ?_
      refine aw_callV S hE (c_X11_meanTold l G am fl n lw nn ra rsn nr tr tu me) gX11_began_X11_meanTold (n := 0) rfl (by decide +kernel) rfl (by rw [hRm]; exact ⟨Nat.le_of_ble_eq_true rfl, Nat.le_of_ble_eq_true rfl⟩) (by rw [hRm]; exact ⟨Nat.le_of_ble_eq_true rfl, Nat.le_of_ble_eq_true rfl⟩) hw hA hl.1 [0, 1, 4] rfl rfl (aw_recv (i := 0) hE hw rfl rfl rfl) rfl (Nat.le_of_ble_eq_true rfl) dX11_began_21 ?_
      rintro v w1 H locs ⟨rfl, rfl⟩ hw
      have hw : bW G A s.heap [[(am 31, mdO am fl n lw nn ra rsn nr tr)], [(am 5, .inl (gI G, 12, .inl tu))], [(am 9, .inl (gI G, 8, .inl (fun k => nI (nf k))))], [(am 10, .inl (gI G, 8, .inl (fun k => nI (nt k))))], [(am 16, .inl (gI G, 12, .inl tu))], [(am 21, .inl (gI G, 6, .inl ks))], [(am 23, .inl (gI G, 8, .inl (fun k => nI (ro k))))], [(am 24, .inl (gI G, 8, .inl (fun k => nI (rmo k))))], [(am 25, .inl (gZ G, 8, .inl (fun k => if rb k = true then 1 else 0)))]] H locs := hw
      refine W.eq (g2 := (F0 m 24 ls [])) rfl ?_
      refine lv_iconst (v := 0) S.1 S.2.1 dX11_began_24 (by decide) ?_
      refine lv_istore_n (lv' := [(2, .int 0), (0, .ref (am 31)), (1, .int (nI (tn mo)))]) S.1 S.2.1 dX11_began_25 rfl hl (by decide) rfl (fun ls hl => ?_)
      refine lv_iconst (v := 0) S.1 S.2.1 dX11_began_26 (by decide) ?_
      refine lv_istore_n (lv' := [(3, .int 0), (2, .int 0), (0, .ref (am 31)), (1, .int (nI (tn mo)))]) S.1 S.2.1 dX11_began_27 rfl hl (by decide) rfl (fun ls hl => ?_)
      have loop28 : ∀ (fu : Nat) (i : Nat) (ks1 : Nat → Int32), (i ≤ n) → (n - i) < fu → ∀ (ls : Array Slot) (H : Heap) (locs : List Loc), lv_has ls 4 [(0, .ref (am 31)), (1, .int (nI (tn mo))), (2, .int (bgF (bgP nf nt nn tu ro rmo rb nr (tn mo)) i)), (3, .int (nI i))] → bW G A s.heap [[(am 31, mdO am fl n lw nn ra rsn nr tr)], [(am 5, .inl (gI G, 12, .inl tu))], [(am 9, .inl (gI G, 8, .inl (fun k => nI (nf k))))], [(am 10, .inl (gI G, 8, .inl (fun k => nI (nt k))))], [(am 16, .inl (gI G, 12, .inl tu))], [(am 21, .inl (gI G, 6, .inl ks1))], [(am 23, .inl (gI G, 8, .inl (fun k => nI (ro k))))], [(am 24, .inl (gI G, 8, .inl (fun k => nI (rmo k))))], [(am 25, .inl (gZ G, 8, .inl (fun k => if rb k = true then 1 else 0)))]] H locs → W p l e R s m args below meth c H locs 0 0 Q (F0 m 28 ls []) := by
        intro fu
        induction fu with
        | zero => intro i ks1 _ hm; exact absurd hm (Nat.not_lt_zero _)
        | succ fu ih28 =>
          intro i ks1 hi hm ls H locs hl hw
          refine lv_iload_n S.1 S.2.1 dX11_began_28 rfl (lv_at hl 3 rfl) ?_
          refine lv_aload_n S.1 S.2.1 dX11_began_29 rfl (lv_at hl 0 rfl) ?_
          refine aw_get S hE hw 0 (C := RX11) (T := TX11) (N := 31) rfl rfl hinX11 1 (by decide) hf90 rfl dX11_began_30 ?_
          refine aw_icmpN_ge (x := i) (y := n) (tgt := 65) S (by omega) (by omega) dX11_began_33 (by decide) (fun c33 => ?_) (fun c33 => ?_)
          · have ex_i : i = n := by omega
            try rw [ex_i] at hl
            try rw [ex_i] at hw
            refine lv_iload_n S.1 S.2.1 dX11_began_65 rfl (lv_at hl 2 rfl) ?_
            refine aw_eqi (show (bgF (bgP nf nt nn tu ro rmo rb nr (tn mo)) n : Int32) = f_ms n mo (bgF (bgP nf nt nn tu ro rmo rb nr (tn mo)) n) from (by rw [f_ms, if_pos c4, if_neg c14])) ?_
            exact aw_iret S hr hlk ha hQ hAe hw dX11_began_66 rfl (Nat.le_of_ble_eq_true rfl) (Nat.le_of_ble_eq_true rfl) ⟨rfl, _, _, rfl⟩
          · refine lv_aload_n S.1 S.2.1 dX11_began_36 rfl (lv_at hl 0 rfl) ?_
            refine lv_iload_n S.1 S.2.1 dX11_began_37 rfl (lv_at hl 3 rfl) ?_
            refine lv_iload_n S.1 S.2.1 dX11_began_38 rfl (lv_at hl 1 rfl) ?_
            refine aw_callV S hE (c_X11_goNews l G am fl n lw nn ra rsn nr tr nf nt tu ks1 i (tn mo) (by first | assumption | omega) (by first | assumption | omega) (by first | assumption | omega) (by first | assumption | omega) (by first | assumption | omega) (by first | assumption | omega) (by first | assumption | omega)) gX11_began_X11_goNews (n := 2) rfl (by decide +kernel) rfl (by rw [hRm]; exact ⟨Nat.le_of_ble_eq_true rfl, Nat.le_of_ble_eq_true rfl⟩) (by rw [hRm]; exact ⟨Nat.le_of_ble_eq_true rfl, Nat.le_of_ble_eq_true rfl⟩) hw hA hl.1 [0, 2, 3, 4, 5] rfl rfl (aw_recv (i := 0) hE hw rfl rfl rfl) rfl (Nat.le_of_ble_eq_true rfl) dX11_began_39 ?_
            rintro v w1 H locs ⟨rfl, kf, hkf, rfl⟩ hw
            have hw : bW G A s.heap [[(am 31, mdO am fl n lw nn ra rsn nr tr)], [(am 5, .inl (gI G, 12, .inl tu))], [(am 9, .inl (gI G, 8, .inl (fun k => nI (nf k))))], [(am 10, .inl (gI G, 8, .inl (fun k => nI (nt k))))], [(am 16, .inl (gI G, 12, .inl tu))], [(am 21, .inl (gI G, 6, .inl kf))], [(am 23, .inl (gI G, 8, .inl (fun k => nI (ro k))))], [(am 24, .inl (gI G, 8, .inl (fun k => nI (rmo k))))], [(am 25, .inl (gZ G, 8, .inl (fun k => if rb k = true then 1 else 0)))]] H locs := hw
            refine W.eq (g2 := (F0 m 42 ls [])) rfl ?_
            refine lv_iload_n S.1 S.2.1 dX11_began_42 rfl (lv_at hl 2 rfl) ?_
            refine lv_aload_n S.1 S.2.1 dX11_began_43 rfl (lv_at hl 0 rfl) ?_
            refine aw_callV S hE (c_X11_areSo l G am fl n lw nn ra rsn nr tr kf (nwE nf nt nn i (tn mo) tu) ro rmo rb (by first | assumption | omega) (by first | assumption | omega) (by first | assumption | omega) (by first | assumption | omega) (fun k hk => by rw [hkf _ (hro k hk)]; exact ksV_le (by omega) (Nat.le_refl 12) (hrm k hk) (by omega))) gX11_began_X11_areSo (n := 0) rfl (by decide +kernel) rfl (by rw [hRm]; exact ⟨Nat.le_of_ble_eq_true rfl, Nat.le_of_ble_eq_true rfl⟩) (by rw [hRm]; exact ⟨Nat.le_of_ble_eq_true rfl, Nat.le_of_ble_eq_true rfl⟩) hw hA hl.1 [0, 5, 6, 7, 8] rfl rfl (aw_recv (i := 0) hE hw rfl rfl rfl) rfl (Nat.le_of_ble_eq_true rfl) dX11_began_44 ?_
            rintro v w1 H locs ⟨rfl, rfl⟩ hw
            have hw : bW G A s.heap [[(am 31, mdO am fl n lw nn ra rsn nr tr)], [(am 5, .inl (gI G, 12, .inl tu))], [(am 9, .inl (gI G, 8, .inl (fun k => nI (nf k))))], [(am 10, .inl (gI G, 8, .inl (fun k => nI (nt k))))], [(am 16, .inl (gI G, 12, .inl tu))], [(am 21, .inl (gI G, 6, .inl kf))], [(am 23, .inl (gI G, 8, .inl (fun k => nI (ro k))))], [(am 24, .inl (gI G, 8, .inl (fun k => nI (rmo k))))], [(am 25, .inl (gZ G, 8, .inl (fun k => if rb k = true then 1 else 0)))]] H locs := hw
            refine W.eq (g2 := (F0 m 47 ls [.int (if rsF (nwE nf nt nn i (tn mo) tu) ro rmo rb nr = nr then 1 else 0), .int (bgF (bgP nf nt nn tu ro rmo rb nr (tn mo)) i)])) rfl ?_
            have join57 : ∀ (H : Heap) (locs : List Loc), ∀ (ls : Array Slot), lv_has ls 4 [(0, .ref (am 31)), (1, .int (nI (tn mo))), (2, .int (bgF (bgP nf nt nn tu ro rmo rb nr (tn mo)) i)), (3, .int (nI i))] → bW G A s.heap [[(am 31, mdO am fl n lw nn ra rsn nr tr)], [(am 5, .inl (gI G, 12, .inl tu))], [(am 9, .inl (gI G, 8, .inl (fun k => nI (nf k))))], [(am 10, .inl (gI G, 8, .inl (fun k => nI (nt k))))], [(am 16, .inl (gI G, 12, .inl tu))], [(am 21, .inl (gI G, 6, .inl kf))], [(am 23, .inl (gI G, 8, .inl (fun k => nI (ro k))))], [(am 24, .inl (gI G, 8, .inl (fun k => nI (rmo k))))], [(am 25, .inl (gZ G, 8, .inl (fun k => if rb k = true then 1 else 0)))]] H locs → W p l e R s m args below meth c H locs 0 0 Q (F0 m 57 ls [.int (if (bgP nf nt nn tu ro rmo rb nr (tn mo)) i = true then 1 <<< (nI i &&& 31) else 0), .int (bgF (bgP nf nt nn tu ro rmo rb nr (tn mo)) i)]) := by
              intro  H locs ls hl hw
              refine lv_ior S.1 S.2.1 dX11_began_57 ?_
              refine aw_eqi (show ((bgF (bgP nf nt nn tu ro rmo rb nr (tn mo)) i) ||| (if (bgP nf nt nn tu ro rmo rb nr (tn mo)) i = true then 1 <<< (nI i &&& 31) else 0) : Int32) = bgF (bgP nf nt nn tu ro rmo rb nr (tn mo)) (i + 1) from (or_if _ _)) ?_
              refine lv_istore_n (lv' := [(2, .int (bgF (bgP nf nt nn tu ro rmo rb nr (tn mo)) (i + 1))), (0, .ref (am 31)), (1, .int (nI (tn mo))), (3, .int (nI i))]) S.1 S.2.1 dX11_began_58 rfl hl (by decide) rfl (fun ls hl => ?_)
              refine lv_iinc (v := nI (i + 1)) (lv' := [(3, .int (nI (i + 1))), (2, .int (bgF (bgP nf nt nn tu ro rmo rb nr (tn mo)) (i + 1))), (0, .ref (am 31)), (1, .int (nI (tn mo)))]) S.1 S.2.1 dX11_began_59 hl (k := 3) rfl (by first | exact nI_1 _ | exact nI_add _ _ | rfl) (by decide) rfl (fun ls hl => ?_)
              refine lv_goto (tgt := 28) S.1 S.2.1 dX11_began_62 (by decide) ?_
              exact ih28 (i + 1) kf (by first | assumption | omega) (by omega) _ _ _ (lv_sub hl [2, 3, 1, 0] rfl) hw
            refine aw_ifeq (P := rsF (nwE nf nt nn i (tn mo) tu) ro rmo rb nr = nr) (tgt := 56) S dX11_began_47 (by decide) (fun c47 => ?_) (fun c47 => ?_)
            · refine lv_iconst (v := 0) S.1 S.2.1 dX11_began_56 (by decide) ?_
              refine aw_eqi (show (0 : Int32) = if (bgP nf nt nn tu ro rmo rb nr (tn mo)) i = true then 1 <<< (nI i &&& 31) else 0 from (by rw [if_neg (show ¬ (bgP nf nt nn tu ro rmo rb nr (tn mo)) i = true from fun q => c47 (of_decide_eq_true q))])) ?_
              exact join57  _ _ _ (lv_sub hl [0, 1, 2, 3] rfl) hw
            · refine lv_iconst (v := 1) S.1 S.2.1 dX11_began_50 (by decide) ?_
              refine lv_iload_n S.1 S.2.1 dX11_began_51 rfl (lv_at hl 3 rfl) ?_
              refine lv_ishl S.1 S.2.1 dX11_began_52 ?_
              refine lv_goto (tgt := 57) S.1 S.2.1 dX11_began_53 (by decide) ?_
              refine aw_eqi (show (1 <<< ((nI i) &&& 31) : Int32) = if (bgP nf nt nn tu ro rmo rb nr (tn mo)) i = true then 1 <<< (nI i &&& 31) else 0 from (by rw [if_pos (show (bgP nf nt nn tu ro rmo rb nr (tn mo)) i = true from decide_eq_true c47)])) ?_
              exact join57  _ _ _ (lv_sub hl [0, 1, 2, 3] rfl) hw
      exact loop28 _ 0 ks (by first | assumption | omega) (Nat.lt_succ_self _) _ _ _ (lv_sub hl [2, 3, 1, 0] rfl) hw
    · refine lv_bipush (v := (-3)) S.1 S.2.1 dX11_began_17 (by decide) ?_
      refine aw_eqi (show ((-3) : Int32) = f_ms n mo (bgF (bgP nf nt nn tu ro rmo rb nr (tn mo)) n) from (by rw [f_ms, if_pos c4, if_pos c14])) ?_
      exact aw_iret S hr hlk ha hQ hAe hw dX11_began_19 rfl (Nat.le_of_ble_eq_true rfl) (Nat.le_of_ble_eq_true rfl) ⟨rfl, _, _, rfl⟩
  · refine lv_bipush (v := (-2)) S.1 S.2.1 dX11_began_7 (by decide) ?_
    refine aw_eqi (show ((-2) : Int32) = f_ms n mo (bgF (bgP nf nt nn tu ro rmo rb nr (tn mo)) n) from (by rw [f_ms, if_neg c4])) ?_
    exact aw_iret S hr hlk ha hQ hAe hw dX11_began_9 rfl (Nat.le_of_ble_eq_true rfl) (Nat.le_of_ble_eq_true rfl) ⟨rfl, _, _, rfl⟩
set_option maxRecDepth 100000 in
set_option maxHeartbeats 4000000 in
theorem c_X11_woken (l : Launch) (G : aw_G) (am : Nat → Nat) (fl : Int32) (n : Nat) (lw : Int32) (nn ra rsn nr : Nat) (tr : Int32) (nf nt : Nat → Nat) (tu me ks : Nat → Int32) (ro rmo : Nat → Nat) (rb : Nat → Bool) (sv si mo : Int32) (hn : n ≤ 6) (hnn : nn ≤ 8) (hnf : ∀ k, k < nn → nf k < n) (hnt : ∀ k, k < nn → nt k < n) (hnr : nr ≤ 8) (hro : ∀ k, k < nr → ro k < n) (hrm : ∀ k, k < nr → rmo k < 12) (htu : ∀ k, k < 12 → ∀ i, bt (tu k) i = true → i < n) : CT l G yX11_woken wsX11_woken ({ frames := 3, cells := 0, slots := 0, locals := 71 }) [.ref (am 31), .int sv, .int si, .int mo] [[(am 31, mdO am fl n lw nn ra rsn nr tr)], [(am 5, .inl (gI G, 12, .inl tu))], [(am 9, .inl (gI G, 8, .inl (fun k => nI (nf k))))], [(am 10, .inl (gI G, 8, .inl (fun k => nI (nt k))))], [(am 16, .inl (gI G, 12, .inl me))], [(am 21, .inl (gI G, 6, .inl ks))], [(am 23, .inl (gI G, 8, .inl (fun k => nI (ro k))))], [(am 24, .inl (gI G, 8, .inl (fun k => nI (rmo k))))], [(am 25, .inl (gZ G, 8, .inl (fun k => if rb k = true then 1 else 0)))]] (fun v w => v = some (.int (f_woken n sv si mo (bgF (wkP nf nt nn tu ro rmo rb nr (tn sv) (tn si) (tn mo)) n))) ∧ ∃ (me ks : Nat → Int32), w = [[(am 31, mdO am fl n lw nn ra rsn nr tr)], [(am 5, .inl (gI G, 12, .inl tu))], [(am 9, .inl (gI G, 8, .inl (fun k => nI (nf k))))], [(am 10, .inl (gI G, 8, .inl (fun k => nI (nt k))))], [(am 16, .inl (gI G, 12, .inl me))], [(am 21, .inl (gI G, 6, .inl ks))], [(am 23, .inl (gI G, 8, .inl (fun k => nI (ro k))))], [(am 24, .inl (gI G, 8, .inl (fun k => nI (rmo k))))], [(am 25, .inl (gZ G, 8, .inl (fun k => if rb k = true then 1 else 0)))]]) := by
  refine CT.of (cc := cX11_woken) (nL := 6) (ret := (some .int)) (by decide) rfl (Nat.le_of_ble_eq_true rfl) ?_
  intro p e s m below meth c R args Q A hRm ha hQ hAe hA S hE hr hlk hnm H locs hH0 hL0 ls hl hw
  have S : CallFix p m c cX11_woken 6 s args wsX11_woken RX11 := S
  have hl : lv_has ls 6 [(0, .ref (am 31)), (1, .int sv), (2, .int si), (3, .int mo)] := hl
  have hinX11 : ∀ w ∈ u_ws RX11 TX11 31, w ∈ wsX11_woken := by decide +kernel
  have hf90 := S.2.2.2.2 (.fieldLink RX11 90 "AwakeTurnsModel" "sleepers" "I") (by decide +kernel)
  have hf40 := S.2.2.2.2 (.fieldLink RX11 40 "AwakeTurnsModel" "meant" "[I") (by decide +kernel)
  have hf19 := S.2.2.2.2 (.fieldLink RX11 19 "AwakeTurnsModel" "upIn" "[I") (by decide +kernel)
  refine lv_aload_n S.1 S.2.1 dX11_woken_0 rfl (lv_at hl 0 rfl) ?_
  refine lv_iload_n S.1 S.2.1 dX11_woken_1 rfl (lv_at hl 1 rfl) ?_
  refine aw_callV S hE (c_X11_noSleeper l G am fl n lw nn ra rsn nr tr sv (by first | assumption | omega)) gX11_woken_X11_noSleeper (n := 1) rfl (by decide +kernel) rfl (by rw [hRm]; exact ⟨Nat.le_of_ble_eq_true rfl, Nat.le_of_ble_eq_true rfl⟩) (by rw [hRm]; exact ⟨Nat.le_of_ble_eq_true rfl, Nat.le_of_ble_eq_true rfl⟩) hw hA hl.1 [0] rfl rfl (aw_recv (i := 0) hE hw rfl rfl rfl) rfl (Nat.le_of_ble_eq_true rfl) dX11_woken_2 ?_
  rintro v w1 H locs ⟨rfl, rfl⟩ hw
  have hw : bW G A s.heap [[(am 31, mdO am fl n lw nn ra rsn nr tr)], [(am 5, .inl (gI G, 12, .inl tu))], [(am 9, .inl (gI G, 8, .inl (fun k => nI (nf k))))], [(am 10, .inl (gI G, 8, .inl (fun k => nI (nt k))))], [(am 16, .inl (gI G, 12, .inl me))], [(am 21, .inl (gI G, 6, .inl ks))], [(am 23, .inl (gI G, 8, .inl (fun k => nI (ro k))))], [(am 24, .inl (gI G, 8, .inl (fun k => nI (rmo k))))], [(am 25, .inl (gZ G, 8, .inl (fun k => if rb k = true then 1 else 0)))]] H locs := hw
  refine W.eq (g2 := (F0 m 5 ls [.int (if ¬ (0 ≤ sv.toInt ∧ sv.toInt < n) then 1 else 0)])) rfl ?_
  refine aw_ifeq (P := ¬ (0 ≤ sv.toInt ∧ sv.toInt < n)) (tgt := 10) S dX11_woken_5 (by decide) (fun c5 => ?_) (fun c5 => ?_)
  · have c5 := Decidable.not_not.mp c5
    have hb_sv : tn sv < n := aw_tnL c5
    have hl := Eq.mp (congrArg (fun z_ : Int32 => lv_has ls 6 [(0, .ref (am 31)), (1, .int z_), (2, .int si), (3, .int mo)]) (show (sv : Int32) = nI (tn sv) from (aw_tnE c5))) hl
    have hl : lv_has ls 6 [(0, .ref (am 31)), (1, .int (nI (tn sv))), (2, .int si), (3, .int mo)] := hl
    refine lv_iload_n S.1 S.2.1 dX11_woken_10 rfl (lv_at hl 2 rfl) ?_
    refine aw_callS S hE (c_X11_isMonth l G si) gX11_woken_X11_isMonth (n := 1) rfl (by decide +kernel) rfl (by rw [hRm]; exact ⟨Nat.le_of_ble_eq_true rfl, Nat.le_of_ble_eq_true rfl⟩) (by rw [hRm]; exact ⟨Nat.le_of_ble_eq_true rfl, Nat.le_of_ble_eq_true rfl⟩) hw hA hl.1 [] rfl rfl rfl (Nat.le_of_ble_eq_true rfl) dX11_woken_11 ?_
    rintro v w1 H locs ⟨rfl, rfl⟩ hw
    have hw : bW G A s.heap [[(am 31, mdO am fl n lw nn ra rsn nr tr)], [(am 5, .inl (gI G, 12, .inl tu))], [(am 9, .inl (gI G, 8, .inl (fun k => nI (nf k))))], [(am 10, .inl (gI G, 8, .inl (fun k => nI (nt k))))], [(am 16, .inl (gI G, 12, .inl me))], [(am 21, .inl (gI G, 6, .inl ks))], [(am 23, .inl (gI G, 8, .inl (fun k => nI (ro k))))], [(am 24, .inl (gI G, 8, .inl (fun k => nI (rmo k))))], [(am 25, .inl (gZ G, 8, .inl (fun k => if rb k = true then 1 else 0)))]] H locs := hw
    refine W.eq (g2 := (F0 m 14 ls [.int (if 0 ≤ si.toInt ∧ si.toInt < 12 then 1 else 0)])) rfl ?_
    refine aw_ifeq (P := 0 ≤ si.toInt ∧ si.toInt < 12) (tgt := 24) S dX11_woken_14 (by decide) (fun c14 => ?_) (fun c14 => ?_)
    · refine lv_bipush (v := (-2)) S.1 S.2.1 dX11_woken_24 (by decide) ?_
      refine aw_eqi (show ((-2) : Int32) = f_woken n sv si mo (bgF (wkP nf nt nn tu ro rmo rb nr (tn sv) (tn si) (tn mo)) n) from (by rw [f_woken, if_pos c5, if_neg (fun q => c14 q.1)])) ?_
      exact aw_iret S hr hlk ha hQ hAe hw dX11_woken_26 rfl (Nat.le_of_ble_eq_true rfl) (Nat.le_of_ble_eq_true rfl) ⟨rfl, _, _, rfl⟩
    · have hb_si : tn si < 12 := aw_tnL c14
      have hl := Eq.mp (congrArg (fun z_ : Int32 => lv_has ls 6 [(0, .ref (am 31)), (1, .int (nI (tn sv))), (2, .int z_), (3, .int mo)]) (show (si : Int32) = nI (tn si) from (aw_tnE c14))) hl
      have hl : lv_has ls 6 [(0, .ref (am 31)), (1, .int (nI (tn sv))), (2, .int (nI (tn si))), (3, .int mo)] := hl
      refine lv_iload_n S.1 S.2.1 dX11_woken_17 rfl (lv_at hl 3 rfl) ?_
      refine aw_callS S hE (c_X11_isMonth l G mo) gX11_woken_X11_isMonth (n := 1) rfl (by decide +kernel) rfl (by rw [hRm]; exact ⟨Nat.le_of_ble_eq_true rfl, Nat.le_of_ble_eq_true rfl⟩) (by rw [hRm]; exact ⟨Nat.le_of_ble_eq_true rfl, Nat.le_of_ble_eq_true rfl⟩) hw hA hl.1 [] rfl rfl rfl (Nat.le_of_ble_eq_true rfl) dX11_woken_18 ?_
      rintro v w1 H locs ⟨rfl, rfl⟩ hw
      have hw : bW G A s.heap [[(am 31, mdO am fl n lw nn ra rsn nr tr)], [(am 5, .inl (gI G, 12, .inl tu))], [(am 9, .inl (gI G, 8, .inl (fun k => nI (nf k))))], [(am 10, .inl (gI G, 8, .inl (fun k => nI (nt k))))], [(am 16, .inl (gI G, 12, .inl me))], [(am 21, .inl (gI G, 6, .inl ks))], [(am 23, .inl (gI G, 8, .inl (fun k => nI (ro k))))], [(am 24, .inl (gI G, 8, .inl (fun k => nI (rmo k))))], [(am 25, .inl (gZ G, 8, .inl (fun k => if rb k = true then 1 else 0)))]] H locs := hw
      refine W.eq (g2 := (F0 m 21 ls [.int (if 0 ≤ mo.toInt ∧ mo.toInt < 12 then 1 else 0)])) rfl ?_
      refine aw_ifne (P := 0 ≤ mo.toInt ∧ mo.toInt < 12) (tgt := 27) S dX11_woken_21 (by decide) (fun c21 => ?_) (fun c21 => ?_)
      · have hb_mo : tn mo < 12 := aw_tnL c21
        have hl := Eq.mp (congrArg (fun z_ : Int32 => lv_has ls 6 [(0, .ref (am 31)), (1, .int (nI (tn sv))), (2, .int (nI (tn si))), (3, .int z_)]) (show (mo : Int32) = nI (tn mo) from (aw_tnE c21))) hl
        have hl : lv_has ls 6 [(0, .ref (am 31)), (1, .int (nI (tn sv))), (2, .int (nI (tn si))), (3, .int (nI (tn mo)))] := hl
        refine lv_aload_n S.1 S.2.1 dX11_woken_27 rfl (lv_at hl 0 rfl) ?_
        refine aw_callV S hE (c_X11_meanTold l G am fl n lw nn ra rsn nr tr tu me) gX11_woken_X11_meanTold (n := 0) rfl (by decide +kernel) rfl (by rw [hRm]; exact ⟨Nat.le_of_ble_eq_true rfl, Nat.le_of_ble_eq_true rfl⟩) (by rw [hRm]; exact ⟨Nat.le_of_ble_eq_true rfl, Nat.le_of_ble_eq_true rfl⟩) hw hA hl.1 [0, 1, 4] rfl rfl (aw_recv (i := 0) hE hw rfl rfl rfl) rfl (Nat.le_of_ble_eq_true rfl) dX11_woken_28 ?_
        rintro v w1 H locs ⟨rfl, rfl⟩ hw
        have hw : bW G A s.heap [[(am 31, mdO am fl n lw nn ra rsn nr tr)], [(am 5, .inl (gI G, 12, .inl tu))], [(am 9, .inl (gI G, 8, .inl (fun k => nI (nf k))))], [(am 10, .inl (gI G, 8, .inl (fun k => nI (nt k))))], [(am 16, .inl (gI G, 12, .inl tu))], [(am 21, .inl (gI G, 6, .inl ks))], [(am 23, .inl (gI G, 8, .inl (fun k => nI (ro k))))], [(am 24, .inl (gI G, 8, .inl (fun k => nI (rmo k))))], [(am 25, .inl (gZ G, 8, .inl (fun k => if rb k = true then 1 else 0)))]] H locs := hw
        refine W.eq (g2 := (F0 m 31 ls [])) rfl ?_
        refine lv_iconst (v := 0) S.1 S.2.1 dX11_woken_31 (by decide) ?_
        refine lv_istore (lv' := [(4, .int 0), (0, .ref (am 31)), (1, .int (nI (tn sv))), (2, .int (nI (tn si))), (3, .int (nI (tn mo)))]) S.1 S.2.1 dX11_woken_32 hl (by decide) rfl (fun ls hl => ?_)
        refine lv_iconst (v := 0) S.1 S.2.1 dX11_woken_34 (by decide) ?_
        refine lv_istore (lv' := [(5, .int 0), (4, .int 0), (0, .ref (am 31)), (1, .int (nI (tn sv))), (2, .int (nI (tn si))), (3, .int (nI (tn mo)))]) S.1 S.2.1 dX11_woken_35 hl (by decide) rfl (fun ls hl => ?_)
        have loop37 : ∀ (fu : Nat) (i : Nat) (ks1 : Nat → Int32) (me1 : Nat → Int32), (i ≤ n) → (∀ j, j < 12 → ¬ j = tn mo → me1 j = tu j) → (n - i) < fu → ∀ (ls : Array Slot) (H : Heap) (locs : List Loc), lv_has ls 6 [(0, .ref (am 31)), (1, .int (nI (tn sv))), (2, .int (nI (tn si))), (3, .int (nI (tn mo))), (4, .int (bgF (wkP nf nt nn tu ro rmo rb nr (tn sv) (tn si) (tn mo)) i)), (5, .int (nI i))] → bW G A s.heap [[(am 31, mdO am fl n lw nn ra rsn nr tr)], [(am 5, .inl (gI G, 12, .inl tu))], [(am 9, .inl (gI G, 8, .inl (fun k => nI (nf k))))], [(am 10, .inl (gI G, 8, .inl (fun k => nI (nt k))))], [(am 16, .inl (gI G, 12, .inl me1))], [(am 21, .inl (gI G, 6, .inl ks1))], [(am 23, .inl (gI G, 8, .inl (fun k => nI (ro k))))], [(am 24, .inl (gI G, 8, .inl (fun k => nI (rmo k))))], [(am 25, .inl (gZ G, 8, .inl (fun k => if rb k = true then 1 else 0)))]] H locs → W p l e R s m args below meth c H locs 0 0 Q (F0 m 37 ls []) := by
          intro fu
          induction fu with
          | zero => intro i ks1 me1 _ _ hm; exact absurd hm (Nat.not_lt_zero _)
          | succ fu ih37 =>
            intro i ks1 me1 hi hme1 hm ls H locs hl hw
            refine lv_iload S.1 S.2.1 dX11_woken_37 (lv_at hl 5 rfl) ?_
            refine lv_aload_n S.1 S.2.1 dX11_woken_39 rfl (lv_at hl 0 rfl) ?_
            refine aw_get S hE hw 0 (C := RX11) (T := TX11) (N := 31) rfl rfl hinX11 1 (by decide) hf90 rfl dX11_woken_40 ?_
            refine aw_icmpN_ge (x := i) (y := n) (tgt := 95) S (by omega) (by omega) dX11_woken_43 (by decide) (fun c43 => ?_) (fun c43 => ?_)
            · have ex_i : i = n := by omega
              try rw [ex_i] at hl
              try rw [ex_i] at hw
              refine lv_iload S.1 S.2.1 dX11_woken_95 (lv_at hl 4 rfl) ?_
              refine aw_eqi (show (bgF (wkP nf nt nn tu ro rmo rb nr (tn sv) (tn si) (tn mo)) n : Int32) = f_woken n sv si mo (bgF (wkP nf nt nn tu ro rmo rb nr (tn sv) (tn si) (tn mo)) n) from (by rw [f_woken, if_pos c5, if_pos ⟨c14, c21⟩])) ?_
              exact aw_iret S hr hlk ha hQ hAe hw dX11_woken_97 rfl (Nat.le_of_ble_eq_true rfl) (Nat.le_of_ble_eq_true rfl) ⟨rfl, _, _, rfl⟩
            · refine lv_aload_n S.1 S.2.1 dX11_woken_46 rfl (lv_at hl 0 rfl) ?_
              refine aw_get S hE hw 0 (C := RX11) (T := TX11) (N := 31) rfl rfl hinX11 16 (by decide) hf40 rfl dX11_woken_47 ?_
              refine lv_iload_n S.1 S.2.1 dX11_woken_50 rfl (lv_at hl 3 rfl) ?_
              refine lv_aload_n S.1 S.2.1 dX11_woken_51 rfl (lv_at hl 0 rfl) ?_
              refine aw_get S hE hw 0 (C := RX11) (T := TX11) (N := 31) rfl rfl hinX11 5 (by decide) hf19 rfl dX11_woken_52 ?_
              refine lv_iload_n S.1 S.2.1 dX11_woken_55 rfl (lv_at hl 3 rfl) ?_
              refine aw_iald S hE hw 1 (k := (tn mo)) rfl (by omega) (by decide) dX11_woken_56 ?_
              refine lv_iconst (v := 1) S.1 S.2.1 dX11_woken_57 (by decide) ?_
              refine lv_iload S.1 S.2.1 dX11_woken_58 (lv_at hl 5 rfl) ?_
              refine lv_ishl S.1 S.2.1 dX11_woken_60 ?_
              refine lv_ior S.1 S.2.1 dX11_woken_61 ?_
              refine aw_iast S hE hw 4 (k := (tn mo)) rfl (by omega) (by decide) dX11_woken_62 (fun H locs hw => ?_)
              have hw : bW G A s.heap [[(am 31, mdO am fl n lw nn ra rsn nr tr)], [(am 5, .inl (gI G, 12, .inl tu))], [(am 9, .inl (gI G, 8, .inl (fun k => nI (nf k))))], [(am 10, .inl (gI G, 8, .inl (fun k => nI (nt k))))], [(am 16, .inl (gI G, 12, .inl (upd me1 (tn mo) ((tu (tn mo)) ||| (1 <<< ((nI i) &&& 31))))))], [(am 21, .inl (gI G, 6, .inl ks1))], [(am 23, .inl (gI G, 8, .inl (fun k => nI (ro k))))], [(am 24, .inl (gI G, 8, .inl (fun k => nI (rmo k))))], [(am 25, .inl (gZ G, 8, .inl (fun k => if rb k = true then 1 else 0)))]] H locs := hw
              have hw := aw_arr hw 4 rfl (upd tu (tn mo) (tu (tn mo) ||| (1 <<< (nI i &&& 31)))) (fun j hj => by unfold upd; by_cases e : j = tn mo; (rw [if_pos e, if_pos e]); (rw [if_neg e, if_neg e]; exact hme1 j hj e))
              have hw : bW G A s.heap [[(am 31, mdO am fl n lw nn ra rsn nr tr)], [(am 5, .inl (gI G, 12, .inl tu))], [(am 9, .inl (gI G, 8, .inl (fun k => nI (nf k))))], [(am 10, .inl (gI G, 8, .inl (fun k => nI (nt k))))], [(am 16, .inl (gI G, 12, .inl (upd tu (tn mo) (tu (tn mo) ||| (1 <<< (nI i &&& 31))))))], [(am 21, .inl (gI G, 6, .inl ks1))], [(am 23, .inl (gI G, 8, .inl (fun k => nI (ro k))))], [(am 24, .inl (gI G, 8, .inl (fun k => nI (rmo k))))], [(am 25, .inl (gZ G, 8, .inl (fun k => if rb k = true then 1 else 0)))]] H locs := hw
              refine lv_aload_n S.1 S.2.1 dX11_woken_63 rfl (lv_at hl 0 rfl) ?_
              refine lv_iload_n S.1 S.2.1 dX11_woken_64 rfl (lv_at hl 1 rfl) ?_
              refine lv_iload_n S.1 S.2.1 dX11_woken_65 rfl (lv_at hl 2 rfl) ?_
              refine aw_callV S hE (c_X11_goNews l G am fl n lw nn ra rsn nr tr nf nt (upd tu (tn mo) (tu (tn mo) ||| (1 <<< (nI i &&& 31)))) ks1 (tn sv) (tn si) (by first | assumption | omega) (by first | assumption | omega) (by first | assumption | omega) (by first | assumption | omega) (by first | assumption | omega) (by first | assumption | omega) (fun k hk j hj => by unfold upd at hj; by_cases e : k = tn mo; (rw [if_pos e, b_or, Bool.or_eq_true] at hj; rcases hj with q | q; exact htu _ (by omega) j q; (by_cases y : j < 32; (rw [b_bit (by omega) y, decide_eq_true_eq] at q; omega); (rw [b_big (by omega)] at q; cases q))); (rw [if_neg e] at hj; exact htu k hk j hj))) gX11_woken_X11_goNews (n := 2) rfl (by decide +kernel) rfl (by rw [hRm]; exact ⟨Nat.le_of_ble_eq_true rfl, Nat.le_of_ble_eq_true rfl⟩) (by rw [hRm]; exact ⟨Nat.le_of_ble_eq_true rfl, Nat.le_of_ble_eq_true rfl⟩) hw hA hl.1 [0, 2, 3, 4, 5] rfl rfl (aw_recv (i := 0) hE hw rfl rfl rfl) rfl (Nat.le_of_ble_eq_true rfl) dX11_woken_66 ?_
              rintro v w1 H locs ⟨rfl, kf, hkf, rfl⟩ hw
              have hw : bW G A s.heap [[(am 31, mdO am fl n lw nn ra rsn nr tr)], [(am 5, .inl (gI G, 12, .inl tu))], [(am 9, .inl (gI G, 8, .inl (fun k => nI (nf k))))], [(am 10, .inl (gI G, 8, .inl (fun k => nI (nt k))))], [(am 16, .inl (gI G, 12, .inl (upd tu (tn mo) (tu (tn mo) ||| (1 <<< (nI i &&& 31))))))], [(am 21, .inl (gI G, 6, .inl kf))], [(am 23, .inl (gI G, 8, .inl (fun k => nI (ro k))))], [(am 24, .inl (gI G, 8, .inl (fun k => nI (rmo k))))], [(am 25, .inl (gZ G, 8, .inl (fun k => if rb k = true then 1 else 0)))]] H locs := hw
              refine W.eq (g2 := (F0 m 69 ls [])) rfl ?_
              refine lv_iload S.1 S.2.1 dX11_woken_69 (lv_at hl 4 rfl) ?_
              refine lv_aload_n S.1 S.2.1 dX11_woken_71 rfl (lv_at hl 0 rfl) ?_
              refine aw_callV S hE (c_X11_areSo l G am fl n lw nn ra rsn nr tr kf (nwE nf nt nn (tn sv) (tn si) (upd tu (tn mo) (tu (tn mo) ||| (1 <<< (nI i &&& 31))))) ro rmo rb (by first | assumption | omega) (by first | assumption | omega) (by first | assumption | omega) (by first | assumption | omega) (fun k hk => by rw [hkf _ (hro k hk)]; exact ksV_le (by omega) (Nat.le_refl 12) (hrm k hk) (by omega))) gX11_woken_X11_areSo (n := 0) rfl (by decide +kernel) rfl (by rw [hRm]; exact ⟨Nat.le_of_ble_eq_true rfl, Nat.le_of_ble_eq_true rfl⟩) (by rw [hRm]; exact ⟨Nat.le_of_ble_eq_true rfl, Nat.le_of_ble_eq_true rfl⟩) hw hA hl.1 [0, 5, 6, 7, 8] rfl rfl (aw_recv (i := 0) hE hw rfl rfl rfl) rfl (Nat.le_of_ble_eq_true rfl) dX11_woken_72 ?_
              rintro v w1 H locs ⟨rfl, rfl⟩ hw
              have hw : bW G A s.heap [[(am 31, mdO am fl n lw nn ra rsn nr tr)], [(am 5, .inl (gI G, 12, .inl tu))], [(am 9, .inl (gI G, 8, .inl (fun k => nI (nf k))))], [(am 10, .inl (gI G, 8, .inl (fun k => nI (nt k))))], [(am 16, .inl (gI G, 12, .inl (upd tu (tn mo) (tu (tn mo) ||| (1 <<< (nI i &&& 31))))))], [(am 21, .inl (gI G, 6, .inl kf))], [(am 23, .inl (gI G, 8, .inl (fun k => nI (ro k))))], [(am 24, .inl (gI G, 8, .inl (fun k => nI (rmo k))))], [(am 25, .inl (gZ G, 8, .inl (fun k => if rb k = true then 1 else 0)))]] H locs := hw
              refine W.eq (g2 := (F0 m 75 ls [.int (if rsF (nwE nf nt nn (tn sv) (tn si) (upd tu (tn mo) (tu (tn mo) ||| (1 <<< (nI i &&& 31))))) ro rmo rb nr = nr then 1 else 0), .int (bgF (wkP nf nt nn tu ro rmo rb nr (tn sv) (tn si) (tn mo)) i)])) rfl ?_
              have join86 : ∀ (H : Heap) (locs : List Loc), ∀ (ls : Array Slot), lv_has ls 6 [(0, .ref (am 31)), (1, .int (nI (tn sv))), (2, .int (nI (tn si))), (3, .int (nI (tn mo))), (4, .int (bgF (wkP nf nt nn tu ro rmo rb nr (tn sv) (tn si) (tn mo)) i)), (5, .int (nI i))] → bW G A s.heap [[(am 31, mdO am fl n lw nn ra rsn nr tr)], [(am 5, .inl (gI G, 12, .inl tu))], [(am 9, .inl (gI G, 8, .inl (fun k => nI (nf k))))], [(am 10, .inl (gI G, 8, .inl (fun k => nI (nt k))))], [(am 16, .inl (gI G, 12, .inl (upd tu (tn mo) (tu (tn mo) ||| (1 <<< (nI i &&& 31))))))], [(am 21, .inl (gI G, 6, .inl kf))], [(am 23, .inl (gI G, 8, .inl (fun k => nI (ro k))))], [(am 24, .inl (gI G, 8, .inl (fun k => nI (rmo k))))], [(am 25, .inl (gZ G, 8, .inl (fun k => if rb k = true then 1 else 0)))]] H locs → W p l e R s m args below meth c H locs 0 0 Q (F0 m 86 ls [.int (if (wkP nf nt nn tu ro rmo rb nr (tn sv) (tn si) (tn mo)) i = true then 1 <<< (nI i &&& 31) else 0), .int (bgF (wkP nf nt nn tu ro rmo rb nr (tn sv) (tn si) (tn mo)) i)]) := by
                intro  H locs ls hl hw
                refine lv_ior S.1 S.2.1 dX11_woken_86 ?_
                refine aw_eqi (show ((bgF (wkP nf nt nn tu ro rmo rb nr (tn sv) (tn si) (tn mo)) i) ||| (if (wkP nf nt nn tu ro rmo rb nr (tn sv) (tn si) (tn mo)) i = true then 1 <<< (nI i &&& 31) else 0) : Int32) = bgF (wkP nf nt nn tu ro rmo rb nr (tn sv) (tn si) (tn mo)) (i + 1) from (or_if _ _)) ?_
                refine lv_istore (lv' := [(4, .int (bgF (wkP nf nt nn tu ro rmo rb nr (tn sv) (tn si) (tn mo)) (i + 1))), (0, .ref (am 31)), (1, .int (nI (tn sv))), (2, .int (nI (tn si))), (3, .int (nI (tn mo))), (5, .int (nI i))]) S.1 S.2.1 dX11_woken_87 hl (by decide) rfl (fun ls hl => ?_)
                refine lv_iinc (v := nI (i + 1)) (lv' := [(5, .int (nI (i + 1))), (4, .int (bgF (wkP nf nt nn tu ro rmo rb nr (tn sv) (tn si) (tn mo)) (i + 1))), (0, .ref (am 31)), (1, .int (nI (tn sv))), (2, .int (nI (tn si))), (3, .int (nI (tn mo)))]) S.1 S.2.1 dX11_woken_89 hl (k := 5) rfl (by first | exact nI_1 _ | exact nI_add _ _ | rfl) (by decide) rfl (fun ls hl => ?_)
                refine lv_goto (tgt := 37) S.1 S.2.1 dX11_woken_92 (by decide) ?_
                exact ih37 (i + 1) kf (upd tu (tn mo) (tu (tn mo) ||| (1 <<< (nI i &&& 31)))) (by first | assumption | omega) (fun j hj e => by unfold upd; rw [if_neg e]) (by omega) _ _ _ (lv_sub hl [2, 3, 4, 5, 1, 0] rfl) hw
              refine aw_ifeq (P := rsF (nwE nf nt nn (tn sv) (tn si) (upd tu (tn mo) (tu (tn mo) ||| (1 <<< (nI i &&& 31))))) ro rmo rb nr = nr) (tgt := 85) S dX11_woken_75 (by decide) (fun c75 => ?_) (fun c75 => ?_)
              · refine lv_iconst (v := 0) S.1 S.2.1 dX11_woken_85 (by decide) ?_
                refine aw_eqi (show (0 : Int32) = if (wkP nf nt nn tu ro rmo rb nr (tn sv) (tn si) (tn mo)) i = true then 1 <<< (nI i &&& 31) else 0 from (by rw [if_neg (show ¬ (wkP nf nt nn tu ro rmo rb nr (tn sv) (tn si) (tn mo)) i = true from fun q => c75 (of_decide_eq_true q))])) ?_
                exact join86  _ _ _ (lv_sub hl [0, 1, 2, 3, 4, 5] rfl) hw
              · refine lv_iconst (v := 1) S.1 S.2.1 dX11_woken_78 (by decide) ?_
                refine lv_iload S.1 S.2.1 dX11_woken_79 (lv_at hl 5 rfl) ?_
                refine lv_ishl S.1 S.2.1 dX11_woken_81 ?_
                refine lv_goto (tgt := 86) S.1 S.2.1 dX11_woken_82 (by decide) ?_
                refine aw_eqi (show (1 <<< ((nI i) &&& 31) : Int32) = if (wkP nf nt nn tu ro rmo rb nr (tn sv) (tn si) (tn mo)) i = true then 1 <<< (nI i &&& 31) else 0 from (by rw [if_pos (show (wkP nf nt nn tu ro rmo rb nr (tn sv) (tn si) (tn mo)) i = true from decide_eq_true c75)])) ?_
                exact join86  _ _ _ (lv_sub hl [0, 1, 2, 3, 4, 5] rfl) hw
        exact loop37 _ 0 ks tu (by first | assumption | omega) (fun j hj _ => rfl) (Nat.lt_succ_self _) _ _ _ (lv_sub hl [2, 3, 4, 5, 1, 0] rfl) hw
      · refine lv_bipush (v := (-2)) S.1 S.2.1 dX11_woken_24 (by decide) ?_
        refine aw_eqi (show ((-2) : Int32) = f_woken n sv si mo (bgF (wkP nf nt nn tu ro rmo rb nr (tn sv) (tn si) (tn mo)) n) from (by rw [f_woken, if_pos c5, if_neg (fun q => c21 q.2)])) ?_
        exact aw_iret S hr hlk ha hQ hAe hw dX11_woken_26 rfl (Nat.le_of_ble_eq_true rfl) (Nat.le_of_ble_eq_true rfl) ⟨rfl, _, _, rfl⟩
  · refine lv_iconst (v := (-1)) S.1 S.2.1 dX11_woken_8 (by decide) ?_
    refine aw_eqi (show ((-1) : Int32) = f_woken n sv si mo (bgF (wkP nf nt nn tu ro rmo rb nr (tn sv) (tn si) (tn mo)) n) from (by rw [f_woken, if_neg c5])) ?_
    exact aw_iret S hr hlk ha hQ hAe hw dX11_woken_9 rfl (Nat.le_of_ble_eq_true rfl) (Nat.le_of_ble_eq_true rfl) ⟨rfl, _, _, rfl⟩
