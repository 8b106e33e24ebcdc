/-! the reference: the least harm -/
theorem lsM_ge {its : Nat → Int32} {S : Nat} (h : (lsM its S).1 ≤ its S) : lsM its (S + 1) = lsM its S := by
  rw [lsM, if_neg (fun q => by rw [fa_lt] at q; rw [fa_le] at h; omega)]
theorem lsM_lt {its : Nat → Int32} {S : Nat} (h : ¬ (lsM its S).1 ≤ its S) : lsM its (S + 1) = (its S, S) := by
  rw [lsM, if_pos (by rw [fa_lt]; rw [fa_le] at h; omega)]
set_option maxRecDepth 100000 in
set_option maxHeartbeats 4000000 in
theorem c_X11_layLeast (l : Launch) (G : aw_G) (am : Nat → Nat) (fl : Int32) (n : Nat) (lw : Int32) (nn ra rsn nr : Nat) (tr : Int32) (kd sk wa lf bf : Nat → Int32) (hn : n ≤ 6) : CT l G yX11_layLeast wsX11_layLeast ({ frames := 2, cells := 0, slots := 0, locals := 45 }) [.ref (am 31)] [[(am 31, mdO am fl n lw nn ra rsn nr tr)], [(am 2, .inl (gI G, 6, .inl kd))], [(am 3, .inl (gI G, 6, .inl sk))], [(am 6, .inl (gI G, 12, .inl wa))], [(am 19, .inl (gI G, 832, .inl lf))], [(am 20, .inl (gI G, 768, .inl bf))]] (fun v w => v = none ∧ ∃ (lf bf : Nat → Int32), (∀ m, 0 ≤ m → m < 13 → ∀ x, x < 2 ^ n → lf (64 * m + x) = rl n (soC n sk) (hsC n (fun j => hoK (kd j))) wa (12 - m) x) ∧ (∀ m, 0 ≤ m → m < 12 → ∀ x, x < 2 ^ n → bf (64 * m + x) = nI (rb n (soC n sk) (hsC n (fun j => hoK (kd j))) wa (11 - m) x)) ∧ w = [[(am 31, mdO am fl n lw nn ra rsn nr tr)], [(am 2, .inl (gI G, 6, .inl kd))], [(am 3, .inl (gI G, 6, .inl sk))], [(am 6, .inl (gI G, 12, .inl wa))], [(am 19, .inl (gI G, 832, .inl lf))], [(am 20, .inl (gI G, 768, .inl bf))]]) := by
  refine CT.of (cc := cX11_layLeast) (nL := 7) (ret := none) (by decide) rfl (Nat.le_of_ble_eq_true rfl) ?_
  intro p e s m below meth c R args Q A hRm ha hQ hAe hA S hE hr hlk hnm H locs hH0 hL0 ls hl hw
  have S : CallFix p m c cX11_layLeast 7 s args wsX11_layLeast RX11 := S
  have hl : lv_has ls 7 [(0, .ref (am 31))] := hl
  have hinX11 : ∀ w ∈ u_ws RX11 TX11 31, w ∈ wsX11_layLeast := by decide +kernel
  have hf49 := S.2.2.2.2 (.fieldLink RX11 49 "AwakeTurnsModel" "leastFrom" "[I") (by decide +kernel)
  have hf52 := S.2.2.2.2 (.fieldLink RX11 52 "AwakeTurnsModel" "bestFrom" "[I") (by decide +kernel)
  have hp6 := pow6' hn
  have hp1 : 1 ≤ 2 ^ n := Nat.one_le_two_pow
  refine lv_iconst (v := 0) S.1 S.2.1 dX11_layLeast_0 (by decide) ?_
  refine lv_istore_n (lv' := [(1, .int 0), (0, .ref (am 31))]) S.1 S.2.1 dX11_layLeast_1 rfl hl (by decide) rfl (fun ls hl => ?_)
  have loop2 : ∀ (fu : Nat) (i : Nat) (lf1 : Nat → Int32), (i ≤ 64) → (∀ x, x < i → lf1 (768 + x) = 0) → (64 - i) < fu → ∀ (ls : Array Slot) (H : Heap) (locs : List Loc), lv_has ls 7 [(0, .ref (am 31)), (1, .int (nI i))] → bW G A s.heap [[(am 31, mdO am fl n lw nn ra rsn nr tr)], [(am 2, .inl (gI G, 6, .inl kd))], [(am 3, .inl (gI G, 6, .inl sk))], [(am 6, .inl (gI G, 12, .inl wa))], [(am 19, .inl (gI G, 832, .inl lf1))], [(am 20, .inl (gI G, 768, .inl bf))]] H locs → W p l e R s m args below meth c H locs 0 0 Q (F0 m 2 ls []) := by
    intro fu
    induction fu with
    | zero => intro i lf1 _ _ hm; exact absurd hm (Nat.not_lt_zero _)
    | succ fu ih2 =>
      intro i lf1 hi hz hm ls H locs hl hw
      refine lv_iload_n S.1 S.2.1 dX11_layLeast_2 rfl (lv_at hl 1 rfl) ?_
      refine lv_bipush (v := 64) S.1 S.2.1 dX11_layLeast_3 (by decide) ?_
      refine aw_icmpN_ge (x := i) (y := 64) (tgt := 25) S (by omega) (by omega) dX11_layLeast_5 (by decide) (fun c5 => ?_) (fun c5 => ?_)
      · refine lv_bipush (v := 11) S.1 S.2.1 dX11_layLeast_25 (by decide) ?_
        refine lv_istore_n (lv' := [(1, .int 11), (0, .ref (am 31))]) S.1 S.2.1 dX11_layLeast_27 rfl hl (by decide) rfl (fun ls hl => ?_)
        have hl := Eq.mp (congrArg (fun z_ : Int32 => lv_has ls 7 [(1, .int z_), (0, .ref (am 31))]) (show (11 : Int32) = nI 12 - 1 from (by decide))) hl
        have hl : lv_has ls 7 [(1, .int (nI 12 - 1)), (0, .ref (am 31))] := hl
        have loop28 : ∀ (fu : Nat) (j : Nat) (lf1 : Nat → Int32) (bf1 : Nat → Int32), (j ≤ 12) → (∀ m, j ≤ m → m < 13 → ∀ x, x < 2 ^ n → lf1 (64 * m + x) = rl n (soC n sk) (hsC n (fun j => hoK (kd j))) wa (12 - m) x) → (∀ m, j ≤ m → m < 12 → ∀ x, x < 2 ^ n → bf1 (64 * m + x) = nI (rb n (soC n sk) (hsC n (fun j => hoK (kd j))) wa (11 - m) x)) → j < fu → ∀ (ls : Array Slot) (H : Heap) (locs : List Loc), lv_has ls 7 [(0, .ref (am 31)), (1, .int (nI j - 1))] → bW G A s.heap [[(am 31, mdO am fl n lw nn ra rsn nr tr)], [(am 2, .inl (gI G, 6, .inl kd))], [(am 3, .inl (gI G, 6, .inl sk))], [(am 6, .inl (gI G, 12, .inl wa))], [(am 19, .inl (gI G, 832, .inl lf1))], [(am 20, .inl (gI G, 768, .inl bf1))]] H locs → W p l e R s m args below meth c H locs 0 0 Q (F0 m 28 ls []) := by
          intro fu
          induction fu with
          | zero => intro j lf1 bf1 _ _ _ hm; exact absurd hm (Nat.not_lt_zero _)
          | succ fu ih28 =>
            intro j lf1 bf1 hj hz hb hm ls H locs hl hw
            by_cases hj0 : j = 0
            · subst hj0
              refine lv_iload_n S.1 S.2.1 dX11_layLeast_28 rfl (lv_at hl 1 rfl) ?_
              refine lv_if_lt (tgt := 175) S.1 S.2.1 dX11_layLeast_29 (by decide) (fun c29 => ?_) (fun c29 => ?_)
              · exact aw_vret S hr hlk ha hQ hAe hw dX11_layLeast_175 (Nat.le_of_ble_eq_true rfl) (Nat.le_of_ble_eq_true rfl) ⟨rfl, lf1, bf1, hz, hb, rfl⟩
              · exact absurd (by decide) c29
            · obtain ⟨mo, rfl⟩ : ∃ mo, j = mo + 1 := ⟨j - 1, by omega⟩
              have hl := Eq.mp (congrArg (fun z_ : Int32 => lv_has ls 7 [(0, .ref (am 31)), (1, .int z_)]) (show (nI (mo + 1) - 1 : Int32) = nI mo from (nI_pred mo))) hl
              have hl : lv_has ls 7 [(0, .ref (am 31)), (1, .int (nI mo))] := hl
              refine lv_iload_n S.1 S.2.1 dX11_layLeast_28 rfl (lv_at hl 1 rfl) ?_
              refine lv_if_lt (tgt := 175) S.1 S.2.1 dX11_layLeast_29 (by decide) (fun c29 => ?_) (fun c29 => ?_)
              · exact absurd c29 (nI_pos (by omega))
              · refine lv_iconst (v := 0) S.1 S.2.1 dX11_layLeast_32 (by decide) ?_
                refine lv_istore_n (lv' := [(2, .int 0), (0, .ref (am 31)), (1, .int (nI mo))]) S.1 S.2.1 dX11_layLeast_33 rfl hl (by decide) rfl (fun ls hl => ?_)
                have loop34 : ∀ (fu : Nat) (b : Nat) (lf2 : Nat → Int32) (bf2 : Nat → Int32), (b ≤ 2 ^ n) → (∀ m, mo + 1 ≤ m → m < 13 → ∀ x, x < 2 ^ n → lf2 (64 * m + x) = rl n (soC n sk) (hsC n (fun j => hoK (kd j))) wa (12 - m) x) → (∀ x, x < b → lf2 (64 * mo + x) = rl n (soC n sk) (hsC n (fun j => hoK (kd j))) wa (12 - mo) x) → (∀ m, mo + 1 ≤ m → m < 12 → ∀ x, x < 2 ^ n → bf2 (64 * m + x) = nI (rb n (soC n sk) (hsC n (fun j => hoK (kd j))) wa (11 - m) x)) → (∀ x, x < b → bf2 (64 * mo + x) = nI (rb n (soC n sk) (hsC n (fun j => hoK (kd j))) wa (11 - mo) x)) → (2 ^ n - b) < fu → ∀ (ls : Array Slot) (H : Heap) (locs : List Loc), lv_has ls 7 [(0, .ref (am 31)), (1, .int (nI mo)), (2, .int (nI b))] → bW G A s.heap [[(am 31, mdO am fl n lw nn ra rsn nr tr)], [(am 2, .inl (gI G, 6, .inl kd))], [(am 3, .inl (gI G, 6, .inl sk))], [(am 6, .inl (gI G, 12, .inl wa))], [(am 19, .inl (gI G, 832, .inl lf2))], [(am 20, .inl (gI G, 768, .inl bf2))]] H locs → W p l e R s m args below meth c H locs 0 0 Q (F0 m 34 ls []) := by
                  intro fu
                  induction fu with
                  | zero => intro b lf2 bf2 _ _ _ _ _ hm; exact absurd hm (Nat.not_lt_zero _)
                  | succ fu ih34 =>
                    intro b lf2 bf2 hb_ hz2 hr2 hb2 hc2 hm ls H locs hl hw
                    refine lv_iload_n S.1 S.2.1 dX11_layLeast_34 rfl (lv_at hl 2 rfl) ?_
                    refine lv_aload_n S.1 S.2.1 dX11_layLeast_35 rfl (lv_at hl 0 rfl) ?_
                    refine aw_callV S hE (c_X11_all l G am fl n lw nn ra rsn nr tr (by first | assumption | omega)) gX11_layLeast_X11_all (n := 0) rfl (by decide +kernel) rfl (by rw [hRm]; exact ⟨Nat.le_of_ble_eq_true rfl, Nat.le_of_ble_eq_true rfl⟩) (by rw [hRm]; exact ⟨Nat.le_of_ble_eq_true rfl, Nat.le_of_ble_eq_true rfl⟩) hw hA hl.1 [0] rfl rfl (aw_recv (i := 0) hE hw rfl rfl rfl) rfl (Nat.le_of_ble_eq_true rfl) dX11_layLeast_36 ?_
                    rintro v w1 H locs ⟨rfl, rfl⟩ hw
                    have hw : bW G A s.heap [[(am 31, mdO am fl n lw nn ra rsn nr tr)], [(am 2, .inl (gI G, 6, .inl kd))], [(am 3, .inl (gI G, 6, .inl sk))], [(am 6, .inl (gI G, 12, .inl wa))], [(am 19, .inl (gI G, 832, .inl lf2))], [(am 20, .inl (gI G, 768, .inl bf2))]] H locs := hw
                    refine W.eq (g2 := (F0 m 39 ls [.int (nI (2 ^ n - 1)), .int (nI b)])) rfl ?_
                    refine aw_icmpN_gt (x := b) (y := 2 ^ n - 1) (tgt := 169) S (by omega) (by omega) dX11_layLeast_39 (by decide) (fun c39 => ?_) (fun c39 => ?_)
                    · have ex_b : b = 2 ^ n := by omega
                      rw [ex_b] at hr2 hc2
                      refine lv_iinc (v := nI mo - 1) (lv' := [(1, .int (nI mo - 1)), (0, .ref (am 31)), (2, .int (nI b))]) S.1 S.2.1 dX11_layLeast_169 hl (k := 1) rfl (aw_dec _) (by decide) rfl (fun ls hl => ?_)
                      refine lv_goto (tgt := 28) S.1 S.2.1 dX11_layLeast_172 (by decide) ?_
                      exact ih28 mo lf2 bf2 (by first | assumption | omega) (ll_next (R := fun m x => rl n (soC n sk) (hsC n (fun j => hoK (kd j))) wa (12 - m) x) hz2 hr2) (ll_next (R := fun m x => nI (rb n (soC n sk) (hsC n (fun j => hoK (kd j))) wa (11 - m) x)) hb2 hc2) (by omega) _ _ _ (lv_sub hl [1, 0] rfl) hw
                    · refine lv_sipush (v := 9999) S.1 S.2.1 dX11_layLeast_42 (by decide) ?_
                      refine lv_istore_n (lv' := [(3, .int 9999), (0, .ref (am 31)), (1, .int (nI mo)), (2, .int (nI b))]) S.1 S.2.1 dX11_layLeast_45 rfl hl (by decide) rfl (fun ls hl => ?_)
                      refine lv_iconst (v := 0) S.1 S.2.1 dX11_layLeast_46 (by decide) ?_
                      refine lv_istore (lv' := [(4, .int 0), (3, .int 9999), (0, .ref (am 31)), (1, .int (nI mo)), (2, .int (nI b))]) S.1 S.2.1 dX11_layLeast_47 hl (by decide) rfl (fun ls hl => ?_)
                      refine lv_iconst (v := 0) S.1 S.2.1 dX11_layLeast_49 (by decide) ?_
                      refine lv_istore (lv' := [(5, .int 0), (4, .int 0), (3, .int 9999), (0, .ref (am 31)), (1, .int (nI mo)), (2, .int (nI b))]) S.1 S.2.1 dX11_layLeast_50 hl (by decide) rfl (fun ls hl => ?_)
                      have hl := Eq.mp (congrArg (fun z_ : Int32 => lv_has ls 7 [(5, .int 0), (4, .int 0), (3, .int z_), (0, .ref (am 31)), (1, .int (nI mo)), (2, .int (nI b))]) (show (9999 : Int32) = (lsM (itF (soC n sk) (hsC n (fun j => hoK (kd j))) (wa mo) (rl n (soC n sk) (hsC n (fun j => hoK (kd j))) wa (11 - mo)) b) 0).1 from rfl)) hl
                      have hl : lv_has ls 7 [(5, .int 0), (4, .int 0), (3, .int ((lsM (itF (soC n sk) (hsC n (fun j => hoK (kd j))) (wa mo) (rl n (soC n sk) (hsC n (fun j => hoK (kd j))) wa (11 - mo)) b) 0).1)), (0, .ref (am 31)), (1, .int (nI mo)), (2, .int (nI b))] := hl
                      have hl := Eq.mp (congrArg (fun z_ : Int32 => lv_has ls 7 [(5, .int 0), (4, .int z_), (3, .int ((lsM (itF (soC n sk) (hsC n (fun j => hoK (kd j))) (wa mo) (rl n (soC n sk) (hsC n (fun j => hoK (kd j))) wa (11 - mo)) b) 0).1)), (0, .ref (am 31)), (1, .int (nI mo)), (2, .int (nI b))]) (show (0 : Int32) = nI ((lsM (itF (soC n sk) (hsC n (fun j => hoK (kd j))) (wa mo) (rl n (soC n sk) (hsC n (fun j => hoK (kd j))) wa (11 - mo)) b) 0).2) from rfl)) hl
                      have hl : lv_has ls 7 [(5, .int 0), (4, .int (nI ((lsM (itF (soC n sk) (hsC n (fun j => hoK (kd j))) (wa mo) (rl n (soC n sk) (hsC n (fun j => hoK (kd j))) wa (11 - mo)) b) 0).2))), (3, .int ((lsM (itF (soC n sk) (hsC n (fun j => hoK (kd j))) (wa mo) (rl n (soC n sk) (hsC n (fun j => hoK (kd j))) wa (11 - mo)) b) 0).1)), (0, .ref (am 31)), (1, .int (nI mo)), (2, .int (nI b))] := hl
                      have loop52 : ∀ (fu : Nat) (S_ : Nat), (S_ ≤ 2 ^ n) → (2 ^ n - S_) < fu → ∀ (ls : Array Slot) (H : Heap) (locs : List Loc), lv_has ls 7 [(0, .ref (am 31)), (1, .int (nI mo)), (2, .int (nI b)), (3, .int ((lsM (itF (soC n sk) (hsC n (fun j => hoK (kd j))) (wa mo) (rl n (soC n sk) (hsC n (fun j => hoK (kd j))) wa (11 - mo)) b) S_).1)), (4, .int (nI ((lsM (itF (soC n sk) (hsC n (fun j => hoK (kd j))) (wa mo) (rl n (soC n sk) (hsC n (fun j => hoK (kd j))) wa (11 - mo)) b) S_).2))), (5, .int (nI S_))] → bW G A s.heap [[(am 31, mdO am fl n lw nn ra rsn nr tr)], [(am 2, .inl (gI G, 6, .inl kd))], [(am 3, .inl (gI G, 6, .inl sk))], [(am 6, .inl (gI G, 12, .inl wa))], [(am 19, .inl (gI G, 832, .inl lf2))], [(am 20, .inl (gI G, 768, .inl bf2))]] H locs → W p l e R s m args below meth c H locs 0 0 Q (F0 m 52 ls []) := by
                        intro fu
                        induction fu with
                        | zero => intro S_ _ hm; exact absurd hm (Nat.not_lt_zero _)
                        | succ fu ih52 =>
                          intro S_ hS hm ls H locs hl hw
                          refine lv_iload S.1 S.2.1 dX11_layLeast_52 (lv_at hl 5 rfl) ?_
                          refine lv_aload_n S.1 S.2.1 dX11_layLeast_54 rfl (lv_at hl 0 rfl) ?_
                          refine aw_callV S hE (c_X11_all l G am fl n lw nn ra rsn nr tr (by first | assumption | omega)) gX11_layLeast_X11_all (n := 0) rfl (by decide +kernel) rfl (by rw [hRm]; exact ⟨Nat.le_of_ble_eq_true rfl, Nat.le_of_ble_eq_true rfl⟩) (by rw [hRm]; exact ⟨Nat.le_of_ble_eq_true rfl, Nat.le_of_ble_eq_true rfl⟩) hw hA hl.1 [0] rfl rfl (aw_recv (i := 0) hE hw rfl rfl rfl) rfl (Nat.le_of_ble_eq_true rfl) dX11_layLeast_55 ?_
                          rintro v w1 H locs ⟨rfl, rfl⟩ hw
                          have hw : bW G A s.heap [[(am 31, mdO am fl n lw nn ra rsn nr tr)], [(am 2, .inl (gI G, 6, .inl kd))], [(am 3, .inl (gI G, 6, .inl sk))], [(am 6, .inl (gI G, 12, .inl wa))], [(am 19, .inl (gI G, 832, .inl lf2))], [(am 20, .inl (gI G, 768, .inl bf2))]] H locs := hw
                          refine W.eq (g2 := (F0 m 58 ls [.int (nI (2 ^ n - 1)), .int (nI S_)])) rfl ?_
                          refine aw_icmpN_gt (x := S_) (y := 2 ^ n - 1) (tgt := 138) S (by omega) (by omega) dX11_layLeast_58 (by decide) (fun c58 => ?_) (fun c58 => ?_)
                          · have ex_S : S_ = 2 ^ n := by omega
                            try rw [ex_S] at hl
                            try rw [ex_S] at hw
                            refine lv_aload_n S.1 S.2.1 dX11_layLeast_138 rfl (lv_at hl 0 rfl) ?_
                            refine aw_get S hE hw 0 (C := RX11) (T := TX11) (N := 31) rfl rfl hinX11 19 (by decide) hf49 rfl dX11_layLeast_139 ?_
                            refine lv_bipush (v := 64) S.1 S.2.1 dX11_layLeast_142 (by decide) ?_
                            refine lv_iload_n S.1 S.2.1 dX11_layLeast_144 rfl (lv_at hl 1 rfl) ?_
                            refine lv_imul S.1 S.2.1 dX11_layLeast_145 ?_
                            refine aw_eqi (show (64 * (nI mo) : Int32) = nI (64 * mo) from (pk_mul 64 mo)) ?_
                            refine lv_iload_n S.1 S.2.1 dX11_layLeast_146 rfl (lv_at hl 2 rfl) ?_
                            refine lv_iadd S.1 S.2.1 dX11_layLeast_147 ?_
                            refine aw_eqi (show ((nI (64 * mo)) + (nI b) : Int32) = nI ((64 * mo) + b) from (nI_add (64 * mo) b)) ?_
                            refine lv_iload_n S.1 S.2.1 dX11_layLeast_148 rfl (lv_at hl 3 rfl) ?_
                            refine aw_iast S hE hw 4 (k := ((64 * mo) + b)) rfl (by omega) (by decide) dX11_layLeast_149 (fun H locs hw => ?_)
                            have hw : bW G A s.heap [[(am 31, mdO am fl n lw nn ra rsn nr tr)], [(am 2, .inl (gI G, 6, .inl kd))], [(am 3, .inl (gI G, 6, .inl sk))], [(am 6, .inl (gI G, 12, .inl wa))], [(am 19, .inl (gI G, 832, .inl (upd lf2 ((64 * mo) + b) ((lsM (itF (soC n sk) (hsC n (fun j => hoK (kd j))) (wa mo) (rl n (soC n sk) (hsC n (fun j => hoK (kd j))) wa (11 - mo)) b) (2 ^ n)).1))))], [(am 20, .inl (gI G, 768, .inl bf2))]] H locs := hw
                            refine lv_aload_n S.1 S.2.1 dX11_layLeast_150 rfl (lv_at hl 0 rfl) ?_
                            refine aw_get S hE hw 0 (C := RX11) (T := TX11) (N := 31) rfl rfl hinX11 20 (by decide) hf52 rfl dX11_layLeast_151 ?_
                            refine lv_bipush (v := 64) S.1 S.2.1 dX11_layLeast_154 (by decide) ?_
                            refine lv_iload_n S.1 S.2.1 dX11_layLeast_156 rfl (lv_at hl 1 rfl) ?_
                            refine lv_imul S.1 S.2.1 dX11_layLeast_157 ?_
                            refine aw_eqi (show (64 * (nI mo) : Int32) = nI (64 * mo) from (pk_mul 64 mo)) ?_
                            refine lv_iload_n S.1 S.2.1 dX11_layLeast_158 rfl (lv_at hl 2 rfl) ?_
                            refine lv_iadd S.1 S.2.1 dX11_layLeast_159 ?_
                            refine aw_eqi (show ((nI (64 * mo)) + (nI b) : Int32) = nI ((64 * mo) + b) from (nI_add (64 * mo) b)) ?_
                            refine lv_iload S.1 S.2.1 dX11_layLeast_160 (lv_at hl 4 rfl) ?_
                            refine aw_iast S hE hw 5 (k := ((64 * mo) + b)) rfl (by omega) (by decide) dX11_layLeast_162 (fun H locs hw => ?_)
                            have hw : bW G A s.heap [[(am 31, mdO am fl n lw nn ra rsn nr tr)], [(am 2, .inl (gI G, 6, .inl kd))], [(am 3, .inl (gI G, 6, .inl sk))], [(am 6, .inl (gI G, 12, .inl wa))], [(am 19, .inl (gI G, 832, .inl (upd lf2 ((64 * mo) + b) ((lsM (itF (soC n sk) (hsC n (fun j => hoK (kd j))) (wa mo) (rl n (soC n sk) (hsC n (fun j => hoK (kd j))) wa (11 - mo)) b) (2 ^ n)).1))))], [(am 20, .inl (gI G, 768, .inl (upd bf2 ((64 * mo) + b) (nI ((lsM (itF (soC n sk) (hsC n (fun j => hoK (kd j))) (wa mo) (rl n (soC n sk) (hsC n (fun j => hoK (kd j))) wa (11 - mo)) b) (2 ^ n)).2)))))]] H locs := hw
                            refine lv_iinc (v := nI (b + 1)) (lv' := [(2, .int (nI (b + 1))), (0, .ref (am 31)), (1, .int (nI mo)), (3, .int ((lsM (itF (soC n sk) (hsC n (fun j => hoK (kd j))) (wa mo) (rl n (soC n sk) (hsC n (fun j => hoK (kd j))) wa (11 - mo)) b) (2 ^ n)).1)), (4, .int (nI ((lsM (itF (soC n sk) (hsC n (fun j => hoK (kd j))) (wa mo) (rl n (soC n sk) (hsC n (fun j => hoK (kd j))) wa (11 - mo)) b) (2 ^ n)).2))), (5, .int (nI (2 ^ n)))]) S.1 S.2.1 dX11_layLeast_163 hl (k := 2) rfl (by first | exact nI_1 _ | exact nI_add _ _ | rfl) (by decide) rfl (fun ls hl => ?_)
                            refine lv_goto (tgt := 34) S.1 S.2.1 dX11_layLeast_166 (by decide) ?_
                            exact ih34 (b + 1) (upd lf2 (64 * mo + b) ((lsM (itF (soC n sk) (hsC n (fun j => hoK (kd j))) (wa mo) (rl n (soC n sk) (hsC n (fun j => hoK (kd j))) wa (11 - mo)) b) (2 ^ n)).1)) (upd bf2 (64 * mo + b) (nI ((lsM (itF (soC n sk) (hsC n (fun j => hoK (kd j))) (wa mo) (rl n (soC n sk) (hsC n (fun j => hoK (kd j))) wa (11 - mo)) b) (2 ^ n)).2))) (by first | assumption | omega) (ll_old (R := fun m x => rl n (soC n sk) (hsC n (fun j => hoK (kd j))) wa (12 - m) x) (by omega) hz2) (ll_row (R := fun x => rl n (soC n sk) (hsC n (fun j => hoK (kd j))) wa (12 - mo) x) hr2 (rl_at (by omega)).symm) (ll_old (R := fun m x => nI (rb n (soC n sk) (hsC n (fun j => hoK (kd j))) wa (11 - m) x)) (by omega) hb2) (ll_row (R := fun x => nI (rb n (soC n sk) (hsC n (fun j => hoK (kd j))) wa (11 - mo) x)) hc2 (congrArg nI (rb_at (by omega)).symm)) (by omega) _ _ _ (lv_sub hl [1, 2, 0] rfl) hw
                          · obtain ⟨had, hal⟩ := ad_and S_ (by omega) b (by omega)
                            refine lv_aload_n S.1 S.2.1 dX11_layLeast_61 rfl (lv_at hl 0 rfl) ?_
                            refine lv_iload S.1 S.2.1 dX11_layLeast_62 (lv_at hl 5 rfl) ?_
                            refine lv_iload_n S.1 S.2.1 dX11_layLeast_64 rfl (lv_at hl 1 rfl) ?_
                            refine aw_callV S hE (c_X11_doMeet l G am fl n lw nn ra rsn nr tr sk wa S_ mo (by first | assumption | omega) (by first | assumption | omega) (by first | assumption | omega)) gX11_layLeast_X11_doMeet (n := 2) rfl (by decide +kernel) rfl (by rw [hRm]; exact ⟨Nat.le_of_ble_eq_true rfl, Nat.le_of_ble_eq_true rfl⟩) (by rw [hRm]; exact ⟨Nat.le_of_ble_eq_true rfl, Nat.le_of_ble_eq_true rfl⟩) hw hA hl.1 [0, 2, 3] rfl rfl (aw_recv (i := 0) hE hw rfl rfl rfl) rfl (Nat.le_of_ble_eq_true rfl) dX11_layLeast_65 ?_
                            rintro v w1 H locs ⟨rfl, rfl⟩ hw
                            have hw : bW G A s.heap [[(am 31, mdO am fl n lw nn ra rsn nr tr)], [(am 2, .inl (gI G, 6, .inl kd))], [(am 3, .inl (gI G, 6, .inl sk))], [(am 6, .inl (gI G, 12, .inl wa))], [(am 19, .inl (gI G, 832, .inl lf2))], [(am 20, .inl (gI G, 768, .inl bf2))]] H locs := hw
                            refine W.eq (g2 := (F0 m 68 ls [.int (if mtP (soC n sk) (wa mo) S_ = true then 1 else 0)])) rfl ?_
                            have join102 : ∀ (H : Heap) (locs : List Loc), ∀ (ls : Array Slot), lv_has ls 7 [(0, .ref (am 31)), (1, .int (nI mo)), (2, .int (nI b)), (3, .int ((lsM (itF (soC n sk) (hsC n (fun j => hoK (kd j))) (wa mo) (rl n (soC n sk) (hsC n (fun j => hoK (kd j))) wa (11 - mo)) b) S_).1)), (4, .int (nI ((lsM (itF (soC n sk) (hsC n (fun j => hoK (kd j))) (wa mo) (rl n (soC n sk) (hsC n (fun j => hoK (kd j))) wa (11 - mo)) b) S_).2))), (5, .int (nI S_))] → bW G A s.heap [[(am 31, mdO am fl n lw nn ra rsn nr tr)], [(am 2, .inl (gI G, 6, .inl kd))], [(am 3, .inl (gI G, 6, .inl sk))], [(am 6, .inl (gI G, 12, .inl wa))], [(am 19, .inl (gI G, 832, .inl lf2))], [(am 20, .inl (gI G, 768, .inl bf2))]] H locs → W p l e R s m args below meth c H locs 0 0 Q (F0 m 102 ls [.int (itF (soC n sk) (hsC n (fun j => hoK (kd j))) (wa mo) (rl n (soC n sk) (hsC n (fun j => hoK (kd j))) wa (11 - mo)) b S_)]) := by
                              intro  H locs ls hl hw
                              refine lv_istore (lv' := [(6, .int (itF (soC n sk) (hsC n (fun j => hoK (kd j))) (wa mo) (rl n (soC n sk) (hsC n (fun j => hoK (kd j))) wa (11 - mo)) b S_)), (0, .ref (am 31)), (1, .int (nI mo)), (2, .int (nI b)), (3, .int ((lsM (itF (soC n sk) (hsC n (fun j => hoK (kd j))) (wa mo) (rl n (soC n sk) (hsC n (fun j => hoK (kd j))) wa (11 - mo)) b) S_).1)), (4, .int (nI ((lsM (itF (soC n sk) (hsC n (fun j => hoK (kd j))) (wa mo) (rl n (soC n sk) (hsC n (fun j => hoK (kd j))) wa (11 - mo)) b) S_).2))), (5, .int (nI S_))]) S.1 S.2.1 dX11_layLeast_102 hl (by decide) rfl (fun ls hl => ?_)
                              have join117 : ∀ (H : Heap) (locs : List Loc), ∀ (ls : Array Slot), lv_has ls 7 [(6, .int (itF (soC n sk) (hsC n (fun j => hoK (kd j))) (wa mo) (rl n (soC n sk) (hsC n (fun j => hoK (kd j))) wa (11 - mo)) b S_)), (0, .ref (am 31)), (1, .int (nI mo)), (2, .int (nI b)), (3, .int ((lsM (itF (soC n sk) (hsC n (fun j => hoK (kd j))) (wa mo) (rl n (soC n sk) (hsC n (fun j => hoK (kd j))) wa (11 - mo)) b) S_).1)), (4, .int (nI ((lsM (itF (soC n sk) (hsC n (fun j => hoK (kd j))) (wa mo) (rl n (soC n sk) (hsC n (fun j => hoK (kd j))) wa (11 - mo)) b) S_).2))), (5, .int (nI S_))] → bW G A s.heap [[(am 31, mdO am fl n lw nn ra rsn nr tr)], [(am 2, .inl (gI G, 6, .inl kd))], [(am 3, .inl (gI G, 6, .inl sk))], [(am 6, .inl (gI G, 12, .inl wa))], [(am 19, .inl (gI G, 832, .inl lf2))], [(am 20, .inl (gI G, 768, .inl bf2))]] H locs → W p l e R s m args below meth c H locs 0 0 Q (F0 m 117 ls [.int (nI ((lsM (itF (soC n sk) (hsC n (fun j => hoK (kd j))) (wa mo) (rl n (soC n sk) (hsC n (fun j => hoK (kd j))) wa (11 - mo)) b) (S_ + 1)).2))]) := by
                                intro  H locs ls hl hw
                                refine lv_istore (lv' := [(4, .int (nI ((lsM (itF (soC n sk) (hsC n (fun j => hoK (kd j))) (wa mo) (rl n (soC n sk) (hsC n (fun j => hoK (kd j))) wa (11 - mo)) b) (S_ + 1)).2))), (6, .int (itF (soC n sk) (hsC n (fun j => hoK (kd j))) (wa mo) (rl n (soC n sk) (hsC n (fun j => hoK (kd j))) wa (11 - mo)) b S_)), (0, .ref (am 31)), (1, .int (nI mo)), (2, .int (nI b)), (3, .int ((lsM (itF (soC n sk) (hsC n (fun j => hoK (kd j))) (wa mo) (rl n (soC n sk) (hsC n (fun j => hoK (kd j))) wa (11 - mo)) b) S_).1)), (5, .int (nI S_))]) S.1 S.2.1 dX11_layLeast_117 hl (by decide) rfl (fun ls hl => ?_)
                                have join131 : ∀ (H : Heap) (locs : List Loc), ∀ (ls : Array Slot), lv_has ls 7 [(4, .int (nI ((lsM (itF (soC n sk) (hsC n (fun j => hoK (kd j))) (wa mo) (rl n (soC n sk) (hsC n (fun j => hoK (kd j))) wa (11 - mo)) b) (S_ + 1)).2))), (6, .int (itF (soC n sk) (hsC n (fun j => hoK (kd j))) (wa mo) (rl n (soC n sk) (hsC n (fun j => hoK (kd j))) wa (11 - mo)) b S_)), (0, .ref (am 31)), (1, .int (nI mo)), (2, .int (nI b)), (3, .int ((lsM (itF (soC n sk) (hsC n (fun j => hoK (kd j))) (wa mo) (rl n (soC n sk) (hsC n (fun j => hoK (kd j))) wa (11 - mo)) b) S_).1)), (5, .int (nI S_))] → bW G A s.heap [[(am 31, mdO am fl n lw nn ra rsn nr tr)], [(am 2, .inl (gI G, 6, .inl kd))], [(am 3, .inl (gI G, 6, .inl sk))], [(am 6, .inl (gI G, 12, .inl wa))], [(am 19, .inl (gI G, 832, .inl lf2))], [(am 20, .inl (gI G, 768, .inl bf2))]] H locs → W p l e R s m args below meth c H locs 0 0 Q (F0 m 131 ls [.int ((lsM (itF (soC n sk) (hsC n (fun j => hoK (kd j))) (wa mo) (rl n (soC n sk) (hsC n (fun j => hoK (kd j))) wa (11 - mo)) b) (S_ + 1)).1)]) := by
                                  intro  H locs ls hl hw
                                  refine lv_istore_n (lv' := [(3, .int ((lsM (itF (soC n sk) (hsC n (fun j => hoK (kd j))) (wa mo) (rl n (soC n sk) (hsC n (fun j => hoK (kd j))) wa (11 - mo)) b) (S_ + 1)).1)), (4, .int (nI ((lsM (itF (soC n sk) (hsC n (fun j => hoK (kd j))) (wa mo) (rl n (soC n sk) (hsC n (fun j => hoK (kd j))) wa (11 - mo)) b) (S_ + 1)).2))), (6, .int (itF (soC n sk) (hsC n (fun j => hoK (kd j))) (wa mo) (rl n (soC n sk) (hsC n (fun j => hoK (kd j))) wa (11 - mo)) b S_)), (0, .ref (am 31)), (1, .int (nI mo)), (2, .int (nI b)), (5, .int (nI S_))]) S.1 S.2.1 dX11_layLeast_131 rfl hl (by decide) rfl (fun ls hl => ?_)
                                  refine lv_iinc (v := nI (S_ + 1)) (lv' := [(5, .int (nI (S_ + 1))), (3, .int ((lsM (itF (soC n sk) (hsC n (fun j => hoK (kd j))) (wa mo) (rl n (soC n sk) (hsC n (fun j => hoK (kd j))) wa (11 - mo)) b) (S_ + 1)).1)), (4, .int (nI ((lsM (itF (soC n sk) (hsC n (fun j => hoK (kd j))) (wa mo) (rl n (soC n sk) (hsC n (fun j => hoK (kd j))) wa (11 - mo)) b) (S_ + 1)).2))), (6, .int (itF (soC n sk) (hsC n (fun j => hoK (kd j))) (wa mo) (rl n (soC n sk) (hsC n (fun j => hoK (kd j))) wa (11 - mo)) b S_)), (0, .ref (am 31)), (1, .int (nI mo)), (2, .int (nI b))]) S.1 S.2.1 dX11_layLeast_132 hl (k := 6) rfl (by first | exact nI_1 _ | exact nI_add _ _ | rfl) (by decide) rfl (fun ls hl => ?_)
                                  refine lv_goto (tgt := 52) S.1 S.2.1 dX11_layLeast_135 (by decide) ?_
                                  exact ih52 (S_ + 1) (by first | assumption | omega) (by omega) _ _ _ (lv_sub hl [4, 5, 6, 1, 2, 0] rfl) hw
                                refine lv_iload S.1 S.2.1 dX11_layLeast_119 (lv_at hl 1 rfl) ?_
                                refine lv_iload_n S.1 S.2.1 dX11_layLeast_121 rfl (lv_at hl 5 rfl) ?_
                                refine lv_icmp_ge (tgt := 130) S.1 S.2.1 dX11_layLeast_122 (by decide) (fun c122 => ?_) (fun c122 => ?_)
                                · refine lv_iload_n S.1 S.2.1 dX11_layLeast_130 rfl (lv_at hl 5 rfl) ?_
                                  refine aw_eqi (show ((lsM (itF (soC n sk) (hsC n (fun j => hoK (kd j))) (wa mo) (rl n (soC n sk) (hsC n (fun j => hoK (kd j))) wa (11 - mo)) b) S_).1 : Int32) = (lsM (itF (soC n sk) (hsC n (fun j => hoK (kd j))) (wa mo) (rl n (soC n sk) (hsC n (fun j => hoK (kd j))) wa (11 - mo)) b) (S_ + 1)).1 from (by rw [lsM_ge c122])) ?_
                                  exact join131  _ _ _ (lv_sub hl [0, 1, 2, 3, 4, 5, 6] rfl) hw
                                · refine lv_iload S.1 S.2.1 dX11_layLeast_125 (lv_at hl 1 rfl) ?_
                                  refine lv_goto (tgt := 131) S.1 S.2.1 dX11_layLeast_127 (by decide) ?_
                                  refine aw_eqi (show (itF (soC n sk) (hsC n (fun j => hoK (kd j))) (wa mo) (rl n (soC n sk) (hsC n (fun j => hoK (kd j))) wa (11 - mo)) b S_ : Int32) = (lsM (itF (soC n sk) (hsC n (fun j => hoK (kd j))) (wa mo) (rl n (soC n sk) (hsC n (fun j => hoK (kd j))) wa (11 - mo)) b) (S_ + 1)).1 from (by rw [lsM_lt c122])) ?_
                                  exact join131  _ _ _ (lv_sub hl [0, 1, 2, 3, 4, 5, 6] rfl) hw
                              refine lv_iload S.1 S.2.1 dX11_layLeast_104 (lv_at hl 0 rfl) ?_
                              refine lv_iload_n S.1 S.2.1 dX11_layLeast_106 rfl (lv_at hl 4 rfl) ?_
                              refine lv_icmp_ge (tgt := 115) S.1 S.2.1 dX11_layLeast_107 (by decide) (fun c107 => ?_) (fun c107 => ?_)
                              · refine lv_iload S.1 S.2.1 dX11_layLeast_115 (lv_at hl 5 rfl) ?_
                                refine aw_eqi (show (nI ((lsM (itF (soC n sk) (hsC n (fun j => hoK (kd j))) (wa mo) (rl n (soC n sk) (hsC n (fun j => hoK (kd j))) wa (11 - mo)) b) S_).2) : Int32) = nI ((lsM (itF (soC n sk) (hsC n (fun j => hoK (kd j))) (wa mo) (rl n (soC n sk) (hsC n (fun j => hoK (kd j))) wa (11 - mo)) b) (S_ + 1)).2) from (by rw [lsM_ge c107])) ?_
                                exact join117  _ _ _ (lv_sub hl [0, 1, 2, 3, 4, 5, 6] rfl) hw
                              · refine lv_iload S.1 S.2.1 dX11_layLeast_110 (lv_at hl 6 rfl) ?_
                                refine lv_goto (tgt := 117) S.1 S.2.1 dX11_layLeast_112 (by decide) ?_
                                refine aw_eqi (show (nI S_ : Int32) = nI ((lsM (itF (soC n sk) (hsC n (fun j => hoK (kd j))) (wa mo) (rl n (soC n sk) (hsC n (fun j => hoK (kd j))) wa (11 - mo)) b) (S_ + 1)).2) from (by rw [lsM_lt c107])) ?_
                                exact join117  _ _ _ (lv_sub hl [0, 1, 2, 3, 4, 5, 6] rfl) hw
                            refine aw_ifeq (P := mtP (soC n sk) (wa mo) S_ = true) (tgt := 99) S dX11_layLeast_68 (by decide) (fun c68 => ?_) (fun c68 => ?_)
                            · refine lv_sipush (v := 9999) S.1 S.2.1 dX11_layLeast_99 (by decide) ?_
                              refine aw_eqi (show (9999 : Int32) = itF (soC n sk) (hsC n (fun j => hoK (kd j))) (wa mo) (rl n (soC n sk) (hsC n (fun j => hoK (kd j))) wa (11 - mo)) b S_ from (by rw [itF, if_neg c68])) ?_
                              exact join102  _ _ _ (lv_sub hl [0, 1, 2, 3, 4, 5] rfl) hw
                            · refine lv_aload_n S.1 S.2.1 dX11_layLeast_71 rfl (lv_at hl 0 rfl) ?_
                              refine lv_iload S.1 S.2.1 dX11_layLeast_72 (lv_at hl 5 rfl) ?_
                              refine lv_iload_n S.1 S.2.1 dX11_layLeast_74 rfl (lv_at hl 2 rfl) ?_
                              refine lv_iconst (v := (-1)) S.1 S.2.1 dX11_layLeast_75 (by decide) ?_
                              refine lv_ixor S.1 S.2.1 dX11_layLeast_76 ?_
                              refine lv_iand S.1 S.2.1 dX11_layLeast_77 ?_
                              refine aw_eqi (show ((nI S_) &&& ((nI b) ^^^ (-1)) : Int32) = nI (adN S_ b) from had) ?_
                              refine aw_callV S hE (c_X11_harmOf l G am fl n lw nn ra rsn nr tr kd (adN S_ b) (by first | assumption | omega) hal) gX11_layLeast_X11_harmOf (n := 1) rfl (by decide +kernel) rfl (by rw [hRm]; exact ⟨Nat.le_of_ble_eq_true rfl, Nat.le_of_ble_eq_true rfl⟩) (by rw [hRm]; exact ⟨Nat.le_of_ble_eq_true rfl, Nat.le_of_ble_eq_true rfl⟩) hw hA hl.1 [0, 1] rfl rfl (aw_recv (i := 0) hE hw rfl rfl rfl) rfl (Nat.le_of_ble_eq_true rfl) dX11_layLeast_78 ?_
                              rintro v w1 H locs ⟨rfl, rfl⟩ hw
                              have hw : bW G A s.heap [[(am 31, mdO am fl n lw nn ra rsn nr tr)], [(am 2, .inl (gI G, 6, .inl kd))], [(am 3, .inl (gI G, 6, .inl sk))], [(am 6, .inl (gI G, 12, .inl wa))], [(am 19, .inl (gI G, 832, .inl lf2))], [(am 20, .inl (gI G, 768, .inl bf2))]] H locs := hw
                              refine W.eq (g2 := (F0 m 81 ls [.int (hsC n (fun j => hoK (kd j)) (adN S_ b))])) rfl ?_
                              refine lv_aload_n S.1 S.2.1 dX11_layLeast_81 rfl (lv_at hl 0 rfl) ?_
                              refine aw_get S hE hw 0 (C := RX11) (T := TX11) (N := 31) rfl rfl hinX11 19 (by decide) hf49 rfl dX11_layLeast_82 ?_
                              refine lv_bipush (v := 64) S.1 S.2.1 dX11_layLeast_85 (by decide) ?_
                              refine lv_iload_n S.1 S.2.1 dX11_layLeast_87 rfl (lv_at hl 1 rfl) ?_
                              refine lv_iconst (v := 1) S.1 S.2.1 dX11_layLeast_88 (by decide) ?_
                              refine lv_iadd S.1 S.2.1 dX11_layLeast_89 ?_
                              refine aw_eqi (show ((nI mo) + 1 : Int32) = nI (mo + 1) from (nI_add mo 1)) ?_
                              refine lv_imul S.1 S.2.1 dX11_layLeast_90 ?_
                              refine aw_eqi (show (64 * (nI (mo + 1)) : Int32) = nI (64 * (mo + 1)) from (pk_mul 64 (mo + 1))) ?_
                              refine lv_iload S.1 S.2.1 dX11_layLeast_91 (lv_at hl 5 rfl) ?_
                              refine lv_iadd S.1 S.2.1 dX11_layLeast_93 ?_
                              refine aw_eqi (show ((nI (64 * (mo + 1))) + (nI S_) : Int32) = nI ((64 * (mo + 1)) + S_) from (nI_add (64 * (mo + 1)) S_)) ?_
                              refine aw_iald S hE hw 4 (k := ((64 * (mo + 1)) + S_)) rfl (by omega) (by decide) dX11_layLeast_94 ?_
                              refine lv_iadd S.1 S.2.1 dX11_layLeast_95 ?_
                              refine lv_goto (tgt := 102) S.1 S.2.1 dX11_layLeast_96 (by decide) ?_
                              refine aw_eqi (show ((hsC n (fun j => hoK (kd j)) (adN S_ b)) + (lf2 ((64 * (mo + 1)) + S_)) : Int32) = itF (soC n sk) (hsC n (fun j => hoK (kd j))) (wa mo) (rl n (soC n sk) (hsC n (fun j => hoK (kd j))) wa (11 - mo)) b S_ from (by rw [itF, if_pos c68, hz2 (mo + 1) (Nat.le_refl _) (by omega) S_ (by omega), show 12 - (mo + 1) = 11 - mo by omega])) ?_
                              exact join102  _ _ _ (lv_sub hl [0, 1, 2, 3, 4, 5] rfl) hw
                      exact loop52 _ 0 (Nat.zero_le _) (Nat.lt_succ_self _) _ _ _ (lv_sub hl [3, 4, 5, 2, 1, 0] rfl) hw
                exact loop34 _ 0 lf1 bf1 (Nat.zero_le _) hz (fun x hx => absurd hx (Nat.not_lt_zero x)) hb (fun x hx => absurd hx (Nat.not_lt_zero x)) (Nat.lt_succ_self _) _ _ _ (lv_sub hl [1, 2, 0] rfl) hw
        exact loop28 _ 12 lf1 bf (by first | assumption | omega) (fun m h1 h2 x hx => by rw [show m = 12 by omega]; exact hz x (by omega)) (fun m h1 h2 => absurd h1 (by omega)) (Nat.lt_succ_self _) _ _ _ (lv_sub hl [1, 0] rfl) hw
      · refine lv_aload_n S.1 S.2.1 dX11_layLeast_8 rfl (lv_at hl 0 rfl) ?_
        refine aw_get S hE hw 0 (C := RX11) (T := TX11) (N := 31) rfl rfl hinX11 19 (by decide) hf49 rfl dX11_layLeast_9 ?_
        refine lv_sipush (v := 768) S.1 S.2.1 dX11_layLeast_12 (by decide) ?_
        refine lv_iload_n S.1 S.2.1 dX11_layLeast_15 rfl (lv_at hl 1 rfl) ?_
        refine lv_iadd S.1 S.2.1 dX11_layLeast_16 ?_
        refine aw_eqi (show (768 + (nI i) : Int32) = nI (768 + i) from (nI_add 768 i)) ?_
        refine lv_iconst (v := 0) S.1 S.2.1 dX11_layLeast_17 (by decide) ?_
        refine aw_iast S hE hw 4 (k := (768 + i)) rfl (by omega) (by decide) dX11_layLeast_18 (fun H locs hw => ?_)
        have hw : bW G A s.heap [[(am 31, mdO am fl n lw nn ra rsn nr tr)], [(am 2, .inl (gI G, 6, .inl kd))], [(am 3, .inl (gI G, 6, .inl sk))], [(am 6, .inl (gI G, 12, .inl wa))], [(am 19, .inl (gI G, 832, .inl (upd lf1 (768 + i) 0)))], [(am 20, .inl (gI G, 768, .inl bf))]] H locs := hw
        refine lv_iinc (v := nI (i + 1)) (lv' := [(1, .int (nI (i + 1))), (0, .ref (am 31))]) S.1 S.2.1 dX11_layLeast_19 hl (k := 1) rfl (by first | exact nI_1 _ | exact nI_add _ _ | rfl) (by decide) rfl (fun ls hl => ?_)
        refine lv_goto (tgt := 2) S.1 S.2.1 dX11_layLeast_22 (by decide) ?_
        exact ih2 (i + 1) (upd lf1 (768 + i) 0) (by first | assumption | omega) (ll_row (R := fun _ => 0) hz rfl) (by omega) _ _ _ (lv_sub hl [1, 0] rfl) hw
  exact loop2 _ 0 lf (by first | assumption | omega) (fun x hx => absurd hx (Nat.not_lt_zero x)) (Nat.lt_succ_self _) _ _ _ (lv_sub hl [1, 0] rfl) hw
set_option maxRecDepth 100000 in
set_option maxHeartbeats 4000000 in
theorem c_X11_least (l : Launch) (G : aw_G) (am : Nat → Nat) (fl : Int32) (n : Nat) (lw : Int32) (nn ra rsn nr : Nat) (tr : Int32) (kd sk wa lf bf : Nat → Int32) (mo : Int32) (hn : n ≤ 6) : CT l G yX11_least wsX11_least ({ frames := 3, cells := 0, slots := 0, locals := 71 }) [.ref (am 31), .int mo] [[(am 31, mdO am fl n lw nn ra rsn nr tr)], [(am 2, .inl (gI G, 6, .inl kd))], [(am 3, .inl (gI G, 6, .inl sk))], [(am 6, .inl (gI G, 12, .inl wa))], [(am 19, .inl (gI G, 832, .inl lf))], [(am 20, .inl (gI G, 768, .inl bf))]] (fun v w => v = some (.int (f_least n sk (fun j => hoK (kd j)) wa mo)) ∧ ∃ (lf bf : Nat → Int32), w = [[(am 31, mdO am fl n lw nn ra rsn nr tr)], [(am 2, .inl (gI G, 6, .inl kd))], [(am 3, .inl (gI G, 6, .inl sk))], [(am 6, .inl (gI G, 12, .inl wa))], [(am 19, .inl (gI G, 832, .inl lf))], [(am 20, .inl (gI G, 768, .inl bf))]]) := by
  refine CT.of (cc := cX11_least) (nL := 4) (ret := (some .int)) (by decide) rfl (Nat.le_of_ble_eq_true rfl) ?_
  intro p e s m below meth c R args Q A hRm ha hQ hAe hA S hE hr hlk hnm H locs hH0 hL0 ls hl hw
  have S : CallFix p m c cX11_least 4 s args wsX11_least RX11 := S
  have hl : lv_has ls 4 [(0, .ref (am 31)), (1, .int mo)] := hl
  have hinX11 : ∀ w ∈ u_ws RX11 TX11 31, w ∈ wsX11_least := by decide +kernel
  have hf90 := S.2.2.2.2 (.fieldLink RX11 90 "AwakeTurnsModel" "sleepers" "I") (by decide +kernel)
  have hf49 := S.2.2.2.2 (.fieldLink RX11 49 "AwakeTurnsModel" "leastFrom" "[I") (by decide +kernel)
  have hf52 := S.2.2.2.2 (.fieldLink RX11 52 "AwakeTurnsModel" "bestFrom" "[I") (by decide +kernel)
  have hp6 := pow6' hn
  have htop := lv_top hn (kd := kd) (so := soC n sk) (wa := wa)
  have join15 : (mo = -1 ∨ (0 ≤ mo.toInt ∧ mo.toInt < 12)) → ∀ (H : Heap) (locs : List Loc), ∀ (ls : Array Slot), lv_has ls 4 [(0, .ref (am 31)), (1, .int mo)] → bW G A s.heap [[(am 31, mdO am fl n lw nn ra rsn nr tr)], [(am 2, .inl (gI G, 6, .inl kd))], [(am 3, .inl (gI G, 6, .inl sk))], [(am 6, .inl (gI G, 12, .inl wa))], [(am 19, .inl (gI G, 832, .inl lf))], [(am 20, .inl (gI G, 768, .inl bf))]] H locs → W p l e R s m args below meth c H locs 0 0 Q (F0 m 15 ls []) := by
    intro hmo H locs ls hl hw
    have hmi : -1 ≤ mo.toInt ∧ mo.toInt < 12 := by rcases hmo with q | q; (rw [q]; decide); omega
    refine lv_aload_n S.1 S.2.1 dX11_least_15 rfl (lv_at hl 0 rfl) ?_
    refine aw_get S hE hw 0 (C := RX11) (T := TX11) (N := 31) rfl rfl hinX11 1 (by decide) hf90 rfl dX11_least_16 ?_
    refine aw_ifN_ne (x := n) (tgt := 25) S (by omega) dX11_least_19 (by decide) (fun c19 => ?_) (fun c19 => ?_)
    · refine lv_aload_n S.1 S.2.1 dX11_least_25 rfl (lv_at hl 0 rfl) ?_
      refine aw_callV S hE (c_X11_layLeast l G am fl n lw nn ra rsn nr tr kd sk wa lf bf (by first | assumption | omega)) gX11_least_X11_layLeast (n := 0) rfl (by decide +kernel) rfl (by rw [hRm]; exact ⟨Nat.le_of_ble_eq_true rfl, Nat.le_of_ble_eq_true rfl⟩) (by rw [hRm]; exact ⟨Nat.le_of_ble_eq_true rfl, Nat.le_of_ble_eq_true rfl⟩) hw hA hl.1 [0, 1, 2, 3, 4, 5] rfl rfl (aw_recv (i := 0) hE hw rfl rfl rfl) rfl (Nat.le_of_ble_eq_true rfl) dX11_least_26 ?_
      rintro v w1 H locs ⟨rfl, lf1, bf1, hz, hb, rfl⟩ hw
      have hw : bW G A s.heap [[(am 31, mdO am fl n lw nn ra rsn nr tr)], [(am 2, .inl (gI G, 6, .inl kd))], [(am 3, .inl (gI G, 6, .inl sk))], [(am 6, .inl (gI G, 12, .inl wa))], [(am 19, .inl (gI G, 832, .inl lf1))], [(am 20, .inl (gI G, 768, .inl bf1))]] H locs := hw
      refine W.eq (g2 := (F0 m 29 ls [])) rfl ?_
      refine lv_aload_n S.1 S.2.1 dX11_least_29 rfl (lv_at hl 0 rfl) ?_
      refine aw_get S hE hw 0 (C := RX11) (T := TX11) (N := 31) rfl rfl hinX11 19 (by decide) hf49 rfl dX11_least_30 ?_
      refine lv_iconst (v := 0) S.1 S.2.1 dX11_least_33 (by decide) ?_
      refine aw_iald S hE hw 4 (k := 0) rfl (by omega) (by decide) dX11_least_34 ?_
      refine aw_eqi (show (lf1 0 : Int32) = rl n (soC n sk) (hsC n (fun j => hoK (kd j))) wa (12) 0 from (hz 0 (Nat.zero_le _) (by decide) 0 (Nat.two_pow_pos n))) ?_
      refine lv_sipush (v := 9999) S.1 S.2.1 dX11_least_35 (by decide) ?_
      refine lv_icmp_lt (tgt := 44) S.1 S.2.1 dX11_least_38 (by decide) (fun c38 => ?_) (fun c38 => ?_)
      · have hfe := htop.resolve_right (fun q => q.2 c38)
        refine lv_iconst (v := 0) S.1 S.2.1 dX11_least_44 (by decide) ?_
        refine lv_istore_n (lv' := [(2, .int 0), (0, .ref (am 31)), (1, .int mo)]) S.1 S.2.1 dX11_least_45 rfl hl (by decide) rfl (fun ls hl => ?_)
        refine lv_iconst (v := 0) S.1 S.2.1 dX11_least_46 (by decide) ?_
        refine lv_istore_n (lv' := [(3, .int 0), (2, .int 0), (0, .ref (am 31)), (1, .int mo)]) S.1 S.2.1 dX11_least_47 rfl hl (by decide) rfl (fun ls hl => ?_)
        have hl := Eq.mp (congrArg (fun z_ : Int32 => lv_has ls 4 [(3, .int 0), (2, .int z_), (0, .ref (am 31)), (1, .int mo)]) (show (0 : Int32) = nI (wuN n (soC n sk) (hsC n (fun j => hoK (kd j))) wa (fun m => prow n (soC n sk) (hsC n (fun j => hoK (kd j))) wa (12 - m)) 0) from rfl)) hl
        have hl : lv_has ls 4 [(3, .int 0), (2, .int (nI (wuN n (soC n sk) (hsC n (fun j => hoK (kd j))) wa (fun m => prow n (soC n sk) (hsC n (fun j => hoK (kd j))) wa (12 - m)) 0))), (0, .ref (am 31)), (1, .int mo)] := hl
        have loop48 : ∀ (fu : Nat) (x : Nat), ((x : Int) ≤ mo.toInt + 1) → (12 - x) < fu → ∀ (ls : Array Slot) (H : Heap) (locs : List Loc), lv_has ls 4 [(0, .ref (am 31)), (1, .int mo), (2, .int (nI (wuN n (soC n sk) (hsC n (fun j => hoK (kd j))) wa (fun m => prow n (soC n sk) (hsC n (fun j => hoK (kd j))) wa (12 - m)) x))), (3, .int (nI x))] → bW G A s.heap [[(am 31, mdO am fl n lw nn ra rsn nr tr)], [(am 2, .inl (gI G, 6, .inl kd))], [(am 3, .inl (gI G, 6, .inl sk))], [(am 6, .inl (gI G, 12, .inl wa))], [(am 19, .inl (gI G, 832, .inl lf1))], [(am 20, .inl (gI G, 768, .inl bf1))]] H locs → W p l e R s m args below meth c H locs 0 0 Q (F0 m 48 ls []) := by
          intro fu
          induction fu with
          | zero => intro x _ hm; exact absurd hm (Nat.not_lt_zero _)
          | succ fu ih48 =>
            intro x hx hm ls H locs hl hw
            refine lv_iload_n S.1 S.2.1 dX11_least_48 rfl (lv_at hl 3 rfl) ?_
            refine lv_iload_n S.1 S.2.1 dX11_least_49 rfl (lv_at hl 1 rfl) ?_
            refine lv_icmp_gt (tgt := 71) S.1 S.2.1 dX11_least_50 (by decide) (fun c50 => ?_) (fun c50 => ?_)
            · rw [fa_lt, nI_toInt (by omega)] at c50
              refine lv_iload_n S.1 S.2.1 dX11_least_71 rfl (lv_at hl 1 rfl) ?_
              refine lv_if_ge (tgt := 84) S.1 S.2.1 dX11_least_72 (by decide) (fun c72 => ?_) (fun c72 => ?_)
              · rw [fa_le, li_0] at c72
                have ex_x : x = tn mo + 1 := by unfold tn; omega
                have hm1 : ¬ mo = -1 := fun q => by rw [q] at c72; exact absurd c72 (by decide)
                refine lv_iload_n S.1 S.2.1 dX11_least_84 rfl (lv_at hl 2 rfl) ?_
                refine aw_eqi (show (nI (wuN n (soC n sk) (hsC n (fun j => hoK (kd j))) wa (fun m => prow n (soC n sk) (hsC n (fun j => hoK (kd j))) wa (12 - m)) x) : Int32) = f_least n sk (fun j => hoK (kd j)) wa mo from (by rw [f_least, if_pos hmo, if_neg c19, f_leastV, if_pos hfe.1, if_neg (fun q => q.elim hfe.2.2.2 hm1), ← ex_x]; rfl)) ?_
                exact aw_iret S hr hlk ha hQ hAe hw dX11_least_85 rfl (Nat.le_of_ble_eq_true rfl) (Nat.le_of_ble_eq_true rfl) ⟨rfl, _, _, rfl⟩
              · rw [fa_le, li_0] at c72
                have hm1 : mo = -1 := hmo.resolve_right (fun q => c72 q.1)
                refine lv_aload_n S.1 S.2.1 dX11_least_75 rfl (lv_at hl 0 rfl) ?_
                refine aw_get S hE hw 0 (C := RX11) (T := TX11) (N := 31) rfl rfl hinX11 19 (by decide) hf49 rfl dX11_least_76 ?_
                refine lv_iconst (v := 0) S.1 S.2.1 dX11_least_79 (by decide) ?_
                refine aw_iald S hE hw 4 (k := 0) rfl (by omega) (by decide) dX11_least_80 ?_
                refine lv_goto (tgt := 85) S.1 S.2.1 dX11_least_81 (by decide) ?_
                refine aw_eqi (show (lf1 0 : Int32) = f_least n sk (fun j => hoK (kd j)) wa mo from (by rw [f_least, if_pos hmo, if_neg c19, f_leastV, if_pos hfe.1, if_pos (Or.inr hm1)]; exact (hz 0 (Nat.zero_le _) (by decide) 0 (Nat.two_pow_pos n)).trans hfe.2.1)) ?_
                exact aw_iret S hr hlk ha hQ hAe hw dX11_least_85 rfl (Nat.le_of_ble_eq_true rfl) (Nat.le_of_ble_eq_true rfl) ⟨rfl, _, _, rfl⟩
            · rw [fa_lt, nI_toInt (by omega)] at c50
              have hwl := wuN_lt n (soC n sk) (hsC n (fun j => hoK (kd j))) wa (fun m => prow n (soC n sk) (hsC n (fun j => hoK (kd j))) wa (12 - m)) x
              refine lv_aload_n S.1 S.2.1 dX11_least_53 rfl (lv_at hl 0 rfl) ?_
              refine aw_get S hE hw 0 (C := RX11) (T := TX11) (N := 31) rfl rfl hinX11 20 (by decide) hf52 rfl dX11_least_54 ?_
              refine lv_bipush (v := 64) S.1 S.2.1 dX11_least_57 (by decide) ?_
              refine lv_iload_n S.1 S.2.1 dX11_least_59 rfl (lv_at hl 3 rfl) ?_
              refine lv_imul S.1 S.2.1 dX11_least_60 ?_
              refine aw_eqi (show (64 * (nI x) : Int32) = nI (64 * x) from (pk_mul 64 x)) ?_
              refine lv_iload_n S.1 S.2.1 dX11_least_61 rfl (lv_at hl 2 rfl) ?_
              refine lv_iadd S.1 S.2.1 dX11_least_62 ?_
              refine aw_eqi (show ((nI (64 * x)) + (nI (wuN n (soC n sk) (hsC n (fun j => hoK (kd j))) wa (fun m => prow n (soC n sk) (hsC n (fun j => hoK (kd j))) wa (12 - m)) x)) : Int32) = nI ((64 * x) + (wuN n (soC n sk) (hsC n (fun j => hoK (kd j))) wa (fun m => prow n (soC n sk) (hsC n (fun j => hoK (kd j))) wa (12 - m)) x)) from (nI_add (64 * x) (wuN n (soC n sk) (hsC n (fun j => hoK (kd j))) wa (fun m => prow n (soC n sk) (hsC n (fun j => hoK (kd j))) wa (12 - m)) x))) ?_
              refine aw_iald S hE hw 5 (k := ((64 * x) + (wuN n (soC n sk) (hsC n (fun j => hoK (kd j))) wa (fun m => prow n (soC n sk) (hsC n (fun j => hoK (kd j))) wa (12 - m)) x))) rfl (by omega) (by decide) dX11_least_63 ?_
              refine aw_eqi (show (bf1 ((64 * x) + (wuN n (soC n sk) (hsC n (fun j => hoK (kd j))) wa (fun m => prow n (soC n sk) (hsC n (fun j => hoK (kd j))) wa (12 - m)) x)) : Int32) = nI (wuN n (soC n sk) (hsC n (fun j => hoK (kd j))) wa (fun m => prow n (soC n sk) (hsC n (fun j => hoK (kd j))) wa (12 - m)) (x + 1)) from ((hb x (Nat.zero_le _) (by omega) _ hwl).trans (congrArg nI (wu_eq hn hfe.1 x (by omega)).2.symm))) ?_
              refine lv_istore_n (lv' := [(2, .int (nI (wuN n (soC n sk) (hsC n (fun j => hoK (kd j))) wa (fun m => prow n (soC n sk) (hsC n (fun j => hoK (kd j))) wa (12 - m)) (x + 1)))), (0, .ref (am 31)), (1, .int mo), (3, .int (nI x))]) S.1 S.2.1 dX11_least_64 rfl hl (by decide) rfl (fun ls hl => ?_)
              refine lv_iinc (v := nI (x + 1)) (lv' := [(3, .int (nI (x + 1))), (2, .int (nI (wuN n (soC n sk) (hsC n (fun j => hoK (kd j))) wa (fun m => prow n (soC n sk) (hsC n (fun j => hoK (kd j))) wa (12 - m)) (x + 1)))), (0, .ref (am 31)), (1, .int mo)]) S.1 S.2.1 dX11_least_65 hl (k := 3) rfl (by first | exact nI_1 _ | exact nI_add _ _ | rfl) (by decide) rfl (fun ls hl => ?_)
              refine lv_goto (tgt := 48) S.1 S.2.1 dX11_least_68 (by decide) ?_
              exact ih48 (x + 1) (by first | assumption | omega) (by omega) _ _ _ (lv_sub hl [2, 3, 1, 0] rfl) hw
        exact loop48 _ 0 (by omega) (Nat.lt_succ_self _) _ _ _ (lv_sub hl [2, 3, 1, 0] rfl) hw
      · have hfe := htop.resolve_left (fun q => c38 q.2.2.1)
        refine lv_bipush (v := (-9)) S.1 S.2.1 dX11_least_41 (by decide) ?_
        refine aw_eqi (show ((-9) : Int32) = f_least n sk (fun j => hoK (kd j)) wa mo from (by rw [f_least, if_pos hmo, if_neg c19, f_leastV, if_neg hfe.1, if_pos (Or.inl rfl)])) ?_
        exact aw_iret S hr hlk ha hQ hAe hw dX11_least_43 rfl (Nat.le_of_ble_eq_true rfl) (Nat.le_of_ble_eq_true rfl) ⟨rfl, _, _, rfl⟩
    · refine lv_bipush (v := (-3)) S.1 S.2.1 dX11_least_22 (by decide) ?_
      refine aw_eqi (show ((-3) : Int32) = f_least n sk (fun j => hoK (kd j)) wa mo from (by rw [f_least, if_pos hmo, if_pos c19])) ?_
      exact aw_iret S hr hlk ha hQ hAe hw dX11_least_24 rfl (Nat.le_of_ble_eq_true rfl) (Nat.le_of_ble_eq_true rfl) ⟨rfl, _, _, rfl⟩
  refine lv_iload_n S.1 S.2.1 dX11_least_0 rfl (lv_at hl 1 rfl) ?_
  refine lv_iconst (v := (-1)) S.1 S.2.1 dX11_least_1 (by decide) ?_
  refine lv_icmp_eq (tgt := 15) S.1 S.2.1 dX11_least_2 (by decide) (fun c2 => ?_) (fun c2 => ?_)
  · exact join15 (Or.inl c2) _ _ _ (lv_sub hl [0, 1] rfl) hw
  · refine lv_iload_n S.1 S.2.1 dX11_least_5 rfl (lv_at hl 1 rfl) ?_
    refine aw_callS S hE (c_X11_isMonth l G mo) gX11_least_X11_isMonth (n := 1) rfl (by decide +kernel) rfl (by rw [hRm]; exact ⟨Nat.le_of_ble_eq_true rfl, Nat.le_of_ble_eq_true rfl⟩) (by rw [hRm]; exact ⟨Nat.le_of_ble_eq_true rfl, Nat.le_of_ble_eq_true rfl⟩) hw hA hl.1 [] rfl rfl rfl (Nat.le_of_ble_eq_true rfl) dX11_least_6 ?_
    rintro v w1 H locs ⟨rfl, rfl⟩ hw
    have hw : bW G A s.heap [[(am 31, mdO am fl n lw nn ra rsn nr tr)], [(am 2, .inl (gI G, 6, .inl kd))], [(am 3, .inl (gI G, 6, .inl sk))], [(am 6, .inl (gI G, 12, .inl wa))], [(am 19, .inl (gI G, 832, .inl lf))], [(am 20, .inl (gI G, 768, .inl bf))]] H locs := hw
    refine W.eq (g2 := (F0 m 9 ls [.int (if 0 ≤ mo.toInt ∧ mo.toInt < 12 then 1 else 0)])) rfl ?_
    refine aw_ifne (P := 0 ≤ mo.toInt ∧ mo.toInt < 12) (tgt := 15) S dX11_least_9 (by decide) (fun c9 => ?_) (fun c9 => ?_)
    · exact join15 (Or.inr c9) _ _ _ (lv_sub hl [0, 1] rfl) hw
    · refine lv_bipush (v := (-2)) S.1 S.2.1 dX11_least_12 (by decide) ?_
      refine aw_eqi (show ((-2) : Int32) = f_least n sk (fun j => hoK (kd j)) wa mo from (by rw [f_least, if_neg (fun q => q.elim c2 c9)])) ?_
      exact aw_iret S hr hlk ha hQ hAe hw dX11_least_14 rfl (Nat.le_of_ble_eq_true rfl) (Nat.le_of_ble_eq_true rfl) ⟨rfl, _, _, rfl⟩
