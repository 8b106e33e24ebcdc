/-! the reference: tales -/
theorem tw100 (x : Int32) : 2 * x + 100 = x + 100 + x := by
  rw [Int32.two_mul, Int32.add_assoc, Int32.add_assoc, Int32.add_comm 100 x]
set_option maxRecDepth 100000 in
set_option maxHeartbeats 4000000 in
theorem c_X11_tell (l : Launch) (G : aw_G) (am : Nat → Nat) (fl : Int32) (n : Nat) (lw : Int32) (nn ra rsn nr : Nat) (tr : Int32) (kd br : Nat → Int32) (sv : Int32) (hn : n ≤ 6) (hkd : ∀ i, i < n → kd i = 0 ∨ kd i = 1 ∨ kd i = 2) : CT l G yX11_tell wsX11_tell ({ frames := 2, cells := 0, slots := 0, locals := 46 }) [.ref (am 31), .int sv] [[(am 31, mdO am fl n lw nn ra rsn nr tr)], [(am 2, .inl (gI G, 6, .inl kd))], [(am 4, .inl (gI G, 6, .inl br))]] (dt (some (.int (f_tell n kd br sv))) [[(am 31, mdO am fl n lw nn ra rsn nr (f_tellT n kd tr sv))], [(am 2, .inl (gI G, 6, .inl kd))], [(am 4, .inl (gI G, 6, .inl br))]]) := by
  refine CT.of (cc := cX11_tell) (nL := 4) (ret := (some .int)) (by decide) rfl (Nat.le_of_ble_eq_true rfl) ?_
  intro p e s m below meth c R args Q A hRm ha hQ hAe hA S hE hr hlk hnm H locs hH0 hL0 ls hl hw
  have S : CallFix p m c cX11_tell 4 s args wsX11_tell RX11 := S
  have hl : lv_has ls 4 [(0, .ref (am 31)), (1, .int sv)] := hl
  have hinX11 : ∀ w ∈ u_ws RX11 TX11 31, w ∈ wsX11_tell := by decide +kernel
  have hf7 := S.2.2.2.2 (.fieldLink RX11 7 "AwakeTurnsModel" "kindOf" "[I") (by decide +kernel)
  have hf16 := S.2.2.2.2 (.fieldLink RX11 16 "AwakeTurnsModel" "bearsOf" "[I") (by decide +kernel)
  refine lv_aload_n S.1 S.2.1 dX11_tell_0 rfl (lv_at hl 0 rfl) ?_
  refine lv_iload_n S.1 S.2.1 dX11_tell_1 rfl (lv_at hl 1 rfl) ?_
  refine aw_callV S hE (c_X11_noSleeper l G am fl n lw nn ra rsn nr tr sv (by first | assumption | omega)) gX11_tell_X11_noSleeper (n := 1) rfl (by decide +kernel) rfl (by rw [hRm]; exact ⟨Nat.le_of_ble_eq_true rfl, Nat.le_of_ble_eq_true rfl⟩) (by rw [hRm]; exact ⟨Nat.le_of_ble_eq_true rfl, Nat.le_of_ble_eq_true rfl⟩) hw hA hl.1 [0] rfl rfl (aw_recv (i := 0) hE hw rfl rfl rfl) rfl (Nat.le_of_ble_eq_true rfl) dX11_tell_2 ?_
  rintro v w1 H locs ⟨rfl, rfl⟩ hw
  have hw : bW G A s.heap [[(am 31, mdO am fl n lw nn ra rsn nr tr)], [(am 2, .inl (gI G, 6, .inl kd))], [(am 4, .inl (gI G, 6, .inl br))]] H locs := hw
  refine W.eq (g2 := (F0 m 5 ls [.int (if ¬ (0 ≤ sv.toInt ∧ sv.toInt < n) then 1 else 0)])) rfl ?_
  refine aw_ifeq (P := ¬ (0 ≤ sv.toInt ∧ sv.toInt < n)) (tgt := 10) S dX11_tell_5 (by decide) (fun c5 => ?_) (fun c5 => ?_)
  · have c5 := Decidable.not_not.mp c5
    have hb_sv : tn sv < n := aw_tnL c5
    have hl := Eq.mp (congrArg (fun z_ : Int32 => lv_has ls 4 [(0, .ref (am 31)), (1, .int z_)]) (show (sv : Int32) = nI (tn sv) from (aw_tnE c5))) hl
    have hl : lv_has ls 4 [(0, .ref (am 31)), (1, .int (nI (tn sv)))] := hl
    refine lv_aload_n S.1 S.2.1 dX11_tell_10 rfl (lv_at hl 0 rfl) ?_
    refine aw_get S hE hw 0 (C := RX11) (T := TX11) (N := 31) rfl rfl hinX11 2 (by decide) hf7 rfl dX11_tell_11 ?_
    refine lv_iload_n S.1 S.2.1 dX11_tell_14 rfl (lv_at hl 1 rfl) ?_
    refine aw_iald S hE hw 1 (k := (tn sv)) rfl (by omega) (by decide) dX11_tell_15 ?_
    refine lv_istore_n (lv' := [(2, .int (kd (tn sv))), (0, .ref (am 31)), (1, .int (nI (tn sv)))]) S.1 S.2.1 dX11_tell_16 rfl hl (by decide) rfl (fun ls hl => ?_)
    refine lv_iload_n S.1 S.2.1 dX11_tell_17 rfl (lv_at hl 0 rfl) ?_
    refine lv_iconst (v := 2) S.1 S.2.1 dX11_tell_18 (by decide) ?_
    refine lv_icmp_ne (tgt := 27) S.1 S.2.1 dX11_tell_19 (by decide) (fun c19 => ?_) (fun c19 => ?_)
    · refine lv_iload_n S.1 S.2.1 dX11_tell_27 rfl (lv_at hl 0 rfl) ?_
      refine lv_if_le (tgt := 36) S.1 S.2.1 dX11_tell_28 (by decide) (fun c28 => ?_) (fun c28 => ?_)
      · have hz : kd (tn sv) = 0 := by rcases hkd _ hb_sv with q | q | q; exact q; (rw [q] at c28; exact absurd c28 (by decide)); exact absurd q c19
        refine lv_aload_n S.1 S.2.1 dX11_tell_36 rfl (lv_at hl 1 rfl) ?_
        refine lv_iconst (v := 1) S.1 S.2.1 dX11_tell_37 (by decide) ?_
        refine aw_callV S hE (c_X11_traced l G am fl n lw nn ra rsn nr tr 1) gX11_tell_X11_traced (n := 1) rfl (by decide +kernel) rfl (by rw [hRm]; exact ⟨Nat.le_of_ble_eq_true rfl, Nat.le_of_ble_eq_true rfl⟩) (by rw [hRm]; exact ⟨Nat.le_of_ble_eq_true rfl, Nat.le_of_ble_eq_true rfl⟩) hw hA hl.1 [0] rfl rfl (aw_recv (i := 0) hE hw rfl rfl rfl) rfl (Nat.le_of_ble_eq_true rfl) dX11_tell_38 ?_
        rintro v w1 H locs ⟨rfl, rfl⟩ hw
        have hw : bW G A s.heap [[(am 31, mdO am fl n lw nn ra rsn nr (31 * tr + 1))], [(am 2, .inl (gI G, 6, .inl kd))], [(am 4, .inl (gI G, 6, .inl br))]] H locs := hw
        refine W.eq (g2 := (F0 m 41 ls [])) rfl ?_
        refine lv_iload_n S.1 S.2.1 dX11_tell_41 rfl (lv_at hl 0 rfl) ?_
        refine lv_iconst (v := 2) S.1 S.2.1 dX11_tell_42 (by decide) ?_
        refine lv_icmp_ne (tgt := 51) S.1 S.2.1 dX11_tell_43 (by decide) (fun c43 => ?_) (fun c43 => ?_)
        · refine lv_aload_n S.1 S.2.1 dX11_tell_51 rfl (lv_at hl 1 rfl) ?_
          refine aw_get S hE hw 0 (C := RX11) (T := TX11) (N := 31) rfl rfl hinX11 4 (by decide) hf16 rfl dX11_tell_52 ?_
          refine lv_iload_n S.1 S.2.1 dX11_tell_55 rfl (lv_at hl 2 rfl) ?_
          refine aw_iald S hE hw 2 (k := (tn sv)) rfl (by omega) (by decide) dX11_tell_56 ?_
          refine lv_istore_n (lv' := [(3, .int (br (tn sv))), (2, .int (kd (tn sv))), (0, .ref (am 31)), (1, .int (nI (tn sv)))]) S.1 S.2.1 dX11_tell_57 rfl hl (by decide) rfl (fun ls hl => ?_)
          refine lv_iload_n S.1 S.2.1 dX11_tell_58 rfl (lv_at hl 1 rfl) ?_
          refine lv_if_ne (tgt := 66) S.1 S.2.1 dX11_tell_59 (by decide) (fun c59 => ?_) (fun c59 => ?_)
          · exact absurd hz c59
          · refine lv_iload_n S.1 S.2.1 dX11_tell_62 rfl (lv_at hl 0 rfl) ?_
            refine lv_goto (tgt := 84) S.1 S.2.1 dX11_tell_63 (by decide) ?_
            have hw := Eq.mp (congrArg (fun z_ : Int32 => bW G A s.heap [[(am 31, mdO am fl n lw nn ra rsn nr z_)], [(am 2, .inl (gI G, 6, .inl kd))], [(am 4, .inl (gI G, 6, .inl br))]] H locs) (show (31 * tr + 1 : Int32) = f_tellT n kd tr sv from (by rw [f_tellT, if_pos c5, if_pos hz]))) hw
            have hw : bW G A s.heap [[(am 31, mdO am fl n lw nn ra rsn nr (f_tellT n kd tr sv))], [(am 2, .inl (gI G, 6, .inl kd))], [(am 4, .inl (gI G, 6, .inl br))]] H locs := hw
            refine aw_eqi (show (br (tn sv) : Int32) = f_tell n kd br sv from (by rw [f_tell, if_pos c5, if_pos hz])) ?_
            exact aw_iret S hr hlk ha hQ hAe hw dX11_tell_84 rfl (Nat.le_of_ble_eq_true rfl) (Nat.le_of_ble_eq_true rfl) ⟨rfl, rfl⟩
        · exact absurd (hz.symm.trans c43) (by decide)
      · have hz : kd (tn sv) = 1 := by rcases hkd _ hb_sv with q | q | q; (rw [q] at c28; exact absurd (by decide) c28); exact q; exact absurd q c19
        refine lv_aload_n S.1 S.2.1 dX11_tell_31 rfl (lv_at hl 1 rfl) ?_
        refine lv_iconst (v := 2) S.1 S.2.1 dX11_tell_32 (by decide) ?_
        refine aw_callV S hE (c_X11_traced l G am fl n lw nn ra rsn nr tr 2) gX11_tell_X11_traced (n := 1) rfl (by decide +kernel) rfl (by rw [hRm]; exact ⟨Nat.le_of_ble_eq_true rfl, Nat.le_of_ble_eq_true rfl⟩) (by rw [hRm]; exact ⟨Nat.le_of_ble_eq_true rfl, Nat.le_of_ble_eq_true rfl⟩) hw hA hl.1 [0] rfl rfl (aw_recv (i := 0) hE hw rfl rfl rfl) rfl (Nat.le_of_ble_eq_true rfl) dX11_tell_33 ?_
        rintro v w1 H locs ⟨rfl, rfl⟩ hw
        have hw : bW G A s.heap [[(am 31, mdO am fl n lw nn ra rsn nr (31 * tr + 2))], [(am 2, .inl (gI G, 6, .inl kd))], [(am 4, .inl (gI G, 6, .inl br))]] H locs := hw
        refine W.eq (g2 := (F0 m 36 ls [])) rfl ?_
        refine lv_aload_n S.1 S.2.1 dX11_tell_36 rfl (lv_at hl 1 rfl) ?_
        refine lv_iconst (v := 1) S.1 S.2.1 dX11_tell_37 (by decide) ?_
        refine aw_callV S hE (c_X11_traced l G am fl n lw nn ra rsn nr (31 * tr + 2) 1) gX11_tell_X11_traced (n := 1) rfl (by decide +kernel) rfl (by rw [hRm]; exact ⟨Nat.le_of_ble_eq_true rfl, Nat.le_of_ble_eq_true rfl⟩) (by rw [hRm]; exact ⟨Nat.le_of_ble_eq_true rfl, Nat.le_of_ble_eq_true rfl⟩) hw hA hl.1 [0] rfl rfl (aw_recv (i := 0) hE hw rfl rfl rfl) rfl (Nat.le_of_ble_eq_true rfl) dX11_tell_38 ?_
        rintro v w1 H locs ⟨rfl, rfl⟩ hw
        have hw : bW G A s.heap [[(am 31, mdO am fl n lw nn ra rsn nr (31 * (31 * tr + 2) + 1))], [(am 2, .inl (gI G, 6, .inl kd))], [(am 4, .inl (gI G, 6, .inl br))]] H locs := hw
        refine W.eq (g2 := (F0 m 41 ls [])) rfl ?_
        refine lv_iload_n S.1 S.2.1 dX11_tell_41 rfl (lv_at hl 0 rfl) ?_
        refine lv_iconst (v := 2) S.1 S.2.1 dX11_tell_42 (by decide) ?_
        refine lv_icmp_ne (tgt := 51) S.1 S.2.1 dX11_tell_43 (by decide) (fun c43 => ?_) (fun c43 => ?_)
        · refine lv_aload_n S.1 S.2.1 dX11_tell_51 rfl (lv_at hl 1 rfl) ?_
          refine aw_get S hE hw 0 (C := RX11) (T := TX11) (N := 31) rfl rfl hinX11 4 (by decide) hf16 rfl dX11_tell_52 ?_
          refine lv_iload_n S.1 S.2.1 dX11_tell_55 rfl (lv_at hl 2 rfl) ?_
          refine aw_iald S hE hw 2 (k := (tn sv)) rfl (by omega) (by decide) dX11_tell_56 ?_
          refine lv_istore_n (lv' := [(3, .int (br (tn sv))), (2, .int (kd (tn sv))), (0, .ref (am 31)), (1, .int (nI (tn sv)))]) S.1 S.2.1 dX11_tell_57 rfl hl (by decide) rfl (fun ls hl => ?_)
          refine lv_iload_n S.1 S.2.1 dX11_tell_58 rfl (lv_at hl 1 rfl) ?_
          refine lv_if_ne (tgt := 66) S.1 S.2.1 dX11_tell_59 (by decide) (fun c59 => ?_) (fun c59 => ?_)
          · refine lv_iload_n S.1 S.2.1 dX11_tell_66 rfl (lv_at hl 1 rfl) ?_
            refine lv_iconst (v := 1) S.1 S.2.1 dX11_tell_67 (by decide) ?_
            refine lv_icmp_ne (tgt := 78) S.1 S.2.1 dX11_tell_68 (by decide) (fun c68 => ?_) (fun c68 => ?_)
            · exact absurd hz c68
            · refine lv_iload_n S.1 S.2.1 dX11_tell_71 rfl (lv_at hl 0 rfl) ?_
              refine lv_bipush (v := 100) S.1 S.2.1 dX11_tell_72 (by decide) ?_
              refine lv_iadd S.1 S.2.1 dX11_tell_74 ?_
              refine lv_goto (tgt := 84) S.1 S.2.1 dX11_tell_75 (by decide) ?_
              have hw := Eq.mp (congrArg (fun z_ : Int32 => bW G A s.heap [[(am 31, mdO am fl n lw nn ra rsn nr z_)], [(am 2, .inl (gI G, 6, .inl kd))], [(am 4, .inl (gI G, 6, .inl br))]] H locs) (show (31 * (31 * tr + 2) + 1 : Int32) = f_tellT n kd tr sv from (by rw [f_tellT, if_pos c5, if_neg (by rw [hz]; decide), if_pos hz]))) hw
              have hw : bW G A s.heap [[(am 31, mdO am fl n lw nn ra rsn nr (f_tellT n kd tr sv))], [(am 2, .inl (gI G, 6, .inl kd))], [(am 4, .inl (gI G, 6, .inl br))]] H locs := hw
              refine aw_eqi (show ((br (tn sv)) + 100 : Int32) = f_tell n kd br sv from (by rw [f_tell, if_pos c5, if_neg (by rw [hz]; decide), if_pos hz])) ?_
              exact aw_iret S hr hlk ha hQ hAe hw dX11_tell_84 rfl (Nat.le_of_ble_eq_true rfl) (Nat.le_of_ble_eq_true rfl) ⟨rfl, rfl⟩
          · exact absurd (hz.symm.trans c59) (by decide)
        · exact absurd (hz.symm.trans c43) (by decide)
    · have hz := c19
      refine lv_aload_n S.1 S.2.1 dX11_tell_22 rfl (lv_at hl 1 rfl) ?_
      refine lv_iconst (v := 3) S.1 S.2.1 dX11_tell_23 (by decide) ?_
      refine aw_callV S hE (c_X11_traced l G am fl n lw nn ra rsn nr tr 3) gX11_tell_X11_traced (n := 1) rfl (by decide +kernel) rfl (by rw [hRm]; exact ⟨Nat.le_of_ble_eq_true rfl, Nat.le_of_ble_eq_true rfl⟩) (by rw [hRm]; exact ⟨Nat.le_of_ble_eq_true rfl, Nat.le_of_ble_eq_true rfl⟩) hw hA hl.1 [0] rfl rfl (aw_recv (i := 0) hE hw rfl rfl rfl) rfl (Nat.le_of_ble_eq_true rfl) dX11_tell_24 ?_
      rintro v w1 H locs ⟨rfl, rfl⟩ hw
      have hw : bW G A s.heap [[(am 31, mdO am fl n lw nn ra rsn nr (31 * tr + 3))], [(am 2, .inl (gI G, 6, .inl kd))], [(am 4, .inl (gI G, 6, .inl br))]] H locs := hw
      refine W.eq (g2 := (F0 m 27 ls [])) rfl ?_
      refine lv_iload_n S.1 S.2.1 dX11_tell_27 rfl (lv_at hl 0 rfl) ?_
      refine lv_if_le (tgt := 36) S.1 S.2.1 dX11_tell_28 (by decide) (fun c28 => ?_) (fun c28 => ?_)
      · exact absurd c28 (by rw [c19]; decide)
      · refine lv_aload_n S.1 S.2.1 dX11_tell_31 rfl (lv_at hl 1 rfl) ?_
        refine lv_iconst (v := 2) S.1 S.2.1 dX11_tell_32 (by decide) ?_
        refine aw_callV S hE (c_X11_traced l G am fl n lw nn ra rsn nr (31 * tr + 3) 2) gX11_tell_X11_traced (n := 1) rfl (by decide +kernel) rfl (by rw [hRm]; exact ⟨Nat.le_of_ble_eq_true rfl, Nat.le_of_ble_eq_true rfl⟩) (by rw [hRm]; exact ⟨Nat.le_of_ble_eq_true rfl, Nat.le_of_ble_eq_true rfl⟩) hw hA hl.1 [0] rfl rfl (aw_recv (i := 0) hE hw rfl rfl rfl) rfl (Nat.le_of_ble_eq_true rfl) dX11_tell_33 ?_
        rintro v w1 H locs ⟨rfl, rfl⟩ hw
        have hw : bW G A s.heap [[(am 31, mdO am fl n lw nn ra rsn nr (31 * (31 * tr + 3) + 2))], [(am 2, .inl (gI G, 6, .inl kd))], [(am 4, .inl (gI G, 6, .inl br))]] H locs := hw
        refine W.eq (g2 := (F0 m 36 ls [])) rfl ?_
        refine lv_aload_n S.1 S.2.1 dX11_tell_36 rfl (lv_at hl 1 rfl) ?_
        refine lv_iconst (v := 1) S.1 S.2.1 dX11_tell_37 (by decide) ?_
        refine aw_callV S hE (c_X11_traced l G am fl n lw nn ra rsn nr (31 * (31 * tr + 3) + 2) 1) gX11_tell_X11_traced (n := 1) rfl (by decide +kernel) rfl (by rw [hRm]; exact ⟨Nat.le_of_ble_eq_true rfl, Nat.le_of_ble_eq_true rfl⟩) (by rw [hRm]; exact ⟨Nat.le_of_ble_eq_true rfl, Nat.le_of_ble_eq_true rfl⟩) hw hA hl.1 [0] rfl rfl (aw_recv (i := 0) hE hw rfl rfl rfl) rfl (Nat.le_of_ble_eq_true rfl) dX11_tell_38 ?_
        rintro v w1 H locs ⟨rfl, rfl⟩ hw
        have hw : bW G A s.heap [[(am 31, mdO am fl n lw nn ra rsn nr (31 * (31 * (31 * tr + 3) + 2) + 1))], [(am 2, .inl (gI G, 6, .inl kd))], [(am 4, .inl (gI G, 6, .inl br))]] H locs := hw
        refine W.eq (g2 := (F0 m 41 ls [])) rfl ?_
        refine lv_iload_n S.1 S.2.1 dX11_tell_41 rfl (lv_at hl 0 rfl) ?_
        refine lv_iconst (v := 2) S.1 S.2.1 dX11_tell_42 (by decide) ?_
        refine lv_icmp_ne (tgt := 51) S.1 S.2.1 dX11_tell_43 (by decide) (fun c43 => ?_) (fun c43 => ?_)
        · exact absurd hz c43
        · refine lv_aload_n S.1 S.2.1 dX11_tell_46 rfl (lv_at hl 1 rfl) ?_
          refine lv_iconst (v := 1) S.1 S.2.1 dX11_tell_47 (by decide) ?_
          refine aw_callV S hE (c_X11_traced l G am fl n lw nn ra rsn nr (31 * (31 * (31 * tr + 3) + 2) + 1) 1) gX11_tell_X11_traced (n := 1) rfl (by decide +kernel) rfl (by rw [hRm]; exact ⟨Nat.le_of_ble_eq_true rfl, Nat.le_of_ble_eq_true rfl⟩) (by rw [hRm]; exact ⟨Nat.le_of_ble_eq_true rfl, Nat.le_of_ble_eq_true rfl⟩) hw hA hl.1 [0] rfl rfl (aw_recv (i := 0) hE hw rfl rfl rfl) rfl (Nat.le_of_ble_eq_true rfl) dX11_tell_48 ?_
          rintro v w1 H locs ⟨rfl, rfl⟩ hw
          have hw : bW G A s.heap [[(am 31, mdO am fl n lw nn ra rsn nr (31 * (31 * (31 * (31 * tr + 3) + 2) + 1) + 1))], [(am 2, .inl (gI G, 6, .inl kd))], [(am 4, .inl (gI G, 6, .inl br))]] H locs := hw
          refine W.eq (g2 := (F0 m 51 ls [])) rfl ?_
          refine lv_aload_n S.1 S.2.1 dX11_tell_51 rfl (lv_at hl 1 rfl) ?_
          refine aw_get S hE hw 0 (C := RX11) (T := TX11) (N := 31) rfl rfl hinX11 4 (by decide) hf16 rfl dX11_tell_52 ?_
          refine lv_iload_n S.1 S.2.1 dX11_tell_55 rfl (lv_at hl 2 rfl) ?_
          refine aw_iald S hE hw 2 (k := (tn sv)) rfl (by omega) (by decide) dX11_tell_56 ?_
          refine lv_istore_n (lv' := [(3, .int (br (tn sv))), (2, .int (kd (tn sv))), (0, .ref (am 31)), (1, .int (nI (tn sv)))]) S.1 S.2.1 dX11_tell_57 rfl hl (by decide) rfl (fun ls hl => ?_)
          refine lv_iload_n S.1 S.2.1 dX11_tell_58 rfl (lv_at hl 1 rfl) ?_
          refine lv_if_ne (tgt := 66) S.1 S.2.1 dX11_tell_59 (by decide) (fun c59 => ?_) (fun c59 => ?_)
          · refine lv_iload_n S.1 S.2.1 dX11_tell_66 rfl (lv_at hl 1 rfl) ?_
            refine lv_iconst (v := 1) S.1 S.2.1 dX11_tell_67 (by decide) ?_
            refine lv_icmp_ne (tgt := 78) S.1 S.2.1 dX11_tell_68 (by decide) (fun c68 => ?_) (fun c68 => ?_)
            · refine lv_iconst (v := 2) S.1 S.2.1 dX11_tell_78 (by decide) ?_
              refine lv_iload_n S.1 S.2.1 dX11_tell_79 rfl (lv_at hl 0 rfl) ?_
              refine lv_imul S.1 S.2.1 dX11_tell_80 ?_
              refine lv_bipush (v := 100) S.1 S.2.1 dX11_tell_81 (by decide) ?_
              refine lv_iadd S.1 S.2.1 dX11_tell_83 ?_
              have hw := Eq.mp (congrArg (fun z_ : Int32 => bW G A s.heap [[(am 31, mdO am fl n lw nn ra rsn nr z_)], [(am 2, .inl (gI G, 6, .inl kd))], [(am 4, .inl (gI G, 6, .inl br))]] H locs) (show (31 * (31 * (31 * (31 * tr + 3) + 2) + 1) + 1 : Int32) = f_tellT n kd tr sv from (by rw [f_tellT, if_pos c5, if_neg (by rw [hz]; decide), if_neg (by rw [hz]; decide)]))) hw
              have hw : bW G A s.heap [[(am 31, mdO am fl n lw nn ra rsn nr (f_tellT n kd tr sv))], [(am 2, .inl (gI G, 6, .inl kd))], [(am 4, .inl (gI G, 6, .inl br))]] H locs := hw
              refine aw_eqi (show ((2 * (br (tn sv))) + 100 : Int32) = f_tell n kd br sv from (by rw [f_tell, if_pos c5, if_neg (by rw [hz]; decide), if_neg (by rw [hz]; decide)]; exact tw100 _)) ?_
              exact aw_iret S hr hlk ha hQ hAe hw dX11_tell_84 rfl (Nat.le_of_ble_eq_true rfl) (Nat.le_of_ble_eq_true rfl) ⟨rfl, rfl⟩
            · exact absurd (hz.symm.trans c68) (by decide)
          · exact absurd (hz.symm.trans c59) (by decide)
  · refine lv_iconst (v := (-1)) S.1 S.2.1 dX11_tell_8 (by decide) ?_
    have hw := Eq.mp (congrArg (fun z_ : Int32 => bW G A s.heap [[(am 31, mdO am fl n lw nn ra rsn nr z_)], [(am 2, .inl (gI G, 6, .inl kd))], [(am 4, .inl (gI G, 6, .inl br))]] H locs) (show (tr : Int32) = f_tellT n kd tr sv from (by rw [f_tellT, if_neg c5]))) hw
    have hw : bW G A s.heap [[(am 31, mdO am fl n lw nn ra rsn nr (f_tellT n kd tr sv))], [(am 2, .inl (gI G, 6, .inl kd))], [(am 4, .inl (gI G, 6, .inl br))]] H locs := hw
    refine aw_eqi (show ((-1) : Int32) = f_tell n kd br sv from (by rw [f_tell, if_neg c5])) ?_
    exact aw_iret S hr hlk ha hQ hAe hw dX11_tell_9 rfl (Nat.le_of_ble_eq_true rfl) (Nat.le_of_ble_eq_true rfl) ⟨rfl, rfl⟩
set_option maxRecDepth 100000 in
set_option maxHeartbeats 4000000 in
theorem c_X11_greet (l : Launch) (G : aw_G) (am : Nat → Nat) (fl : Int32) (n : Nat) (lw : Int32) (nn ra rsn nr : Nat) (tr : Int32) (kd : Nat → Int32) (sv : Int32) (hn : n ≤ 6) (hkd : ∀ i, i < n → kd i = 0 ∨ kd i = 1 ∨ kd i = 2) : CT l G yX11_greet wsX11_greet ({ frames := 2, cells := 0, slots := 0, locals := 46 }) [.ref (am 31), .int sv] [[(am 31, mdO am fl n lw nn ra rsn nr tr)], [(am 2, .inl (gI G, 6, .inl kd))]] (dt (some (.int (f_greet n kd sv))) [[(am 31, mdO am fl n lw nn ra rsn nr (f_greetT n kd tr sv))], [(am 2, .inl (gI G, 6, .inl kd))]]) := by
  refine CT.of (cc := cX11_greet) (nL := 2) (ret := (some .int)) (by decide) rfl (Nat.le_of_ble_eq_true rfl) ?_
  intro p e s m below meth c R args Q A hRm ha hQ hAe hA S hE hr hlk hnm H locs hH0 hL0 ls hl hw
  have S : CallFix p m c cX11_greet 2 s args wsX11_greet RX11 := S
  have hl : lv_has ls 2 [(0, .ref (am 31)), (1, .int sv)] := hl
  have hinX11 : ∀ w ∈ u_ws RX11 TX11 31, w ∈ wsX11_greet := by decide +kernel
  have hf7 := S.2.2.2.2 (.fieldLink RX11 7 "AwakeTurnsModel" "kindOf" "[I") (by decide +kernel)
  refine lv_aload_n S.1 S.2.1 dX11_greet_0 rfl (lv_at hl 0 rfl) ?_
  refine lv_iload_n S.1 S.2.1 dX11_greet_1 rfl (lv_at hl 1 rfl) ?_
  refine aw_callV S hE (c_X11_noSleeper l G am fl n lw nn ra rsn nr tr sv (by first | assumption | omega)) gX11_greet_X11_noSleeper (n := 1) rfl (by decide +kernel) rfl (by rw [hRm]; exact ⟨Nat.le_of_ble_eq_true rfl, Nat.le_of_ble_eq_true rfl⟩) (by rw [hRm]; exact ⟨Nat.le_of_ble_eq_true rfl, Nat.le_of_ble_eq_true rfl⟩) hw hA hl.1 [0] rfl rfl (aw_recv (i := 0) hE hw rfl rfl rfl) rfl (Nat.le_of_ble_eq_true rfl) dX11_greet_2 ?_
  rintro v w1 H locs ⟨rfl, rfl⟩ hw
  have hw : bW G A s.heap [[(am 31, mdO am fl n lw nn ra rsn nr tr)], [(am 2, .inl (gI G, 6, .inl kd))]] H locs := hw
  refine W.eq (g2 := (F0 m 5 ls [.int (if ¬ (0 ≤ sv.toInt ∧ sv.toInt < n) then 1 else 0)])) rfl ?_
  refine aw_ifeq (P := ¬ (0 ≤ sv.toInt ∧ sv.toInt < n)) (tgt := 10) S dX11_greet_5 (by decide) (fun c5 => ?_) (fun c5 => ?_)
  · have c5 := Decidable.not_not.mp c5
    have hb_sv : tn sv < n := aw_tnL c5
    have hl := Eq.mp (congrArg (fun z_ : Int32 => lv_has ls 2 [(0, .ref (am 31)), (1, .int z_)]) (show (sv : Int32) = nI (tn sv) from (aw_tnE c5))) hl
    have hl : lv_has ls 2 [(0, .ref (am 31)), (1, .int (nI (tn sv)))] := hl
    refine lv_aload_n S.1 S.2.1 dX11_greet_10 rfl (lv_at hl 0 rfl) ?_
    refine lv_aload_n S.1 S.2.1 dX11_greet_11 rfl (lv_at hl 0 rfl) ?_
    refine aw_get S hE hw 0 (C := RX11) (T := TX11) (N := 31) rfl rfl hinX11 2 (by decide) hf7 rfl dX11_greet_12 ?_
    refine lv_iload_n S.1 S.2.1 dX11_greet_15 rfl (lv_at hl 1 rfl) ?_
    refine aw_iald S hE hw 1 (k := (tn sv)) rfl (by omega) (by decide) dX11_greet_16 ?_
    refine lv_iconst (v := 2) S.1 S.2.1 dX11_greet_17 (by decide) ?_
    refine lv_icmp_ne (tgt := 25) S.1 S.2.1 dX11_greet_18 (by decide) (fun c18 => ?_) (fun c18 => ?_)
    · have hz : kd (tn sv) = 0 ∨ kd (tn sv) = 1 := by rcases hkd _ hb_sv with q | q | q; exact Or.inl q; exact Or.inr q; exact absurd q c18
      refine lv_iconst (v := 4) S.1 S.2.1 dX11_greet_25 (by decide) ?_
      refine aw_callV S hE (c_X11_traced l G am fl n lw nn ra rsn nr tr 4) gX11_greet_X11_traced (n := 1) rfl (by decide +kernel) rfl (by rw [hRm]; exact ⟨Nat.le_of_ble_eq_true rfl, Nat.le_of_ble_eq_true rfl⟩) (by rw [hRm]; exact ⟨Nat.le_of_ble_eq_true rfl, Nat.le_of_ble_eq_true rfl⟩) hw hA hl.1 [0] rfl rfl (aw_recv (i := 0) hE hw rfl rfl rfl) rfl (Nat.le_of_ble_eq_true rfl) dX11_greet_26 ?_
      rintro v w1 H locs ⟨rfl, rfl⟩ hw
      have hw : bW G A s.heap [[(am 31, mdO am fl n lw nn ra rsn nr (31 * tr + 4))], [(am 2, .inl (gI G, 6, .inl kd))]] H locs := hw
      refine W.eq (g2 := (F0 m 29 ls [])) rfl ?_
      refine lv_aload_n S.1 S.2.1 dX11_greet_29 rfl (lv_at hl 0 rfl) ?_
      refine aw_get S hE hw 0 (C := RX11) (T := TX11) (N := 31) rfl rfl hinX11 2 (by decide) hf7 rfl dX11_greet_30 ?_
      refine lv_iload_n S.1 S.2.1 dX11_greet_33 rfl (lv_at hl 1 rfl) ?_
      refine aw_iald S hE hw 1 (k := (tn sv)) rfl (by omega) (by decide) dX11_greet_34 ?_
      refine lv_iconst (v := 2) S.1 S.2.1 dX11_greet_35 (by decide) ?_
      refine lv_icmp_ne (tgt := 44) S.1 S.2.1 dX11_greet_36 (by decide) (fun c36 => ?_) (fun c36 => ?_)
      · refine lv_iload_n S.1 S.2.1 dX11_greet_44 rfl (lv_at hl 1 rfl) ?_
        have hw := Eq.mp (congrArg (fun z_ : Int32 => bW G A s.heap [[(am 31, mdO am fl n lw nn ra rsn nr z_)], [(am 2, .inl (gI G, 6, .inl kd))]] H locs) (show (31 * tr + 4 : Int32) = f_greetT n kd tr sv from (by rw [f_greetT, if_pos c5, if_pos hz]))) hw
        have hw : bW G A s.heap [[(am 31, mdO am fl n lw nn ra rsn nr (f_greetT n kd tr sv))], [(am 2, .inl (gI G, 6, .inl kd))]] H locs := hw
        refine aw_eqi (show (nI (tn sv) : Int32) = f_greet n kd sv from (by rw [f_greet, if_pos c5, if_pos hz])) ?_
        exact aw_iret S hr hlk ha hQ hAe hw dX11_greet_45 rfl (Nat.le_of_ble_eq_true rfl) (Nat.le_of_ble_eq_true rfl) ⟨rfl, rfl⟩
      · exact absurd c36 c18
    · have hz : ¬ (kd (tn sv) = 0 ∨ kd (tn sv) = 1) := by rw [c18]; decide
      refine lv_iconst (v := 5) S.1 S.2.1 dX11_greet_21 (by decide) ?_
      refine lv_goto (tgt := 26) S.1 S.2.1 dX11_greet_22 (by decide) ?_
      refine aw_callV S hE (c_X11_traced l G am fl n lw nn ra rsn nr tr 5) gX11_greet_X11_traced (n := 1) rfl (by decide +kernel) rfl (by rw [hRm]; exact ⟨Nat.le_of_ble_eq_true rfl, Nat.le_of_ble_eq_true rfl⟩) (by rw [hRm]; exact ⟨Nat.le_of_ble_eq_true rfl, Nat.le_of_ble_eq_true rfl⟩) hw hA hl.1 [0] rfl rfl (aw_recv (i := 0) hE hw rfl rfl rfl) rfl (Nat.le_of_ble_eq_true rfl) dX11_greet_26 ?_
      rintro v w1 H locs ⟨rfl, rfl⟩ hw
      have hw : bW G A s.heap [[(am 31, mdO am fl n lw nn ra rsn nr (31 * tr + 5))], [(am 2, .inl (gI G, 6, .inl kd))]] H locs := hw
      refine W.eq (g2 := (F0 m 29 ls [])) rfl ?_
      refine lv_aload_n S.1 S.2.1 dX11_greet_29 rfl (lv_at hl 0 rfl) ?_
      refine aw_get S hE hw 0 (C := RX11) (T := TX11) (N := 31) rfl rfl hinX11 2 (by decide) hf7 rfl dX11_greet_30 ?_
      refine lv_iload_n S.1 S.2.1 dX11_greet_33 rfl (lv_at hl 1 rfl) ?_
      refine aw_iald S hE hw 1 (k := (tn sv)) rfl (by omega) (by decide) dX11_greet_34 ?_
      refine lv_iconst (v := 2) S.1 S.2.1 dX11_greet_35 (by decide) ?_
      refine lv_icmp_ne (tgt := 44) S.1 S.2.1 dX11_greet_36 (by decide) (fun c36 => ?_) (fun c36 => ?_)
      · exact absurd c18 c36
      · refine lv_bipush (v := 60) S.1 S.2.1 dX11_greet_39 (by decide) ?_
        refine lv_goto (tgt := 45) S.1 S.2.1 dX11_greet_41 (by decide) ?_
        have hw := Eq.mp (congrArg (fun z_ : Int32 => bW G A s.heap [[(am 31, mdO am fl n lw nn ra rsn nr z_)], [(am 2, .inl (gI G, 6, .inl kd))]] H locs) (show (31 * tr + 5 : Int32) = f_greetT n kd tr sv from (by rw [f_greetT, if_pos c5, if_neg hz]))) hw
        have hw : bW G A s.heap [[(am 31, mdO am fl n lw nn ra rsn nr (f_greetT n kd tr sv))], [(am 2, .inl (gI G, 6, .inl kd))]] H locs := hw
        refine aw_eqi (show (60 : Int32) = f_greet n kd sv from (by rw [f_greet, if_pos c5, if_neg hz])) ?_
        exact aw_iret S hr hlk ha hQ hAe hw dX11_greet_45 rfl (Nat.le_of_ble_eq_true rfl) (Nat.le_of_ble_eq_true rfl) ⟨rfl, rfl⟩
  · refine lv_iconst (v := (-1)) S.1 S.2.1 dX11_greet_8 (by decide) ?_
    have hw := Eq.mp (congrArg (fun z_ : Int32 => bW G A s.heap [[(am 31, mdO am fl n lw nn ra rsn nr z_)], [(am 2, .inl (gI G, 6, .inl kd))]] H locs) (show (tr : Int32) = f_greetT n kd tr sv from (by rw [f_greetT, if_neg c5]))) hw
    have hw : bW G A s.heap [[(am 31, mdO am fl n lw nn ra rsn nr (f_greetT n kd tr sv))], [(am 2, .inl (gI G, 6, .inl kd))]] H locs := hw
    refine aw_eqi (show ((-1) : Int32) = f_greet n kd sv from (by rw [f_greet, if_neg c5])) ?_
    exact aw_iret S hr hlk ha hQ hAe hw dX11_greet_9 rfl (Nat.le_of_ble_eq_true rfl) (Nat.le_of_ble_eq_true rfl) ⟨rfl, rfl⟩
set_option maxRecDepth 100000 in
set_option maxHeartbeats 4000000 in
theorem c_X11_as (l : Launch) (G : aw_G) (am : Nat → Nat) (fl : Int32) (n : Nat) (lw : Int32) (nn ra rsn nr : Nat) (tr : Int32) (kd : Nat → Int32) (sv ki : Int32) (hn : n ≤ 6) : CT l G yX11_as wsX11_as ({ frames := 2, cells := 0, slots := 0, locals := 46 }) [.ref (am 31), .int sv, .int ki] [[(am 31, mdO am fl n lw nn ra rsn nr tr)], [(am 2, .inl (gI G, 6, .inl kd))]] (dt (some (.int (f_as n kd sv ki))) [[(am 31, mdO am (f_asT n kd sv ki) n lw nn ra rsn nr tr)], [(am 2, .inl (gI G, 6, .inl kd))]]) := by
  refine CT.of (cc := cX11_as) (nL := 3) (ret := (some .int)) (by decide) rfl (Nat.le_of_ble_eq_true rfl) ?_
  intro p e s m below meth c R args Q A hRm ha hQ hAe hA S hE hr hlk hnm H locs hH0 hL0 ls hl hw
  have S : CallFix p m c cX11_as 3 s args wsX11_as RX11 := S
  have hl : lv_has ls 3 [(0, .ref (am 31)), (1, .int sv), (2, .int ki)] := hl
  have hinX11 : ∀ w ∈ u_ws RX11 TX11 31, w ∈ wsX11_as := by decide +kernel
  have hf7 := S.2.2.2.2 (.fieldLink RX11 7 "AwakeTurnsModel" "kindOf" "[I") (by decide +kernel)
  refine lv_aload_n S.1 S.2.1 dX11_as_0 rfl (lv_at hl 0 rfl) ?_
  refine lv_iload_n S.1 S.2.1 dX11_as_1 rfl (lv_at hl 1 rfl) ?_
  refine aw_callV S hE (c_X11_noSleeper l G am fl n lw nn ra rsn nr tr sv (by first | assumption | omega)) gX11_as_X11_noSleeper (n := 1) rfl (by decide +kernel) rfl (by rw [hRm]; exact ⟨Nat.le_of_ble_eq_true rfl, Nat.le_of_ble_eq_true rfl⟩) (by rw [hRm]; exact ⟨Nat.le_of_ble_eq_true rfl, Nat.le_of_ble_eq_true rfl⟩) hw hA hl.1 [0] rfl rfl (aw_recv (i := 0) hE hw rfl rfl rfl) rfl (Nat.le_of_ble_eq_true rfl) dX11_as_2 ?_
  rintro v w1 H locs ⟨rfl, rfl⟩ hw
  have hw : bW G A s.heap [[(am 31, mdO am fl n lw nn ra rsn nr tr)], [(am 2, .inl (gI G, 6, .inl kd))]] H locs := hw
  refine W.eq (g2 := (F0 m 5 ls [.int (if ¬ (0 ≤ sv.toInt ∧ sv.toInt < n) then 1 else 0)])) rfl ?_
  refine aw_ifeq (P := ¬ (0 ≤ sv.toInt ∧ sv.toInt < n)) (tgt := 14) S dX11_as_5 (by decide) (fun c5 => ?_) (fun c5 => ?_)
  · have c5 := Decidable.not_not.mp c5
    have hb_sv : tn sv < n := aw_tnL c5
    have hl := Eq.mp (congrArg (fun z_ : Int32 => lv_has ls 3 [(0, .ref (am 31)), (1, .int z_), (2, .int ki)]) (show (sv : Int32) = nI (tn sv) from (aw_tnE c5))) hl
    have hl : lv_has ls 3 [(0, .ref (am 31)), (1, .int (nI (tn sv))), (2, .int ki)] := hl
    refine lv_iload_n S.1 S.2.1 dX11_as_14 rfl (lv_at hl 2 rfl) ?_
    refine lv_i2l S.1 S.2.1 dX11_as_15 rfl ?_
    refine lv_lconst (v := 0) S.1 S.2.1 dX11_as_16 (by decide) ?_
    refine lv_ldc2 (v := 2) S.1 S.2.1 S.2.2.2.1 (S.2.2.2.2 (.constantLong RX11 132 2) (by decide +kernel)) dX11_as_17 ?_
    refine aw_callS S hE (c_X11_in l G ki.toInt64 0 2) gX11_as_X11_in (n := 3) rfl (by decide +kernel) rfl (by rw [hRm]; exact ⟨Nat.le_of_ble_eq_true rfl, Nat.le_of_ble_eq_true rfl⟩) (by rw [hRm]; exact ⟨Nat.le_of_ble_eq_true rfl, Nat.le_of_ble_eq_true rfl⟩) hw hA hl.1 [] rfl rfl rfl (Nat.le_of_ble_eq_true rfl) dX11_as_20 ?_
    rintro v w1 H locs ⟨rfl, rfl⟩ hw
    have hw : bW G A s.heap [[(am 31, mdO am fl n lw nn ra rsn nr tr)], [(am 2, .inl (gI G, 6, .inl kd))]] H locs := hw
    refine W.eq (g2 := (F0 m 23 ls [.int (if Int64.toInt 0 ≤ Int64.toInt ki.toInt64 ∧ Int64.toInt ki.toInt64 ≤ Int64.toInt 2 then 1 else 0)])) rfl ?_
    refine aw_ifne (P := Int64.toInt 0 ≤ Int64.toInt ki.toInt64 ∧ Int64.toInt ki.toInt64 ≤ Int64.toInt 2) (tgt := 33) S dX11_as_23 (by decide) (fun c23 => ?_) (fun c23 => ?_)
    · rw [l64, l64_0, l64_2] at c23
      have hki : 0 ≤ ki.toInt ∧ ki.toInt < 3 := by omega
      refine lv_aload_n S.1 S.2.1 dX11_as_33 rfl (lv_at hl 0 rfl) ?_
      refine aw_get S hE hw 0 (C := RX11) (T := TX11) (N := 31) rfl rfl hinX11 2 (by decide) hf7 rfl dX11_as_34 ?_
      refine lv_iload_n S.1 S.2.1 dX11_as_37 rfl (lv_at hl 1 rfl) ?_
      refine aw_iald S hE hw 1 (k := (tn sv)) rfl (by omega) (by decide) dX11_as_38 ?_
      refine lv_iload_n S.1 S.2.1 dX11_as_39 rfl (lv_at hl 2 rfl) ?_
      refine lv_icmp_lt (tgt := 51) S.1 S.2.1 dX11_as_40 (by decide) (fun c40 => ?_) (fun c40 => ?_)
      · rw [fa_lt] at c40
        refine lv_aload_n S.1 S.2.1 dX11_as_51 rfl (lv_at hl 0 rfl) ?_
        refine lv_iconst (v := 2) S.1 S.2.1 dX11_as_52 (by decide) ?_
        refine aw_callV S hE (c_X11_failed l G am fl n lw nn ra rsn nr tr 2) gX11_as_X11_failed (n := 1) rfl (by decide +kernel) rfl (by rw [hRm]; exact ⟨Nat.le_of_ble_eq_true rfl, Nat.le_of_ble_eq_true rfl⟩) (by rw [hRm]; exact ⟨Nat.le_of_ble_eq_true rfl, Nat.le_of_ble_eq_true rfl⟩) hw hA hl.1 [0] rfl rfl (aw_recv (i := 0) hE hw rfl rfl rfl) rfl (Nat.le_of_ble_eq_true rfl) dX11_as_53 ?_
        rintro v w1 H locs ⟨rfl, rfl⟩ hw
        have hw : bW G A s.heap [[(am 31, mdO am 2 n lw nn ra rsn nr tr)], [(am 2, .inl (gI G, 6, .inl kd))]] H locs := hw
        refine W.eq (g2 := (F0 m 56 ls [.int (-10 - 2)])) rfl ?_
        have hw := Eq.mp (congrArg (fun z_ : Int32 => bW G A s.heap [[(am 31, mdO am z_ n lw nn ra rsn nr tr)], [(am 2, .inl (gI G, 6, .inl kd))]] H locs) (show (2 : Int32) = f_asT n kd sv ki from (by rw [f_asT, if_pos ⟨c5, hki, by omega⟩]))) hw
        have hw : bW G A s.heap [[(am 31, mdO am (f_asT n kd sv ki) n lw nn ra rsn nr tr)], [(am 2, .inl (gI G, 6, .inl kd))]] H locs := hw
        refine aw_eqi (show (-10 - 2 : Int32) = f_as n kd sv ki from (by rw [f_as, if_pos c5, if_pos hki, if_neg (by omega)]; rfl)) ?_
        exact aw_iret S hr hlk ha hQ hAe hw dX11_as_56 rfl (Nat.le_of_ble_eq_true rfl) (Nat.le_of_ble_eq_true rfl) ⟨rfl, rfl⟩
      · rw [fa_lt] at c40
        refine lv_aload_n S.1 S.2.1 dX11_as_43 rfl (lv_at hl 0 rfl) ?_
        refine lv_iconst (v := 1) S.1 S.2.1 dX11_as_44 (by decide) ?_
        refine aw_callV S hE (c_X11_refused l G am fl n lw nn ra rsn nr tr 1) gX11_as_X11_refused (n := 1) rfl (by decide +kernel) rfl (by rw [hRm]; exact ⟨Nat.le_of_ble_eq_true rfl, Nat.le_of_ble_eq_true rfl⟩) (by rw [hRm]; exact ⟨Nat.le_of_ble_eq_true rfl, Nat.le_of_ble_eq_true rfl⟩) hw hA hl.1 [0] rfl rfl (aw_recv (i := 0) hE hw rfl rfl rfl) rfl (Nat.le_of_ble_eq_true rfl) dX11_as_45 ?_
        rintro v w1 H locs ⟨rfl, rfl⟩ hw
        have hw : bW G A s.heap [[(am 31, mdO am 0 n lw nn ra rsn nr tr)], [(am 2, .inl (gI G, 6, .inl kd))]] H locs := hw
        refine W.eq (g2 := (F0 m 48 ls [.int 1])) rfl ?_
        refine lv_goto (tgt := 56) S.1 S.2.1 dX11_as_48 (by decide) ?_
        have hw := Eq.mp (congrArg (fun z_ : Int32 => bW G A s.heap [[(am 31, mdO am z_ n lw nn ra rsn nr tr)], [(am 2, .inl (gI G, 6, .inl kd))]] H locs) (show (0 : Int32) = f_asT n kd sv ki from (by rw [f_asT, if_neg (fun q => q.2.2 (by omega))]))) hw
        have hw : bW G A s.heap [[(am 31, mdO am (f_asT n kd sv ki) n lw nn ra rsn nr tr)], [(am 2, .inl (gI G, 6, .inl kd))]] H locs := hw
        refine aw_eqi (show (1 : Int32) = f_as n kd sv ki from (by rw [f_as, if_pos c5, if_pos hki, if_pos (by omega)])) ?_
        exact aw_iret S hr hlk ha hQ hAe hw dX11_as_56 rfl (Nat.le_of_ble_eq_true rfl) (Nat.le_of_ble_eq_true rfl) ⟨rfl, rfl⟩
    · rw [l64, l64_0, l64_2] at c23
      refine lv_aload_n S.1 S.2.1 dX11_as_26 rfl (lv_at hl 0 rfl) ?_
      refine lv_bipush (v := (-2)) S.1 S.2.1 dX11_as_27 (by decide) ?_
      refine aw_callV S hE (c_X11_refused l G am fl n lw nn ra rsn nr tr (-2)) gX11_as_X11_refused (n := 1) rfl (by decide +kernel) rfl (by rw [hRm]; exact ⟨Nat.le_of_ble_eq_true rfl, Nat.le_of_ble_eq_true rfl⟩) (by rw [hRm]; exact ⟨Nat.le_of_ble_eq_true rfl, Nat.le_of_ble_eq_true rfl⟩) hw hA hl.1 [0] rfl rfl (aw_recv (i := 0) hE hw rfl rfl rfl) rfl (Nat.le_of_ble_eq_true rfl) dX11_as_29 ?_
      rintro v w1 H locs ⟨rfl, rfl⟩ hw
      have hw : bW G A s.heap [[(am 31, mdO am 0 n lw nn ra rsn nr tr)], [(am 2, .inl (gI G, 6, .inl kd))]] H locs := hw
      refine W.eq (g2 := (F0 m 32 ls [.int (-2)])) rfl ?_
      have hw := Eq.mp (congrArg (fun z_ : Int32 => bW G A s.heap [[(am 31, mdO am z_ n lw nn ra rsn nr tr)], [(am 2, .inl (gI G, 6, .inl kd))]] H locs) (show (0 : Int32) = f_asT n kd sv ki from (by rw [f_asT, if_neg (by omega)]))) hw
      have hw : bW G A s.heap [[(am 31, mdO am (f_asT n kd sv ki) n lw nn ra rsn nr tr)], [(am 2, .inl (gI G, 6, .inl kd))]] H locs := hw
      refine aw_eqi (show ((-2) : Int32) = f_as n kd sv ki from (by rw [f_as, if_pos c5, if_neg (by omega)])) ?_
      exact aw_iret S hr hlk ha hQ hAe hw dX11_as_32 rfl (Nat.le_of_ble_eq_true rfl) (Nat.le_of_ble_eq_true rfl) ⟨rfl, rfl⟩
  · refine lv_aload_n S.1 S.2.1 dX11_as_8 rfl (lv_at hl 0 rfl) ?_
    refine lv_iconst (v := (-1)) S.1 S.2.1 dX11_as_9 (by decide) ?_
    refine aw_callV S hE (c_X11_refused l G am fl n lw nn ra rsn nr tr (-1)) gX11_as_X11_refused (n := 1) rfl (by decide +kernel) rfl (by rw [hRm]; exact ⟨Nat.le_of_ble_eq_true rfl, Nat.le_of_ble_eq_true rfl⟩) (by rw [hRm]; exact ⟨Nat.le_of_ble_eq_true rfl, Nat.le_of_ble_eq_true rfl⟩) hw hA hl.1 [0] rfl rfl (aw_recv (i := 0) hE hw rfl rfl rfl) rfl (Nat.le_of_ble_eq_true rfl) dX11_as_10 ?_
    rintro v w1 H locs ⟨rfl, rfl⟩ hw
    have hw : bW G A s.heap [[(am 31, mdO am 0 n lw nn ra rsn nr tr)], [(am 2, .inl (gI G, 6, .inl kd))]] H locs := hw
    refine W.eq (g2 := (F0 m 13 ls [.int (-1)])) rfl ?_
    have hw := Eq.mp (congrArg (fun z_ : Int32 => bW G A s.heap [[(am 31, mdO am z_ n lw nn ra rsn nr tr)], [(am 2, .inl (gI G, 6, .inl kd))]] H locs) (show (0 : Int32) = f_asT n kd sv ki from (by rw [f_asT, if_neg (fun q => c5 q.1)]))) hw
    have hw : bW G A s.heap [[(am 31, mdO am (f_asT n kd sv ki) n lw nn ra rsn nr tr)], [(am 2, .inl (gI G, 6, .inl kd))]] H locs := hw
    refine aw_eqi (show ((-1) : Int32) = f_as n kd sv ki from (by rw [f_as, if_neg c5])) ?_
    exact aw_iret S hr hlk ha hQ hAe hw dX11_as_13 rfl (Nat.le_of_ble_eq_true rfl) (Nat.le_of_ble_eq_true rfl) ⟨rfl, rfl⟩
