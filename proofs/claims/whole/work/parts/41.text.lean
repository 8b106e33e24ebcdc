/-! the text; sleepers made and told -/
/-- may this code stand at this place -/
def msB (cd : Int32) (pl : Nat) : Bool :=
  if pl = 0 then decide (cd = 97) else if 25 ≤ pl then false else if pl % 4 = 1 then decide (cd = 59) else if pl % 4 = 2 then decide (cd = 115 ∨ cd = 102 ∨ cd = 111)
  else if pl % 4 = 3 then decide (48 ≤ cd.toInt ∧ cd.toInt ≤ 55) else decide (49 ≤ cd.toInt ∧ cd.toInt ≤ 57)
theorem lc_48 : (48 : Int32).toInt = 48 := rfl
theorem lc_49 : (49 : Int32).toInt = 49 := rfl
theorem lc_55 : (55 : Int32).toInt = 55 := rfl
theorem lc_57 : (57 : Int32).toInt = 57 := rfl
/-- the place of the first fault of a text of nn cells from i on; NONE (-9): it is whole -/
def ffN (f : Nat → Int32) (i nn : Nat) : Nat := fF (fun x => !msB (f (i + x)) x) nn
def ffF (f : Nat → Int32) (i nn : Nat) : Int32 := if ffN f i nn < nn then nI (ffN f i nn) else if 9 ≤ nn ∧ nn % 4 = 1 then -9 else nI nn
/-- the class of a sleeper, by its letter -/
def kcT (lt : Int32) : Nat := if lt = 102 then 1 else if lt = 111 then 5 else 8
set_option maxRecDepth 100000 in
set_option maxHeartbeats 4000000 in
theorem c_X9_mayStand (l : Launch) (G : aw_G) (cd : Int32) (pl : Nat) (hpl : pl < 60) : CT l G yX9_mayStand wsX9_mayStand ({ frames := 0, cells := 0, slots := 0, locals := 0 }) [.int cd, .int (nI pl)] [] (dt (some (.int (if msB cd pl = true then 1 else 0))) []) := by
  refine CT.of (cc := cX9_mayStand) (nL := 2) (ret := (some .boolean)) (by decide) rfl (Nat.le_of_ble_eq_true rfl) ?_
  intro p e s m below meth c R args Q A hRm ha hQ hAe hA S hE hr hlk hnm H locs hH0 hL0 ls hl hw
  have S : CallFix p m c cX9_mayStand 2 s args wsX9_mayStand RX9 := S
  have hl : lv_has ls 2 [(0, .int cd), (1, .int (nI pl))] := hl
  refine lv_iload_n S.1 S.2.1 dX9_mayStand_0 rfl (lv_at hl 1 rfl) ?_
  refine aw_ifN_ne (x := pl) (tgt := 16) S (by omega) dX9_mayStand_1 (by decide) (fun c1 => ?_) (fun c1 => ?_)
  · refine lv_iload_n S.1 S.2.1 dX9_mayStand_16 rfl (lv_at hl 1 rfl) ?_
    refine lv_bipush (v := 25) S.1 S.2.1 dX9_mayStand_17 (by decide) ?_
    refine aw_icmpN_lt (x := pl) (y := 25) (tgt := 24) S (by omega) (by omega) dX9_mayStand_19 (by decide) (fun c19 => ?_) (fun c19 => ?_)
    · have c19 : ¬ 25 ≤ pl := by omega
      refine lv_iload_n S.1 S.2.1 dX9_mayStand_24 rfl (lv_at hl 1 rfl) ?_
      refine lv_iconst (v := 4) S.1 S.2.1 dX9_mayStand_25 (by decide) ?_
      refine lv_irem S.1 S.2.1 dX9_mayStand_26 (by decide) ?_
      refine aw_eqi (show ((nI pl) - (nI pl) / 4 * 4 : Int32) = nI (pl % 4) from (pk_rem (a := pl) (d := 4) (by omega) (by omega) (by omega))) ?_
      by_cases c27_0 : pl % 4 = 1
      · refine lv_tableIn (off := 25) (tgt := 52) S.1 S.2.1 dX9_mayStand_27 (by rw [c27_0]; decide) (by rw [c27_0]; decide) (by rw [c27_0]; rfl) (by decide) ?_
        refine lv_iload_n S.1 S.2.1 dX9_mayStand_52 rfl (lv_at hl 0 rfl) ?_
        refine lv_bipush (v := 59) S.1 S.2.1 dX9_mayStand_53 (by decide) ?_
        refine lv_icmp_ne (tgt := 62) S.1 S.2.1 dX9_mayStand_55 (by decide) (fun c55 => ?_) (fun c55 => ?_)
        · refine lv_iconst (v := 0) S.1 S.2.1 dX9_mayStand_62 (by decide) ?_
          refine aw_eqi (show (0 : Int32) = if msB cd pl = true then 1 else 0 from (by simp [msB, c1, c19, c27_0, c55])) ?_
          exact aw_iret S hr hlk ha hQ hAe hw dX9_mayStand_63 (aw_nb _) (Nat.le_of_ble_eq_true rfl) (Nat.le_of_ble_eq_true rfl) ⟨rfl, rfl⟩
        · refine lv_iconst (v := 1) S.1 S.2.1 dX9_mayStand_58 (by decide) ?_
          refine lv_goto (tgt := 63) S.1 S.2.1 dX9_mayStand_59 (by decide) ?_
          refine aw_eqi (show (1 : Int32) = if msB cd pl = true then 1 else 0 from (by simp [msB, c1, c19, c27_0, c55])) ?_
          exact aw_iret S hr hlk ha hQ hAe hw dX9_mayStand_63 (aw_nb _) (Nat.le_of_ble_eq_true rfl) (Nat.le_of_ble_eq_true rfl) ⟨rfl, rfl⟩
      · by_cases c27_1 : pl % 4 = 2
        · refine lv_tableIn (off := 37) (tgt := 64) S.1 S.2.1 dX9_mayStand_27 (by rw [c27_1]; decide) (by rw [c27_1]; decide) (by rw [c27_1]; rfl) (by decide) ?_
          refine lv_iload_n S.1 S.2.1 dX9_mayStand_64 rfl (lv_at hl 0 rfl) ?_
          refine lv_bipush (v := 115) S.1 S.2.1 dX9_mayStand_65 (by decide) ?_
          refine lv_icmp_eq (tgt := 82) S.1 S.2.1 dX9_mayStand_67 (by decide) (fun c67 => ?_) (fun c67 => ?_)
          · refine lv_iconst (v := 1) S.1 S.2.1 dX9_mayStand_82 (by decide) ?_
            refine lv_goto (tgt := 87) S.1 S.2.1 dX9_mayStand_83 (by decide) ?_
            refine aw_eqi (show (1 : Int32) = if msB cd pl = true then 1 else 0 from (by simp [msB, c1, c19, c27_0, c27_1, c67])) ?_
            exact aw_iret S hr hlk ha hQ hAe hw dX9_mayStand_87 (aw_nb _) (Nat.le_of_ble_eq_true rfl) (Nat.le_of_ble_eq_true rfl) ⟨rfl, rfl⟩
          · refine lv_iload_n S.1 S.2.1 dX9_mayStand_70 rfl (lv_at hl 0 rfl) ?_
            refine lv_bipush (v := 102) S.1 S.2.1 dX9_mayStand_71 (by decide) ?_
            refine lv_icmp_eq (tgt := 82) S.1 S.2.1 dX9_mayStand_73 (by decide) (fun c73 => ?_) (fun c73 => ?_)
            · refine lv_iconst (v := 1) S.1 S.2.1 dX9_mayStand_82 (by decide) ?_
              refine lv_goto (tgt := 87) S.1 S.2.1 dX9_mayStand_83 (by decide) ?_
              refine aw_eqi (show (1 : Int32) = if msB cd pl = true then 1 else 0 from (by simp [msB, c1, c19, c27_0, c27_1, c67, c73])) ?_
              exact aw_iret S hr hlk ha hQ hAe hw dX9_mayStand_87 (aw_nb _) (Nat.le_of_ble_eq_true rfl) (Nat.le_of_ble_eq_true rfl) ⟨rfl, rfl⟩
            · refine lv_iload_n S.1 S.2.1 dX9_mayStand_76 rfl (lv_at hl 0 rfl) ?_
              refine lv_bipush (v := 111) S.1 S.2.1 dX9_mayStand_77 (by decide) ?_
              refine lv_icmp_ne (tgt := 86) S.1 S.2.1 dX9_mayStand_79 (by decide) (fun c79 => ?_) (fun c79 => ?_)
              · refine lv_iconst (v := 0) S.1 S.2.1 dX9_mayStand_86 (by decide) ?_
                refine aw_eqi (show (0 : Int32) = if msB cd pl = true then 1 else 0 from (by simp [msB, c1, c19, c27_0, c27_1, c67, c73, c79])) ?_
                exact aw_iret S hr hlk ha hQ hAe hw dX9_mayStand_87 (aw_nb _) (Nat.le_of_ble_eq_true rfl) (Nat.le_of_ble_eq_true rfl) ⟨rfl, rfl⟩
              · refine lv_iconst (v := 1) S.1 S.2.1 dX9_mayStand_82 (by decide) ?_
                refine lv_goto (tgt := 87) S.1 S.2.1 dX9_mayStand_83 (by decide) ?_
                refine aw_eqi (show (1 : Int32) = if msB cd pl = true then 1 else 0 from (by simp [msB, c1, c19, c27_0, c27_1, c67, c73, c79])) ?_
                exact aw_iret S hr hlk ha hQ hAe hw dX9_mayStand_87 (aw_nb _) (Nat.le_of_ble_eq_true rfl) (Nat.le_of_ble_eq_true rfl) ⟨rfl, rfl⟩
        · by_cases c27_2 : pl % 4 = 3
          · refine lv_tableIn (off := 61) (tgt := 88) S.1 S.2.1 dX9_mayStand_27 (by rw [c27_2]; decide) (by rw [c27_2]; decide) (by rw [c27_2]; rfl) (by decide) ?_
            refine lv_iload_n S.1 S.2.1 dX9_mayStand_88 rfl (lv_at hl 0 rfl) ?_
            refine lv_bipush (v := 48) S.1 S.2.1 dX9_mayStand_89 (by decide) ?_
            refine lv_icmp_lt (tgt := 104) S.1 S.2.1 dX9_mayStand_91 (by decide) (fun c91 => ?_) (fun c91 => ?_)
            · rw [fa_lt, lc_48] at c91
              have c91 : ¬ 48 ≤ cd.toInt := by omega
              refine lv_iconst (v := 0) S.1 S.2.1 dX9_mayStand_104 (by decide) ?_
              refine aw_eqi (show (0 : Int32) = if msB cd pl = true then 1 else 0 from (by simp [msB, c1, c19, c27_0, c27_1, c27_2, c91])) ?_
              exact aw_iret S hr hlk ha hQ hAe hw dX9_mayStand_105 (aw_nb _) (Nat.le_of_ble_eq_true rfl) (Nat.le_of_ble_eq_true rfl) ⟨rfl, rfl⟩
            · rw [fa_lt, lc_48] at c91
              have c91 : 48 ≤ cd.toInt := by omega
              refine lv_iload_n S.1 S.2.1 dX9_mayStand_94 rfl (lv_at hl 0 rfl) ?_
              refine lv_bipush (v := 55) S.1 S.2.1 dX9_mayStand_95 (by decide) ?_
              refine lv_icmp_gt (tgt := 104) S.1 S.2.1 dX9_mayStand_97 (by decide) (fun c97 => ?_) (fun c97 => ?_)
              · rw [fa_lt, lc_55] at c97
                have c97 : ¬ cd.toInt ≤ 55 := by omega
                refine lv_iconst (v := 0) S.1 S.2.1 dX9_mayStand_104 (by decide) ?_
                refine aw_eqi (show (0 : Int32) = if msB cd pl = true then 1 else 0 from (by simp [msB, c1, c19, c27_0, c27_1, c27_2, c91, c97])) ?_
                exact aw_iret S hr hlk ha hQ hAe hw dX9_mayStand_105 (aw_nb _) (Nat.le_of_ble_eq_true rfl) (Nat.le_of_ble_eq_true rfl) ⟨rfl, rfl⟩
              · rw [fa_lt, lc_55] at c97
                have c97 : cd.toInt ≤ 55 := by omega
                refine lv_iconst (v := 1) S.1 S.2.1 dX9_mayStand_100 (by decide) ?_
                refine lv_goto (tgt := 105) S.1 S.2.1 dX9_mayStand_101 (by decide) ?_
                refine aw_eqi (show (1 : Int32) = if msB cd pl = true then 1 else 0 from (by simp [msB, c1, c19, c27_0, c27_1, c27_2, c91, c97])) ?_
                exact aw_iret S hr hlk ha hQ hAe hw dX9_mayStand_105 (aw_nb _) (Nat.le_of_ble_eq_true rfl) (Nat.le_of_ble_eq_true rfl) ⟨rfl, rfl⟩
          · refine lv_tableOut (tgt := 106) S.1 S.2.1 dX9_mayStand_27 (by rw [nI_toInt (by omega)]; omega) (by decide) ?_
            refine lv_iload_n S.1 S.2.1 dX9_mayStand_106 rfl (lv_at hl 0 rfl) ?_
            refine lv_bipush (v := 49) S.1 S.2.1 dX9_mayStand_107 (by decide) ?_
            refine lv_icmp_lt (tgt := 122) S.1 S.2.1 dX9_mayStand_109 (by decide) (fun c109 => ?_) (fun c109 => ?_)
            · rw [fa_lt, lc_49] at c109
              have c109 : ¬ 49 ≤ cd.toInt := by omega
              refine lv_iconst (v := 0) S.1 S.2.1 dX9_mayStand_122 (by decide) ?_
              refine aw_eqi (show (0 : Int32) = if msB cd pl = true then 1 else 0 from (by simp [msB, c1, c19, c27_0, c27_1, c27_2, c109])) ?_
              exact aw_iret S hr hlk ha hQ hAe hw dX9_mayStand_123 (aw_nb _) (Nat.le_of_ble_eq_true rfl) (Nat.le_of_ble_eq_true rfl) ⟨rfl, rfl⟩
            · rw [fa_lt, lc_49] at c109
              have c109 : 49 ≤ cd.toInt := by omega
              refine lv_iload_n S.1 S.2.1 dX9_mayStand_112 rfl (lv_at hl 0 rfl) ?_
              refine lv_bipush (v := 57) S.1 S.2.1 dX9_mayStand_113 (by decide) ?_
              refine lv_icmp_gt (tgt := 122) S.1 S.2.1 dX9_mayStand_115 (by decide) (fun c115 => ?_) (fun c115 => ?_)
              · rw [fa_lt, lc_57] at c115
                have c115 : ¬ cd.toInt ≤ 57 := by omega
                refine lv_iconst (v := 0) S.1 S.2.1 dX9_mayStand_122 (by decide) ?_
                refine aw_eqi (show (0 : Int32) = if msB cd pl = true then 1 else 0 from (by simp [msB, c1, c19, c27_0, c27_1, c27_2, c109, c115])) ?_
                exact aw_iret S hr hlk ha hQ hAe hw dX9_mayStand_123 (aw_nb _) (Nat.le_of_ble_eq_true rfl) (Nat.le_of_ble_eq_true rfl) ⟨rfl, rfl⟩
              · rw [fa_lt, lc_57] at c115
                have c115 : cd.toInt ≤ 57 := by omega
                refine lv_iconst (v := 1) S.1 S.2.1 dX9_mayStand_118 (by decide) ?_
                refine lv_goto (tgt := 123) S.1 S.2.1 dX9_mayStand_119 (by decide) ?_
                refine aw_eqi (show (1 : Int32) = if msB cd pl = true then 1 else 0 from (by simp [msB, c1, c19, c27_0, c27_1, c27_2, c109, c115])) ?_
                exact aw_iret S hr hlk ha hQ hAe hw dX9_mayStand_123 (aw_nb _) (Nat.le_of_ble_eq_true rfl) (Nat.le_of_ble_eq_true rfl) ⟨rfl, rfl⟩
    · refine lv_iconst (v := 0) S.1 S.2.1 dX9_mayStand_22 (by decide) ?_
      refine aw_eqi (show (0 : Int32) = if msB cd pl = true then 1 else 0 from (by simp [msB, c1, c19])) ?_
      exact aw_iret S hr hlk ha hQ hAe hw dX9_mayStand_23 (aw_nb _) (Nat.le_of_ble_eq_true rfl) (Nat.le_of_ble_eq_true rfl) ⟨rfl, rfl⟩
  · refine lv_iload_n S.1 S.2.1 dX9_mayStand_4 rfl (lv_at hl 0 rfl) ?_
    refine lv_bipush (v := 97) S.1 S.2.1 dX9_mayStand_5 (by decide) ?_
    refine lv_icmp_ne (tgt := 14) S.1 S.2.1 dX9_mayStand_7 (by decide) (fun c7 => ?_) (fun c7 => ?_)
    · refine lv_iconst (v := 0) S.1 S.2.1 dX9_mayStand_14 (by decide) ?_
      refine aw_eqi (show (0 : Int32) = if msB cd pl = true then 1 else 0 from (by simp [msB, c1, c7])) ?_
      exact aw_iret S hr hlk ha hQ hAe hw dX9_mayStand_15 (aw_nb _) (Nat.le_of_ble_eq_true rfl) (Nat.le_of_ble_eq_true rfl) ⟨rfl, rfl⟩
    · refine lv_iconst (v := 1) S.1 S.2.1 dX9_mayStand_10 (by decide) ?_
      refine lv_goto (tgt := 15) S.1 S.2.1 dX9_mayStand_11 (by decide) ?_
      refine aw_eqi (show (1 : Int32) = if msB cd pl = true then 1 else 0 from (by simp [msB, c1, c7])) ?_
      exact aw_iret S hr hlk ha hQ hAe hw dX9_mayStand_15 (aw_nb _) (Nat.le_of_ble_eq_true rfl) (Nat.le_of_ble_eq_true rfl) ⟨rfl, rfl⟩
set_option maxRecDepth 100000 in
set_option maxHeartbeats 4000000 in
theorem c_X9_firstFault (l : Launch) (G : aw_G) (b : Nat) (f : Nat → Int32) (i nn : Nat) (hb : i + nn ≤ 60) : CT l G yX9_firstFault wsX9_firstFault ({ frames := 1, cells := 0, slots := 0, locals := 21 }) [.ref b, .int (nI i), .int (nI nn)] [[(b, .inl (gI G, 60, .inl f))]] (dt (some (.int (ffF f i nn))) [[(b, .inl (gI G, 60, .inl f))]]) := by
  refine CT.of (cc := cX9_firstFault) (nL := 4) (ret := (some .int)) (by decide) rfl (Nat.le_of_ble_eq_true rfl) ?_
  intro p e s m below meth c R args Q A hRm ha hQ hAe hA S hE hr hlk hnm H locs hH0 hL0 ls hl hw
  have S : CallFix p m c cX9_firstFault 4 s args wsX9_firstFault RX9 := S
  have hl : lv_has ls 4 [(0, .ref b), (1, .int (nI i)), (2, .int (nI nn))] := hl
  refine lv_iconst (v := 0) S.1 S.2.1 dX9_firstFault_0 (by decide) ?_
  refine lv_istore_n (lv' := [(3, .int 0), (0, .ref b), (1, .int (nI i)), (2, .int (nI nn))]) S.1 S.2.1 dX9_firstFault_1 rfl hl (by decide) rfl (fun ls hl => ?_)
  have loop2 : ∀ (fu : Nat) (x : Nat), (x ≤ nn) → (∀ j, j < x → (fun x => !msB (f (i + x)) x) j = false) → (nn - x) < fu → ∀ (ls : Array Slot) (H : Heap) (locs : List Loc), lv_has ls 4 [(0, .ref b), (1, .int (nI i)), (2, .int (nI nn)), (3, .int (nI x))] → bW G A s.heap [[(b, .inl (gI G, 60, .inl f))]] H locs → W p l e R s m args below meth c H locs 0 0 Q (F0 m 2 ls []) := by
    intro fu
    induction fu with
    | zero => intro x _ _ hm; exact absurd hm (Nat.not_lt_zero _)
    | succ fu ih2 =>
      intro x hx hp hm ls H locs hl hw
      refine lv_iload_n S.1 S.2.1 dX9_firstFault_2 rfl (lv_at hl 3 rfl) ?_
      refine lv_iload_n S.1 S.2.1 dX9_firstFault_3 rfl (lv_at hl 2 rfl) ?_
      refine aw_icmpN_ge (x := x) (y := nn) (tgt := 27) S (by omega) (by omega) dX9_firstFault_4 (by decide) (fun c4 => ?_) (fun c4 => ?_)
      · have ex_x : x = nn := by omega
        have hno : ffN f i nn = nn := fF_none (fun j hj => hp j (by omega))
        refine lv_iload_n S.1 S.2.1 dX9_firstFault_27 rfl (lv_at hl 2 rfl) ?_
        refine lv_bipush (v := 9) S.1 S.2.1 dX9_firstFault_28 (by decide) ?_
        have join45 : ∀ (H : Heap) (locs : List Loc), ∀ (ls : Array Slot), lv_has ls 4 [(0, .ref b), (1, .int (nI i)), (2, .int (nI nn)), (3, .int (nI x))] → bW G A s.heap [[(b, .inl (gI G, 60, .inl f))]] H locs → W p l e R s m args below meth c H locs 0 0 Q (F0 m 45 ls [.int (if 9 ≤ nn ∧ nn % 4 = 1 then 1 else 0)]) := by
          intro  H locs ls hl hw
          refine lv_istore_n (lv' := [(3, .int (if 9 ≤ nn ∧ nn % 4 = 1 then 1 else 0)), (0, .ref b), (1, .int (nI i)), (2, .int (nI nn))]) S.1 S.2.1 dX9_firstFault_45 rfl hl (by decide) rfl (fun ls hl => ?_)
          refine lv_iload_n S.1 S.2.1 dX9_firstFault_46 rfl (lv_at hl 0 rfl) ?_
          refine aw_ifeq (P := 9 ≤ nn ∧ nn % 4 = 1) (tgt := 55) S dX9_firstFault_47 (by decide) (fun c47 => ?_) (fun c47 => ?_)
          · refine lv_iload_n S.1 S.2.1 dX9_firstFault_55 rfl (lv_at hl 3 rfl) ?_
            refine aw_eqi (show (nI nn : Int32) = ffF f i nn from (by rw [ffF, hno, if_neg (by omega)]; first | rw [if_pos c47] | rw [if_neg c47])) ?_
            exact aw_iret S hr hlk ha hQ hAe hw dX9_firstFault_56 rfl (Nat.le_of_ble_eq_true rfl) (Nat.le_of_ble_eq_true rfl) ⟨rfl, rfl⟩
          · refine lv_bipush (v := (-9)) S.1 S.2.1 dX9_firstFault_50 (by decide) ?_
            refine lv_goto (tgt := 56) S.1 S.2.1 dX9_firstFault_52 (by decide) ?_
            refine aw_eqi (show ((-9) : Int32) = ffF f i nn from (by rw [ffF, hno, if_neg (by omega)]; first | rw [if_pos c47] | rw [if_neg c47])) ?_
            exact aw_iret S hr hlk ha hQ hAe hw dX9_firstFault_56 rfl (Nat.le_of_ble_eq_true rfl) (Nat.le_of_ble_eq_true rfl) ⟨rfl, rfl⟩
        refine aw_icmpN_lt (x := nn) (y := 9) (tgt := 44) S (by omega) (by omega) dX9_firstFault_30 (by decide) (fun c30 => ?_) (fun c30 => ?_)
        · refine lv_iconst (v := 0) S.1 S.2.1 dX9_firstFault_44 (by decide) ?_
          refine aw_eqi (show (0 : Int32) = if 9 ≤ nn ∧ nn % 4 = 1 then 1 else 0 from (by first | rw [if_pos (by omega)] | rw [if_neg (by omega)])) ?_
          exact join45  _ _ _ (lv_sub hl [0, 1, 2, 3] rfl) hw
        · refine lv_iload_n S.1 S.2.1 dX9_firstFault_33 rfl (lv_at hl 2 rfl) ?_
          refine lv_iconst (v := 4) S.1 S.2.1 dX9_firstFault_34 (by decide) ?_
          refine lv_irem S.1 S.2.1 dX9_firstFault_35 (by decide) ?_
          refine aw_eqi (show ((nI nn) - (nI nn) / 4 * 4 : Int32) = nI (nn % 4) from (pk_rem (a := nn) (d := 4) (by omega) (by omega) (by omega))) ?_
          refine lv_iconst (v := 1) S.1 S.2.1 dX9_firstFault_36 (by decide) ?_
          refine aw_icmpN_ne (x := nn % 4) (y := 1) (tgt := 44) S (by omega) (by omega) dX9_firstFault_37 (by decide) (fun c37 => ?_) (fun c37 => ?_)
          · refine lv_iconst (v := 0) S.1 S.2.1 dX9_firstFault_44 (by decide) ?_
            refine aw_eqi (show (0 : Int32) = if 9 ≤ nn ∧ nn % 4 = 1 then 1 else 0 from (by first | rw [if_pos (by omega)] | rw [if_neg (by omega)])) ?_
            exact join45  _ _ _ (lv_sub hl [0, 1, 2, 3] rfl) hw
          · refine lv_iconst (v := 1) S.1 S.2.1 dX9_firstFault_40 (by decide) ?_
            refine lv_goto (tgt := 45) S.1 S.2.1 dX9_firstFault_41 (by decide) ?_
            refine aw_eqi (show (1 : Int32) = if 9 ≤ nn ∧ nn % 4 = 1 then 1 else 0 from (by first | rw [if_pos (by omega)] | rw [if_neg (by omega)])) ?_
            exact join45  _ _ _ (lv_sub hl [0, 1, 2, 3] rfl) hw
      · refine lv_aload_n S.1 S.2.1 dX9_firstFault_7 rfl (lv_at hl 0 rfl) ?_
        refine lv_iload_n S.1 S.2.1 dX9_firstFault_8 rfl (lv_at hl 1 rfl) ?_
        refine lv_iload_n S.1 S.2.1 dX9_firstFault_9 rfl (lv_at hl 3 rfl) ?_
        refine lv_iadd S.1 S.2.1 dX9_firstFault_10 ?_
        refine aw_eqi (show ((nI i) + (nI x) : Int32) = nI (i + x) from (nI_add i x)) ?_
        refine aw_iald S hE hw 0 (k := (i + x)) rfl (by omega) (by decide) dX9_firstFault_11 ?_
        refine lv_iload_n S.1 S.2.1 dX9_firstFault_12 rfl (lv_at hl 3 rfl) ?_
        refine aw_callS S hE (c_X9_mayStand l G (f (i + x)) x (by first | assumption | omega)) gX9_firstFault_X9_mayStand (n := 2) rfl (by decide +kernel) rfl (by rw [hRm]; exact ⟨Nat.le_of_ble_eq_true rfl, Nat.le_of_ble_eq_true rfl⟩) (by rw [hRm]; exact ⟨Nat.le_of_ble_eq_true rfl, Nat.le_of_ble_eq_true rfl⟩) hw hA hl.1 [] rfl rfl rfl (Nat.le_of_ble_eq_true rfl) dX9_firstFault_13 ?_
        rintro v w1 H locs ⟨rfl, rfl⟩ hw
        have hw : bW G A s.heap [[(b, .inl (gI G, 60, .inl f))]] H locs := hw
        refine W.eq (g2 := (F0 m 16 ls [.int (if msB (f (i + x)) x = true then 1 else 0)])) rfl ?_
        refine aw_ifne (P := msB (f (i + x)) x = true) (tgt := 21) S dX9_firstFault_16 (by decide) (fun c16 => ?_) (fun c16 => ?_)
        · refine lv_iinc (v := nI (x + 1)) (lv' := [(3, .int (nI (x + 1))), (0, .ref b), (1, .int (nI i)), (2, .int (nI nn))]) S.1 S.2.1 dX9_firstFault_21 hl (k := 3) rfl (by first | exact nI_1 _ | exact nI_add _ _ | rfl) (by decide) rfl (fun ls hl => ?_)
          refine lv_goto (tgt := 2) S.1 S.2.1 dX9_firstFault_24 (by decide) ?_
          exact ih2 (x + 1) (by first | assumption | omega) (lt_s hp (by simpa using c16)) (by omega) _ _ _ (lv_sub hl [1, 2, 3, 0] rfl) hw
        · refine lv_iload_n S.1 S.2.1 dX9_firstFault_19 rfl (lv_at hl 3 rfl) ?_
          refine aw_eqi (show (nI x : Int32) = ffF f i nn from (by rw [ffF, show ffN f i nn = x from fF_is (by omega) (by simpa using c16) hp, if_pos (by omega)])) ?_
          exact aw_iret S hr hlk ha hQ hAe hw dX9_firstFault_20 rfl (Nat.le_of_ble_eq_true rfl) (Nat.le_of_ble_eq_true rfl) ⟨rfl, rfl⟩
  exact loop2 _ 0 (by first | assumption | omega) (fun j hj => absurd hj (Nat.not_lt_zero j)) (Nat.lt_succ_self _) _ _ _ (lv_sub hl [1, 2, 3, 0] rfl) hw
set_option maxRecDepth 100000 in
set_option maxHeartbeats 4000000 in
theorem c_X8_init_X8 (l : Launch) (G : aw_G) (a : Nat) (nu ski bri : Int32)  : CT l G yX8_init wsX8_init ({ frames := 1, cells := 0, slots := 0, locals := 20 }) [.ref a, .int nu, .int ski, .int bri] [[(a, .inr (8, [.int 0, .int 0, .int 0]))]] (dt none [[(a, .inr (8, [.int nu, .int ski, .int bri]))]]) := by
  refine CT.of (cc := cX8_init) (nL := 4) (ret := none) (by decide) rfl (Nat.le_of_ble_eq_true rfl) ?_
  intro p e s m below meth c R args Q A hRm ha hQ hAe hA S hE hr hlk hnm H locs hH0 hL0 ls hl hw
  have S : CallFix p m c cX8_init 4 s args wsX8_init RX8 := S
  have hl : lv_has ls 4 [(0, .ref a), (1, .int nu), (2, .int ski), (3, .int bri)] := hl
  have hz_oi1 := S.2.2.2.2 (.methodLink RX8 1 objectInit) (by decide +kernel)
  have hz_oi2 := S.2.2.2.2 (.instanceMethod objectInit) (by decide +kernel)
  have hz_oi3 := S.2.2.2.2 (.code objectInit ⟨#[0xb1]⟩ 1 none) (by decide +kernel)
  have hinX8 : ∀ w ∈ u_ws RX8 TX8 3, w ∈ wsX8_init := by decide +kernel
  have hf7 := S.2.2.2.2 (.fieldLink RX8 7 "AwakeTurns$Sleeper" "number" "I") (by decide +kernel)
  have hf13 := S.2.2.2.2 (.fieldLink RX8 13 "AwakeTurns$Sleeper" "skillSet" "I") (by decide +kernel)
  have hf16 := S.2.2.2.2 (.fieldLink RX8 16 "AwakeTurns$Sleeper" "bears" "I") (by decide +kernel)
  refine lv_aload_n S.1 S.2.1 dX8_init_0 rfl (lv_at hl 0 rfl) ?_
  refine W.objInit S.1 S.2.1 S.2.2.2.1 hz_oi1 hz_oi2 hz_oi3 rfl (by rw [S.2.2.1]; exact hl.1) rfl dX8_init_1 (by rw [hRm]; exact Nat.le_of_ble_eq_true rfl) (by rw [hRm]; exact Nat.le_of_ble_eq_true rfl) ?_
  refine W.eq (g2 := (F0 m 4 ls [])) rfl ?_
  refine lv_aload_n S.1 S.2.1 dX8_init_4 rfl (lv_at hl 0 rfl) ?_
  refine lv_iload_n S.1 S.2.1 dX8_init_5 rfl (lv_at hl 1 rfl) ?_
  refine aw_putF S hE hw 0 (C := RX8) (T := TX8) (N := 3) rfl rfl hinX8 tyX8 tyX8_ok nmX8 0 (by decide) hf7 rfl hnm rfl rfl rfl (Nat.le_of_ble_eq_true rfl) dX8_init_6 (fun H locs hw => ?_)
  have hw : bW G A s.heap [[(a, .inr (8, [.int nu, .int 0, .int 0]))]] H locs := hw
  refine lv_aload_n S.1 S.2.1 dX8_init_9 rfl (lv_at hl 0 rfl) ?_
  refine lv_iload_n S.1 S.2.1 dX8_init_10 rfl (lv_at hl 2 rfl) ?_
  refine aw_putF S hE hw 0 (C := RX8) (T := TX8) (N := 3) rfl rfl hinX8 tyX8 tyX8_ok nmX8 1 (by decide) hf13 rfl hnm rfl rfl rfl (Nat.le_of_ble_eq_true rfl) dX8_init_11 (fun H locs hw => ?_)
  have hw : bW G A s.heap [[(a, .inr (8, [.int nu, .int ski, .int 0]))]] H locs := hw
  refine lv_aload_n S.1 S.2.1 dX8_init_14 rfl (lv_at hl 0 rfl) ?_
  refine lv_iload_n S.1 S.2.1 dX8_init_15 rfl (lv_at hl 3 rfl) ?_
  refine aw_putF S hE hw 0 (C := RX8) (T := TX8) (N := 3) rfl rfl hinX8 tyX8 tyX8_ok nmX8 2 (by decide) hf16 rfl hnm rfl rfl rfl (Nat.le_of_ble_eq_true rfl) dX8_init_16 (fun H locs hw => ?_)
  have hw : bW G A s.heap [[(a, .inr (8, [.int nu, .int ski, .int bri]))]] H locs := hw
  exact aw_vret S hr hlk ha hQ hAe hw dX8_init_19 (Nat.le_of_ble_eq_true rfl) (Nat.le_of_ble_eq_true rfl) ⟨rfl, rfl⟩
set_option maxRecDepth 100000 in
set_option maxHeartbeats 4000000 in
theorem c_X8_init_X1 (l : Launch) (G : aw_G) (a : Nat) (nu ski bri : Int32)  : CT l G yX8_init wsX8_init ({ frames := 1, cells := 0, slots := 0, locals := 20 }) [.ref a, .int nu, .int ski, .int bri] [[(a, .inr (1, [.int 0, .int 0, .int 0]))]] (dt none [[(a, .inr (1, [.int nu, .int ski, .int bri]))]]) := by
  refine CT.of (cc := cX8_init) (nL := 4) (ret := none) (by decide) rfl (Nat.le_of_ble_eq_true rfl) ?_
  intro p e s m below meth c R args Q A hRm ha hQ hAe hA S hE hr hlk hnm H locs hH0 hL0 ls hl hw
  have S : CallFix p m c cX8_init 4 s args wsX8_init RX8 := S
  have hl : lv_has ls 4 [(0, .ref a), (1, .int nu), (2, .int ski), (3, .int bri)] := hl
  have hz_oi1 := S.2.2.2.2 (.methodLink RX8 1 objectInit) (by decide +kernel)
  have hz_oi2 := S.2.2.2.2 (.instanceMethod objectInit) (by decide +kernel)
  have hz_oi3 := S.2.2.2.2 (.code objectInit ⟨#[0xb1]⟩ 1 none) (by decide +kernel)
  have hinX1 : ∀ w ∈ u_ws RX1 TX1 3, w ∈ wsX8_init := by decide +kernel
  have hf7 := S.2.2.2.2 (.fieldLink RX8 7 "AwakeTurns$Sleeper" "number" "I") (by decide +kernel)
  have hf13 := S.2.2.2.2 (.fieldLink RX8 13 "AwakeTurns$Sleeper" "skillSet" "I") (by decide +kernel)
  have hf16 := S.2.2.2.2 (.fieldLink RX8 16 "AwakeTurns$Sleeper" "bears" "I") (by decide +kernel)
  refine lv_aload_n S.1 S.2.1 dX8_init_0 rfl (lv_at hl 0 rfl) ?_
  refine W.objInit S.1 S.2.1 S.2.2.2.1 hz_oi1 hz_oi2 hz_oi3 rfl (by rw [S.2.2.1]; exact hl.1) rfl dX8_init_1 (by rw [hRm]; exact Nat.le_of_ble_eq_true rfl) (by rw [hRm]; exact Nat.le_of_ble_eq_true rfl) ?_
  refine W.eq (g2 := (F0 m 4 ls [])) rfl ?_
  refine lv_aload_n S.1 S.2.1 dX8_init_4 rfl (lv_at hl 0 rfl) ?_
  refine lv_iload_n S.1 S.2.1 dX8_init_5 rfl (lv_at hl 1 rfl) ?_
  refine aw_putF S hE hw 0 (C := RX1) (T := TX1) (N := 3) rfl rfl hinX1 tyX1 tyX1_ok nmX1 0 (by decide) hf7 rfl hnm rfl rfl rfl (Nat.le_of_ble_eq_true rfl) dX8_init_6 (fun H locs hw => ?_)
  have hw : bW G A s.heap [[(a, .inr (1, [.int nu, .int 0, .int 0]))]] H locs := hw
  refine lv_aload_n S.1 S.2.1 dX8_init_9 rfl (lv_at hl 0 rfl) ?_
  refine lv_iload_n S.1 S.2.1 dX8_init_10 rfl (lv_at hl 2 rfl) ?_
  refine aw_putF S hE hw 0 (C := RX1) (T := TX1) (N := 3) rfl rfl hinX1 tyX1 tyX1_ok nmX1 1 (by decide) hf13 rfl hnm rfl rfl rfl (Nat.le_of_ble_eq_true rfl) dX8_init_11 (fun H locs hw => ?_)
  have hw : bW G A s.heap [[(a, .inr (1, [.int nu, .int ski, .int 0]))]] H locs := hw
  refine lv_aload_n S.1 S.2.1 dX8_init_14 rfl (lv_at hl 0 rfl) ?_
  refine lv_iload_n S.1 S.2.1 dX8_init_15 rfl (lv_at hl 3 rfl) ?_
  refine aw_putF S hE hw 0 (C := RX1) (T := TX1) (N := 3) rfl rfl hinX1 tyX1 tyX1_ok nmX1 2 (by decide) hf16 rfl hnm rfl rfl rfl (Nat.le_of_ble_eq_true rfl) dX8_init_16 (fun H locs hw => ?_)
  have hw : bW G A s.heap [[(a, .inr (1, [.int nu, .int ski, .int bri]))]] H locs := hw
  exact aw_vret S hr hlk ha hQ hAe hw dX8_init_19 (Nat.le_of_ble_eq_true rfl) (Nat.le_of_ble_eq_true rfl) ⟨rfl, rfl⟩
set_option maxRecDepth 100000 in
set_option maxHeartbeats 4000000 in
theorem c_X8_init_X5 (l : Launch) (G : aw_G) (a : Nat) (nu ski bri : Int32)  : CT l G yX8_init wsX8_init ({ frames := 1, cells := 0, slots := 0, locals := 20 }) [.ref a, .int nu, .int ski, .int bri] [[(a, .inr (5, [.int 0, .int 0, .int 0]))]] (dt none [[(a, .inr (5, [.int nu, .int ski, .int bri]))]]) := by
  refine CT.of (cc := cX8_init) (nL := 4) (ret := none) (by decide) rfl (Nat.le_of_ble_eq_true rfl) ?_
  intro p e s m below meth c R args Q A hRm ha hQ hAe hA S hE hr hlk hnm H locs hH0 hL0 ls hl hw
  have S : CallFix p m c cX8_init 4 s args wsX8_init RX8 := S
  have hl : lv_has ls 4 [(0, .ref a), (1, .int nu), (2, .int ski), (3, .int bri)] := hl
  have hz_oi1 := S.2.2.2.2 (.methodLink RX8 1 objectInit) (by decide +kernel)
  have hz_oi2 := S.2.2.2.2 (.instanceMethod objectInit) (by decide +kernel)
  have hz_oi3 := S.2.2.2.2 (.code objectInit ⟨#[0xb1]⟩ 1 none) (by decide +kernel)
  have hinX5 : ∀ w ∈ u_ws RX5 TX5 3, w ∈ wsX8_init := by decide +kernel
  have hf7 := S.2.2.2.2 (.fieldLink RX8 7 "AwakeTurns$Sleeper" "number" "I") (by decide +kernel)
  have hf13 := S.2.2.2.2 (.fieldLink RX8 13 "AwakeTurns$Sleeper" "skillSet" "I") (by decide +kernel)
  have hf16 := S.2.2.2.2 (.fieldLink RX8 16 "AwakeTurns$Sleeper" "bears" "I") (by decide +kernel)
  refine lv_aload_n S.1 S.2.1 dX8_init_0 rfl (lv_at hl 0 rfl) ?_
  refine W.objInit S.1 S.2.1 S.2.2.2.1 hz_oi1 hz_oi2 hz_oi3 rfl (by rw [S.2.2.1]; exact hl.1) rfl dX8_init_1 (by rw [hRm]; exact Nat.le_of_ble_eq_true rfl) (by rw [hRm]; exact Nat.le_of_ble_eq_true rfl) ?_
  refine W.eq (g2 := (F0 m 4 ls [])) rfl ?_
  refine lv_aload_n S.1 S.2.1 dX8_init_4 rfl (lv_at hl 0 rfl) ?_
  refine lv_iload_n S.1 S.2.1 dX8_init_5 rfl (lv_at hl 1 rfl) ?_
  refine aw_putF S hE hw 0 (C := RX5) (T := TX5) (N := 3) rfl rfl hinX5 tyX5 tyX5_ok nmX5 0 (by decide) hf7 rfl hnm rfl rfl rfl (Nat.le_of_ble_eq_true rfl) dX8_init_6 (fun H locs hw => ?_)
  have hw : bW G A s.heap [[(a, .inr (5, [.int nu, .int 0, .int 0]))]] H locs := hw
  refine lv_aload_n S.1 S.2.1 dX8_init_9 rfl (lv_at hl 0 rfl) ?_
  refine lv_iload_n S.1 S.2.1 dX8_init_10 rfl (lv_at hl 2 rfl) ?_
  refine aw_putF S hE hw 0 (C := RX5) (T := TX5) (N := 3) rfl rfl hinX5 tyX5 tyX5_ok nmX5 1 (by decide) hf13 rfl hnm rfl rfl rfl (Nat.le_of_ble_eq_true rfl) dX8_init_11 (fun H locs hw => ?_)
  have hw : bW G A s.heap [[(a, .inr (5, [.int nu, .int ski, .int 0]))]] H locs := hw
  refine lv_aload_n S.1 S.2.1 dX8_init_14 rfl (lv_at hl 0 rfl) ?_
  refine lv_iload_n S.1 S.2.1 dX8_init_15 rfl (lv_at hl 3 rfl) ?_
  refine aw_putF S hE hw 0 (C := RX5) (T := TX5) (N := 3) rfl rfl hinX5 tyX5 tyX5_ok nmX5 2 (by decide) hf16 rfl hnm rfl rfl rfl (Nat.le_of_ble_eq_true rfl) dX8_init_16 (fun H locs hw => ?_)
  have hw : bW G A s.heap [[(a, .inr (5, [.int nu, .int ski, .int bri]))]] H locs := hw
  exact aw_vret S hr hlk ha hQ hAe hw dX8_init_19 (Nat.le_of_ble_eq_true rfl) (Nat.le_of_ble_eq_true rfl) ⟨rfl, rfl⟩
set_option maxRecDepth 100000 in
set_option maxHeartbeats 4000000 in
theorem c_X1_init_X1 (l : Launch) (G : aw_G) (a : Nat) (nu ski bri : Int32)  : CT l G yX1_init wsX1_init ({ frames := 2, cells := 0, slots := 0, locals := 43 }) [.ref a, .int nu, .int ski, .int bri] [[(a, .inr (1, [.int 0, .int 0, .int 0]))]] (dt none [[(a, .inr (1, [.int nu, .int ski, .int bri]))]]) := by
  refine CT.of (cc := cX1_init) (nL := 4) (ret := none) (by decide) rfl (Nat.le_of_ble_eq_true rfl) ?_
  intro p e s m below meth c R args Q A hRm ha hQ hAe hA S hE hr hlk hnm H locs hH0 hL0 ls hl hw
  have S : CallFix p m c cX1_init 4 s args wsX1_init RX1 := S
  have hl : lv_has ls 4 [(0, .ref a), (1, .int nu), (2, .int ski), (3, .int bri)] := hl
  have hz_ini_X8_init := S.2.2.2.2 (.initialized RX8) (by decide +kernel)
  have hz_im_X8_init := S.2.2.2.2 (.instanceMethod yX8_init) (by decide +kernel)
  have hz_lk1 := S.2.2.2.2 (.methodLink RX1 1 yX8_init) (by decide +kernel)
  refine lv_aload_n S.1 S.2.1 dX1_init_0 rfl (lv_at hl 0 rfl) ?_
  refine lv_iload_n S.1 S.2.1 dX1_init_1 rfl (lv_at hl 1 rfl) ?_
  refine lv_iload_n S.1 S.2.1 dX1_init_2 rfl (lv_at hl 2 rfl) ?_
  refine lv_iload_n S.1 S.2.1 dX1_init_3 rfl (lv_at hl 3 rfl) ?_
  refine aw_callI (n := 3) S hE (c_X8_init_X1 l G a nu ski bri) gX1_init_X8_init rfl hz_ini_X8_init hz_lk1 hz_im_X8_init rfl (by decide +kernel) rfl (by rw [hRm]; exact ⟨Nat.le_of_ble_eq_true rfl, Nat.le_of_ble_eq_true rfl⟩) (by rw [hRm]; exact ⟨Nat.le_of_ble_eq_true rfl, Nat.le_of_ble_eq_true rfl⟩) hw hA hl.1 [0] rfl rfl rfl (Nat.le_of_ble_eq_true rfl) dX1_init_4 ?_
  rintro v w1 H locs ⟨rfl, rfl⟩ hw
  have hw : bW G A s.heap [[(a, .inr (1, [.int nu, .int ski, .int bri]))]] H locs := hw
  refine W.eq (g2 := (F0 m 7 ls [])) rfl ?_
  exact aw_vret S hr hlk ha hQ hAe hw dX1_init_7 (Nat.le_of_ble_eq_true rfl) (Nat.le_of_ble_eq_true rfl) ⟨rfl, rfl⟩
set_option maxRecDepth 100000 in
set_option maxHeartbeats 4000000 in
theorem c_X1_init_X5 (l : Launch) (G : aw_G) (a : Nat) (nu ski bri : Int32)  : CT l G yX1_init wsX1_init ({ frames := 2, cells := 0, slots := 0, locals := 43 }) [.ref a, .int nu, .int ski, .int bri] [[(a, .inr (5, [.int 0, .int 0, .int 0]))]] (dt none [[(a, .inr (5, [.int nu, .int ski, .int bri]))]]) := by
  refine CT.of (cc := cX1_init) (nL := 4) (ret := none) (by decide) rfl (Nat.le_of_ble_eq_true rfl) ?_
  intro p e s m below meth c R args Q A hRm ha hQ hAe hA S hE hr hlk hnm H locs hH0 hL0 ls hl hw
  have S : CallFix p m c cX1_init 4 s args wsX1_init RX1 := S
  have hl : lv_has ls 4 [(0, .ref a), (1, .int nu), (2, .int ski), (3, .int bri)] := hl
  have hz_ini_X8_init := S.2.2.2.2 (.initialized RX8) (by decide +kernel)
  have hz_im_X8_init := S.2.2.2.2 (.instanceMethod yX8_init) (by decide +kernel)
  have hz_lk1 := S.2.2.2.2 (.methodLink RX1 1 yX8_init) (by decide +kernel)
  refine lv_aload_n S.1 S.2.1 dX1_init_0 rfl (lv_at hl 0 rfl) ?_
  refine lv_iload_n S.1 S.2.1 dX1_init_1 rfl (lv_at hl 1 rfl) ?_
  refine lv_iload_n S.1 S.2.1 dX1_init_2 rfl (lv_at hl 2 rfl) ?_
  refine lv_iload_n S.1 S.2.1 dX1_init_3 rfl (lv_at hl 3 rfl) ?_
  refine aw_callI (n := 3) S hE (c_X8_init_X5 l G a nu ski bri) gX1_init_X8_init rfl hz_ini_X8_init hz_lk1 hz_im_X8_init rfl (by decide +kernel) rfl (by rw [hRm]; exact ⟨Nat.le_of_ble_eq_true rfl, Nat.le_of_ble_eq_true rfl⟩) (by rw [hRm]; exact ⟨Nat.le_of_ble_eq_true rfl, Nat.le_of_ble_eq_true rfl⟩) hw hA hl.1 [0] rfl rfl rfl (Nat.le_of_ble_eq_true rfl) dX1_init_4 ?_
  rintro v w1 H locs ⟨rfl, rfl⟩ hw
  have hw : bW G A s.heap [[(a, .inr (5, [.int nu, .int ski, .int bri]))]] H locs := hw
  refine W.eq (g2 := (F0 m 7 ls [])) rfl ?_
  exact aw_vret S hr hlk ha hQ hAe hw dX1_init_7 (Nat.le_of_ble_eq_true rfl) (Nat.le_of_ble_eq_true rfl) ⟨rfl, rfl⟩
set_option maxRecDepth 100000 in
set_option maxHeartbeats 4000000 in
theorem c_X5_init (l : Launch) (G : aw_G) (a : Nat) (nu ski bri : Int32)  : CT l G yX5_init wsX5_init ({ frames := 3, cells := 0, slots := 0, locals := 66 }) [.ref a, .int nu, .int ski, .int bri] [[(a, .inr (5, [.int 0, .int 0, .int 0]))]] (dt none [[(a, .inr (5, [.int nu, .int ski, .int bri]))]]) := by
  refine CT.of (cc := cX5_init) (nL := 4) (ret := none) (by decide) rfl (Nat.le_of_ble_eq_true rfl) ?_
  intro p e s m below meth c R args Q A hRm ha hQ hAe hA S hE hr hlk hnm H locs hH0 hL0 ls hl hw
  have S : CallFix p m c cX5_init 4 s args wsX5_init RX5 := S
  have hl : lv_has ls 4 [(0, .ref a), (1, .int nu), (2, .int ski), (3, .int bri)] := hl
  have hz_ini_X1_init := S.2.2.2.2 (.initialized RX1) (by decide +kernel)
  have hz_im_X1_init := S.2.2.2.2 (.instanceMethod yX1_init) (by decide +kernel)
  have hz_lk1 := S.2.2.2.2 (.methodLink RX5 1 yX1_init) (by decide +kernel)
  refine lv_aload_n S.1 S.2.1 dX5_init_0 rfl (lv_at hl 0 rfl) ?_
  refine lv_iload_n S.1 S.2.1 dX5_init_1 rfl (lv_at hl 1 rfl) ?_
  refine lv_iload_n S.1 S.2.1 dX5_init_2 rfl (lv_at hl 2 rfl) ?_
  refine lv_iload_n S.1 S.2.1 dX5_init_3 rfl (lv_at hl 3 rfl) ?_
  refine aw_callI (n := 3) S hE (c_X1_init_X5 l G a nu ski bri) gX5_init_X1_init rfl hz_ini_X1_init hz_lk1 hz_im_X1_init rfl (by decide +kernel) rfl (by rw [hRm]; exact ⟨Nat.le_of_ble_eq_true rfl, Nat.le_of_ble_eq_true rfl⟩) (by rw [hRm]; exact ⟨Nat.le_of_ble_eq_true rfl, Nat.le_of_ble_eq_true rfl⟩) hw hA hl.1 [0] rfl rfl rfl (Nat.le_of_ble_eq_true rfl) dX5_init_4 ?_
  rintro v w1 H locs ⟨rfl, rfl⟩ hw
  have hw : bW G A s.heap [[(a, .inr (5, [.int nu, .int ski, .int bri]))]] H locs := hw
  refine W.eq (g2 := (F0 m 7 ls [])) rfl ?_
  exact aw_vret S hr hlk ha hQ hAe hw dX5_init_7 (Nat.le_of_ble_eq_true rfl) (Nat.le_of_ble_eq_true rfl) ⟨rfl, rfl⟩
set_option maxRecDepth 100000 in
set_option maxHeartbeats 4000000 in
theorem c_X9_sleeper (l : Launch) (G : aw_G) (nu lt cs_ cb : Int32)  : CT l G yX9_sleeper wsX9_sleeper ({ frames := 4, cells := 1, slots := 3, locals := 89 }) [.int nu, .int lt, .int cs_, .int cb] [] (fun v w => ∃ a : Nat, v = some (.ref a) ∧ w = [[(a, .inr (kcT lt, [.int nu, .int (cs_ - 48), .int (cb - 48)]))]]) := by
  refine CT.of (cc := cX9_sleeper) (nL := 6) (ret := (some (.object "AwakeTurns$Sleeper"))) (by decide) rfl (Nat.le_of_ble_eq_true rfl) ?_
  intro p e s m below meth c R args Q A hRm ha hQ hAe hA S hE hr hlk hnm H locs hH0 hL0 ls hl hw
  have S : CallFix p m c cX9_sleeper 6 s args wsX9_sleeper RX9 := S
  have hl : lv_has ls 6 [(0, .int nu), (1, .int lt), (2, .int cs_), (3, .int cb)] := hl
  have hinX1 : ∀ w ∈ u_ws RX1 TX1 3, w ∈ wsX9_sleeper := by decide +kernel
  have hz_cl15 := S.2.2.2.2 (.classLink RX9 15 RX1) (by decide +kernel)
  have hz_in_X1 := S.2.2.2.2 (.instantiable RX1 3) (by decide +kernel)
  have hz_ini_X1 := S.2.2.2.2 (.initialized RX1) (by decide +kernel)
  have hz_ini_X1_init := S.2.2.2.2 (.initialized RX1) (by decide +kernel)
  have hz_im_X1_init := S.2.2.2.2 (.instanceMethod yX1_init) (by decide +kernel)
  have hz_lk17 := S.2.2.2.2 (.methodLink RX9 17 yX1_init) (by decide +kernel)
  have hinX5 : ∀ w ∈ u_ws RX5 TX5 3, w ∈ wsX9_sleeper := by decide +kernel
  have hz_cl20 := S.2.2.2.2 (.classLink RX9 20 RX5) (by decide +kernel)
  have hz_in_X5 := S.2.2.2.2 (.instantiable RX5 3) (by decide +kernel)
  have hz_ini_X5 := S.2.2.2.2 (.initialized RX5) (by decide +kernel)
  have hz_ini_X5_init := S.2.2.2.2 (.initialized RX5) (by decide +kernel)
  have hz_im_X5_init := S.2.2.2.2 (.instanceMethod yX5_init) (by decide +kernel)
  have hz_lk22 := S.2.2.2.2 (.methodLink RX9 22 yX5_init) (by decide +kernel)
  have hinX8 : ∀ w ∈ u_ws RX8 TX8 3, w ∈ wsX9_sleeper := by decide +kernel
  have hz_cl23 := S.2.2.2.2 (.classLink RX9 23 RX8) (by decide +kernel)
  have hz_in_X8 := S.2.2.2.2 (.instantiable RX8 3) (by decide +kernel)
  have hz_ini_X8 := S.2.2.2.2 (.initialized RX8) (by decide +kernel)
  have hz_ini_X8_init := S.2.2.2.2 (.initialized RX8) (by decide +kernel)
  have hz_im_X8_init := S.2.2.2.2 (.instanceMethod yX8_init) (by decide +kernel)
  have hz_lk25 := S.2.2.2.2 (.methodLink RX9 25 yX8_init) (by decide +kernel)
  refine lv_iload_n S.1 S.2.1 dX9_sleeper_0 rfl (lv_at hl 2 rfl) ?_
  refine lv_bipush (v := 48) S.1 S.2.1 dX9_sleeper_1 (by decide) ?_
  refine lv_isub S.1 S.2.1 dX9_sleeper_3 ?_
  refine lv_istore (lv' := [(4, .int (cs_ - 48)), (0, .int nu), (1, .int lt), (2, .int cs_), (3, .int cb)]) S.1 S.2.1 dX9_sleeper_4 hl (by decide) rfl (fun ls hl => ?_)
  refine lv_iload_n S.1 S.2.1 dX9_sleeper_6 rfl (lv_at hl 4 rfl) ?_
  refine lv_bipush (v := 48) S.1 S.2.1 dX9_sleeper_7 (by decide) ?_
  refine lv_isub S.1 S.2.1 dX9_sleeper_9 ?_
  refine lv_istore (lv' := [(5, .int (cb - 48)), (4, .int (cs_ - 48)), (0, .int nu), (1, .int lt), (2, .int cs_), (3, .int cb)]) S.1 S.2.1 dX9_sleeper_10 hl (by decide) rfl (fun ls hl => ?_)
  refine lv_iload_n S.1 S.2.1 dX9_sleeper_12 rfl (lv_at hl 3 rfl) ?_
  by_cases c13_0 : lt = 102
  · refine lv_lookup (off := 27) (tgt := 40) S.1 S.2.1 dX9_sleeper_13 (by decide) (by rw [c13_0]; rfl) (by decide) ?_
    refine aw_new S hE hw hA (ci := 1) (C := RX1) (T := TX1) (N := 3) (fs := [.int 0, .int 0, .int 0]) rfl hinX1 tyX1 tyX1_ok hz_cl15 hz_in_X1 hz_ini_X1 (fun j hj => by rcases (show j = 0 ∨ j = 1 ∨ j = 2 by omega) with rfl | rfl | rfl <;> rfl) (by rw [hRm]; exact Nat.le_of_ble_eq_true rfl) (by rw [hRm]; exact Nat.le_of_ble_eq_true rfl) dX9_sleeper_40 (fun q40 H hw => ?_)
    have hw : bW G A s.heap [[(q40, .inr (1, [.int 0, .int 0, .int 0]))]] H locs := hw
    refine lv_dup S.1 S.2.1 dX9_sleeper_43 rfl ?_
    refine lv_iload_n S.1 S.2.1 dX9_sleeper_44 rfl (lv_at hl 2 rfl) ?_
    refine lv_iload S.1 S.2.1 dX9_sleeper_45 (lv_at hl 1 rfl) ?_
    refine lv_iload S.1 S.2.1 dX9_sleeper_47 (lv_at hl 0 rfl) ?_
    refine aw_callI (n := 3) S hE (c_X1_init_X1 l G q40 nu (cs_ - 48) (cb - 48)) gX9_sleeper_X1_init rfl hz_ini_X1_init hz_lk17 hz_im_X1_init rfl (by decide +kernel) rfl (by rw [hRm]; exact ⟨Nat.le_of_ble_eq_true rfl, Nat.le_of_ble_eq_true rfl⟩) (by rw [hRm]; exact ⟨Nat.le_of_ble_eq_true rfl, Nat.le_of_ble_eq_true rfl⟩) hw hA hl.1 [0] rfl rfl rfl (Nat.le_of_ble_eq_true rfl) dX9_sleeper_49 ?_
    rintro v w1 H locs ⟨rfl, rfl⟩ hw
    have hw : bW G A s.heap [[(q40, .inr (1, [.int nu, .int (cs_ - 48), .int (cb - 48)]))]] H locs := hw
    refine W.eq (g2 := (F0 m 52 ls [.ref q40])) rfl ?_
    exact aw_aret S hr hlk ha hQ hAe hw dX9_sleeper_52 (Or.inl ⟨_, rfl⟩) (Or.inr ⟨_, rfl⟩) (Nat.le_of_ble_eq_true rfl) (Nat.le_of_ble_eq_true rfl) ⟨q40, rfl, by simp [kcT, c13_0]⟩
  · by_cases c13_1 : lt = 111
    · refine lv_lookup (off := 40) (tgt := 53) S.1 S.2.1 dX9_sleeper_13 (by decide) (by rw [c13_1]; rfl) (by decide) ?_
      refine aw_new S hE hw hA (ci := 5) (C := RX5) (T := TX5) (N := 3) (fs := [.int 0, .int 0, .int 0]) rfl hinX5 tyX5 tyX5_ok hz_cl20 hz_in_X5 hz_ini_X5 (fun j hj => by rcases (show j = 0 ∨ j = 1 ∨ j = 2 by omega) with rfl | rfl | rfl <;> rfl) (by rw [hRm]; exact Nat.le_of_ble_eq_true rfl) (by rw [hRm]; exact Nat.le_of_ble_eq_true rfl) dX9_sleeper_53 (fun q53 H hw => ?_)
      have hw : bW G A s.heap [[(q53, .inr (5, [.int 0, .int 0, .int 0]))]] H locs := hw
      refine lv_dup S.1 S.2.1 dX9_sleeper_56 rfl ?_
      refine lv_iload_n S.1 S.2.1 dX9_sleeper_57 rfl (lv_at hl 2 rfl) ?_
      refine lv_iload S.1 S.2.1 dX9_sleeper_58 (lv_at hl 1 rfl) ?_
      refine lv_iload S.1 S.2.1 dX9_sleeper_60 (lv_at hl 0 rfl) ?_
      refine aw_callI (n := 3) S hE (c_X5_init l G q53 nu (cs_ - 48) (cb - 48)) gX9_sleeper_X5_init rfl hz_ini_X5_init hz_lk22 hz_im_X5_init rfl (by decide +kernel) rfl (by rw [hRm]; exact ⟨Nat.le_of_ble_eq_true rfl, Nat.le_of_ble_eq_true rfl⟩) (by rw [hRm]; exact ⟨Nat.le_of_ble_eq_true rfl, Nat.le_of_ble_eq_true rfl⟩) hw hA hl.1 [0] rfl rfl rfl (Nat.le_of_ble_eq_true rfl) dX9_sleeper_62 ?_
      rintro v w1 H locs ⟨rfl, rfl⟩ hw
      have hw : bW G A s.heap [[(q53, .inr (5, [.int nu, .int (cs_ - 48), .int (cb - 48)]))]] H locs := hw
      refine W.eq (g2 := (F0 m 65 ls [.ref q53])) rfl ?_
      exact aw_aret S hr hlk ha hQ hAe hw dX9_sleeper_65 (Or.inl ⟨_, rfl⟩) (Or.inr ⟨_, rfl⟩) (Nat.le_of_ble_eq_true rfl) (Nat.le_of_ble_eq_true rfl) ⟨q53, rfl, by simp [kcT, c13_0, c13_1]⟩
    · refine lv_lookup (off := 53) (tgt := 66) S.1 S.2.1 dX9_sleeper_13 (by decide) ((lv_osw (k := 102) c13_0 rfl).trans ((lv_osw (k := 111) c13_1 rfl).trans rfl)) (by decide) ?_
      refine aw_new S hE hw hA (ci := 8) (C := RX8) (T := TX8) (N := 3) (fs := [.int 0, .int 0, .int 0]) rfl hinX8 tyX8 tyX8_ok hz_cl23 hz_in_X8 hz_ini_X8 (fun j hj => by rcases (show j = 0 ∨ j = 1 ∨ j = 2 by omega) with rfl | rfl | rfl <;> rfl) (by rw [hRm]; exact Nat.le_of_ble_eq_true rfl) (by rw [hRm]; exact Nat.le_of_ble_eq_true rfl) dX9_sleeper_66 (fun q66 H hw => ?_)
      have hw : bW G A s.heap [[(q66, .inr (8, [.int 0, .int 0, .int 0]))]] H locs := hw
      refine lv_dup S.1 S.2.1 dX9_sleeper_69 rfl ?_
      refine lv_iload_n S.1 S.2.1 dX9_sleeper_70 rfl (lv_at hl 2 rfl) ?_
      refine lv_iload S.1 S.2.1 dX9_sleeper_71 (lv_at hl 1 rfl) ?_
      refine lv_iload S.1 S.2.1 dX9_sleeper_73 (lv_at hl 0 rfl) ?_
      refine aw_callI (n := 3) S hE (c_X8_init_X8 l G q66 nu (cs_ - 48) (cb - 48)) gX9_sleeper_X8_init rfl hz_ini_X8_init hz_lk25 hz_im_X8_init rfl (by decide +kernel) rfl (by rw [hRm]; exact ⟨Nat.le_of_ble_eq_true rfl, Nat.le_of_ble_eq_true rfl⟩) (by rw [hRm]; exact ⟨Nat.le_of_ble_eq_true rfl, Nat.le_of_ble_eq_true rfl⟩) hw hA hl.1 [0] rfl rfl rfl (Nat.le_of_ble_eq_true rfl) dX9_sleeper_75 ?_
      rintro v w1 H locs ⟨rfl, rfl⟩ hw
      have hw : bW G A s.heap [[(q66, .inr (8, [.int nu, .int (cs_ - 48), .int (cb - 48)]))]] H locs := hw
      refine W.eq (g2 := (F0 m 78 ls [.ref q66])) rfl ?_
      exact aw_aret S hr hlk ha hQ hAe hw dX9_sleeper_78 (Or.inl ⟨_, rfl⟩) (Or.inr ⟨_, rfl⟩) (Nat.le_of_ble_eq_true rfl) (Nat.le_of_ble_eq_true rfl) ⟨q66, rfl, by simp [kcT, c13_0, c13_1]⟩
set_option maxRecDepth 100000 in
set_option maxHeartbeats 4000000 in
theorem c_X8_plainTelling_X8 (l : Launch) (G : aw_G) (a : Nat) (nu ski bri : Int32) (ad : Nat → Nat) (tr : Int32)  : CT l G yX8_plainTelling wsX8_plainTelling ({ frames := 1, cells := 0, slots := 0, locals := 21 }) [.ref a, .ref (ad 6)] [[(a, .inr (8, [.int nu, .int ski, .int bri]))], [(ad 6, .inr (2, [.int tr]))]] (dt (some (.int bri)) [[(a, .inr (8, [.int nu, .int ski, .int bri]))], [(ad 6, .inr (2, [.int (31 * tr + 1)]))]]) := by
  refine CT.of (cc := cX8_plainTelling) (nL := 2) (ret := (some .int)) (by decide) rfl (Nat.le_of_ble_eq_true rfl) ?_
  intro p e s m below meth c R args Q A hRm ha hQ hAe hA S hE hr hlk hnm H locs hH0 hL0 ls hl hw
  have S : CallFix p m c cX8_plainTelling 2 s args wsX8_plainTelling RX8 := S
  have hl : lv_has ls 2 [(0, .ref a), (1, .ref (ad 6))] := hl
  have hinX8 : ∀ w ∈ u_ws RX8 TX8 3, w ∈ wsX8_plainTelling := by decide +kernel
  have hf16 := S.2.2.2.2 (.fieldLink RX8 16 "AwakeTurns$Sleeper" "bears" "I") (by decide +kernel)
  refine lv_aload_n S.1 S.2.1 dX8_plainTelling_0 rfl (lv_at hl 1 rfl) ?_
  refine lv_iconst (v := 1) S.1 S.2.1 dX8_plainTelling_1 (by decide) ?_
  refine aw_callV S hE (c_X2_leave l G ad tr 1) gX8_plainTelling_X2_leave (n := 1) rfl (by decide +kernel) rfl (by rw [hRm]; exact ⟨Nat.le_of_ble_eq_true rfl, Nat.le_of_ble_eq_true rfl⟩) (by rw [hRm]; exact ⟨Nat.le_of_ble_eq_true rfl, Nat.le_of_ble_eq_true rfl⟩) hw hA hl.1 [1] rfl rfl (aw_recv (i := 1) hE hw rfl rfl rfl) rfl (Nat.le_of_ble_eq_true rfl) dX8_plainTelling_2 ?_
  rintro v w1 H locs ⟨rfl, rfl⟩ hw
  have hw : bW G A s.heap [[(a, .inr (8, [.int nu, .int ski, .int bri]))], [(ad 6, .inr (2, [.int (31 * tr + 1)]))]] H locs := hw
  refine W.eq (g2 := (F0 m 5 ls [])) rfl ?_
  refine lv_aload_n S.1 S.2.1 dX8_plainTelling_5 rfl (lv_at hl 0 rfl) ?_
  refine aw_get S hE hw 0 (C := RX8) (T := TX8) (N := 3) rfl rfl hinX8 2 (by decide) hf16 rfl dX8_plainTelling_6 ?_
  exact aw_iret S hr hlk ha hQ hAe hw dX8_plainTelling_9 rfl (Nat.le_of_ble_eq_true rfl) (Nat.le_of_ble_eq_true rfl) ⟨rfl, rfl⟩
set_option maxRecDepth 100000 in
set_option maxHeartbeats 4000000 in
theorem c_X8_telling_X8 (l : Launch) (G : aw_G) (a : Nat) (nu ski bri : Int32) (ad : Nat → Nat) (tr : Int32)  : CT l G yX8_telling wsX8_telling ({ frames := 2, cells := 0, slots := 0, locals := 42 }) [.ref a, .ref (ad 6)] [[(a, .inr (8, [.int nu, .int ski, .int bri]))], [(ad 6, .inr (2, [.int tr]))]] (dt (some (.int bri)) [[(a, .inr (8, [.int nu, .int ski, .int bri]))], [(ad 6, .inr (2, [.int (31 * tr + 1)]))]]) := by
  refine CT.of (cc := cX8_telling) (nL := 2) (ret := (some .int)) (by decide) rfl (Nat.le_of_ble_eq_true rfl) ?_
  intro p e s m below meth c R args Q A hRm ha hQ hAe hA S hE hr hlk hnm H locs hH0 hL0 ls hl hw
  have S : CallFix p m c cX8_telling 2 s args wsX8_telling RX8 := S
  have hl : lv_has ls 2 [(0, .ref a), (1, .ref (ad 6))] := hl
  refine lv_aload_n S.1 S.2.1 dX8_telling_0 rfl (lv_at hl 0 rfl) ?_
  refine lv_aload_n S.1 S.2.1 dX8_telling_1 rfl (lv_at hl 1 rfl) ?_
  refine aw_callV S hE (c_X8_plainTelling_X8 l G a nu ski bri ad tr) gX8_telling_X8_plainTelling (n := 1) rfl (by decide +kernel) rfl (by rw [hRm]; exact ⟨Nat.le_of_ble_eq_true rfl, Nat.le_of_ble_eq_true rfl⟩) (by rw [hRm]; exact ⟨Nat.le_of_ble_eq_true rfl, Nat.le_of_ble_eq_true rfl⟩) hw hA hl.1 [0, 1] rfl rfl (aw_recv (i := 0) hE hw rfl rfl rfl) rfl (Nat.le_of_ble_eq_true rfl) dX8_telling_2 ?_
  rintro v w1 H locs ⟨rfl, rfl⟩ hw
  have hw : bW G A s.heap [[(a, .inr (8, [.int nu, .int ski, .int bri]))], [(ad 6, .inr (2, [.int (31 * tr + 1)]))]] H locs := hw
  refine W.eq (g2 := (F0 m 5 ls [.int bri])) rfl ?_
  exact aw_iret S hr hlk ha hQ hAe hw dX8_telling_5 rfl (Nat.le_of_ble_eq_true rfl) (Nat.le_of_ble_eq_true rfl) ⟨rfl, rfl⟩
set_option maxRecDepth 100000 in
set_option maxHeartbeats 4000000 in
theorem c_X8_plainTelling_X1 (l : Launch) (G : aw_G) (a : Nat) (nu ski bri : Int32) (ad : Nat → Nat) (tr : Int32)  : CT l G yX8_plainTelling wsX8_plainTelling ({ frames := 1, cells := 0, slots := 0, locals := 21 }) [.ref a, .ref (ad 6)] [[(a, .inr (1, [.int nu, .int ski, .int bri]))], [(ad 6, .inr (2, [.int tr]))]] (dt (some (.int bri)) [[(a, .inr (1, [.int nu, .int ski, .int bri]))], [(ad 6, .inr (2, [.int (31 * tr + 1)]))]]) := by
  refine CT.of (cc := cX8_plainTelling) (nL := 2) (ret := (some .int)) (by decide) rfl (Nat.le_of_ble_eq_true rfl) ?_
  intro p e s m below meth c R args Q A hRm ha hQ hAe hA S hE hr hlk hnm H locs hH0 hL0 ls hl hw
  have S : CallFix p m c cX8_plainTelling 2 s args wsX8_plainTelling RX8 := S
  have hl : lv_has ls 2 [(0, .ref a), (1, .ref (ad 6))] := hl
  have hinX1 : ∀ w ∈ u_ws RX1 TX1 3, w ∈ wsX8_plainTelling := by decide +kernel
  have hf16 := S.2.2.2.2 (.fieldLink RX8 16 "AwakeTurns$Sleeper" "bears" "I") (by decide +kernel)
  refine lv_aload_n S.1 S.2.1 dX8_plainTelling_0 rfl (lv_at hl 1 rfl) ?_
  refine lv_iconst (v := 1) S.1 S.2.1 dX8_plainTelling_1 (by decide) ?_
  refine aw_callV S hE (c_X2_leave l G ad tr 1) gX8_plainTelling_X2_leave (n := 1) rfl (by decide +kernel) rfl (by rw [hRm]; exact ⟨Nat.le_of_ble_eq_true rfl, Nat.le_of_ble_eq_true rfl⟩) (by rw [hRm]; exact ⟨Nat.le_of_ble_eq_true rfl, Nat.le_of_ble_eq_true rfl⟩) hw hA hl.1 [1] rfl rfl (aw_recv (i := 1) hE hw rfl rfl rfl) rfl (Nat.le_of_ble_eq_true rfl) dX8_plainTelling_2 ?_
  rintro v w1 H locs ⟨rfl, rfl⟩ hw
  have hw : bW G A s.heap [[(a, .inr (1, [.int nu, .int ski, .int bri]))], [(ad 6, .inr (2, [.int (31 * tr + 1)]))]] H locs := hw
  refine W.eq (g2 := (F0 m 5 ls [])) rfl ?_
  refine lv_aload_n S.1 S.2.1 dX8_plainTelling_5 rfl (lv_at hl 0 rfl) ?_
  refine aw_get S hE hw 0 (C := RX1) (T := TX1) (N := 3) rfl rfl hinX1 2 (by decide) hf16 rfl dX8_plainTelling_6 ?_
  exact aw_iret S hr hlk ha hQ hAe hw dX8_plainTelling_9 rfl (Nat.le_of_ble_eq_true rfl) (Nat.le_of_ble_eq_true rfl) ⟨rfl, rfl⟩
set_option maxRecDepth 100000 in
set_option maxHeartbeats 4000000 in
theorem c_X8_telling_X1 (l : Launch) (G : aw_G) (a : Nat) (nu ski bri : Int32) (ad : Nat → Nat) (tr : Int32)  : CT l G yX8_telling wsX8_telling ({ frames := 2, cells := 0, slots := 0, locals := 42 }) [.ref a, .ref (ad 6)] [[(a, .inr (1, [.int nu, .int ski, .int bri]))], [(ad 6, .inr (2, [.int tr]))]] (dt (some (.int bri)) [[(a, .inr (1, [.int nu, .int ski, .int bri]))], [(ad 6, .inr (2, [.int (31 * tr + 1)]))]]) := by
  refine CT.of (cc := cX8_telling) (nL := 2) (ret := (some .int)) (by decide) rfl (Nat.le_of_ble_eq_true rfl) ?_
  intro p e s m below meth c R args Q A hRm ha hQ hAe hA S hE hr hlk hnm H locs hH0 hL0 ls hl hw
  have S : CallFix p m c cX8_telling 2 s args wsX8_telling RX8 := S
  have hl : lv_has ls 2 [(0, .ref a), (1, .ref (ad 6))] := hl
  refine lv_aload_n S.1 S.2.1 dX8_telling_0 rfl (lv_at hl 0 rfl) ?_
  refine lv_aload_n S.1 S.2.1 dX8_telling_1 rfl (lv_at hl 1 rfl) ?_
  refine aw_callW (n := 1) S hE (c_X8_plainTelling_X1 l G a nu ski bri ad tr) gX8_telling_X8_plainTelling_u19X1 rfl rfl (by decide +kernel) rfl (by rw [hRm]; exact ⟨Nat.le_of_ble_eq_true rfl, Nat.le_of_ble_eq_true rfl⟩) (by rw [hRm]; exact ⟨Nat.le_of_ble_eq_true rfl, Nat.le_of_ble_eq_true rfl⟩) hw hA hl.1 [0, 1] rfl rfl (aw_recv (i := 0) hE hw rfl rfl rfl) rfl (Nat.le_of_ble_eq_true rfl) dX8_telling_2 ?_
  rintro v w1 H locs ⟨rfl, rfl⟩ hw
  have hw : bW G A s.heap [[(a, .inr (1, [.int nu, .int ski, .int bri]))], [(ad 6, .inr (2, [.int (31 * tr + 1)]))]] H locs := hw
  refine W.eq (g2 := (F0 m 5 ls [.int bri])) rfl ?_
  exact aw_iret S hr hlk ha hQ hAe hw dX8_telling_5 rfl (Nat.le_of_ble_eq_true rfl) (Nat.le_of_ble_eq_true rfl) ⟨rfl, rfl⟩
set_option maxRecDepth 100000 in
set_option maxHeartbeats 4000000 in
theorem c_X8_plainTelling_X5 (l : Launch) (G : aw_G) (a : Nat) (nu ski bri : Int32) (ad : Nat → Nat) (tr : Int32)  : CT l G yX8_plainTelling wsX8_plainTelling ({ frames := 1, cells := 0, slots := 0, locals := 21 }) [.ref a, .ref (ad 6)] [[(a, .inr (5, [.int nu, .int ski, .int bri]))], [(ad 6, .inr (2, [.int tr]))]] (dt (some (.int bri)) [[(a, .inr (5, [.int nu, .int ski, .int bri]))], [(ad 6, .inr (2, [.int (31 * tr + 1)]))]]) := by
  refine CT.of (cc := cX8_plainTelling) (nL := 2) (ret := (some .int)) (by decide) rfl (Nat.le_of_ble_eq_true rfl) ?_
  intro p e s m below meth c R args Q A hRm ha hQ hAe hA S hE hr hlk hnm H locs hH0 hL0 ls hl hw
  have S : CallFix p m c cX8_plainTelling 2 s args wsX8_plainTelling RX8 := S
  have hl : lv_has ls 2 [(0, .ref a), (1, .ref (ad 6))] := hl
  have hinX5 : ∀ w ∈ u_ws RX5 TX5 3, w ∈ wsX8_plainTelling := by decide +kernel
  have hf16 := S.2.2.2.2 (.fieldLink RX8 16 "AwakeTurns$Sleeper" "bears" "I") (by decide +kernel)
  refine lv_aload_n S.1 S.2.1 dX8_plainTelling_0 rfl (lv_at hl 1 rfl) ?_
  refine lv_iconst (v := 1) S.1 S.2.1 dX8_plainTelling_1 (by decide) ?_
  refine aw_callV S hE (c_X2_leave l G ad tr 1) gX8_plainTelling_X2_leave (n := 1) rfl (by decide +kernel) rfl (by rw [hRm]; exact ⟨Nat.le_of_ble_eq_true rfl, Nat.le_of_ble_eq_true rfl⟩) (by rw [hRm]; exact ⟨Nat.le_of_ble_eq_true rfl, Nat.le_of_ble_eq_true rfl⟩) hw hA hl.1 [1] rfl rfl (aw_recv (i := 1) hE hw rfl rfl rfl) rfl (Nat.le_of_ble_eq_true rfl) dX8_plainTelling_2 ?_
  rintro v w1 H locs ⟨rfl, rfl⟩ hw
  have hw : bW G A s.heap [[(a, .inr (5, [.int nu, .int ski, .int bri]))], [(ad 6, .inr (2, [.int (31 * tr + 1)]))]] H locs := hw
  refine W.eq (g2 := (F0 m 5 ls [])) rfl ?_
  refine lv_aload_n S.1 S.2.1 dX8_plainTelling_5 rfl (lv_at hl 0 rfl) ?_
  refine aw_get S hE hw 0 (C := RX5) (T := TX5) (N := 3) rfl rfl hinX5 2 (by decide) hf16 rfl dX8_plainTelling_6 ?_
  exact aw_iret S hr hlk ha hQ hAe hw dX8_plainTelling_9 rfl (Nat.le_of_ble_eq_true rfl) (Nat.le_of_ble_eq_true rfl) ⟨rfl, rfl⟩
set_option maxRecDepth 100000 in
set_option maxHeartbeats 4000000 in
theorem c_X8_telling_X5 (l : Launch) (G : aw_G) (a : Nat) (nu ski bri : Int32) (ad : Nat → Nat) (tr : Int32)  : CT l G yX8_telling wsX8_telling ({ frames := 2, cells := 0, slots := 0, locals := 42 }) [.ref a, .ref (ad 6)] [[(a, .inr (5, [.int nu, .int ski, .int bri]))], [(ad 6, .inr (2, [.int tr]))]] (dt (some (.int bri)) [[(a, .inr (5, [.int nu, .int ski, .int bri]))], [(ad 6, .inr (2, [.int (31 * tr + 1)]))]]) := by
  refine CT.of (cc := cX8_telling) (nL := 2) (ret := (some .int)) (by decide) rfl (Nat.le_of_ble_eq_true rfl) ?_
  intro p e s m below meth c R args Q A hRm ha hQ hAe hA S hE hr hlk hnm H locs hH0 hL0 ls hl hw
  have S : CallFix p m c cX8_telling 2 s args wsX8_telling RX8 := S
  have hl : lv_has ls 2 [(0, .ref a), (1, .ref (ad 6))] := hl
  refine lv_aload_n S.1 S.2.1 dX8_telling_0 rfl (lv_at hl 0 rfl) ?_
  refine lv_aload_n S.1 S.2.1 dX8_telling_1 rfl (lv_at hl 1 rfl) ?_
  refine aw_callW (n := 1) S hE (c_X8_plainTelling_X5 l G a nu ski bri ad tr) gX8_telling_X8_plainTelling_u19X5 rfl rfl (by decide +kernel) rfl (by rw [hRm]; exact ⟨Nat.le_of_ble_eq_true rfl, Nat.le_of_ble_eq_true rfl⟩) (by rw [hRm]; exact ⟨Nat.le_of_ble_eq_true rfl, Nat.le_of_ble_eq_true rfl⟩) hw hA hl.1 [0, 1] rfl rfl (aw_recv (i := 0) hE hw rfl rfl rfl) rfl (Nat.le_of_ble_eq_true rfl) dX8_telling_2 ?_
  rintro v w1 H locs ⟨rfl, rfl⟩ hw
  have hw : bW G A s.heap [[(a, .inr (5, [.int nu, .int ski, .int bri]))], [(ad 6, .inr (2, [.int (31 * tr + 1)]))]] H locs := hw
  refine W.eq (g2 := (F0 m 5 ls [.int bri])) rfl ?_
  exact aw_iret S hr hlk ha hQ hAe hw dX8_telling_5 rfl (Nat.le_of_ble_eq_true rfl) (Nat.le_of_ble_eq_true rfl) ⟨rfl, rfl⟩
set_option maxRecDepth 100000 in
set_option maxHeartbeats 4000000 in
theorem c_X1_telling_X1 (l : Launch) (G : aw_G) (a : Nat) (nu ski bri : Int32) (ad : Nat → Nat) (tr : Int32)  : CT l G yX1_telling wsX1_telling ({ frames := 3, cells := 0, slots := 0, locals := 63 }) [.ref a, .ref (ad 6)] [[(a, .inr (1, [.int nu, .int ski, .int bri]))], [(ad 6, .inr (2, [.int tr]))]] (dt (some (.int (bri + 100))) [[(a, .inr (1, [.int nu, .int ski, .int bri]))], [(ad 6, .inr (2, [.int (31 * (31 * tr + 2) + 1)]))]]) := by
  refine CT.of (cc := cX1_telling) (nL := 2) (ret := (some .int)) (by decide) rfl (Nat.le_of_ble_eq_true rfl) ?_
  intro p e s m below meth c R args Q A hRm ha hQ hAe hA S hE hr hlk hnm H locs hH0 hL0 ls hl hw
  have S : CallFix p m c cX1_telling 2 s args wsX1_telling RX1 := S
  have hl : lv_has ls 2 [(0, .ref a), (1, .ref (ad 6))] := hl
  refine lv_aload_n S.1 S.2.1 dX1_telling_0 rfl (lv_at hl 1 rfl) ?_
  refine lv_iconst (v := 2) S.1 S.2.1 dX1_telling_1 (by decide) ?_
  refine aw_callV S hE (c_X2_leave l G ad tr 2) gX1_telling_X2_leave (n := 1) rfl (by decide +kernel) rfl (by rw [hRm]; exact ⟨Nat.le_of_ble_eq_true rfl, Nat.le_of_ble_eq_true rfl⟩) (by rw [hRm]; exact ⟨Nat.le_of_ble_eq_true rfl, Nat.le_of_ble_eq_true rfl⟩) hw hA hl.1 [1] rfl rfl (aw_recv (i := 1) hE hw rfl rfl rfl) rfl (Nat.le_of_ble_eq_true rfl) dX1_telling_2 ?_
  rintro v w1 H locs ⟨rfl, rfl⟩ hw
  have hw : bW G A s.heap [[(a, .inr (1, [.int nu, .int ski, .int bri]))], [(ad 6, .inr (2, [.int (31 * tr + 2)]))]] H locs := hw
  refine W.eq (g2 := (F0 m 5 ls [])) rfl ?_
  refine lv_aload_n S.1 S.2.1 dX1_telling_5 rfl (lv_at hl 0 rfl) ?_
  refine lv_aload_n S.1 S.2.1 dX1_telling_6 rfl (lv_at hl 1 rfl) ?_
  refine aw_callSU (n := 1) S hE (hE.1.1 1 _ rfl).2 (c_X8_telling_X1 l G a nu ski bri ad (31 * tr + 2)) gX1_telling_X8_telling_s17 rfl (by decide +kernel) rfl (by rw [hRm]; exact ⟨Nat.le_of_ble_eq_true rfl, Nat.le_of_ble_eq_true rfl⟩) (by rw [hRm]; exact ⟨Nat.le_of_ble_eq_true rfl, Nat.le_of_ble_eq_true rfl⟩) hw hA hl.1 [0, 1] rfl rfl (aw_recv (i := 0) hE hw rfl rfl rfl) rfl (Nat.le_of_ble_eq_true rfl) dX1_telling_7 ?_
  rintro v w1 H locs ⟨rfl, rfl⟩ hw
  have hw : bW G A s.heap [[(a, .inr (1, [.int nu, .int ski, .int bri]))], [(ad 6, .inr (2, [.int (31 * (31 * tr + 2) + 1)]))]] H locs := hw
  refine W.eq (g2 := (F0 m 10 ls [.int bri])) rfl ?_
  refine lv_bipush (v := 100) S.1 S.2.1 dX1_telling_10 (by decide) ?_
  refine lv_iadd S.1 S.2.1 dX1_telling_12 ?_
  exact aw_iret S hr hlk ha hQ hAe hw dX1_telling_13 rfl (Nat.le_of_ble_eq_true rfl) (Nat.le_of_ble_eq_true rfl) ⟨rfl, rfl⟩
set_option maxRecDepth 100000 in
set_option maxHeartbeats 4000000 in
theorem c_X1_telling_X5 (l : Launch) (G : aw_G) (a : Nat) (nu ski bri : Int32) (ad : Nat → Nat) (tr : Int32)  : CT l G yX1_telling wsX1_telling ({ frames := 3, cells := 0, slots := 0, locals := 63 }) [.ref a, .ref (ad 6)] [[(a, .inr (5, [.int nu, .int ski, .int bri]))], [(ad 6, .inr (2, [.int tr]))]] (dt (some (.int (bri + 100))) [[(a, .inr (5, [.int nu, .int ski, .int bri]))], [(ad 6, .inr (2, [.int (31 * (31 * tr + 2) + 1)]))]]) := by
  refine CT.of (cc := cX1_telling) (nL := 2) (ret := (some .int)) (by decide) rfl (Nat.le_of_ble_eq_true rfl) ?_
  intro p e s m below meth c R args Q A hRm ha hQ hAe hA S hE hr hlk hnm H locs hH0 hL0 ls hl hw
  have S : CallFix p m c cX1_telling 2 s args wsX1_telling RX1 := S
  have hl : lv_has ls 2 [(0, .ref a), (1, .ref (ad 6))] := hl
  refine lv_aload_n S.1 S.2.1 dX1_telling_0 rfl (lv_at hl 1 rfl) ?_
  refine lv_iconst (v := 2) S.1 S.2.1 dX1_telling_1 (by decide) ?_
  refine aw_callV S hE (c_X2_leave l G ad tr 2) gX1_telling_X2_leave (n := 1) rfl (by decide +kernel) rfl (by rw [hRm]; exact ⟨Nat.le_of_ble_eq_true rfl, Nat.le_of_ble_eq_true rfl⟩) (by rw [hRm]; exact ⟨Nat.le_of_ble_eq_true rfl, Nat.le_of_ble_eq_true rfl⟩) hw hA hl.1 [1] rfl rfl (aw_recv (i := 1) hE hw rfl rfl rfl) rfl (Nat.le_of_ble_eq_true rfl) dX1_telling_2 ?_
  rintro v w1 H locs ⟨rfl, rfl⟩ hw
  have hw : bW G A s.heap [[(a, .inr (5, [.int nu, .int ski, .int bri]))], [(ad 6, .inr (2, [.int (31 * tr + 2)]))]] H locs := hw
  refine W.eq (g2 := (F0 m 5 ls [])) rfl ?_
  refine lv_aload_n S.1 S.2.1 dX1_telling_5 rfl (lv_at hl 0 rfl) ?_
  refine lv_aload_n S.1 S.2.1 dX1_telling_6 rfl (lv_at hl 1 rfl) ?_
  refine aw_callSU (n := 1) S hE (hE.1.1 5 _ rfl).2 (c_X8_telling_X5 l G a nu ski bri ad (31 * tr + 2)) gX1_telling_X8_telling_s17 rfl (by decide +kernel) rfl (by rw [hRm]; exact ⟨Nat.le_of_ble_eq_true rfl, Nat.le_of_ble_eq_true rfl⟩) (by rw [hRm]; exact ⟨Nat.le_of_ble_eq_true rfl, Nat.le_of_ble_eq_true rfl⟩) hw hA hl.1 [0, 1] rfl rfl (aw_recv (i := 0) hE hw rfl rfl rfl) rfl (Nat.le_of_ble_eq_true rfl) dX1_telling_7 ?_
  rintro v w1 H locs ⟨rfl, rfl⟩ hw
  have hw : bW G A s.heap [[(a, .inr (5, [.int nu, .int ski, .int bri]))], [(ad 6, .inr (2, [.int (31 * (31 * tr + 2) + 1)]))]] H locs := hw
  refine W.eq (g2 := (F0 m 10 ls [.int bri])) rfl ?_
  refine lv_bipush (v := 100) S.1 S.2.1 dX1_telling_10 (by decide) ?_
  refine lv_iadd S.1 S.2.1 dX1_telling_12 ?_
  exact aw_iret S hr hlk ha hQ hAe hw dX1_telling_13 rfl (Nat.le_of_ble_eq_true rfl) (Nat.le_of_ble_eq_true rfl) ⟨rfl, rfl⟩
set_option maxRecDepth 100000 in
set_option maxHeartbeats 4000000 in
theorem c_X5_telling (l : Launch) (G : aw_G) (a : Nat) (nu ski bri : Int32) (ad : Nat → Nat) (tr : Int32)  : CT l G yX5_telling wsX5_telling ({ frames := 4, cells := 0, slots := 0, locals := 84 }) [.ref a, .ref (ad 6)] [[(a, .inr (5, [.int nu, .int ski, .int bri]))], [(ad 6, .inr (2, [.int tr]))]] (dt (some (.int ((bri + 100) + bri))) [[(a, .inr (5, [.int nu, .int ski, .int bri]))], [(ad 6, .inr (2, [.int (31 * (31 * (31 * (31 * tr + 3) + 2) + 1) + 1)]))]]) := by
  refine CT.of (cc := cX5_telling) (nL := 3) (ret := (some .int)) (by decide) rfl (Nat.le_of_ble_eq_true rfl) ?_
  intro p e s m below meth c R args Q A hRm ha hQ hAe hA S hE hr hlk hnm H locs hH0 hL0 ls hl hw
  have S : CallFix p m c cX5_telling 3 s args wsX5_telling RX5 := S
  have hl : lv_has ls 3 [(0, .ref a), (1, .ref (ad 6))] := hl
  refine lv_aload_n S.1 S.2.1 dX5_telling_0 rfl (lv_at hl 1 rfl) ?_
  refine lv_iconst (v := 3) S.1 S.2.1 dX5_telling_1 (by decide) ?_
  refine aw_callV S hE (c_X2_leave l G ad tr 3) gX5_telling_X2_leave (n := 1) rfl (by decide +kernel) rfl (by rw [hRm]; exact ⟨Nat.le_of_ble_eq_true rfl, Nat.le_of_ble_eq_true rfl⟩) (by rw [hRm]; exact ⟨Nat.le_of_ble_eq_true rfl, Nat.le_of_ble_eq_true rfl⟩) hw hA hl.1 [1] rfl rfl (aw_recv (i := 1) hE hw rfl rfl rfl) rfl (Nat.le_of_ble_eq_true rfl) dX5_telling_2 ?_
  rintro v w1 H locs ⟨rfl, rfl⟩ hw
  have hw : bW G A s.heap [[(a, .inr (5, [.int nu, .int ski, .int bri]))], [(ad 6, .inr (2, [.int (31 * tr + 3)]))]] H locs := hw
  refine W.eq (g2 := (F0 m 5 ls [])) rfl ?_
  refine lv_aload_n S.1 S.2.1 dX5_telling_5 rfl (lv_at hl 0 rfl) ?_
  refine lv_aload_n S.1 S.2.1 dX5_telling_6 rfl (lv_at hl 1 rfl) ?_
  refine aw_callSU (n := 1) S hE (hE.1.1 5 _ rfl).2 (c_X1_telling_X5 l G a nu ski bri ad (31 * tr + 3)) gX5_telling_X1_telling_s17 rfl (by decide +kernel) rfl (by rw [hRm]; exact ⟨Nat.le_of_ble_eq_true rfl, Nat.le_of_ble_eq_true rfl⟩) (by rw [hRm]; exact ⟨Nat.le_of_ble_eq_true rfl, Nat.le_of_ble_eq_true rfl⟩) hw hA hl.1 [0, 1] rfl rfl (aw_recv (i := 0) hE hw rfl rfl rfl) rfl (Nat.le_of_ble_eq_true rfl) dX5_telling_7 ?_
  rintro v w1 H locs ⟨rfl, rfl⟩ hw
  have hw : bW G A s.heap [[(a, .inr (5, [.int nu, .int ski, .int bri]))], [(ad 6, .inr (2, [.int (31 * (31 * (31 * tr + 3) + 2) + 1)]))]] H locs := hw
  refine W.eq (g2 := (F0 m 10 ls [.int (bri + 100)])) rfl ?_
  refine lv_istore_n (lv' := [(2, .int (bri + 100)), (0, .ref a), (1, .ref (ad 6))]) S.1 S.2.1 dX5_telling_10 rfl hl (by decide) rfl (fun ls hl => ?_)
  refine lv_iload_n S.1 S.2.1 dX5_telling_11 rfl (lv_at hl 0 rfl) ?_
  refine lv_aload_n S.1 S.2.1 dX5_telling_12 rfl (lv_at hl 1 rfl) ?_
  refine lv_aload_n S.1 S.2.1 dX5_telling_13 rfl (lv_at hl 2 rfl) ?_
  refine aw_callW (n := 1) S hE (c_X8_plainTelling_X5 l G a nu ski bri ad (31 * (31 * (31 * tr + 3) + 2) + 1)) gX5_telling_X8_plainTelling_u21X5 rfl rfl (by decide +kernel) rfl (by rw [hRm]; exact ⟨Nat.le_of_ble_eq_true rfl, Nat.le_of_ble_eq_true rfl⟩) (by rw [hRm]; exact ⟨Nat.le_of_ble_eq_true rfl, Nat.le_of_ble_eq_true rfl⟩) hw hA hl.1 [0, 1] rfl rfl (aw_recv (i := 0) hE hw rfl rfl rfl) rfl (Nat.le_of_ble_eq_true rfl) dX5_telling_14 ?_
  rintro v w1 H locs ⟨rfl, rfl⟩ hw
  have hw : bW G A s.heap [[(a, .inr (5, [.int nu, .int ski, .int bri]))], [(ad 6, .inr (2, [.int (31 * (31 * (31 * (31 * tr + 3) + 2) + 1) + 1)]))]] H locs := hw
  refine W.eq (g2 := (F0 m 17 ls [.int bri, .int (bri + 100)])) rfl ?_
  refine lv_iadd S.1 S.2.1 dX5_telling_17 ?_
  exact aw_iret S hr hlk ha hQ hAe hw dX5_telling_18 rfl (Nat.le_of_ble_eq_true rfl) (Nat.le_of_ble_eq_true rfl) ⟨rfl, rfl⟩
set_option maxRecDepth 100000 in
set_option maxHeartbeats 4000000 in
theorem c_X8_greeting_X8 (l : Launch) (G : aw_G) (a : Nat) (nu ski bri : Int32) (ad : Nat → Nat) (tr : Int32)  : CT l G yX8_greeting wsX8_greeting ({ frames := 1, cells := 0, slots := 0, locals := 21 }) [.ref a, .ref (ad 6)] [[(a, .inr (8, [.int nu, .int ski, .int bri]))], [(ad 6, .inr (2, [.int tr]))]] (dt (some (.int nu)) [[(a, .inr (8, [.int nu, .int ski, .int bri]))], [(ad 6, .inr (2, [.int (31 * tr + 4)]))]]) := by
  refine CT.of (cc := cX8_greeting) (nL := 2) (ret := (some .int)) (by decide) rfl (Nat.le_of_ble_eq_true rfl) ?_
  intro p e s m below meth c R args Q A hRm ha hQ hAe hA S hE hr hlk hnm H locs hH0 hL0 ls hl hw
  have S : CallFix p m c cX8_greeting 2 s args wsX8_greeting RX8 := S
  have hl : lv_has ls 2 [(0, .ref a), (1, .ref (ad 6))] := hl
  have hinX8 : ∀ w ∈ u_ws RX8 TX8 3, w ∈ wsX8_greeting := by decide +kernel
  have hf7 := S.2.2.2.2 (.fieldLink RX8 7 "AwakeTurns$Sleeper" "number" "I") (by decide +kernel)
  refine lv_aload_n S.1 S.2.1 dX8_greeting_0 rfl (lv_at hl 1 rfl) ?_
  refine lv_iconst (v := 4) S.1 S.2.1 dX8_greeting_1 (by decide) ?_
  refine aw_callV S hE (c_X2_leave l G ad tr 4) gX8_greeting_X2_leave (n := 1) rfl (by decide +kernel) rfl (by rw [hRm]; exact ⟨Nat.le_of_ble_eq_true rfl, Nat.le_of_ble_eq_true rfl⟩) (by rw [hRm]; exact ⟨Nat.le_of_ble_eq_true rfl, Nat.le_of_ble_eq_true rfl⟩) hw hA hl.1 [1] rfl rfl (aw_recv (i := 1) hE hw rfl rfl rfl) rfl (Nat.le_of_ble_eq_true rfl) dX8_greeting_2 ?_
  rintro v w1 H locs ⟨rfl, rfl⟩ hw
  have hw : bW G A s.heap [[(a, .inr (8, [.int nu, .int ski, .int bri]))], [(ad 6, .inr (2, [.int (31 * tr + 4)]))]] H locs := hw
  refine W.eq (g2 := (F0 m 5 ls [])) rfl ?_
  refine lv_aload_n S.1 S.2.1 dX8_greeting_5 rfl (lv_at hl 0 rfl) ?_
  refine aw_get S hE hw 0 (C := RX8) (T := TX8) (N := 3) rfl rfl hinX8 0 (by decide) hf7 rfl dX8_greeting_6 ?_
  exact aw_iret S hr hlk ha hQ hAe hw dX8_greeting_9 rfl (Nat.le_of_ble_eq_true rfl) (Nat.le_of_ble_eq_true rfl) ⟨rfl, rfl⟩
set_option maxRecDepth 100000 in
set_option maxHeartbeats 4000000 in
theorem c_X8_greeting_X1 (l : Launch) (G : aw_G) (a : Nat) (nu ski bri : Int32) (ad : Nat → Nat) (tr : Int32)  : CT l G yX8_greeting wsX8_greeting ({ frames := 1, cells := 0, slots := 0, locals := 21 }) [.ref a, .ref (ad 6)] [[(a, .inr (1, [.int nu, .int ski, .int bri]))], [(ad 6, .inr (2, [.int tr]))]] (dt (some (.int nu)) [[(a, .inr (1, [.int nu, .int ski, .int bri]))], [(ad 6, .inr (2, [.int (31 * tr + 4)]))]]) := by
  refine CT.of (cc := cX8_greeting) (nL := 2) (ret := (some .int)) (by decide) rfl (Nat.le_of_ble_eq_true rfl) ?_
  intro p e s m below meth c R args Q A hRm ha hQ hAe hA S hE hr hlk hnm H locs hH0 hL0 ls hl hw
  have S : CallFix p m c cX8_greeting 2 s args wsX8_greeting RX8 := S
  have hl : lv_has ls 2 [(0, .ref a), (1, .ref (ad 6))] := hl
  have hinX1 : ∀ w ∈ u_ws RX1 TX1 3, w ∈ wsX8_greeting := by decide +kernel
  have hf7 := S.2.2.2.2 (.fieldLink RX8 7 "AwakeTurns$Sleeper" "number" "I") (by decide +kernel)
  refine lv_aload_n S.1 S.2.1 dX8_greeting_0 rfl (lv_at hl 1 rfl) ?_
  refine lv_iconst (v := 4) S.1 S.2.1 dX8_greeting_1 (by decide) ?_
  refine aw_callV S hE (c_X2_leave l G ad tr 4) gX8_greeting_X2_leave (n := 1) rfl (by decide +kernel) rfl (by rw [hRm]; exact ⟨Nat.le_of_ble_eq_true rfl, Nat.le_of_ble_eq_true rfl⟩) (by rw [hRm]; exact ⟨Nat.le_of_ble_eq_true rfl, Nat.le_of_ble_eq_true rfl⟩) hw hA hl.1 [1] rfl rfl (aw_recv (i := 1) hE hw rfl rfl rfl) rfl (Nat.le_of_ble_eq_true rfl) dX8_greeting_2 ?_
  rintro v w1 H locs ⟨rfl, rfl⟩ hw
  have hw : bW G A s.heap [[(a, .inr (1, [.int nu, .int ski, .int bri]))], [(ad 6, .inr (2, [.int (31 * tr + 4)]))]] H locs := hw
  refine W.eq (g2 := (F0 m 5 ls [])) rfl ?_
  refine lv_aload_n S.1 S.2.1 dX8_greeting_5 rfl (lv_at hl 0 rfl) ?_
  refine aw_get S hE hw 0 (C := RX1) (T := TX1) (N := 3) rfl rfl hinX1 0 (by decide) hf7 rfl dX8_greeting_6 ?_
  exact aw_iret S hr hlk ha hQ hAe hw dX8_greeting_9 rfl (Nat.le_of_ble_eq_true rfl) (Nat.le_of_ble_eq_true rfl) ⟨rfl, rfl⟩
set_option maxRecDepth 100000 in
set_option maxHeartbeats 4000000 in
theorem c_X5_greeting (l : Launch) (G : aw_G) (a : Nat) (nu ski bri : Int32) (ad : Nat → Nat) (tr : Int32)  : CT l G yX5_greeting wsX5_greeting ({ frames := 1, cells := 0, slots := 0, locals := 21 }) [.ref a, .ref (ad 6)] [[(a, .inr (5, [.int nu, .int ski, .int bri]))], [(ad 6, .inr (2, [.int tr]))]] (dt (some (.int 60)) [[(a, .inr (5, [.int nu, .int ski, .int bri]))], [(ad 6, .inr (2, [.int (31 * tr + 5)]))]]) := by
  refine CT.of (cc := cX5_greeting) (nL := 2) (ret := (some .int)) (by decide) rfl (Nat.le_of_ble_eq_true rfl) ?_
  intro p e s m below meth c R args Q A hRm ha hQ hAe hA S hE hr hlk hnm H locs hH0 hL0 ls hl hw
  have S : CallFix p m c cX5_greeting 2 s args wsX5_greeting RX5 := S
  have hl : lv_has ls 2 [(0, .ref a), (1, .ref (ad 6))] := hl
  refine lv_aload_n S.1 S.2.1 dX5_greeting_0 rfl (lv_at hl 1 rfl) ?_
  refine lv_iconst (v := 5) S.1 S.2.1 dX5_greeting_1 (by decide) ?_
  refine aw_callV S hE (c_X2_leave l G ad tr 5) gX5_greeting_X2_leave (n := 1) rfl (by decide +kernel) rfl (by rw [hRm]; exact ⟨Nat.le_of_ble_eq_true rfl, Nat.le_of_ble_eq_true rfl⟩) (by rw [hRm]; exact ⟨Nat.le_of_ble_eq_true rfl, Nat.le_of_ble_eq_true rfl⟩) hw hA hl.1 [1] rfl rfl (aw_recv (i := 1) hE hw rfl rfl rfl) rfl (Nat.le_of_ble_eq_true rfl) dX5_greeting_2 ?_
  rintro v w1 H locs ⟨rfl, rfl⟩ hw
  have hw : bW G A s.heap [[(a, .inr (5, [.int nu, .int ski, .int bri]))], [(ad 6, .inr (2, [.int (31 * tr + 5)]))]] H locs := hw
  refine W.eq (g2 := (F0 m 5 ls [])) rfl ?_
  refine lv_bipush (v := 60) S.1 S.2.1 dX5_greeting_5 (by decide) ?_
  exact aw_iret S hr hlk ha hQ hAe hw dX5_greeting_7 rfl (Nat.le_of_ble_eq_true rfl) (Nat.le_of_ble_eq_true rfl) ⟨rfl, rfl⟩
