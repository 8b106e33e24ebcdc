/-! boarding -/
def kdT (lt : Int32) : Int32 := if lt = 102 then 1 else if lt = 111 then 2 else 0
def tkd (f : Nat → Int32) (i j : Nat) : Int32 := kdT (f (i + 1 + 4 * j + 1))
def tsk (f : Nat → Int32) (i j : Nat) : Int32 := f (i + 1 + 4 * j + 2) - 48
def tbr (f : Nat → Int32) (i j : Nat) : Int32 := f (i + 1 + 4 * j + 3) - 48
theorem slE_T (f : Nat → Int32) (i c : Nat) : (.inr (kcT (f (i + 1 + 4 * c + 1)), [.int (nI c), .int (f (i + 1 + 4 * c + 2) - 48), .int (f (i + 1 + 4 * c + 3) - 48)]) : va_E) = slE (tkd f i) (tsk f i) (tbr f i) c := by
  unfold slE tkd tsk tbr kdT kcT
  by_cases h1 : f (i + 1 + 4 * c + 1) = 102
  · simp [h1]
  · by_cases h2 : f (i + 1 + 4 * c + 1) = 111
    · simp [h2]
    · simp [h1, h2]
theorem kcT_or (lt : Int32) : kcT lt = 8 ∨ kcT lt = 1 ∨ kcT lt = 5 := by
  unfold kcT
  split
  · exact Or.inr (Or.inl rfl)
  · split
    · exact Or.inr (Or.inr rfl)
    · exact Or.inl rfl
def soT (sk so : Nat → Int32) : Nat → Nat → Int32
  | 0 => so
  | c + 1 => tsF c (2 ^ c) (sk c) (soT sk so c)
def hsT (kd hs : Nat → Int32) : Nat → Nat → Int32
  | 0 => hs
  | c + 1 => thF c (2 ^ c) (hoK (kd c)) (hsT kd hs c)
section FP
variable {G : aw_G} {A : Nat → Prop} {H0 H : Heap} {locs : List Loc}
theorem bW.nil {wb : List va_W} (hw : bW G A H0 wb H locs) : bW G A H0 (wb ++ [[]]) H locs := by
  unfold bW
  rw [List.flatten_append]
  simp only [List.flatten_cons, List.flatten_nil, List.append_nil]
  exact hw
theorem fam_succ {c : Nat} {r : Nat → Nat} {e : Nat → va_E} {a : Nat} : fam (c + 1) (va_up r c a) e = fam c r e ++ [(a, e c)] := by
  unfold fam
  rw [List.range_succ, List.map_append]
  congr 1
  · apply List.map_congr_left
    intro j hj
    rw [va_up_ne _ _ (by have := List.mem_range.mp hj; omega)]
  · simp [va_up_self]
theorem aw_push (wb : List va_W) {a c : Nat} {r : Nat → Nat} {e : Nat → va_E} (hw : bW G A H0 (wb ++ [[(a, e c)]]) H locs) (i : Nat) (hi : wb[i]? = some (fam c r e)) : bW G A H0 (wb.set i (fam (c + 1) (va_up r c a) e)) H locs := by
  have hl : i < wb.length := (List.getElem?_eq_some_iff.mp hi).1
  refine hw.perm ?_
  refine List.Perm.trans ?_ (aw_put wb i _ hl).symm
  rw [fam_succ, List.flatten_append]
  refine (List.Perm.append_right _ (aw_take wb i _ hi)).trans ?_
  simp only [List.flatten_cons, List.flatten_nil, List.append_nil, List.append_assoc]
  exact List.Perm.append_left _ List.perm_append_comm
end FP
set_option maxRecDepth 100000 in
set_option maxHeartbeats 4000000 in
theorem c_X0_board (l : Launch) (G : aw_G) (ad : Nat → Nat) (n0 : Nat) (lw : Int32) (sg0 : Nat → Option Nat) (tu wa so hs : Nat → Int32) (b : Nat) (f : Nat → Int32) (i nn cnt : Nat) (hnn : nn = 4 * cnt + 1) (hcn : cnt ≤ 6) (hb : i + nn ≤ 60) : CT l G yX0_board wsX0_board ({ frames := 5, cells := 6, slots := 18, locals := 114 }) [.ref (ad 2), .ref b, .int (nI i), .int (nI nn)] [[(ad 2, .inr (0, [.ref (ad 8), .ref (ad 9), .ref (ad 10), .ref (ad 11), .ref (ad 12), .int (nI n0), .int lw]))], [(ad 8, .inl (gL G, 6, .inr (.inr (.inr (.inr sg0)))))], [(ad 9, .inl (gI G, 12, .inl tu))], [(ad 10, .inl (gI G, 12, .inl wa))], [(ad 11, .inl (gI G, 64, .inl so))], [(ad 12, .inl (gI G, 64, .inl hs))], [(b, .inl (gI G, 60, .inl f))]] (fun v w => ∃ (sa : Nat → Nat) (sg : Nat → Option Nat), v = none ∧ (∀ j, j < cnt → sg j = some (sa j)) ∧ w = [[(ad 2, .inr (0, [.ref (ad 8), .ref (ad 9), .ref (ad 10), .ref (ad 11), .ref (ad 12), .int (nI cnt), .int 0]))], [(ad 8, .inl (gL G, 6, .inr (.inr (.inr (.inr sg)))))], [(ad 9, .inl (gI G, 12, .inl (fun _ => 0)))], [(ad 10, .inl (gI G, 12, .inl (fun _ => 0)))], [(ad 11, .inl (gI G, 64, .inl (soT (tsk f i) so cnt)))], [(ad 12, .inl (gI G, 64, .inl (hsT (tkd f i) hs cnt)))], [(b, .inl (gI G, 60, .inl f))], fam cnt sa (slE (tkd f i) (tsk f i) (tbr f i))]) := by
  refine CT.of (cc := cX0_board) (nL := 5) (ret := none) (by decide) rfl (Nat.le_of_ble_eq_true rfl) ?_
  intro p e s m below meth c R args Q A hRm ha hQ hAe hA S hE hr hlk hnm H locs hH0 hL0 ls hl hw
  have S : CallFix p m c cX0_board 5 s args wsX0_board RX0 := S
  have hl : lv_has ls 5 [(0, .ref (ad 2)), (1, .ref b), (2, .int (nI i)), (3, .int (nI nn))] := hl
  have hinX0 : ∀ w ∈ u_ws RX0 TX0 7, w ∈ wsX0_board := by decide +kernel
  have hf30 := S.2.2.2.2 (.fieldLink RX0 30 "AwakeTurns$Crew" "count" "I") (by decide +kernel)
  have hf17 := S.2.2.2.2 (.fieldLink RX0 17 "AwakeTurns$Crew" "turns" "[I") (by decide +kernel)
  have hf21 := S.2.2.2.2 (.fieldLink RX0 21 "AwakeTurns$Crew" "wanted" "[I") (by decide +kernel)
  have hf34 := S.2.2.2.2 (.fieldLink RX0 34 "AwakeTurns$Crew" "lawNow" "I") (by decide +kernel)
  have hf11 := S.2.2.2.2 (.fieldLink RX0 11 "AwakeTurns$Crew" "sleepers" "[LAwakeTurns$Sleeper;") (by decide +kernel)
  refine lv_aload_n S.1 S.2.1 dX0_board_0 rfl (lv_at hl 0 rfl) ?_
  refine lv_iconst (v := 0) S.1 S.2.1 dX0_board_1 (by decide) ?_
  refine aw_putf S hE hw 0 (C := RX0) (T := TX0) (N := 7) rfl rfl hinX0 tyX0 tyX0_ok nmX0 5 (by decide) hf30 rfl rfl rfl (Nat.le_of_ble_eq_true rfl) dX0_board_2 (fun H locs hw => ?_)
  have hw : bW G A s.heap [[(ad 2, .inr (0, [.ref (ad 8), .ref (ad 9), .ref (ad 10), .ref (ad 11), .ref (ad 12), .int 0, .int lw]))], [(ad 8, .inl (gL G, 6, .inr (.inr (.inr (.inr sg0)))))], [(ad 9, .inl (gI G, 12, .inl tu))], [(ad 10, .inl (gI G, 12, .inl wa))], [(ad 11, .inl (gI G, 64, .inl so))], [(ad 12, .inl (gI G, 64, .inl hs))], [(b, .inl (gI G, 60, .inl f))]] H locs := hw
  refine lv_iload_n S.1 S.2.1 dX0_board_5 rfl (lv_at hl 2 rfl) ?_
  refine lv_iconst (v := 1) S.1 S.2.1 dX0_board_6 (by decide) ?_
  refine lv_iadd S.1 S.2.1 dX0_board_7 ?_
  refine aw_eqi (show ((nI i) + 1 : Int32) = nI (i + 1) from (nI_add i 1)) ?_
  refine lv_istore (lv' := [(4, .int (nI (i + 1))), (0, .ref (ad 2)), (1, .ref b), (2, .int (nI i)), (3, .int (nI nn))]) S.1 S.2.1 dX0_board_8 hl (by decide) rfl (fun ls hl => ?_)
  have hw := hw.nil
  have hw : bW G A s.heap [[(ad 2, .inr (0, [.ref (ad 8), .ref (ad 9), .ref (ad 10), .ref (ad 11), .ref (ad 12), .int 0, .int lw]))], [(ad 8, .inl (gL G, 6, .inr (.inr (.inr (.inr sg0)))))], [(ad 9, .inl (gI G, 12, .inl tu))], [(ad 10, .inl (gI G, 12, .inl wa))], [(ad 11, .inl (gI G, 64, .inl so))], [(ad 12, .inl (gI G, 64, .inl hs))], [(b, .inl (gI G, 60, .inl f))], fam 0 (fun _ => 0) (slE (tkd f i) (tsk f i) (tbr f i))] H locs := hw
  have loop10 : ∀ (fu : Nat) (c_ : Nat) (sa : Nat → Nat) (sg : Nat → Option Nat), (c_ ≤ cnt) → (∀ j, j < c_ → sg j = some (sa j)) → (cnt - c_) < fu → ∀ (ls : Array Slot) (H : Heap) (locs : List Loc), lv_has ls 5 [(0, .ref (ad 2)), (1, .ref b), (2, .int (nI i)), (3, .int (nI nn)), (4, .int (nI (i + 1 + 4 * c_)))] → bW G A s.heap [[(ad 2, .inr (0, [.ref (ad 8), .ref (ad 9), .ref (ad 10), .ref (ad 11), .ref (ad 12), .int (nI c_), .int lw]))], [(ad 8, .inl (gL G, 6, .inr (.inr (.inr (.inr sg)))))], [(ad 9, .inl (gI G, 12, .inl tu))], [(ad 10, .inl (gI G, 12, .inl wa))], [(ad 11, .inl (gI G, 64, .inl (soT (tsk f i) so c_)))], [(ad 12, .inl (gI G, 64, .inl (hsT (tkd f i) hs c_)))], [(b, .inl (gI G, 60, .inl f))], fam c_ sa (slE (tkd f i) (tsk f i) (tbr f i))] H locs → W p l e R s m args below meth c H locs c_ (3 * c_) Q (F0 m 10 ls []) := by
    intro fu
    induction fu with
    | zero => intro c_ sa sg _ _ hm; exact absurd hm (Nat.not_lt_zero _)
    | succ fu ih10 =>
      intro c_ sa sg hc hsg hm ls H locs hl hw
      refine lv_iload S.1 S.2.1 dX0_board_10 (lv_at hl 4 rfl) ?_
      refine lv_iconst (v := 3) S.1 S.2.1 dX0_board_12 (by decide) ?_
      refine lv_iadd S.1 S.2.1 dX0_board_13 ?_
      refine aw_eqi (show ((nI (i + 1 + 4 * c_)) + 3 : Int32) = nI ((i + 1 + 4 * c_) + 3) from (nI_add (i + 1 + 4 * c_) 3)) ?_
      refine lv_iload_n S.1 S.2.1 dX0_board_14 rfl (lv_at hl 2 rfl) ?_
      refine lv_iload_n S.1 S.2.1 dX0_board_15 rfl (lv_at hl 3 rfl) ?_
      refine lv_iadd S.1 S.2.1 dX0_board_16 ?_
      refine aw_eqi (show ((nI i) + (nI nn) : Int32) = nI (i + nn) from (nI_add i nn)) ?_
      refine aw_icmpN_ge (x := (i + 1 + 4 * c_) + 3) (y := i + nn) (tgt := 87) S (by omega) (by omega) dX0_board_17 (by decide) (fun c17 => ?_) (fun c17 => ?_)
      · have ex_c : c_ = cnt := by omega
        try rw [ex_c] at hl
        try rw [ex_c] at hw
        rw [ex_c] at hsg
        refine lv_aload_n S.1 S.2.1 dX0_board_87 rfl (lv_at hl 0 rfl) ?_
        refine aw_get S hE hw 0 (C := RX0) (T := TX0) (N := 7) rfl rfl hinX0 1 (by decide) hf17 rfl dX0_board_88 ?_
        refine lv_iconst (v := 0) S.1 S.2.1 dX0_board_91 (by decide) ?_
        refine aw_callS S hE (c_J7_fill_53178 l G (ad 9) 12 tu 0 (by decide)) gX0_board_J7_fill_53178 (n := 2) rfl (by decide +kernel) rfl (by rw [hRm]; exact ⟨Nat.le_of_ble_eq_true rfl, Nat.le_of_ble_eq_true rfl⟩) (by rw [hRm]; exact ⟨show c_ + 0 ≤ 6 by omega, show 3 * c_ + 0 ≤ 18 by omega⟩) hw hA hl.1 [2] rfl rfl rfl (Nat.le_of_ble_eq_true rfl) dX0_board_92 ?_
        rintro v w1 H locs ⟨rfl, rfl⟩ hw
        have hw : bW G A s.heap [[(ad 2, .inr (0, [.ref (ad 8), .ref (ad 9), .ref (ad 10), .ref (ad 11), .ref (ad 12), .int (nI cnt), .int lw]))], [(ad 8, .inl (gL G, 6, .inr (.inr (.inr (.inr sg)))))], [((ad 9), .inl (gI G, 12, .inl (fa_fill (fun _ => 0) tu 12)))], [(ad 10, .inl (gI G, 12, .inl wa))], [(ad 11, .inl (gI G, 64, .inl (soT (tsk f i) so cnt)))], [(ad 12, .inl (gI G, 64, .inl (hsT (tkd f i) hs cnt)))], [(b, .inl (gI G, 60, .inl f))], fam cnt sa (slE (tkd f i) (tsk f i) (tbr f i))] H locs := hw
        refine W.eq (g2 := (F0 m 95 ls [])) rfl ?_
        refine lv_aload_n S.1 S.2.1 dX0_board_95 rfl (lv_at hl 0 rfl) ?_
        refine aw_get S hE hw 0 (C := RX0) (T := TX0) (N := 7) rfl rfl hinX0 2 (by decide) hf21 rfl dX0_board_96 ?_
        refine lv_iconst (v := 0) S.1 S.2.1 dX0_board_99 (by decide) ?_
        refine aw_callS S hE (c_J7_fill_53178 l G (ad 10) 12 wa 0 (by decide)) gX0_board_J7_fill_53178 (n := 2) rfl (by decide +kernel) rfl (by rw [hRm]; exact ⟨Nat.le_of_ble_eq_true rfl, Nat.le_of_ble_eq_true rfl⟩) (by rw [hRm]; exact ⟨show c_ + 0 + 0 ≤ 6 by omega, show 3 * c_ + 0 + 0 ≤ 18 by omega⟩) hw hA hl.1 [3] rfl rfl rfl (Nat.le_of_ble_eq_true rfl) dX0_board_100 ?_
        rintro v w1 H locs ⟨rfl, rfl⟩ hw
        have hw : bW G A s.heap [[(ad 2, .inr (0, [.ref (ad 8), .ref (ad 9), .ref (ad 10), .ref (ad 11), .ref (ad 12), .int (nI cnt), .int lw]))], [(ad 8, .inl (gL G, 6, .inr (.inr (.inr (.inr sg)))))], [((ad 9), .inl (gI G, 12, .inl (fa_fill (fun _ => 0) tu 12)))], [((ad 10), .inl (gI G, 12, .inl (fa_fill (fun _ => 0) wa 12)))], [(ad 11, .inl (gI G, 64, .inl (soT (tsk f i) so cnt)))], [(ad 12, .inl (gI G, 64, .inl (hsT (tkd f i) hs cnt)))], [(b, .inl (gI G, 60, .inl f))], fam cnt sa (slE (tkd f i) (tsk f i) (tbr f i))] H locs := hw
        refine W.eq (g2 := (F0 m 103 ls [])) rfl ?_
        refine lv_aload_n S.1 S.2.1 dX0_board_103 rfl (lv_at hl 0 rfl) ?_
        refine lv_iconst (v := 0) S.1 S.2.1 dX0_board_104 (by decide) ?_
        refine aw_putf S hE hw 0 (C := RX0) (T := TX0) (N := 7) rfl rfl hinX0 tyX0 tyX0_ok nmX0 6 (by decide) hf34 rfl rfl rfl (Nat.le_of_ble_eq_true rfl) dX0_board_105 (fun H locs hw => ?_)
        have hw : bW G A s.heap [[(ad 2, .inr (0, [.ref (ad 8), .ref (ad 9), .ref (ad 10), .ref (ad 11), .ref (ad 12), .int (nI cnt), .int 0]))], [(ad 8, .inl (gL G, 6, .inr (.inr (.inr (.inr sg)))))], [((ad 9), .inl (gI G, 12, .inl (fa_fill (fun _ => 0) tu 12)))], [((ad 10), .inl (gI G, 12, .inl (fa_fill (fun _ => 0) wa 12)))], [(ad 11, .inl (gI G, 64, .inl (soT (tsk f i) so cnt)))], [(ad 12, .inl (gI G, 64, .inl (hsT (tkd f i) hs cnt)))], [(b, .inl (gI G, 60, .inl f))], fam cnt sa (slE (tkd f i) (tsk f i) (tbr f i))] H locs := hw
        have hw := aw_arr hw 2 rfl (fun _ => 0) (fun j hj => by rw [fa_fill_in hj])
        have hw : bW G A s.heap [[(ad 2, .inr (0, [.ref (ad 8), .ref (ad 9), .ref (ad 10), .ref (ad 11), .ref (ad 12), .int (nI cnt), .int 0]))], [(ad 8, .inl (gL G, 6, .inr (.inr (.inr (.inr sg)))))], [((ad 9), .inl (gI G, 12, .inl (fun _ => 0)))], [((ad 10), .inl (gI G, 12, .inl (fa_fill (fun _ => 0) wa 12)))], [(ad 11, .inl (gI G, 64, .inl (soT (tsk f i) so cnt)))], [(ad 12, .inl (gI G, 64, .inl (hsT (tkd f i) hs cnt)))], [(b, .inl (gI G, 60, .inl f))], fam cnt sa (slE (tkd f i) (tsk f i) (tbr f i))] H locs := hw
        have hw := aw_arr hw 3 rfl (fun _ => 0) (fun j hj => by rw [fa_fill_in hj])
        have hw : bW G A s.heap [[(ad 2, .inr (0, [.ref (ad 8), .ref (ad 9), .ref (ad 10), .ref (ad 11), .ref (ad 12), .int (nI cnt), .int 0]))], [(ad 8, .inl (gL G, 6, .inr (.inr (.inr (.inr sg)))))], [((ad 9), .inl (gI G, 12, .inl (fun _ => 0)))], [((ad 10), .inl (gI G, 12, .inl (fun _ => 0)))], [(ad 11, .inl (gI G, 64, .inl (soT (tsk f i) so cnt)))], [(ad 12, .inl (gI G, 64, .inl (hsT (tkd f i) hs cnt)))], [(b, .inl (gI G, 60, .inl f))], fam cnt sa (slE (tkd f i) (tsk f i) (tbr f i))] H locs := hw
        exact aw_vret S hr hlk ha hQ hAe hw dX0_board_108 (show c_ ≤ 6 by omega) (show 3 * c_ ≤ 18 by omega) ⟨sa, sg, rfl, hsg, rfl⟩
      · refine lv_aload_n S.1 S.2.1 dX0_board_20 rfl (lv_at hl 0 rfl) ?_
        refine aw_get S hE hw 0 (C := RX0) (T := TX0) (N := 7) rfl rfl hinX0 5 (by decide) hf30 rfl dX0_board_21 ?_
        refine lv_bipush (v := 6) S.1 S.2.1 dX0_board_24 (by decide) ?_
        refine aw_icmpN_ge (x := c_) (y := 6) (tgt := 87) S (by omega) (by omega) dX0_board_26 (by decide) (fun c26 => ?_) (fun c26 => ?_)
        · have ex_c : c_ = cnt := by omega
          try rw [ex_c] at hl
          try rw [ex_c] at hw
          rw [ex_c] at hsg
          refine lv_aload_n S.1 S.2.1 dX0_board_87 rfl (lv_at hl 0 rfl) ?_
          refine aw_get S hE hw 0 (C := RX0) (T := TX0) (N := 7) rfl rfl hinX0 1 (by decide) hf17 rfl dX0_board_88 ?_
          refine lv_iconst (v := 0) S.1 S.2.1 dX0_board_91 (by decide) ?_
          refine aw_callS S hE (c_J7_fill_53178 l G (ad 9) 12 tu 0 (by decide)) gX0_board_J7_fill_53178 (n := 2) rfl (by decide +kernel) rfl (by rw [hRm]; exact ⟨Nat.le_of_ble_eq_true rfl, Nat.le_of_ble_eq_true rfl⟩) (by rw [hRm]; exact ⟨show c_ + 0 ≤ 6 by omega, show 3 * c_ + 0 ≤ 18 by omega⟩) hw hA hl.1 [2] rfl rfl rfl (Nat.le_of_ble_eq_true rfl) dX0_board_92 ?_
          rintro v w1 H locs ⟨rfl, rfl⟩ hw
          have hw : bW G A s.heap [[(ad 2, .inr (0, [.ref (ad 8), .ref (ad 9), .ref (ad 10), .ref (ad 11), .ref (ad 12), .int (nI cnt), .int lw]))], [(ad 8, .inl (gL G, 6, .inr (.inr (.inr (.inr sg)))))], [((ad 9), .inl (gI G, 12, .inl (fa_fill (fun _ => 0) tu 12)))], [(ad 10, .inl (gI G, 12, .inl wa))], [(ad 11, .inl (gI G, 64, .inl (soT (tsk f i) so cnt)))], [(ad 12, .inl (gI G, 64, .inl (hsT (tkd f i) hs cnt)))], [(b, .inl (gI G, 60, .inl f))], fam cnt sa (slE (tkd f i) (tsk f i) (tbr f i))] H locs := hw
          refine W.eq (g2 := (F0 m 95 ls [])) rfl ?_
          refine lv_aload_n S.1 S.2.1 dX0_board_95 rfl (lv_at hl 0 rfl) ?_
          refine aw_get S hE hw 0 (C := RX0) (T := TX0) (N := 7) rfl rfl hinX0 2 (by decide) hf21 rfl dX0_board_96 ?_
          refine lv_iconst (v := 0) S.1 S.2.1 dX0_board_99 (by decide) ?_
          refine aw_callS S hE (c_J7_fill_53178 l G (ad 10) 12 wa 0 (by decide)) gX0_board_J7_fill_53178 (n := 2) rfl (by decide +kernel) rfl (by rw [hRm]; exact ⟨Nat.le_of_ble_eq_true rfl, Nat.le_of_ble_eq_true rfl⟩) (by rw [hRm]; exact ⟨show c_ + 0 + 0 ≤ 6 by omega, show 3 * c_ + 0 + 0 ≤ 18 by omega⟩) hw hA hl.1 [3] rfl rfl rfl (Nat.le_of_ble_eq_true rfl) dX0_board_100 ?_
          rintro v w1 H locs ⟨rfl, rfl⟩ hw
          have hw : bW G A s.heap [[(ad 2, .inr (0, [.ref (ad 8), .ref (ad 9), .ref (ad 10), .ref (ad 11), .ref (ad 12), .int (nI cnt), .int lw]))], [(ad 8, .inl (gL G, 6, .inr (.inr (.inr (.inr sg)))))], [((ad 9), .inl (gI G, 12, .inl (fa_fill (fun _ => 0) tu 12)))], [((ad 10), .inl (gI G, 12, .inl (fa_fill (fun _ => 0) wa 12)))], [(ad 11, .inl (gI G, 64, .inl (soT (tsk f i) so cnt)))], [(ad 12, .inl (gI G, 64, .inl (hsT (tkd f i) hs cnt)))], [(b, .inl (gI G, 60, .inl f))], fam cnt sa (slE (tkd f i) (tsk f i) (tbr f i))] H locs := hw
          refine W.eq (g2 := (F0 m 103 ls [])) rfl ?_
          refine lv_aload_n S.1 S.2.1 dX0_board_103 rfl (lv_at hl 0 rfl) ?_
          refine lv_iconst (v := 0) S.1 S.2.1 dX0_board_104 (by decide) ?_
          refine aw_putf S hE hw 0 (C := RX0) (T := TX0) (N := 7) rfl rfl hinX0 tyX0 tyX0_ok nmX0 6 (by decide) hf34 rfl rfl rfl (Nat.le_of_ble_eq_true rfl) dX0_board_105 (fun H locs hw => ?_)
          have hw : bW G A s.heap [[(ad 2, .inr (0, [.ref (ad 8), .ref (ad 9), .ref (ad 10), .ref (ad 11), .ref (ad 12), .int (nI cnt), .int 0]))], [(ad 8, .inl (gL G, 6, .inr (.inr (.inr (.inr sg)))))], [((ad 9), .inl (gI G, 12, .inl (fa_fill (fun _ => 0) tu 12)))], [((ad 10), .inl (gI G, 12, .inl (fa_fill (fun _ => 0) wa 12)))], [(ad 11, .inl (gI G, 64, .inl (soT (tsk f i) so cnt)))], [(ad 12, .inl (gI G, 64, .inl (hsT (tkd f i) hs cnt)))], [(b, .inl (gI G, 60, .inl f))], fam cnt sa (slE (tkd f i) (tsk f i) (tbr f i))] H locs := hw
          have hw := aw_arr hw 2 rfl (fun _ => 0) (fun j hj => by rw [fa_fill_in hj])
          have hw : bW G A s.heap [[(ad 2, .inr (0, [.ref (ad 8), .ref (ad 9), .ref (ad 10), .ref (ad 11), .ref (ad 12), .int (nI cnt), .int 0]))], [(ad 8, .inl (gL G, 6, .inr (.inr (.inr (.inr sg)))))], [((ad 9), .inl (gI G, 12, .inl (fun _ => 0)))], [((ad 10), .inl (gI G, 12, .inl (fa_fill (fun _ => 0) wa 12)))], [(ad 11, .inl (gI G, 64, .inl (soT (tsk f i) so cnt)))], [(ad 12, .inl (gI G, 64, .inl (hsT (tkd f i) hs cnt)))], [(b, .inl (gI G, 60, .inl f))], fam cnt sa (slE (tkd f i) (tsk f i) (tbr f i))] H locs := hw
          have hw := aw_arr hw 3 rfl (fun _ => 0) (fun j hj => by rw [fa_fill_in hj])
          have hw : bW G A s.heap [[(ad 2, .inr (0, [.ref (ad 8), .ref (ad 9), .ref (ad 10), .ref (ad 11), .ref (ad 12), .int (nI cnt), .int 0]))], [(ad 8, .inl (gL G, 6, .inr (.inr (.inr (.inr sg)))))], [((ad 9), .inl (gI G, 12, .inl (fun _ => 0)))], [((ad 10), .inl (gI G, 12, .inl (fun _ => 0)))], [(ad 11, .inl (gI G, 64, .inl (soT (tsk f i) so cnt)))], [(ad 12, .inl (gI G, 64, .inl (hsT (tkd f i) hs cnt)))], [(b, .inl (gI G, 60, .inl f))], fam cnt sa (slE (tkd f i) (tsk f i) (tbr f i))] H locs := hw
          exact aw_vret S hr hlk ha hQ hAe hw dX0_board_108 (show c_ ≤ 6 by omega) (show 3 * c_ ≤ 18 by omega) ⟨sa, sg, rfl, hsg, rfl⟩
        · refine lv_aload_n S.1 S.2.1 dX0_board_29 rfl (lv_at hl 0 rfl) ?_
          refine aw_get S hE hw 0 (C := RX0) (T := TX0) (N := 7) rfl rfl hinX0 0 (by decide) hf11 rfl dX0_board_30 ?_
          refine lv_aload_n S.1 S.2.1 dX0_board_33 rfl (lv_at hl 0 rfl) ?_
          refine aw_get S hE hw 0 (C := RX0) (T := TX0) (N := 7) rfl rfl hinX0 5 (by decide) hf30 rfl dX0_board_34 ?_
          refine lv_aload_n S.1 S.2.1 dX0_board_37 rfl (lv_at hl 0 rfl) ?_
          refine aw_get S hE hw 0 (C := RX0) (T := TX0) (N := 7) rfl rfl hinX0 5 (by decide) hf30 rfl dX0_board_38 ?_
          refine lv_aload_n S.1 S.2.1 dX0_board_41 rfl (lv_at hl 1 rfl) ?_
          refine lv_iload S.1 S.2.1 dX0_board_42 (lv_at hl 4 rfl) ?_
          refine lv_iconst (v := 1) S.1 S.2.1 dX0_board_44 (by decide) ?_
          refine lv_iadd S.1 S.2.1 dX0_board_45 ?_
          refine aw_eqi (show ((nI (i + 1 + 4 * c_)) + 1 : Int32) = nI ((i + 1 + 4 * c_) + 1) from (nI_add (i + 1 + 4 * c_) 1)) ?_
          refine aw_iald S hE hw 6 (k := ((i + 1 + 4 * c_) + 1)) rfl (by omega) (by decide) dX0_board_46 ?_
          refine lv_aload_n S.1 S.2.1 dX0_board_47 rfl (lv_at hl 1 rfl) ?_
          refine lv_iload S.1 S.2.1 dX0_board_48 (lv_at hl 4 rfl) ?_
          refine lv_iconst (v := 2) S.1 S.2.1 dX0_board_50 (by decide) ?_
          refine lv_iadd S.1 S.2.1 dX0_board_51 ?_
          refine aw_eqi (show ((nI (i + 1 + 4 * c_)) + 2 : Int32) = nI ((i + 1 + 4 * c_) + 2) from (nI_add (i + 1 + 4 * c_) 2)) ?_
          refine aw_iald S hE hw 6 (k := ((i + 1 + 4 * c_) + 2)) rfl (by omega) (by decide) dX0_board_52 ?_
          refine lv_aload_n S.1 S.2.1 dX0_board_53 rfl (lv_at hl 1 rfl) ?_
          refine lv_iload S.1 S.2.1 dX0_board_54 (lv_at hl 4 rfl) ?_
          refine lv_iconst (v := 3) S.1 S.2.1 dX0_board_56 (by decide) ?_
          refine lv_iadd S.1 S.2.1 dX0_board_57 ?_
          refine aw_eqi (show ((nI (i + 1 + 4 * c_)) + 3 : Int32) = nI ((i + 1 + 4 * c_) + 3) from (nI_add (i + 1 + 4 * c_) 3)) ?_
          refine aw_iald S hE hw 6 (k := ((i + 1 + 4 * c_) + 3)) rfl (by omega) (by decide) dX0_board_58 ?_
          refine aw_callS S hE (c_X9_sleeper l G (nI c_) (f ((i + 1 + 4 * c_) + 1)) (f ((i + 1 + 4 * c_) + 2)) (f ((i + 1 + 4 * c_) + 3))) gX0_board_X9_sleeper (n := 4) rfl (by decide +kernel) rfl (by rw [hRm]; exact ⟨Nat.le_of_ble_eq_true rfl, Nat.le_of_ble_eq_true rfl⟩) (by rw [hRm]; exact ⟨show c_ + 1 ≤ 6 by omega, show 3 * c_ + 3 ≤ 18 by omega⟩) hw hA hl.1 [] rfl rfl rfl (Nat.le_of_ble_eq_true rfl) dX0_board_59 ?_
          rintro v w1 H locs ⟨a_, rfl, rfl⟩ hw
          have hw : bW G A s.heap [[(ad 2, .inr (0, [.ref (ad 8), .ref (ad 9), .ref (ad 10), .ref (ad 11), .ref (ad 12), .int (nI c_), .int lw]))], [(ad 8, .inl (gL G, 6, .inr (.inr (.inr (.inr sg)))))], [(ad 9, .inl (gI G, 12, .inl tu))], [(ad 10, .inl (gI G, 12, .inl wa))], [(ad 11, .inl (gI G, 64, .inl (soT (tsk f i) so c_)))], [(ad 12, .inl (gI G, 64, .inl (hsT (tkd f i) hs c_)))], [(b, .inl (gI G, 60, .inl f))], fam c_ sa (slE (tkd f i) (tsk f i) (tbr f i)), [(a_, .inr (kcT (f (i + 1 + 4 * c_ + 1)), [.int (nI c_), .int (f (i + 1 + 4 * c_ + 2) - 48), .int (f (i + 1 + 4 * c_ + 3) - 48)]))]] H locs := hw
          refine W.eq (g2 := (F0 m 62 ls [.ref a_, .int (nI c_), .ref (ad 8)])) rfl ?_
          refine aw_astq_L S hE hw 1 8 (k := c_) rfl rfl (kcT_or _) (by omega) (by decide) dX0_board_62 (fun H locs hw => ?_)
          have hw : bW G A s.heap [[(ad 2, .inr (0, [.ref (ad 8), .ref (ad 9), .ref (ad 10), .ref (ad 11), .ref (ad 12), .int (nI c_), .int lw]))], [(ad 8, .inl (gL G, 6, .inr (.inr (.inr (.inr (va_up sg c_ (some a_)))))))], [(ad 9, .inl (gI G, 12, .inl tu))], [(ad 10, .inl (gI G, 12, .inl wa))], [(ad 11, .inl (gI G, 64, .inl (soT (tsk f i) so c_)))], [(ad 12, .inl (gI G, 64, .inl (hsT (tkd f i) hs c_)))], [(b, .inl (gI G, 60, .inl f))], fam c_ sa (slE (tkd f i) (tsk f i) (tbr f i)), [(a_, .inr (kcT (f (i + 1 + 4 * c_ + 1)), [.int (nI c_), .int (f (i + 1 + 4 * c_ + 2) - 48), .int (f (i + 1 + 4 * c_ + 3) - 48)]))]] H locs := hw
          rw [slE_T f i c_] at hw
          have hw := aw_push [[(ad 2, .inr (0, [.ref (ad 8), .ref (ad 9), .ref (ad 10), .ref (ad 11), .ref (ad 12), .int (nI c_), .int lw]))], [(ad 8, .inl (gL G, 6, .inr (.inr (.inr (.inr (va_up sg c_ (some a_)))))))], [(ad 9, .inl (gI G, 12, .inl tu))], [(ad 10, .inl (gI G, 12, .inl wa))], [(ad 11, .inl (gI G, 64, .inl (soT (tsk f i) so c_)))], [(ad 12, .inl (gI G, 64, .inl (hsT (tkd f i) hs c_)))], [(b, .inl (gI G, 60, .inl f))], fam c_ sa (slE (tkd f i) (tsk f i) (tbr f i))] hw 7 rfl
          have hw : bW G A s.heap [[(ad 2, .inr (0, [.ref (ad 8), .ref (ad 9), .ref (ad 10), .ref (ad 11), .ref (ad 12), .int (nI c_), .int lw]))], [(ad 8, .inl (gL G, 6, .inr (.inr (.inr (.inr (va_up sg c_ (some a_)))))))], [(ad 9, .inl (gI G, 12, .inl tu))], [(ad 10, .inl (gI G, 12, .inl wa))], [(ad 11, .inl (gI G, 64, .inl (soT (tsk f i) so c_)))], [(ad 12, .inl (gI G, 64, .inl (hsT (tkd f i) hs c_)))], [(b, .inl (gI G, 60, .inl f))], fam (c_ + 1) (va_up sa c_ a_) (slE (tkd f i) (tsk f i) (tbr f i))] H locs := hw
          refine lv_aload_n S.1 S.2.1 dX0_board_63 rfl (lv_at hl 0 rfl) ?_
          refine lv_aload_n S.1 S.2.1 dX0_board_64 rfl (lv_at hl 0 rfl) ?_
          refine aw_get S hE hw 0 (C := RX0) (T := TX0) (N := 7) rfl rfl hinX0 5 (by decide) hf30 rfl dX0_board_65 ?_
          refine aw_callV S hE (c_X0_tellSetsWith l G ad (c_ + 1) (nI c_) lw (va_up sg c_ (some a_)) (va_up sa c_ a_) (tkd f i) (tsk f i) (tbr f i) (soT (tsk f i) so c_) (hsT (tkd f i) hs c_) c_ (by first | assumption | omega) (by first | assumption | omega) (by rw [va_up_self, va_up_self])) gX0_board_X0_tellSetsWith (n := 1) rfl (by decide +kernel) rfl (by rw [hRm]; exact ⟨Nat.le_of_ble_eq_true rfl, Nat.le_of_ble_eq_true rfl⟩) (by rw [hRm]; exact ⟨show c_ + 1 + 0 ≤ 6 by omega, show 3 * c_ + 3 + 0 ≤ 18 by omega⟩) hw hA hl.1 [0, 1, 7, 4, 5] rfl rfl (aw_recv (i := 0) hE hw rfl rfl rfl) rfl (Nat.le_of_ble_eq_true rfl) dX0_board_68 ?_
          rintro v w1 H locs ⟨rfl, rfl⟩ hw
          have hw : bW G A s.heap [[(ad 2, .inr (0, [.ref (ad 8), .ref (ad 9), .ref (ad 10), .ref (ad 11), .ref (ad 12), .int (nI c_), .int lw]))], [(ad 8, .inl (gL G, 6, .inr (.inr (.inr (.inr (va_up sg c_ (some a_)))))))], [(ad 9, .inl (gI G, 12, .inl tu))], [(ad 10, .inl (gI G, 12, .inl wa))], [(ad 11, .inl (gI G, 64, .inl (tsF c_ (2 ^ c_) ((tsk f i) c_) (soT (tsk f i) so c_))))], [(ad 12, .inl (gI G, 64, .inl (thF c_ (2 ^ c_) (hoK ((tkd f i) c_)) (hsT (tkd f i) hs c_))))], [(b, .inl (gI G, 60, .inl f))], fam (c_ + 1) (va_up sa c_ a_) (slE (tkd f i) (tsk f i) (tbr f i))] H locs := hw
          refine W.eq (g2 := (F0 m 71 ls [])) rfl ?_
          refine lv_aload_n S.1 S.2.1 dX0_board_71 rfl (lv_at hl 0 rfl) ?_
          refine lv_dup S.1 S.2.1 dX0_board_72 rfl ?_
          refine aw_get S hE hw 0 (C := RX0) (T := TX0) (N := 7) rfl rfl hinX0 5 (by decide) hf30 rfl dX0_board_73 ?_
          refine lv_iconst (v := 1) S.1 S.2.1 dX0_board_76 (by decide) ?_
          refine lv_iadd S.1 S.2.1 dX0_board_77 ?_
          refine aw_eqi (show ((nI c_) + 1 : Int32) = nI (c_ + 1) from (nI_add c_ 1)) ?_
          refine aw_putf S hE hw 0 (C := RX0) (T := TX0) (N := 7) rfl rfl hinX0 tyX0 tyX0_ok nmX0 5 (by decide) hf30 rfl rfl rfl (Nat.le_of_ble_eq_true rfl) dX0_board_78 (fun H locs hw => ?_)
          have hw : bW G A s.heap [[(ad 2, .inr (0, [.ref (ad 8), .ref (ad 9), .ref (ad 10), .ref (ad 11), .ref (ad 12), .int (nI (c_ + 1)), .int lw]))], [(ad 8, .inl (gL G, 6, .inr (.inr (.inr (.inr (va_up sg c_ (some a_)))))))], [(ad 9, .inl (gI G, 12, .inl tu))], [(ad 10, .inl (gI G, 12, .inl wa))], [(ad 11, .inl (gI G, 64, .inl (tsF c_ (2 ^ c_) ((tsk f i) c_) (soT (tsk f i) so c_))))], [(ad 12, .inl (gI G, 64, .inl (thF c_ (2 ^ c_) (hoK ((tkd f i) c_)) (hsT (tkd f i) hs c_))))], [(b, .inl (gI G, 60, .inl f))], fam (c_ + 1) (va_up sa c_ a_) (slE (tkd f i) (tsk f i) (tbr f i))] H locs := hw
          refine lv_iinc (v := nI (i + 1 + 4 * c_ + 4)) (lv' := [(4, .int (nI (i + 1 + 4 * c_ + 4))), (0, .ref (ad 2)), (1, .ref b), (2, .int (nI i)), (3, .int (nI nn))]) S.1 S.2.1 dX0_board_81 hl (k := 4) rfl (by first | exact nI_add _ 4 | rfl) (by decide) rfl (fun ls hl => ?_)
          refine lv_goto (tgt := 10) S.1 S.2.1 dX0_board_84 (by decide) ?_
          exact ih10 (c_ + 1) (va_up sa c_ a_) (va_up sg c_ (some a_)) (by first | assumption | omega) (fun j hj => (Nat.lt_or_eq_of_le (Nat.le_of_lt_succ hj)).elim (fun h => by rw [va_up_ne _ _ (by omega), va_up_ne _ _ (by omega)]; exact hsg j h) (fun h => by rw [h, va_up_self, va_up_self])) (by omega) _ _ _ (lv_sub hl [1, 2, 3, 4, 0] rfl) hw
  exact loop10 _ 0 (fun _ => 0) sg0 (by first | assumption | omega) (fun j hj => absurd hj (Nat.not_lt_zero j)) (Nat.lt_succ_self _) _ _ _ (lv_sub hl [1, 2, 3, 4, 0] rfl) hw
