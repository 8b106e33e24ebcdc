/-! the reference: trades -/
theorem fF_sB {p : Nat → Bool} {i : Nat} : fF p (i + 1) = i + 1 ↔ fF p i = i ∧ p i = false := by
  have h := fF_le p i
  show (if fF p i < i then fF p i else if p i then i else i + 1) = i + 1 ↔ _
  by_cases q : fF p i < i
  · rw [if_pos q]
    constructor
    · intro z; omega
    · intro z; omega
  · rw [if_neg q]
    by_cases z : p i = true
    · rw [if_pos z, z]
      constructor
      · intro y; omega
      · intro y; cases y.2
    · rw [if_neg z]
      exact ⟨fun _ => ⟨by omega, Bool.not_eq_true _ ▸ z⟩, fun _ => rfl⟩
theorem wrP_b {n : Nat} {lw : Int32} {sk ho br tu wa : Nat → Int32} {i : Nat} : wrP n lw sk ho br tu wa true true i = false ↔ lkF n lw sk tu wa i = 0 ∧ spF n br (hB n ho tu (i + 1)) = -9 := by
  unfold wrP
  rw [Bool.true_and, Bool.true_and, Bool.or_eq_false_iff, Bool.not_eq_false', Bool.not_eq_false', decide_eq_true_eq, decide_eq_true_eq]
set_option maxRecDepth 100000 in
set_option maxHeartbeats 4000000 in
theorem c_X11_mayTrade (l : Launch) (G : aw_G) (am : Nat → Nat) (fl : Int32) (n : Nat) (lw : Int32) (nn ra rsn nr : Nat) (tr : Int32) (kd sk br tu wa me cn hb : Nat → Int32) (a b : Nat) (hn : n ≤ 6) (ha_ : a < 6) (hb_ : b < 6) : CT l G yX11_mayTrade wsX11_mayTrade ({ frames := 3, cells := 0, slots := 0, locals := 69 }) [.ref (am 31), .int (nI a), .int (nI b)] [[(am 31, mdO am fl n lw nn ra rsn nr tr)], [(am 2, .inl (gI G, 6, .inl kd))], [(am 3, .inl (gI G, 6, .inl sk))], [(am 4, .inl (gI G, 6, .inl br))], [(am 5, .inl (gI G, 12, .inl tu))], [(am 6, .inl (gI G, 12, .inl wa))], [(am 16, .inl (gI G, 12, .inl me))], [(am 17, .inl (gI G, 72, .inl cn))], [(am 18, .inl (gI G, 72, .inl hb))]] (fun v w => v = some (.int (if mtF n lw sk (fun j => hoK (kd j)) br tu wa a b = true then 1 else 0)) ∧ ∃ (me cn hb : Nat → Int32), w = [[(am 31, mdO am fl n lw nn ra rsn nr tr)], [(am 2, .inl (gI G, 6, .inl kd))], [(am 3, .inl (gI G, 6, .inl sk))], [(am 4, .inl (gI G, 6, .inl br))], [(am 5, .inl (gI G, 12, .inl tu))], [(am 6, .inl (gI G, 12, .inl wa))], [(am 16, .inl (gI G, 12, .inl me))], [(am 17, .inl (gI G, 72, .inl cn))], [(am 18, .inl (gI G, 72, .inl hb))]]) := by
  refine CT.of (cc := cX11_mayTrade) (nL := 6) (ret := (some .boolean)) (by decide) rfl (Nat.le_of_ble_eq_true rfl) ?_
  intro p e s m below meth c R args Q A hRm ha hQ hAe hA S hE hr hlk hnm H locs hH0 hL0 ls hl hw
  have S : CallFix p m c cX11_mayTrade 6 s args wsX11_mayTrade RX11 := S
  have hl : lv_has ls 6 [(0, .ref (am 31)), (1, .int (nI a)), (2, .int (nI b))] := hl
  have hinX11 : ∀ w ∈ u_ws RX11 TX11 31, w ∈ wsX11_mayTrade := by decide +kernel
  have hf19 := S.2.2.2.2 (.fieldLink RX11 19 "AwakeTurnsModel" "upIn" "[I") (by decide +kernel)
  have hf40 := S.2.2.2.2 (.fieldLink RX11 40 "AwakeTurnsModel" "meant" "[I") (by decide +kernel)
  refine lv_iconst (v := 0) S.1 S.2.1 dX11_mayTrade_0 (by decide) ?_
  refine lv_istore_n (lv' := [(3, .int 0), (0, .ref (am 31)), (1, .int (nI a)), (2, .int (nI b))]) S.1 S.2.1 dX11_mayTrade_1 rfl hl (by decide) rfl (fun ls hl => ?_)
  have hw := aw_arr hw 6 rfl (fa_fill (fun m => swF (tu m) a b) me 0) (fun _ _ => by rw [fa_fill_0])
  have hw : bW G A s.heap [[(am 31, mdO am fl n lw nn ra rsn nr tr)], [(am 2, .inl (gI G, 6, .inl kd))], [(am 3, .inl (gI G, 6, .inl sk))], [(am 4, .inl (gI G, 6, .inl br))], [(am 5, .inl (gI G, 12, .inl tu))], [(am 6, .inl (gI G, 12, .inl wa))], [(am 16, .inl (gI G, 12, .inl (fa_fill (fun m => swF (tu m) a b) me 0)))], [(am 17, .inl (gI G, 72, .inl cn))], [(am 18, .inl (gI G, 72, .inl hb))]] H locs := hw
  have loop2 : ∀ (fu : Nat) (i : Nat), (i ≤ 12) → (12 - i) < fu → ∀ (ls : Array Slot) (H : Heap) (locs : List Loc), lv_has ls 6 [(0, .ref (am 31)), (1, .int (nI a)), (2, .int (nI b)), (3, .int (nI i))] → bW G A s.heap [[(am 31, mdO am fl n lw nn ra rsn nr tr)], [(am 2, .inl (gI G, 6, .inl kd))], [(am 3, .inl (gI G, 6, .inl sk))], [(am 4, .inl (gI G, 6, .inl br))], [(am 5, .inl (gI G, 12, .inl tu))], [(am 6, .inl (gI G, 12, .inl wa))], [(am 16, .inl (gI G, 12, .inl (fa_fill (fun m => swF (tu m) a b) me i)))], [(am 17, .inl (gI G, 72, .inl cn))], [(am 18, .inl (gI G, 72, .inl hb))]] H locs → W p l e R s m args below meth c H locs 0 0 Q (F0 m 2 ls []) := by
    intro fu
    induction fu with
    | zero => intro i _ hm; exact absurd hm (Nat.not_lt_zero _)
    | succ fu ih2 =>
      intro i hi hm ls H locs hl hw
      refine lv_iload_n S.1 S.2.1 dX11_mayTrade_2 rfl (lv_at hl 3 rfl) ?_
      refine lv_bipush (v := 12) S.1 S.2.1 dX11_mayTrade_3 (by decide) ?_
      refine aw_icmpN_ge (x := i) (y := 12) (tgt := 82) S (by omega) (by omega) dX11_mayTrade_5 (by decide) (fun c5 => ?_) (fun c5 => ?_)
      · have ex_i : i = 12 := by omega
        try rw [ex_i] at hl
        try rw [ex_i] at hw
        have hw := aw_arr hw 6 rfl (fun m => swF (tu m) a b) (fun j hj => by rw [fa_fill_in hj])
        have hw : bW G A s.heap [[(am 31, mdO am fl n lw nn ra rsn nr tr)], [(am 2, .inl (gI G, 6, .inl kd))], [(am 3, .inl (gI G, 6, .inl sk))], [(am 4, .inl (gI G, 6, .inl br))], [(am 5, .inl (gI G, 12, .inl tu))], [(am 6, .inl (gI G, 12, .inl wa))], [(am 16, .inl (gI G, 12, .inl (fun m => swF (tu m) a b)))], [(am 17, .inl (gI G, 72, .inl cn))], [(am 18, .inl (gI G, 72, .inl hb))]] H locs := hw
        refine lv_aload_n S.1 S.2.1 dX11_mayTrade_82 rfl (lv_at hl 0 rfl) ?_
        refine aw_callV S hE (c_X11_goMonths l G am fl n lw nn ra rsn nr tr kd sk (fun m => swF (tu m) a b) cn hb (by first | assumption | omega)) gX11_mayTrade_X11_goMonths (n := 0) rfl (by decide +kernel) rfl (by rw [hRm]; exact ⟨Nat.le_of_ble_eq_true rfl, Nat.le_of_ble_eq_true rfl⟩) (by rw [hRm]; exact ⟨Nat.le_of_ble_eq_true rfl, Nat.le_of_ble_eq_true rfl⟩) hw hA hl.1 [0, 1, 2, 6, 7, 8] rfl rfl (aw_recv (i := 0) hE hw rfl rfl rfl) rfl (Nat.le_of_ble_eq_true rfl) dX11_mayTrade_83 ?_
        rintro v w1 H locs ⟨rfl, rfl⟩ hw
        have hw : bW G A s.heap [[(am 31, mdO am fl n lw nn ra rsn nr tr)], [(am 2, .inl (gI G, 6, .inl kd))], [(am 3, .inl (gI G, 6, .inl sk))], [(am 4, .inl (gI G, 6, .inl br))], [(am 5, .inl (gI G, 12, .inl tu))], [(am 6, .inl (gI G, 12, .inl wa))], [(am 16, .inl (gI G, 12, .inl (fun m => swF (tu m) a b)))], [(am 17, .inl (gI G, 72, .inl (tbF (kA n lw sk (fun m => swF (tu m) a b)) n 72 cn)))], [(am 18, .inl (gI G, 72, .inl (tbF (fun m => hB n (fun j => hoK (kd j)) (fun m => swF (tu m) a b) (m + 1)) n 72 hb)))]] H locs := hw
        refine W.eq (g2 := (F0 m 86 ls [])) rfl ?_
        refine lv_iconst (v := 1) S.1 S.2.1 dX11_mayTrade_86 (by decide) ?_
        refine lv_istore_n (lv' := [(3, .int 1), (0, .ref (am 31)), (1, .int (nI a)), (2, .int (nI b))]) S.1 S.2.1 dX11_mayTrade_87 rfl hl (by decide) rfl (fun ls hl => ?_)
        refine lv_iconst (v := 0) S.1 S.2.1 dX11_mayTrade_88 (by decide) ?_
        refine lv_istore (lv' := [(4, .int 0), (3, .int 1), (0, .ref (am 31)), (1, .int (nI a)), (2, .int (nI b))]) S.1 S.2.1 dX11_mayTrade_89 hl (by decide) rfl (fun ls hl => ?_)
        have hl := Eq.mp (congrArg (fun z_ : Int32 => lv_has ls 6 [(4, .int 0), (3, .int z_), (0, .ref (am 31)), (1, .int (nI a)), (2, .int (nI b))]) (show (1 : Int32) = if fF (wrP n lw sk (fun j => hoK (kd j)) br (fun m => swF (tu m) a b) wa true true) 0 = 0 then 1 else 0 from rfl)) hl
        have hl : lv_has ls 6 [(4, .int 0), (3, .int (if fF (wrP n lw sk (fun j => hoK (kd j)) br (fun m => swF (tu m) a b) wa true true) 0 = 0 then 1 else 0)), (0, .ref (am 31)), (1, .int (nI a)), (2, .int (nI b))] := hl
        have loop91 : ∀ (fu : Nat) (i : Nat), (i ≤ 12) → (12 - i) < fu → ∀ (ls : Array Slot) (H : Heap) (locs : List Loc), lv_has ls 6 [(0, .ref (am 31)), (3, .int (if fF (wrP n lw sk (fun j => hoK (kd j)) br (fun m => swF (tu m) a b) wa true true) i = i then 1 else 0)), (4, .int (nI i))] → bW G A s.heap [[(am 31, mdO am fl n lw nn ra rsn nr tr)], [(am 2, .inl (gI G, 6, .inl kd))], [(am 3, .inl (gI G, 6, .inl sk))], [(am 4, .inl (gI G, 6, .inl br))], [(am 5, .inl (gI G, 12, .inl tu))], [(am 6, .inl (gI G, 12, .inl wa))], [(am 16, .inl (gI G, 12, .inl (fun m => swF (tu m) a b)))], [(am 17, .inl (gI G, 72, .inl (tbF (kA n lw sk (fun m => swF (tu m) a b)) n 72 cn)))], [(am 18, .inl (gI G, 72, .inl (tbF (fun m => hB n (fun j => hoK (kd j)) (fun m => swF (tu m) a b) (m + 1)) n 72 hb)))]] H locs → W p l e R s m args below meth c H locs 0 0 Q (F0 m 91 ls []) := by
          intro fu
          induction fu with
          | zero => intro i _ hm; exact absurd hm (Nat.not_lt_zero _)
          | succ fu ih91 =>
            intro i hi hm ls H locs hl hw
            refine lv_iload S.1 S.2.1 dX11_mayTrade_91 (lv_at hl 2 rfl) ?_
            refine lv_bipush (v := 12) S.1 S.2.1 dX11_mayTrade_93 (by decide) ?_
            refine aw_icmpN_ge (x := i) (y := 12) (tgt := 132) S (by omega) (by omega) dX11_mayTrade_95 (by decide) (fun c95 => ?_) (fun c95 => ?_)
            · have ex_i : i = 12 := by omega
              try rw [ex_i] at hl
              try rw [ex_i] at hw
              refine lv_iload_n S.1 S.2.1 dX11_mayTrade_132 rfl (lv_at hl 1 rfl) ?_
              refine aw_eqi (show (if fF (wrP n lw sk (fun j => hoK (kd j)) br (fun m => swF (tu m) a b) wa true true) 12 = 12 then 1 else 0 : Int32) = if mtF n lw sk (fun j => hoK (kd j)) br tu wa a b = true then 1 else 0 from (aw_ifi (show _ ↔ mtF n lw sk (fun j => hoK (kd j)) br tu wa a b = true from decide_eq_true_iff.symm))) ?_
              exact aw_iret S hr hlk ha hQ hAe hw dX11_mayTrade_133 (aw_nb _) (Nat.le_of_ble_eq_true rfl) (Nat.le_of_ble_eq_true rfl) ⟨rfl, _, _, _, rfl⟩
            · refine lv_iload_n S.1 S.2.1 dX11_mayTrade_98 rfl (lv_at hl 1 rfl) ?_
              have join125 : ∀ (H : Heap) (locs : List Loc), ∀ (ls : Array Slot), lv_has ls 6 [(0, .ref (am 31)), (3, .int (if fF (wrP n lw sk (fun j => hoK (kd j)) br (fun m => swF (tu m) a b) wa true true) i = i then 1 else 0)), (4, .int (nI i))] → bW G A s.heap [[(am 31, mdO am fl n lw nn ra rsn nr tr)], [(am 2, .inl (gI G, 6, .inl kd))], [(am 3, .inl (gI G, 6, .inl sk))], [(am 4, .inl (gI G, 6, .inl br))], [(am 5, .inl (gI G, 12, .inl tu))], [(am 6, .inl (gI G, 12, .inl wa))], [(am 16, .inl (gI G, 12, .inl (fun m => swF (tu m) a b)))], [(am 17, .inl (gI G, 72, .inl (tbF (kA n lw sk (fun m => swF (tu m) a b)) n 72 cn)))], [(am 18, .inl (gI G, 72, .inl (tbF (fun m => hB n (fun j => hoK (kd j)) (fun m => swF (tu m) a b) (m + 1)) n 72 hb)))]] H locs → W p l e R s m args below meth c H locs 0 0 Q (F0 m 125 ls [.int (if fF (wrP n lw sk (fun j => hoK (kd j)) br (fun m => swF (tu m) a b) wa true true) (i + 1) = i + 1 then 1 else 0)]) := by
                intro  H locs ls hl hw
                refine lv_istore_n (lv' := [(3, .int (if fF (wrP n lw sk (fun j => hoK (kd j)) br (fun m => swF (tu m) a b) wa true true) (i + 1) = i + 1 then 1 else 0)), (0, .ref (am 31)), (4, .int (nI i))]) S.1 S.2.1 dX11_mayTrade_125 rfl hl (by decide) rfl (fun ls hl => ?_)
                refine lv_iinc (v := nI (i + 1)) (lv' := [(4, .int (nI (i + 1))), (3, .int (if fF (wrP n lw sk (fun j => hoK (kd j)) br (fun m => swF (tu m) a b) wa true true) (i + 1) = i + 1 then 1 else 0)), (0, .ref (am 31))]) S.1 S.2.1 dX11_mayTrade_126 hl (k := 2) rfl (by first | exact nI_1 _ | exact nI_add _ _ | rfl) (by decide) rfl (fun ls hl => ?_)
                refine lv_goto (tgt := 91) S.1 S.2.1 dX11_mayTrade_129 (by decide) ?_
                exact ih91 (i + 1) (by first | assumption | omega) (by omega) _ _ _ (lv_sub hl [2, 1, 0] rfl) hw
              refine aw_ifeq (P := fF (wrP n lw sk (fun j => hoK (kd j)) br (fun m => swF (tu m) a b) wa true true) i = i) (tgt := 124) S dX11_mayTrade_99 (by decide) (fun c99 => ?_) (fun c99 => ?_)
              · refine lv_iconst (v := 0) S.1 S.2.1 dX11_mayTrade_124 (by decide) ?_
                refine aw_eqi (show (0 : Int32) = if fF (wrP n lw sk (fun j => hoK (kd j)) br (fun m => swF (tu m) a b) wa true true) (i + 1) = i + 1 then 1 else 0 from (by rw [if_neg (fun q => c99 (fF_sB.mp q).1)])) ?_
                exact join125  _ _ _ (lv_sub hl [0, 1, 2] rfl) hw
              · refine lv_aload_n S.1 S.2.1 dX11_mayTrade_102 rfl (lv_at hl 0 rfl) ?_
                refine lv_iload S.1 S.2.1 dX11_mayTrade_103 (lv_at hl 2 rfl) ?_
                refine aw_callV S hE (c_X11_lackedIn l G am fl n lw nn ra rsn nr tr wa (fun m => swF (tu m) a b) (tbF (kA n lw sk (fun m => swF (tu m) a b)) n 72 cn) i (by first | assumption | omega) (by first | assumption | omega)) gX11_mayTrade_X11_lackedIn (n := 1) rfl (by decide +kernel) rfl (by rw [hRm]; exact ⟨Nat.le_of_ble_eq_true rfl, Nat.le_of_ble_eq_true rfl⟩) (by rw [hRm]; exact ⟨Nat.le_of_ble_eq_true rfl, Nat.le_of_ble_eq_true rfl⟩) hw hA hl.1 [0, 5, 6, 7] rfl rfl (aw_recv (i := 0) hE hw rfl rfl rfl) rfl (Nat.le_of_ble_eq_true rfl) dX11_mayTrade_105 ?_
                rintro v w1 H locs ⟨rfl, rfl⟩ hw
                have hw : bW G A s.heap [[(am 31, mdO am fl n lw nn ra rsn nr tr)], [(am 2, .inl (gI G, 6, .inl kd))], [(am 3, .inl (gI G, 6, .inl sk))], [(am 4, .inl (gI G, 6, .inl br))], [(am 5, .inl (gI G, 12, .inl tu))], [(am 6, .inl (gI G, 12, .inl wa))], [(am 16, .inl (gI G, 12, .inl (fun m => swF (tu m) a b)))], [(am 17, .inl (gI G, 72, .inl (tbF (kA n lw sk (fun m => swF (tu m) a b)) n 72 cn)))], [(am 18, .inl (gI G, 72, .inl (tbF (fun m => hB n (fun j => hoK (kd j)) (fun m => swF (tu m) a b) (m + 1)) n 72 hb)))]] H locs := hw
                refine W.eq (g2 := (F0 m 108 ls [.int (wa i &&& (tgF ((fun m => swF (tu m) a b) i) (fun s => (tbF (kA n lw sk (fun m => swF (tu m) a b)) n 72 cn) (6 * i + s)) n ^^^ (-1)))])) rfl ?_
                refine aw_eqi (show (wa i &&& (tgF ((fun m => swF (tu m) a b) i) (fun s => (tbF (kA n lw sk (fun m => swF (tu m) a b)) n 72 cn) (6 * i + s)) n ^^^ (-1)) : Int32) = lkF n lw sk (fun m => swF (tu m) a b) wa i from (lk_tb (tu := fun m => swF (tu m) a b) hn (by omega))) ?_
                refine lv_if_ne (tgt := 124) S.1 S.2.1 dX11_mayTrade_108 (by decide) (fun c108 => ?_) (fun c108 => ?_)
                · refine lv_iconst (v := 0) S.1 S.2.1 dX11_mayTrade_124 (by decide) ?_
                  refine aw_eqi (show (0 : Int32) = if fF (wrP n lw sk (fun j => hoK (kd j)) br (fun m => swF (tu m) a b) wa true true) (i + 1) = i + 1 then 1 else 0 from (by rw [if_neg (fun q => c108 (wrP_b.mp (fF_sB.mp q).2).1)])) ?_
                  exact join125  _ _ _ (lv_sub hl [0, 1, 2] rfl) hw
                · refine lv_aload_n S.1 S.2.1 dX11_mayTrade_111 rfl (lv_at hl 0 rfl) ?_
                  refine lv_iload S.1 S.2.1 dX11_mayTrade_112 (lv_at hl 2 rfl) ?_
                  refine aw_callV S hE (c_X11_spentIn l G am fl n lw nn ra rsn nr tr br (tbF (fun m => hB n (fun j => hoK (kd j)) (fun m => swF (tu m) a b) (m + 1)) n 72 hb) i (by first | assumption | omega) (by first | assumption | omega)) gX11_mayTrade_X11_spentIn (n := 1) rfl (by decide +kernel) rfl (by rw [hRm]; exact ⟨Nat.le_of_ble_eq_true rfl, Nat.le_of_ble_eq_true rfl⟩) (by rw [hRm]; exact ⟨Nat.le_of_ble_eq_true rfl, Nat.le_of_ble_eq_true rfl⟩) hw hA hl.1 [0, 3, 8] rfl rfl (aw_recv (i := 0) hE hw rfl rfl rfl) rfl (Nat.le_of_ble_eq_true rfl) dX11_mayTrade_114 ?_
                  rintro v w1 H locs ⟨rfl, rfl⟩ hw
                  have hw : bW G A s.heap [[(am 31, mdO am fl n lw nn ra rsn nr tr)], [(am 2, .inl (gI G, 6, .inl kd))], [(am 3, .inl (gI G, 6, .inl sk))], [(am 4, .inl (gI G, 6, .inl br))], [(am 5, .inl (gI G, 12, .inl tu))], [(am 6, .inl (gI G, 12, .inl wa))], [(am 16, .inl (gI G, 12, .inl (fun m => swF (tu m) a b)))], [(am 17, .inl (gI G, 72, .inl (tbF (kA n lw sk (fun m => swF (tu m) a b)) n 72 cn)))], [(am 18, .inl (gI G, 72, .inl (tbF (fun m => hB n (fun j => hoK (kd j)) (fun m => swF (tu m) a b) (m + 1)) n 72 hb)))]] H locs := hw
                  refine W.eq (g2 := (F0 m 117 ls [.int (spF n br (fun s => (tbF (fun m => hB n (fun j => hoK (kd j)) (fun m => swF (tu m) a b) (m + 1)) n 72 hb) (6 * i + s)))])) rfl ?_
                  refine aw_eqi (show (spF n br (fun s => (tbF (fun m => hB n (fun j => hoK (kd j)) (fun m => swF (tu m) a b) (m + 1)) n 72 hb) (6 * i + s)) : Int32) = spF n br (hB n (fun j => hoK (kd j)) (fun m => swF (tu m) a b) (i + 1)) from (sp_tb hn (by omega))) ?_
                  refine lv_if_ge (tgt := 124) S.1 S.2.1 dX11_mayTrade_117 (by decide) (fun c117 => ?_) (fun c117 => ?_)
                  · refine lv_iconst (v := 0) S.1 S.2.1 dX11_mayTrade_124 (by decide) ?_
                    refine aw_eqi (show (0 : Int32) = if fF (wrP n lw sk (fun j => hoK (kd j)) br (fun m => swF (tu m) a b) wa true true) (i + 1) = i + 1 then 1 else 0 from (by rw [if_neg (fun q => (sp_pos hn).mp c117 (wrP_b.mp (fF_sB.mp q).2).2)])) ?_
                    exact join125  _ _ _ (lv_sub hl [0, 1, 2] rfl) hw
                  · refine lv_iconst (v := 1) S.1 S.2.1 dX11_mayTrade_120 (by decide) ?_
                    refine lv_goto (tgt := 125) S.1 S.2.1 dX11_mayTrade_121 (by decide) ?_
                    refine aw_eqi (show (1 : Int32) = if fF (wrP n lw sk (fun j => hoK (kd j)) br (fun m => swF (tu m) a b) wa true true) (i + 1) = i + 1 then 1 else 0 from (by rw [if_pos (fF_sB.mpr ⟨c99, wrP_b.mpr ⟨c108, Decidable.not_not.mp (fun q => c117 ((sp_pos hn).mpr q))⟩⟩)])) ?_
                    exact join125  _ _ _ (lv_sub hl [0, 1, 2] rfl) hw
        exact loop91 _ 0 (by first | assumption | omega) (Nat.lt_succ_self _) _ _ _ (lv_sub hl [2, 1, 0] rfl) hw
      · refine lv_iconst (v := 1) S.1 S.2.1 dX11_mayTrade_8 (by decide) ?_
        refine lv_iload_n S.1 S.2.1 dX11_mayTrade_9 rfl (lv_at hl 1 rfl) ?_
        refine lv_ishl S.1 S.2.1 dX11_mayTrade_10 ?_
        refine lv_iconst (v := 1) S.1 S.2.1 dX11_mayTrade_11 (by decide) ?_
        refine lv_iload_n S.1 S.2.1 dX11_mayTrade_12 rfl (lv_at hl 2 rfl) ?_
        refine lv_ishl S.1 S.2.1 dX11_mayTrade_13 ?_
        refine lv_ior S.1 S.2.1 dX11_mayTrade_14 ?_
        refine lv_istore (lv' := [(4, .int ((1 <<< ((nI a) &&& 31)) ||| (1 <<< ((nI b) &&& 31)))), (0, .ref (am 31)), (1, .int (nI a)), (2, .int (nI b)), (3, .int (nI i))]) S.1 S.2.1 dX11_mayTrade_15 hl (by decide) rfl (fun ls hl => ?_)
        refine lv_aload_n S.1 S.2.1 dX11_mayTrade_17 rfl (lv_at hl 1 rfl) ?_
        refine aw_get S hE hw 0 (C := RX11) (T := TX11) (N := 31) rfl rfl hinX11 5 (by decide) hf19 rfl dX11_mayTrade_18 ?_
        refine lv_iload_n S.1 S.2.1 dX11_mayTrade_21 rfl (lv_at hl 4 rfl) ?_
        refine aw_iald S hE hw 4 (k := i) rfl (by omega) (by decide) dX11_mayTrade_22 ?_
        refine lv_iload_n S.1 S.2.1 dX11_mayTrade_23 rfl (lv_at hl 2 rfl) ?_
        refine aw_callS S hE (c_X11_isIn l G (tu i) a (by first | assumption | omega)) gX11_mayTrade_X11_isIn (n := 2) rfl (by decide +kernel) rfl (by rw [hRm]; exact ⟨Nat.le_of_ble_eq_true rfl, Nat.le_of_ble_eq_true rfl⟩) (by rw [hRm]; exact ⟨Nat.le_of_ble_eq_true rfl, Nat.le_of_ble_eq_true rfl⟩) hw hA hl.1 [] rfl rfl rfl (Nat.le_of_ble_eq_true rfl) dX11_mayTrade_24 ?_
        rintro v w1 H locs ⟨rfl, rfl⟩ hw
        have hw : bW G A s.heap [[(am 31, mdO am fl n lw nn ra rsn nr tr)], [(am 2, .inl (gI G, 6, .inl kd))], [(am 3, .inl (gI G, 6, .inl sk))], [(am 4, .inl (gI G, 6, .inl br))], [(am 5, .inl (gI G, 12, .inl tu))], [(am 6, .inl (gI G, 12, .inl wa))], [(am 16, .inl (gI G, 12, .inl (fa_fill (fun m => swF (tu m) a b) me i)))], [(am 17, .inl (gI G, 72, .inl cn))], [(am 18, .inl (gI G, 72, .inl hb))]] H locs := hw
        refine W.eq (g2 := (F0 m 27 ls [.int (if bt (tu i) a = true then 1 else 0)])) rfl ?_
        refine lv_aload_n S.1 S.2.1 dX11_mayTrade_27 rfl (lv_at hl 1 rfl) ?_
        refine aw_get S hE hw 0 (C := RX11) (T := TX11) (N := 31) rfl rfl hinX11 5 (by decide) hf19 rfl dX11_mayTrade_28 ?_
        refine lv_iload_n S.1 S.2.1 dX11_mayTrade_31 rfl (lv_at hl 4 rfl) ?_
        refine aw_iald S hE hw 4 (k := i) rfl (by omega) (by decide) dX11_mayTrade_32 ?_
        refine lv_iload_n S.1 S.2.1 dX11_mayTrade_33 rfl (lv_at hl 3 rfl) ?_
        refine aw_callS S hE (c_X11_isIn l G (tu i) b (by first | assumption | omega)) gX11_mayTrade_X11_isIn (n := 2) rfl (by decide +kernel) rfl (by rw [hRm]; exact ⟨Nat.le_of_ble_eq_true rfl, Nat.le_of_ble_eq_true rfl⟩) (by rw [hRm]; exact ⟨Nat.le_of_ble_eq_true rfl, Nat.le_of_ble_eq_true rfl⟩) hw hA hl.1 [] rfl rfl rfl (Nat.le_of_ble_eq_true rfl) dX11_mayTrade_34 ?_
        rintro v w1 H locs ⟨rfl, rfl⟩ hw
        have hw : bW G A s.heap [[(am 31, mdO am fl n lw nn ra rsn nr tr)], [(am 2, .inl (gI G, 6, .inl kd))], [(am 3, .inl (gI G, 6, .inl sk))], [(am 4, .inl (gI G, 6, .inl br))], [(am 5, .inl (gI G, 12, .inl tu))], [(am 6, .inl (gI G, 12, .inl wa))], [(am 16, .inl (gI G, 12, .inl (fa_fill (fun m => swF (tu m) a b) me i)))], [(am 17, .inl (gI G, 72, .inl cn))], [(am 18, .inl (gI G, 72, .inl hb))]] H locs := hw
        refine W.eq (g2 := (F0 m 37 ls [.int (if bt (tu i) b = true then 1 else 0), .int (if bt (tu i) a = true then 1 else 0)])) rfl ?_
        have join45 : ∀ (H : Heap) (locs : List Loc), ∀ (ls : Array Slot), lv_has ls 6 [(4, .int ((1 <<< ((nI a) &&& 31)) ||| (1 <<< ((nI b) &&& 31)))), (0, .ref (am 31)), (1, .int (nI a)), (2, .int (nI b)), (3, .int (nI i))] → bW G A s.heap [[(am 31, mdO am fl n lw nn ra rsn nr tr)], [(am 2, .inl (gI G, 6, .inl kd))], [(am 3, .inl (gI G, 6, .inl sk))], [(am 4, .inl (gI G, 6, .inl br))], [(am 5, .inl (gI G, 12, .inl tu))], [(am 6, .inl (gI G, 12, .inl wa))], [(am 16, .inl (gI G, 12, .inl (fa_fill (fun m => swF (tu m) a b) me i)))], [(am 17, .inl (gI G, 72, .inl cn))], [(am 18, .inl (gI G, 72, .inl hb))]] H locs → W p l e R s m args below meth c H locs 0 0 Q (F0 m 45 ls [.int (if ¬ bt (tu i) a = bt (tu i) b then 1 else 0)]) := by
          intro  H locs ls hl hw
          refine lv_istore (lv' := [(5, .int (if ¬ bt (tu i) a = bt (tu i) b then 1 else 0)), (4, .int ((1 <<< ((nI a) &&& 31)) ||| (1 <<< ((nI b) &&& 31)))), (0, .ref (am 31)), (1, .int (nI a)), (2, .int (nI b)), (3, .int (nI i))]) S.1 S.2.1 dX11_mayTrade_45 hl (by decide) rfl (fun ls hl => ?_)
          refine lv_aload_n S.1 S.2.1 dX11_mayTrade_47 rfl (lv_at hl 2 rfl) ?_
          refine aw_get S hE hw 0 (C := RX11) (T := TX11) (N := 31) rfl rfl hinX11 16 (by decide) hf40 rfl dX11_mayTrade_48 ?_
          refine lv_iload_n S.1 S.2.1 dX11_mayTrade_51 rfl (lv_at hl 5 rfl) ?_
          refine lv_iload S.1 S.2.1 dX11_mayTrade_52 (lv_at hl 0 rfl) ?_
          have join75 : ∀ (H : Heap) (locs : List Loc), ∀ (ls : Array Slot), lv_has ls 6 [(5, .int (if ¬ bt (tu i) a = bt (tu i) b then 1 else 0)), (4, .int ((1 <<< ((nI a) &&& 31)) ||| (1 <<< ((nI b) &&& 31)))), (0, .ref (am 31)), (1, .int (nI a)), (2, .int (nI b)), (3, .int (nI i))] → bW G A s.heap [[(am 31, mdO am fl n lw nn ra rsn nr tr)], [(am 2, .inl (gI G, 6, .inl kd))], [(am 3, .inl (gI G, 6, .inl sk))], [(am 4, .inl (gI G, 6, .inl br))], [(am 5, .inl (gI G, 12, .inl tu))], [(am 6, .inl (gI G, 12, .inl wa))], [(am 16, .inl (gI G, 12, .inl (fa_fill (fun m => swF (tu m) a b) me i)))], [(am 17, .inl (gI G, 72, .inl cn))], [(am 18, .inl (gI G, 72, .inl hb))]] H locs → W p l e R s m args below meth c H locs 0 0 Q (F0 m 75 ls [.int (swF (tu i) a b), .int (nI i), .ref (am 16)]) := by
            intro  H locs ls hl hw
            refine aw_iast S hE hw 6 (k := i) rfl (by omega) (by decide) dX11_mayTrade_75 (fun H locs hw => ?_)
            have hw : bW G A s.heap [[(am 31, mdO am fl n lw nn ra rsn nr tr)], [(am 2, .inl (gI G, 6, .inl kd))], [(am 3, .inl (gI G, 6, .inl sk))], [(am 4, .inl (gI G, 6, .inl br))], [(am 5, .inl (gI G, 12, .inl tu))], [(am 6, .inl (gI G, 12, .inl wa))], [(am 16, .inl (gI G, 12, .inl (upd (fa_fill (fun m => swF (tu m) a b) me i) i (swF (tu i) a b))))], [(am 17, .inl (gI G, 72, .inl cn))], [(am 18, .inl (gI G, 72, .inl hb))]] H locs := hw
            refine lv_iinc (v := nI (i + 1)) (lv' := [(3, .int (nI (i + 1))), (5, .int (if ¬ bt (tu i) a = bt (tu i) b then 1 else 0)), (4, .int ((1 <<< ((nI a) &&& 31)) ||| (1 <<< ((nI b) &&& 31)))), (0, .ref (am 31)), (1, .int (nI a)), (2, .int (nI b))]) S.1 S.2.1 dX11_mayTrade_76 hl (k := 5) rfl (by first | exact nI_1 _ | exact nI_add _ _ | rfl) (by decide) rfl (fun ls hl => ?_)
            refine lv_goto (tgt := 2) S.1 S.2.1 dX11_mayTrade_79 (by decide) ?_
            have hw := aw_arr hw 6 rfl (fa_fill (fun m => swF (tu m) a b) me (i + 1)) (fun _ _ => by rw [← fa_fill_succ])
            have hw : bW G A s.heap [[(am 31, mdO am fl n lw nn ra rsn nr tr)], [(am 2, .inl (gI G, 6, .inl kd))], [(am 3, .inl (gI G, 6, .inl sk))], [(am 4, .inl (gI G, 6, .inl br))], [(am 5, .inl (gI G, 12, .inl tu))], [(am 6, .inl (gI G, 12, .inl wa))], [(am 16, .inl (gI G, 12, .inl (fa_fill (fun m => swF (tu m) a b) me (i + 1))))], [(am 17, .inl (gI G, 72, .inl cn))], [(am 18, .inl (gI G, 72, .inl hb))]] H locs := hw
            exact ih2 (i + 1) (by first | assumption | omega) (by omega) _ _ _ (lv_sub hl [3, 4, 5, 0] rfl) hw
          refine aw_ifeq (P := ¬ bt (tu i) a = bt (tu i) b) (tgt := 69) S dX11_mayTrade_54 (by decide) (fun c54 => ?_) (fun c54 => ?_)
          · refine lv_aload_n S.1 S.2.1 dX11_mayTrade_69 rfl (lv_at hl 2 rfl) ?_
            refine aw_get S hE hw 0 (C := RX11) (T := TX11) (N := 31) rfl rfl hinX11 5 (by decide) hf19 rfl dX11_mayTrade_70 ?_
            refine lv_iload_n S.1 S.2.1 dX11_mayTrade_73 rfl (lv_at hl 5 rfl) ?_
            refine aw_iald S hE hw 4 (k := i) rfl (by omega) (by decide) dX11_mayTrade_74 ?_
            refine aw_eqi (show (tu i : Int32) = swF (tu i) a b from (by rw [swF, if_pos (Decidable.not_not.mp c54)])) ?_
            exact join75  _ _ _ (lv_sub hl [0, 1, 2, 3, 4, 5] rfl) hw
          · refine lv_aload_n S.1 S.2.1 dX11_mayTrade_57 rfl (lv_at hl 2 rfl) ?_
            refine aw_get S hE hw 0 (C := RX11) (T := TX11) (N := 31) rfl rfl hinX11 5 (by decide) hf19 rfl dX11_mayTrade_58 ?_
            refine lv_iload_n S.1 S.2.1 dX11_mayTrade_61 rfl (lv_at hl 5 rfl) ?_
            refine aw_iald S hE hw 4 (k := i) rfl (by omega) (by decide) dX11_mayTrade_62 ?_
            refine lv_iload S.1 S.2.1 dX11_mayTrade_63 (lv_at hl 1 rfl) ?_
            refine lv_ixor S.1 S.2.1 dX11_mayTrade_65 ?_
            refine lv_goto (tgt := 75) S.1 S.2.1 dX11_mayTrade_66 (by decide) ?_
            refine aw_eqi (show ((tu i) ^^^ ((1 <<< ((nI a) &&& 31)) ||| (1 <<< ((nI b) &&& 31))) : Int32) = swF (tu i) a b from (by rw [swF, if_neg c54])) ?_
            exact join75  _ _ _ (lv_sub hl [0, 1, 2, 3, 4, 5] rfl) hw
        refine lv_icmp_eq (tgt := 44) S.1 S.2.1 dX11_mayTrade_37 (by decide) (fun c37 => ?_) (fun c37 => ?_)
        · refine lv_iconst (v := 0) S.1 S.2.1 dX11_mayTrade_44 (by decide) ?_
          refine aw_eqi (show (0 : Int32) = if ¬ bt (tu i) a = bt (tu i) b then 1 else 0 from (by rw [if_neg (fun q => q (b_eqB.mp c37))])) ?_
          exact join45  _ _ _ (lv_sub hl [0, 1, 2, 3, 4] rfl) hw
        · refine lv_iconst (v := 1) S.1 S.2.1 dX11_mayTrade_40 (by decide) ?_
          refine lv_goto (tgt := 45) S.1 S.2.1 dX11_mayTrade_41 (by decide) ?_
          refine aw_eqi (show (1 : Int32) = if ¬ bt (tu i) a = bt (tu i) b then 1 else 0 from (by rw [if_pos (fun q => c37 (b_eqB.mpr q))])) ?_
          exact join45  _ _ _ (lv_sub hl [0, 1, 2, 3, 4] rfl) hw
  exact loop2 _ 0 (by first | assumption | omega) (Nat.lt_succ_self _) _ _ _ (lv_sub hl [1, 2, 3, 0] rfl) hw
set_option maxRecDepth 100000 in
set_option maxHeartbeats 4000000 in
theorem c_X11_trades (l : Launch) (G : aw_G) (am : Nat → Nat) (fl : Int32) (n : Nat) (lw : Int32) (nn ra rsn nr : Nat) (tr : Int32) (kd sk br tu wa me cn hb : Nat → Int32) (kv : Int32) (hn : n ≤ 6) : CT l G yX11_trades wsX11_trades ({ frames := 4, cells := 0, slots := 0, locals := 94 }) [.ref (am 31), .int kv] [[(am 31, mdO am fl n lw nn ra rsn nr tr)], [(am 2, .inl (gI G, 6, .inl kd))], [(am 3, .inl (gI G, 6, .inl sk))], [(am 4, .inl (gI G, 6, .inl br))], [(am 5, .inl (gI G, 12, .inl tu))], [(am 6, .inl (gI G, 12, .inl wa))], [(am 16, .inl (gI G, 12, .inl me))], [(am 17, .inl (gI G, 72, .inl cn))], [(am 18, .inl (gI G, 72, .inl hb))]] (fun v w => v = some (.int (f_trades n (mtF n lw sk (fun j => hoK (kd j)) br tu wa) kv)) ∧ ∃ (me cn hb : Nat → Int32), w = [[(am 31, mdO am fl n lw nn ra rsn nr tr)], [(am 2, .inl (gI G, 6, .inl kd))], [(am 3, .inl (gI G, 6, .inl sk))], [(am 4, .inl (gI G, 6, .inl br))], [(am 5, .inl (gI G, 12, .inl tu))], [(am 6, .inl (gI G, 12, .inl wa))], [(am 16, .inl (gI G, 12, .inl me))], [(am 17, .inl (gI G, 72, .inl cn))], [(am 18, .inl (gI G, 72, .inl hb))]]) := by
  refine CT.of (cc := cX11_trades) (nL := 5) (ret := (some .int)) (by decide) rfl (Nat.le_of_ble_eq_true rfl) ?_
  intro p e s m below meth c R args Q A hRm ha hQ hAe hA S hE hr hlk hnm H locs hH0 hL0 ls hl hw
  have S : CallFix p m c cX11_trades 5 s args wsX11_trades RX11 := S
  have hl : lv_has ls 5 [(0, .ref (am 31)), (1, .int kv)] := hl
  have hinX11 : ∀ w ∈ u_ws RX11 TX11 31, w ∈ wsX11_trades := by decide +kernel
  have hf90 := S.2.2.2.2 (.fieldLink RX11 90 "AwakeTurnsModel" "sleepers" "I") (by decide +kernel)
  refine lv_iload_n S.1 S.2.1 dX11_trades_0 rfl (lv_at hl 1 rfl) ?_
  refine lv_iconst (v := (-1)) S.1 S.2.1 dX11_trades_1 (by decide) ?_
  refine lv_icmp_ge (tgt := 7) S.1 S.2.1 dX11_trades_2 (by decide) (fun c2 => ?_) (fun c2 => ?_)
  · have c2 : ¬ kv < -1 := by rw [fa_lt]; rw [fa_le] at c2; omega
    refine lv_aload_n S.1 S.2.1 dX11_trades_7 rfl (lv_at hl 0 rfl) ?_
    refine aw_get S hE hw 0 (C := RX11) (T := TX11) (N := 31) rfl rfl hinX11 1 (by decide) hf90 rfl dX11_trades_8 ?_
    refine aw_ifN_ne (x := n) (tgt := 17) S (by omega) dX11_trades_11 (by decide) (fun c11 => ?_) (fun c11 => ?_)
    · refine lv_iconst (v := 0) S.1 S.2.1 dX11_trades_17 (by decide) ?_
      refine lv_istore_n (lv' := [(2, .int 0), (0, .ref (am 31)), (1, .int kv)]) S.1 S.2.1 dX11_trades_18 rfl hl (by decide) rfl (fun ls hl => ?_)
      refine lv_iconst (v := 0) S.1 S.2.1 dX11_trades_19 (by decide) ?_
      refine lv_istore_n (lv' := [(3, .int 0), (2, .int 0), (0, .ref (am 31)), (1, .int kv)]) S.1 S.2.1 dX11_trades_20 rfl hl (by decide) rfl (fun ls hl => ?_)
      have loop21 : ∀ (fu : Nat) (a : Nat) (me1 : Nat → Int32) (cn1 : Nat → Int32) (hb1 : Nat → Int32), (a ≤ n) → (∀ q, q < 6 * a → (fun q => trP n (mtF n lw sk (fun j => hoK (kd j)) br tu wa) q && decide (nI (ct (trP n (mtF n lw sk (fun j => hoK (kd j)) br tu wa)) q) = kv)) q = false) → (n - a) < fu → ∀ (ls : Array Slot) (H : Heap) (locs : List Loc), lv_has ls 5 [(0, .ref (am 31)), (1, .int kv), (2, .int (nI (ct (trP n (mtF n lw sk (fun j => hoK (kd j)) br tu wa)) (6 * a)))), (3, .int (nI a))] → bW G A s.heap [[(am 31, mdO am fl n lw nn ra rsn nr tr)], [(am 2, .inl (gI G, 6, .inl kd))], [(am 3, .inl (gI G, 6, .inl sk))], [(am 4, .inl (gI G, 6, .inl br))], [(am 5, .inl (gI G, 12, .inl tu))], [(am 6, .inl (gI G, 12, .inl wa))], [(am 16, .inl (gI G, 12, .inl me1))], [(am 17, .inl (gI G, 72, .inl cn1))], [(am 18, .inl (gI G, 72, .inl hb1))]] H locs → W p l e R s m args below meth c H locs 0 0 Q (F0 m 21 ls []) := by
        intro fu
        induction fu with
        | zero => intro a me1 cn1 hb1 _ _ hm; exact absurd hm (Nat.not_lt_zero _)
        | succ fu ih21 =>
          intro a me1 cn1 hb1 ha_ hp hm ls H locs hl hw
          refine lv_iload_n S.1 S.2.1 dX11_trades_21 rfl (lv_at hl 3 rfl) ?_
          refine lv_aload_n S.1 S.2.1 dX11_trades_22 rfl (lv_at hl 0 rfl) ?_
          refine aw_get S hE hw 0 (C := RX11) (T := TX11) (N := 31) rfl rfl hinX11 1 (by decide) hf90 rfl dX11_trades_23 ?_
          refine aw_icmpN_ge (x := a) (y := n) (tgt := 81) S (by omega) (by omega) dX11_trades_26 (by decide) (fun c26 => ?_) (fun c26 => ?_)
          · have ex_a : a = n := by omega
            have hct : ct (trP n (mtF n lw sk (fun j => hoK (kd j)) br tu wa)) 36 = ct (trP n (mtF n lw sk (fun j => hoK (kd j)) br tu wa)) (6 * a) := ct_skip (by omega) (fun q h1 h2 => trP_end (by omega) h2)
            have hno : fF (fun q => trP n (mtF n lw sk (fun j => hoK (kd j)) br tu wa) q && decide (nI (ct (trP n (mtF n lw sk (fun j => hoK (kd j)) br tu wa)) q) = kv)) 36 = 36 := fF_none (fun q hq => (Nat.lt_or_ge q (6 * a)).elim (fun h => hp q h) (fun h => by show (trP n (mtF n lw sk (fun j => hoK (kd j)) br tu wa) q && _) = false; rw [trP_end (by omega) hq, Bool.false_and]))
            refine lv_iload_n S.1 S.2.1 dX11_trades_81 rfl (lv_at hl 1 rfl) ?_
            refine lv_if_ge (tgt := 89) S.1 S.2.1 dX11_trades_82 (by decide) (fun c82 => ?_) (fun c82 => ?_)
            · have c82 : ¬ kv = -1 := by intro q; rw [q] at c82; exact absurd c82 (by decide)
              refine lv_bipush (v := (-9)) S.1 S.2.1 dX11_trades_89 (by decide) ?_
              refine aw_eqi (show ((-9) : Int32) = f_trades n (mtF n lw sk (fun j => hoK (kd j)) br tu wa) kv from (by rw [f_trades, if_neg c2, if_neg c11, trF, if_neg c82, hno]; rfl)) ?_
              exact aw_iret S hr hlk ha hQ hAe hw dX11_trades_91 rfl (Nat.le_of_ble_eq_true rfl) (Nat.le_of_ble_eq_true rfl) ⟨rfl, _, _, _, rfl⟩
            · have c82 : kv = -1 := by rw [fa_lt, li_m1] at c2; rw [fa_le, li_0] at c82; rw [fa_eq, li_m1]; omega
              refine lv_iload_n S.1 S.2.1 dX11_trades_85 rfl (lv_at hl 2 rfl) ?_
              refine lv_goto (tgt := 91) S.1 S.2.1 dX11_trades_86 (by decide) ?_
              refine aw_eqi (show (nI (ct (trP n (mtF n lw sk (fun j => hoK (kd j)) br tu wa)) (6 * a)) : Int32) = f_trades n (mtF n lw sk (fun j => hoK (kd j)) br tu wa) kv from (by rw [f_trades, if_neg c2, if_neg c11, trF, if_pos c82, hct])) ?_
              exact aw_iret S hr hlk ha hQ hAe hw dX11_trades_91 rfl (Nat.le_of_ble_eq_true rfl) (Nat.le_of_ble_eq_true rfl) ⟨rfl, _, _, _, rfl⟩
          · refine lv_iload_n S.1 S.2.1 dX11_trades_29 rfl (lv_at hl 3 rfl) ?_
            refine lv_iconst (v := 1) S.1 S.2.1 dX11_trades_30 (by decide) ?_
            refine lv_iadd S.1 S.2.1 dX11_trades_31 ?_
            refine aw_eqi (show ((nI a) + 1 : Int32) = nI (a + 1) from (nI_add a 1)) ?_
            refine lv_istore (lv' := [(4, .int (nI (a + 1))), (0, .ref (am 31)), (1, .int kv), (2, .int (nI (ct (trP n (mtF n lw sk (fun j => hoK (kd j)) br tu wa)) (6 * a)))), (3, .int (nI a))]) S.1 S.2.1 dX11_trades_32 hl (by decide) rfl (fun ls hl => ?_)
            have hl := Eq.mp (congrArg (fun z_ : Int32 => lv_has ls 5 [(4, .int (nI (a + 1))), (0, .ref (am 31)), (1, .int kv), (2, .int z_), (3, .int (nI a))]) (show (nI (ct (trP n (mtF n lw sk (fun j => hoK (kd j)) br tu wa)) (6 * a)) : Int32) = nI (ct (trP n (mtF n lw sk (fun j => hoK (kd j)) br tu wa)) (6 * a + (a + 1))) from (congrArg nI (ct_skip (by omega) (fun q h1 h2 => trP_lo h1 h2 (by omega))).symm))) hl
            have hl : lv_has ls 5 [(4, .int (nI (a + 1))), (0, .ref (am 31)), (1, .int kv), (2, .int (nI (ct (trP n (mtF n lw sk (fun j => hoK (kd j)) br tu wa)) (6 * a + (a + 1))))), (3, .int (nI a))] := hl
            have loop34 : ∀ (fu : Nat) (b : Nat) (me1b : Nat → Int32) (cn1b : Nat → Int32) (hb1b : Nat → Int32), (a < b ∧ b ≤ n) → (∀ q, q < 6 * a + b → (fun q => trP n (mtF n lw sk (fun j => hoK (kd j)) br tu wa) q && decide (nI (ct (trP n (mtF n lw sk (fun j => hoK (kd j)) br tu wa)) q) = kv)) q = false) → (n - b) < fu → ∀ (ls : Array Slot) (H : Heap) (locs : List Loc), lv_has ls 5 [(0, .ref (am 31)), (1, .int kv), (2, .int (nI (ct (trP n (mtF n lw sk (fun j => hoK (kd j)) br tu wa)) (6 * a + b)))), (3, .int (nI a)), (4, .int (nI b))] → bW G A s.heap [[(am 31, mdO am fl n lw nn ra rsn nr tr)], [(am 2, .inl (gI G, 6, .inl kd))], [(am 3, .inl (gI G, 6, .inl sk))], [(am 4, .inl (gI G, 6, .inl br))], [(am 5, .inl (gI G, 12, .inl tu))], [(am 6, .inl (gI G, 12, .inl wa))], [(am 16, .inl (gI G, 12, .inl me1b))], [(am 17, .inl (gI G, 72, .inl cn1b))], [(am 18, .inl (gI G, 72, .inl hb1b))]] H locs → W p l e R s m args below meth c H locs 0 0 Q (F0 m 34 ls []) := by
              intro fu
              induction fu with
              | zero => intro b me1b cn1b hb1b _ _ hm; exact absurd hm (Nat.not_lt_zero _)
              | succ fu ih34 =>
                intro b me1b cn1b hb1b hb_ hp2 hm ls H locs hl hw
                refine lv_iload S.1 S.2.1 dX11_trades_34 (lv_at hl 4 rfl) ?_
                refine lv_aload_n S.1 S.2.1 dX11_trades_36 rfl (lv_at hl 0 rfl) ?_
                refine aw_get S hE hw 0 (C := RX11) (T := TX11) (N := 31) rfl rfl hinX11 1 (by decide) hf90 rfl dX11_trades_37 ?_
                refine aw_icmpN_ge (x := b) (y := n) (tgt := 75) S (by omega) (by omega) dX11_trades_40 (by decide) (fun c40 => ?_) (fun c40 => ?_)
                · have ex_b : b = n := by omega
                  rw [ex_b] at hp2
                  have hcc := ct_skip (p := trP n (mtF n lw sk (fun j => hoK (kd j)) br tu wa)) (a := 6 * a + n) (b := 6 * (a + 1)) (by omega) (fun q h1 h2 => trP_hi h1 h2)
                  have hl := Eq.mp (congrArg (fun z_ : Int32 => lv_has ls 5 [(0, .ref (am 31)), (1, .int kv), (2, .int z_), (3, .int (nI a)), (4, .int (nI b))]) (show (nI (ct (trP n (mtF n lw sk (fun j => hoK (kd j)) br tu wa)) (6 * a + b)) : Int32) = nI (ct (trP n (mtF n lw sk (fun j => hoK (kd j)) br tu wa)) (6 * (a + 1))) from (by rw [hcc, ex_b]))) hl
                  have hl : lv_has ls 5 [(0, .ref (am 31)), (1, .int kv), (2, .int (nI (ct (trP n (mtF n lw sk (fun j => hoK (kd j)) br tu wa)) (6 * (a + 1))))), (3, .int (nI a)), (4, .int (nI b))] := hl
                  refine lv_iinc (v := nI (a + 1)) (lv' := [(3, .int (nI (a + 1))), (0, .ref (am 31)), (1, .int kv), (2, .int (nI (ct (trP n (mtF n lw sk (fun j => hoK (kd j)) br tu wa)) (6 * (a + 1))))), (4, .int (nI b))]) S.1 S.2.1 dX11_trades_75 hl (k := 3) rfl (by first | exact nI_1 _ | exact nI_add _ _ | rfl) (by decide) rfl (fun ls hl => ?_)
                  refine lv_goto (tgt := 21) S.1 S.2.1 dX11_trades_78 (by decide) ?_
                  exact ih21 (a + 1) me1b cn1b hb1b (by first | assumption | omega) (fun q hq => (Nat.lt_or_ge q (6 * a + n)).elim (fun h => hp2 q h) (fun h => by show (trP n (mtF n lw sk (fun j => hoK (kd j)) br tu wa) q && _) = false; rw [trP_hi h hq, Bool.false_and])) (by omega) _ _ _ (lv_sub hl [1, 2, 3, 0] rfl) hw
                · refine lv_aload_n S.1 S.2.1 dX11_trades_43 rfl (lv_at hl 0 rfl) ?_
                  refine lv_iload_n S.1 S.2.1 dX11_trades_44 rfl (lv_at hl 3 rfl) ?_
                  refine lv_iload S.1 S.2.1 dX11_trades_45 (lv_at hl 4 rfl) ?_
                  refine aw_callV S hE (c_X11_mayTrade l G am fl n lw nn ra rsn nr tr kd sk br tu wa me1b cn1b hb1b a b (by first | assumption | omega) (by first | assumption | omega) (by first | assumption | omega)) gX11_trades_X11_mayTrade (n := 2) rfl (by decide +kernel) rfl (by rw [hRm]; exact ⟨Nat.le_of_ble_eq_true rfl, Nat.le_of_ble_eq_true rfl⟩) (by rw [hRm]; exact ⟨Nat.le_of_ble_eq_true rfl, Nat.le_of_ble_eq_true rfl⟩) hw hA hl.1 [0, 1, 2, 3, 4, 5, 6, 7, 8] rfl rfl (aw_recv (i := 0) hE hw rfl rfl rfl) rfl (Nat.le_of_ble_eq_true rfl) dX11_trades_47 ?_
                  rintro v w1 H locs ⟨rfl, me2, cn2, hb2, rfl⟩ hw
                  have hw : bW G A s.heap [[(am 31, mdO am fl n lw nn ra rsn nr tr)], [(am 2, .inl (gI G, 6, .inl kd))], [(am 3, .inl (gI G, 6, .inl sk))], [(am 4, .inl (gI G, 6, .inl br))], [(am 5, .inl (gI G, 12, .inl tu))], [(am 6, .inl (gI G, 12, .inl wa))], [(am 16, .inl (gI G, 12, .inl me2))], [(am 17, .inl (gI G, 72, .inl cn2))], [(am 18, .inl (gI G, 72, .inl hb2))]] H locs := hw
                  refine W.eq (g2 := (F0 m 50 ls [.int (if mtF n lw sk (fun j => hoK (kd j)) br tu wa a b = true then 1 else 0)])) rfl ?_
                  refine aw_ifeq (P := mtF n lw sk (fun j => hoK (kd j)) br tu wa a b = true) (tgt := 69) S dX11_trades_50 (by decide) (fun c50 => ?_) (fun c50 => ?_)
                  · have htr : trP n (mtF n lw sk (fun j => hoK (kd j)) br tu wa) (6 * a + b) = false := by rw [trP_at hb_.1 (by omega) hn]; exact Bool.not_eq_true _ ▸ c50
                    have hz : (fun q => trP n (mtF n lw sk (fun j => hoK (kd j)) br tu wa) q && decide (nI (ct (trP n (mtF n lw sk (fun j => hoK (kd j)) br tu wa)) q) = kv)) (6 * a + b) = false := by show (trP n (mtF n lw sk (fun j => hoK (kd j)) br tu wa) (6 * a + b) && _) = false; rw [htr, Bool.false_and]
                    have hl := Eq.mp (congrArg (fun z_ : Int32 => lv_has ls 5 [(0, .ref (am 31)), (1, .int kv), (2, .int z_), (3, .int (nI a)), (4, .int (nI b))]) (show (nI (ct (trP n (mtF n lw sk (fun j => hoK (kd j)) br tu wa)) (6 * a + b)) : Int32) = nI (ct (trP n (mtF n lw sk (fun j => hoK (kd j)) br tu wa)) (6 * a + (b + 1))) from (congrArg nI (show ct (trP n (mtF n lw sk (fun j => hoK (kd j)) br tu wa)) (6 * a + b) = ct (trP n (mtF n lw sk (fun j => hoK (kd j)) br tu wa)) (6 * a + b) + (if trP n (mtF n lw sk (fun j => hoK (kd j)) br tu wa) (6 * a + b) = true then 1 else 0) by rw [htr]; rfl)))) hl
                    have hl : lv_has ls 5 [(0, .ref (am 31)), (1, .int kv), (2, .int (nI (ct (trP n (mtF n lw sk (fun j => hoK (kd j)) br tu wa)) (6 * a + (b + 1))))), (3, .int (nI a)), (4, .int (nI b))] := hl
                    refine lv_iinc (v := nI (b + 1)) (lv' := [(4, .int (nI (b + 1))), (0, .ref (am 31)), (1, .int kv), (2, .int (nI (ct (trP n (mtF n lw sk (fun j => hoK (kd j)) br tu wa)) (6 * a + (b + 1))))), (3, .int (nI a))]) S.1 S.2.1 dX11_trades_69 hl (k := 4) rfl (by first | exact nI_1 _ | exact nI_add _ _ | rfl) (by decide) rfl (fun ls hl => ?_)
                    refine lv_goto (tgt := 34) S.1 S.2.1 dX11_trades_72 (by decide) ?_
                    exact ih34 (b + 1) me2 cn2 hb2 (by omega) (lt_next hp2 hz) (by omega) _ _ _ (lv_sub hl [1, 2, 3, 4, 0] rfl) hw
                  · have htr : trP n (mtF n lw sk (fun j => hoK (kd j)) br tu wa) (6 * a + b) = true := by rw [trP_at hb_.1 (by omega) hn]; exact c50
                    refine lv_iload_n S.1 S.2.1 dX11_trades_53 rfl (lv_at hl 2 rfl) ?_
                    refine lv_iload_n S.1 S.2.1 dX11_trades_54 rfl (lv_at hl 1 rfl) ?_
                    refine lv_icmp_ne (tgt := 66) S.1 S.2.1 dX11_trades_55 (by decide) (fun c55 => ?_) (fun c55 => ?_)
                    · have hz : (fun q => trP n (mtF n lw sk (fun j => hoK (kd j)) br tu wa) q && decide (nI (ct (trP n (mtF n lw sk (fun j => hoK (kd j)) br tu wa)) q) = kv)) (6 * a + b) = false := by show (trP n (mtF n lw sk (fun j => hoK (kd j)) br tu wa) (6 * a + b) && decide (nI (ct (trP n (mtF n lw sk (fun j => hoK (kd j)) br tu wa)) (6 * a + b)) = kv)) = false; rw [decide_eq_false c55, Bool.and_false]
                      refine lv_iinc (v := nI (ct (trP n (mtF n lw sk (fun j => hoK (kd j)) br tu wa)) (6 * a + (b + 1)))) (lv' := [(2, .int (nI (ct (trP n (mtF n lw sk (fun j => hoK (kd j)) br tu wa)) (6 * a + (b + 1))))), (0, .ref (am 31)), (1, .int kv), (3, .int (nI a)), (4, .int (nI b))]) S.1 S.2.1 dX11_trades_66 hl (k := 2) rfl (by first | exact (nI_1 _).trans (congrArg nI (show ct (trP n (mtF n lw sk (fun j => hoK (kd j)) br tu wa)) (6 * a + b) + 1 = ct (trP n (mtF n lw sk (fun j => hoK (kd j)) br tu wa)) (6 * a + b) + (if trP n (mtF n lw sk (fun j => hoK (kd j)) br tu wa) (6 * a + b) = true then 1 else 0) by rw [htr]; rfl))) (by decide) rfl (fun ls hl => ?_)
                      refine lv_iinc (v := nI (b + 1)) (lv' := [(4, .int (nI (b + 1))), (2, .int (nI (ct (trP n (mtF n lw sk (fun j => hoK (kd j)) br tu wa)) (6 * a + (b + 1))))), (0, .ref (am 31)), (1, .int kv), (3, .int (nI a))]) S.1 S.2.1 dX11_trades_69 hl (k := 4) rfl (by first | exact nI_1 _ | exact nI_add _ _ | rfl) (by decide) rfl (fun ls hl => ?_)
                      refine lv_goto (tgt := 34) S.1 S.2.1 dX11_trades_72 (by decide) ?_
                      exact ih34 (b + 1) me2 cn2 hb2 (by omega) (lt_next hp2 hz) (by omega) _ _ _ (lv_sub hl [2, 3, 1, 4, 0] rfl) hw
                    · have hk : fF (fun q => trP n (mtF n lw sk (fun j => hoK (kd j)) br tu wa) q && decide (nI (ct (trP n (mtF n lw sk (fun j => hoK (kd j)) br tu wa)) q) = kv)) 36 = 6 * a + b := fF_is (by omega) (by show (trP n (mtF n lw sk (fun j => hoK (kd j)) br tu wa) (6 * a + b) && decide (nI (ct (trP n (mtF n lw sk (fun j => hoK (kd j)) br tu wa)) (6 * a + b)) = kv)) = true; rw [htr, decide_eq_true c55]; rfl) hp2
                      refine lv_bipush (v := 10) S.1 S.2.1 dX11_trades_58 (by decide) ?_
                      refine lv_iload_n S.1 S.2.1 dX11_trades_60 rfl (lv_at hl 3 rfl) ?_
                      refine lv_imul S.1 S.2.1 dX11_trades_61 ?_
                      refine aw_eqi (show (10 * (nI a) : Int32) = nI (10 * a) from (pk_mul 10 a)) ?_
                      refine lv_iload S.1 S.2.1 dX11_trades_62 (lv_at hl 4 rfl) ?_
                      refine lv_iadd S.1 S.2.1 dX11_trades_64 ?_
                      refine aw_eqi (show ((nI (10 * a)) + (nI b) : Int32) = nI ((10 * a) + b) from (nI_add (10 * a) b)) ?_
                      refine aw_eqi (show (nI ((10 * a) + b) : Int32) = f_trades n (mtF n lw sk (fun j => hoK (kd j)) br tu wa) kv from (by rw [f_trades, if_neg c2, if_neg c11, trF, hk, if_neg (show ¬ kv = -1 from fun q => by rw [q, fa_eq, nI_toInt (by have := ct_le (trP n (mtF n lw sk (fun j => hoK (kd j)) br tu wa)) (6 * a + b); omega), li_m1] at c55; omega), if_pos (by omega)]; exact congrArg nI (by omega))) ?_
                      exact aw_iret S hr hlk ha hQ hAe hw dX11_trades_65 rfl (Nat.le_of_ble_eq_true rfl) (Nat.le_of_ble_eq_true rfl) ⟨rfl, _, _, _, rfl⟩
            exact loop34 _ (a + 1) me1 cn1 hb1 (by omega) (fun q hq => (Nat.lt_or_ge q (6 * a)).elim (fun h => hp q h) (fun h => by show (trP n (mtF n lw sk (fun j => hoK (kd j)) br tu wa) q && _) = false; rw [trP_lo h hq (by omega), Bool.false_and])) (Nat.lt_succ_self _) _ _ _ (lv_sub hl [1, 2, 3, 4, 0] rfl) hw
      exact loop21 _ 0 me cn hb (by first | assumption | omega) (fun j hj => absurd hj (Nat.not_lt_zero j)) (Nat.lt_succ_self _) _ _ _ (lv_sub hl [2, 3, 1, 0] rfl) hw
    · refine lv_bipush (v := (-3)) S.1 S.2.1 dX11_trades_14 (by decide) ?_
      refine aw_eqi (show ((-3) : Int32) = f_trades n (mtF n lw sk (fun j => hoK (kd j)) br tu wa) kv from (by rw [f_trades, if_neg c2, if_pos c11])) ?_
      exact aw_iret S hr hlk ha hQ hAe hw dX11_trades_16 rfl (Nat.le_of_ble_eq_true rfl) (Nat.le_of_ble_eq_true rfl) ⟨rfl, _, _, _, rfl⟩
  · have c2 : kv < -1 := by rw [fa_lt]; rw [fa_le] at c2; omega
    refine lv_iconst (v := (-1)) S.1 S.2.1 dX11_trades_5 (by decide) ?_
    refine aw_eqi (show ((-1) : Int32) = f_trades n (mtF n lw sk (fun j => hoK (kd j)) br tu wa) kv from (by rw [f_trades, if_pos c2])) ?_
    exact aw_iret S hr hlk ha hQ hAe hw dX11_trades_6 rfl (Nat.le_of_ble_eq_true rfl) (Nat.le_of_ble_eq_true rfl) ⟨rfl, _, _, _, rfl⟩
