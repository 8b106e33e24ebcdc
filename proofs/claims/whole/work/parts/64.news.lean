/-! the reference: news, first parts -/
/-- who may leave a note in a month -/
def lq (me ks : Nat → Int32) (k i : Nat) : Prop := bt (me k) i = true ∧ ks i ≤ nI k
theorem lq_s {y : Int32} {P : Nat → Prop} {s : Nat} (hs : s < 32) {me ks : Nat → Int32} {j : Nat} (h : ∀ i, i < 32 → (bt y i = true ↔ (P i ∨ (i < s ∧ lq me ks j i)))) (v : Int32) (hv : v = y ∧ ¬ lq me ks j s ∨ v = y ||| (1 <<< (nI s &&& 31)) ∧ lq me ks j s) : ∀ i, i < 32 → (bt v i = true ↔ (P i ∨ (i < s + 1 ∧ lq me ks j i))) := by
  intro i hi
  rcases hv with ⟨rfl, q⟩ | ⟨rfl, q⟩
  · rw [h i hi]
    constructor
    · rintro (z | z)
      · exact Or.inl z
      · exact Or.inr ⟨by omega, z.2⟩
    · rintro (z | z)
      · exact Or.inl z
      · rcases Nat.lt_or_ge i s with y | y
        · exact Or.inr ⟨y, z.2⟩
        · exact absurd z.2 (by rw [show i = s by omega]; exact q)
  · rw [b_or, Bool.or_eq_true, h i hi, b_bit hs hi, decide_eq_true_eq]
    constructor
    · rintro ((z | z) | z)
      · exact Or.inl z
      · exact Or.inr ⟨by omega, z.2⟩
      · exact Or.inr ⟨by omega, by rw [z]; exact q⟩
    · rintro (z | z)
      · exact Or.inl (Or.inl z)
      · rcases Nat.lt_or_ge i s with y | y
        · exact Or.inl (Or.inr ⟨y, z.2⟩)
        · exact Or.inr (by omega)
/-- those who come to know in a month -/
def lnF (n : Nat) (set : Int32) (mo : Nat) (ks : Nat → Int32) (i : Nat) : Nat → Int32 := pwF (fun s => bt set s && !decide (ks s ≤ nI mo)) (fun _ => nI mo) ks i
theorem lnF_s {n : Nat} {set : Int32} {mo : Nat} {ks : Nat → Int32} {i : Nat} {v : Int32} (hv : v = if bt set i = true ∧ ¬ ks i ≤ nI mo then nI mo else ks i) : upd (lnF n set mo ks i) i v = lnF n set mo ks (i + 1) := by
  unfold lnF
  by_cases h : bt set i = true ∧ ¬ ks i ≤ nI mo
  · rw [hv, if_pos h]
    exact pwF_t (g := fun _ => nI mo) (by rw [h.1, decide_eq_false h.2]; rfl)
  · have hp : ¬ (bt set i && !decide (ks i ≤ nI mo)) = true := by
      rw [Bool.and_eq_true, Bool.not_eq_true', decide_eq_false_iff_not]; exact h
    rw [hv, if_neg h, ← pwF_f (p := fun s => bt set s && !decide (ks s ≤ nI mo)) (i := i) hp]
    funext k
    unfold upd
    by_cases e : k = i
    · rw [if_pos e, e, pwF_at]
    · rw [if_neg e]
set_option maxRecDepth 100000 in
set_option maxHeartbeats 4000000 in
theorem c_X11_leftBy (l : Launch) (G : aw_G) (am : Nat → Nat) (fl : Int32) (n : Nat) (lw : Int32) (nn ra rsn nr : Nat) (tr : Int32) (me ks : Nat → Int32) (mo : Nat) (hn : n ≤ 6) (hmo : mo ≤ 12) : CT l G yX11_leftBy wsX11_leftBy ({ frames := 1, cells := 0, slots := 0, locals := 21 }) [.ref (am 31), .int (nI mo)] [[(am 31, mdO am fl n lw nn ra rsn nr tr)], [(am 16, .inl (gI G, 12, .inl me))], [(am 21, .inl (gI G, 6, .inl ks))]] (fun v w => ∃ x : Int32, v = some (.int x) ∧ (∀ i, i < 32 → (bt x i = true ↔ (i < n ∧ ∃ k, k < mo ∧ lq me ks k i))) ∧ w = [[(am 31, mdO am fl n lw nn ra rsn nr tr)], [(am 16, .inl (gI G, 12, .inl me))], [(am 21, .inl (gI G, 6, .inl ks))]]) := by
  refine CT.of (cc := cX11_leftBy) (nL := 5) (ret := (some .int)) (by decide) rfl (Nat.le_of_ble_eq_true rfl) ?_
  intro p e s m below meth c R args Q A hRm ha hQ hAe hA S hE hr hlk hnm H locs hH0 hL0 ls hl hw
  have S : CallFix p m c cX11_leftBy 5 s args wsX11_leftBy RX11 := S
  have hl : lv_has ls 5 [(0, .ref (am 31)), (1, .int (nI mo))] := hl
  have hinX11 : ∀ w ∈ u_ws RX11 TX11 31, w ∈ wsX11_leftBy := by decide +kernel
  have hf90 := S.2.2.2.2 (.fieldLink RX11 90 "AwakeTurnsModel" "sleepers" "I") (by decide +kernel)
  have hf40 := S.2.2.2.2 (.fieldLink RX11 40 "AwakeTurnsModel" "meant" "[I") (by decide +kernel)
  have hf55 := S.2.2.2.2 (.fieldLink RX11 55 "AwakeTurnsModel" "knowsSince" "[I") (by decide +kernel)
  refine lv_iconst (v := 0) S.1 S.2.1 dX11_leftBy_0 (by decide) ?_
  refine lv_istore_n (lv' := [(2, .int 0), (0, .ref (am 31)), (1, .int (nI mo))]) S.1 S.2.1 dX11_leftBy_1 rfl hl (by decide) rfl (fun ls hl => ?_)
  refine lv_iconst (v := 0) S.1 S.2.1 dX11_leftBy_2 (by decide) ?_
  refine lv_istore_n (lv' := [(3, .int 0), (2, .int 0), (0, .ref (am 31)), (1, .int (nI mo))]) S.1 S.2.1 dX11_leftBy_3 rfl hl (by decide) rfl (fun ls hl => ?_)
  have loop4 : ∀ (fu : Nat) (j : Nat) (x : Int32), (j ≤ mo) → (∀ i, i < 32 → (bt x i = true ↔ (i < n ∧ ∃ k, k < j ∧ lq me ks k i))) → (mo - j) < fu → ∀ (ls : Array Slot) (H : Heap) (locs : List Loc), lv_has ls 5 [(0, .ref (am 31)), (1, .int (nI mo)), (2, .int x), (3, .int (nI j))] → bW G A s.heap [[(am 31, mdO am fl n lw nn ra rsn nr tr)], [(am 16, .inl (gI G, 12, .inl me))], [(am 21, .inl (gI G, 6, .inl ks))]] H locs → W p l e R s m args below meth c H locs 0 0 Q (F0 m 4 ls []) := by
    intro fu
    induction fu with
    | zero => intro j x _ _ hm; exact absurd hm (Nat.not_lt_zero _)
    | succ fu ih4 =>
      intro j x hj hx hm ls H locs hl hw
      refine lv_iload_n S.1 S.2.1 dX11_leftBy_4 rfl (lv_at hl 3 rfl) ?_
      refine lv_iload_n S.1 S.2.1 dX11_leftBy_5 rfl (lv_at hl 1 rfl) ?_
      refine aw_icmpN_ge (x := j) (y := mo) (tgt := 69) S (by omega) (by omega) dX11_leftBy_6 (by decide) (fun c6 => ?_) (fun c6 => ?_)
      · have ex_j : j = mo := by omega
        rw [ex_j] at hx
        refine lv_iload_n S.1 S.2.1 dX11_leftBy_69 rfl (lv_at hl 2 rfl) ?_
        exact aw_iret S hr hlk ha hQ hAe hw dX11_leftBy_70 rfl (Nat.le_of_ble_eq_true rfl) (Nat.le_of_ble_eq_true rfl) ⟨_, rfl, hx, rfl⟩
      · refine lv_iconst (v := 0) S.1 S.2.1 dX11_leftBy_9 (by decide) ?_
        refine lv_istore (lv' := [(4, .int 0), (0, .ref (am 31)), (1, .int (nI mo)), (2, .int x), (3, .int (nI j))]) S.1 S.2.1 dX11_leftBy_10 hl (by decide) rfl (fun ls hl => ?_)
        have loop12 : ∀ (fu : Nat) (s_ : Nat) (y : Int32), (s_ ≤ n) → (∀ i, i < 32 → (bt y i = true ↔ (bt x i = true ∨ (i < s_ ∧ lq me ks j i)))) → (n - s_) < fu → ∀ (ls : Array Slot) (H : Heap) (locs : List Loc), lv_has ls 5 [(0, .ref (am 31)), (1, .int (nI mo)), (2, .int y), (3, .int (nI j)), (4, .int (nI s_))] → bW G A s.heap [[(am 31, mdO am fl n lw nn ra rsn nr tr)], [(am 16, .inl (gI G, 12, .inl me))], [(am 21, .inl (gI G, 6, .inl ks))]] H locs → W p l e R s m args below meth c H locs 0 0 Q (F0 m 12 ls []) := by
          intro fu
          induction fu with
          | zero => intro s_ y _ _ hm; exact absurd hm (Nat.not_lt_zero _)
          | succ fu ih12 =>
            intro s_ y hs_ hy hm ls H locs hl hw
            refine lv_iload S.1 S.2.1 dX11_leftBy_12 (lv_at hl 4 rfl) ?_
            refine lv_aload_n S.1 S.2.1 dX11_leftBy_14 rfl (lv_at hl 0 rfl) ?_
            refine aw_get S hE hw 0 (C := RX11) (T := TX11) (N := 31) rfl rfl hinX11 1 (by decide) hf90 rfl dX11_leftBy_15 ?_
            refine aw_icmpN_ge (x := s_) (y := n) (tgt := 63) S (by omega) (by omega) dX11_leftBy_18 (by decide) (fun c18 => ?_) (fun c18 => ?_)
            · have ex_s : s_ = n := by omega
              rw [ex_s] at hy
              refine lv_iinc (v := nI (j + 1)) (lv' := [(3, .int (nI (j + 1))), (0, .ref (am 31)), (1, .int (nI mo)), (2, .int y), (4, .int (nI s_))]) S.1 S.2.1 dX11_leftBy_63 hl (k := 3) rfl (by first | exact nI_1 _ | exact nI_add _ _ | rfl) (by decide) rfl (fun ls hl => ?_)
              refine lv_goto (tgt := 4) S.1 S.2.1 dX11_leftBy_66 (by decide) ?_
              exact ih4 (j + 1) y (by first | assumption | omega) (fun i hi => by rw [hy i hi, hx i hi]; exact ⟨fun q => q.elim (fun z => ⟨z.1, z.2.imp (fun k hk => ⟨by omega, hk.2⟩)⟩) (fun z => ⟨by omega, j, by omega, z.2⟩), fun q => q.2.elim (fun k hk => (Nat.lt_or_ge k j).elim (fun z => Or.inl ⟨q.1, k, z, hk.2⟩) (fun z => Or.inr ⟨by omega, by rw [show j = k by omega]; exact hk.2⟩))⟩) (by omega) _ _ _ (lv_sub hl [1, 2, 3, 0] rfl) hw
            · refine lv_iload_n S.1 S.2.1 dX11_leftBy_21 rfl (lv_at hl 2 rfl) ?_
              refine lv_aload_n S.1 S.2.1 dX11_leftBy_22 rfl (lv_at hl 0 rfl) ?_
              refine aw_get S hE hw 0 (C := RX11) (T := TX11) (N := 31) rfl rfl hinX11 16 (by decide) hf40 rfl dX11_leftBy_23 ?_
              refine lv_iload_n S.1 S.2.1 dX11_leftBy_26 rfl (lv_at hl 3 rfl) ?_
              refine aw_iald S hE hw 1 (k := j) rfl (by omega) (by decide) dX11_leftBy_27 ?_
              refine lv_iload S.1 S.2.1 dX11_leftBy_28 (lv_at hl 4 rfl) ?_
              refine aw_callS S hE (c_X11_isIn l G (me j) s_ (by first | assumption | omega)) gX11_leftBy_X11_isIn (n := 2) rfl (by decide +kernel) rfl (by rw [hRm]; exact ⟨Nat.le_of_ble_eq_true rfl, Nat.le_of_ble_eq_true rfl⟩) (by rw [hRm]; exact ⟨Nat.le_of_ble_eq_true rfl, Nat.le_of_ble_eq_true rfl⟩) hw hA hl.1 [] rfl rfl rfl (Nat.le_of_ble_eq_true rfl) dX11_leftBy_30 ?_
              rintro v w1 H locs ⟨rfl, rfl⟩ hw
              have hw : bW G A s.heap [[(am 31, mdO am fl n lw nn ra rsn nr tr)], [(am 16, .inl (gI G, 12, .inl me))], [(am 21, .inl (gI G, 6, .inl ks))]] H locs := hw
              refine W.eq (g2 := (F0 m 33 ls [.int (if bt (me j) s_ = true then 1 else 0), .int y])) rfl ?_
              refine aw_ifeq (P := bt (me j) s_ = true) (tgt := 54) S dX11_leftBy_33 (by decide) (fun c33 => ?_) (fun c33 => ?_)
              · have hv : (y : Int32) = y ∧ ¬ lq me ks j s_ ∨ (y : Int32) = y ||| (1 <<< (nI s_ &&& 31)) ∧ lq me ks j s_ := Or.inl ⟨rfl, fun q => c33 q.1⟩
                refine lv_iconst (v := 0) S.1 S.2.1 dX11_leftBy_54 (by decide) ?_
                refine lv_ior S.1 S.2.1 dX11_leftBy_55 ?_
                refine aw_eqi (show (y ||| 0 : Int32) = y from (Int32.or_zero)) ?_
                refine lv_istore_n (lv' := [(2, .int y), (0, .ref (am 31)), (1, .int (nI mo)), (3, .int (nI j)), (4, .int (nI s_))]) S.1 S.2.1 dX11_leftBy_56 rfl hl (by decide) rfl (fun ls hl => ?_)
                refine lv_iinc (v := nI (s_ + 1)) (lv' := [(4, .int (nI (s_ + 1))), (2, .int y), (0, .ref (am 31)), (1, .int (nI mo)), (3, .int (nI j))]) S.1 S.2.1 dX11_leftBy_57 hl (k := 4) rfl (by first | exact nI_1 _ | exact nI_add _ _ | rfl) (by decide) rfl (fun ls hl => ?_)
                refine lv_goto (tgt := 12) S.1 S.2.1 dX11_leftBy_60 (by decide) ?_
                exact ih12 (s_ + 1) y (by first | assumption | omega) (lq_s (by omega) hy _ hv) (by omega) _ _ _ (lv_sub hl [2, 3, 1, 4, 0] rfl) hw
              · refine lv_aload_n S.1 S.2.1 dX11_leftBy_36 rfl (lv_at hl 0 rfl) ?_
                refine aw_get S hE hw 0 (C := RX11) (T := TX11) (N := 31) rfl rfl hinX11 21 (by decide) hf55 rfl dX11_leftBy_37 ?_
                refine lv_iload S.1 S.2.1 dX11_leftBy_40 (lv_at hl 4 rfl) ?_
                refine aw_iald S hE hw 2 (k := s_) rfl (by omega) (by decide) dX11_leftBy_42 ?_
                refine lv_iload_n S.1 S.2.1 dX11_leftBy_43 rfl (lv_at hl 3 rfl) ?_
                refine lv_icmp_gt (tgt := 54) S.1 S.2.1 dX11_leftBy_44 (by decide) (fun c44 => ?_) (fun c44 => ?_)
                · have hv : (y : Int32) = y ∧ ¬ lq me ks j s_ ∨ (y : Int32) = y ||| (1 <<< (nI s_ &&& 31)) ∧ lq me ks j s_ := Or.inl ⟨rfl, fun q => absurd q.2 (by rw [fa_lt] at c44; rw [fa_le]; omega)⟩
                  refine lv_iconst (v := 0) S.1 S.2.1 dX11_leftBy_54 (by decide) ?_
                  refine lv_ior S.1 S.2.1 dX11_leftBy_55 ?_
                  refine aw_eqi (show (y ||| 0 : Int32) = y from (Int32.or_zero)) ?_
                  refine lv_istore_n (lv' := [(2, .int y), (0, .ref (am 31)), (1, .int (nI mo)), (3, .int (nI j)), (4, .int (nI s_))]) S.1 S.2.1 dX11_leftBy_56 rfl hl (by decide) rfl (fun ls hl => ?_)
                  refine lv_iinc (v := nI (s_ + 1)) (lv' := [(4, .int (nI (s_ + 1))), (2, .int y), (0, .ref (am 31)), (1, .int (nI mo)), (3, .int (nI j))]) S.1 S.2.1 dX11_leftBy_57 hl (k := 4) rfl (by first | exact nI_1 _ | exact nI_add _ _ | rfl) (by decide) rfl (fun ls hl => ?_)
                  refine lv_goto (tgt := 12) S.1 S.2.1 dX11_leftBy_60 (by decide) ?_
                  exact ih12 (s_ + 1) y (by first | assumption | omega) (lq_s (by omega) hy _ hv) (by omega) _ _ _ (lv_sub hl [2, 3, 1, 4, 0] rfl) hw
                · have hv : (y ||| (1 <<< (nI s_ &&& 31)) : Int32) = y ∧ ¬ lq me ks j s_ ∨ (y ||| (1 <<< (nI s_ &&& 31)) : Int32) = y ||| (1 <<< (nI s_ &&& 31)) ∧ lq me ks j s_ := Or.inr ⟨rfl, c33, by rw [fa_lt] at c44; rw [fa_le]; omega⟩
                  refine lv_iconst (v := 1) S.1 S.2.1 dX11_leftBy_47 (by decide) ?_
                  refine lv_iload S.1 S.2.1 dX11_leftBy_48 (lv_at hl 4 rfl) ?_
                  refine lv_ishl S.1 S.2.1 dX11_leftBy_50 ?_
                  refine lv_goto (tgt := 55) S.1 S.2.1 dX11_leftBy_51 (by decide) ?_
                  refine lv_ior S.1 S.2.1 dX11_leftBy_55 ?_
                  refine lv_istore_n (lv' := [(2, .int (y ||| (1 <<< ((nI s_) &&& 31)))), (0, .ref (am 31)), (1, .int (nI mo)), (3, .int (nI j)), (4, .int (nI s_))]) S.1 S.2.1 dX11_leftBy_56 rfl hl (by decide) rfl (fun ls hl => ?_)
                  refine lv_iinc (v := nI (s_ + 1)) (lv' := [(4, .int (nI (s_ + 1))), (2, .int (y ||| (1 <<< ((nI s_) &&& 31)))), (0, .ref (am 31)), (1, .int (nI mo)), (3, .int (nI j))]) S.1 S.2.1 dX11_leftBy_57 hl (k := 4) rfl (by first | exact nI_1 _ | exact nI_add _ _ | rfl) (by decide) rfl (fun ls hl => ?_)
                  refine lv_goto (tgt := 12) S.1 S.2.1 dX11_leftBy_60 (by decide) ?_
                  exact ih12 (s_ + 1) (y ||| (1 <<< ((nI s_) &&& 31))) (by first | assumption | omega) (lq_s (by omega) hy _ hv) (by omega) _ _ _ (lv_sub hl [2, 3, 1, 4, 0] rfl) hw
        exact loop12 _ 0 x (by first | assumption | omega) (fun i _ => ⟨Or.inl, fun q => q.elim id (fun z => absurd z.1 (Nat.not_lt_zero i))⟩) (Nat.lt_succ_self _) _ _ _ (lv_sub hl [1, 2, 3, 4, 0] rfl) hw
  exact loop4 _ 0 0 (by first | assumption | omega) (fun i hi => by rw [b_0]; exact ⟨fun q => Bool.noConfusion q, fun q => absurd q.2 (fun ⟨k, hk, _⟩ => Nat.not_lt_zero k hk)⟩) (Nat.lt_succ_self _) _ _ _ (lv_sub hl [2, 3, 1, 0] rfl) hw
set_option maxRecDepth 100000 in
set_option maxHeartbeats 4000000 in
theorem c_X11_knownBy (l : Launch) (G : aw_G) (am : Nat → Nat) (fl : Int32) (n : Nat) (lw : Int32) (nn ra rsn nr : Nat) (tr : Int32) (ks : Nat → Int32) (mo : Nat) (hn : n ≤ 6) (hmo : mo < 12) : CT l G yX11_knownBy wsX11_knownBy ({ frames := 0, cells := 0, slots := 0, locals := 0 }) [.ref (am 31), .int (nI mo)] [[(am 31, mdO am fl n lw nn ra rsn nr tr)], [(am 21, .inl (gI G, 6, .inl ks))]] (dt (some (.int (bgF (fun s => decide (ks s ≤ nI mo)) n))) [[(am 31, mdO am fl n lw nn ra rsn nr tr)], [(am 21, .inl (gI G, 6, .inl ks))]]) := by
  refine CT.of (cc := cX11_knownBy) (nL := 4) (ret := (some .int)) (by decide) rfl (Nat.le_of_ble_eq_true rfl) ?_
  intro p e s m below meth c R args Q A hRm ha hQ hAe hA S hE hr hlk hnm H locs hH0 hL0 ls hl hw
  have S : CallFix p m c cX11_knownBy 4 s args wsX11_knownBy RX11 := S
  have hl : lv_has ls 4 [(0, .ref (am 31)), (1, .int (nI mo))] := hl
  have hinX11 : ∀ w ∈ u_ws RX11 TX11 31, w ∈ wsX11_knownBy := by decide +kernel
  have hf90 := S.2.2.2.2 (.fieldLink RX11 90 "AwakeTurnsModel" "sleepers" "I") (by decide +kernel)
  have hf55 := S.2.2.2.2 (.fieldLink RX11 55 "AwakeTurnsModel" "knowsSince" "[I") (by decide +kernel)
  refine lv_iconst (v := 0) S.1 S.2.1 dX11_knownBy_0 (by decide) ?_
  refine lv_istore_n (lv' := [(2, .int 0), (0, .ref (am 31)), (1, .int (nI mo))]) S.1 S.2.1 dX11_knownBy_1 rfl hl (by decide) rfl (fun ls hl => ?_)
  refine lv_iconst (v := 0) S.1 S.2.1 dX11_knownBy_2 (by decide) ?_
  refine lv_istore_n (lv' := [(3, .int 0), (2, .int 0), (0, .ref (am 31)), (1, .int (nI mo))]) S.1 S.2.1 dX11_knownBy_3 rfl hl (by decide) rfl (fun ls hl => ?_)
  have loop4 : ∀ (fu : Nat) (i : Nat), (i ≤ n) → (n - i) < fu → ∀ (ls : Array Slot) (H : Heap) (locs : List Loc), lv_has ls 4 [(0, .ref (am 31)), (1, .int (nI mo)), (2, .int (bgF (fun s => decide (ks s ≤ nI mo)) i)), (3, .int (nI i))] → bW G A s.heap [[(am 31, mdO am fl n lw nn ra rsn nr tr)], [(am 21, .inl (gI G, 6, .inl ks))]] H locs → W p l e R s m args below meth c H locs 0 0 Q (F0 m 4 ls []) := by
    intro fu
    induction fu with
    | zero => intro i _ hm; exact absurd hm (Nat.not_lt_zero _)
    | succ fu ih4 =>
      intro i hi hm ls H locs hl hw
      refine lv_iload_n S.1 S.2.1 dX11_knownBy_4 rfl (lv_at hl 3 rfl) ?_
      refine lv_aload_n S.1 S.2.1 dX11_knownBy_5 rfl (lv_at hl 0 rfl) ?_
      refine aw_get S hE hw 0 (C := RX11) (T := TX11) (N := 31) rfl rfl hinX11 1 (by decide) hf90 rfl dX11_knownBy_6 ?_
      refine aw_icmpN_ge (x := i) (y := n) (tgt := 38) S (by omega) (by omega) dX11_knownBy_9 (by decide) (fun c9 => ?_) (fun c9 => ?_)
      · have ex_i : i = n := by omega
        try rw [ex_i] at hl
        try rw [ex_i] at hw
        refine lv_iload_n S.1 S.2.1 dX11_knownBy_38 rfl (lv_at hl 2 rfl) ?_
        exact aw_iret S hr hlk ha hQ hAe hw dX11_knownBy_39 rfl (Nat.le_of_ble_eq_true rfl) (Nat.le_of_ble_eq_true rfl) ⟨rfl, rfl⟩
      · refine lv_iload_n S.1 S.2.1 dX11_knownBy_12 rfl (lv_at hl 2 rfl) ?_
        refine lv_aload_n S.1 S.2.1 dX11_knownBy_13 rfl (lv_at hl 0 rfl) ?_
        refine aw_get S hE hw 0 (C := RX11) (T := TX11) (N := 31) rfl rfl hinX11 21 (by decide) hf55 rfl dX11_knownBy_14 ?_
        refine lv_iload_n S.1 S.2.1 dX11_knownBy_17 rfl (lv_at hl 3 rfl) ?_
        refine aw_iald S hE hw 1 (k := i) rfl (by omega) (by decide) dX11_knownBy_18 ?_
        refine lv_iload_n S.1 S.2.1 dX11_knownBy_19 rfl (lv_at hl 1 rfl) ?_
        have join30 : ∀ (H : Heap) (locs : List Loc), ∀ (ls : Array Slot), lv_has ls 4 [(0, .ref (am 31)), (1, .int (nI mo)), (2, .int (bgF (fun s => decide (ks s ≤ nI mo)) i)), (3, .int (nI i))] → bW G A s.heap [[(am 31, mdO am fl n lw nn ra rsn nr tr)], [(am 21, .inl (gI G, 6, .inl ks))]] H locs → W p l e R s m args below meth c H locs 0 0 Q (F0 m 30 ls [.int (if decide (ks i ≤ nI mo) = true then 1 <<< (nI i &&& 31) else 0), .int (bgF (fun s => decide (ks s ≤ nI mo)) i)]) := by
          intro  H locs ls hl hw
          refine lv_ior S.1 S.2.1 dX11_knownBy_30 ?_
          refine aw_eqi (show ((bgF (fun s => decide (ks s ≤ nI mo)) i) ||| (if decide (ks i ≤ nI mo) = true then 1 <<< (nI i &&& 31) else 0) : Int32) = bgF (fun s => decide (ks s ≤ nI mo)) (i + 1) from (or_if _ _)) ?_
          refine lv_istore_n (lv' := [(2, .int (bgF (fun s => decide (ks s ≤ nI mo)) (i + 1))), (0, .ref (am 31)), (1, .int (nI mo)), (3, .int (nI i))]) S.1 S.2.1 dX11_knownBy_31 rfl hl (by decide) rfl (fun ls hl => ?_)
          refine lv_iinc (v := nI (i + 1)) (lv' := [(3, .int (nI (i + 1))), (2, .int (bgF (fun s => decide (ks s ≤ nI mo)) (i + 1))), (0, .ref (am 31)), (1, .int (nI mo))]) S.1 S.2.1 dX11_knownBy_32 hl (k := 3) rfl (by first | exact nI_1 _ | exact nI_add _ _ | rfl) (by decide) rfl (fun ls hl => ?_)
          refine lv_goto (tgt := 4) S.1 S.2.1 dX11_knownBy_35 (by decide) ?_
          exact ih4 (i + 1) (by first | assumption | omega) (by omega) _ _ _ (lv_sub hl [2, 3, 1, 0] rfl) hw
        refine lv_icmp_gt (tgt := 29) S.1 S.2.1 dX11_knownBy_20 (by decide) (fun c20 => ?_) (fun c20 => ?_)
        · refine lv_iconst (v := 0) S.1 S.2.1 dX11_knownBy_29 (by decide) ?_
          refine aw_eqi (show (0 : Int32) = if decide (ks i ≤ nI mo) = true then 1 <<< (nI i &&& 31) else 0 from (by rw [if_neg (fun q => by have q1 := of_decide_eq_true q; rw [fa_lt] at c20; rw [fa_le] at q1; omega)])) ?_
          exact join30  _ _ _ (lv_sub hl [0, 1, 2, 3] rfl) hw
        · refine lv_iconst (v := 1) S.1 S.2.1 dX11_knownBy_23 (by decide) ?_
          refine lv_iload_n S.1 S.2.1 dX11_knownBy_24 rfl (lv_at hl 3 rfl) ?_
          refine lv_ishl S.1 S.2.1 dX11_knownBy_25 ?_
          refine lv_goto (tgt := 30) S.1 S.2.1 dX11_knownBy_26 (by decide) ?_
          refine aw_eqi (show (1 <<< ((nI i) &&& 31) : Int32) = if decide (ks i ≤ nI mo) = true then 1 <<< (nI i &&& 31) else 0 from (by rw [if_pos (decide_eq_true (by rw [fa_lt] at c20; rw [fa_le]; omega))])) ?_
          exact join30  _ _ _ (lv_sub hl [0, 1, 2, 3] rfl) hw
  exact loop4 _ 0 (by first | assumption | omega) (Nat.lt_succ_self _) _ _ _ (lv_sub hl [2, 3, 1, 0] rfl) hw
set_option maxRecDepth 100000 in
set_option maxHeartbeats 4000000 in
theorem c_X11_learn (l : Launch) (G : aw_G) (am : Nat → Nat) (fl : Int32) (n : Nat) (lw : Int32) (nn ra rsn nr : Nat) (tr : Int32) (ks : Nat → Int32) (set : Int32) (mo : Nat) (hn : n ≤ 6) (hmo : mo < 12) : CT l G yX11_learn wsX11_learn ({ frames := 1, cells := 0, slots := 0, locals := 21 }) [.ref (am 31), .int set, .int (nI mo)] [[(am 31, mdO am fl n lw nn ra rsn nr tr)], [(am 21, .inl (gI G, 6, .inl ks))]] (dt none [[(am 31, mdO am fl n lw nn ra rsn nr tr)], [(am 21, .inl (gI G, 6, .inl (lnF n set mo ks n)))]]) := by
  refine CT.of (cc := cX11_learn) (nL := 4) (ret := none) (by decide) rfl (Nat.le_of_ble_eq_true rfl) ?_
  intro p e s m below meth c R args Q A hRm ha hQ hAe hA S hE hr hlk hnm H locs hH0 hL0 ls hl hw
  have S : CallFix p m c cX11_learn 4 s args wsX11_learn RX11 := S
  have hl : lv_has ls 4 [(0, .ref (am 31)), (1, .int set), (2, .int (nI mo))] := hl
  have hinX11 : ∀ w ∈ u_ws RX11 TX11 31, w ∈ wsX11_learn := by decide +kernel
  have hf90 := S.2.2.2.2 (.fieldLink RX11 90 "AwakeTurnsModel" "sleepers" "I") (by decide +kernel)
  have hf55 := S.2.2.2.2 (.fieldLink RX11 55 "AwakeTurnsModel" "knowsSince" "[I") (by decide +kernel)
  refine lv_iconst (v := 0) S.1 S.2.1 dX11_learn_0 (by decide) ?_
  refine lv_istore_n (lv' := [(3, .int 0), (0, .ref (am 31)), (1, .int set), (2, .int (nI mo))]) S.1 S.2.1 dX11_learn_1 rfl hl (by decide) rfl (fun ls hl => ?_)
  have hw := aw_arr hw 1 rfl (lnF n set mo ks 0) (fun _ _ => by rw [lnF, pwF_0])
  have hw : bW G A s.heap [[(am 31, mdO am fl n lw nn ra rsn nr tr)], [(am 21, .inl (gI G, 6, .inl (lnF n set mo ks 0)))]] H locs := hw
  have loop2 : ∀ (fu : Nat) (i : Nat), (i ≤ n) → (n - i) < fu → ∀ (ls : Array Slot) (H : Heap) (locs : List Loc), lv_has ls 4 [(0, .ref (am 31)), (1, .int set), (2, .int (nI mo)), (3, .int (nI i))] → bW G A s.heap [[(am 31, mdO am fl n lw nn ra rsn nr tr)], [(am 21, .inl (gI G, 6, .inl (lnF n set mo ks i)))]] H locs → W p l e R s m args below meth c H locs 0 0 Q (F0 m 2 ls []) := by
    intro fu
    induction fu with
    | zero => intro i _ hm; exact absurd hm (Nat.not_lt_zero _)
    | succ fu ih2 =>
      intro i hi hm ls H locs hl hw
      refine lv_iload_n S.1 S.2.1 dX11_learn_2 rfl (lv_at hl 3 rfl) ?_
      refine lv_aload_n S.1 S.2.1 dX11_learn_3 rfl (lv_at hl 0 rfl) ?_
      refine aw_get S hE hw 0 (C := RX11) (T := TX11) (N := 31) rfl rfl hinX11 1 (by decide) hf90 rfl dX11_learn_4 ?_
      refine aw_icmpN_ge (x := i) (y := n) (tgt := 50) S (by omega) (by omega) dX11_learn_7 (by decide) (fun c7 => ?_) (fun c7 => ?_)
      · have ex_i : i = n := by omega
        try rw [ex_i] at hl
        try rw [ex_i] at hw
        exact aw_vret S hr hlk ha hQ hAe hw dX11_learn_50 (Nat.le_of_ble_eq_true rfl) (Nat.le_of_ble_eq_true rfl) ⟨rfl, rfl⟩
      · refine lv_aload_n S.1 S.2.1 dX11_learn_10 rfl (lv_at hl 0 rfl) ?_
        refine aw_get S hE hw 0 (C := RX11) (T := TX11) (N := 31) rfl rfl hinX11 21 (by decide) hf55 rfl dX11_learn_11 ?_
        refine lv_iload_n S.1 S.2.1 dX11_learn_14 rfl (lv_at hl 3 rfl) ?_
        refine lv_iload_n S.1 S.2.1 dX11_learn_15 rfl (lv_at hl 1 rfl) ?_
        refine lv_iload_n S.1 S.2.1 dX11_learn_16 rfl (lv_at hl 3 rfl) ?_
        refine aw_callS S hE (c_X11_isIn l G set i (by first | assumption | omega)) gX11_learn_X11_isIn (n := 2) rfl (by decide +kernel) rfl (by rw [hRm]; exact ⟨Nat.le_of_ble_eq_true rfl, Nat.le_of_ble_eq_true rfl⟩) (by rw [hRm]; exact ⟨Nat.le_of_ble_eq_true rfl, Nat.le_of_ble_eq_true rfl⟩) hw hA hl.1 [] rfl rfl rfl (Nat.le_of_ble_eq_true rfl) dX11_learn_17 ?_
        rintro v w1 H locs ⟨rfl, rfl⟩ hw
        have hw : bW G A s.heap [[(am 31, mdO am fl n lw nn ra rsn nr tr)], [(am 21, .inl (gI G, 6, .inl (lnF n set mo ks i)))]] H locs := hw
        refine W.eq (g2 := (F0 m 20 ls [.int (if bt set i = true then 1 else 0), .int (nI i), .ref (am 21)])) rfl ?_
        have join43 : ∀ (H : Heap) (locs : List Loc), ∀ (ls : Array Slot), lv_has ls 4 [(0, .ref (am 31)), (1, .int set), (2, .int (nI mo)), (3, .int (nI i))] → bW G A s.heap [[(am 31, mdO am fl n lw nn ra rsn nr tr)], [(am 21, .inl (gI G, 6, .inl (lnF n set mo ks i)))]] H locs → W p l e R s m args below meth c H locs 0 0 Q (F0 m 43 ls [.int (if bt set i = true ∧ ¬ ks i ≤ nI mo then nI mo else ks i), .int (nI i), .ref (am 21)]) := by
          intro  H locs ls hl hw
          refine aw_iast S hE hw 1 (k := i) rfl (by omega) (by decide) dX11_learn_43 (fun H locs hw => ?_)
          have hw : bW G A s.heap [[(am 31, mdO am fl n lw nn ra rsn nr tr)], [(am 21, .inl (gI G, 6, .inl (upd (lnF n set mo ks i) i (if bt set i = true ∧ ¬ ks i ≤ nI mo then nI mo else ks i))))]] H locs := hw
          refine lv_iinc (v := nI (i + 1)) (lv' := [(3, .int (nI (i + 1))), (0, .ref (am 31)), (1, .int set), (2, .int (nI mo))]) S.1 S.2.1 dX11_learn_44 hl (k := 3) rfl (by first | exact nI_1 _ | exact nI_add _ _ | rfl) (by decide) rfl (fun ls hl => ?_)
          refine lv_goto (tgt := 2) S.1 S.2.1 dX11_learn_47 (by decide) ?_
          have hw := aw_arr hw 1 rfl (lnF n set mo ks (i + 1)) (fun _ _ => by rw [lnF_s rfl])
          have hw : bW G A s.heap [[(am 31, mdO am fl n lw nn ra rsn nr tr)], [(am 21, .inl (gI G, 6, .inl (lnF n set mo ks (i + 1))))]] H locs := hw
          exact ih2 (i + 1) (by first | assumption | omega) (by omega) _ _ _ (lv_sub hl [1, 2, 3, 0] rfl) hw
        refine aw_ifeq (P := bt set i = true) (tgt := 37) S dX11_learn_20 (by decide) (fun c20 => ?_) (fun c20 => ?_)
        · refine lv_aload_n S.1 S.2.1 dX11_learn_37 rfl (lv_at hl 0 rfl) ?_
          refine aw_get S hE hw 0 (C := RX11) (T := TX11) (N := 31) rfl rfl hinX11 21 (by decide) hf55 rfl dX11_learn_38 ?_
          refine lv_iload_n S.1 S.2.1 dX11_learn_41 rfl (lv_at hl 3 rfl) ?_
          refine aw_iald S hE hw 1 (k := i) rfl (by omega) (by decide) dX11_learn_42 ?_
          refine aw_eqi (show ((lnF n set mo ks i) i : Int32) = if bt set i = true ∧ ¬ ks i ≤ nI mo then nI mo else ks i from (by rw [if_neg (fun q => c20 q.1)]; exact pwF_at _ _ _ _)) ?_
          exact join43  _ _ _ (lv_sub hl [0, 1, 2, 3] rfl) hw
        · refine lv_aload_n S.1 S.2.1 dX11_learn_23 rfl (lv_at hl 0 rfl) ?_
          refine aw_get S hE hw 0 (C := RX11) (T := TX11) (N := 31) rfl rfl hinX11 21 (by decide) hf55 rfl dX11_learn_24 ?_
          refine lv_iload_n S.1 S.2.1 dX11_learn_27 rfl (lv_at hl 3 rfl) ?_
          refine aw_iald S hE hw 1 (k := i) rfl (by omega) (by decide) dX11_learn_28 ?_
          refine lv_iload_n S.1 S.2.1 dX11_learn_29 rfl (lv_at hl 2 rfl) ?_
          refine lv_icmp_le (tgt := 37) S.1 S.2.1 dX11_learn_30 (by decide) (fun c30 => ?_) (fun c30 => ?_)
          · refine lv_aload_n S.1 S.2.1 dX11_learn_37 rfl (lv_at hl 0 rfl) ?_
            refine aw_get S hE hw 0 (C := RX11) (T := TX11) (N := 31) rfl rfl hinX11 21 (by decide) hf55 rfl dX11_learn_38 ?_
            refine lv_iload_n S.1 S.2.1 dX11_learn_41 rfl (lv_at hl 3 rfl) ?_
            refine aw_iald S hE hw 1 (k := i) rfl (by omega) (by decide) dX11_learn_42 ?_
            refine aw_eqi (show ((lnF n set mo ks i) i : Int32) = if bt set i = true ∧ ¬ ks i ≤ nI mo then nI mo else ks i from (by rw [lnF, pwF_at] at c30; rw [if_neg (fun q => q.2 c30)]; exact pwF_at _ _ _ _)) ?_
            exact join43  _ _ _ (lv_sub hl [0, 1, 2, 3] rfl) hw
          · refine lv_iload_n S.1 S.2.1 dX11_learn_33 rfl (lv_at hl 2 rfl) ?_
            refine lv_goto (tgt := 43) S.1 S.2.1 dX11_learn_34 (by decide) ?_
            refine aw_eqi (show (nI mo : Int32) = if bt set i = true ∧ ¬ ks i ≤ nI mo then nI mo else ks i from (by rw [lnF, pwF_at] at c30; rw [if_pos ⟨c20, c30⟩])) ?_
            exact join43  _ _ _ (lv_sub hl [0, 1, 2, 3] rfl) hw
  exact loop2 _ 0 (by first | assumption | omega) (Nat.lt_succ_self _) _ _ _ (lv_sub hl [1, 2, 3, 0] rfl) hw
