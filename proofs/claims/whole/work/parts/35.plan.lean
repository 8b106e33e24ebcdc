/-! covers, and the plan -/
def pcN (S : Nat) : Nat := S % 2 + S / 2 % 2 + S / 4 % 2 + S / 8 % 2 + S / 16 % 2 + S / 32 % 2
def us (x s : Int32) : Int32 := (x.toUInt32 >>> (s.toUInt32 &&& Int32.toUInt32 31)).toInt32
def bc1 (x : Int32) : Int32 := x - (us x 1 &&& 1431655765)
def bc2 (x : Int32) : Int32 := (x &&& 858993459) + (us x 2 &&& 858993459)
def bc3 (x : Int32) : Int32 := (x + us x 4) &&& 252645135
def bc4 (x : Int32) : Int32 := x + us x 8
def bc5 (x : Int32) : Int32 := x + us x 16
def bcF (x : Int32) : Int32 := bc5 (bc4 (bc3 (bc2 (bc1 x)))) &&& 63
theorem bcF_n : ∀ S, S < 64 → bcF (nI S) = nI (pcN S) := by decide +kernel
theorem pcN_lt : ∀ S, S < 64 → pcN S < 7 := by decide +kernel
/-- the best cover among the sets below S -/
def cvO (ok : Nat → Bool) : Nat → Option Nat
  | 0 => none
  | S + 1 => if ok S = true ∧ ∀ b, cvO ok S = some b → pcN S < pcN b then some S else cvO ok S
def cvI (o : Option Nat) : Int32 := match o with
  | none => -9
  | some b => nI b
theorem cvO_lt {ok : Nat → Bool} : ∀ {S b : Nat}, cvO ok S = some b → b < S
  | 0, b, h => by cases h
  | S + 1, b, h => by
    unfold cvO at h
    split at h
    · cases h; omega
    · have := cvO_lt h; omega
theorem cvI_none {o : Option Nat} (h : ∀ b, o = some b → b < 64) : cvI o = -9 ↔ o = none := by
  cases o with
  | none => simp [cvI]
  | some b =>
    simp only [cvI, reduceCtorEq, iff_false]
    intro q
    have h2 := h b rfl
    rw [fa_eq, nI_toInt (by omega), li_m9] at q
    omega
theorem cvO_no {ok : Nat → Bool} {S : Nat} (h : ¬ ok S = true) : cvO ok (S + 1) = cvO ok S := by
  rw [cvO]; exact if_neg (fun q => h q.1)
theorem cvO_new {ok : Nat → Bool} {S : Nat} (h : ok S = true) (h2 : cvO ok S = none) : cvO ok (S + 1) = some S := by
  rw [cvO]; exact if_pos ⟨h, fun b hb => by rw [h2] at hb; cases hb⟩
theorem cvO_lt2 {ok : Nat → Bool} {S b : Nat} (h : ok S = true) (h2 : cvO ok S = some b) (h3 : pcN S < pcN b) : cvO ok (S + 1) = some S := by
  rw [cvO]; exact if_pos ⟨h, fun c hc => by rw [h2] at hc; cases hc; exact h3⟩
theorem cvO_ge {ok : Nat → Bool} {S b : Nat} (h2 : cvO ok S = some b) (h3 : ¬ pcN S < pcN b) : cvO ok (S + 1) = cvO ok S := by
  rw [cvO]; exact if_neg (fun q => h3 (q.2 b h2))
/-- whether a set meets what is wanted, by the table -/
def mtP (so : Nat → Int32) (wn : Int32) (S : Nat) : Bool := decide (wn &&& (so S ^^^ (-1)) = 0)
def rwF (so wa : Nat → Int32) (rs : Nat → Nat → Int32) (S m : Nat) : Int32 := if mtP so (wa m) S = true then rs (m + 1) S else 1048576
def mn (x y : Int32) : Int32 := if y < x then y else x
def chF (s i : Nat) (h : Int32) (f : Nat → Int32) : Nat → Int32 := fun S =>
  if S.testBit s = true then (if S - 2 ^ s < i then mn (f (S - 2 ^ s)) (f S) else f S) else (if S < i then mn (f S) (f (S + 2 ^ s) + h) else f S)
theorem chF_0 (s : Nat) (h : Int32) (f : Nat → Int32) (S : Nat) : chF s 0 h f S = f S := by
  unfold chF
  split
  · exact if_neg (by omega)
  · exact if_neg (by omega)
theorem tb_ge {S s : Nat} (h : S.testBit s = true) : 2 ^ s ≤ S := Nat.ge_two_pow_of_testBit h
theorem tb_add {S s : Nat} (h : ¬ S.testBit s = true) : (S + 2 ^ s).testBit s = true := by
  rw [Nat.add_comm, Nat.testBit_two_pow_add_eq]
  simpa using h
theorem tb_sub {S s : Nat} (h : S.testBit s = true) : ¬ (S - 2 ^ s).testBit s = true := by
  intro q
  have h1 := tb_ge h
  have h2 : (2 ^ s + (S - 2 ^ s)).testBit s = !(S - 2 ^ s).testBit s := Nat.testBit_two_pow_add_eq _ _
  rw [show 2 ^ s + (S - 2 ^ s) = S by omega, h, q] at h2
  cases h2
theorem chF_skip {s i : Nat} {h : Int32} {f : Nat → Int32} (hb : i.testBit s = true) : chF s (i + 1) h f = chF s i h f := by
  funext S
  unfold chF
  split
  · rename_i q
    by_cases e : S - 2 ^ s = i
    · exact absurd (e ▸ hb) (tb_sub q)
    · by_cases z : S - 2 ^ s < i
      · rw [if_pos z, if_pos (by omega)]
      · rw [if_neg z, if_neg (by omega)]
  · rename_i q
    by_cases e : S = i
    · exact absurd (e ▸ hb) q
    · by_cases z : S < i
      · rw [if_pos z, if_pos (by omega)]
      · rw [if_neg z, if_neg (by omega)]
theorem chF_step {s i : Nat} {h : Int32} {f : Nat → Int32} (hb : ¬ i.testBit s = true) : upd (upd (chF s i h f) i (mn (f i) (f (i + 2 ^ s) + h))) (i + 2 ^ s) (mn (f i) (f (i + 2 ^ s))) = chF s (i + 1) h f := by
  have hp : 0 < 2 ^ s := Nat.two_pow_pos s
  funext S
  unfold upd
  by_cases e1 : S = i + 2 ^ s
  · rw [if_pos e1]
    subst e1
    unfold chF
    rw [if_pos (tb_add hb), if_pos (by omega), Nat.add_sub_cancel]
  · rw [if_neg e1]
    by_cases e2 : S = i
    · rw [if_pos e2]
      subst e2
      unfold chF
      rw [if_neg hb, if_pos (by omega)]
    · rw [if_neg e2]
      unfold chF
      split
      · rename_i q
        have h1 := tb_ge q
        by_cases z : S - 2 ^ s < i
        · rw [if_pos z, if_pos (by omega)]
        · rw [if_neg z, if_neg (by omega)]
      · by_cases z : S < i
        · rw [if_pos z, if_pos (by omega)]
        · rw [if_neg z, if_neg (by omega)]
theorem chF_at {s i : Nat} {h : Int32} {f : Nat → Int32} (hb : ¬ i.testBit s = true) : chF s i h f i = f i ∧ chF s i h f (i + 2 ^ s) = f (i + 2 ^ s) := by
  unfold chF
  rw [if_neg hb, if_neg (by omega), if_pos (tb_add hb), if_neg (by omega)]
  exact ⟨rfl, rfl⟩
theorem or_bit {i s : Nat} (hi : i < 64) (hs : s < 6) (hb : ¬ i.testBit s = true) : nI i ||| nI (2 ^ s) = nI (i + 2 ^ s) ∧ i + 2 ^ s < 64 := by
  have h := (by decide +kernel : ∀ s, s < 6 → ∀ i, i < 64 → i.testBit s = false → nI i ||| nI (2 ^ s) = nI (i + 2 ^ s) ∧ i + 2 ^ s < 64)
  exact h s hs i hi (by simpa using hb)
/-- the row after so many choices -/
def chs (n : Nat) (hs f : Nat → Int32) : Nat → Nat → Int32
  | 0 => f
  | s + 1 => chF s (2 ^ n) (hs (2 ^ s)) (chs n hs f s)
/-- least harm of so many months from the last back -/
def prow (n : Nat) (so hs wa : Nat → Int32) : Nat → Nat → Int32
  | 0 => fun _ => 0
  | k + 1 => chs n hs (fun S => if mtP so (wa (11 - k)) S = true then prow n so hs wa k S else 1048576) n
/-- the rows that stand already: from month j on -/
def rsR (n : Nat) (so hs wa : Nat → Int32) (rs : Nat → Nat → Int32) (j : Nat) : Nat → Nat → Int32 := fun m => if j ≤ m ∧ m < 12 then fa_fill (prow n so hs wa (12 - m)) (rs m) (2 ^ n) else rs m
theorem tb_lim : ∀ n, n < 7 → ∀ s, s < 7 → ∀ S, S < 64 → ((!decide (s < n)) || ((!decide (S < 2 ^ n) || S.testBit s || decide (S + 2 ^ s < 2 ^ n)) && (!decide (2 ^ n ≤ S) || !S.testBit s || decide (2 ^ n ≤ S - 2 ^ s)))) = true := by decide +kernel
theorem chF_fill {n s : Nat} {h : Int32} {f g : Nat → Int32} (hs : s < n) (hn : n ≤ 6) (S : Nat) (hS : S < 64) : chF s (2 ^ n) h (fa_fill f g (2 ^ n)) S = fa_fill (chF s (2 ^ n) h f) g (2 ^ n) S := by
  have hd := tb_lim n (by omega) s (by omega) S hS
  simp only [hs, decide_true, Bool.not_true, Bool.false_or, Bool.and_eq_true, Bool.or_eq_true, Bool.not_eq_true', decide_eq_false_iff_not, decide_eq_true_eq] at hd
  rcases Nat.lt_or_ge S (2 ^ n) with q | q
  · rw [fa_fill_in q]
    unfold chF
    split
    · rw [fa_fill_in q, fa_fill_in (show S - 2 ^ s < 2 ^ n from Nat.lt_of_le_of_lt (Nat.sub_le _ _) q)]
    · rename_i z
      rcases hd.1 with (w | w) | w
      · exact absurd q w
      · exact absurd w z
      · rw [fa_fill_in q, fa_fill_in w]
  · rw [fa_fill_out q]
    unfold chF
    split
    · rename_i z
      rcases hd.2 with (w | w) | w
      · exact absurd q w
      · rw [w] at z; cases z
      · rw [if_neg (Nat.not_lt.mpr w), fa_fill_out q]
    · rw [if_neg (Nat.not_lt.mpr q), fa_fill_out q]
def adN (S b : Nat) : Nat := S &&& (63 - b)
theorem ad_and : ∀ S, S < 64 → ∀ b, b < 64 → nI S &&& (nI b ^^^ (-1)) = nI (adN S b) ∧ adN S b < 64 := by decide +kernel
/-- the first set that stays best -/
def fbP (so hs wa : Nat → Int32) (rs : Nat → Nat → Int32) (m b S : Nat) : Bool := decide (hs (adN S b) + rwF so wa rs S m = rs m b)
def fbN (n : Nat) (so hs wa : Nat → Int32) (rs : Nat → Nat → Int32) (m b : Nat) : Nat := if fF (fbP so hs wa rs m b) (2 ^ n) < 2 ^ n then fF (fbP so hs wa rs m b) (2 ^ n) else 0
def wuN (n : Nat) (so hs wa : Nat → Int32) (rs : Nat → Nat → Int32) : Nat → Nat
  | 0 => 0
  | m + 1 => fbN n so hs wa rs m (wuN n so hs wa rs m)
theorem wuN_lt (n : Nat) (so hs wa : Nat → Int32) (rs : Nat → Nat → Int32) : ∀ m, wuN n so hs wa rs m < 2 ^ n
  | 0 => Nat.two_pow_pos n
  | m + 1 => by
    unfold wuN fbN
    split
    · assumption
    · exact Nat.two_pow_pos n
set_option maxRecDepth 100000 in
set_option maxHeartbeats 4000000 in
theorem c_J6_bitCount_0f7a4 (l : Launch) (G : aw_G) (S_ : Nat) (hS : S_ < 64) : CT l G yJ6_bitCount_0f7a4 wsJ6_bitCount_0f7a4 ({ frames := 0, cells := 0, slots := 0, locals := 0 }) [.int (nI S_)] [] (dt (some (.int (nI (pcN S_)))) []) := by
  refine CT.of (cc := cJ6_bitCount_0f7a4) (nL := 1) (ret := (some .int)) (by decide) rfl (Nat.le_of_ble_eq_true rfl) ?_
  intro p e s m below meth c R args Q A hRm ha hQ hAe hA S hE hr hlk hnm H locs hH0 hL0 ls hl hw
  have S : CallFix p m c cJ6_bitCount_0f7a4 1 s args wsJ6_bitCount_0f7a4 RJ6 := S
  have hl : lv_has ls 1 [(0, .int (nI S_))] := hl
  refine lv_iload_n S.1 S.2.1 dJ6_bitCount_0f7a4_0 rfl (lv_at hl 0 rfl) ?_
  refine lv_iload_n S.1 S.2.1 dJ6_bitCount_0f7a4_1 rfl (lv_at hl 0 rfl) ?_
  refine lv_iconst (v := 1) S.1 S.2.1 dJ6_bitCount_0f7a4_2 (by decide) ?_
  refine lv_iushr S.1 S.2.1 dJ6_bitCount_0f7a4_3 rfl ?_
  refine lv_ldcw (v := 1431655765) S.1 S.2.1 S.2.2.2.1 (S.2.2.2.2 (.constant RJ6 265 1431655765) (by decide +kernel)) dJ6_bitCount_0f7a4_4 ?_
  refine lv_iand S.1 S.2.1 dJ6_bitCount_0f7a4_7 ?_
  refine lv_isub S.1 S.2.1 dJ6_bitCount_0f7a4_8 ?_
  refine aw_eqi (show ((nI S_) - ((((nI S_).toUInt32 >>> ((1 : Int32).toUInt32 &&& Int32.toUInt32 31)).toInt32) &&& 1431655765) : Int32) = bc1 (nI S_) from rfl) ?_
  refine lv_istore_n (lv' := [(0, .int (bc1 (nI S_)))]) S.1 S.2.1 dJ6_bitCount_0f7a4_9 rfl hl (by decide) rfl (fun ls hl => ?_)
  refine lv_iload_n S.1 S.2.1 dJ6_bitCount_0f7a4_10 rfl (lv_at hl 0 rfl) ?_
  refine lv_ldcw (v := 858993459) S.1 S.2.1 S.2.2.2.1 (S.2.2.2.2 (.constant RJ6 266 858993459) (by decide +kernel)) dJ6_bitCount_0f7a4_11 ?_
  refine lv_iand S.1 S.2.1 dJ6_bitCount_0f7a4_14 ?_
  refine lv_iload_n S.1 S.2.1 dJ6_bitCount_0f7a4_15 rfl (lv_at hl 0 rfl) ?_
  refine lv_iconst (v := 2) S.1 S.2.1 dJ6_bitCount_0f7a4_16 (by decide) ?_
  refine lv_iushr S.1 S.2.1 dJ6_bitCount_0f7a4_17 rfl ?_
  refine lv_ldcw (v := 858993459) S.1 S.2.1 S.2.2.2.1 (S.2.2.2.2 (.constant RJ6 266 858993459) (by decide +kernel)) dJ6_bitCount_0f7a4_18 ?_
  refine lv_iand S.1 S.2.1 dJ6_bitCount_0f7a4_21 ?_
  refine lv_iadd S.1 S.2.1 dJ6_bitCount_0f7a4_22 ?_
  refine aw_eqi (show (((bc1 (nI S_)) &&& 858993459) + ((((bc1 (nI S_)).toUInt32 >>> ((2 : Int32).toUInt32 &&& Int32.toUInt32 31)).toInt32) &&& 858993459) : Int32) = bc2 (bc1 (nI S_)) from rfl) ?_
  refine lv_istore_n (lv' := [(0, .int (bc2 (bc1 (nI S_))))]) S.1 S.2.1 dJ6_bitCount_0f7a4_23 rfl hl (by decide) rfl (fun ls hl => ?_)
  refine lv_iload_n S.1 S.2.1 dJ6_bitCount_0f7a4_24 rfl (lv_at hl 0 rfl) ?_
  refine lv_iload_n S.1 S.2.1 dJ6_bitCount_0f7a4_25 rfl (lv_at hl 0 rfl) ?_
  refine lv_iconst (v := 4) S.1 S.2.1 dJ6_bitCount_0f7a4_26 (by decide) ?_
  refine lv_iushr S.1 S.2.1 dJ6_bitCount_0f7a4_27 rfl ?_
  refine lv_iadd S.1 S.2.1 dJ6_bitCount_0f7a4_28 ?_
  refine lv_ldcw (v := 252645135) S.1 S.2.1 S.2.2.2.1 (S.2.2.2.2 (.constant RJ6 267 252645135) (by decide +kernel)) dJ6_bitCount_0f7a4_29 ?_
  refine lv_iand S.1 S.2.1 dJ6_bitCount_0f7a4_32 ?_
  refine aw_eqi (show (((bc2 (bc1 (nI S_))) + (((bc2 (bc1 (nI S_))).toUInt32 >>> ((4 : Int32).toUInt32 &&& Int32.toUInt32 31)).toInt32)) &&& 252645135 : Int32) = bc3 (bc2 (bc1 (nI S_))) from rfl) ?_
  refine lv_istore_n (lv' := [(0, .int (bc3 (bc2 (bc1 (nI S_)))))]) S.1 S.2.1 dJ6_bitCount_0f7a4_33 rfl hl (by decide) rfl (fun ls hl => ?_)
  refine lv_iload_n S.1 S.2.1 dJ6_bitCount_0f7a4_34 rfl (lv_at hl 0 rfl) ?_
  refine lv_iload_n S.1 S.2.1 dJ6_bitCount_0f7a4_35 rfl (lv_at hl 0 rfl) ?_
  refine lv_bipush (v := 8) S.1 S.2.1 dJ6_bitCount_0f7a4_36 (by decide) ?_
  refine lv_iushr S.1 S.2.1 dJ6_bitCount_0f7a4_38 rfl ?_
  refine lv_iadd S.1 S.2.1 dJ6_bitCount_0f7a4_39 ?_
  refine aw_eqi (show ((bc3 (bc2 (bc1 (nI S_)))) + (((bc3 (bc2 (bc1 (nI S_)))).toUInt32 >>> ((8 : Int32).toUInt32 &&& Int32.toUInt32 31)).toInt32) : Int32) = bc4 (bc3 (bc2 (bc1 (nI S_)))) from rfl) ?_
  refine lv_istore_n (lv' := [(0, .int (bc4 (bc3 (bc2 (bc1 (nI S_))))))]) S.1 S.2.1 dJ6_bitCount_0f7a4_40 rfl hl (by decide) rfl (fun ls hl => ?_)
  refine lv_iload_n S.1 S.2.1 dJ6_bitCount_0f7a4_41 rfl (lv_at hl 0 rfl) ?_
  refine lv_iload_n S.1 S.2.1 dJ6_bitCount_0f7a4_42 rfl (lv_at hl 0 rfl) ?_
  refine lv_bipush (v := 16) S.1 S.2.1 dJ6_bitCount_0f7a4_43 (by decide) ?_
  refine lv_iushr S.1 S.2.1 dJ6_bitCount_0f7a4_45 rfl ?_
  refine lv_iadd S.1 S.2.1 dJ6_bitCount_0f7a4_46 ?_
  refine aw_eqi (show ((bc4 (bc3 (bc2 (bc1 (nI S_))))) + (((bc4 (bc3 (bc2 (bc1 (nI S_))))).toUInt32 >>> ((16 : Int32).toUInt32 &&& Int32.toUInt32 31)).toInt32) : Int32) = bc5 (bc4 (bc3 (bc2 (bc1 (nI S_))))) from rfl) ?_
  refine lv_istore_n (lv' := [(0, .int (bc5 (bc4 (bc3 (bc2 (bc1 (nI S_)))))))]) S.1 S.2.1 dJ6_bitCount_0f7a4_47 rfl hl (by decide) rfl (fun ls hl => ?_)
  refine lv_iload_n S.1 S.2.1 dJ6_bitCount_0f7a4_48 rfl (lv_at hl 0 rfl) ?_
  refine lv_bipush (v := 63) S.1 S.2.1 dJ6_bitCount_0f7a4_49 (by decide) ?_
  refine lv_iand S.1 S.2.1 dJ6_bitCount_0f7a4_51 ?_
  refine aw_eqi (show ((bc5 (bc4 (bc3 (bc2 (bc1 (nI S_)))))) &&& 63 : Int32) = nI (pcN S_) from (bcF_n S_ hS)) ?_
  exact aw_iret S hr hlk ha hQ hAe hw dJ6_bitCount_0f7a4_52 rfl (Nat.le_of_ble_eq_true rfl) (Nat.le_of_ble_eq_true rfl) ⟨rfl, rfl⟩
set_option maxRecDepth 100000 in
set_option maxHeartbeats 4000000 in
theorem c_X0_fewestWith (l : Launch) (G : aw_G) (ad : Nat → Nat) (n : Nat) (lw : Int32) (so : Nat → Int32) (wn : Int32) (hn : n ≤ 6) : CT l G yX0_fewestWith wsX0_fewestWith ({ frames := 1, cells := 0, slots := 0, locals := 22 }) [.ref (ad 2), .int wn] [[(ad 2, .inr (0, [.ref (ad 8), .ref (ad 9), .ref (ad 10), .ref (ad 11), .ref (ad 12), .int (nI n), .int lw]))], [(ad 11, .inl (gI G, 64, .inl so))]] (dt (some (.int (cvI (cvO (mtP so wn) (2 ^ n))))) [[(ad 2, .inr (0, [.ref (ad 8), .ref (ad 9), .ref (ad 10), .ref (ad 11), .ref (ad 12), .int (nI n), .int lw]))], [(ad 11, .inl (gI G, 64, .inl so))]]) := by
  refine CT.of (cc := cX0_fewestWith) (nL := 4) (ret := (some .int)) (by decide) rfl (Nat.le_of_ble_eq_true rfl) ?_
  intro p e s m below meth c R args Q A hRm ha hQ hAe hA S hE hr hlk hnm H locs hH0 hL0 ls hl hw
  have S : CallFix p m c cX0_fewestWith 4 s args wsX0_fewestWith RX0 := S
  have hl : lv_has ls 4 [(0, .ref (ad 2)), (1, .int wn)] := hl
  have hp6 := pow6' hn
  refine lv_bipush (v := (-9)) S.1 S.2.1 dX0_fewestWith_0 (by decide) ?_
  refine lv_istore_n (lv' := [(2, .int (-9)), (0, .ref (ad 2)), (1, .int wn)]) S.1 S.2.1 dX0_fewestWith_2 rfl hl (by decide) rfl (fun ls hl => ?_)
  refine lv_iconst (v := 0) S.1 S.2.1 dX0_fewestWith_3 (by decide) ?_
  refine lv_istore_n (lv' := [(3, .int 0), (2, .int (-9)), (0, .ref (ad 2)), (1, .int wn)]) S.1 S.2.1 dX0_fewestWith_4 rfl hl (by decide) rfl (fun ls hl => ?_)
  have loop5 : ∀ (fu : Nat) (i : Nat), (i ≤ 2 ^ n) → (2 ^ n - i) < fu → ∀ (ls : Array Slot) (H : Heap) (locs : List Loc), lv_has ls 4 [(0, .ref (ad 2)), (1, .int wn), (2, .int (cvI (cvO (mtP so wn) i))), (3, .int (nI i))] → bW G A s.heap [[(ad 2, .inr (0, [.ref (ad 8), .ref (ad 9), .ref (ad 10), .ref (ad 11), .ref (ad 12), .int (nI n), .int lw]))], [(ad 11, .inl (gI G, 64, .inl so))]] H locs → W p l e R s m args below meth c H locs 0 0 Q (F0 m 5 ls []) := by
    intro fu
    induction fu with
    | zero => intro i _ hm; exact absurd hm (Nat.not_lt_zero _)
    | succ fu ih5 =>
      intro i hi hm ls H locs hl hw
      refine lv_iload_n S.1 S.2.1 dX0_fewestWith_5 rfl (lv_at hl 3 rfl) ?_
      refine lv_aload_n S.1 S.2.1 dX0_fewestWith_6 rfl (lv_at hl 0 rfl) ?_
      refine aw_callV S hE (c_X0_setCount l G ad n lw (by first | assumption | omega)) gX0_fewestWith_X0_setCount (n := 0) rfl (by decide +kernel) rfl (by rw [hRm]; exact ⟨Nat.le_of_ble_eq_true rfl, Nat.le_of_ble_eq_true rfl⟩) (by rw [hRm]; exact ⟨Nat.le_of_ble_eq_true rfl, Nat.le_of_ble_eq_true rfl⟩) hw hA hl.1 [0] rfl rfl (aw_recv (i := 0) hE hw rfl rfl rfl) rfl (Nat.le_of_ble_eq_true rfl) dX0_fewestWith_7 ?_
      rintro v w1 H locs ⟨rfl, rfl⟩ hw
      have hw : bW G A s.heap [[(ad 2, .inr (0, [.ref (ad 8), .ref (ad 9), .ref (ad 10), .ref (ad 11), .ref (ad 12), .int (nI n), .int lw]))], [(ad 11, .inl (gI G, 64, .inl so))]] H locs := hw
      refine W.eq (g2 := (F0 m 10 ls [.int (nI (2 ^ n)), .int (nI i)])) rfl ?_
      refine aw_icmpN_ge (x := i) (y := 2 ^ n) (tgt := 47) S (by omega) (by omega) dX0_fewestWith_10 (by decide) (fun c10 => ?_) (fun c10 => ?_)
      · have ex_i : i = 2 ^ n := by omega
        try rw [ex_i] at hl
        try rw [ex_i] at hw
        refine lv_iload_n S.1 S.2.1 dX0_fewestWith_47 rfl (lv_at hl 2 rfl) ?_
        exact aw_iret S hr hlk ha hQ hAe hw dX0_fewestWith_48 rfl (Nat.le_of_ble_eq_true rfl) (Nat.le_of_ble_eq_true rfl) ⟨rfl, rfl⟩
      · refine lv_aload_n S.1 S.2.1 dX0_fewestWith_13 rfl (lv_at hl 0 rfl) ?_
        refine lv_iload_n S.1 S.2.1 dX0_fewestWith_14 rfl (lv_at hl 3 rfl) ?_
        refine lv_iload_n S.1 S.2.1 dX0_fewestWith_15 rfl (lv_at hl 1 rfl) ?_
        refine aw_callV S hE (c_X0_meets l G ad n lw so i wn (by first | assumption | omega)) gX0_fewestWith_X0_meets (n := 2) rfl (by decide +kernel) rfl (by rw [hRm]; exact ⟨Nat.le_of_ble_eq_true rfl, Nat.le_of_ble_eq_true rfl⟩) (by rw [hRm]; exact ⟨Nat.le_of_ble_eq_true rfl, Nat.le_of_ble_eq_true rfl⟩) hw hA hl.1 [0, 1] rfl rfl (aw_recv (i := 0) hE hw rfl rfl rfl) rfl (Nat.le_of_ble_eq_true rfl) dX0_fewestWith_16 ?_
        rintro v w1 H locs ⟨rfl, rfl⟩ hw
        have hw : bW G A s.heap [[(ad 2, .inr (0, [.ref (ad 8), .ref (ad 9), .ref (ad 10), .ref (ad 11), .ref (ad 12), .int (nI n), .int lw]))], [(ad 11, .inl (gI G, 64, .inl so))]] H locs := hw
        refine W.eq (g2 := (F0 m 19 ls [.int (if wn &&& (so i ^^^ (-1)) = 0 then 1 else 0)])) rfl ?_
        refine aw_ifeq (P := wn &&& (so i ^^^ (-1)) = 0) (tgt := 41) S dX0_fewestWith_19 (by decide) (fun c19 => ?_) (fun c19 => ?_)
        · have hl := Eq.mp (congrArg (fun z_ : Int32 => lv_has ls 4 [(0, .ref (ad 2)), (1, .int wn), (2, .int z_), (3, .int (nI i))]) (show (cvI (cvO (mtP so wn) i) : Int32) = cvI (cvO (mtP so wn) (i + 1)) from (by rw [cvO_no (by unfold mtP; simpa using c19)]))) hl
          have hl : lv_has ls 4 [(0, .ref (ad 2)), (1, .int wn), (2, .int (cvI (cvO (mtP so wn) (i + 1)))), (3, .int (nI i))] := hl
          refine lv_iinc (v := nI (i + 1)) (lv' := [(3, .int (nI (i + 1))), (0, .ref (ad 2)), (1, .int wn), (2, .int (cvI (cvO (mtP so wn) (i + 1))))]) S.1 S.2.1 dX0_fewestWith_41 hl (k := 3) rfl (by first | exact nI_1 _ | exact nI_add _ _ | rfl) (by decide) rfl (fun ls hl => ?_)
          refine lv_goto (tgt := 5) S.1 S.2.1 dX0_fewestWith_44 (by decide) ?_
          exact ih5 (i + 1) (by first | assumption | omega) (by omega) _ _ _ (lv_sub hl [1, 2, 3, 0] rfl) hw
        · have hok : (mtP so wn) i = true := by unfold mtP; exact decide_eq_true c19
          refine lv_iload_n S.1 S.2.1 dX0_fewestWith_22 rfl (lv_at hl 2 rfl) ?_
          refine lv_bipush (v := (-9)) S.1 S.2.1 dX0_fewestWith_23 (by decide) ?_
          refine lv_icmp_eq (tgt := 39) S.1 S.2.1 dX0_fewestWith_25 (by decide) (fun c25 => ?_) (fun c25 => ?_)
          · have hno := (cvI_none (fun b hb => by have := cvO_lt hb; omega)).mp c25
            have hnew := cvO_new hok hno
            refine lv_iload_n S.1 S.2.1 dX0_fewestWith_39 rfl (lv_at hl 3 rfl) ?_
            refine aw_eqi (show (nI i : Int32) = cvI (cvO (mtP so wn) (i + 1)) from (by rw [hnew]; rfl)) ?_
            refine lv_istore_n (lv' := [(2, .int (cvI (cvO (mtP so wn) (i + 1)))), (0, .ref (ad 2)), (1, .int wn), (3, .int (nI i))]) S.1 S.2.1 dX0_fewestWith_40 rfl hl (by decide) rfl (fun ls hl => ?_)
            refine lv_iinc (v := nI (i + 1)) (lv' := [(3, .int (nI (i + 1))), (2, .int (cvI (cvO (mtP so wn) (i + 1)))), (0, .ref (ad 2)), (1, .int wn)]) S.1 S.2.1 dX0_fewestWith_41 hl (k := 3) rfl (by first | exact nI_1 _ | exact nI_add _ _ | rfl) (by decide) rfl (fun ls hl => ?_)
            refine lv_goto (tgt := 5) S.1 S.2.1 dX0_fewestWith_44 (by decide) ?_
            exact ih5 (i + 1) (by first | assumption | omega) (by omega) _ _ _ (lv_sub hl [2, 3, 1, 0] rfl) hw
          · obtain ⟨b, hb⟩ : ∃ b, cvO (mtP so wn) i = some b := by cases h : cvO (mtP so wn) i with | none => exact absurd (by rw [h]; rfl) c25 | some b => exact ⟨b, rfl⟩
            have hbl := cvO_lt hb
            have hl := Eq.mp (congrArg (fun z_ : Int32 => lv_has ls 4 [(0, .ref (ad 2)), (1, .int wn), (2, .int z_), (3, .int (nI i))]) (show (cvI (cvO (mtP so wn) i) : Int32) = nI b from (by rw [hb]; rfl))) hl
            have hl : lv_has ls 4 [(0, .ref (ad 2)), (1, .int wn), (2, .int (nI b)), (3, .int (nI i))] := hl
            refine lv_iload_n S.1 S.2.1 dX0_fewestWith_28 rfl (lv_at hl 3 rfl) ?_
            refine aw_callS S hE (c_J6_bitCount_0f7a4 l G i (by first | assumption | omega)) gX0_fewestWith_J6_bitCount_0f7a4 (n := 1) rfl (by decide +kernel) rfl (by rw [hRm]; exact ⟨Nat.le_of_ble_eq_true rfl, Nat.le_of_ble_eq_true rfl⟩) (by rw [hRm]; exact ⟨Nat.le_of_ble_eq_true rfl, Nat.le_of_ble_eq_true rfl⟩) hw hA hl.1 [] rfl rfl rfl (Nat.le_of_ble_eq_true rfl) dX0_fewestWith_29 ?_
            rintro v w1 H locs ⟨rfl, rfl⟩ hw
            have hw : bW G A s.heap [[(ad 2, .inr (0, [.ref (ad 8), .ref (ad 9), .ref (ad 10), .ref (ad 11), .ref (ad 12), .int (nI n), .int lw]))], [(ad 11, .inl (gI G, 64, .inl so))]] H locs := hw
            refine W.eq (g2 := (F0 m 32 ls [.int (nI (pcN i))])) rfl ?_
            refine lv_iload_n S.1 S.2.1 dX0_fewestWith_32 rfl (lv_at hl 2 rfl) ?_
            refine aw_callS S hE (c_J6_bitCount_0f7a4 l G b (by first | assumption | omega)) gX0_fewestWith_J6_bitCount_0f7a4 (n := 1) rfl (by decide +kernel) rfl (by rw [hRm]; exact ⟨Nat.le_of_ble_eq_true rfl, Nat.le_of_ble_eq_true rfl⟩) (by rw [hRm]; exact ⟨Nat.le_of_ble_eq_true rfl, Nat.le_of_ble_eq_true rfl⟩) hw hA hl.1 [] rfl rfl rfl (Nat.le_of_ble_eq_true rfl) dX0_fewestWith_33 ?_
            rintro v w1 H locs ⟨rfl, rfl⟩ hw
            have hw : bW G A s.heap [[(ad 2, .inr (0, [.ref (ad 8), .ref (ad 9), .ref (ad 10), .ref (ad 11), .ref (ad 12), .int (nI n), .int lw]))], [(ad 11, .inl (gI G, 64, .inl so))]] H locs := hw
            refine W.eq (g2 := (F0 m 36 ls [.int (nI (pcN b)), .int (nI (pcN i))])) rfl ?_
            refine aw_icmpN_ge (x := pcN i) (y := pcN b) (tgt := 41) S (by have := pcN_lt i (by omega); omega) (by have := pcN_lt b (by omega); omega) dX0_fewestWith_36 (by decide) (fun c36 => ?_) (fun c36 => ?_)
            · have hl := Eq.mp (congrArg (fun z_ : Int32 => lv_has ls 4 [(0, .ref (ad 2)), (1, .int wn), (2, .int z_), (3, .int (nI i))]) (show (nI b : Int32) = cvI (cvO (mtP so wn) (i + 1)) from (by rw [cvO_ge hb (by omega), hb]; rfl))) hl
              have hl : lv_has ls 4 [(0, .ref (ad 2)), (1, .int wn), (2, .int (cvI (cvO (mtP so wn) (i + 1)))), (3, .int (nI i))] := hl
              refine lv_iinc (v := nI (i + 1)) (lv' := [(3, .int (nI (i + 1))), (0, .ref (ad 2)), (1, .int wn), (2, .int (cvI (cvO (mtP so wn) (i + 1))))]) S.1 S.2.1 dX0_fewestWith_41 hl (k := 3) rfl (by first | exact nI_1 _ | exact nI_add _ _ | rfl) (by decide) rfl (fun ls hl => ?_)
              refine lv_goto (tgt := 5) S.1 S.2.1 dX0_fewestWith_44 (by decide) ?_
              exact ih5 (i + 1) (by first | assumption | omega) (by omega) _ _ _ (lv_sub hl [1, 2, 3, 0] rfl) hw
            · have hnew := cvO_lt2 hok hb (by omega)
              refine lv_iload_n S.1 S.2.1 dX0_fewestWith_39 rfl (lv_at hl 3 rfl) ?_
              refine aw_eqi (show (nI i : Int32) = cvI (cvO (mtP so wn) (i + 1)) from (by rw [hnew]; rfl)) ?_
              refine lv_istore_n (lv' := [(2, .int (cvI (cvO (mtP so wn) (i + 1)))), (0, .ref (ad 2)), (1, .int wn), (3, .int (nI i))]) S.1 S.2.1 dX0_fewestWith_40 rfl hl (by decide) rfl (fun ls hl => ?_)
              refine lv_iinc (v := nI (i + 1)) (lv' := [(3, .int (nI (i + 1))), (2, .int (cvI (cvO (mtP so wn) (i + 1)))), (0, .ref (ad 2)), (1, .int wn)]) S.1 S.2.1 dX0_fewestWith_41 hl (k := 3) rfl (by first | exact nI_1 _ | exact nI_add _ _ | rfl) (by decide) rfl (fun ls hl => ?_)
              refine lv_goto (tgt := 5) S.1 S.2.1 dX0_fewestWith_44 (by decide) ?_
              exact ih5 (i + 1) (by first | assumption | omega) (by omega) _ _ _ (lv_sub hl [2, 3, 1, 0] rfl) hw
  exact loop5 _ 0 (Nat.zero_le _) (Nat.lt_succ_self _) _ _ _ (lv_sub hl [2, 3, 1, 0] rfl) hw
set_option maxRecDepth 100000 in
set_option maxHeartbeats 4000000 in
theorem c_X6_restWith (l : Launch) (G : aw_G) (ad : Nat → Nat) (n : Nat) (lw : Int32) (so wa : Nat → Int32) (rr : Nat → Nat) (rs : Nat → Nat → Int32) (S_ mo : Nat) (hS : S_ < 64) (hmo : mo < 12) : CT l G yX6_restWith wsX6_restWith ({ frames := 1, cells := 0, slots := 0, locals := 22 }) [.ref (ad 4), .int (nI S_), .int (nI mo)] [[(ad 4, .inr (6, [.ref (ad 2), .ref (ad 15)]))], [(ad 2, .inr (0, [.ref (ad 8), .ref (ad 9), .ref (ad 10), .ref (ad 11), .ref (ad 12), .int (nI n), .int lw]))], [(ad 11, .inl (gI G, 64, .inl so))], [(ad 10, .inl (gI G, 12, .inl wa))], [(ad 15, .inl (gA G, 13, .inr (.inr (.inr (.inr (fun q_ => some (rr q_)))))))], fam 13 rr (rrE G rs)] (dt (some (.int (rwF so wa rs S_ mo))) [[(ad 4, .inr (6, [.ref (ad 2), .ref (ad 15)]))], [(ad 2, .inr (0, [.ref (ad 8), .ref (ad 9), .ref (ad 10), .ref (ad 11), .ref (ad 12), .int (nI n), .int lw]))], [(ad 11, .inl (gI G, 64, .inl so))], [(ad 10, .inl (gI G, 12, .inl wa))], [(ad 15, .inl (gA G, 13, .inr (.inr (.inr (.inr (fun q_ => some (rr q_)))))))], fam 13 rr (rrE G rs)]) := by
  refine CT.of (cc := cX6_restWith) (nL := 3) (ret := (some .int)) (by decide) rfl (Nat.le_of_ble_eq_true rfl) ?_
  intro p e s m below meth c R args Q A hRm ha hQ hAe hA S hE hr hlk hnm H locs hH0 hL0 ls hl hw
  have S : CallFix p m c cX6_restWith 3 s args wsX6_restWith RX6 := S
  have hl : lv_has ls 3 [(0, .ref (ad 4)), (1, .int (nI S_)), (2, .int (nI mo))] := hl
  have hinX6 : ∀ w ∈ u_ws RX6 TX6 2, w ∈ wsX6_restWith := by decide +kernel
  have hf16 := S.2.2.2.2 (.fieldLink RX6 16 "AwakeTurns$Plan" "crew" "LAwakeTurns$Crew;") (by decide +kernel)
  have hinX0 : ∀ w ∈ u_ws RX0 TX0 7, w ∈ wsX6_restWith := by decide +kernel
  have hf42 := S.2.2.2.2 (.fieldLink RX6 42 "AwakeTurns$Crew" "wanted" "[I") (by decide +kernel)
  have hf11 := S.2.2.2.2 (.fieldLink RX6 11 "AwakeTurns$Plan" "rest" "[[I") (by decide +kernel)
  refine lv_aload_n S.1 S.2.1 dX6_restWith_0 rfl (lv_at hl 0 rfl) ?_
  refine aw_get S hE hw 0 (C := RX6) (T := TX6) (N := 2) rfl rfl hinX6 0 (by decide) hf16 rfl dX6_restWith_1 ?_
  refine lv_iload_n S.1 S.2.1 dX6_restWith_4 rfl (lv_at hl 1 rfl) ?_
  refine lv_aload_n S.1 S.2.1 dX6_restWith_5 rfl (lv_at hl 0 rfl) ?_
  refine aw_get S hE hw 0 (C := RX6) (T := TX6) (N := 2) rfl rfl hinX6 0 (by decide) hf16 rfl dX6_restWith_6 ?_
  refine aw_get S hE hw 1 (C := RX0) (T := TX0) (N := 7) rfl rfl hinX0 2 (by decide) hf42 rfl dX6_restWith_9 ?_
  refine lv_iload_n S.1 S.2.1 dX6_restWith_12 rfl (lv_at hl 2 rfl) ?_
  refine aw_iald S hE hw 3 (k := mo) rfl (by omega) (by decide) dX6_restWith_13 ?_
  refine aw_callV S hE (c_X0_meets l G ad n lw so S_ (wa mo) (by first | assumption | omega)) gX6_restWith_X0_meets (n := 2) rfl (by decide +kernel) rfl (by rw [hRm]; exact ⟨Nat.le_of_ble_eq_true rfl, Nat.le_of_ble_eq_true rfl⟩) (by rw [hRm]; exact ⟨Nat.le_of_ble_eq_true rfl, Nat.le_of_ble_eq_true rfl⟩) hw hA hl.1 [1, 2] rfl rfl (aw_recv (i := 1) hE hw rfl rfl rfl) rfl (Nat.le_of_ble_eq_true rfl) dX6_restWith_14 ?_
  rintro v w1 H locs ⟨rfl, rfl⟩ hw
  have hw : bW G A s.heap [[(ad 4, .inr (6, [.ref (ad 2), .ref (ad 15)]))], [(ad 2, .inr (0, [.ref (ad 8), .ref (ad 9), .ref (ad 10), .ref (ad 11), .ref (ad 12), .int (nI n), .int lw]))], [(ad 11, .inl (gI G, 64, .inl so))], [(ad 10, .inl (gI G, 12, .inl wa))], [(ad 15, .inl (gA G, 13, .inr (.inr (.inr (.inr (fun q_ => some (rr q_)))))))], fam 13 rr (rrE G rs)] H locs := hw
  refine W.eq (g2 := (F0 m 17 ls [.int (if (wa mo) &&& (so S_ ^^^ (-1)) = 0 then 1 else 0)])) rfl ?_
  refine aw_ifeq (P := (wa mo) &&& (so S_ ^^^ (-1)) = 0) (tgt := 33) S dX6_restWith_17 (by decide) (fun c17 => ?_) (fun c17 => ?_)
  · refine lv_ldc (v := 1048576) S.1 S.2.1 S.2.2.2.1 (S.2.2.2.2 (.constant RX6 38 1048576) (by decide +kernel)) dX6_restWith_33 ?_
    refine aw_eqi (show (1048576 : Int32) = rwF so wa rs S_ mo from (by unfold rwF mtP; first | rw [if_pos (decide_eq_true c17)] | rw [if_neg (by simpa using c17)])) ?_
    exact aw_iret S hr hlk ha hQ hAe hw dX6_restWith_35 rfl (Nat.le_of_ble_eq_true rfl) (Nat.le_of_ble_eq_true rfl) ⟨rfl, rfl⟩
  · refine lv_aload_n S.1 S.2.1 dX6_restWith_20 rfl (lv_at hl 0 rfl) ?_
    refine aw_get S hE hw 0 (C := RX6) (T := TX6) (N := 2) rfl rfl hinX6 1 (by decide) hf11 rfl dX6_restWith_21 ?_
    refine lv_iload_n S.1 S.2.1 dX6_restWith_24 rfl (lv_at hl 2 rfl) ?_
    refine lv_iconst (v := 1) S.1 S.2.1 dX6_restWith_25 (by decide) ?_
    refine lv_iadd S.1 S.2.1 dX6_restWith_26 ?_
    refine aw_eqi (show ((nI mo) + 1 : Int32) = nI (mo + 1) from (nI_add mo 1)) ?_
    refine aw_aald_A S hE hw 4 (k := (mo + 1)) (r := (rr (mo + 1))) rfl (by omega) (by decide) rfl dX6_restWith_27 ?_
    refine lv_iload_n S.1 S.2.1 dX6_restWith_28 rfl (lv_at hl 1 rfl) ?_
    have hw := aw_out hw 5 rfl (mo + 1) (by omega)
    have hw : bW G A s.heap [[(ad 4, .inr (6, [.ref (ad 2), .ref (ad 15)]))], [(ad 2, .inr (0, [.ref (ad 8), .ref (ad 9), .ref (ad 10), .ref (ad 11), .ref (ad 12), .int (nI n), .int lw]))], [(ad 11, .inl (gI G, 64, .inl so))], [(ad 10, .inl (gI G, 12, .inl wa))], [(ad 15, .inl (gA G, 13, .inr (.inr (.inr (.inr (fun q_ => some (rr q_)))))))], famX 13 rr (rrE G rs) (mo + 1), [(rr (mo + 1), .inl (gI G, 64, .inl (rs (mo + 1))))]] H locs := hw
    refine aw_iald S hE hw 6 (k := S_) rfl (by omega) (by decide) dX6_restWith_29 ?_
    have hw := aw_inS [[(ad 4, .inr (6, [.ref (ad 2), .ref (ad 15)]))], [(ad 2, .inr (0, [.ref (ad 8), .ref (ad 9), .ref (ad 10), .ref (ad 11), .ref (ad 12), .int (nI n), .int lw]))], [(ad 11, .inl (gI G, 64, .inl so))], [(ad 10, .inl (gI G, 12, .inl wa))], [(ad 15, .inl (gA G, 13, .inr (.inr (.inr (.inr (fun q_ => some (rr q_)))))))], famX 13 rr (rrE G rs) (mo + 1)] hw 5 rfl (by omega)
    have hw : bW G A s.heap [[(ad 4, .inr (6, [.ref (ad 2), .ref (ad 15)]))], [(ad 2, .inr (0, [.ref (ad 8), .ref (ad 9), .ref (ad 10), .ref (ad 11), .ref (ad 12), .int (nI n), .int lw]))], [(ad 11, .inl (gI G, 64, .inl so))], [(ad 10, .inl (gI G, 12, .inl wa))], [(ad 15, .inl (gA G, 13, .inr (.inr (.inr (.inr (fun q_ => some (rr q_)))))))], fam 13 rr (rrE G rs)] H locs := hw
    refine lv_goto (tgt := 35) S.1 S.2.1 dX6_restWith_30 (by decide) ?_
    refine aw_eqi (show ((rs (mo + 1)) S_ : Int32) = rwF so wa rs S_ mo from (by unfold rwF mtP; first | rw [if_pos (decide_eq_true c17)] | rw [if_neg (by simpa using c17)])) ?_
    exact aw_iret S hr hlk ha hQ hAe hw dX6_restWith_35 rfl (Nat.le_of_ble_eq_true rfl) (Nat.le_of_ble_eq_true rfl) ⟨rfl, rfl⟩
set_option maxRecDepth 100000 in
set_option maxHeartbeats 4000000 in
theorem c_X6_choose (l : Launch) (G : aw_G) (ad : Nat → Nat) (n : Nat) (lw : Int32) (hs : Nat → Int32) (b : Nat) (f : Nat → Int32) (s_ : Nat) (hn : n ≤ 6) (hs_ : s_ < n) : CT l G yX6_choose wsX6_choose ({ frames := 1, cells := 0, slots := 0, locals := 30 }) [.ref (ad 4), .ref b, .int (nI s_)] [[(ad 4, .inr (6, [.ref (ad 2), .ref (ad 15)]))], [(ad 2, .inr (0, [.ref (ad 8), .ref (ad 9), .ref (ad 10), .ref (ad 11), .ref (ad 12), .int (nI n), .int lw]))], [(ad 12, .inl (gI G, 64, .inl hs))], [(b, .inl (gI G, 64, .inl f))]] (dt none [[(ad 4, .inr (6, [.ref (ad 2), .ref (ad 15)]))], [(ad 2, .inr (0, [.ref (ad 8), .ref (ad 9), .ref (ad 10), .ref (ad 11), .ref (ad 12), .int (nI n), .int lw]))], [(ad 12, .inl (gI G, 64, .inl hs))], [(b, .inl (gI G, 64, .inl (chF s_ (2 ^ n) (hs (2 ^ s_)) f)))]]) := by
  refine CT.of (cc := cX6_choose) (nL := 8) (ret := none) (by decide) rfl (Nat.le_of_ble_eq_true rfl) ?_
  intro p e s m below meth c R args Q A hRm ha hQ hAe hA S hE hr hlk hnm H locs hH0 hL0 ls hl hw
  have S : CallFix p m c cX6_choose 8 s args wsX6_choose RX6 := S
  have hl : lv_has ls 8 [(0, .ref (ad 4)), (1, .ref b), (2, .int (nI s_))] := hl
  have hinX6 : ∀ w ∈ u_ws RX6 TX6 2, w ∈ wsX6_choose := by decide +kernel
  have hf16 := S.2.2.2.2 (.fieldLink RX6 16 "AwakeTurns$Plan" "crew" "LAwakeTurns$Crew;") (by decide +kernel)
  have hinX0 : ∀ w ∈ u_ws RX0 TX0 7, w ∈ wsX6_choose := by decide +kernel
  have hf50 := S.2.2.2.2 (.fieldLink RX6 50 "AwakeTurns$Crew" "harmOfSet" "[I") (by decide +kernel)
  have hz_ini_X10_isIn := S.2.2.2.2 (.initialized RX10) (by decide +kernel)
  have hz_st_X10_isIn := S.2.2.2.2 (.static yX10_isIn) (by decide +kernel)
  have hz_mm1 := S.2.2.2.2 (.methodLink RX6 56 Lib.Math.min.name) (by decide +kernel)
  have hz_mm2 := S.2.2.2.2 (.static Lib.Math.min.name) (by decide +kernel)
  have hz_mm3 := S.2.2.2.2 (.initialized "java/lang/Math") (by decide +kernel)
  have hz_mm4 := S.2.2.2.2 (.code Lib.Math.min.name Lib.Math.min.code 2 (some .int)) (by decide +kernel)
  have hp6 := pow6' hn
  have hq6 := pow6 hs_ hn
  refine lv_iconst (v := 1) S.1 S.2.1 dX6_choose_0 (by decide) ?_
  refine lv_iload_n S.1 S.2.1 dX6_choose_1 rfl (lv_at hl 2 rfl) ?_
  refine lv_ishl S.1 S.2.1 dX6_choose_2 ?_
  refine aw_eqi (show (1 <<< ((nI s_) &&& 31) : Int32) = nI (2 ^ s_) from (nI_bit s_ (by omega))) ?_
  refine lv_istore_n (lv' := [(3, .int (nI (2 ^ s_))), (0, .ref (ad 4)), (1, .ref b), (2, .int (nI s_))]) S.1 S.2.1 dX6_choose_3 rfl hl (by decide) rfl (fun ls hl => ?_)
  refine lv_aload_n S.1 S.2.1 dX6_choose_4 rfl (lv_at hl 1 rfl) ?_
  refine aw_get S hE hw 0 (C := RX6) (T := TX6) (N := 2) rfl rfl hinX6 0 (by decide) hf16 rfl dX6_choose_5 ?_
  refine aw_get S hE hw 1 (C := RX0) (T := TX0) (N := 7) rfl rfl hinX0 4 (by decide) hf50 rfl dX6_choose_8 ?_
  refine lv_iload_n S.1 S.2.1 dX6_choose_11 rfl (lv_at hl 0 rfl) ?_
  refine aw_iald S hE hw 2 (k := (2 ^ s_)) rfl (by omega) (by decide) dX6_choose_12 ?_
  refine lv_istore (lv' := [(4, .int (hs (2 ^ s_))), (3, .int (nI (2 ^ s_))), (0, .ref (ad 4)), (1, .ref b), (2, .int (nI s_))]) S.1 S.2.1 dX6_choose_13 hl (by decide) rfl (fun ls hl => ?_)
  refine lv_iconst (v := 0) S.1 S.2.1 dX6_choose_15 (by decide) ?_
  refine lv_istore (lv' := [(5, .int 0), (4, .int (hs (2 ^ s_))), (3, .int (nI (2 ^ s_))), (0, .ref (ad 4)), (1, .ref b), (2, .int (nI s_))]) S.1 S.2.1 dX6_choose_16 hl (by decide) rfl (fun ls hl => ?_)
  have hw := aw_arr hw 3 rfl (chF s_ 0 (hs (2 ^ s_)) f) (fun _ _ => by rw [chF_0])
  have hw : bW G A s.heap [[(ad 4, .inr (6, [.ref (ad 2), .ref (ad 15)]))], [(ad 2, .inr (0, [.ref (ad 8), .ref (ad 9), .ref (ad 10), .ref (ad 11), .ref (ad 12), .int (nI n), .int lw]))], [(ad 12, .inl (gI G, 64, .inl hs))], [(b, .inl (gI G, 64, .inl (chF s_ 0 (hs (2 ^ s_)) f)))]] H locs := hw
  have loop18 : ∀ (fu : Nat) (i : Nat), (i ≤ 2 ^ n) → (2 ^ n - i) < fu → ∀ (ls : Array Slot) (H : Heap) (locs : List Loc), lv_has ls 8 [(0, .ref (ad 4)), (1, .ref b), (2, .int (nI s_)), (3, .int (nI (2 ^ s_))), (4, .int (hs (2 ^ s_))), (5, .int (nI i))] → bW G A s.heap [[(ad 4, .inr (6, [.ref (ad 2), .ref (ad 15)]))], [(ad 2, .inr (0, [.ref (ad 8), .ref (ad 9), .ref (ad 10), .ref (ad 11), .ref (ad 12), .int (nI n), .int lw]))], [(ad 12, .inl (gI G, 64, .inl hs))], [(b, .inl (gI G, 64, .inl (chF s_ i (hs (2 ^ s_)) f)))]] H locs → W p l e R s m args below meth c H locs 0 0 Q (F0 m 18 ls []) := by
    intro fu
    induction fu with
    | zero => intro i _ hm; exact absurd hm (Nat.not_lt_zero _)
    | succ fu ih18 =>
      intro i hi hm ls H locs hl hw
      refine lv_iload S.1 S.2.1 dX6_choose_18 (lv_at hl 5 rfl) ?_
      refine lv_aload_n S.1 S.2.1 dX6_choose_20 rfl (lv_at hl 0 rfl) ?_
      refine aw_get S hE hw 0 (C := RX6) (T := TX6) (N := 2) rfl rfl hinX6 0 (by decide) hf16 rfl dX6_choose_21 ?_
      refine aw_callV S hE (c_X0_setCount l G ad n lw (by first | assumption | omega)) gX6_choose_X0_setCount (n := 0) rfl (by decide +kernel) rfl (by rw [hRm]; exact ⟨Nat.le_of_ble_eq_true rfl, Nat.le_of_ble_eq_true rfl⟩) (by rw [hRm]; exact ⟨Nat.le_of_ble_eq_true rfl, Nat.le_of_ble_eq_true rfl⟩) hw hA hl.1 [1] rfl rfl (aw_recv (i := 1) hE hw rfl rfl rfl) rfl (Nat.le_of_ble_eq_true rfl) dX6_choose_24 ?_
      rintro v w1 H locs ⟨rfl, rfl⟩ hw
      have hw : bW G A s.heap [[(ad 4, .inr (6, [.ref (ad 2), .ref (ad 15)]))], [(ad 2, .inr (0, [.ref (ad 8), .ref (ad 9), .ref (ad 10), .ref (ad 11), .ref (ad 12), .int (nI n), .int lw]))], [(ad 12, .inl (gI G, 64, .inl hs))], [(b, .inl (gI G, 64, .inl (chF s_ i (hs (2 ^ s_)) f)))]] H locs := hw
      refine W.eq (g2 := (F0 m 27 ls [.int (nI (2 ^ n)), .int (nI i)])) rfl ?_
      refine aw_icmpN_ge (x := i) (y := 2 ^ n) (tgt := 86) S (by omega) (by omega) dX6_choose_27 (by decide) (fun c27 => ?_) (fun c27 => ?_)
      · have ex_i : i = 2 ^ n := by omega
        try rw [ex_i] at hl
        try rw [ex_i] at hw
        exact aw_vret S hr hlk ha hQ hAe hw dX6_choose_86 (Nat.le_of_ble_eq_true rfl) (Nat.le_of_ble_eq_true rfl) ⟨rfl, rfl⟩
      · refine lv_iload S.1 S.2.1 dX6_choose_30 (lv_at hl 5 rfl) ?_
        refine lv_iload_n S.1 S.2.1 dX6_choose_32 rfl (lv_at hl 2 rfl) ?_
        refine aw_callSN (n := 2) S hE (c_X10_isIn l G (nI i) s_ (by first | assumption | omega)) gX6_choose_X10_isIn_n53 rfl hE.2.1.2.2 hz_ini_X10_isIn hz_st_X10_isIn (by decide +kernel) rfl (by rw [hRm]; exact ⟨Nat.le_of_ble_eq_true rfl, Nat.le_of_ble_eq_true rfl⟩) (by rw [hRm]; exact ⟨Nat.le_of_ble_eq_true rfl, Nat.le_of_ble_eq_true rfl⟩) hw hA hl.1 [] rfl rfl rfl (Nat.le_of_ble_eq_true rfl) dX6_choose_33 ?_
        rintro v w1 H locs ⟨rfl, rfl⟩ hw
        have hw : bW G A s.heap [[(ad 4, .inr (6, [.ref (ad 2), .ref (ad 15)]))], [(ad 2, .inr (0, [.ref (ad 8), .ref (ad 9), .ref (ad 10), .ref (ad 11), .ref (ad 12), .int (nI n), .int lw]))], [(ad 12, .inl (gI G, 64, .inl hs))], [(b, .inl (gI G, 64, .inl (chF s_ i (hs (2 ^ s_)) f)))]] H locs := hw
        refine W.eq (g2 := (F0 m 36 ls [.int (if bt (nI i) s_ = true then 1 else 0)])) rfl ?_
        refine aw_ifne (P := bt (nI i) s_ = true) (tgt := 80) S dX6_choose_36 (by decide) (fun c36 => ?_) (fun c36 => ?_)
        · have hw := aw_arr hw 3 rfl (chF s_ (i + 1) (hs (2 ^ s_)) f) (fun _ _ => by rw [chF_skip (by rw [b_nI _ (by omega)] at c36; exact c36)])
          have hw : bW G A s.heap [[(ad 4, .inr (6, [.ref (ad 2), .ref (ad 15)]))], [(ad 2, .inr (0, [.ref (ad 8), .ref (ad 9), .ref (ad 10), .ref (ad 11), .ref (ad 12), .int (nI n), .int lw]))], [(ad 12, .inl (gI G, 64, .inl hs))], [(b, .inl (gI G, 64, .inl (chF s_ (i + 1) (hs (2 ^ s_)) f)))]] H locs := hw
          refine lv_iinc (v := nI (i + 1)) (lv' := [(5, .int (nI (i + 1))), (0, .ref (ad 4)), (1, .ref b), (2, .int (nI s_)), (3, .int (nI (2 ^ s_))), (4, .int (hs (2 ^ s_)))]) S.1 S.2.1 dX6_choose_80 hl (k := 5) rfl (by first | exact nI_1 _ | exact nI_add _ _ | rfl) (by decide) rfl (fun ls hl => ?_)
          refine lv_goto (tgt := 18) S.1 S.2.1 dX6_choose_83 (by decide) ?_
          exact ih18 (i + 1) (by first | assumption | omega) (by omega) _ _ _ (lv_sub hl [1, 2, 3, 4, 5, 0] rfl) hw
        · have hbn : ¬ i.testBit s_ = true := by rw [b_nI _ (by omega)] at c36; exact c36
          obtain ⟨hor, hlt⟩ := or_bit (by omega) (by omega) hbn
          obtain ⟨ha1, ha2⟩ := chF_at (h := hs (2 ^ s_)) (f := f) hbn
          refine lv_aload_n S.1 S.2.1 dX6_choose_39 rfl (lv_at hl 1 rfl) ?_
          refine lv_iload S.1 S.2.1 dX6_choose_40 (lv_at hl 5 rfl) ?_
          refine aw_iald S hE hw 3 (k := i) rfl (by omega) (by decide) dX6_choose_42 ?_
          refine aw_eqi (show ((chF s_ i (hs (2 ^ s_)) f) i : Int32) = f i from ha1) ?_
          refine lv_istore (lv' := [(6, .int (f i)), (0, .ref (ad 4)), (1, .ref b), (2, .int (nI s_)), (3, .int (nI (2 ^ s_))), (4, .int (hs (2 ^ s_))), (5, .int (nI i))]) S.1 S.2.1 dX6_choose_43 hl (by decide) rfl (fun ls hl => ?_)
          refine lv_aload_n S.1 S.2.1 dX6_choose_45 rfl (lv_at hl 2 rfl) ?_
          refine lv_iload S.1 S.2.1 dX6_choose_46 (lv_at hl 6 rfl) ?_
          refine lv_iload_n S.1 S.2.1 dX6_choose_48 rfl (lv_at hl 4 rfl) ?_
          refine lv_ior S.1 S.2.1 dX6_choose_49 ?_
          refine aw_eqi (show ((nI i) ||| (nI (2 ^ s_)) : Int32) = nI (i + 2 ^ s_) from hor) ?_
          refine aw_iald S hE hw 3 (k := (i + 2 ^ s_)) rfl (by omega) (by decide) dX6_choose_50 ?_
          refine aw_eqi (show ((chF s_ i (hs (2 ^ s_)) f) (i + 2 ^ s_) : Int32) = f (i + 2 ^ s_) from ha2) ?_
          refine lv_istore (lv' := [(7, .int (f (i + 2 ^ s_))), (6, .int (f i)), (0, .ref (ad 4)), (1, .ref b), (2, .int (nI s_)), (3, .int (nI (2 ^ s_))), (4, .int (hs (2 ^ s_))), (5, .int (nI i))]) S.1 S.2.1 dX6_choose_51 hl (by decide) rfl (fun ls hl => ?_)
          refine lv_aload_n S.1 S.2.1 dX6_choose_53 rfl (lv_at hl 3 rfl) ?_
          refine lv_iload S.1 S.2.1 dX6_choose_54 (lv_at hl 7 rfl) ?_
          refine lv_iload S.1 S.2.1 dX6_choose_56 (lv_at hl 1 rfl) ?_
          refine lv_iload S.1 S.2.1 dX6_choose_58 (lv_at hl 0 rfl) ?_
          refine lv_iload S.1 S.2.1 dX6_choose_60 (lv_at hl 6 rfl) ?_
          refine lv_iadd S.1 S.2.1 dX6_choose_62 ?_
          refine va_mmin S.1 S.2.1 (by rw [S.2.2.1]; exact hl.1.symm) S.2.2.2.1 hz_mm1 hz_mm2 hz_mm3 hz_mm4 (by rw [hRm]; exact Nat.le_of_ble_eq_true rfl) (by rw [hRm]; exact Nat.le_of_ble_eq_true rfl) (Nat.zero_le _) (Nat.zero_le _) dX6_choose_63 ?_
          refine aw_iast S hE hw 3 (k := i) rfl (by omega) (by decide) dX6_choose_66 (fun H locs hw => ?_)
          have hw : bW G A s.heap [[(ad 4, .inr (6, [.ref (ad 2), .ref (ad 15)]))], [(ad 2, .inr (0, [.ref (ad 8), .ref (ad 9), .ref (ad 10), .ref (ad 11), .ref (ad 12), .int (nI n), .int lw]))], [(ad 12, .inl (gI G, 64, .inl hs))], [(b, .inl (gI G, 64, .inl (upd (chF s_ i (hs (2 ^ s_)) f) i (if ((f (i + 2 ^ s_)) + (hs (2 ^ s_))) < (f i) then ((f (i + 2 ^ s_)) + (hs (2 ^ s_))) else (f i)))))]] H locs := hw
          refine lv_aload_n S.1 S.2.1 dX6_choose_67 rfl (lv_at hl 3 rfl) ?_
          refine lv_iload S.1 S.2.1 dX6_choose_68 (lv_at hl 7 rfl) ?_
          refine lv_iload_n S.1 S.2.1 dX6_choose_70 rfl (lv_at hl 5 rfl) ?_
          refine lv_ior S.1 S.2.1 dX6_choose_71 ?_
          refine aw_eqi (show ((nI i) ||| (nI (2 ^ s_)) : Int32) = nI (i + 2 ^ s_) from hor) ?_
          refine lv_iload S.1 S.2.1 dX6_choose_72 (lv_at hl 1 rfl) ?_
          refine lv_iload S.1 S.2.1 dX6_choose_74 (lv_at hl 0 rfl) ?_
          refine va_mmin S.1 S.2.1 (by rw [S.2.2.1]; exact hl.1.symm) S.2.2.2.1 hz_mm1 hz_mm2 hz_mm3 hz_mm4 (by rw [hRm]; exact Nat.le_of_ble_eq_true rfl) (by rw [hRm]; exact Nat.le_of_ble_eq_true rfl) (Nat.zero_le _) (Nat.zero_le _) dX6_choose_76 ?_
          refine aw_iast S hE hw 3 (k := (i + 2 ^ s_)) rfl (by omega) (by decide) dX6_choose_79 (fun H locs hw => ?_)
          have hw : bW G A s.heap [[(ad 4, .inr (6, [.ref (ad 2), .ref (ad 15)]))], [(ad 2, .inr (0, [.ref (ad 8), .ref (ad 9), .ref (ad 10), .ref (ad 11), .ref (ad 12), .int (nI n), .int lw]))], [(ad 12, .inl (gI G, 64, .inl hs))], [(b, .inl (gI G, 64, .inl (upd (upd (chF s_ i (hs (2 ^ s_)) f) i (if ((f (i + 2 ^ s_)) + (hs (2 ^ s_))) < (f i) then ((f (i + 2 ^ s_)) + (hs (2 ^ s_))) else (f i))) (i + 2 ^ s_) (if (f (i + 2 ^ s_)) < (f i) then (f (i + 2 ^ s_)) else (f i)))))]] H locs := hw
          have hw := aw_arr hw 3 rfl (chF s_ (i + 1) (hs (2 ^ s_)) f) (fun _ _ => by rw [← chF_step hbn]; rfl)
          have hw : bW G A s.heap [[(ad 4, .inr (6, [.ref (ad 2), .ref (ad 15)]))], [(ad 2, .inr (0, [.ref (ad 8), .ref (ad 9), .ref (ad 10), .ref (ad 11), .ref (ad 12), .int (nI n), .int lw]))], [(ad 12, .inl (gI G, 64, .inl hs))], [(b, .inl (gI G, 64, .inl (chF s_ (i + 1) (hs (2 ^ s_)) f)))]] H locs := hw
          refine lv_iinc (v := nI (i + 1)) (lv' := [(5, .int (nI (i + 1))), (7, .int (f (i + 2 ^ s_))), (6, .int (f i)), (0, .ref (ad 4)), (1, .ref b), (2, .int (nI s_)), (3, .int (nI (2 ^ s_))), (4, .int (hs (2 ^ s_)))]) S.1 S.2.1 dX6_choose_80 hl (k := 7) rfl (by first | exact nI_1 _ | exact nI_add _ _ | rfl) (by decide) rfl (fun ls hl => ?_)
          refine lv_goto (tgt := 18) S.1 S.2.1 dX6_choose_83 (by decide) ?_
          exact ih18 (i + 1) (by first | assumption | omega) (by omega) _ _ _ (lv_sub hl [3, 4, 5, 6, 7, 0] rfl) hw
  exact loop18 _ 0 (Nat.zero_le _) (Nat.lt_succ_self _) _ _ _ (lv_sub hl [3, 4, 5, 2, 1, 0] rfl) hw
set_option maxRecDepth 100000 in
set_option maxHeartbeats 4000000 in
theorem c_X6_firstBest (l : Launch) (G : aw_G) (ad : Nat → Nat) (n : Nat) (lw : Int32) (so hs wa : Nat → Int32) (rr : Nat → Nat) (rs : Nat → Nat → Int32) (mo b : Nat) (hn : n ≤ 6) (hmo : mo < 12) (hb : b < 64) : CT l G yX6_firstBest wsX6_firstBest ({ frames := 2, cells := 0, slots := 0, locals := 44 }) [.ref (ad 4), .int (nI mo), .int (nI b)] [[(ad 4, .inr (6, [.ref (ad 2), .ref (ad 15)]))], [(ad 2, .inr (0, [.ref (ad 8), .ref (ad 9), .ref (ad 10), .ref (ad 11), .ref (ad 12), .int (nI n), .int lw]))], [(ad 11, .inl (gI G, 64, .inl so))], [(ad 12, .inl (gI G, 64, .inl hs))], [(ad 10, .inl (gI G, 12, .inl wa))], [(ad 15, .inl (gA G, 13, .inr (.inr (.inr (.inr (fun q_ => some (rr q_)))))))], fam 13 rr (rrE G rs)] (dt (some (.int (nI (fbN n so hs wa rs mo b)))) [[(ad 4, .inr (6, [.ref (ad 2), .ref (ad 15)]))], [(ad 2, .inr (0, [.ref (ad 8), .ref (ad 9), .ref (ad 10), .ref (ad 11), .ref (ad 12), .int (nI n), .int lw]))], [(ad 11, .inl (gI G, 64, .inl so))], [(ad 12, .inl (gI G, 64, .inl hs))], [(ad 10, .inl (gI G, 12, .inl wa))], [(ad 15, .inl (gA G, 13, .inr (.inr (.inr (.inr (fun q_ => some (rr q_)))))))], fam 13 rr (rrE G rs)]) := by
  refine CT.of (cc := cX6_firstBest) (nL := 4) (ret := (some .int)) (by decide) rfl (Nat.le_of_ble_eq_true rfl) ?_
  intro p e s m below meth c R args Q A hRm ha hQ hAe hA S hE hr hlk hnm H locs hH0 hL0 ls hl hw
  have S : CallFix p m c cX6_firstBest 4 s args wsX6_firstBest RX6 := S
  have hl : lv_has ls 4 [(0, .ref (ad 4)), (1, .int (nI mo)), (2, .int (nI b))] := hl
  have hinX6 : ∀ w ∈ u_ws RX6 TX6 2, w ∈ wsX6_firstBest := by decide +kernel
  have hf16 := S.2.2.2.2 (.fieldLink RX6 16 "AwakeTurns$Plan" "crew" "LAwakeTurns$Crew;") (by decide +kernel)
  have hinX0 : ∀ w ∈ u_ws RX0 TX0 7, w ∈ wsX6_firstBest := by decide +kernel
  have hf50 := S.2.2.2.2 (.fieldLink RX6 50 "AwakeTurns$Crew" "harmOfSet" "[I") (by decide +kernel)
  have hf11 := S.2.2.2.2 (.fieldLink RX6 11 "AwakeTurns$Plan" "rest" "[[I") (by decide +kernel)
  have hp6 := pow6' hn
  refine lv_iconst (v := 0) S.1 S.2.1 dX6_firstBest_0 (by decide) ?_
  refine lv_istore_n (lv' := [(3, .int 0), (0, .ref (ad 4)), (1, .int (nI mo)), (2, .int (nI b))]) S.1 S.2.1 dX6_firstBest_1 rfl hl (by decide) rfl (fun ls hl => ?_)
  have loop2 : ∀ (fu : Nat) (i : Nat), (i ≤ 2 ^ n) → (∀ j, j < i → fbP so hs wa rs mo b j = false) → (2 ^ n - i) < fu → ∀ (ls : Array Slot) (H : Heap) (locs : List Loc), lv_has ls 4 [(0, .ref (ad 4)), (1, .int (nI mo)), (2, .int (nI b)), (3, .int (nI i))] → bW G A s.heap [[(ad 4, .inr (6, [.ref (ad 2), .ref (ad 15)]))], [(ad 2, .inr (0, [.ref (ad 8), .ref (ad 9), .ref (ad 10), .ref (ad 11), .ref (ad 12), .int (nI n), .int lw]))], [(ad 11, .inl (gI G, 64, .inl so))], [(ad 12, .inl (gI G, 64, .inl hs))], [(ad 10, .inl (gI G, 12, .inl wa))], [(ad 15, .inl (gA G, 13, .inr (.inr (.inr (.inr (fun q_ => some (rr q_)))))))], fam 13 rr (rrE G rs)] H locs → W p l e R s m args below meth c H locs 0 0 Q (F0 m 2 ls []) := by
    intro fu
    induction fu with
    | zero => intro i _ _ hm; exact absurd hm (Nat.not_lt_zero _)
    | succ fu ih2 =>
      intro i hi hp hm ls H locs hl hw
      refine lv_iload_n S.1 S.2.1 dX6_firstBest_2 rfl (lv_at hl 3 rfl) ?_
      refine lv_aload_n S.1 S.2.1 dX6_firstBest_3 rfl (lv_at hl 0 rfl) ?_
      refine aw_get S hE hw 0 (C := RX6) (T := TX6) (N := 2) rfl rfl hinX6 0 (by decide) hf16 rfl dX6_firstBest_4 ?_
      refine aw_callV S hE (c_X0_setCount l G ad n lw (by first | assumption | omega)) gX6_firstBest_X0_setCount (n := 0) rfl (by decide +kernel) rfl (by rw [hRm]; exact ⟨Nat.le_of_ble_eq_true rfl, Nat.le_of_ble_eq_true rfl⟩) (by rw [hRm]; exact ⟨Nat.le_of_ble_eq_true rfl, Nat.le_of_ble_eq_true rfl⟩) hw hA hl.1 [1] rfl rfl (aw_recv (i := 1) hE hw rfl rfl rfl) rfl (Nat.le_of_ble_eq_true rfl) dX6_firstBest_7 ?_
      rintro v w1 H locs ⟨rfl, rfl⟩ hw
      have hw : bW G A s.heap [[(ad 4, .inr (6, [.ref (ad 2), .ref (ad 15)]))], [(ad 2, .inr (0, [.ref (ad 8), .ref (ad 9), .ref (ad 10), .ref (ad 11), .ref (ad 12), .int (nI n), .int lw]))], [(ad 11, .inl (gI G, 64, .inl so))], [(ad 12, .inl (gI G, 64, .inl hs))], [(ad 10, .inl (gI G, 12, .inl wa))], [(ad 15, .inl (gA G, 13, .inr (.inr (.inr (.inr (fun q_ => some (rr q_)))))))], fam 13 rr (rrE G rs)] H locs := hw
      refine W.eq (g2 := (F0 m 10 ls [.int (nI (2 ^ n)), .int (nI i)])) rfl ?_
      refine aw_icmpN_ge (x := i) (y := 2 ^ n) (tgt := 52) S (by omega) (by omega) dX6_firstBest_10 (by decide) (fun c10 => ?_) (fun c10 => ?_)
      · have ex_i : i = 2 ^ n := by omega
        refine lv_iconst (v := 0) S.1 S.2.1 dX6_firstBest_52 (by decide) ?_
        refine aw_eqi (show (0 : Int32) = nI (fbN n so hs wa rs mo b) from (congrArg nI (show 0 = fbN n so hs wa rs mo b by unfold fbN; rw [fF_none (fun j hj => hp j (by omega)), if_neg (by omega)]))) ?_
        exact aw_iret S hr hlk ha hQ hAe hw dX6_firstBest_53 rfl (Nat.le_of_ble_eq_true rfl) (Nat.le_of_ble_eq_true rfl) ⟨rfl, rfl⟩
      · obtain ⟨had, hal⟩ := ad_and i (by omega) b hb
        refine lv_aload_n S.1 S.2.1 dX6_firstBest_13 rfl (lv_at hl 0 rfl) ?_
        refine aw_get S hE hw 0 (C := RX6) (T := TX6) (N := 2) rfl rfl hinX6 0 (by decide) hf16 rfl dX6_firstBest_14 ?_
        refine aw_get S hE hw 1 (C := RX0) (T := TX0) (N := 7) rfl rfl hinX0 4 (by decide) hf50 rfl dX6_firstBest_17 ?_
        refine lv_iload_n S.1 S.2.1 dX6_firstBest_20 rfl (lv_at hl 3 rfl) ?_
        refine lv_iload_n S.1 S.2.1 dX6_firstBest_21 rfl (lv_at hl 2 rfl) ?_
        refine lv_iconst (v := (-1)) S.1 S.2.1 dX6_firstBest_22 (by decide) ?_
        refine lv_ixor S.1 S.2.1 dX6_firstBest_23 ?_
        refine lv_iand S.1 S.2.1 dX6_firstBest_24 ?_
        refine aw_eqi (show ((nI i) &&& ((nI b) ^^^ (-1)) : Int32) = nI (adN i b) from had) ?_
        refine aw_iald S hE hw 3 (k := (adN i b)) rfl (by omega) (by decide) dX6_firstBest_25 ?_
        refine lv_aload_n S.1 S.2.1 dX6_firstBest_26 rfl (lv_at hl 0 rfl) ?_
        refine lv_iload_n S.1 S.2.1 dX6_firstBest_27 rfl (lv_at hl 3 rfl) ?_
        refine lv_iload_n S.1 S.2.1 dX6_firstBest_28 rfl (lv_at hl 1 rfl) ?_
        refine aw_callV S hE (c_X6_restWith l G ad n lw so wa rr rs i mo (by first | assumption | omega) (by first | assumption | omega)) gX6_firstBest_X6_restWith (n := 2) rfl (by decide +kernel) rfl (by rw [hRm]; exact ⟨Nat.le_of_ble_eq_true rfl, Nat.le_of_ble_eq_true rfl⟩) (by rw [hRm]; exact ⟨Nat.le_of_ble_eq_true rfl, Nat.le_of_ble_eq_true rfl⟩) hw hA hl.1 [0, 1, 2, 4, 5, 6] rfl rfl (aw_recv (i := 0) hE hw rfl rfl rfl) rfl (Nat.le_of_ble_eq_true rfl) dX6_firstBest_29 ?_
        rintro v w1 H locs ⟨rfl, rfl⟩ hw
        have hw : bW G A s.heap [[(ad 4, .inr (6, [.ref (ad 2), .ref (ad 15)]))], [(ad 2, .inr (0, [.ref (ad 8), .ref (ad 9), .ref (ad 10), .ref (ad 11), .ref (ad 12), .int (nI n), .int lw]))], [(ad 11, .inl (gI G, 64, .inl so))], [(ad 12, .inl (gI G, 64, .inl hs))], [(ad 10, .inl (gI G, 12, .inl wa))], [(ad 15, .inl (gA G, 13, .inr (.inr (.inr (.inr (fun q_ => some (rr q_)))))))], fam 13 rr (rrE G rs)] H locs := hw
        refine W.eq (g2 := (F0 m 32 ls [.int (rwF so wa rs i mo), .int (hs (adN i b))])) rfl ?_
        refine lv_iadd S.1 S.2.1 dX6_firstBest_32 ?_
        refine lv_aload_n S.1 S.2.1 dX6_firstBest_33 rfl (lv_at hl 0 rfl) ?_
        refine aw_get S hE hw 0 (C := RX6) (T := TX6) (N := 2) rfl rfl hinX6 1 (by decide) hf11 rfl dX6_firstBest_34 ?_
        refine lv_iload_n S.1 S.2.1 dX6_firstBest_37 rfl (lv_at hl 1 rfl) ?_
        refine aw_aald_A S hE hw 5 (k := mo) (r := (rr mo)) rfl (by omega) (by decide) rfl dX6_firstBest_38 ?_
        refine lv_iload_n S.1 S.2.1 dX6_firstBest_39 rfl (lv_at hl 2 rfl) ?_
        have hw := aw_out hw 6 rfl mo (by omega)
        have hw : bW G A s.heap [[(ad 4, .inr (6, [.ref (ad 2), .ref (ad 15)]))], [(ad 2, .inr (0, [.ref (ad 8), .ref (ad 9), .ref (ad 10), .ref (ad 11), .ref (ad 12), .int (nI n), .int lw]))], [(ad 11, .inl (gI G, 64, .inl so))], [(ad 12, .inl (gI G, 64, .inl hs))], [(ad 10, .inl (gI G, 12, .inl wa))], [(ad 15, .inl (gA G, 13, .inr (.inr (.inr (.inr (fun q_ => some (rr q_)))))))], famX 13 rr (rrE G rs) mo, [(rr mo, .inl (gI G, 64, .inl (rs mo)))]] H locs := hw
        refine aw_iald S hE hw 7 (k := b) rfl (by omega) (by decide) dX6_firstBest_40 ?_
        have hw := aw_inS [[(ad 4, .inr (6, [.ref (ad 2), .ref (ad 15)]))], [(ad 2, .inr (0, [.ref (ad 8), .ref (ad 9), .ref (ad 10), .ref (ad 11), .ref (ad 12), .int (nI n), .int lw]))], [(ad 11, .inl (gI G, 64, .inl so))], [(ad 12, .inl (gI G, 64, .inl hs))], [(ad 10, .inl (gI G, 12, .inl wa))], [(ad 15, .inl (gA G, 13, .inr (.inr (.inr (.inr (fun q_ => some (rr q_)))))))], famX 13 rr (rrE G rs) mo] hw 6 rfl (by omega)
        have hw : bW G A s.heap [[(ad 4, .inr (6, [.ref (ad 2), .ref (ad 15)]))], [(ad 2, .inr (0, [.ref (ad 8), .ref (ad 9), .ref (ad 10), .ref (ad 11), .ref (ad 12), .int (nI n), .int lw]))], [(ad 11, .inl (gI G, 64, .inl so))], [(ad 12, .inl (gI G, 64, .inl hs))], [(ad 10, .inl (gI G, 12, .inl wa))], [(ad 15, .inl (gA G, 13, .inr (.inr (.inr (.inr (fun q_ => some (rr q_)))))))], fam 13 rr (rrE G rs)] H locs := hw
        refine lv_icmp_ne (tgt := 46) S.1 S.2.1 dX6_firstBest_41 (by decide) (fun c41 => ?_) (fun c41 => ?_)
        · refine lv_iinc (v := nI (i + 1)) (lv' := [(3, .int (nI (i + 1))), (0, .ref (ad 4)), (1, .int (nI mo)), (2, .int (nI b))]) S.1 S.2.1 dX6_firstBest_46 hl (k := 3) rfl (by first | exact nI_1 _ | exact nI_add _ _ | rfl) (by decide) rfl (fun ls hl => ?_)
          refine lv_goto (tgt := 2) S.1 S.2.1 dX6_firstBest_49 (by decide) ?_
          exact ih2 (i + 1) (by first | assumption | omega) (lt_s hp (by unfold fbP; exact decide_eq_false c41)) (by omega) _ _ _ (lv_sub hl [1, 2, 3, 0] rfl) hw
        · refine lv_iload_n S.1 S.2.1 dX6_firstBest_44 rfl (lv_at hl 3 rfl) ?_
          refine aw_eqi (show (nI i : Int32) = nI (fbN n so hs wa rs mo b) from (congrArg nI (show i = fbN n so hs wa rs mo b by unfold fbN; rw [fF_is (k := i) (by omega) (by unfold fbP; exact decide_eq_true c41) hp, if_pos (by omega)]))) ?_
          exact aw_iret S hr hlk ha hQ hAe hw dX6_firstBest_45 rfl (Nat.le_of_ble_eq_true rfl) (Nat.le_of_ble_eq_true rfl) ⟨rfl, rfl⟩
  exact loop2 _ 0 (Nat.zero_le _) (fun j hj => absurd hj (Nat.not_lt_zero j)) (Nat.lt_succ_self _) _ _ _ (lv_sub hl [1, 2, 3, 0] rfl) hw
set_option maxRecDepth 100000 in
set_option maxHeartbeats 4000000 in
theorem c_X6_whoIsUp (l : Launch) (G : aw_G) (ad : Nat → Nat) (n : Nat) (lw : Int32) (so hs wa : Nat → Int32) (rr : Nat → Nat) (rs : Nat → Nat → Int32) (mo : Nat) (hn : n ≤ 6) (hmo : mo < 12) : CT l G yX6_whoIsUp wsX6_whoIsUp ({ frames := 3, cells := 0, slots := 0, locals := 67 }) [.ref (ad 4), .int (nI mo)] [[(ad 4, .inr (6, [.ref (ad 2), .ref (ad 15)]))], [(ad 2, .inr (0, [.ref (ad 8), .ref (ad 9), .ref (ad 10), .ref (ad 11), .ref (ad 12), .int (nI n), .int lw]))], [(ad 11, .inl (gI G, 64, .inl so))], [(ad 12, .inl (gI G, 64, .inl hs))], [(ad 10, .inl (gI G, 12, .inl wa))], [(ad 15, .inl (gA G, 13, .inr (.inr (.inr (.inr (fun q_ => some (rr q_)))))))], fam 13 rr (rrE G rs)] (dt (some (.int (nI (wuN n so hs wa rs (mo + 1))))) [[(ad 4, .inr (6, [.ref (ad 2), .ref (ad 15)]))], [(ad 2, .inr (0, [.ref (ad 8), .ref (ad 9), .ref (ad 10), .ref (ad 11), .ref (ad 12), .int (nI n), .int lw]))], [(ad 11, .inl (gI G, 64, .inl so))], [(ad 12, .inl (gI G, 64, .inl hs))], [(ad 10, .inl (gI G, 12, .inl wa))], [(ad 15, .inl (gA G, 13, .inr (.inr (.inr (.inr (fun q_ => some (rr q_)))))))], fam 13 rr (rrE G rs)]) := by
  refine CT.of (cc := cX6_whoIsUp) (nL := 4) (ret := (some .int)) (by decide) rfl (Nat.le_of_ble_eq_true rfl) ?_
  intro p e s m below meth c R args Q A hRm ha hQ hAe hA S hE hr hlk hnm H locs hH0 hL0 ls hl hw
  have S : CallFix p m c cX6_whoIsUp 4 s args wsX6_whoIsUp RX6 := S
  have hl : lv_has ls 4 [(0, .ref (ad 4)), (1, .int (nI mo))] := hl
  have hp6 := pow6' hn
  refine lv_iconst (v := 0) S.1 S.2.1 dX6_whoIsUp_0 (by decide) ?_
  refine lv_istore_n (lv' := [(2, .int 0), (0, .ref (ad 4)), (1, .int (nI mo))]) S.1 S.2.1 dX6_whoIsUp_1 rfl hl (by decide) rfl (fun ls hl => ?_)
  refine lv_iconst (v := 0) S.1 S.2.1 dX6_whoIsUp_2 (by decide) ?_
  refine lv_istore_n (lv' := [(3, .int 0), (2, .int 0), (0, .ref (ad 4)), (1, .int (nI mo))]) S.1 S.2.1 dX6_whoIsUp_3 rfl hl (by decide) rfl (fun ls hl => ?_)
  have loop4 : ∀ (fu : Nat) (i : Nat), (i ≤ mo + 1) → (mo + 1 - i) < fu → ∀ (ls : Array Slot) (H : Heap) (locs : List Loc), lv_has ls 4 [(0, .ref (ad 4)), (1, .int (nI mo)), (2, .int (nI (wuN n so hs wa rs i))), (3, .int (nI i))] → bW G A s.heap [[(ad 4, .inr (6, [.ref (ad 2), .ref (ad 15)]))], [(ad 2, .inr (0, [.ref (ad 8), .ref (ad 9), .ref (ad 10), .ref (ad 11), .ref (ad 12), .int (nI n), .int lw]))], [(ad 11, .inl (gI G, 64, .inl so))], [(ad 12, .inl (gI G, 64, .inl hs))], [(ad 10, .inl (gI G, 12, .inl wa))], [(ad 15, .inl (gA G, 13, .inr (.inr (.inr (.inr (fun q_ => some (rr q_)))))))], fam 13 rr (rrE G rs)] H locs → W p l e R s m args below meth c H locs 0 0 Q (F0 m 4 ls []) := by
    intro fu
    induction fu with
    | zero => intro i _ hm; exact absurd hm (Nat.not_lt_zero _)
    | succ fu ih4 =>
      intro i hi hm ls H locs hl hw
      refine lv_iload_n S.1 S.2.1 dX6_whoIsUp_4 rfl (lv_at hl 3 rfl) ?_
      refine lv_iload_n S.1 S.2.1 dX6_whoIsUp_5 rfl (lv_at hl 1 rfl) ?_
      refine aw_icmpN_gt (x := i) (y := mo) (tgt := 22) S (by omega) (by omega) dX6_whoIsUp_6 (by decide) (fun c6 => ?_) (fun c6 => ?_)
      · have ex_i : i = mo + 1 := by omega
        try rw [ex_i] at hl
        try rw [ex_i] at hw
        refine lv_iload_n S.1 S.2.1 dX6_whoIsUp_22 rfl (lv_at hl 2 rfl) ?_
        exact aw_iret S hr hlk ha hQ hAe hw dX6_whoIsUp_23 rfl (Nat.le_of_ble_eq_true rfl) (Nat.le_of_ble_eq_true rfl) ⟨rfl, rfl⟩
      · refine lv_aload_n S.1 S.2.1 dX6_whoIsUp_9 rfl (lv_at hl 0 rfl) ?_
        refine lv_iload_n S.1 S.2.1 dX6_whoIsUp_10 rfl (lv_at hl 3 rfl) ?_
        refine lv_iload_n S.1 S.2.1 dX6_whoIsUp_11 rfl (lv_at hl 2 rfl) ?_
        refine aw_callV S hE (c_X6_firstBest l G ad n lw so hs wa rr rs i (wuN n so hs wa rs i) (by first | assumption | omega) (by first | assumption | omega) (by have := wuN_lt n so hs wa rs i; omega)) gX6_whoIsUp_X6_firstBest (n := 2) rfl (by decide +kernel) rfl (by rw [hRm]; exact ⟨Nat.le_of_ble_eq_true rfl, Nat.le_of_ble_eq_true rfl⟩) (by rw [hRm]; exact ⟨Nat.le_of_ble_eq_true rfl, Nat.le_of_ble_eq_true rfl⟩) hw hA hl.1 [0, 1, 2, 3, 4, 5, 6] rfl rfl (aw_recv (i := 0) hE hw rfl rfl rfl) rfl (Nat.le_of_ble_eq_true rfl) dX6_whoIsUp_12 ?_
        rintro v w1 H locs ⟨rfl, rfl⟩ hw
        have hw : bW G A s.heap [[(ad 4, .inr (6, [.ref (ad 2), .ref (ad 15)]))], [(ad 2, .inr (0, [.ref (ad 8), .ref (ad 9), .ref (ad 10), .ref (ad 11), .ref (ad 12), .int (nI n), .int lw]))], [(ad 11, .inl (gI G, 64, .inl so))], [(ad 12, .inl (gI G, 64, .inl hs))], [(ad 10, .inl (gI G, 12, .inl wa))], [(ad 15, .inl (gA G, 13, .inr (.inr (.inr (.inr (fun q_ => some (rr q_)))))))], fam 13 rr (rrE G rs)] H locs := hw
        refine W.eq (g2 := (F0 m 15 ls [.int (nI (fbN n so hs wa rs i (wuN n so hs wa rs i)))])) rfl ?_
        refine aw_eqi (show (nI (fbN n so hs wa rs i (wuN n so hs wa rs i)) : Int32) = nI (wuN n so hs wa rs (i + 1)) from rfl) ?_
        refine lv_istore_n (lv' := [(2, .int (nI (wuN n so hs wa rs (i + 1)))), (0, .ref (ad 4)), (1, .int (nI mo)), (3, .int (nI i))]) S.1 S.2.1 dX6_whoIsUp_15 rfl hl (by decide) rfl (fun ls hl => ?_)
        refine lv_iinc (v := nI (i + 1)) (lv' := [(3, .int (nI (i + 1))), (2, .int (nI (wuN n so hs wa rs (i + 1)))), (0, .ref (ad 4)), (1, .int (nI mo))]) S.1 S.2.1 dX6_whoIsUp_16 hl (k := 3) rfl (by first | exact nI_1 _ | exact nI_add _ _ | rfl) (by decide) rfl (fun ls hl => ?_)
        refine lv_goto (tgt := 4) S.1 S.2.1 dX6_whoIsUp_19 (by decide) ?_
        exact ih4 (i + 1) (by first | assumption | omega) (by omega) _ _ _ (lv_sub hl [2, 3, 1, 0] rfl) hw
  exact loop4 _ 0 (by first | assumption | omega) (Nat.lt_succ_self _) _ _ _ (lv_sub hl [2, 3, 1, 0] rfl) hw
set_option maxRecDepth 100000 in
set_option maxHeartbeats 4000000 in
theorem c_X6_leastHarm (l : Launch) (G : aw_G) (ad : Nat → Nat) (rr : Nat → Nat) (rs : Nat → Nat → Int32)  : CT l G yX6_leastHarm wsX6_leastHarm ({ frames := 0, cells := 0, slots := 0, locals := 0 }) [.ref (ad 4)] [[(ad 4, .inr (6, [.ref (ad 2), .ref (ad 15)]))], [(ad 15, .inl (gA G, 13, .inr (.inr (.inr (.inr (fun q_ => some (rr q_)))))))], fam 13 rr (rrE G rs)] (dt (some (.int (if rs 0 0 < 1048576 then rs 0 0 else -9))) [[(ad 4, .inr (6, [.ref (ad 2), .ref (ad 15)]))], [(ad 15, .inl (gA G, 13, .inr (.inr (.inr (.inr (fun q_ => some (rr q_)))))))], fam 13 rr (rrE G rs)]) := by
  refine CT.of (cc := cX6_leastHarm) (nL := 1) (ret := (some .int)) (by decide) rfl (Nat.le_of_ble_eq_true rfl) ?_
  intro p e s m below meth c R args Q A hRm ha hQ hAe hA S hE hr hlk hnm H locs hH0 hL0 ls hl hw
  have S : CallFix p m c cX6_leastHarm 1 s args wsX6_leastHarm RX6 := S
  have hl : lv_has ls 1 [(0, .ref (ad 4))] := hl
  have hinX6 : ∀ w ∈ u_ws RX6 TX6 2, w ∈ wsX6_leastHarm := by decide +kernel
  have hf11 := S.2.2.2.2 (.fieldLink RX6 11 "AwakeTurns$Plan" "rest" "[[I") (by decide +kernel)
  refine lv_aload_n S.1 S.2.1 dX6_leastHarm_0 rfl (lv_at hl 0 rfl) ?_
  refine aw_get S hE hw 0 (C := RX6) (T := TX6) (N := 2) rfl rfl hinX6 1 (by decide) hf11 rfl dX6_leastHarm_1 ?_
  refine lv_iconst (v := 0) S.1 S.2.1 dX6_leastHarm_4 (by decide) ?_
  refine aw_aald_A S hE hw 1 (k := 0) (r := (rr 0)) rfl (by omega) (by decide) rfl dX6_leastHarm_5 ?_
  refine lv_iconst (v := 0) S.1 S.2.1 dX6_leastHarm_6 (by decide) ?_
  have hw := aw_out hw 2 rfl 0 (by omega)
  have hw : bW G A s.heap [[(ad 4, .inr (6, [.ref (ad 2), .ref (ad 15)]))], [(ad 15, .inl (gA G, 13, .inr (.inr (.inr (.inr (fun q_ => some (rr q_)))))))], famX 13 rr (rrE G rs) 0, [(rr 0, .inl (gI G, 64, .inl (rs 0)))]] H locs := hw
  refine aw_iald S hE hw 3 (k := 0) rfl (by omega) (by decide) dX6_leastHarm_7 ?_
  have hw := aw_inS [[(ad 4, .inr (6, [.ref (ad 2), .ref (ad 15)]))], [(ad 15, .inl (gA G, 13, .inr (.inr (.inr (.inr (fun q_ => some (rr q_)))))))], famX 13 rr (rrE G rs) 0] hw 2 rfl (by omega)
  have hw : bW G A s.heap [[(ad 4, .inr (6, [.ref (ad 2), .ref (ad 15)]))], [(ad 15, .inl (gA G, 13, .inr (.inr (.inr (.inr (fun q_ => some (rr q_)))))))], fam 13 rr (rrE G rs)] H locs := hw
  refine lv_ldc (v := 1048576) S.1 S.2.1 S.2.2.2.1 (S.2.2.2.2 (.constant RX6 38 1048576) (by decide +kernel)) dX6_leastHarm_8 ?_
  refine lv_icmp_lt (tgt := 18) S.1 S.2.1 dX6_leastHarm_10 (by decide) (fun c10 => ?_) (fun c10 => ?_)
  · refine lv_aload_n S.1 S.2.1 dX6_leastHarm_18 rfl (lv_at hl 0 rfl) ?_
    refine aw_get S hE hw 0 (C := RX6) (T := TX6) (N := 2) rfl rfl hinX6 1 (by decide) hf11 rfl dX6_leastHarm_19 ?_
    refine lv_iconst (v := 0) S.1 S.2.1 dX6_leastHarm_22 (by decide) ?_
    refine aw_aald_A S hE hw 1 (k := 0) (r := (rr 0)) rfl (by omega) (by decide) rfl dX6_leastHarm_23 ?_
    refine lv_iconst (v := 0) S.1 S.2.1 dX6_leastHarm_24 (by decide) ?_
    have hw := aw_out hw 2 rfl 0 (by omega)
    have hw : bW G A s.heap [[(ad 4, .inr (6, [.ref (ad 2), .ref (ad 15)]))], [(ad 15, .inl (gA G, 13, .inr (.inr (.inr (.inr (fun q_ => some (rr q_)))))))], famX 13 rr (rrE G rs) 0, [(rr 0, .inl (gI G, 64, .inl (rs 0)))]] H locs := hw
    refine aw_iald S hE hw 3 (k := 0) rfl (by omega) (by decide) dX6_leastHarm_25 ?_
    have hw := aw_inS [[(ad 4, .inr (6, [.ref (ad 2), .ref (ad 15)]))], [(ad 15, .inl (gA G, 13, .inr (.inr (.inr (.inr (fun q_ => some (rr q_)))))))], famX 13 rr (rrE G rs) 0] hw 2 rfl (by omega)
    have hw : bW G A s.heap [[(ad 4, .inr (6, [.ref (ad 2), .ref (ad 15)]))], [(ad 15, .inl (gA G, 13, .inr (.inr (.inr (.inr (fun q_ => some (rr q_)))))))], fam 13 rr (rrE G rs)] H locs := hw
    refine aw_eqi (show ((rs 0) 0 : Int32) = if rs 0 0 < 1048576 then rs 0 0 else -9 from (by first | rw [if_pos c10] | rw [if_neg c10])) ?_
    exact aw_iret S hr hlk ha hQ hAe hw dX6_leastHarm_26 rfl (Nat.le_of_ble_eq_true rfl) (Nat.le_of_ble_eq_true rfl) ⟨rfl, rfl⟩
  · refine lv_bipush (v := (-9)) S.1 S.2.1 dX6_leastHarm_13 (by decide) ?_
    refine lv_goto (tgt := 26) S.1 S.2.1 dX6_leastHarm_15 (by decide) ?_
    refine aw_eqi (show ((-9) : Int32) = if rs 0 0 < 1048576 then rs 0 0 else -9 from (by first | rw [if_pos c10] | rw [if_neg c10])) ?_
    exact aw_iret S hr hlk ha hQ hAe hw dX6_leastHarm_26 rfl (Nat.le_of_ble_eq_true rfl) (Nat.le_of_ble_eq_true rfl) ⟨rfl, rfl⟩
