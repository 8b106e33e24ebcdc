/-! calls that go through many turns -/
section CP
variable {p : Program} {l : Launch} {e : Env} {R : Room} {s : State} {m : MethodId} {args : Array Value} {below : List Frame} {meth : Method} {c : Code} {H : Heap} {locs : List Loc} {cells slots : Nat} {Q : State → Prop}
variable {G : aw_G} {A : Nat → Prop} {H0 : Heap} {wb wc : List va_W} {cc : ByteArray} {nL : Nat} {Ts : List Cond} {own : String} {pc : Nat} {ls : Array Slot} {rest : List Value}
theorem aw_copy (S : CallFix p m c cc nL s args Ts own) (hE : aw_E G s) (hw : bW G A H0 wb H locs) (i j : Nat) {index a0 a n0 n1 sp dp n : Nat} {f g : Nat → Int32} (hml : c.maxLocals = ls.size) (hlink : (Cond.methodLink own index arraycopyName).before args s = true) (hnat : (Cond.native arraycopyName).before args s = true) (hstat : (Cond.static arraycopyName).before args s = true) (hini : (Cond.initialized "java/lang/System").before args s = true)
    (hi : wb[i]? = some [(a0, .inl (gI G, n0, .inl f))]) (hj : wb[j]? = some [(a, .inl (gI G, n1, .inl g))]) (h4 : sp + n ≤ n0) (h5 : dp + n ≤ n1) (hn0 : n0 < 2 ^ 31) (hn1 : n1 < 2 ^ 31) (hframes : 1 ≤ R.frames) (hlocals : (rest.map fun v => v.category).sum + (nativeFrameWords "java/lang/System" "arraycopy" 5 + 11) ≤ R.locals) (hdg : decode cc pc = .ok (.invokestatic index, 3))
    (kk : ∀ (H1 : Heap) (locs1 : List Loc), bW G A H0 (wb.set j [(a, .inl (gI G, n1, .inl (va_cpy f g sp dp n)))]) H1 locs1 → W p l e R s m args below meth c H1 locs1 cells slots Q (F0 m (pc + 3) ls rest)) : W p l e R s m args below meth c H locs cells slots Q (F0 m pc ls (.int (nI n) :: .int (nI dp) :: .ref a :: .int (nI sp) :: .ref a0 :: rest)) := by
  obtain ⟨q0, h1, -⟩ := aw_pos wb i _ hi
  obtain ⟨q1, h2, h3⟩ := aw_pos wb j _ hj
  refine va_copyi (D := G.1) S.1 S.2.1 hml S.2.2.2.1 hlink hnat hstat hini hE.1 hw.1 hw.2.1 hw.2.2 q0 q1 0 0 h1 h2 rfl rfl rfl (nI_pos (by omega)) (nI_pos (by omega)) (nI_pos (by omega)) (by rw [nI_clamp (by omega), nI_clamp (by omega)]; exact h4) (by rw [nI_clamp (by omega), nI_clamp (by omega)]; exact h5) (fun _ _ => rfl) hframes hlocals hdg (fun H1 locs1 hP hD hS => ?_)
  rw [h3, nI_clamp (by omega), nI_clamp (by omega), nI_clamp (by omega)] at hP hD
  exact kk H1 locs1 ⟨hP, hD, hS⟩
end CP
def swF (set : Int32) (a b : Nat) : Int32 := if bt set a = bt set b then set else set ^^^ ((1 <<< (nI a &&& 31)) ||| (1 <<< (nI b &&& 31)))
theorem b_eqB {x y : Bool} : ((if x = true then 1 else 0 : Int32) = if y = true then 1 else 0) ↔ x = y := by cases x <;> cases y <;> decide
theorem noI_none {k n : Nat} (hn : n < 2 ^ 31) : noI k n = -9 ↔ ¬ k < n := by
  unfold noI
  by_cases h : k < n
  · rw [if_pos h]
    simp only [h, not_true_eq_false, iff_false]
    intro q
    rw [fa_eq, nI_toInt (by omega), li_m9] at q
    omega
  · rw [if_neg h]
    simp [h]
theorem fwF_le {n : Nat} {lw : Int32} {sk ho br tu wa : Nat → Int32} {mm : Nat} {ol os : Bool} : fwF n lw sk ho br tu wa mm ol os ≤ mm := fF_le _ _
theorem kA_cong {n : Nat} {lw : Int32} {sk t1 t2 : Nat → Int32} : ∀ {m : Nat}, (∀ j, j < m → t1 j = t2 j) → kA n lw sk t1 m = kA n lw sk t2 m
  | 0, _ => rfl
  | m + 1, h => by
    unfold kA
    rw [kA_cong (fun j hj => h j (by omega)), h m (by omega)]
theorem uB_cong {t1 t2 : Nat → Int32} : ∀ {m : Nat}, (∀ j, j < m → t1 j = t2 j) → uB t1 m = uB t2 m
  | 0, _ => rfl
  | m + 1, h => h m (by omega)
theorem hB_cong {n : Nat} {ho t1 t2 : Nat → Int32} : ∀ {m : Nat}, (∀ j, j < m → t1 j = t2 j) → hB n ho t1 m = hB n ho t2 m
  | 0, _ => rfl
  | m + 1, h => by
    unfold hB
    rw [hB_cong (fun j hj => h j (by omega)), h m (by omega), uB_cong (fun j hj => h j (by omega))]
theorem fwF_cong {n : Nat} {lw : Int32} {sk ho br t1 t2 wa : Nat → Int32} {mm : Nat} {ol os : Bool} (h : ∀ j, j < mm → t1 j = t2 j) : fwF n lw sk ho br t1 wa mm ol os = fwF n lw sk ho br t2 wa mm ol os := by
  refine fF_cong (fun m hm => ?_)
  unfold wrP lkF
  rw [h m hm, kA_cong (fun j hj => h j (by omega)), hB_cong (fun j hj => h j (by omega))]
/-- how many below k -/
def ct (p : Nat → Bool) : Nat → Nat
  | 0 => 0
  | k + 1 => ct p k + (if p k = true then 1 else 0)
theorem ct_le (p : Nat → Bool) : ∀ k, ct p k ≤ k
  | 0 => Nat.le_refl 0
  | k + 1 => by
    have := ct_le p k
    unfold ct
    split <;> omega
theorem ct_skip {p : Nat → Bool} {a : Nat} : ∀ {b : Nat}, a ≤ b → (∀ q, a ≤ q → q < b → p q = false) → ct p b = ct p a
  | 0, h, _ => by rw [show a = 0 by omega]
  | b + 1, h, hp => by
    rcases Nat.lt_or_ge b a with q | q
    · rw [show b + 1 = a by omega]
    · rw [show ct p (b + 1) = ct p b + (if p b = true then 1 else 0) from rfl, ct_skip q (fun x h1 h2 => hp x h1 (by omega)), hp b q (by omega)]
      simp
theorem ct_cong {p q : Nat → Bool} : ∀ {k : Nat}, (∀ j, j < k → p j = q j) → ct p k = ct q k
  | 0, _ => rfl
  | k + 1, h => by
    unfold ct
    rw [ct_cong (fun j hj => h j (by omega)), h k (by omega)]
/-- two may trade, told by 6 a + b -/
def trP (n : Nat) (mt : Nat → Nat → Bool) (q : Nat) : Bool := decide (q / 6 < q % 6 ∧ q % 6 < n) && mt (q / 6) (q % 6)
def trF (n : Nat) (mt : Nat → Nat → Bool) (kv : Int32) : Int32 := if kv = -1 then nI (ct (trP n mt) 36) else (if fF (fun q => trP n mt q && decide (nI (ct (trP n mt) q) = kv)) 36 < 36 then nI (10 * (fF (fun q => trP n mt q && decide (nI (ct (trP n mt) q) = kv)) 36 / 6) + fF (fun q => trP n mt q && decide (nI (ct (trP n mt) q) = kv)) 36 % 6) else -9)
theorem trP_at {n : Nat} {mt : Nat → Nat → Bool} {a b : Nat} (h : a < b) (hb : b < n) (hn : n ≤ 6) : trP n mt (6 * a + b) = mt a b := by
  unfold trP
  rw [show (6 * a + b) / 6 = a by omega, show (6 * a + b) % 6 = b by omega, decide_eq_true ⟨h, hb⟩, Bool.true_and]
theorem trP_lo {n : Nat} {mt : Nat → Nat → Bool} {a q : Nat} (h1 : 6 * a ≤ q) (h2 : q < 6 * a + (a + 1)) (ha : a < 6) : trP n mt q = false := by
  unfold trP
  rw [decide_eq_false (by omega), Bool.false_and]
theorem trP_hi {n : Nat} {mt : Nat → Nat → Bool} {a q : Nat} (h1 : 6 * a + n ≤ q) (h2 : q < 6 * (a + 1)) : trP n mt q = false := by
  unfold trP
  rw [decide_eq_false (by omega), Bool.false_and]
theorem trP_end {n : Nat} {mt : Nat → Nat → Bool} {q : Nat} (h1 : 6 * n ≤ q) (h2 : q < 36) : trP n mt q = false := by
  unfold trP
  rw [decide_eq_false (by omega), Bool.false_and]
def mtF (n : Nat) (lw : Int32) (sk ho br tu wa : Nat → Int32) (a b : Nat) : Bool := decide (fwF n lw sk ho br (fun m => swF (tu m) a b) wa 12 true true = 12)
def f_trades (n : Nat) (mt : Nat → Nat → Bool) (kv : Int32) : Int32 := if kv < -1 then -1 else if n = 0 then -3 else trF n mt kv
/-- ways that go well -/
def wyP (n : Nat) (lw : Int32) (sk ho br tu wa : Nat → Int32) (mo w : Nat) : Bool := decide (fwF n lw sk ho br (fun m => tu m &&& nI w) wa (mo + 1) true false = mo + 1)
def hv : Nat → Nat → Nat → Nat × Nat
  | 0, u, l => (u, l)
  | f + 1, u, l => if 1 < l ∧ u % 2 = 0 then hv f (u / 2) (l / 2) else (u, l)
def f_odds (n : Nat) (wy : Nat → Nat → Bool) (mo wt : Int32) : Int64 := if ((0 ≤ mo.toInt ∧ mo.toInt < 12) ∧ 0 ≤ wt.toInt ∧ wt.toInt ≤ 1) ∧ ¬ n = 0 then (if wt = 0 then (nI (hv 7 (ct (wy (tn mo)) (2 ^ n)) (2 ^ n)).1).toInt64 else (nI (hv 7 (ct (wy (tn mo)) (2 ^ n)) (2 ^ n)).2).toInt64) else -9223372036854775808
/-- sets of those for whom something holds -/
def bgF (p : Nat → Bool) : Nat → Int32
  | 0 => 0
  | s + 1 => if p s = true then bgF p s ||| (1 <<< (nI s &&& 31)) else bgF p s
theorem bgF_t {p : Nat → Bool} {s : Nat} (h : p s = true) : bgF p s ||| (1 <<< (nI s &&& 31)) = bgF p (s + 1) := by rw [bgF, if_pos h]
theorem bgF_f {p : Nat → Bool} {s : Nat} (h : ¬ p s = true) : bgF p s = bgF p (s + 1) := by rw [bgF, if_neg h]
def bgP (nf nt : Nat → Nat) (nn : Nat) (tu : Nat → Int32) (ro rmo : Nat → Nat) (rb : Nat → Bool) (nr mo s : Nat) : Bool := decide (rsF (nwE nf nt nn s mo tu) ro rmo rb nr = nr)
def wkP (nf nt : Nat → Nat) (nn : Nat) (tu : Nat → Int32) (ro rmo : Nat → Nat) (rb : Nat → Bool) (nr fr si mo s : Nat) : Bool := decide (rsF (nwE nf nt nn fr si (upd tu mo (tu mo ||| (1 <<< (nI s &&& 31))))) ro rmo rb nr = nr)
def f_woken (n : Nat) (sv si mo : Int32) (v : Int32) : Int32 := if 0 ≤ sv.toInt ∧ sv.toInt < n then (if (0 ≤ si.toInt ∧ si.toInt < 12) ∧ 0 ≤ mo.toInt ∧ mo.toInt < 12 then v else -2) else -1
theorem nwK_cong {nf nt : Nat → Nat} {nn fr si : Nat} {t1 t2 : Nat → Int32} : ∀ {m : Nat}, (∀ j, j < m → t1 j = t2 j) → nwK nf nt nn fr si t1 m = nwK nf nt nn fr si t2 m
  | 0, _ => rfl
  | m + 1, h => by
    unfold nwK
    rw [nwK_cong (fun j hj => h j (by omega)), h m (by omega)]
set_option maxRecDepth 100000 in
set_option maxHeartbeats 4000000 in
theorem c_X10_withBitsChanged (l : Launch) (G : aw_G) (set : Int32) (a b : Nat) (ha_ : a < 32) (hb_ : b < 32) : CT l G yX10_withBitsChanged wsX10_withBitsChanged ({ frames := 1, cells := 0, slots := 0, locals := 21 }) [.int set, .int (nI a), .int (nI b)] [] (dt (some (.int (swF set a b))) []) := by
  refine CT.of (cc := cX10_withBitsChanged) (nL := 3) (ret := (some .int)) (by decide) rfl (Nat.le_of_ble_eq_true rfl) ?_
  intro p e s m below meth c R args Q A hRm ha hQ hAe hA S hE hr hlk hnm H locs hH0 hL0 ls hl hw
  have S : CallFix p m c cX10_withBitsChanged 3 s args wsX10_withBitsChanged RX10 := S
  have hl : lv_has ls 3 [(0, .int set), (1, .int (nI a)), (2, .int (nI b))] := hl
  refine lv_iload_n S.1 S.2.1 dX10_withBitsChanged_0 rfl (lv_at hl 0 rfl) ?_
  refine lv_iload_n S.1 S.2.1 dX10_withBitsChanged_1 rfl (lv_at hl 1 rfl) ?_
  refine aw_callS S hE (c_X10_isIn l G set a ha_) gX10_withBitsChanged_X10_isIn (n := 2) rfl (by decide +kernel) rfl (by rw [hRm]; exact ⟨Nat.le_of_ble_eq_true rfl, Nat.le_of_ble_eq_true rfl⟩) (by rw [hRm]; exact ⟨Nat.le_of_ble_eq_true rfl, Nat.le_of_ble_eq_true rfl⟩) hw hA hl.1 [] rfl rfl rfl (Nat.le_of_ble_eq_true rfl) dX10_withBitsChanged_2 ?_
  rintro v w1 H locs ⟨rfl, rfl⟩ hw
  have hw : bW G A s.heap [] H locs := hw
  refine W.eq (g2 := (F0 m 5 ls [.int (if bt set a = true then 1 else 0)])) rfl ?_
  refine lv_iload_n S.1 S.2.1 dX10_withBitsChanged_5 rfl (lv_at hl 0 rfl) ?_
  refine lv_iload_n S.1 S.2.1 dX10_withBitsChanged_6 rfl (lv_at hl 2 rfl) ?_
  refine aw_callS S hE (c_X10_isIn l G set b hb_) gX10_withBitsChanged_X10_isIn (n := 2) rfl (by decide +kernel) rfl (by rw [hRm]; exact ⟨Nat.le_of_ble_eq_true rfl, Nat.le_of_ble_eq_true rfl⟩) (by rw [hRm]; exact ⟨Nat.le_of_ble_eq_true rfl, Nat.le_of_ble_eq_true rfl⟩) hw hA hl.1 [] rfl rfl rfl (Nat.le_of_ble_eq_true rfl) dX10_withBitsChanged_7 ?_
  rintro v w1 H locs ⟨rfl, rfl⟩ hw
  have hw : bW G A s.heap [] H locs := hw
  refine W.eq (g2 := (F0 m 10 ls [.int (if bt set b = true then 1 else 0), .int (if bt set a = true then 1 else 0)])) rfl ?_
  refine lv_icmp_ne (tgt := 17) S.1 S.2.1 dX10_withBitsChanged_10 (by decide) (fun c10 => ?_) (fun c10 => ?_)
  · refine lv_iload_n S.1 S.2.1 dX10_withBitsChanged_17 rfl (lv_at hl 0 rfl) ?_
    refine lv_iconst (v := 1) S.1 S.2.1 dX10_withBitsChanged_18 (by decide) ?_
    refine lv_iload_n S.1 S.2.1 dX10_withBitsChanged_19 rfl (lv_at hl 1 rfl) ?_
    refine lv_ishl S.1 S.2.1 dX10_withBitsChanged_20 ?_
    refine lv_iconst (v := 1) S.1 S.2.1 dX10_withBitsChanged_21 (by decide) ?_
    refine lv_iload_n S.1 S.2.1 dX10_withBitsChanged_22 rfl (lv_at hl 2 rfl) ?_
    refine lv_ishl S.1 S.2.1 dX10_withBitsChanged_23 ?_
    refine lv_ior S.1 S.2.1 dX10_withBitsChanged_24 ?_
    refine lv_ixor S.1 S.2.1 dX10_withBitsChanged_25 ?_
    refine aw_eqi (show (set ^^^ ((1 <<< ((nI a) &&& 31)) ||| (1 <<< ((nI b) &&& 31))) : Int32) = swF set a b from (by unfold swF; first | rw [if_pos (b_eqB.mp c10)] | rw [if_neg (fun q => c10 (b_eqB.mpr q))])) ?_
    exact aw_iret S hr hlk ha hQ hAe hw dX10_withBitsChanged_26 rfl (Nat.le_of_ble_eq_true rfl) (Nat.le_of_ble_eq_true rfl) ⟨rfl, rfl⟩
  · refine lv_iload_n S.1 S.2.1 dX10_withBitsChanged_13 rfl (lv_at hl 0 rfl) ?_
    refine lv_goto (tgt := 26) S.1 S.2.1 dX10_withBitsChanged_14 (by decide) ?_
    refine aw_eqi (show (set : Int32) = swF set a b from (by unfold swF; first | rw [if_pos (b_eqB.mp c10)] | rw [if_neg (fun q => c10 (b_eqB.mpr q))])) ?_
    exact aw_iret S hr hlk ha hQ hAe hw dX10_withBitsChanged_26 rfl (Nat.le_of_ble_eq_true rfl) (Nat.le_of_ble_eq_true rfl) ⟨rfl, rfl⟩
set_option maxRecDepth 100000 in
set_option maxHeartbeats 4000000 in
theorem c_X10_mayTrade (l : Launch) (G : aw_G) (ad : Nat → Nat) (fl : Int32) (n : Nat) (lw : Int32) (sg : Nat → Option Nat) (sa : Nat → Nat) (kd sk br : Nat → Int32) (la ub : Int32) (wh wk tu wa : Nat → Int32) (td : Nat → Int32) (a b : Nat) (hn : n ≤ 6) (hsg : ∀ i, i < n → sg i = some (sa i)) (ha_ : a < n) (hb_ : b < n) : CT l G yX10_mayTrade wsX10_mayTrade ({ frames := 6, cells := 0, slots := 0, locals := 129 }) [.ref (ad 0), .int (nI a), .int (nI b)] [[(ad 0, .inr (9, [.ref (ad 1), .ref (ad 2), .ref (ad 3), .ref (ad 4), .ref (ad 5), .ref (ad 6), .ref (ad 7), .int fl]))], [(ad 2, .inr (0, [.ref (ad 8), .ref (ad 9), .ref (ad 10), .ref (ad 11), .ref (ad 12), .int (nI n), .int lw]))], [(ad 3, .inr (3, [.ref (ad 2), .ref (ad 13), .ref (ad 14), .int la, .int ub]))], [(ad 13, .inl (gI G, 6, .inl wh))], [(ad 14, .inl (gI G, 6, .inl wk))], [(ad 8, .inl (gL G, 6, .inr (.inr (.inr (.inr sg)))))], fam n sa (slE kd sk br), [(ad 9, .inl (gI G, 12, .inl tu))], [(ad 10, .inl (gI G, 12, .inl wa))], [(ad 7, .inl (gI G, 12, .inl td))]] (fun v w => v = some (.int (if mtF n lw sk (fun j => hoK (kd j)) br tu wa a b = true then 1 else 0)) ∧ ∃ (la ub : Int32) (wh wk : Nat → Int32) (td : Nat → Int32), w = [[(ad 0, .inr (9, [.ref (ad 1), .ref (ad 2), .ref (ad 3), .ref (ad 4), .ref (ad 5), .ref (ad 6), .ref (ad 7), .int fl]))], [(ad 2, .inr (0, [.ref (ad 8), .ref (ad 9), .ref (ad 10), .ref (ad 11), .ref (ad 12), .int (nI n), .int lw]))], [(ad 3, .inr (3, [.ref (ad 2), .ref (ad 13), .ref (ad 14), .int la, .int ub]))], [(ad 13, .inl (gI G, 6, .inl wh))], [(ad 14, .inl (gI G, 6, .inl wk))], [(ad 8, .inl (gL G, 6, .inr (.inr (.inr (.inr sg)))))], fam n sa (slE kd sk br), [(ad 9, .inl (gI G, 12, .inl tu))], [(ad 10, .inl (gI G, 12, .inl wa))], [(ad 7, .inl (gI G, 12, .inl td))]]) := by
  refine CT.of (cc := cX10_mayTrade) (nL := 4) (ret := (some .boolean)) (by decide) rfl (Nat.le_of_ble_eq_true rfl) ?_
  intro p e s m below meth c R args Q A hRm ha hQ hAe hA S hE hr hlk hnm H locs hH0 hL0 ls hl hw
  have S : CallFix p m c cX10_mayTrade 4 s args wsX10_mayTrade RX10 := S
  have hl : lv_has ls 4 [(0, .ref (ad 0)), (1, .int (nI a)), (2, .int (nI b))] := hl
  have hinX10 : ∀ w ∈ u_ws RX10 TX10 8, w ∈ wsX10_mayTrade := by decide +kernel
  have hf30 := S.2.2.2.2 (.fieldLink RX10 30 "AwakeTurns" "walk" "LAwakeTurns$MonthWalk;") (by decide +kernel)
  have hf55 := S.2.2.2.2 (.fieldLink RX10 55 "AwakeTurns" "tried" "[I") (by decide +kernel)
  have hf21 := S.2.2.2.2 (.fieldLink RX10 21 "AwakeTurns" "crew" "LAwakeTurns$Crew;") (by decide +kernel)
  have hinX0 : ∀ w ∈ u_ws RX0 TX0 7, w ∈ wsX10_mayTrade := by decide +kernel
  have hf126 := S.2.2.2.2 (.fieldLink RX10 126 "AwakeTurns$Crew" "turns" "[I") (by decide +kernel)
  refine lv_iconst (v := 0) S.1 S.2.1 dX10_mayTrade_0 (by decide) ?_
  refine lv_istore_n (lv' := [(3, .int 0), (0, .ref (ad 0)), (1, .int (nI a)), (2, .int (nI b))]) S.1 S.2.1 dX10_mayTrade_1 rfl hl (by decide) rfl (fun ls hl => ?_)
  have hw := aw_arr hw 9 rfl (fa_fill (fun m => swF (tu m) a b) td 0) (fun _ _ => by rw [fa_fill_0])
  have hw : bW G A s.heap [[(ad 0, .inr (9, [.ref (ad 1), .ref (ad 2), .ref (ad 3), .ref (ad 4), .ref (ad 5), .ref (ad 6), .ref (ad 7), .int fl]))], [(ad 2, .inr (0, [.ref (ad 8), .ref (ad 9), .ref (ad 10), .ref (ad 11), .ref (ad 12), .int (nI n), .int lw]))], [(ad 3, .inr (3, [.ref (ad 2), .ref (ad 13), .ref (ad 14), .int la, .int ub]))], [(ad 13, .inl (gI G, 6, .inl wh))], [(ad 14, .inl (gI G, 6, .inl wk))], [(ad 8, .inl (gL G, 6, .inr (.inr (.inr (.inr sg)))))], fam n sa (slE kd sk br), [(ad 9, .inl (gI G, 12, .inl tu))], [(ad 10, .inl (gI G, 12, .inl wa))], [(ad 7, .inl (gI G, 12, .inl (fa_fill (fun m => swF (tu m) a b) td 0)))]] H locs := hw
  have loop2 : ∀ (fu : Nat) (i : Nat), (i ≤ 12) → (12 - i) < fu → ∀ (ls : Array Slot) (H : Heap) (locs : List Loc), lv_has ls 4 [(0, .ref (ad 0)), (1, .int (nI a)), (2, .int (nI b)), (3, .int (nI i))] → bW G A s.heap [[(ad 0, .inr (9, [.ref (ad 1), .ref (ad 2), .ref (ad 3), .ref (ad 4), .ref (ad 5), .ref (ad 6), .ref (ad 7), .int fl]))], [(ad 2, .inr (0, [.ref (ad 8), .ref (ad 9), .ref (ad 10), .ref (ad 11), .ref (ad 12), .int (nI n), .int lw]))], [(ad 3, .inr (3, [.ref (ad 2), .ref (ad 13), .ref (ad 14), .int la, .int ub]))], [(ad 13, .inl (gI G, 6, .inl wh))], [(ad 14, .inl (gI G, 6, .inl wk))], [(ad 8, .inl (gL G, 6, .inr (.inr (.inr (.inr sg)))))], fam n sa (slE kd sk br), [(ad 9, .inl (gI G, 12, .inl tu))], [(ad 10, .inl (gI G, 12, .inl wa))], [(ad 7, .inl (gI G, 12, .inl (fa_fill (fun m => swF (tu m) a b) td i)))]] H locs → W p l e R s m args below meth c H locs 0 0 Q (F0 m 2 ls []) := by
    intro fu
    induction fu with
    | zero => intro i _ hm; exact absurd hm (Nat.not_lt_zero _)
    | succ fu ih2 =>
      intro i hi hm ls H locs hl hw
      refine lv_iload_n S.1 S.2.1 dX10_mayTrade_2 rfl (lv_at hl 3 rfl) ?_
      refine lv_bipush (v := 12) S.1 S.2.1 dX10_mayTrade_3 (by decide) ?_
      refine aw_icmpN_ge (x := i) (y := 12) (tgt := 34) S (by omega) (by omega) dX10_mayTrade_5 (by decide) (fun c5 => ?_) (fun c5 => ?_)
      · have ex_i : i = 12 := by omega
        try rw [ex_i] at hl
        try rw [ex_i] at hw
        have hw := aw_arr hw 9 rfl (fun m => swF (tu m) a b) (fun j hj => by rw [fa_fill_in hj])
        have hw : bW G A s.heap [[(ad 0, .inr (9, [.ref (ad 1), .ref (ad 2), .ref (ad 3), .ref (ad 4), .ref (ad 5), .ref (ad 6), .ref (ad 7), .int fl]))], [(ad 2, .inr (0, [.ref (ad 8), .ref (ad 9), .ref (ad 10), .ref (ad 11), .ref (ad 12), .int (nI n), .int lw]))], [(ad 3, .inr (3, [.ref (ad 2), .ref (ad 13), .ref (ad 14), .int la, .int ub]))], [(ad 13, .inl (gI G, 6, .inl wh))], [(ad 14, .inl (gI G, 6, .inl wk))], [(ad 8, .inl (gL G, 6, .inr (.inr (.inr (.inr sg)))))], fam n sa (slE kd sk br), [(ad 9, .inl (gI G, 12, .inl tu))], [(ad 10, .inl (gI G, 12, .inl wa))], [(ad 7, .inl (gI G, 12, .inl (fun m => swF (tu m) a b)))]] H locs := hw
        refine lv_aload_n S.1 S.2.1 dX10_mayTrade_34 rfl (lv_at hl 0 rfl) ?_
        refine aw_get S hE hw 0 (C := RX10) (T := TX10) (N := 8) rfl rfl hinX10 2 (by decide) hf30 rfl dX10_mayTrade_35 ?_
        refine lv_aload_n S.1 S.2.1 dX10_mayTrade_38 rfl (lv_at hl 0 rfl) ?_
        refine aw_get S hE hw 0 (C := RX10) (T := TX10) (N := 8) rfl rfl hinX10 6 (by decide) hf55 rfl dX10_mayTrade_39 ?_
        refine lv_bipush (v := 12) S.1 S.2.1 dX10_mayTrade_42 (by decide) ?_
        refine lv_iconst (v := 1) S.1 S.2.1 dX10_mayTrade_44 (by decide) ?_
        refine lv_iconst (v := 1) S.1 S.2.1 dX10_mayTrade_45 (by decide) ?_
        refine aw_callV S hE (c_X3_firstWrong l G ad n lw sg sa kd sk br la ub wh wk (ad 7) (fun m => swF (tu m) a b) wa 12 true true (by first | assumption | omega) (by first | assumption | omega) (by first | assumption | omega)) gX10_mayTrade_X3_firstWrong (n := 4) rfl (by decide +kernel) rfl (by rw [hRm]; exact ⟨Nat.le_of_ble_eq_true rfl, Nat.le_of_ble_eq_true rfl⟩) (by rw [hRm]; exact ⟨Nat.le_of_ble_eq_true rfl, Nat.le_of_ble_eq_true rfl⟩) hw hA hl.1 [2, 3, 4, 1, 5, 6, 9, 8] rfl rfl (aw_recv (i := 2) hE hw rfl rfl rfl) rfl (Nat.le_of_ble_eq_true rfl) dX10_mayTrade_46 ?_
        rintro v w1 H locs ⟨rfl, rfl⟩ hw
        have hw : bW G A s.heap [[(ad 0, .inr (9, [.ref (ad 1), .ref (ad 2), .ref (ad 3), .ref (ad 4), .ref (ad 5), .ref (ad 6), .ref (ad 7), .int fl]))], [(ad 2, .inr (0, [.ref (ad 8), .ref (ad 9), .ref (ad 10), .ref (ad 11), .ref (ad 12), .int (nI n), .int lw]))], [(ad 3, .inr (3, [.ref (ad 2), .ref (ad 13), .ref (ad 14), .int (laB n lw sk (fun m => swF (tu m) a b) wa (min (fwF n lw sk (fun j => hoK (kd j)) br (fun m => swF (tu m) a b) wa 12 true true + 1) 12)), .int (uB (fun m => swF (tu m) a b) (min (fwF n lw sk (fun j => hoK (kd j)) br (fun m => swF (tu m) a b) wa 12 true true + 1) 12))]))], [(ad 13, .inl (gI G, 6, .inl (fa_fill (hB n (fun j => hoK (kd j)) (fun m => swF (tu m) a b) (min (fwF n lw sk (fun j => hoK (kd j)) br (fun m => swF (tu m) a b) wa 12 true true + 1) 12)) wh n)))], [(ad 14, .inl (gI G, 6, .inl (fa_fill (kA n lw sk (fun m => swF (tu m) a b) ((min (fwF n lw sk (fun j => hoK (kd j)) br (fun m => swF (tu m) a b) wa 12 true true + 1) 12) - 1)) wk n)))], [(ad 8, .inl (gL G, 6, .inr (.inr (.inr (.inr sg)))))], fam n sa (slE kd sk br), [(ad 9, .inl (gI G, 12, .inl tu))], [(ad 10, .inl (gI G, 12, .inl wa))], [(ad 7, .inl (gI G, 12, .inl (fun m => swF (tu m) a b)))]] H locs := hw
        refine W.eq (g2 := (F0 m 49 ls [.int (noI (fwF n lw sk (fun j => hoK (kd j)) br (fun m => swF (tu m) a b) wa 12 true true) 12)])) rfl ?_
        refine lv_bipush (v := (-9)) S.1 S.2.1 dX10_mayTrade_49 (by decide) ?_
        refine lv_icmp_ne (tgt := 58) S.1 S.2.1 dX10_mayTrade_51 (by decide) (fun c51 => ?_) (fun c51 => ?_)
        · refine lv_iconst (v := 0) S.1 S.2.1 dX10_mayTrade_58 (by decide) ?_
          refine aw_eqi (show (0 : Int32) = if mtF n lw sk (fun j => hoK (kd j)) br tu wa a b = true then 1 else 0 from (by unfold mtF; first | rw [if_pos (decide_eq_true (Nat.le_antisymm fwF_le (Nat.not_lt.mp ((noI_none (by decide)).mp c51))))] | rw [if_neg (fun q => c51 ((noI_none (by decide)).mpr (by have := of_decide_eq_true q; omega)))])) ?_
          exact aw_iret S hr hlk ha hQ hAe hw dX10_mayTrade_59 (aw_nb _) (Nat.le_of_ble_eq_true rfl) (Nat.le_of_ble_eq_true rfl) ⟨rfl, _, _, _, _, _, rfl⟩
        · refine lv_iconst (v := 1) S.1 S.2.1 dX10_mayTrade_54 (by decide) ?_
          refine lv_goto (tgt := 59) S.1 S.2.1 dX10_mayTrade_55 (by decide) ?_
          refine aw_eqi (show (1 : Int32) = if mtF n lw sk (fun j => hoK (kd j)) br tu wa a b = true then 1 else 0 from (by unfold mtF; first | rw [if_pos (decide_eq_true (Nat.le_antisymm fwF_le (Nat.not_lt.mp ((noI_none (by decide)).mp c51))))] | rw [if_neg (fun q => c51 ((noI_none (by decide)).mpr (by have := of_decide_eq_true q; omega)))])) ?_
          exact aw_iret S hr hlk ha hQ hAe hw dX10_mayTrade_59 (aw_nb _) (Nat.le_of_ble_eq_true rfl) (Nat.le_of_ble_eq_true rfl) ⟨rfl, _, _, _, _, _, rfl⟩
      · refine lv_aload_n S.1 S.2.1 dX10_mayTrade_8 rfl (lv_at hl 0 rfl) ?_
        refine aw_get S hE hw 0 (C := RX10) (T := TX10) (N := 8) rfl rfl hinX10 6 (by decide) hf55 rfl dX10_mayTrade_9 ?_
        refine lv_iload_n S.1 S.2.1 dX10_mayTrade_12 rfl (lv_at hl 3 rfl) ?_
        refine lv_aload_n S.1 S.2.1 dX10_mayTrade_13 rfl (lv_at hl 0 rfl) ?_
        refine aw_get S hE hw 0 (C := RX10) (T := TX10) (N := 8) rfl rfl hinX10 1 (by decide) hf21 rfl dX10_mayTrade_14 ?_
        refine aw_get S hE hw 1 (C := RX0) (T := TX0) (N := 7) rfl rfl hinX0 1 (by decide) hf126 rfl dX10_mayTrade_17 ?_
        refine lv_iload_n S.1 S.2.1 dX10_mayTrade_20 rfl (lv_at hl 3 rfl) ?_
        refine aw_iald S hE hw 7 (k := i) rfl (by omega) (by decide) dX10_mayTrade_21 ?_
        refine lv_iload_n S.1 S.2.1 dX10_mayTrade_22 rfl (lv_at hl 1 rfl) ?_
        refine lv_iload_n S.1 S.2.1 dX10_mayTrade_23 rfl (lv_at hl 2 rfl) ?_
        refine aw_callS S hE (c_X10_withBitsChanged l G (tu i) a b (by first | assumption | omega) (by first | assumption | omega)) gX10_mayTrade_X10_withBitsChanged (n := 3) rfl (by decide +kernel) rfl (by rw [hRm]; exact ⟨Nat.le_of_ble_eq_true rfl, Nat.le_of_ble_eq_true rfl⟩) (by rw [hRm]; exact ⟨Nat.le_of_ble_eq_true rfl, Nat.le_of_ble_eq_true rfl⟩) hw hA hl.1 [] rfl rfl rfl (Nat.le_of_ble_eq_true rfl) dX10_mayTrade_24 ?_
        rintro v w1 H locs ⟨rfl, rfl⟩ hw
        have hw : bW G A s.heap [[(ad 0, .inr (9, [.ref (ad 1), .ref (ad 2), .ref (ad 3), .ref (ad 4), .ref (ad 5), .ref (ad 6), .ref (ad 7), .int fl]))], [(ad 2, .inr (0, [.ref (ad 8), .ref (ad 9), .ref (ad 10), .ref (ad 11), .ref (ad 12), .int (nI n), .int lw]))], [(ad 3, .inr (3, [.ref (ad 2), .ref (ad 13), .ref (ad 14), .int la, .int ub]))], [(ad 13, .inl (gI G, 6, .inl wh))], [(ad 14, .inl (gI G, 6, .inl wk))], [(ad 8, .inl (gL G, 6, .inr (.inr (.inr (.inr sg)))))], fam n sa (slE kd sk br), [(ad 9, .inl (gI G, 12, .inl tu))], [(ad 10, .inl (gI G, 12, .inl wa))], [(ad 7, .inl (gI G, 12, .inl (fa_fill (fun m => swF (tu m) a b) td i)))]] H locs := hw
        refine W.eq (g2 := (F0 m 27 ls [.int (swF (tu i) a b), .int (nI i), .ref (ad 7)])) rfl ?_
        refine aw_iast S hE hw 9 (k := i) rfl (by omega) (by decide) dX10_mayTrade_27 (fun H locs hw => ?_)
        have hw : bW G A s.heap [[(ad 0, .inr (9, [.ref (ad 1), .ref (ad 2), .ref (ad 3), .ref (ad 4), .ref (ad 5), .ref (ad 6), .ref (ad 7), .int fl]))], [(ad 2, .inr (0, [.ref (ad 8), .ref (ad 9), .ref (ad 10), .ref (ad 11), .ref (ad 12), .int (nI n), .int lw]))], [(ad 3, .inr (3, [.ref (ad 2), .ref (ad 13), .ref (ad 14), .int la, .int ub]))], [(ad 13, .inl (gI G, 6, .inl wh))], [(ad 14, .inl (gI G, 6, .inl wk))], [(ad 8, .inl (gL G, 6, .inr (.inr (.inr (.inr sg)))))], fam n sa (slE kd sk br), [(ad 9, .inl (gI G, 12, .inl tu))], [(ad 10, .inl (gI G, 12, .inl wa))], [(ad 7, .inl (gI G, 12, .inl (upd (fa_fill (fun m => swF (tu m) a b) td i) i (swF (tu i) a b))))]] H locs := hw
        refine lv_iinc (v := nI (i + 1)) (lv' := [(3, .int (nI (i + 1))), (0, .ref (ad 0)), (1, .int (nI a)), (2, .int (nI b))]) S.1 S.2.1 dX10_mayTrade_28 hl (k := 3) rfl (by first | exact nI_1 _ | exact nI_add _ _ | rfl) (by decide) rfl (fun ls hl => ?_)
        refine lv_goto (tgt := 2) S.1 S.2.1 dX10_mayTrade_31 (by decide) ?_
        have hw := aw_arr hw 9 rfl (fa_fill (fun m => swF (tu m) a b) td (i + 1)) (fun _ _ => by rw [← fa_fill_succ])
        have hw : bW G A s.heap [[(ad 0, .inr (9, [.ref (ad 1), .ref (ad 2), .ref (ad 3), .ref (ad 4), .ref (ad 5), .ref (ad 6), .ref (ad 7), .int fl]))], [(ad 2, .inr (0, [.ref (ad 8), .ref (ad 9), .ref (ad 10), .ref (ad 11), .ref (ad 12), .int (nI n), .int lw]))], [(ad 3, .inr (3, [.ref (ad 2), .ref (ad 13), .ref (ad 14), .int la, .int ub]))], [(ad 13, .inl (gI G, 6, .inl wh))], [(ad 14, .inl (gI G, 6, .inl wk))], [(ad 8, .inl (gL G, 6, .inr (.inr (.inr (.inr sg)))))], fam n sa (slE kd sk br), [(ad 9, .inl (gI G, 12, .inl tu))], [(ad 10, .inl (gI G, 12, .inl wa))], [(ad 7, .inl (gI G, 12, .inl (fa_fill (fun m => swF (tu m) a b) td (i + 1))))]] H locs := hw
        exact ih2 (i + 1) (by first | assumption | omega) (by omega) _ _ _ (lv_sub hl [1, 2, 3, 0] rfl) hw
  exact loop2 _ 0 (by first | assumption | omega) (Nat.lt_succ_self _) _ _ _ (lv_sub hl [1, 2, 3, 0] rfl) hw
set_option maxRecDepth 100000 in
set_option maxHeartbeats 4000000 in
theorem c_X10_trades (l : Launch) (G : aw_G) (ad : Nat → Nat) (fl : Int32) (n : Nat) (lw : Int32) (sg : Nat → Option Nat) (sa : Nat → Nat) (kd sk br : Nat → Int32) (la ub : Int32) (wh wk tu wa : Nat → Int32) (td : Nat → Int32) (kv : Int32) (hn : n ≤ 6) (hsg : ∀ i, i < n → sg i = some (sa i)) : CT l G yX10_trades wsX10_trades ({ frames := 7, cells := 0, slots := 0, locals := 152 }) [.ref (ad 0), .int kv] [[(ad 0, .inr (9, [.ref (ad 1), .ref (ad 2), .ref (ad 3), .ref (ad 4), .ref (ad 5), .ref (ad 6), .ref (ad 7), .int fl]))], [(ad 2, .inr (0, [.ref (ad 8), .ref (ad 9), .ref (ad 10), .ref (ad 11), .ref (ad 12), .int (nI n), .int lw]))], [(ad 3, .inr (3, [.ref (ad 2), .ref (ad 13), .ref (ad 14), .int la, .int ub]))], [(ad 13, .inl (gI G, 6, .inl wh))], [(ad 14, .inl (gI G, 6, .inl wk))], [(ad 8, .inl (gL G, 6, .inr (.inr (.inr (.inr sg)))))], fam n sa (slE kd sk br), [(ad 9, .inl (gI G, 12, .inl tu))], [(ad 10, .inl (gI G, 12, .inl wa))], [(ad 7, .inl (gI G, 12, .inl td))]] (fun v w => v = some (.int (f_trades n (mtF n lw sk (fun j => hoK (kd j)) br tu wa) kv)) ∧ ∃ (la ub : Int32) (wh wk : Nat → Int32) (td : Nat → Int32), w = [[(ad 0, .inr (9, [.ref (ad 1), .ref (ad 2), .ref (ad 3), .ref (ad 4), .ref (ad 5), .ref (ad 6), .ref (ad 7), .int fl]))], [(ad 2, .inr (0, [.ref (ad 8), .ref (ad 9), .ref (ad 10), .ref (ad 11), .ref (ad 12), .int (nI n), .int lw]))], [(ad 3, .inr (3, [.ref (ad 2), .ref (ad 13), .ref (ad 14), .int la, .int ub]))], [(ad 13, .inl (gI G, 6, .inl wh))], [(ad 14, .inl (gI G, 6, .inl wk))], [(ad 8, .inl (gL G, 6, .inr (.inr (.inr (.inr sg)))))], fam n sa (slE kd sk br), [(ad 9, .inl (gI G, 12, .inl tu))], [(ad 10, .inl (gI G, 12, .inl wa))], [(ad 7, .inl (gI G, 12, .inl td))]]) := by
  refine CT.of (cc := cX10_trades) (nL := 5) (ret := (some .int)) (by decide) rfl (Nat.le_of_ble_eq_true rfl) ?_
  intro p e s m below meth c R args Q A hRm ha hQ hAe hA S hE hr hlk hnm H locs hH0 hL0 ls hl hw
  have S : CallFix p m c cX10_trades 5 s args wsX10_trades RX10 := S
  have hl : lv_has ls 5 [(0, .ref (ad 0)), (1, .int kv)] := hl
  have hinX10 : ∀ w ∈ u_ws RX10 TX10 8, w ∈ wsX10_trades := by decide +kernel
  have hf21 := S.2.2.2.2 (.fieldLink RX10 21 "AwakeTurns" "crew" "LAwakeTurns$Crew;") (by decide +kernel)
  have hinX0 : ∀ w ∈ u_ws RX0 TX0 7, w ∈ wsX10_trades := by decide +kernel
  have hf98 := S.2.2.2.2 (.fieldLink RX10 98 "AwakeTurns$Crew" "count" "I") (by decide +kernel)
  refine lv_iload_n S.1 S.2.1 dX10_trades_0 rfl (lv_at hl 1 rfl) ?_
  refine lv_iconst (v := (-1)) S.1 S.2.1 dX10_trades_1 (by decide) ?_
  refine lv_icmp_ge (tgt := 7) S.1 S.2.1 dX10_trades_2 (by decide) (fun c2 => ?_) (fun c2 => ?_)
  · have c2 : ¬ kv < -1 := by rw [fa_lt]; rw [fa_le] at c2; omega
    refine lv_aload_n S.1 S.2.1 dX10_trades_7 rfl (lv_at hl 0 rfl) ?_
    refine aw_callV S hE (c_X10_noShip l G ad fl n lw (by first | assumption | omega)) gX10_trades_X10_noShip (n := 0) rfl (by decide +kernel) rfl (by rw [hRm]; exact ⟨Nat.le_of_ble_eq_true rfl, Nat.le_of_ble_eq_true rfl⟩) (by rw [hRm]; exact ⟨Nat.le_of_ble_eq_true rfl, Nat.le_of_ble_eq_true rfl⟩) hw hA hl.1 [0, 1] rfl rfl (aw_recv (i := 0) hE hw rfl rfl rfl) rfl (Nat.le_of_ble_eq_true rfl) dX10_trades_8 ?_
    rintro v w1 H locs ⟨rfl, rfl⟩ hw
    have hw : bW G A s.heap [[(ad 0, .inr (9, [.ref (ad 1), .ref (ad 2), .ref (ad 3), .ref (ad 4), .ref (ad 5), .ref (ad 6), .ref (ad 7), .int fl]))], [(ad 2, .inr (0, [.ref (ad 8), .ref (ad 9), .ref (ad 10), .ref (ad 11), .ref (ad 12), .int (nI n), .int lw]))], [(ad 3, .inr (3, [.ref (ad 2), .ref (ad 13), .ref (ad 14), .int la, .int ub]))], [(ad 13, .inl (gI G, 6, .inl wh))], [(ad 14, .inl (gI G, 6, .inl wk))], [(ad 8, .inl (gL G, 6, .inr (.inr (.inr (.inr sg)))))], fam n sa (slE kd sk br), [(ad 9, .inl (gI G, 12, .inl tu))], [(ad 10, .inl (gI G, 12, .inl wa))], [(ad 7, .inl (gI G, 12, .inl td))]] H locs := hw
    refine W.eq (g2 := (F0 m 11 ls [.int (if n = 0 then 1 else 0)])) rfl ?_
    refine aw_ifeq (P := n = 0) (tgt := 17) S dX10_trades_11 (by decide) (fun c11 => ?_) (fun c11 => ?_)
    · refine lv_iconst (v := 0) S.1 S.2.1 dX10_trades_17 (by decide) ?_
      refine lv_istore_n (lv' := [(2, .int 0), (0, .ref (ad 0)), (1, .int kv)]) S.1 S.2.1 dX10_trades_18 rfl hl (by decide) rfl (fun ls hl => ?_)
      refine lv_iconst (v := 0) S.1 S.2.1 dX10_trades_19 (by decide) ?_
      refine lv_istore_n (lv' := [(3, .int 0), (2, .int 0), (0, .ref (ad 0)), (1, .int kv)]) S.1 S.2.1 dX10_trades_20 rfl hl (by decide) rfl (fun ls hl => ?_)
      have loop21 : ∀ (fu : Nat) (a : Nat) (la1 : Int32) (ub1 : Int32) (wh1 : Nat → Int32) (wk1 : Nat → Int32) (td1 : Nat → Int32), (a ≤ n) → (∀ q, q < 6 * a → (fun q => trP n (mtF n lw sk (fun j => hoK (kd j)) br tu wa) q && decide (nI (ct (trP n (mtF n lw sk (fun j => hoK (kd j)) br tu wa)) q) = kv)) q = false) → (n - a) < fu → ∀ (ls : Array Slot) (H : Heap) (locs : List Loc), lv_has ls 5 [(0, .ref (ad 0)), (1, .int kv), (2, .int (nI (ct (trP n (mtF n lw sk (fun j => hoK (kd j)) br tu wa)) (6 * a)))), (3, .int (nI a))] → bW G A s.heap [[(ad 0, .inr (9, [.ref (ad 1), .ref (ad 2), .ref (ad 3), .ref (ad 4), .ref (ad 5), .ref (ad 6), .ref (ad 7), .int fl]))], [(ad 2, .inr (0, [.ref (ad 8), .ref (ad 9), .ref (ad 10), .ref (ad 11), .ref (ad 12), .int (nI n), .int lw]))], [(ad 3, .inr (3, [.ref (ad 2), .ref (ad 13), .ref (ad 14), .int la1, .int ub1]))], [(ad 13, .inl (gI G, 6, .inl wh1))], [(ad 14, .inl (gI G, 6, .inl wk1))], [(ad 8, .inl (gL G, 6, .inr (.inr (.inr (.inr sg)))))], fam n sa (slE kd sk br), [(ad 9, .inl (gI G, 12, .inl tu))], [(ad 10, .inl (gI G, 12, .inl wa))], [(ad 7, .inl (gI G, 12, .inl td1))]] H locs → W p l e R s m args below meth c H locs 0 0 Q (F0 m 21 ls []) := by
        intro fu
        induction fu with
        | zero => intro a la1 ub1 wh1 wk1 td1 _ _ hm; exact absurd hm (Nat.not_lt_zero _)
        | succ fu ih21 =>
          intro a la1 ub1 wh1 wk1 td1 ha_ hp hm ls H locs hl hw
          refine lv_iload_n S.1 S.2.1 dX10_trades_21 rfl (lv_at hl 3 rfl) ?_
          refine lv_aload_n S.1 S.2.1 dX10_trades_22 rfl (lv_at hl 0 rfl) ?_
          refine aw_get S hE hw 0 (C := RX10) (T := TX10) (N := 8) rfl rfl hinX10 1 (by decide) hf21 rfl dX10_trades_23 ?_
          refine aw_get S hE hw 1 (C := RX0) (T := TX0) (N := 7) rfl rfl hinX0 5 (by decide) hf98 rfl dX10_trades_26 ?_
          refine aw_icmpN_ge (x := a) (y := n) (tgt := 87) S (by omega) (by omega) dX10_trades_29 (by decide) (fun c29 => ?_) (fun c29 => ?_)
          · have ex_a : a = n := by omega
            have hct : ct (trP n (mtF n lw sk (fun j => hoK (kd j)) br tu wa)) 36 = ct (trP n (mtF n lw sk (fun j => hoK (kd j)) br tu wa)) (6 * a) := ct_skip (by omega) (fun q h1 h2 => trP_end (by omega) h2)
            have hno : fF (fun q => trP n (mtF n lw sk (fun j => hoK (kd j)) br tu wa) q && decide (nI (ct (trP n (mtF n lw sk (fun j => hoK (kd j)) br tu wa)) q) = kv)) 36 = 36 := fF_none (fun q hq => (Nat.lt_or_ge q (6 * a)).elim (fun h => hp q h) (fun h => by show (trP n (mtF n lw sk (fun j => hoK (kd j)) br tu wa) q && _) = false; rw [trP_end (by omega) hq, Bool.false_and]))
            refine lv_iload_n S.1 S.2.1 dX10_trades_87 rfl (lv_at hl 1 rfl) ?_
            refine lv_iconst (v := (-1)) S.1 S.2.1 dX10_trades_88 (by decide) ?_
            refine lv_icmp_ne (tgt := 96) S.1 S.2.1 dX10_trades_89 (by decide) (fun c89 => ?_) (fun c89 => ?_)
            · refine lv_bipush (v := (-9)) S.1 S.2.1 dX10_trades_96 (by decide) ?_
              refine aw_eqi (show ((-9) : Int32) = f_trades n (mtF n lw sk (fun j => hoK (kd j)) br tu wa) kv from (by rw [f_trades, if_neg c2, if_neg c11, trF]; first | rw [if_pos c89, hct] | (rw [if_neg c89, hno]; rfl))) ?_
              exact aw_iret S hr hlk ha hQ hAe hw dX10_trades_98 rfl (Nat.le_of_ble_eq_true rfl) (Nat.le_of_ble_eq_true rfl) ⟨rfl, _, _, _, _, _, rfl⟩
            · refine lv_iload_n S.1 S.2.1 dX10_trades_92 rfl (lv_at hl 2 rfl) ?_
              refine lv_goto (tgt := 98) S.1 S.2.1 dX10_trades_93 (by decide) ?_
              refine aw_eqi (show (nI (ct (trP n (mtF n lw sk (fun j => hoK (kd j)) br tu wa)) (6 * a)) : Int32) = f_trades n (mtF n lw sk (fun j => hoK (kd j)) br tu wa) kv from (by rw [f_trades, if_neg c2, if_neg c11, trF]; first | rw [if_pos c89, hct] | (rw [if_neg c89, hno]; rfl))) ?_
              exact aw_iret S hr hlk ha hQ hAe hw dX10_trades_98 rfl (Nat.le_of_ble_eq_true rfl) (Nat.le_of_ble_eq_true rfl) ⟨rfl, _, _, _, _, _, rfl⟩
          · refine lv_iload_n S.1 S.2.1 dX10_trades_32 rfl (lv_at hl 3 rfl) ?_
            refine lv_iconst (v := 1) S.1 S.2.1 dX10_trades_33 (by decide) ?_
            refine lv_iadd S.1 S.2.1 dX10_trades_34 ?_
            refine aw_eqi (show ((nI a) + 1 : Int32) = nI (a + 1) from (nI_add a 1)) ?_
            refine lv_istore (lv' := [(4, .int (nI (a + 1))), (0, .ref (ad 0)), (1, .int kv), (2, .int (nI (ct (trP n (mtF n lw sk (fun j => hoK (kd j)) br tu wa)) (6 * a)))), (3, .int (nI a))]) S.1 S.2.1 dX10_trades_35 hl (by decide) rfl (fun ls hl => ?_)
            have hl := Eq.mp (congrArg (fun z_ : Int32 => lv_has ls 5 [(4, .int (nI (a + 1))), (0, .ref (ad 0)), (1, .int kv), (2, .int z_), (3, .int (nI a))]) (show (nI (ct (trP n (mtF n lw sk (fun j => hoK (kd j)) br tu wa)) (6 * a)) : Int32) = nI (ct (trP n (mtF n lw sk (fun j => hoK (kd j)) br tu wa)) (6 * a + (a + 1))) from (congrArg nI (ct_skip (by omega) (fun q h1 h2 => trP_lo h1 h2 (by omega))).symm))) hl
            have hl : lv_has ls 5 [(4, .int (nI (a + 1))), (0, .ref (ad 0)), (1, .int kv), (2, .int (nI (ct (trP n (mtF n lw sk (fun j => hoK (kd j)) br tu wa)) (6 * a + (a + 1))))), (3, .int (nI a))] := hl
            have loop37 : ∀ (fu : Nat) (b : Nat) (la1b : Int32) (ub1b : Int32) (wh1b : Nat → Int32) (wk1b : Nat → Int32) (td1b : Nat → Int32), (a < b ∧ b ≤ n) → (∀ q, q < 6 * a + b → (fun q => trP n (mtF n lw sk (fun j => hoK (kd j)) br tu wa) q && decide (nI (ct (trP n (mtF n lw sk (fun j => hoK (kd j)) br tu wa)) q) = kv)) q = false) → (n - b) < fu → ∀ (ls : Array Slot) (H : Heap) (locs : List Loc), lv_has ls 5 [(0, .ref (ad 0)), (1, .int kv), (2, .int (nI (ct (trP n (mtF n lw sk (fun j => hoK (kd j)) br tu wa)) (6 * a + b)))), (3, .int (nI a)), (4, .int (nI b))] → bW G A s.heap [[(ad 0, .inr (9, [.ref (ad 1), .ref (ad 2), .ref (ad 3), .ref (ad 4), .ref (ad 5), .ref (ad 6), .ref (ad 7), .int fl]))], [(ad 2, .inr (0, [.ref (ad 8), .ref (ad 9), .ref (ad 10), .ref (ad 11), .ref (ad 12), .int (nI n), .int lw]))], [(ad 3, .inr (3, [.ref (ad 2), .ref (ad 13), .ref (ad 14), .int la1b, .int ub1b]))], [(ad 13, .inl (gI G, 6, .inl wh1b))], [(ad 14, .inl (gI G, 6, .inl wk1b))], [(ad 8, .inl (gL G, 6, .inr (.inr (.inr (.inr sg)))))], fam n sa (slE kd sk br), [(ad 9, .inl (gI G, 12, .inl tu))], [(ad 10, .inl (gI G, 12, .inl wa))], [(ad 7, .inl (gI G, 12, .inl td1b))]] H locs → W p l e R s m args below meth c H locs 0 0 Q (F0 m 37 ls []) := by
              intro fu
              induction fu with
              | zero => intro b la1b ub1b wh1b wk1b td1b _ _ hm; exact absurd hm (Nat.not_lt_zero _)
              | succ fu ih37 =>
                intro b la1b ub1b wh1b wk1b td1b hb_ hp2 hm ls H locs hl hw
                refine lv_iload S.1 S.2.1 dX10_trades_37 (lv_at hl 4 rfl) ?_
                refine lv_aload_n S.1 S.2.1 dX10_trades_39 rfl (lv_at hl 0 rfl) ?_
                refine aw_get S hE hw 0 (C := RX10) (T := TX10) (N := 8) rfl rfl hinX10 1 (by decide) hf21 rfl dX10_trades_40 ?_
                refine aw_get S hE hw 1 (C := RX0) (T := TX0) (N := 7) rfl rfl hinX0 5 (by decide) hf98 rfl dX10_trades_43 ?_
                refine aw_icmpN_ge (x := b) (y := n) (tgt := 81) S (by omega) (by omega) dX10_trades_46 (by decide) (fun c46 => ?_) (fun c46 => ?_)
                · have ex_b : b = n := by omega
                  rw [ex_b] at hp2
                  have hcc := ct_skip (p := trP n (mtF n lw sk (fun j => hoK (kd j)) br tu wa)) (a := 6 * a + n) (b := 6 * (a + 1)) (by omega) (fun q h1 h2 => trP_hi h1 h2)
                  have hl := Eq.mp (congrArg (fun z_ : Int32 => lv_has ls 5 [(0, .ref (ad 0)), (1, .int kv), (2, .int z_), (3, .int (nI a)), (4, .int (nI b))]) (show (nI (ct (trP n (mtF n lw sk (fun j => hoK (kd j)) br tu wa)) (6 * a + b)) : Int32) = nI (ct (trP n (mtF n lw sk (fun j => hoK (kd j)) br tu wa)) (6 * (a + 1))) from (by rw [hcc, ex_b]))) hl
                  have hl : lv_has ls 5 [(0, .ref (ad 0)), (1, .int kv), (2, .int (nI (ct (trP n (mtF n lw sk (fun j => hoK (kd j)) br tu wa)) (6 * (a + 1))))), (3, .int (nI a)), (4, .int (nI b))] := hl
                  refine lv_iinc (v := nI (a + 1)) (lv' := [(3, .int (nI (a + 1))), (0, .ref (ad 0)), (1, .int kv), (2, .int (nI (ct (trP n (mtF n lw sk (fun j => hoK (kd j)) br tu wa)) (6 * (a + 1))))), (4, .int (nI b))]) S.1 S.2.1 dX10_trades_81 hl (k := 3) rfl (by first | exact nI_1 _ | exact nI_add _ _ | rfl) (by decide) rfl (fun ls hl => ?_)
                  refine lv_goto (tgt := 21) S.1 S.2.1 dX10_trades_84 (by decide) ?_
                  exact ih21 (a + 1) la1b ub1b wh1b wk1b td1b (by first | assumption | omega) (fun q hq => (Nat.lt_or_ge q (6 * a + n)).elim (fun h => hp2 q h) (fun h => by show (trP n (mtF n lw sk (fun j => hoK (kd j)) br tu wa) q && _) = false; rw [trP_hi h hq, Bool.false_and])) (by omega) _ _ _ (lv_sub hl [1, 2, 3, 0] rfl) hw
                · refine lv_aload_n S.1 S.2.1 dX10_trades_49 rfl (lv_at hl 0 rfl) ?_
                  refine lv_iload_n S.1 S.2.1 dX10_trades_50 rfl (lv_at hl 3 rfl) ?_
                  refine lv_iload S.1 S.2.1 dX10_trades_51 (lv_at hl 4 rfl) ?_
                  refine aw_callV S hE (c_X10_mayTrade l G ad fl n lw sg sa kd sk br la1b ub1b wh1b wk1b tu wa td1b a b (by first | assumption | omega) (by first | assumption | omega) (by first | assumption | omega) (by first | assumption | omega)) gX10_trades_X10_mayTrade (n := 2) rfl (by decide +kernel) rfl (by rw [hRm]; exact ⟨Nat.le_of_ble_eq_true rfl, Nat.le_of_ble_eq_true rfl⟩) (by rw [hRm]; exact ⟨Nat.le_of_ble_eq_true rfl, Nat.le_of_ble_eq_true rfl⟩) hw hA hl.1 [0, 1, 2, 3, 4, 5, 6, 7, 8, 9] rfl rfl (aw_recv (i := 0) hE hw rfl rfl rfl) rfl (Nat.le_of_ble_eq_true rfl) dX10_trades_53 ?_
                  rintro v w1 H locs ⟨rfl, la2, ub2, wh2, wk2, td2, rfl⟩ hw
                  have hw : bW G A s.heap [[(ad 0, .inr (9, [.ref (ad 1), .ref (ad 2), .ref (ad 3), .ref (ad 4), .ref (ad 5), .ref (ad 6), .ref (ad 7), .int fl]))], [(ad 2, .inr (0, [.ref (ad 8), .ref (ad 9), .ref (ad 10), .ref (ad 11), .ref (ad 12), .int (nI n), .int lw]))], [(ad 3, .inr (3, [.ref (ad 2), .ref (ad 13), .ref (ad 14), .int la2, .int ub2]))], [(ad 13, .inl (gI G, 6, .inl wh2))], [(ad 14, .inl (gI G, 6, .inl wk2))], [(ad 8, .inl (gL G, 6, .inr (.inr (.inr (.inr sg)))))], fam n sa (slE kd sk br), [(ad 9, .inl (gI G, 12, .inl tu))], [(ad 10, .inl (gI G, 12, .inl wa))], [(ad 7, .inl (gI G, 12, .inl td2))]] H locs := hw
                  refine W.eq (g2 := (F0 m 56 ls [.int (if mtF n lw sk (fun j => hoK (kd j)) br tu wa a b = true then 1 else 0)])) rfl ?_
                  refine aw_ifeq (P := mtF n lw sk (fun j => hoK (kd j)) br tu wa a b = true) (tgt := 75) S dX10_trades_56 (by decide) (fun c56 => ?_) (fun c56 => ?_)
                  · have htr : trP n (mtF n lw sk (fun j => hoK (kd j)) br tu wa) (6 * a + b) = false := by rw [trP_at hb_.1 (by omega) hn]; exact Bool.not_eq_true _ ▸ c56
                    have hz : (fun q => trP n (mtF n lw sk (fun j => hoK (kd j)) br tu wa) q && decide (nI (ct (trP n (mtF n lw sk (fun j => hoK (kd j)) br tu wa)) q) = kv)) (6 * a + b) = false := by show (trP n (mtF n lw sk (fun j => hoK (kd j)) br tu wa) (6 * a + b) && _) = false; rw [htr, Bool.false_and]
                    have hl := Eq.mp (congrArg (fun z_ : Int32 => lv_has ls 5 [(0, .ref (ad 0)), (1, .int kv), (2, .int z_), (3, .int (nI a)), (4, .int (nI b))]) (show (nI (ct (trP n (mtF n lw sk (fun j => hoK (kd j)) br tu wa)) (6 * a + b)) : Int32) = nI (ct (trP n (mtF n lw sk (fun j => hoK (kd j)) br tu wa)) (6 * a + (b + 1))) from (congrArg nI (show ct (trP n (mtF n lw sk (fun j => hoK (kd j)) br tu wa)) (6 * a + b) = ct (trP n (mtF n lw sk (fun j => hoK (kd j)) br tu wa)) (6 * a + b) + (if trP n (mtF n lw sk (fun j => hoK (kd j)) br tu wa) (6 * a + b) = true then 1 else 0) by rw [htr]; rfl)))) hl
                    have hl : lv_has ls 5 [(0, .ref (ad 0)), (1, .int kv), (2, .int (nI (ct (trP n (mtF n lw sk (fun j => hoK (kd j)) br tu wa)) (6 * a + (b + 1))))), (3, .int (nI a)), (4, .int (nI b))] := hl
                    refine lv_iinc (v := nI (b + 1)) (lv' := [(4, .int (nI (b + 1))), (0, .ref (ad 0)), (1, .int kv), (2, .int (nI (ct (trP n (mtF n lw sk (fun j => hoK (kd j)) br tu wa)) (6 * a + (b + 1))))), (3, .int (nI a))]) S.1 S.2.1 dX10_trades_75 hl (k := 4) rfl (by first | exact nI_1 _ | exact nI_add _ _ | rfl) (by decide) rfl (fun ls hl => ?_)
                    refine lv_goto (tgt := 37) S.1 S.2.1 dX10_trades_78 (by decide) ?_
                    exact ih37 (b + 1) la2 ub2 wh2 wk2 td2 (by omega) (lt_s hp2 hz) (by omega) _ _ _ (lv_sub hl [1, 2, 3, 4, 0] rfl) hw
                  · have htr : trP n (mtF n lw sk (fun j => hoK (kd j)) br tu wa) (6 * a + b) = true := by rw [trP_at hb_.1 (by omega) hn]; exact c56
                    refine lv_iload_n S.1 S.2.1 dX10_trades_59 rfl (lv_at hl 2 rfl) ?_
                    refine lv_iload_n S.1 S.2.1 dX10_trades_60 rfl (lv_at hl 1 rfl) ?_
                    refine lv_icmp_ne (tgt := 72) S.1 S.2.1 dX10_trades_61 (by decide) (fun c61 => ?_) (fun c61 => ?_)
                    · have hz : (fun q => trP n (mtF n lw sk (fun j => hoK (kd j)) br tu wa) q && decide (nI (ct (trP n (mtF n lw sk (fun j => hoK (kd j)) br tu wa)) q) = kv)) (6 * a + b) = false := by show (trP n (mtF n lw sk (fun j => hoK (kd j)) br tu wa) (6 * a + b) && decide (nI (ct (trP n (mtF n lw sk (fun j => hoK (kd j)) br tu wa)) (6 * a + b)) = kv)) = false; rw [decide_eq_false c61, Bool.and_false]
                      refine lv_iinc (v := nI (ct (trP n (mtF n lw sk (fun j => hoK (kd j)) br tu wa)) (6 * a + (b + 1)))) (lv' := [(2, .int (nI (ct (trP n (mtF n lw sk (fun j => hoK (kd j)) br tu wa)) (6 * a + (b + 1))))), (0, .ref (ad 0)), (1, .int kv), (3, .int (nI a)), (4, .int (nI b))]) S.1 S.2.1 dX10_trades_72 hl (k := 2) rfl (by first | exact (nI_1 _).trans (congrArg nI (show ct (trP n (mtF n lw sk (fun j => hoK (kd j)) br tu wa)) (6 * a + b) + 1 = ct (trP n (mtF n lw sk (fun j => hoK (kd j)) br tu wa)) (6 * a + b) + (if trP n (mtF n lw sk (fun j => hoK (kd j)) br tu wa) (6 * a + b) = true then 1 else 0) by rw [htr]; rfl))) (by decide) rfl (fun ls hl => ?_)
                      refine lv_iinc (v := nI (b + 1)) (lv' := [(4, .int (nI (b + 1))), (2, .int (nI (ct (trP n (mtF n lw sk (fun j => hoK (kd j)) br tu wa)) (6 * a + (b + 1))))), (0, .ref (ad 0)), (1, .int kv), (3, .int (nI a))]) S.1 S.2.1 dX10_trades_75 hl (k := 4) rfl (by first | exact nI_1 _ | exact nI_add _ _ | rfl) (by decide) rfl (fun ls hl => ?_)
                      refine lv_goto (tgt := 37) S.1 S.2.1 dX10_trades_78 (by decide) ?_
                      exact ih37 (b + 1) la2 ub2 wh2 wk2 td2 (by omega) (lt_s hp2 hz) (by omega) _ _ _ (lv_sub hl [2, 3, 1, 4, 0] rfl) hw
                    · have hk : fF (fun q => trP n (mtF n lw sk (fun j => hoK (kd j)) br tu wa) q && decide (nI (ct (trP n (mtF n lw sk (fun j => hoK (kd j)) br tu wa)) q) = kv)) 36 = 6 * a + b := fF_is (by omega) (by show (trP n (mtF n lw sk (fun j => hoK (kd j)) br tu wa) (6 * a + b) && decide (nI (ct (trP n (mtF n lw sk (fun j => hoK (kd j)) br tu wa)) (6 * a + b)) = kv)) = true; rw [htr, decide_eq_true c61]; rfl) hp2
                      refine lv_bipush (v := 10) S.1 S.2.1 dX10_trades_64 (by decide) ?_
                      refine lv_iload_n S.1 S.2.1 dX10_trades_66 rfl (lv_at hl 3 rfl) ?_
                      refine lv_imul S.1 S.2.1 dX10_trades_67 ?_
                      refine aw_eqi (show (10 * (nI a) : Int32) = nI (10 * a) from (pk_mul 10 a)) ?_
                      refine lv_iload S.1 S.2.1 dX10_trades_68 (lv_at hl 4 rfl) ?_
                      refine lv_iadd S.1 S.2.1 dX10_trades_70 ?_
                      refine aw_eqi (show ((nI (10 * a)) + (nI b) : Int32) = nI ((10 * a) + b) from (nI_add (10 * a) b)) ?_
                      refine aw_eqi (show (nI ((10 * a) + b) : Int32) = f_trades n (mtF n lw sk (fun j => hoK (kd j)) br tu wa) kv from (by rw [f_trades, if_neg c2, if_neg c11, trF, hk, if_neg (show ¬ kv = -1 from fun q => by rw [q, fa_eq, nI_toInt (by have := ct_le (trP n (mtF n lw sk (fun j => hoK (kd j)) br tu wa)) (6 * a + b); omega), li_m1] at c61; omega), if_pos (by omega)]; exact congrArg nI (by omega))) ?_
                      exact aw_iret S hr hlk ha hQ hAe hw dX10_trades_71 rfl (Nat.le_of_ble_eq_true rfl) (Nat.le_of_ble_eq_true rfl) ⟨rfl, _, _, _, _, _, rfl⟩
            exact loop37 _ (a + 1) la1 ub1 wh1 wk1 td1 (by omega) (fun q hq => (Nat.lt_or_ge q (6 * a)).elim (fun h => hp q h) (fun h => by show (trP n (mtF n lw sk (fun j => hoK (kd j)) br tu wa) q && _) = false; rw [trP_lo h hq (by omega), Bool.false_and])) (Nat.lt_succ_self _) _ _ _ (lv_sub hl [1, 2, 3, 4, 0] rfl) hw
      exact loop21 _ 0 la ub wh wk td (by first | assumption | omega) (fun j hj => absurd hj (Nat.not_lt_zero j)) (Nat.lt_succ_self _) _ _ _ (lv_sub hl [2, 3, 1, 0] rfl) hw
    · refine lv_bipush (v := (-3)) S.1 S.2.1 dX10_trades_14 (by decide) ?_
      refine aw_eqi (show ((-3) : Int32) = f_trades n (mtF n lw sk (fun j => hoK (kd j)) br tu wa) kv from (by rw [f_trades, if_neg c2, if_pos c11])) ?_
      exact aw_iret S hr hlk ha hQ hAe hw dX10_trades_16 rfl (Nat.le_of_ble_eq_true rfl) (Nat.le_of_ble_eq_true rfl) ⟨rfl, _, _, _, _, _, rfl⟩
  · have c2 : kv < -1 := by rw [fa_lt]; rw [fa_le] at c2; omega
    refine lv_iconst (v := (-1)) S.1 S.2.1 dX10_trades_5 (by decide) ?_
    refine aw_eqi (show ((-1) : Int32) = f_trades n (mtF n lw sk (fun j => hoK (kd j)) br tu wa) kv from (by rw [f_trades, if_pos c2])) ?_
    exact aw_iret S hr hlk ha hQ hAe hw dX10_trades_6 rfl (Nat.le_of_ble_eq_true rfl) (Nat.le_of_ble_eq_true rfl) ⟨rfl, _, _, _, _, _, rfl⟩
set_option maxRecDepth 100000 in
set_option maxHeartbeats 4000000 in
theorem c_X10_waysThatGoWell (l : Launch) (G : aw_G) (ad : Nat → Nat) (fl : Int32) (n : Nat) (lw : Int32) (sg : Nat → Option Nat) (sa : Nat → Nat) (kd sk br : Nat → Int32) (la ub : Int32) (wh wk tu wa : Nat → Int32) (td : Nat → Int32) (mo : Nat) (hn : n ≤ 6) (hsg : ∀ i, i < n → sg i = some (sa i)) (hmo : mo < 12) : CT l G yX10_waysThatGoWell wsX10_waysThatGoWell ({ frames := 6, cells := 0, slots := 0, locals := 129 }) [.ref (ad 0), .int (nI mo)] [[(ad 0, .inr (9, [.ref (ad 1), .ref (ad 2), .ref (ad 3), .ref (ad 4), .ref (ad 5), .ref (ad 6), .ref (ad 7), .int fl]))], [(ad 2, .inr (0, [.ref (ad 8), .ref (ad 9), .ref (ad 10), .ref (ad 11), .ref (ad 12), .int (nI n), .int lw]))], [(ad 3, .inr (3, [.ref (ad 2), .ref (ad 13), .ref (ad 14), .int la, .int ub]))], [(ad 13, .inl (gI G, 6, .inl wh))], [(ad 14, .inl (gI G, 6, .inl wk))], [(ad 8, .inl (gL G, 6, .inr (.inr (.inr (.inr sg)))))], fam n sa (slE kd sk br), [(ad 9, .inl (gI G, 12, .inl tu))], [(ad 10, .inl (gI G, 12, .inl wa))], [(ad 7, .inl (gI G, 12, .inl td))]] (fun v w => v = some (.int (nI (ct ((wyP n lw sk (fun j => hoK (kd j)) br tu wa) mo) (2 ^ n)))) ∧ ∃ (la ub : Int32) (wh wk : Nat → Int32) (td : Nat → Int32), w = [[(ad 0, .inr (9, [.ref (ad 1), .ref (ad 2), .ref (ad 3), .ref (ad 4), .ref (ad 5), .ref (ad 6), .ref (ad 7), .int fl]))], [(ad 2, .inr (0, [.ref (ad 8), .ref (ad 9), .ref (ad 10), .ref (ad 11), .ref (ad 12), .int (nI n), .int lw]))], [(ad 3, .inr (3, [.ref (ad 2), .ref (ad 13), .ref (ad 14), .int la, .int ub]))], [(ad 13, .inl (gI G, 6, .inl wh))], [(ad 14, .inl (gI G, 6, .inl wk))], [(ad 8, .inl (gL G, 6, .inr (.inr (.inr (.inr sg)))))], fam n sa (slE kd sk br), [(ad 9, .inl (gI G, 12, .inl tu))], [(ad 10, .inl (gI G, 12, .inl wa))], [(ad 7, .inl (gI G, 12, .inl td))]]) := by
  refine CT.of (cc := cX10_waysThatGoWell) (nL := 5) (ret := (some .int)) (by decide) rfl (Nat.le_of_ble_eq_true rfl) ?_
  intro p e s m below meth c R args Q A hRm ha hQ hAe hA S hE hr hlk hnm H locs hH0 hL0 ls hl hw
  have S : CallFix p m c cX10_waysThatGoWell 5 s args wsX10_waysThatGoWell RX10 := S
  have hl : lv_has ls 5 [(0, .ref (ad 0)), (1, .int (nI mo))] := hl
  have hinX10 : ∀ w ∈ u_ws RX10 TX10 8, w ∈ wsX10_waysThatGoWell := by decide +kernel
  have hf21 := S.2.2.2.2 (.fieldLink RX10 21 "AwakeTurns" "crew" "LAwakeTurns$Crew;") (by decide +kernel)
  have hf30 := S.2.2.2.2 (.fieldLink RX10 30 "AwakeTurns" "walk" "LAwakeTurns$MonthWalk;") (by decide +kernel)
  have hf55 := S.2.2.2.2 (.fieldLink RX10 55 "AwakeTurns" "tried" "[I") (by decide +kernel)
  have hinX0 : ∀ w ∈ u_ws RX0 TX0 7, w ∈ wsX10_waysThatGoWell := by decide +kernel
  have hf126 := S.2.2.2.2 (.fieldLink RX10 126 "AwakeTurns$Crew" "turns" "[I") (by decide +kernel)
  have hp6 := pow6' hn
  refine lv_iconst (v := 0) S.1 S.2.1 dX10_waysThatGoWell_0 (by decide) ?_
  refine lv_istore_n (lv' := [(2, .int 0), (0, .ref (ad 0)), (1, .int (nI mo))]) S.1 S.2.1 dX10_waysThatGoWell_1 rfl hl (by decide) rfl (fun ls hl => ?_)
  refine lv_iconst (v := 0) S.1 S.2.1 dX10_waysThatGoWell_2 (by decide) ?_
  refine lv_istore_n (lv' := [(3, .int 0), (2, .int 0), (0, .ref (ad 0)), (1, .int (nI mo))]) S.1 S.2.1 dX10_waysThatGoWell_3 rfl hl (by decide) rfl (fun ls hl => ?_)
  have loop4 : ∀ (fu : Nat) (w : Nat) (la1 : Int32) (ub1 : Int32) (wh1 : Nat → Int32) (wk1 : Nat → Int32) (td1 : Nat → Int32), (w ≤ 2 ^ n) → (2 ^ n - w) < fu → ∀ (ls : Array Slot) (H : Heap) (locs : List Loc), lv_has ls 5 [(0, .ref (ad 0)), (1, .int (nI mo)), (2, .int (nI (ct ((wyP n lw sk (fun j => hoK (kd j)) br tu wa) mo) w))), (3, .int (nI w))] → bW G A s.heap [[(ad 0, .inr (9, [.ref (ad 1), .ref (ad 2), .ref (ad 3), .ref (ad 4), .ref (ad 5), .ref (ad 6), .ref (ad 7), .int fl]))], [(ad 2, .inr (0, [.ref (ad 8), .ref (ad 9), .ref (ad 10), .ref (ad 11), .ref (ad 12), .int (nI n), .int lw]))], [(ad 3, .inr (3, [.ref (ad 2), .ref (ad 13), .ref (ad 14), .int la1, .int ub1]))], [(ad 13, .inl (gI G, 6, .inl wh1))], [(ad 14, .inl (gI G, 6, .inl wk1))], [(ad 8, .inl (gL G, 6, .inr (.inr (.inr (.inr sg)))))], fam n sa (slE kd sk br), [(ad 9, .inl (gI G, 12, .inl tu))], [(ad 10, .inl (gI G, 12, .inl wa))], [(ad 7, .inl (gI G, 12, .inl td1))]] H locs → W p l e R s m args below meth c H locs 0 0 Q (F0 m 4 ls []) := by
    intro fu
    induction fu with
    | zero => intro w la1 ub1 wh1 wk1 td1 _ hm; exact absurd hm (Nat.not_lt_zero _)
    | succ fu ih4 =>
      intro w la1 ub1 wh1 wk1 td1 hw_ hm ls H locs hl hw
      refine lv_iload_n S.1 S.2.1 dX10_waysThatGoWell_4 rfl (lv_at hl 3 rfl) ?_
      refine lv_aload_n S.1 S.2.1 dX10_waysThatGoWell_5 rfl (lv_at hl 0 rfl) ?_
      refine aw_get S hE hw 0 (C := RX10) (T := TX10) (N := 8) rfl rfl hinX10 1 (by decide) hf21 rfl dX10_waysThatGoWell_6 ?_
      refine aw_callV S hE (c_X0_setCount l G ad n lw (by first | assumption | omega)) gX10_waysThatGoWell_X0_setCount (n := 0) rfl (by decide +kernel) rfl (by rw [hRm]; exact ⟨Nat.le_of_ble_eq_true rfl, Nat.le_of_ble_eq_true rfl⟩) (by rw [hRm]; exact ⟨Nat.le_of_ble_eq_true rfl, Nat.le_of_ble_eq_true rfl⟩) hw hA hl.1 [1] rfl rfl (aw_recv (i := 1) hE hw rfl rfl rfl) rfl (Nat.le_of_ble_eq_true rfl) dX10_waysThatGoWell_9 ?_
      rintro v w1 H locs ⟨rfl, rfl⟩ hw
      have hw : bW G A s.heap [[(ad 0, .inr (9, [.ref (ad 1), .ref (ad 2), .ref (ad 3), .ref (ad 4), .ref (ad 5), .ref (ad 6), .ref (ad 7), .int fl]))], [(ad 2, .inr (0, [.ref (ad 8), .ref (ad 9), .ref (ad 10), .ref (ad 11), .ref (ad 12), .int (nI n), .int lw]))], [(ad 3, .inr (3, [.ref (ad 2), .ref (ad 13), .ref (ad 14), .int la1, .int ub1]))], [(ad 13, .inl (gI G, 6, .inl wh1))], [(ad 14, .inl (gI G, 6, .inl wk1))], [(ad 8, .inl (gL G, 6, .inr (.inr (.inr (.inr sg)))))], fam n sa (slE kd sk br), [(ad 9, .inl (gI G, 12, .inl tu))], [(ad 10, .inl (gI G, 12, .inl wa))], [(ad 7, .inl (gI G, 12, .inl td1))]] H locs := hw
      refine W.eq (g2 := (F0 m 12 ls [.int (nI (2 ^ n)), .int (nI w)])) rfl ?_
      refine aw_icmpN_ge (x := w) (y := 2 ^ n) (tgt := 79) S (by omega) (by omega) dX10_waysThatGoWell_12 (by decide) (fun c12 => ?_) (fun c12 => ?_)
      · have ex_w : w = 2 ^ n := by omega
        try rw [ex_w] at hl
        try rw [ex_w] at hw
        refine lv_iload_n S.1 S.2.1 dX10_waysThatGoWell_79 rfl (lv_at hl 2 rfl) ?_
        exact aw_iret S hr hlk ha hQ hAe hw dX10_waysThatGoWell_80 rfl (Nat.le_of_ble_eq_true rfl) (Nat.le_of_ble_eq_true rfl) ⟨rfl, _, _, _, _, _, rfl⟩
      · refine lv_iconst (v := 0) S.1 S.2.1 dX10_waysThatGoWell_15 (by decide) ?_
        refine lv_istore (lv' := [(4, .int 0), (0, .ref (ad 0)), (1, .int (nI mo)), (2, .int (nI (ct ((wyP n lw sk (fun j => hoK (kd j)) br tu wa) mo) w))), (3, .int (nI w))]) S.1 S.2.1 dX10_waysThatGoWell_16 hl (by decide) rfl (fun ls hl => ?_)
        have hw := aw_arr hw 9 rfl (fa_fill (fun m => tu m &&& nI w) td1 0) (fun _ _ => by rw [fa_fill_0])
        have hw : bW G A s.heap [[(ad 0, .inr (9, [.ref (ad 1), .ref (ad 2), .ref (ad 3), .ref (ad 4), .ref (ad 5), .ref (ad 6), .ref (ad 7), .int fl]))], [(ad 2, .inr (0, [.ref (ad 8), .ref (ad 9), .ref (ad 10), .ref (ad 11), .ref (ad 12), .int (nI n), .int lw]))], [(ad 3, .inr (3, [.ref (ad 2), .ref (ad 13), .ref (ad 14), .int la1, .int ub1]))], [(ad 13, .inl (gI G, 6, .inl wh1))], [(ad 14, .inl (gI G, 6, .inl wk1))], [(ad 8, .inl (gL G, 6, .inr (.inr (.inr (.inr sg)))))], fam n sa (slE kd sk br), [(ad 9, .inl (gI G, 12, .inl tu))], [(ad 10, .inl (gI G, 12, .inl wa))], [(ad 7, .inl (gI G, 12, .inl (fa_fill (fun m => tu m &&& nI w) td1 0)))]] H locs := hw
        have loop18 : ∀ (fu : Nat) (i : Nat), (i ≤ mo + 1) → (mo + 1 - i) < fu → ∀ (ls : Array Slot) (H : Heap) (locs : List Loc), lv_has ls 5 [(0, .ref (ad 0)), (1, .int (nI mo)), (2, .int (nI (ct ((wyP n lw sk (fun j => hoK (kd j)) br tu wa) mo) w))), (3, .int (nI w)), (4, .int (nI i))] → bW G A s.heap [[(ad 0, .inr (9, [.ref (ad 1), .ref (ad 2), .ref (ad 3), .ref (ad 4), .ref (ad 5), .ref (ad 6), .ref (ad 7), .int fl]))], [(ad 2, .inr (0, [.ref (ad 8), .ref (ad 9), .ref (ad 10), .ref (ad 11), .ref (ad 12), .int (nI n), .int lw]))], [(ad 3, .inr (3, [.ref (ad 2), .ref (ad 13), .ref (ad 14), .int la1, .int ub1]))], [(ad 13, .inl (gI G, 6, .inl wh1))], [(ad 14, .inl (gI G, 6, .inl wk1))], [(ad 8, .inl (gL G, 6, .inr (.inr (.inr (.inr sg)))))], fam n sa (slE kd sk br), [(ad 9, .inl (gI G, 12, .inl tu))], [(ad 10, .inl (gI G, 12, .inl wa))], [(ad 7, .inl (gI G, 12, .inl (fa_fill (fun m => tu m &&& nI w) td1 i)))]] H locs → W p l e R s m args below meth c H locs 0 0 Q (F0 m 18 ls []) := by
          intro fu
          induction fu with
          | zero => intro i _ hm; exact absurd hm (Nat.not_lt_zero _)
          | succ fu ih18 =>
            intro i hi hm ls H locs hl hw
            refine lv_iload S.1 S.2.1 dX10_waysThatGoWell_18 (lv_at hl 4 rfl) ?_
            refine lv_iload_n S.1 S.2.1 dX10_waysThatGoWell_20 rfl (lv_at hl 1 rfl) ?_
            refine aw_icmpN_gt (x := i) (y := mo) (tgt := 49) S (by omega) (by omega) dX10_waysThatGoWell_21 (by decide) (fun c21 => ?_) (fun c21 => ?_)
            · have ex_i : i = mo + 1 := by omega
              try rw [ex_i] at hl
              try rw [ex_i] at hw
              have hcg : fwF n lw sk (fun j => hoK (kd j)) br (fa_fill (fun m => tu m &&& nI w) td1 (mo + 1)) wa (mo + 1) true false = fwF n lw sk (fun j => hoK (kd j)) br (fun m => tu m &&& nI w) wa (mo + 1) true false := fwF_cong (fun j hj => fa_fill_in hj)
              refine lv_aload_n S.1 S.2.1 dX10_waysThatGoWell_49 rfl (lv_at hl 0 rfl) ?_
              refine aw_get S hE hw 0 (C := RX10) (T := TX10) (N := 8) rfl rfl hinX10 2 (by decide) hf30 rfl dX10_waysThatGoWell_50 ?_
              refine lv_aload_n S.1 S.2.1 dX10_waysThatGoWell_53 rfl (lv_at hl 0 rfl) ?_
              refine aw_get S hE hw 0 (C := RX10) (T := TX10) (N := 8) rfl rfl hinX10 6 (by decide) hf55 rfl dX10_waysThatGoWell_54 ?_
              refine lv_iload_n S.1 S.2.1 dX10_waysThatGoWell_57 rfl (lv_at hl 1 rfl) ?_
              refine lv_iconst (v := 1) S.1 S.2.1 dX10_waysThatGoWell_58 (by decide) ?_
              refine lv_iadd S.1 S.2.1 dX10_waysThatGoWell_59 ?_
              refine aw_eqi (show ((nI mo) + 1 : Int32) = nI (mo + 1) from (nI_add mo 1)) ?_
              refine lv_iconst (v := 1) S.1 S.2.1 dX10_waysThatGoWell_60 (by decide) ?_
              refine lv_iconst (v := 0) S.1 S.2.1 dX10_waysThatGoWell_61 (by decide) ?_
              refine aw_callV S hE (c_X3_firstWrong l G ad n lw sg sa kd sk br la1 ub1 wh1 wk1 (ad 7) (fa_fill (fun m => tu m &&& nI w) td1 (mo + 1)) wa (mo + 1) true false (by first | assumption | omega) (by first | assumption | omega) (by first | assumption | omega)) gX10_waysThatGoWell_X3_firstWrong (n := 4) rfl (by decide +kernel) rfl (by rw [hRm]; exact ⟨Nat.le_of_ble_eq_true rfl, Nat.le_of_ble_eq_true rfl⟩) (by rw [hRm]; exact ⟨Nat.le_of_ble_eq_true rfl, Nat.le_of_ble_eq_true rfl⟩) hw hA hl.1 [2, 3, 4, 1, 5, 6, 9, 8] rfl rfl (aw_recv (i := 2) hE hw rfl rfl rfl) rfl (Nat.le_of_ble_eq_true rfl) dX10_waysThatGoWell_62 ?_
              rintro v w1 H locs ⟨rfl, rfl⟩ hw
              have hw : bW G A s.heap [[(ad 0, .inr (9, [.ref (ad 1), .ref (ad 2), .ref (ad 3), .ref (ad 4), .ref (ad 5), .ref (ad 6), .ref (ad 7), .int fl]))], [(ad 2, .inr (0, [.ref (ad 8), .ref (ad 9), .ref (ad 10), .ref (ad 11), .ref (ad 12), .int (nI n), .int lw]))], [(ad 3, .inr (3, [.ref (ad 2), .ref (ad 13), .ref (ad 14), .int (laB n lw sk (fa_fill (fun m => tu m &&& nI w) td1 (mo + 1)) wa (min (fwF n lw sk (fun j => hoK (kd j)) br (fa_fill (fun m => tu m &&& nI w) td1 (mo + 1)) wa (mo + 1) true false + 1) (mo + 1))), .int (uB (fa_fill (fun m => tu m &&& nI w) td1 (mo + 1)) (min (fwF n lw sk (fun j => hoK (kd j)) br (fa_fill (fun m => tu m &&& nI w) td1 (mo + 1)) wa (mo + 1) true false + 1) (mo + 1)))]))], [(ad 13, .inl (gI G, 6, .inl (fa_fill (hB n (fun j => hoK (kd j)) (fa_fill (fun m => tu m &&& nI w) td1 (mo + 1)) (min (fwF n lw sk (fun j => hoK (kd j)) br (fa_fill (fun m => tu m &&& nI w) td1 (mo + 1)) wa (mo + 1) true false + 1) (mo + 1))) wh1 n)))], [(ad 14, .inl (gI G, 6, .inl (fa_fill (kA n lw sk (fa_fill (fun m => tu m &&& nI w) td1 (mo + 1)) ((min (fwF n lw sk (fun j => hoK (kd j)) br (fa_fill (fun m => tu m &&& nI w) td1 (mo + 1)) wa (mo + 1) true false + 1) (mo + 1)) - 1)) wk1 n)))], [(ad 8, .inl (gL G, 6, .inr (.inr (.inr (.inr sg)))))], fam n sa (slE kd sk br), [(ad 9, .inl (gI G, 12, .inl tu))], [(ad 10, .inl (gI G, 12, .inl wa))], [(ad 7, .inl (gI G, 12, .inl (fa_fill (fun m => tu m &&& nI w) td1 (mo + 1))))]] H locs := hw
              refine W.eq (g2 := (F0 m 65 ls [.int (noI (fwF n lw sk (fun j => hoK (kd j)) br (fa_fill (fun m => tu m &&& nI w) td1 (mo + 1)) wa (mo + 1) true false) (mo + 1))])) rfl ?_
              refine lv_bipush (v := (-9)) S.1 S.2.1 dX10_waysThatGoWell_65 (by decide) ?_
              refine lv_icmp_ne (tgt := 73) S.1 S.2.1 dX10_waysThatGoWell_67 (by decide) (fun c67 => ?_) (fun c67 => ?_)
              · have hwy : (wyP n lw sk (fun j => hoK (kd j)) br tu wa) mo w = false := decide_eq_false (fun q => c67 ((noI_none (by omega)).mpr (by rw [hcg, q]; omega)))
                have hl := Eq.mp (congrArg (fun z_ : Int32 => lv_has ls 5 [(0, .ref (ad 0)), (1, .int (nI mo)), (2, .int z_), (3, .int (nI w)), (4, .int (nI (mo + 1)))]) (show (nI (ct ((wyP n lw sk (fun j => hoK (kd j)) br tu wa) mo) w) : Int32) = nI (ct ((wyP n lw sk (fun j => hoK (kd j)) br tu wa) mo) (w + 1)) from (congrArg nI (show ct ((wyP n lw sk (fun j => hoK (kd j)) br tu wa) mo) w = ct ((wyP n lw sk (fun j => hoK (kd j)) br tu wa) mo) w + (if (wyP n lw sk (fun j => hoK (kd j)) br tu wa) mo w = true then 1 else 0) by rw [hwy]; rfl)))) hl
                have hl : lv_has ls 5 [(0, .ref (ad 0)), (1, .int (nI mo)), (2, .int (nI (ct ((wyP n lw sk (fun j => hoK (kd j)) br tu wa) mo) (w + 1)))), (3, .int (nI w)), (4, .int (nI (mo + 1)))] := hl
                refine lv_iinc (v := nI (w + 1)) (lv' := [(3, .int (nI (w + 1))), (0, .ref (ad 0)), (1, .int (nI mo)), (2, .int (nI (ct ((wyP n lw sk (fun j => hoK (kd j)) br tu wa) mo) (w + 1)))), (4, .int (nI (mo + 1)))]) S.1 S.2.1 dX10_waysThatGoWell_73 hl (k := 3) rfl (by first | exact nI_1 _ | exact nI_add _ _ | rfl) (by decide) rfl (fun ls hl => ?_)
                refine lv_goto (tgt := 4) S.1 S.2.1 dX10_waysThatGoWell_76 (by decide) ?_
                exact ih4 (w + 1) (laB n lw sk (fa_fill (fun m => tu m &&& nI w) td1 (mo + 1)) wa (min (fwF n lw sk (fun j => hoK (kd j)) br (fa_fill (fun m => tu m &&& nI w) td1 (mo + 1)) wa (mo + 1) true false + 1) (mo + 1))) (uB (fa_fill (fun m => tu m &&& nI w) td1 (mo + 1)) (min (fwF n lw sk (fun j => hoK (kd j)) br (fa_fill (fun m => tu m &&& nI w) td1 (mo + 1)) wa (mo + 1) true false + 1) (mo + 1))) (fa_fill (hB n (fun j => hoK (kd j)) (fa_fill (fun m => tu m &&& nI w) td1 (mo + 1)) (min (fwF n lw sk (fun j => hoK (kd j)) br (fa_fill (fun m => tu m &&& nI w) td1 (mo + 1)) wa (mo + 1) true false + 1) (mo + 1))) wh1 n) (fa_fill (kA n lw sk (fa_fill (fun m => tu m &&& nI w) td1 (mo + 1)) ((min (fwF n lw sk (fun j => hoK (kd j)) br (fa_fill (fun m => tu m &&& nI w) td1 (mo + 1)) wa (mo + 1) true false + 1) (mo + 1)) - 1)) wk1 n) (fa_fill (fun m => tu m &&& nI w) td1 (mo + 1)) (by first | assumption | omega) (by omega) _ _ _ (lv_sub hl [1, 2, 3, 0] rfl) hw
              · have hwy : (wyP n lw sk (fun j => hoK (kd j)) br tu wa) mo w = true := decide_eq_true (by have q := (noI_none (by omega)).mp c67; rw [hcg] at q; exact Nat.le_antisymm fwF_le (Nat.not_lt.mp q))
                refine lv_iinc (v := nI (ct ((wyP n lw sk (fun j => hoK (kd j)) br tu wa) mo) (w + 1))) (lv' := [(2, .int (nI (ct ((wyP n lw sk (fun j => hoK (kd j)) br tu wa) mo) (w + 1)))), (0, .ref (ad 0)), (1, .int (nI mo)), (3, .int (nI w)), (4, .int (nI (mo + 1)))]) S.1 S.2.1 dX10_waysThatGoWell_70 hl (k := 2) rfl ((nI_1 _).trans (congrArg nI (show ct ((wyP n lw sk (fun j => hoK (kd j)) br tu wa) mo) w + 1 = ct ((wyP n lw sk (fun j => hoK (kd j)) br tu wa) mo) w + (if (wyP n lw sk (fun j => hoK (kd j)) br tu wa) mo w = true then 1 else 0) by rw [hwy]; rfl))) (by decide) rfl (fun ls hl => ?_)
                refine lv_iinc (v := nI (w + 1)) (lv' := [(3, .int (nI (w + 1))), (2, .int (nI (ct ((wyP n lw sk (fun j => hoK (kd j)) br tu wa) mo) (w + 1)))), (0, .ref (ad 0)), (1, .int (nI mo)), (4, .int (nI (mo + 1)))]) S.1 S.2.1 dX10_waysThatGoWell_73 hl (k := 3) rfl (by first | exact nI_1 _ | exact nI_add _ _ | rfl) (by decide) rfl (fun ls hl => ?_)
                refine lv_goto (tgt := 4) S.1 S.2.1 dX10_waysThatGoWell_76 (by decide) ?_
                exact ih4 (w + 1) (laB n lw sk (fa_fill (fun m => tu m &&& nI w) td1 (mo + 1)) wa (min (fwF n lw sk (fun j => hoK (kd j)) br (fa_fill (fun m => tu m &&& nI w) td1 (mo + 1)) wa (mo + 1) true false + 1) (mo + 1))) (uB (fa_fill (fun m => tu m &&& nI w) td1 (mo + 1)) (min (fwF n lw sk (fun j => hoK (kd j)) br (fa_fill (fun m => tu m &&& nI w) td1 (mo + 1)) wa (mo + 1) true false + 1) (mo + 1))) (fa_fill (hB n (fun j => hoK (kd j)) (fa_fill (fun m => tu m &&& nI w) td1 (mo + 1)) (min (fwF n lw sk (fun j => hoK (kd j)) br (fa_fill (fun m => tu m &&& nI w) td1 (mo + 1)) wa (mo + 1) true false + 1) (mo + 1))) wh1 n) (fa_fill (kA n lw sk (fa_fill (fun m => tu m &&& nI w) td1 (mo + 1)) ((min (fwF n lw sk (fun j => hoK (kd j)) br (fa_fill (fun m => tu m &&& nI w) td1 (mo + 1)) wa (mo + 1) true false + 1) (mo + 1)) - 1)) wk1 n) (fa_fill (fun m => tu m &&& nI w) td1 (mo + 1)) (by first | assumption | omega) (by omega) _ _ _ (lv_sub hl [2, 3, 1, 0] rfl) hw
            · refine lv_aload_n S.1 S.2.1 dX10_waysThatGoWell_24 rfl (lv_at hl 0 rfl) ?_
              refine aw_get S hE hw 0 (C := RX10) (T := TX10) (N := 8) rfl rfl hinX10 6 (by decide) hf55 rfl dX10_waysThatGoWell_25 ?_
              refine lv_iload S.1 S.2.1 dX10_waysThatGoWell_28 (lv_at hl 4 rfl) ?_
              refine lv_aload_n S.1 S.2.1 dX10_waysThatGoWell_30 rfl (lv_at hl 0 rfl) ?_
              refine aw_get S hE hw 0 (C := RX10) (T := TX10) (N := 8) rfl rfl hinX10 1 (by decide) hf21 rfl dX10_waysThatGoWell_31 ?_
              refine aw_get S hE hw 1 (C := RX0) (T := TX0) (N := 7) rfl rfl hinX0 1 (by decide) hf126 rfl dX10_waysThatGoWell_34 ?_
              refine lv_iload S.1 S.2.1 dX10_waysThatGoWell_37 (lv_at hl 4 rfl) ?_
              refine aw_iald S hE hw 7 (k := i) rfl (by omega) (by decide) dX10_waysThatGoWell_39 ?_
              refine lv_iload_n S.1 S.2.1 dX10_waysThatGoWell_40 rfl (lv_at hl 3 rfl) ?_
              refine lv_iand S.1 S.2.1 dX10_waysThatGoWell_41 ?_
              refine aw_iast S hE hw 9 (k := i) rfl (by omega) (by decide) dX10_waysThatGoWell_42 (fun H locs hw => ?_)
              have hw : bW G A s.heap [[(ad 0, .inr (9, [.ref (ad 1), .ref (ad 2), .ref (ad 3), .ref (ad 4), .ref (ad 5), .ref (ad 6), .ref (ad 7), .int fl]))], [(ad 2, .inr (0, [.ref (ad 8), .ref (ad 9), .ref (ad 10), .ref (ad 11), .ref (ad 12), .int (nI n), .int lw]))], [(ad 3, .inr (3, [.ref (ad 2), .ref (ad 13), .ref (ad 14), .int la1, .int ub1]))], [(ad 13, .inl (gI G, 6, .inl wh1))], [(ad 14, .inl (gI G, 6, .inl wk1))], [(ad 8, .inl (gL G, 6, .inr (.inr (.inr (.inr sg)))))], fam n sa (slE kd sk br), [(ad 9, .inl (gI G, 12, .inl tu))], [(ad 10, .inl (gI G, 12, .inl wa))], [(ad 7, .inl (gI G, 12, .inl (upd (fa_fill (fun m => tu m &&& nI w) td1 i) i ((tu i) &&& (nI w)))))]] H locs := hw
              refine lv_iinc (v := nI (i + 1)) (lv' := [(4, .int (nI (i + 1))), (0, .ref (ad 0)), (1, .int (nI mo)), (2, .int (nI (ct ((wyP n lw sk (fun j => hoK (kd j)) br tu wa) mo) w))), (3, .int (nI w))]) S.1 S.2.1 dX10_waysThatGoWell_43 hl (k := 4) rfl (by first | exact nI_1 _ | exact nI_add _ _ | rfl) (by decide) rfl (fun ls hl => ?_)
              refine lv_goto (tgt := 18) S.1 S.2.1 dX10_waysThatGoWell_46 (by decide) ?_
              have hw := aw_arr hw 9 rfl (fa_fill (fun m => tu m &&& nI w) td1 (i + 1)) (fun _ _ => by rw [← fa_fill_succ])
              have hw : bW G A s.heap [[(ad 0, .inr (9, [.ref (ad 1), .ref (ad 2), .ref (ad 3), .ref (ad 4), .ref (ad 5), .ref (ad 6), .ref (ad 7), .int fl]))], [(ad 2, .inr (0, [.ref (ad 8), .ref (ad 9), .ref (ad 10), .ref (ad 11), .ref (ad 12), .int (nI n), .int lw]))], [(ad 3, .inr (3, [.ref (ad 2), .ref (ad 13), .ref (ad 14), .int la1, .int ub1]))], [(ad 13, .inl (gI G, 6, .inl wh1))], [(ad 14, .inl (gI G, 6, .inl wk1))], [(ad 8, .inl (gL G, 6, .inr (.inr (.inr (.inr sg)))))], fam n sa (slE kd sk br), [(ad 9, .inl (gI G, 12, .inl tu))], [(ad 10, .inl (gI G, 12, .inl wa))], [(ad 7, .inl (gI G, 12, .inl (fa_fill (fun m => tu m &&& nI w) td1 (i + 1))))]] H locs := hw
              exact ih18 (i + 1) (by first | assumption | omega) (by omega) _ _ _ (lv_sub hl [1, 2, 3, 4, 0] rfl) hw
        exact loop18 _ 0 (by first | assumption | omega) (Nat.lt_succ_self _) _ _ _ (lv_sub hl [1, 2, 3, 4, 0] rfl) hw
  exact loop4 _ 0 la ub wh wk td (Nat.zero_le _) (Nat.lt_succ_self _) _ _ _ (lv_sub hl [2, 3, 1, 0] rfl) hw
set_option maxRecDepth 100000 in
set_option maxHeartbeats 4000000 in
theorem c_X10_odds (l : Launch) (G : aw_G) (ad : Nat → Nat) (fl : Int32) (n : Nat) (lw : Int32) (sg : Nat → Option Nat) (sa : Nat → Nat) (kd sk br : Nat → Int32) (la ub : Int32) (wh wk tu wa : Nat → Int32) (td : Nat → Int32) (mo wt : Int32) (hn : n ≤ 6) (hsg : ∀ i, i < n → sg i = some (sa i)) : CT l G yX10_odds wsX10_odds ({ frames := 7, cells := 0, slots := 0, locals := 153 }) [.ref (ad 0), .int mo, .int wt] [[(ad 0, .inr (9, [.ref (ad 1), .ref (ad 2), .ref (ad 3), .ref (ad 4), .ref (ad 5), .ref (ad 6), .ref (ad 7), .int fl]))], [(ad 2, .inr (0, [.ref (ad 8), .ref (ad 9), .ref (ad 10), .ref (ad 11), .ref (ad 12), .int (nI n), .int lw]))], [(ad 3, .inr (3, [.ref (ad 2), .ref (ad 13), .ref (ad 14), .int la, .int ub]))], [(ad 13, .inl (gI G, 6, .inl wh))], [(ad 14, .inl (gI G, 6, .inl wk))], [(ad 8, .inl (gL G, 6, .inr (.inr (.inr (.inr sg)))))], fam n sa (slE kd sk br), [(ad 9, .inl (gI G, 12, .inl tu))], [(ad 10, .inl (gI G, 12, .inl wa))], [(ad 7, .inl (gI G, 12, .inl td))]] (fun v w => v = some (.long (f_odds n (wyP n lw sk (fun j => hoK (kd j)) br tu wa) mo wt)) ∧ ∃ (la ub : Int32) (wh wk : Nat → Int32) (td : Nat → Int32), w = [[(ad 0, .inr (9, [.ref (ad 1), .ref (ad 2), .ref (ad 3), .ref (ad 4), .ref (ad 5), .ref (ad 6), .ref (ad 7), .int fl]))], [(ad 2, .inr (0, [.ref (ad 8), .ref (ad 9), .ref (ad 10), .ref (ad 11), .ref (ad 12), .int (nI n), .int lw]))], [(ad 3, .inr (3, [.ref (ad 2), .ref (ad 13), .ref (ad 14), .int la, .int ub]))], [(ad 13, .inl (gI G, 6, .inl wh))], [(ad 14, .inl (gI G, 6, .inl wk))], [(ad 8, .inl (gL G, 6, .inr (.inr (.inr (.inr sg)))))], fam n sa (slE kd sk br), [(ad 9, .inl (gI G, 12, .inl tu))], [(ad 10, .inl (gI G, 12, .inl wa))], [(ad 7, .inl (gI G, 12, .inl td))]]) := by
  refine CT.of (cc := cX10_odds) (nL := 5) (ret := (some .long)) (by decide) rfl (Nat.le_of_ble_eq_true rfl) ?_
  intro p e s m below meth c R args Q A hRm ha hQ hAe hA S hE hr hlk hnm H locs hH0 hL0 ls hl hw
  have S : CallFix p m c cX10_odds 5 s args wsX10_odds RX10 := S
  have hl : lv_has ls 5 [(0, .ref (ad 0)), (1, .int mo), (2, .int wt)] := hl
  have hinX10 : ∀ w ∈ u_ws RX10 TX10 8, w ∈ wsX10_odds := by decide +kernel
  have hf21 := S.2.2.2.2 (.fieldLink RX10 21 "AwakeTurns" "crew" "LAwakeTurns$Crew;") (by decide +kernel)
  have hp6 := pow6' hn
  refine lv_iload_n S.1 S.2.1 dX10_odds_0 rfl (lv_at hl 1 rfl) ?_
  refine aw_callS S hE (c_X10_isMonth l G mo) gX10_odds_X10_isMonth (n := 1) rfl (by decide +kernel) rfl (by rw [hRm]; exact ⟨Nat.le_of_ble_eq_true rfl, Nat.le_of_ble_eq_true rfl⟩) (by rw [hRm]; exact ⟨Nat.le_of_ble_eq_true rfl, Nat.le_of_ble_eq_true rfl⟩) hw hA hl.1 [] rfl rfl rfl (Nat.le_of_ble_eq_true rfl) dX10_odds_1 ?_
  rintro v w1 H locs ⟨rfl, rfl⟩ hw
  have hw : bW G A s.heap [[(ad 0, .inr (9, [.ref (ad 1), .ref (ad 2), .ref (ad 3), .ref (ad 4), .ref (ad 5), .ref (ad 6), .ref (ad 7), .int fl]))], [(ad 2, .inr (0, [.ref (ad 8), .ref (ad 9), .ref (ad 10), .ref (ad 11), .ref (ad 12), .int (nI n), .int lw]))], [(ad 3, .inr (3, [.ref (ad 2), .ref (ad 13), .ref (ad 14), .int la, .int ub]))], [(ad 13, .inl (gI G, 6, .inl wh))], [(ad 14, .inl (gI G, 6, .inl wk))], [(ad 8, .inl (gL G, 6, .inr (.inr (.inr (.inr sg)))))], fam n sa (slE kd sk br), [(ad 9, .inl (gI G, 12, .inl tu))], [(ad 10, .inl (gI G, 12, .inl wa))], [(ad 7, .inl (gI G, 12, .inl td))]] H locs := hw
  refine W.eq (g2 := (F0 m 4 ls [.int (if 0 ≤ mo.toInt ∧ mo.toInt < 12 then 1 else 0)])) rfl ?_
  refine aw_ifeq (P := 0 ≤ mo.toInt ∧ mo.toInt < 12) (tgt := 23) S dX10_odds_4 (by decide) (fun c4 => ?_) (fun c4 => ?_)
  · refine lv_ldc2 (v := (-9223372036854775808)) S.1 S.2.1 S.2.2.2.1 (S.2.2.2.2 (.constantLong RX10 215 (-9223372036854775808)) (by decide +kernel)) dX10_odds_23 ?_
    refine aw_eql (show (-9223372036854775808 : Int64) = f_odds n (wyP n lw sk (fun j => hoK (kd j)) br tu wa) mo wt from (by rw [f_odds, if_neg (by omega)])) ?_
    exact aw_lret S hr hlk ha hQ hAe hw dX10_odds_26 (Nat.le_of_ble_eq_true rfl) (Nat.le_of_ble_eq_true rfl) ⟨rfl, _, _, _, _, _, rfl⟩
  · have hb_mo : tn mo < 12 := aw_tnL c4
    have hl := Eq.mp (congrArg (fun z_ : Int32 => lv_has ls 5 [(0, .ref (ad 0)), (1, .int z_), (2, .int wt)]) (show (mo : Int32) = nI (tn mo) from (aw_tnE c4))) hl
    have hl : lv_has ls 5 [(0, .ref (ad 0)), (1, .int (nI (tn mo))), (2, .int wt)] := hl
    refine lv_iload_n S.1 S.2.1 dX10_odds_7 rfl (lv_at hl 2 rfl) ?_
    refine lv_if_lt (tgt := 23) S.1 S.2.1 dX10_odds_8 (by decide) (fun c8 => ?_) (fun c8 => ?_)
    · rw [fa_lt, li_0] at c8
      refine lv_ldc2 (v := (-9223372036854775808)) S.1 S.2.1 S.2.2.2.1 (S.2.2.2.2 (.constantLong RX10 215 (-9223372036854775808)) (by decide +kernel)) dX10_odds_23 ?_
      refine aw_eql (show (-9223372036854775808 : Int64) = f_odds n (wyP n lw sk (fun j => hoK (kd j)) br tu wa) mo wt from (by rw [f_odds, if_neg (by omega)])) ?_
      exact aw_lret S hr hlk ha hQ hAe hw dX10_odds_26 (Nat.le_of_ble_eq_true rfl) (Nat.le_of_ble_eq_true rfl) ⟨rfl, _, _, _, _, _, rfl⟩
    · rw [fa_lt, li_0] at c8
      refine lv_iload_n S.1 S.2.1 dX10_odds_11 rfl (lv_at hl 2 rfl) ?_
      refine lv_iconst (v := 1) S.1 S.2.1 dX10_odds_12 (by decide) ?_
      refine lv_icmp_gt (tgt := 23) S.1 S.2.1 dX10_odds_13 (by decide) (fun c13 => ?_) (fun c13 => ?_)
      · rw [fa_lt, li_1] at c13
        refine lv_ldc2 (v := (-9223372036854775808)) S.1 S.2.1 S.2.2.2.1 (S.2.2.2.2 (.constantLong RX10 215 (-9223372036854775808)) (by decide +kernel)) dX10_odds_23 ?_
        refine aw_eql (show (-9223372036854775808 : Int64) = f_odds n (wyP n lw sk (fun j => hoK (kd j)) br tu wa) mo wt from (by rw [f_odds, if_neg (by omega)])) ?_
        exact aw_lret S hr hlk ha hQ hAe hw dX10_odds_26 (Nat.le_of_ble_eq_true rfl) (Nat.le_of_ble_eq_true rfl) ⟨rfl, _, _, _, _, _, rfl⟩
      · rw [fa_lt, li_1] at c13
        refine lv_aload_n S.1 S.2.1 dX10_odds_16 rfl (lv_at hl 0 rfl) ?_
        refine aw_callV S hE (c_X10_noShip l G ad fl n lw (by first | assumption | omega)) gX10_odds_X10_noShip (n := 0) rfl (by decide +kernel) rfl (by rw [hRm]; exact ⟨Nat.le_of_ble_eq_true rfl, Nat.le_of_ble_eq_true rfl⟩) (by rw [hRm]; exact ⟨Nat.le_of_ble_eq_true rfl, Nat.le_of_ble_eq_true rfl⟩) hw hA hl.1 [0, 1] rfl rfl (aw_recv (i := 0) hE hw rfl rfl rfl) rfl (Nat.le_of_ble_eq_true rfl) dX10_odds_17 ?_
        rintro v w1 H locs ⟨rfl, rfl⟩ hw
        have hw : bW G A s.heap [[(ad 0, .inr (9, [.ref (ad 1), .ref (ad 2), .ref (ad 3), .ref (ad 4), .ref (ad 5), .ref (ad 6), .ref (ad 7), .int fl]))], [(ad 2, .inr (0, [.ref (ad 8), .ref (ad 9), .ref (ad 10), .ref (ad 11), .ref (ad 12), .int (nI n), .int lw]))], [(ad 3, .inr (3, [.ref (ad 2), .ref (ad 13), .ref (ad 14), .int la, .int ub]))], [(ad 13, .inl (gI G, 6, .inl wh))], [(ad 14, .inl (gI G, 6, .inl wk))], [(ad 8, .inl (gL G, 6, .inr (.inr (.inr (.inr sg)))))], fam n sa (slE kd sk br), [(ad 9, .inl (gI G, 12, .inl tu))], [(ad 10, .inl (gI G, 12, .inl wa))], [(ad 7, .inl (gI G, 12, .inl td))]] H locs := hw
        refine W.eq (g2 := (F0 m 20 ls [.int (if n = 0 then 1 else 0)])) rfl ?_
        refine aw_ifeq (P := n = 0) (tgt := 27) S dX10_odds_20 (by decide) (fun c20 => ?_) (fun c20 => ?_)
        · refine lv_aload_n S.1 S.2.1 dX10_odds_27 rfl (lv_at hl 0 rfl) ?_
          refine lv_iload_n S.1 S.2.1 dX10_odds_28 rfl (lv_at hl 1 rfl) ?_
          refine aw_callV S hE (c_X10_waysThatGoWell l G ad fl n lw sg sa kd sk br la ub wh wk tu wa td (tn mo) (by first | assumption | omega) (by first | assumption | omega) (by first | assumption | omega)) gX10_odds_X10_waysThatGoWell (n := 1) rfl (by decide +kernel) rfl (by rw [hRm]; exact ⟨Nat.le_of_ble_eq_true rfl, Nat.le_of_ble_eq_true rfl⟩) (by rw [hRm]; exact ⟨Nat.le_of_ble_eq_true rfl, Nat.le_of_ble_eq_true rfl⟩) hw hA hl.1 [0, 1, 2, 3, 4, 5, 6, 7, 8, 9] rfl rfl (aw_recv (i := 0) hE hw rfl rfl rfl) rfl (Nat.le_of_ble_eq_true rfl) dX10_odds_29 ?_
          rintro v w1 H locs ⟨rfl, la2, ub2, wh2, wk2, td2, rfl⟩ hw
          have hw : bW G A s.heap [[(ad 0, .inr (9, [.ref (ad 1), .ref (ad 2), .ref (ad 3), .ref (ad 4), .ref (ad 5), .ref (ad 6), .ref (ad 7), .int fl]))], [(ad 2, .inr (0, [.ref (ad 8), .ref (ad 9), .ref (ad 10), .ref (ad 11), .ref (ad 12), .int (nI n), .int lw]))], [(ad 3, .inr (3, [.ref (ad 2), .ref (ad 13), .ref (ad 14), .int la2, .int ub2]))], [(ad 13, .inl (gI G, 6, .inl wh2))], [(ad 14, .inl (gI G, 6, .inl wk2))], [(ad 8, .inl (gL G, 6, .inr (.inr (.inr (.inr sg)))))], fam n sa (slE kd sk br), [(ad 9, .inl (gI G, 12, .inl tu))], [(ad 10, .inl (gI G, 12, .inl wa))], [(ad 7, .inl (gI G, 12, .inl td2))]] H locs := hw
          refine W.eq (g2 := (F0 m 32 ls [.int (nI (ct ((wyP n lw sk (fun j => hoK (kd j)) br tu wa) (tn mo)) (2 ^ n)))])) rfl ?_
          refine lv_istore_n (lv' := [(3, .int (nI (ct ((wyP n lw sk (fun j => hoK (kd j)) br tu wa) (tn mo)) (2 ^ n)))), (0, .ref (ad 0)), (1, .int (nI (tn mo))), (2, .int wt)]) S.1 S.2.1 dX10_odds_32 rfl hl (by decide) rfl (fun ls hl => ?_)
          refine lv_aload_n S.1 S.2.1 dX10_odds_33 rfl (lv_at hl 1 rfl) ?_
          refine aw_get S hE hw 0 (C := RX10) (T := TX10) (N := 8) rfl rfl hinX10 1 (by decide) hf21 rfl dX10_odds_34 ?_
          refine aw_callV S hE (c_X0_setCount l G ad n lw (by first | assumption | omega)) gX10_odds_X0_setCount (n := 0) rfl (by decide +kernel) rfl (by rw [hRm]; exact ⟨Nat.le_of_ble_eq_true rfl, Nat.le_of_ble_eq_true rfl⟩) (by rw [hRm]; exact ⟨Nat.le_of_ble_eq_true rfl, Nat.le_of_ble_eq_true rfl⟩) hw hA hl.1 [1] rfl rfl (aw_recv (i := 1) hE hw rfl rfl rfl) rfl (Nat.le_of_ble_eq_true rfl) dX10_odds_37 ?_
          rintro v w1 H locs ⟨rfl, rfl⟩ hw
          have hw : bW G A s.heap [[(ad 0, .inr (9, [.ref (ad 1), .ref (ad 2), .ref (ad 3), .ref (ad 4), .ref (ad 5), .ref (ad 6), .ref (ad 7), .int fl]))], [(ad 2, .inr (0, [.ref (ad 8), .ref (ad 9), .ref (ad 10), .ref (ad 11), .ref (ad 12), .int (nI n), .int lw]))], [(ad 3, .inr (3, [.ref (ad 2), .ref (ad 13), .ref (ad 14), .int la2, .int ub2]))], [(ad 13, .inl (gI G, 6, .inl wh2))], [(ad 14, .inl (gI G, 6, .inl wk2))], [(ad 8, .inl (gL G, 6, .inr (.inr (.inr (.inr sg)))))], fam n sa (slE kd sk br), [(ad 9, .inl (gI G, 12, .inl tu))], [(ad 10, .inl (gI G, 12, .inl wa))], [(ad 7, .inl (gI G, 12, .inl td2))]] H locs := hw
          refine W.eq (g2 := (F0 m 40 ls [.int (nI (2 ^ n))])) rfl ?_
          refine lv_istore (lv' := [(4, .int (nI (2 ^ n))), (3, .int (nI (ct ((wyP n lw sk (fun j => hoK (kd j)) br tu wa) (tn mo)) (2 ^ n)))), (0, .ref (ad 0)), (1, .int (nI (tn mo))), (2, .int wt)]) S.1 S.2.1 dX10_odds_40 hl (by decide) rfl (fun ls hl => ?_)
          have loop42 : ∀ (fu : Nat) (f_ : Nat) (u : Nat) (l_ : Nat), (l_ < 2 ^ f_) → (hv f_ u l_ = hv 7 (ct ((wyP n lw sk (fun j => hoK (kd j)) br tu wa) (tn mo)) (2 ^ n)) (2 ^ n)) → (u ≤ 64 ∧ l_ ≤ 64) → f_ < fu → ∀ (ls : Array Slot) (H : Heap) (locs : List Loc), lv_has ls 5 [(0, .ref (ad 0)), (1, .int (nI (tn mo))), (2, .int wt), (3, .int (nI u)), (4, .int (nI l_))] → bW G A s.heap [[(ad 0, .inr (9, [.ref (ad 1), .ref (ad 2), .ref (ad 3), .ref (ad 4), .ref (ad 5), .ref (ad 6), .ref (ad 7), .int fl]))], [(ad 2, .inr (0, [.ref (ad 8), .ref (ad 9), .ref (ad 10), .ref (ad 11), .ref (ad 12), .int (nI n), .int lw]))], [(ad 3, .inr (3, [.ref (ad 2), .ref (ad 13), .ref (ad 14), .int la2, .int ub2]))], [(ad 13, .inl (gI G, 6, .inl wh2))], [(ad 14, .inl (gI G, 6, .inl wk2))], [(ad 8, .inl (gL G, 6, .inr (.inr (.inr (.inr sg)))))], fam n sa (slE kd sk br), [(ad 9, .inl (gI G, 12, .inl tu))], [(ad 10, .inl (gI G, 12, .inl wa))], [(ad 7, .inl (gI G, 12, .inl td2))]] H locs → W p l e R s m args below meth c H locs 0 0 Q (F0 m 42 ls []) := by
            intro fu
            induction fu with
            | zero => intro f_ u l_ _ _ _ hm; exact absurd hm (Nat.not_lt_zero _)
            | succ fu ih42 =>
              intro f_ u l_ hl_ hr_ hu hm ls H locs hl hw
              refine lv_iload S.1 S.2.1 dX10_odds_42 (lv_at hl 4 rfl) ?_
              refine lv_iconst (v := 1) S.1 S.2.1 dX10_odds_44 (by decide) ?_
              refine aw_icmpN_le (x := l_) (y := 1) (tgt := 67) S (by omega) (by omega) dX10_odds_45 (by decide) (fun c45 => ?_) (fun c45 => ?_)
              · have hfin : (u, l_) = hv 7 (ct ((wyP n lw sk (fun j => hoK (kd j)) br tu wa) (tn mo)) (2 ^ n)) (2 ^ n) := by rw [← hr_]; cases f_ with | zero => rfl | succ f_ => rw [hv, if_neg (by omega)]
                refine lv_iload_n S.1 S.2.1 dX10_odds_67 rfl (lv_at hl 2 rfl) ?_
                refine lv_if_ne (tgt := 76) S.1 S.2.1 dX10_odds_68 (by decide) (fun c68 => ?_) (fun c68 => ?_)
                · refine lv_iload S.1 S.2.1 dX10_odds_76 (lv_at hl 4 rfl) ?_
                  refine lv_i2l S.1 S.2.1 dX10_odds_78 rfl ?_
                  refine aw_eql (show ((nI l_).toInt64 : Int64) = f_odds n (wyP n lw sk (fun j => hoK (kd j)) br tu wa) mo wt from (by rw [f_odds, if_pos (by omega)]; first | rw [if_pos c68, ← hfin] | rw [if_neg c68, ← hfin])) ?_
                  exact aw_lret S hr hlk ha hQ hAe hw dX10_odds_79 (Nat.le_of_ble_eq_true rfl) (Nat.le_of_ble_eq_true rfl) ⟨rfl, _, _, _, _, _, rfl⟩
                · refine lv_iload_n S.1 S.2.1 dX10_odds_71 rfl (lv_at hl 3 rfl) ?_
                  refine lv_i2l S.1 S.2.1 dX10_odds_72 rfl ?_
                  refine lv_goto (tgt := 79) S.1 S.2.1 dX10_odds_73 (by decide) ?_
                  refine aw_eql (show ((nI u).toInt64 : Int64) = f_odds n (wyP n lw sk (fun j => hoK (kd j)) br tu wa) mo wt from (by rw [f_odds, if_pos (by omega)]; first | rw [if_pos c68, ← hfin] | rw [if_neg c68, ← hfin])) ?_
                  exact aw_lret S hr hlk ha hQ hAe hw dX10_odds_79 (Nat.le_of_ble_eq_true rfl) (Nat.le_of_ble_eq_true rfl) ⟨rfl, _, _, _, _, _, rfl⟩
              · obtain ⟨g_, rfl⟩ : ∃ g_, f_ = g_ + 1 := ⟨f_ - 1, by rcases Nat.eq_zero_or_pos f_ with q | q; (rw [q] at hl_; omega); omega⟩
                refine lv_iload_n S.1 S.2.1 dX10_odds_48 rfl (lv_at hl 3 rfl) ?_
                refine lv_iconst (v := 2) S.1 S.2.1 dX10_odds_49 (by decide) ?_
                refine lv_irem S.1 S.2.1 dX10_odds_50 (by decide) ?_
                refine aw_eqi (show ((nI u) - (nI u) / 2 * 2 : Int32) = nI (u % 2) from (pk_rem (a := u) (d := 2) (by omega) (by omega) (by omega))) ?_
                refine aw_ifN_ne (x := u % 2) (tgt := 67) S (by omega) dX10_odds_51 (by decide) (fun c51 => ?_) (fun c51 => ?_)
                · have hfin : (u, l_) = hv 7 (ct ((wyP n lw sk (fun j => hoK (kd j)) br tu wa) (tn mo)) (2 ^ n)) (2 ^ n) := by rw [← hr_, hv, if_neg (by omega)]
                  refine lv_iload_n S.1 S.2.1 dX10_odds_67 rfl (lv_at hl 2 rfl) ?_
                  refine lv_if_ne (tgt := 76) S.1 S.2.1 dX10_odds_68 (by decide) (fun c68 => ?_) (fun c68 => ?_)
                  · refine lv_iload S.1 S.2.1 dX10_odds_76 (lv_at hl 4 rfl) ?_
                    refine lv_i2l S.1 S.2.1 dX10_odds_78 rfl ?_
                    refine aw_eql (show ((nI l_).toInt64 : Int64) = f_odds n (wyP n lw sk (fun j => hoK (kd j)) br tu wa) mo wt from (by rw [f_odds, if_pos (by omega)]; first | rw [if_pos c68, ← hfin] | rw [if_neg c68, ← hfin])) ?_
                    exact aw_lret S hr hlk ha hQ hAe hw dX10_odds_79 (Nat.le_of_ble_eq_true rfl) (Nat.le_of_ble_eq_true rfl) ⟨rfl, _, _, _, _, _, rfl⟩
                  · refine lv_iload_n S.1 S.2.1 dX10_odds_71 rfl (lv_at hl 3 rfl) ?_
                    refine lv_i2l S.1 S.2.1 dX10_odds_72 rfl ?_
                    refine lv_goto (tgt := 79) S.1 S.2.1 dX10_odds_73 (by decide) ?_
                    refine aw_eql (show ((nI u).toInt64 : Int64) = f_odds n (wyP n lw sk (fun j => hoK (kd j)) br tu wa) mo wt from (by rw [f_odds, if_pos (by omega)]; first | rw [if_pos c68, ← hfin] | rw [if_neg c68, ← hfin])) ?_
                    exact aw_lret S hr hlk ha hQ hAe hw dX10_odds_79 (Nat.le_of_ble_eq_true rfl) (Nat.le_of_ble_eq_true rfl) ⟨rfl, _, _, _, _, _, rfl⟩
                · have h2p : 2 ^ (g_ + 1) = 2 * 2 ^ g_ := by rw [Nat.pow_succ, Nat.mul_comm]
                  refine lv_iload_n S.1 S.2.1 dX10_odds_54 rfl (lv_at hl 3 rfl) ?_
                  refine lv_iconst (v := 2) S.1 S.2.1 dX10_odds_55 (by decide) ?_
                  refine lv_idiv S.1 S.2.1 dX10_odds_56 (by decide) ?_
                  refine aw_eqi (show ((nI u) / 2 : Int32) = nI (u / 2) from (pk_div (a := u) (d := 2) (by omega) (by omega) (by omega))) ?_
                  refine lv_istore_n (lv' := [(3, .int (nI (u / 2))), (0, .ref (ad 0)), (1, .int (nI (tn mo))), (2, .int wt), (4, .int (nI l_))]) S.1 S.2.1 dX10_odds_57 rfl hl (by decide) rfl (fun ls hl => ?_)
                  refine lv_iload S.1 S.2.1 dX10_odds_58 (lv_at hl 4 rfl) ?_
                  refine lv_iconst (v := 2) S.1 S.2.1 dX10_odds_60 (by decide) ?_
                  refine lv_idiv S.1 S.2.1 dX10_odds_61 (by decide) ?_
                  refine aw_eqi (show ((nI l_) / 2 : Int32) = nI (l_ / 2) from (pk_div (a := l_) (d := 2) (by omega) (by omega) (by omega))) ?_
                  refine lv_istore (lv' := [(4, .int (nI (l_ / 2))), (3, .int (nI (u / 2))), (0, .ref (ad 0)), (1, .int (nI (tn mo))), (2, .int wt)]) S.1 S.2.1 dX10_odds_62 hl (by decide) rfl (fun ls hl => ?_)
                  refine lv_goto (tgt := 42) S.1 S.2.1 dX10_odds_64 (by decide) ?_
                  exact ih42 g_ (u / 2) (l_ / 2) (by omega) (by rw [← hr_, hv, if_pos (by omega)]) (by omega) (by omega) _ _ _ (lv_sub hl [2, 3, 4, 1, 0] rfl) hw
          exact loop42 _ 7 (ct ((wyP n lw sk (fun j => hoK (kd j)) br tu wa) (tn mo)) (2 ^ n)) (2 ^ n) (by omega) rfl (by have := ct_le ((wyP n lw sk (fun j => hoK (kd j)) br tu wa) (tn mo)) (2 ^ n); omega) (Nat.lt_succ_self _) _ _ _ (lv_sub hl [2, 3, 4, 1, 0] rfl) hw
        · refine lv_ldc2 (v := (-9223372036854775808)) S.1 S.2.1 S.2.2.2.1 (S.2.2.2.2 (.constantLong RX10 215 (-9223372036854775808)) (by decide +kernel)) dX10_odds_23 ?_
          refine aw_eql (show (-9223372036854775808 : Int64) = f_odds n (wyP n lw sk (fun j => hoK (kd j)) br tu wa) mo wt from (by rw [f_odds, if_neg (by omega)])) ?_
          exact aw_lret S hr hlk ha hQ hAe hw dX10_odds_26 (Nat.le_of_ble_eq_true rfl) (Nat.le_of_ble_eq_true rfl) ⟨rfl, _, _, _, _, _, rfl⟩
set_option maxRecDepth 100000 in
set_option maxHeartbeats 4000000 in
theorem c_X10_began (l : Launch) (G : aw_G) (ad : Nat → Nat) (fl : Int32) (n : Nat) (lw : Int32) (nn nr : Nat) (nf nt ro rmo : Nat → Nat) (rb : Nat → Bool) (kn tu : Nat → Int32) (mo : Int32) (hn : n ≤ 6) (hnn : nn ≤ 8) (hnr : nr ≤ 8) (hnf : ∀ k, k < nn → nf k < 6) (hro : ∀ k, k < nr → ro k < 6) (hrm : ∀ k, k < nr → rmo k < 12) : CT l G yX10_began wsX10_began ({ frames := 3, cells := 0, slots := 0, locals := 70 }) [.ref (ad 0), .int mo] [[(ad 0, .inr (9, [.ref (ad 1), .ref (ad 2), .ref (ad 3), .ref (ad 4), .ref (ad 5), .ref (ad 6), .ref (ad 7), .int fl]))], [(ad 2, .inr (0, [.ref (ad 8), .ref (ad 9), .ref (ad 10), .ref (ad 11), .ref (ad 12), .int (nI n), .int lw]))], [(ad 5, .inr (4, [.ref (ad 16), .ref (ad 17), .ref (ad 18), .ref (ad 19), .ref (ad 20), .ref (ad 21), .int (nI nn), .int (nI nr)]))], [(ad 16, .inl (gI G, 8, .inl (fun k => nI (nf k))))], [(ad 17, .inl (gI G, 8, .inl (fun k => nI (nt k))))], [(ad 18, .inl (gI G, 8, .inl (fun k => nI (ro k))))], [(ad 19, .inl (gI G, 8, .inl (fun k => nI (rmo k))))], [(ad 20, .inl (gI G, 8, .inl (fun k => if rb k = true then 1 else 0)))], [(ad 21, .inl (gI G, 12, .inl kn))], [(ad 9, .inl (gI G, 12, .inl tu))]] (fun v w => v = some (.int (f_ms n mo (bgF (bgP nf nt nn tu ro rmo rb nr (tn mo)) n))) ∧ ∃ (kn : Nat → Int32), w = [[(ad 0, .inr (9, [.ref (ad 1), .ref (ad 2), .ref (ad 3), .ref (ad 4), .ref (ad 5), .ref (ad 6), .ref (ad 7), .int fl]))], [(ad 2, .inr (0, [.ref (ad 8), .ref (ad 9), .ref (ad 10), .ref (ad 11), .ref (ad 12), .int (nI n), .int lw]))], [(ad 5, .inr (4, [.ref (ad 16), .ref (ad 17), .ref (ad 18), .ref (ad 19), .ref (ad 20), .ref (ad 21), .int (nI nn), .int (nI nr)]))], [(ad 16, .inl (gI G, 8, .inl (fun k => nI (nf k))))], [(ad 17, .inl (gI G, 8, .inl (fun k => nI (nt k))))], [(ad 18, .inl (gI G, 8, .inl (fun k => nI (ro k))))], [(ad 19, .inl (gI G, 8, .inl (fun k => nI (rmo k))))], [(ad 20, .inl (gI G, 8, .inl (fun k => if rb k = true then 1 else 0)))], [(ad 21, .inl (gI G, 12, .inl kn))], [(ad 9, .inl (gI G, 12, .inl tu))]]) := by
  refine CT.of (cc := cX10_began) (nL := 4) (ret := (some .int)) (by decide) rfl (Nat.le_of_ble_eq_true rfl) ?_
  intro p e s m below meth c R args Q A hRm ha hQ hAe hA S hE hr hlk hnm H locs hH0 hL0 ls hl hw
  have S : CallFix p m c cX10_began 4 s args wsX10_began RX10 := S
  have hl : lv_has ls 4 [(0, .ref (ad 0)), (1, .int mo)] := hl
  have hinX10 : ∀ w ∈ u_ws RX10 TX10 8, w ∈ wsX10_began := by decide +kernel
  have hf21 := S.2.2.2.2 (.fieldLink RX10 21 "AwakeTurns" "crew" "LAwakeTurns$Crew;") (by decide +kernel)
  have hinX0 : ∀ w ∈ u_ws RX0 TX0 7, w ∈ wsX10_began := by decide +kernel
  have hf98 := S.2.2.2.2 (.fieldLink RX10 98 "AwakeTurns$Crew" "count" "I") (by decide +kernel)
  have hf44 := S.2.2.2.2 (.fieldLink RX10 44 "AwakeTurns" "news" "LAwakeTurns$News;") (by decide +kernel)
  have hf126 := S.2.2.2.2 (.fieldLink RX10 126 "AwakeTurns$Crew" "turns" "[I") (by decide +kernel)
  refine lv_iload_n S.1 S.2.1 dX10_began_0 rfl (lv_at hl 1 rfl) ?_
  refine aw_callS S hE (c_X10_isMonth l G mo) gX10_began_X10_isMonth (n := 1) rfl (by decide +kernel) rfl (by rw [hRm]; exact ⟨Nat.le_of_ble_eq_true rfl, Nat.le_of_ble_eq_true rfl⟩) (by rw [hRm]; exact ⟨Nat.le_of_ble_eq_true rfl, Nat.le_of_ble_eq_true rfl⟩) hw hA hl.1 [] rfl rfl rfl (Nat.le_of_ble_eq_true rfl) dX10_began_1 ?_
  rintro v w1 H locs ⟨rfl, rfl⟩ hw
  have hw : bW G A s.heap [[(ad 0, .inr (9, [.ref (ad 1), .ref (ad 2), .ref (ad 3), .ref (ad 4), .ref (ad 5), .ref (ad 6), .ref (ad 7), .int fl]))], [(ad 2, .inr (0, [.ref (ad 8), .ref (ad 9), .ref (ad 10), .ref (ad 11), .ref (ad 12), .int (nI n), .int lw]))], [(ad 5, .inr (4, [.ref (ad 16), .ref (ad 17), .ref (ad 18), .ref (ad 19), .ref (ad 20), .ref (ad 21), .int (nI nn), .int (nI nr)]))], [(ad 16, .inl (gI G, 8, .inl (fun k => nI (nf k))))], [(ad 17, .inl (gI G, 8, .inl (fun k => nI (nt k))))], [(ad 18, .inl (gI G, 8, .inl (fun k => nI (ro k))))], [(ad 19, .inl (gI G, 8, .inl (fun k => nI (rmo k))))], [(ad 20, .inl (gI G, 8, .inl (fun k => if rb k = true then 1 else 0)))], [(ad 21, .inl (gI G, 12, .inl kn))], [(ad 9, .inl (gI G, 12, .inl tu))]] H locs := hw
  refine W.eq (g2 := (F0 m 4 ls [.int (if 0 ≤ mo.toInt ∧ mo.toInt < 12 then 1 else 0)])) rfl ?_
  refine aw_ifne (P := 0 ≤ mo.toInt ∧ mo.toInt < 12) (tgt := 10) S dX10_began_4 (by decide) (fun c4 => ?_) (fun c4 => ?_)
  · have hb_mo : tn mo < 12 := aw_tnL c4
    have hl := Eq.mp (congrArg (fun z_ : Int32 => lv_has ls 4 [(0, .ref (ad 0)), (1, .int z_)]) (show (mo : Int32) = nI (tn mo) from (aw_tnE c4))) hl
    have hl : lv_has ls 4 [(0, .ref (ad 0)), (1, .int (nI (tn mo)))] := hl
    refine lv_aload_n S.1 S.2.1 dX10_began_10 rfl (lv_at hl 0 rfl) ?_
    refine aw_callV S hE (c_X10_noShip l G ad fl n lw (by first | assumption | omega)) gX10_began_X10_noShip (n := 0) rfl (by decide +kernel) rfl (by rw [hRm]; exact ⟨Nat.le_of_ble_eq_true rfl, Nat.le_of_ble_eq_true rfl⟩) (by rw [hRm]; exact ⟨Nat.le_of_ble_eq_true rfl, Nat.le_of_ble_eq_true rfl⟩) hw hA hl.1 [0, 1] rfl rfl (aw_recv (i := 0) hE hw rfl rfl rfl) rfl (Nat.le_of_ble_eq_true rfl) dX10_began_11 ?_
    rintro v w1 H locs ⟨rfl, rfl⟩ hw
    have hw : bW G A s.heap [[(ad 0, .inr (9, [.ref (ad 1), .ref (ad 2), .ref (ad 3), .ref (ad 4), .ref (ad 5), .ref (ad 6), .ref (ad 7), .int fl]))], [(ad 2, .inr (0, [.ref (ad 8), .ref (ad 9), .ref (ad 10), .ref (ad 11), .ref (ad 12), .int (nI n), .int lw]))], [(ad 5, .inr (4, [.ref (ad 16), .ref (ad 17), .ref (ad 18), .ref (ad 19), .ref (ad 20), .ref (ad 21), .int (nI nn), .int (nI nr)]))], [(ad 16, .inl (gI G, 8, .inl (fun k => nI (nf k))))], [(ad 17, .inl (gI G, 8, .inl (fun k => nI (nt k))))], [(ad 18, .inl (gI G, 8, .inl (fun k => nI (ro k))))], [(ad 19, .inl (gI G, 8, .inl (fun k => nI (rmo k))))], [(ad 20, .inl (gI G, 8, .inl (fun k => if rb k = true then 1 else 0)))], [(ad 21, .inl (gI G, 12, .inl kn))], [(ad 9, .inl (gI G, 12, .inl tu))]] H locs := hw
    refine W.eq (g2 := (F0 m 14 ls [.int (if n = 0 then 1 else 0)])) rfl ?_
    refine aw_ifeq (P := n = 0) (tgt := 20) S dX10_began_14 (by decide) (fun c14 => ?_) (fun c14 => ?_)
    · refine lv_iconst (v := 0) S.1 S.2.1 dX10_began_20 (by decide) ?_
      refine lv_istore_n (lv' := [(2, .int 0), (0, .ref (ad 0)), (1, .int (nI (tn mo)))]) S.1 S.2.1 dX10_began_21 rfl hl (by decide) rfl (fun ls hl => ?_)
      refine lv_iconst (v := 0) S.1 S.2.1 dX10_began_22 (by decide) ?_
      refine lv_istore_n (lv' := [(3, .int 0), (2, .int 0), (0, .ref (ad 0)), (1, .int (nI (tn mo)))]) S.1 S.2.1 dX10_began_23 rfl hl (by decide) rfl (fun ls hl => ?_)
      have loop24 : ∀ (fu : Nat) (i : Nat) (kn1 : Nat → Int32), (i ≤ n) → (n - i) < fu → ∀ (ls : Array Slot) (H : Heap) (locs : List Loc), lv_has ls 4 [(0, .ref (ad 0)), (1, .int (nI (tn mo))), (2, .int (bgF (bgP nf nt nn tu ro rmo rb nr (tn mo)) i)), (3, .int (nI i))] → bW G A s.heap [[(ad 0, .inr (9, [.ref (ad 1), .ref (ad 2), .ref (ad 3), .ref (ad 4), .ref (ad 5), .ref (ad 6), .ref (ad 7), .int fl]))], [(ad 2, .inr (0, [.ref (ad 8), .ref (ad 9), .ref (ad 10), .ref (ad 11), .ref (ad 12), .int (nI n), .int lw]))], [(ad 5, .inr (4, [.ref (ad 16), .ref (ad 17), .ref (ad 18), .ref (ad 19), .ref (ad 20), .ref (ad 21), .int (nI nn), .int (nI nr)]))], [(ad 16, .inl (gI G, 8, .inl (fun k => nI (nf k))))], [(ad 17, .inl (gI G, 8, .inl (fun k => nI (nt k))))], [(ad 18, .inl (gI G, 8, .inl (fun k => nI (ro k))))], [(ad 19, .inl (gI G, 8, .inl (fun k => nI (rmo k))))], [(ad 20, .inl (gI G, 8, .inl (fun k => if rb k = true then 1 else 0)))], [(ad 21, .inl (gI G, 12, .inl kn1))], [(ad 9, .inl (gI G, 12, .inl tu))]] H locs → W p l e R s m args below meth c H locs 0 0 Q (F0 m 24 ls []) := by
        intro fu
        induction fu with
        | zero => intro i kn1 _ hm; exact absurd hm (Nat.not_lt_zero _)
        | succ fu ih24 =>
          intro i kn1 hi hm ls H locs hl hw
          refine lv_iload_n S.1 S.2.1 dX10_began_24 rfl (lv_at hl 3 rfl) ?_
          refine lv_aload_n S.1 S.2.1 dX10_began_25 rfl (lv_at hl 0 rfl) ?_
          refine aw_get S hE hw 0 (C := RX10) (T := TX10) (N := 8) rfl rfl hinX10 1 (by decide) hf21 rfl dX10_began_26 ?_
          refine aw_get S hE hw 1 (C := RX0) (T := TX0) (N := 7) rfl rfl hinX0 5 (by decide) hf98 rfl dX10_began_29 ?_
          refine aw_icmpN_ge (x := i) (y := n) (tgt := 73) S (by omega) (by omega) dX10_began_32 (by decide) (fun c32 => ?_) (fun c32 => ?_)
          · have ex_i : i = n := by omega
            try rw [ex_i] at hl
            try rw [ex_i] at hw
            refine lv_iload_n S.1 S.2.1 dX10_began_73 rfl (lv_at hl 2 rfl) ?_
            refine aw_eqi (show (bgF (bgP nf nt nn tu ro rmo rb nr (tn mo)) n : Int32) = f_ms n mo (bgF (bgP nf nt nn tu ro rmo rb nr (tn mo)) n) from (by rw [f_ms]; first | rw [if_neg c4] | (rw [if_pos c4]; first | rw [if_pos c14] | rw [if_neg c14]))) ?_
            exact aw_iret S hr hlk ha hQ hAe hw dX10_began_74 rfl (Nat.le_of_ble_eq_true rfl) (Nat.le_of_ble_eq_true rfl) ⟨rfl, _, rfl⟩
          · refine lv_aload_n S.1 S.2.1 dX10_began_35 rfl (lv_at hl 0 rfl) ?_
            refine aw_get S hE hw 0 (C := RX10) (T := TX10) (N := 8) rfl rfl hinX10 4 (by decide) hf44 rfl dX10_began_36 ?_
            refine lv_iload_n S.1 S.2.1 dX10_began_39 rfl (lv_at hl 3 rfl) ?_
            refine lv_iload_n S.1 S.2.1 dX10_began_40 rfl (lv_at hl 1 rfl) ?_
            refine lv_aload_n S.1 S.2.1 dX10_began_41 rfl (lv_at hl 0 rfl) ?_
            refine aw_get S hE hw 0 (C := RX10) (T := TX10) (N := 8) rfl rfl hinX10 1 (by decide) hf21 rfl dX10_began_42 ?_
            refine aw_get S hE hw 1 (C := RX0) (T := TX0) (N := 7) rfl rfl hinX0 1 (by decide) hf126 rfl dX10_began_45 ?_
            refine aw_callV S hE (c_X4_spread l G ad nn nr nf nt kn1 i (tn mo) (ad 9) tu (by first | assumption | omega) (by first | assumption | omega) (by first | assumption | omega)) gX10_began_X4_spread (n := 3) rfl (by decide +kernel) rfl (by rw [hRm]; exact ⟨Nat.le_of_ble_eq_true rfl, Nat.le_of_ble_eq_true rfl⟩) (by rw [hRm]; exact ⟨Nat.le_of_ble_eq_true rfl, Nat.le_of_ble_eq_true rfl⟩) hw hA hl.1 [2, 3, 4, 8, 9] rfl rfl (aw_recv (i := 2) hE hw rfl rfl rfl) rfl (Nat.le_of_ble_eq_true rfl) dX10_began_48 ?_
            rintro v w1 H locs ⟨rfl, rfl⟩ hw
            have hw : bW G A s.heap [[(ad 0, .inr (9, [.ref (ad 1), .ref (ad 2), .ref (ad 3), .ref (ad 4), .ref (ad 5), .ref (ad 6), .ref (ad 7), .int fl]))], [(ad 2, .inr (0, [.ref (ad 8), .ref (ad 9), .ref (ad 10), .ref (ad 11), .ref (ad 12), .int (nI n), .int lw]))], [(ad 5, .inr (4, [.ref (ad 16), .ref (ad 17), .ref (ad 18), .ref (ad 19), .ref (ad 20), .ref (ad 21), .int (nI nn), .int (nI nr)]))], [(ad 16, .inl (gI G, 8, .inl (fun k => nI (nf k))))], [(ad 17, .inl (gI G, 8, .inl (fun k => nI (nt k))))], [(ad 18, .inl (gI G, 8, .inl (fun k => nI (ro k))))], [(ad 19, .inl (gI G, 8, .inl (fun k => nI (rmo k))))], [(ad 20, .inl (gI G, 8, .inl (fun k => if rb k = true then 1 else 0)))], [(ad 21, .inl (gI G, 12, .inl (nwE nf nt nn i (tn mo) tu)))], [(ad 9, .inl (gI G, 12, .inl tu))]] H locs := hw
            refine W.eq (g2 := (F0 m 51 ls [])) rfl ?_
            refine lv_aload_n S.1 S.2.1 dX10_began_51 rfl (lv_at hl 0 rfl) ?_
            refine aw_get S hE hw 0 (C := RX10) (T := TX10) (N := 8) rfl rfl hinX10 4 (by decide) hf44 rfl dX10_began_52 ?_
            refine aw_callV S hE (c_X4_makesReadingsSo l G ad nn nr ro rmo rb (nwE nf nt nn i (tn mo) tu) (by first | assumption | omega) (by first | assumption | omega) (by first | assumption | omega)) gX10_began_X4_makesReadingsSo (n := 0) rfl (by decide +kernel) rfl (by rw [hRm]; exact ⟨Nat.le_of_ble_eq_true rfl, Nat.le_of_ble_eq_true rfl⟩) (by rw [hRm]; exact ⟨Nat.le_of_ble_eq_true rfl, Nat.le_of_ble_eq_true rfl⟩) hw hA hl.1 [2, 5, 6, 7, 8] rfl rfl (aw_recv (i := 2) hE hw rfl rfl rfl) rfl (Nat.le_of_ble_eq_true rfl) dX10_began_55 ?_
            rintro v w1 H locs ⟨rfl, rfl⟩ hw
            have hw : bW G A s.heap [[(ad 0, .inr (9, [.ref (ad 1), .ref (ad 2), .ref (ad 3), .ref (ad 4), .ref (ad 5), .ref (ad 6), .ref (ad 7), .int fl]))], [(ad 2, .inr (0, [.ref (ad 8), .ref (ad 9), .ref (ad 10), .ref (ad 11), .ref (ad 12), .int (nI n), .int lw]))], [(ad 5, .inr (4, [.ref (ad 16), .ref (ad 17), .ref (ad 18), .ref (ad 19), .ref (ad 20), .ref (ad 21), .int (nI nn), .int (nI nr)]))], [(ad 16, .inl (gI G, 8, .inl (fun k => nI (nf k))))], [(ad 17, .inl (gI G, 8, .inl (fun k => nI (nt k))))], [(ad 18, .inl (gI G, 8, .inl (fun k => nI (ro k))))], [(ad 19, .inl (gI G, 8, .inl (fun k => nI (rmo k))))], [(ad 20, .inl (gI G, 8, .inl (fun k => if rb k = true then 1 else 0)))], [(ad 21, .inl (gI G, 12, .inl (nwE nf nt nn i (tn mo) tu)))], [(ad 9, .inl (gI G, 12, .inl tu))]] H locs := hw
            refine W.eq (g2 := (F0 m 58 ls [.int (if rsF (nwE nf nt nn i (tn mo) tu) ro rmo rb nr = nr then 1 else 0)])) rfl ?_
            refine aw_ifeq (P := rsF (nwE nf nt nn i (tn mo) tu) ro rmo rb nr = nr) (tgt := 67) S dX10_began_58 (by decide) (fun c58 => ?_) (fun c58 => ?_)
            · have hl := Eq.mp (congrArg (fun z_ : Int32 => lv_has ls 4 [(0, .ref (ad 0)), (1, .int (nI (tn mo))), (2, .int z_), (3, .int (nI i))]) (show (bgF (bgP nf nt nn tu ro rmo rb nr (tn mo)) i : Int32) = bgF (bgP nf nt nn tu ro rmo rb nr (tn mo)) (i + 1) from (bgF_f (fun q => c58 (of_decide_eq_true q))))) hl
              have hl : lv_has ls 4 [(0, .ref (ad 0)), (1, .int (nI (tn mo))), (2, .int (bgF (bgP nf nt nn tu ro rmo rb nr (tn mo)) (i + 1))), (3, .int (nI i))] := hl
              refine lv_iinc (v := nI (i + 1)) (lv' := [(3, .int (nI (i + 1))), (0, .ref (ad 0)), (1, .int (nI (tn mo))), (2, .int (bgF (bgP nf nt nn tu ro rmo rb nr (tn mo)) (i + 1)))]) S.1 S.2.1 dX10_began_67 hl (k := 3) rfl (by first | exact nI_1 _ | exact nI_add _ _ | rfl) (by decide) rfl (fun ls hl => ?_)
              refine lv_goto (tgt := 24) S.1 S.2.1 dX10_began_70 (by decide) ?_
              exact ih24 (i + 1) (nwE nf nt nn i (tn mo) tu) (by first | assumption | omega) (by omega) _ _ _ (lv_sub hl [1, 2, 3, 0] rfl) hw
            · refine lv_iload_n S.1 S.2.1 dX10_began_61 rfl (lv_at hl 2 rfl) ?_
              refine lv_iconst (v := 1) S.1 S.2.1 dX10_began_62 (by decide) ?_
              refine lv_iload_n S.1 S.2.1 dX10_began_63 rfl (lv_at hl 3 rfl) ?_
              refine lv_ishl S.1 S.2.1 dX10_began_64 ?_
              refine lv_ior S.1 S.2.1 dX10_began_65 ?_
              refine aw_eqi (show ((bgF (bgP nf nt nn tu ro rmo rb nr (tn mo)) i) ||| (1 <<< ((nI i) &&& 31)) : Int32) = bgF (bgP nf nt nn tu ro rmo rb nr (tn mo)) (i + 1) from (bgF_t (decide_eq_true c58))) ?_
              refine lv_istore_n (lv' := [(2, .int (bgF (bgP nf nt nn tu ro rmo rb nr (tn mo)) (i + 1))), (0, .ref (ad 0)), (1, .int (nI (tn mo))), (3, .int (nI i))]) S.1 S.2.1 dX10_began_66 rfl hl (by decide) rfl (fun ls hl => ?_)
              refine lv_iinc (v := nI (i + 1)) (lv' := [(3, .int (nI (i + 1))), (2, .int (bgF (bgP nf nt nn tu ro rmo rb nr (tn mo)) (i + 1))), (0, .ref (ad 0)), (1, .int (nI (tn mo)))]) S.1 S.2.1 dX10_began_67 hl (k := 3) rfl (by first | exact nI_1 _ | exact nI_add _ _ | rfl) (by decide) rfl (fun ls hl => ?_)
              refine lv_goto (tgt := 24) S.1 S.2.1 dX10_began_70 (by decide) ?_
              exact ih24 (i + 1) (nwE nf nt nn i (tn mo) tu) (by first | assumption | omega) (by omega) _ _ _ (lv_sub hl [2, 3, 1, 0] rfl) hw
      exact loop24 _ 0 kn (by first | assumption | omega) (Nat.lt_succ_self _) _ _ _ (lv_sub hl [2, 3, 1, 0] rfl) hw
    · refine lv_bipush (v := (-3)) S.1 S.2.1 dX10_began_17 (by decide) ?_
      refine aw_eqi (show ((-3) : Int32) = f_ms n mo (bgF (bgP nf nt nn tu ro rmo rb nr (tn mo)) n) from (by rw [f_ms]; first | rw [if_neg c4] | (rw [if_pos c4]; first | rw [if_pos c14] | rw [if_neg c14]))) ?_
      exact aw_iret S hr hlk ha hQ hAe hw dX10_began_19 rfl (Nat.le_of_ble_eq_true rfl) (Nat.le_of_ble_eq_true rfl) ⟨rfl, _, rfl⟩
  · refine lv_bipush (v := (-2)) S.1 S.2.1 dX10_began_7 (by decide) ?_
    refine aw_eqi (show ((-2) : Int32) = f_ms n mo (bgF (bgP nf nt nn tu ro rmo rb nr (tn mo)) n) from (by rw [f_ms]; first | rw [if_neg c4] | (rw [if_pos c4]; first | rw [if_pos c14] | rw [if_neg c14]))) ?_
    exact aw_iret S hr hlk ha hQ hAe hw dX10_began_9 rfl (Nat.le_of_ble_eq_true rfl) (Nat.le_of_ble_eq_true rfl) ⟨rfl, _, rfl⟩
set_option maxRecDepth 100000 in
set_option maxHeartbeats 4000000 in
theorem c_X10_woken (l : Launch) (G : aw_G) (ad : Nat → Nat) (fl : Int32) (n : Nat) (lw : Int32) (nn nr : Nat) (nf nt ro rmo : Nat → Nat) (rb : Nat → Bool) (kn tu : Nat → Int32) (td : Nat → Int32) (sv si mo : Int32) (hn : n ≤ 6) (hnn : nn ≤ 8) (hnr : nr ≤ 8) (hnf : ∀ k, k < nn → nf k < 6) (hro : ∀ k, k < nr → ro k < 6) (hrm : ∀ k, k < nr → rmo k < 12) : CT l G yX10_woken wsX10_woken ({ frames := 3, cells := 0, slots := 0, locals := 70 }) [.ref (ad 0), .int sv, .int si, .int mo] [[(ad 0, .inr (9, [.ref (ad 1), .ref (ad 2), .ref (ad 3), .ref (ad 4), .ref (ad 5), .ref (ad 6), .ref (ad 7), .int fl]))], [(ad 2, .inr (0, [.ref (ad 8), .ref (ad 9), .ref (ad 10), .ref (ad 11), .ref (ad 12), .int (nI n), .int lw]))], [(ad 5, .inr (4, [.ref (ad 16), .ref (ad 17), .ref (ad 18), .ref (ad 19), .ref (ad 20), .ref (ad 21), .int (nI nn), .int (nI nr)]))], [(ad 16, .inl (gI G, 8, .inl (fun k => nI (nf k))))], [(ad 17, .inl (gI G, 8, .inl (fun k => nI (nt k))))], [(ad 18, .inl (gI G, 8, .inl (fun k => nI (ro k))))], [(ad 19, .inl (gI G, 8, .inl (fun k => nI (rmo k))))], [(ad 20, .inl (gI G, 8, .inl (fun k => if rb k = true then 1 else 0)))], [(ad 21, .inl (gI G, 12, .inl kn))], [(ad 9, .inl (gI G, 12, .inl tu))], [(ad 7, .inl (gI G, 12, .inl td))]] (fun v w => v = some (.int (f_woken n sv si mo (bgF (wkP nf nt nn tu ro rmo rb nr (tn sv) (tn si) (tn mo)) n))) ∧ ∃ (kn td : Nat → Int32), w = [[(ad 0, .inr (9, [.ref (ad 1), .ref (ad 2), .ref (ad 3), .ref (ad 4), .ref (ad 5), .ref (ad 6), .ref (ad 7), .int fl]))], [(ad 2, .inr (0, [.ref (ad 8), .ref (ad 9), .ref (ad 10), .ref (ad 11), .ref (ad 12), .int (nI n), .int lw]))], [(ad 5, .inr (4, [.ref (ad 16), .ref (ad 17), .ref (ad 18), .ref (ad 19), .ref (ad 20), .ref (ad 21), .int (nI nn), .int (nI nr)]))], [(ad 16, .inl (gI G, 8, .inl (fun k => nI (nf k))))], [(ad 17, .inl (gI G, 8, .inl (fun k => nI (nt k))))], [(ad 18, .inl (gI G, 8, .inl (fun k => nI (ro k))))], [(ad 19, .inl (gI G, 8, .inl (fun k => nI (rmo k))))], [(ad 20, .inl (gI G, 8, .inl (fun k => if rb k = true then 1 else 0)))], [(ad 21, .inl (gI G, 12, .inl kn))], [(ad 9, .inl (gI G, 12, .inl tu))], [(ad 7, .inl (gI G, 12, .inl td))]]) := by
  refine CT.of (cc := cX10_woken) (nL := 6) (ret := (some .int)) (by decide) rfl (Nat.le_of_ble_eq_true rfl) ?_
  intro p e s m below meth c R args Q A hRm ha hQ hAe hA S hE hr hlk hnm H locs hH0 hL0 ls hl hw
  have S : CallFix p m c cX10_woken 6 s args wsX10_woken RX10 := S
  have hl : lv_has ls 6 [(0, .ref (ad 0)), (1, .int sv), (2, .int si), (3, .int mo)] := hl
  have hinX10 : ∀ w ∈ u_ws RX10 TX10 8, w ∈ wsX10_woken := by decide +kernel
  have hf21 := S.2.2.2.2 (.fieldLink RX10 21 "AwakeTurns" "crew" "LAwakeTurns$Crew;") (by decide +kernel)
  have hinX0 : ∀ w ∈ u_ws RX0 TX0 7, w ∈ wsX10_woken := by decide +kernel
  have hf126 := S.2.2.2.2 (.fieldLink RX10 126 "AwakeTurns$Crew" "turns" "[I") (by decide +kernel)
  have hf55 := S.2.2.2.2 (.fieldLink RX10 55 "AwakeTurns" "tried" "[I") (by decide +kernel)
  have hz_ac1 := S.2.2.2.2 (.methodLink RX10 182 arraycopyName) (by decide +kernel)
  have hz_ac2 := S.2.2.2.2 (.native arraycopyName) (by decide +kernel)
  have hz_ac3 := S.2.2.2.2 (.static arraycopyName) (by decide +kernel)
  have hz_ac4 := S.2.2.2.2 (.initialized "java/lang/System") (by decide +kernel)
  have hf98 := S.2.2.2.2 (.fieldLink RX10 98 "AwakeTurns$Crew" "count" "I") (by decide +kernel)
  have hf44 := S.2.2.2.2 (.fieldLink RX10 44 "AwakeTurns" "news" "LAwakeTurns$News;") (by decide +kernel)
  refine lv_aload_n S.1 S.2.1 dX10_woken_0 rfl (lv_at hl 0 rfl) ?_
  refine aw_get S hE hw 0 (C := RX10) (T := TX10) (N := 8) rfl rfl hinX10 1 (by decide) hf21 rfl dX10_woken_1 ?_
  refine lv_iload_n S.1 S.2.1 dX10_woken_4 rfl (lv_at hl 1 rfl) ?_
  refine aw_callV S hE (c_X0_has l G ad n lw sv (by first | assumption | omega)) gX10_woken_X0_has (n := 1) rfl (by decide +kernel) rfl (by rw [hRm]; exact ⟨Nat.le_of_ble_eq_true rfl, Nat.le_of_ble_eq_true rfl⟩) (by rw [hRm]; exact ⟨Nat.le_of_ble_eq_true rfl, Nat.le_of_ble_eq_true rfl⟩) hw hA hl.1 [1] rfl rfl (aw_recv (i := 1) hE hw rfl rfl rfl) rfl (Nat.le_of_ble_eq_true rfl) dX10_woken_5 ?_
  rintro v w1 H locs ⟨rfl, rfl⟩ hw
  have hw : bW G A s.heap [[(ad 0, .inr (9, [.ref (ad 1), .ref (ad 2), .ref (ad 3), .ref (ad 4), .ref (ad 5), .ref (ad 6), .ref (ad 7), .int fl]))], [(ad 2, .inr (0, [.ref (ad 8), .ref (ad 9), .ref (ad 10), .ref (ad 11), .ref (ad 12), .int (nI n), .int lw]))], [(ad 5, .inr (4, [.ref (ad 16), .ref (ad 17), .ref (ad 18), .ref (ad 19), .ref (ad 20), .ref (ad 21), .int (nI nn), .int (nI nr)]))], [(ad 16, .inl (gI G, 8, .inl (fun k => nI (nf k))))], [(ad 17, .inl (gI G, 8, .inl (fun k => nI (nt k))))], [(ad 18, .inl (gI G, 8, .inl (fun k => nI (ro k))))], [(ad 19, .inl (gI G, 8, .inl (fun k => nI (rmo k))))], [(ad 20, .inl (gI G, 8, .inl (fun k => if rb k = true then 1 else 0)))], [(ad 21, .inl (gI G, 12, .inl kn))], [(ad 9, .inl (gI G, 12, .inl tu))], [(ad 7, .inl (gI G, 12, .inl td))]] H locs := hw
  refine W.eq (g2 := (F0 m 8 ls [.int (if 0 ≤ sv.toInt ∧ sv.toInt < n then 1 else 0)])) rfl ?_
  refine aw_ifne (P := 0 ≤ sv.toInt ∧ sv.toInt < n) (tgt := 13) S dX10_woken_8 (by decide) (fun c8 => ?_) (fun c8 => ?_)
  · have hb_sv : tn sv < n := aw_tnL c8
    have hl := Eq.mp (congrArg (fun z_ : Int32 => lv_has ls 6 [(0, .ref (ad 0)), (1, .int z_), (2, .int si), (3, .int mo)]) (show (sv : Int32) = nI (tn sv) from (aw_tnE c8))) hl
    have hl : lv_has ls 6 [(0, .ref (ad 0)), (1, .int (nI (tn sv))), (2, .int si), (3, .int mo)] := hl
    refine lv_iload_n S.1 S.2.1 dX10_woken_13 rfl (lv_at hl 2 rfl) ?_
    refine aw_callS S hE (c_X10_isMonth l G si) gX10_woken_X10_isMonth (n := 1) rfl (by decide +kernel) rfl (by rw [hRm]; exact ⟨Nat.le_of_ble_eq_true rfl, Nat.le_of_ble_eq_true rfl⟩) (by rw [hRm]; exact ⟨Nat.le_of_ble_eq_true rfl, Nat.le_of_ble_eq_true rfl⟩) hw hA hl.1 [] rfl rfl rfl (Nat.le_of_ble_eq_true rfl) dX10_woken_14 ?_
    rintro v w1 H locs ⟨rfl, rfl⟩ hw
    have hw : bW G A s.heap [[(ad 0, .inr (9, [.ref (ad 1), .ref (ad 2), .ref (ad 3), .ref (ad 4), .ref (ad 5), .ref (ad 6), .ref (ad 7), .int fl]))], [(ad 2, .inr (0, [.ref (ad 8), .ref (ad 9), .ref (ad 10), .ref (ad 11), .ref (ad 12), .int (nI n), .int lw]))], [(ad 5, .inr (4, [.ref (ad 16), .ref (ad 17), .ref (ad 18), .ref (ad 19), .ref (ad 20), .ref (ad 21), .int (nI nn), .int (nI nr)]))], [(ad 16, .inl (gI G, 8, .inl (fun k => nI (nf k))))], [(ad 17, .inl (gI G, 8, .inl (fun k => nI (nt k))))], [(ad 18, .inl (gI G, 8, .inl (fun k => nI (ro k))))], [(ad 19, .inl (gI G, 8, .inl (fun k => nI (rmo k))))], [(ad 20, .inl (gI G, 8, .inl (fun k => if rb k = true then 1 else 0)))], [(ad 21, .inl (gI G, 12, .inl kn))], [(ad 9, .inl (gI G, 12, .inl tu))], [(ad 7, .inl (gI G, 12, .inl td))]] H locs := hw
    refine W.eq (g2 := (F0 m 17 ls [.int (if 0 ≤ si.toInt ∧ si.toInt < 12 then 1 else 0)])) rfl ?_
    refine aw_ifeq (P := 0 ≤ si.toInt ∧ si.toInt < 12) (tgt := 27) S dX10_woken_17 (by decide) (fun c17 => ?_) (fun c17 => ?_)
    · refine lv_bipush (v := (-2)) S.1 S.2.1 dX10_woken_27 (by decide) ?_
      refine aw_eqi (show ((-2) : Int32) = f_woken n sv si mo (bgF (wkP nf nt nn tu ro rmo rb nr (tn sv) (tn si) (tn mo)) n) from (by rw [f_woken]; first | rw [if_neg c8] | (rw [if_pos c8]; first | rw [if_neg (fun q => c17 q.1)] | rw [if_neg (fun q => c24 q.2)] | rw [if_pos ⟨c17, c24⟩]))) ?_
      exact aw_iret S hr hlk ha hQ hAe hw dX10_woken_29 rfl (Nat.le_of_ble_eq_true rfl) (Nat.le_of_ble_eq_true rfl) ⟨rfl, _, _, rfl⟩
    · have hb_si : tn si < 12 := aw_tnL c17
      have hl := Eq.mp (congrArg (fun z_ : Int32 => lv_has ls 6 [(0, .ref (ad 0)), (1, .int (nI (tn sv))), (2, .int z_), (3, .int mo)]) (show (si : Int32) = nI (tn si) from (aw_tnE c17))) hl
      have hl : lv_has ls 6 [(0, .ref (ad 0)), (1, .int (nI (tn sv))), (2, .int (nI (tn si))), (3, .int mo)] := hl
      refine lv_iload_n S.1 S.2.1 dX10_woken_20 rfl (lv_at hl 3 rfl) ?_
      refine aw_callS S hE (c_X10_isMonth l G mo) gX10_woken_X10_isMonth (n := 1) rfl (by decide +kernel) rfl (by rw [hRm]; exact ⟨Nat.le_of_ble_eq_true rfl, Nat.le_of_ble_eq_true rfl⟩) (by rw [hRm]; exact ⟨Nat.le_of_ble_eq_true rfl, Nat.le_of_ble_eq_true rfl⟩) hw hA hl.1 [] rfl rfl rfl (Nat.le_of_ble_eq_true rfl) dX10_woken_21 ?_
      rintro v w1 H locs ⟨rfl, rfl⟩ hw
      have hw : bW G A s.heap [[(ad 0, .inr (9, [.ref (ad 1), .ref (ad 2), .ref (ad 3), .ref (ad 4), .ref (ad 5), .ref (ad 6), .ref (ad 7), .int fl]))], [(ad 2, .inr (0, [.ref (ad 8), .ref (ad 9), .ref (ad 10), .ref (ad 11), .ref (ad 12), .int (nI n), .int lw]))], [(ad 5, .inr (4, [.ref (ad 16), .ref (ad 17), .ref (ad 18), .ref (ad 19), .ref (ad 20), .ref (ad 21), .int (nI nn), .int (nI nr)]))], [(ad 16, .inl (gI G, 8, .inl (fun k => nI (nf k))))], [(ad 17, .inl (gI G, 8, .inl (fun k => nI (nt k))))], [(ad 18, .inl (gI G, 8, .inl (fun k => nI (ro k))))], [(ad 19, .inl (gI G, 8, .inl (fun k => nI (rmo k))))], [(ad 20, .inl (gI G, 8, .inl (fun k => if rb k = true then 1 else 0)))], [(ad 21, .inl (gI G, 12, .inl kn))], [(ad 9, .inl (gI G, 12, .inl tu))], [(ad 7, .inl (gI G, 12, .inl td))]] H locs := hw
      refine W.eq (g2 := (F0 m 24 ls [.int (if 0 ≤ mo.toInt ∧ mo.toInt < 12 then 1 else 0)])) rfl ?_
      refine aw_ifne (P := 0 ≤ mo.toInt ∧ mo.toInt < 12) (tgt := 30) S dX10_woken_24 (by decide) (fun c24 => ?_) (fun c24 => ?_)
      · have hb_mo : tn mo < 12 := aw_tnL c24
        have hl := Eq.mp (congrArg (fun z_ : Int32 => lv_has ls 6 [(0, .ref (ad 0)), (1, .int (nI (tn sv))), (2, .int (nI (tn si))), (3, .int z_)]) (show (mo : Int32) = nI (tn mo) from (aw_tnE c24))) hl
        have hl : lv_has ls 6 [(0, .ref (ad 0)), (1, .int (nI (tn sv))), (2, .int (nI (tn si))), (3, .int (nI (tn mo)))] := hl
        refine lv_aload_n S.1 S.2.1 dX10_woken_30 rfl (lv_at hl 0 rfl) ?_
        refine aw_get S hE hw 0 (C := RX10) (T := TX10) (N := 8) rfl rfl hinX10 1 (by decide) hf21 rfl dX10_woken_31 ?_
        refine aw_get S hE hw 1 (C := RX0) (T := TX0) (N := 7) rfl rfl hinX0 1 (by decide) hf126 rfl dX10_woken_34 ?_
        refine lv_iconst (v := 0) S.1 S.2.1 dX10_woken_37 (by decide) ?_
        refine lv_aload_n S.1 S.2.1 dX10_woken_38 rfl (lv_at hl 0 rfl) ?_
        refine aw_get S hE hw 0 (C := RX10) (T := TX10) (N := 8) rfl rfl hinX10 6 (by decide) hf55 rfl dX10_woken_39 ?_
        refine lv_iconst (v := 0) S.1 S.2.1 dX10_woken_42 (by decide) ?_
        refine lv_bipush (v := 12) S.1 S.2.1 dX10_woken_43 (by decide) ?_
        refine aw_copy S hE hw 9 10 (sp := 0) (dp := 0) (n := 12) (by rw [S.2.2.1]; exact hl.1.symm) hz_ac1 hz_ac2 hz_ac3 hz_ac4 rfl rfl (by omega) (by omega) (by decide) (by decide) (by rw [hRm]; exact Nat.le_of_ble_eq_true rfl) (by rw [hRm]; exact Nat.le_of_ble_eq_true rfl) dX10_woken_45 (fun H locs hw => ?_)
        have hw : bW G A s.heap [[(ad 0, .inr (9, [.ref (ad 1), .ref (ad 2), .ref (ad 3), .ref (ad 4), .ref (ad 5), .ref (ad 6), .ref (ad 7), .int fl]))], [(ad 2, .inr (0, [.ref (ad 8), .ref (ad 9), .ref (ad 10), .ref (ad 11), .ref (ad 12), .int (nI n), .int lw]))], [(ad 5, .inr (4, [.ref (ad 16), .ref (ad 17), .ref (ad 18), .ref (ad 19), .ref (ad 20), .ref (ad 21), .int (nI nn), .int (nI nr)]))], [(ad 16, .inl (gI G, 8, .inl (fun k => nI (nf k))))], [(ad 17, .inl (gI G, 8, .inl (fun k => nI (nt k))))], [(ad 18, .inl (gI G, 8, .inl (fun k => nI (ro k))))], [(ad 19, .inl (gI G, 8, .inl (fun k => nI (rmo k))))], [(ad 20, .inl (gI G, 8, .inl (fun k => if rb k = true then 1 else 0)))], [(ad 21, .inl (gI G, 12, .inl kn))], [(ad 9, .inl (gI G, 12, .inl tu))], [(ad 7, .inl (gI G, 12, .inl (va_cpy tu td 0 0 12)))]] H locs := hw
        refine lv_iconst (v := 0) S.1 S.2.1 dX10_woken_48 (by decide) ?_
        refine lv_istore (lv' := [(4, .int 0), (0, .ref (ad 0)), (1, .int (nI (tn sv))), (2, .int (nI (tn si))), (3, .int (nI (tn mo)))]) S.1 S.2.1 dX10_woken_49 hl (by decide) rfl (fun ls hl => ?_)
        refine lv_iconst (v := 0) S.1 S.2.1 dX10_woken_51 (by decide) ?_
        refine lv_istore (lv' := [(5, .int 0), (4, .int 0), (0, .ref (ad 0)), (1, .int (nI (tn sv))), (2, .int (nI (tn si))), (3, .int (nI (tn mo)))]) S.1 S.2.1 dX10_woken_52 hl (by decide) rfl (fun ls hl => ?_)
        have loop54 : ∀ (fu : Nat) (i : Nat) (kn1 : Nat → Int32) (td1 : Nat → Int32), (i ≤ n) → (∀ j, j < 12 → ¬ j = tn mo → td1 j = tu j) → (n - i) < fu → ∀ (ls : Array Slot) (H : Heap) (locs : List Loc), lv_has ls 6 [(0, .ref (ad 0)), (1, .int (nI (tn sv))), (2, .int (nI (tn si))), (3, .int (nI (tn mo))), (4, .int (bgF (wkP nf nt nn tu ro rmo rb nr (tn sv) (tn si) (tn mo)) i)), (5, .int (nI i))] → bW G A s.heap [[(ad 0, .inr (9, [.ref (ad 1), .ref (ad 2), .ref (ad 3), .ref (ad 4), .ref (ad 5), .ref (ad 6), .ref (ad 7), .int fl]))], [(ad 2, .inr (0, [.ref (ad 8), .ref (ad 9), .ref (ad 10), .ref (ad 11), .ref (ad 12), .int (nI n), .int lw]))], [(ad 5, .inr (4, [.ref (ad 16), .ref (ad 17), .ref (ad 18), .ref (ad 19), .ref (ad 20), .ref (ad 21), .int (nI nn), .int (nI nr)]))], [(ad 16, .inl (gI G, 8, .inl (fun k => nI (nf k))))], [(ad 17, .inl (gI G, 8, .inl (fun k => nI (nt k))))], [(ad 18, .inl (gI G, 8, .inl (fun k => nI (ro k))))], [(ad 19, .inl (gI G, 8, .inl (fun k => nI (rmo k))))], [(ad 20, .inl (gI G, 8, .inl (fun k => if rb k = true then 1 else 0)))], [(ad 21, .inl (gI G, 12, .inl kn1))], [(ad 9, .inl (gI G, 12, .inl tu))], [(ad 7, .inl (gI G, 12, .inl td1))]] H locs → W p l e R s m args below meth c H locs 0 0 Q (F0 m 54 ls []) := by
          intro fu
          induction fu with
          | zero => intro i kn1 td1 _ _ hm; exact absurd hm (Nat.not_lt_zero _)
          | succ fu ih54 =>
            intro i kn1 td1 hi htd hm ls H locs hl hw
            refine lv_iload S.1 S.2.1 dX10_woken_54 (lv_at hl 5 rfl) ?_
            refine lv_aload_n S.1 S.2.1 dX10_woken_56 rfl (lv_at hl 0 rfl) ?_
            refine aw_get S hE hw 0 (C := RX10) (T := TX10) (N := 8) rfl rfl hinX10 1 (by decide) hf21 rfl dX10_woken_57 ?_
            refine aw_get S hE hw 1 (C := RX0) (T := TX0) (N := 7) rfl rfl hinX0 5 (by decide) hf98 rfl dX10_woken_60 ?_
            refine aw_icmpN_ge (x := i) (y := n) (tgt := 124) S (by omega) (by omega) dX10_woken_63 (by decide) (fun c63 => ?_) (fun c63 => ?_)
            · have ex_i : i = n := by omega
              try rw [ex_i] at hl
              try rw [ex_i] at hw
              refine lv_iload S.1 S.2.1 dX10_woken_124 (lv_at hl 4 rfl) ?_
              refine aw_eqi (show (bgF (wkP nf nt nn tu ro rmo rb nr (tn sv) (tn si) (tn mo)) n : Int32) = f_woken n sv si mo (bgF (wkP nf nt nn tu ro rmo rb nr (tn sv) (tn si) (tn mo)) n) from (by rw [f_woken]; first | rw [if_neg c8] | (rw [if_pos c8]; first | rw [if_neg (fun q => c17 q.1)] | rw [if_neg (fun q => c24 q.2)] | rw [if_pos ⟨c17, c24⟩]))) ?_
              exact aw_iret S hr hlk ha hQ hAe hw dX10_woken_126 rfl (Nat.le_of_ble_eq_true rfl) (Nat.le_of_ble_eq_true rfl) ⟨rfl, _, _, rfl⟩
            · refine lv_aload_n S.1 S.2.1 dX10_woken_66 rfl (lv_at hl 0 rfl) ?_
              refine aw_get S hE hw 0 (C := RX10) (T := TX10) (N := 8) rfl rfl hinX10 6 (by decide) hf55 rfl dX10_woken_67 ?_
              refine lv_iload_n S.1 S.2.1 dX10_woken_70 rfl (lv_at hl 3 rfl) ?_
              refine lv_aload_n S.1 S.2.1 dX10_woken_71 rfl (lv_at hl 0 rfl) ?_
              refine aw_get S hE hw 0 (C := RX10) (T := TX10) (N := 8) rfl rfl hinX10 1 (by decide) hf21 rfl dX10_woken_72 ?_
              refine aw_get S hE hw 1 (C := RX0) (T := TX0) (N := 7) rfl rfl hinX0 1 (by decide) hf126 rfl dX10_woken_75 ?_
              refine lv_iload_n S.1 S.2.1 dX10_woken_78 rfl (lv_at hl 3 rfl) ?_
              refine aw_iald S hE hw 9 (k := (tn mo)) rfl (by omega) (by decide) dX10_woken_79 ?_
              refine lv_iconst (v := 1) S.1 S.2.1 dX10_woken_80 (by decide) ?_
              refine lv_iload S.1 S.2.1 dX10_woken_81 (lv_at hl 5 rfl) ?_
              refine lv_ishl S.1 S.2.1 dX10_woken_83 ?_
              refine lv_ior S.1 S.2.1 dX10_woken_84 ?_
              refine aw_iast S hE hw 10 (k := (tn mo)) rfl (by omega) (by decide) dX10_woken_85 (fun H locs hw => ?_)
              have hw : bW G A s.heap [[(ad 0, .inr (9, [.ref (ad 1), .ref (ad 2), .ref (ad 3), .ref (ad 4), .ref (ad 5), .ref (ad 6), .ref (ad 7), .int fl]))], [(ad 2, .inr (0, [.ref (ad 8), .ref (ad 9), .ref (ad 10), .ref (ad 11), .ref (ad 12), .int (nI n), .int lw]))], [(ad 5, .inr (4, [.ref (ad 16), .ref (ad 17), .ref (ad 18), .ref (ad 19), .ref (ad 20), .ref (ad 21), .int (nI nn), .int (nI nr)]))], [(ad 16, .inl (gI G, 8, .inl (fun k => nI (nf k))))], [(ad 17, .inl (gI G, 8, .inl (fun k => nI (nt k))))], [(ad 18, .inl (gI G, 8, .inl (fun k => nI (ro k))))], [(ad 19, .inl (gI G, 8, .inl (fun k => nI (rmo k))))], [(ad 20, .inl (gI G, 8, .inl (fun k => if rb k = true then 1 else 0)))], [(ad 21, .inl (gI G, 12, .inl kn1))], [(ad 9, .inl (gI G, 12, .inl tu))], [(ad 7, .inl (gI G, 12, .inl (upd td1 (tn mo) ((tu (tn mo)) ||| (1 <<< ((nI i) &&& 31))))))]] H locs := hw
              have hw := aw_arr hw 10 rfl (upd tu (tn mo) (tu (tn mo) ||| (1 <<< (nI i &&& 31)))) (fun j hj => by unfold upd; by_cases e : j = tn mo; (rw [if_pos e, if_pos e]); (rw [if_neg e, if_neg e]; exact htd j hj e))
              have hw : bW G A s.heap [[(ad 0, .inr (9, [.ref (ad 1), .ref (ad 2), .ref (ad 3), .ref (ad 4), .ref (ad 5), .ref (ad 6), .ref (ad 7), .int fl]))], [(ad 2, .inr (0, [.ref (ad 8), .ref (ad 9), .ref (ad 10), .ref (ad 11), .ref (ad 12), .int (nI n), .int lw]))], [(ad 5, .inr (4, [.ref (ad 16), .ref (ad 17), .ref (ad 18), .ref (ad 19), .ref (ad 20), .ref (ad 21), .int (nI nn), .int (nI nr)]))], [(ad 16, .inl (gI G, 8, .inl (fun k => nI (nf k))))], [(ad 17, .inl (gI G, 8, .inl (fun k => nI (nt k))))], [(ad 18, .inl (gI G, 8, .inl (fun k => nI (ro k))))], [(ad 19, .inl (gI G, 8, .inl (fun k => nI (rmo k))))], [(ad 20, .inl (gI G, 8, .inl (fun k => if rb k = true then 1 else 0)))], [(ad 21, .inl (gI G, 12, .inl kn1))], [(ad 9, .inl (gI G, 12, .inl tu))], [(ad 7, .inl (gI G, 12, .inl (upd tu (tn mo) (tu (tn mo) ||| (1 <<< (nI i &&& 31))))))]] H locs := hw
              refine lv_aload_n S.1 S.2.1 dX10_woken_86 rfl (lv_at hl 0 rfl) ?_
              refine aw_get S hE hw 0 (C := RX10) (T := TX10) (N := 8) rfl rfl hinX10 4 (by decide) hf44 rfl dX10_woken_87 ?_
              refine lv_iload_n S.1 S.2.1 dX10_woken_90 rfl (lv_at hl 1 rfl) ?_
              refine lv_iload_n S.1 S.2.1 dX10_woken_91 rfl (lv_at hl 2 rfl) ?_
              refine lv_aload_n S.1 S.2.1 dX10_woken_92 rfl (lv_at hl 0 rfl) ?_
              refine aw_get S hE hw 0 (C := RX10) (T := TX10) (N := 8) rfl rfl hinX10 6 (by decide) hf55 rfl dX10_woken_93 ?_
              refine aw_callV S hE (c_X4_spread l G ad nn nr nf nt kn1 (tn sv) (tn si) (ad 7) (upd tu (tn mo) (tu (tn mo) ||| (1 <<< (nI i &&& 31)))) (by first | assumption | omega) (by first | assumption | omega) (by first | assumption | omega)) gX10_woken_X4_spread (n := 3) rfl (by decide +kernel) rfl (by rw [hRm]; exact ⟨Nat.le_of_ble_eq_true rfl, Nat.le_of_ble_eq_true rfl⟩) (by rw [hRm]; exact ⟨Nat.le_of_ble_eq_true rfl, Nat.le_of_ble_eq_true rfl⟩) hw hA hl.1 [2, 3, 4, 8, 10] rfl rfl (aw_recv (i := 2) hE hw rfl rfl rfl) rfl (Nat.le_of_ble_eq_true rfl) dX10_woken_96 ?_
              rintro v w1 H locs ⟨rfl, rfl⟩ hw
              have hw : bW G A s.heap [[(ad 0, .inr (9, [.ref (ad 1), .ref (ad 2), .ref (ad 3), .ref (ad 4), .ref (ad 5), .ref (ad 6), .ref (ad 7), .int fl]))], [(ad 2, .inr (0, [.ref (ad 8), .ref (ad 9), .ref (ad 10), .ref (ad 11), .ref (ad 12), .int (nI n), .int lw]))], [(ad 5, .inr (4, [.ref (ad 16), .ref (ad 17), .ref (ad 18), .ref (ad 19), .ref (ad 20), .ref (ad 21), .int (nI nn), .int (nI nr)]))], [(ad 16, .inl (gI G, 8, .inl (fun k => nI (nf k))))], [(ad 17, .inl (gI G, 8, .inl (fun k => nI (nt k))))], [(ad 18, .inl (gI G, 8, .inl (fun k => nI (ro k))))], [(ad 19, .inl (gI G, 8, .inl (fun k => nI (rmo k))))], [(ad 20, .inl (gI G, 8, .inl (fun k => if rb k = true then 1 else 0)))], [(ad 21, .inl (gI G, 12, .inl (nwE nf nt nn (tn sv) (tn si) (upd tu (tn mo) (tu (tn mo) ||| (1 <<< (nI i &&& 31)))))))], [(ad 9, .inl (gI G, 12, .inl tu))], [(ad 7, .inl (gI G, 12, .inl (upd tu (tn mo) (tu (tn mo) ||| (1 <<< (nI i &&& 31))))))]] H locs := hw
              refine W.eq (g2 := (F0 m 99 ls [])) rfl ?_
              refine lv_aload_n S.1 S.2.1 dX10_woken_99 rfl (lv_at hl 0 rfl) ?_
              refine aw_get S hE hw 0 (C := RX10) (T := TX10) (N := 8) rfl rfl hinX10 4 (by decide) hf44 rfl dX10_woken_100 ?_
              refine aw_callV S hE (c_X4_makesReadingsSo l G ad nn nr ro rmo rb (nwE nf nt nn (tn sv) (tn si) (upd tu (tn mo) (tu (tn mo) ||| (1 <<< (nI i &&& 31))))) (by first | assumption | omega) (by first | assumption | omega) (by first | assumption | omega)) gX10_woken_X4_makesReadingsSo (n := 0) rfl (by decide +kernel) rfl (by rw [hRm]; exact ⟨Nat.le_of_ble_eq_true rfl, Nat.le_of_ble_eq_true rfl⟩) (by rw [hRm]; exact ⟨Nat.le_of_ble_eq_true rfl, Nat.le_of_ble_eq_true rfl⟩) hw hA hl.1 [2, 5, 6, 7, 8] rfl rfl (aw_recv (i := 2) hE hw rfl rfl rfl) rfl (Nat.le_of_ble_eq_true rfl) dX10_woken_103 ?_
              rintro v w1 H locs ⟨rfl, rfl⟩ hw
              have hw : bW G A s.heap [[(ad 0, .inr (9, [.ref (ad 1), .ref (ad 2), .ref (ad 3), .ref (ad 4), .ref (ad 5), .ref (ad 6), .ref (ad 7), .int fl]))], [(ad 2, .inr (0, [.ref (ad 8), .ref (ad 9), .ref (ad 10), .ref (ad 11), .ref (ad 12), .int (nI n), .int lw]))], [(ad 5, .inr (4, [.ref (ad 16), .ref (ad 17), .ref (ad 18), .ref (ad 19), .ref (ad 20), .ref (ad 21), .int (nI nn), .int (nI nr)]))], [(ad 16, .inl (gI G, 8, .inl (fun k => nI (nf k))))], [(ad 17, .inl (gI G, 8, .inl (fun k => nI (nt k))))], [(ad 18, .inl (gI G, 8, .inl (fun k => nI (ro k))))], [(ad 19, .inl (gI G, 8, .inl (fun k => nI (rmo k))))], [(ad 20, .inl (gI G, 8, .inl (fun k => if rb k = true then 1 else 0)))], [(ad 21, .inl (gI G, 12, .inl (nwE nf nt nn (tn sv) (tn si) (upd tu (tn mo) (tu (tn mo) ||| (1 <<< (nI i &&& 31)))))))], [(ad 9, .inl (gI G, 12, .inl tu))], [(ad 7, .inl (gI G, 12, .inl (upd tu (tn mo) (tu (tn mo) ||| (1 <<< (nI i &&& 31))))))]] H locs := hw
              refine W.eq (g2 := (F0 m 106 ls [.int (if rsF (nwE nf nt nn (tn sv) (tn si) (upd tu (tn mo) (tu (tn mo) ||| (1 <<< (nI i &&& 31))))) ro rmo rb nr = nr then 1 else 0)])) rfl ?_
              refine aw_ifeq (P := rsF (nwE nf nt nn (tn sv) (tn si) (upd tu (tn mo) (tu (tn mo) ||| (1 <<< (nI i &&& 31))))) ro rmo rb nr = nr) (tgt := 118) S dX10_woken_106 (by decide) (fun c106 => ?_) (fun c106 => ?_)
              · have hl := Eq.mp (congrArg (fun z_ : Int32 => lv_has ls 6 [(0, .ref (ad 0)), (1, .int (nI (tn sv))), (2, .int (nI (tn si))), (3, .int (nI (tn mo))), (4, .int z_), (5, .int (nI i))]) (show (bgF (wkP nf nt nn tu ro rmo rb nr (tn sv) (tn si) (tn mo)) i : Int32) = bgF (wkP nf nt nn tu ro rmo rb nr (tn sv) (tn si) (tn mo)) (i + 1) from (bgF_f (fun q => c106 (of_decide_eq_true q))))) hl
                have hl : lv_has ls 6 [(0, .ref (ad 0)), (1, .int (nI (tn sv))), (2, .int (nI (tn si))), (3, .int (nI (tn mo))), (4, .int (bgF (wkP nf nt nn tu ro rmo rb nr (tn sv) (tn si) (tn mo)) (i + 1))), (5, .int (nI i))] := hl
                refine lv_iinc (v := nI (i + 1)) (lv' := [(5, .int (nI (i + 1))), (0, .ref (ad 0)), (1, .int (nI (tn sv))), (2, .int (nI (tn si))), (3, .int (nI (tn mo))), (4, .int (bgF (wkP nf nt nn tu ro rmo rb nr (tn sv) (tn si) (tn mo)) (i + 1)))]) S.1 S.2.1 dX10_woken_118 hl (k := 5) rfl (by first | exact nI_1 _ | exact nI_add _ _ | rfl) (by decide) rfl (fun ls hl => ?_)
                refine lv_goto (tgt := 54) S.1 S.2.1 dX10_woken_121 (by decide) ?_
                exact ih54 (i + 1) (nwE nf nt nn (tn sv) (tn si) (upd tu (tn mo) (tu (tn mo) ||| (1 <<< (nI i &&& 31))))) (upd tu (tn mo) (tu (tn mo) ||| (1 <<< (nI i &&& 31)))) (by first | assumption | omega) (fun j hj e => by unfold upd; rw [if_neg e]) (by omega) _ _ _ (lv_sub hl [1, 2, 3, 4, 5, 0] rfl) hw
              · refine lv_iload S.1 S.2.1 dX10_woken_109 (lv_at hl 4 rfl) ?_
                refine lv_iconst (v := 1) S.1 S.2.1 dX10_woken_111 (by decide) ?_
                refine lv_iload S.1 S.2.1 dX10_woken_112 (lv_at hl 5 rfl) ?_
                refine lv_ishl S.1 S.2.1 dX10_woken_114 ?_
                refine lv_ior S.1 S.2.1 dX10_woken_115 ?_
                refine aw_eqi (show ((bgF (wkP nf nt nn tu ro rmo rb nr (tn sv) (tn si) (tn mo)) i) ||| (1 <<< ((nI i) &&& 31)) : Int32) = bgF (wkP nf nt nn tu ro rmo rb nr (tn sv) (tn si) (tn mo)) (i + 1) from (bgF_t (decide_eq_true c106))) ?_
                refine lv_istore (lv' := [(4, .int (bgF (wkP nf nt nn tu ro rmo rb nr (tn sv) (tn si) (tn mo)) (i + 1))), (0, .ref (ad 0)), (1, .int (nI (tn sv))), (2, .int (nI (tn si))), (3, .int (nI (tn mo))), (5, .int (nI i))]) S.1 S.2.1 dX10_woken_116 hl (by decide) rfl (fun ls hl => ?_)
                refine lv_iinc (v := nI (i + 1)) (lv' := [(5, .int (nI (i + 1))), (4, .int (bgF (wkP nf nt nn tu ro rmo rb nr (tn sv) (tn si) (tn mo)) (i + 1))), (0, .ref (ad 0)), (1, .int (nI (tn sv))), (2, .int (nI (tn si))), (3, .int (nI (tn mo)))]) S.1 S.2.1 dX10_woken_118 hl (k := 5) rfl (by first | exact nI_1 _ | exact nI_add _ _ | rfl) (by decide) rfl (fun ls hl => ?_)
                refine lv_goto (tgt := 54) S.1 S.2.1 dX10_woken_121 (by decide) ?_
                exact ih54 (i + 1) (nwE nf nt nn (tn sv) (tn si) (upd tu (tn mo) (tu (tn mo) ||| (1 <<< (nI i &&& 31))))) (upd tu (tn mo) (tu (tn mo) ||| (1 <<< (nI i &&& 31)))) (by first | assumption | omega) (fun j hj e => by unfold upd; rw [if_neg e]) (by omega) _ _ _ (lv_sub hl [2, 3, 4, 5, 1, 0] rfl) hw
        exact loop54 _ 0 kn (va_cpy tu td 0 0 12) (by first | assumption | omega) (fun j hj _ => by rw [pk_cpy_in (by omega) (by omega)]; congr 1; omega) (Nat.lt_succ_self _) _ _ _ (lv_sub hl [2, 3, 4, 5, 1, 0] rfl) hw
      · refine lv_bipush (v := (-2)) S.1 S.2.1 dX10_woken_27 (by decide) ?_
        refine aw_eqi (show ((-2) : Int32) = f_woken n sv si mo (bgF (wkP nf nt nn tu ro rmo rb nr (tn sv) (tn si) (tn mo)) n) from (by rw [f_woken]; first | rw [if_neg c8] | (rw [if_pos c8]; first | rw [if_neg (fun q => c17 q.1)] | rw [if_neg (fun q => c24 q.2)] | rw [if_pos ⟨c17, c24⟩]))) ?_
        exact aw_iret S hr hlk ha hQ hAe hw dX10_woken_29 rfl (Nat.le_of_ble_eq_true rfl) (Nat.le_of_ble_eq_true rfl) ⟨rfl, _, _, rfl⟩
  · refine lv_iconst (v := (-1)) S.1 S.2.1 dX10_woken_11 (by decide) ?_
    refine aw_eqi (show ((-1) : Int32) = f_woken n sv si mo (bgF (wkP nf nt nn tu ro rmo rb nr (tn sv) (tn si) (tn mo)) n) from (by rw [f_woken]; first | rw [if_neg c8] | (rw [if_pos c8]; first | rw [if_neg (fun q => c17 q.1)] | rw [if_neg (fun q => c24 q.2)] | rw [if_pos ⟨c17, c24⟩]))) ?_
    exact aw_iret S hr hlk ha hQ hAe hw dX10_woken_12 rfl (Nat.le_of_ble_eq_true rfl) (Nat.le_of_ble_eq_true rfl) ⟨rfl, _, _, rfl⟩
