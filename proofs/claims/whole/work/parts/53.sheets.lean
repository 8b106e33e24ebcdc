/-! sheets -/
theorem shE_set {ca : Nat → Nat} {ln : Nat → Int32} {le : Nat → Nat} {k : Nat} {l2 : Int32} {e2 : Nat} : va_up (shE ca ln le) k (.inr (7, [.ref (ca k), .int l2, .int (nI e2)])) = shE ca (va_up ln k l2) (va_up le k e2) := by
  funext j
  by_cases e : j = k
  · simp [va_up, shE, e]
  · simp [va_up, shE, e]
theorem caE_set {G : aw_G} {ce : Nat → Nat → Int32} {k : Nat} {f : Nat → Int32} : va_up (caE G ce) k (.inl (gI G, 60, .inl f)) = caE G (va_up ce k f) := by
  funext j
  by_cases e : j = k
  · simp [va_up, caE, e]
  · simp [va_up, caE, e]
abbrev rg (x : Int32) (n : Nat) : Prop := 0 ≤ x.toInt ∧ x.toInt < n
def f_sheet (kv lv nv : Int32) : Int32 := if 0 ≤ kv.toInt ∧ kv.toInt < 4 then (if (0 ≤ lv.toInt ∧ lv.toInt < 3) ∧ nv.toInt ≤ 60 then (if nv.toInt < 0 then -14 else 1) else -2) else -1
def f_sheetF (kv lv nv : Int32) : Int32 := if (0 ≤ kv.toInt ∧ kv.toInt < 4) ∧ ((0 ≤ lv.toInt ∧ lv.toInt < 3) ∧ nv.toInt ≤ 60) ∧ nv.toInt < 0 then 4 else 0
abbrev f_sheetP (kv lv nv : Int32) : Prop := (0 ≤ kv.toInt ∧ kv.toInt < 4) ∧ ((0 ≤ lv.toInt ∧ lv.toInt < 3) ∧ nv.toInt ≤ 60) ∧ ¬ nv.toInt < 0
def f_setIf {α : Type} (P : Prop) [Decidable P] (f : Nat → α) (k : Nat) (v : α) : Nat → α := if P then va_up f k v else f
theorem setIf_t {α : Type} {P : Prop} [Decidable P] {f : Nat → α} {k : Nat} {v : α} (h : P) : va_up f k v = f_setIf P f k v := by unfold f_setIf; rw [if_pos h]
theorem setIf_f {α : Type} {P : Prop} [Decidable P] {f : Nat → α} {k : Nat} {v : α} (h : ¬ P) : f = f_setIf P f k v := by unfold f_setIf; rw [if_neg h]
def f_lose (ln : Nat → Int32) (kv : Int32) : Int32 := if 0 ≤ kv.toInt ∧ kv.toInt < 4 then (if ln (tn kv) = -1 then 0 else 1) else -1
/-- the fault of a put -/
def f_putF (ln : Nat → Int32) (le : Nat → Nat) (kv iv : Int32) : Int32 := if 0 ≤ kv.toInt ∧ kv.toInt < 4 then (if ln (tn kv) = -1 then 1 else if 0 ≤ iv.toInt ∧ iv.toInt < le (tn kv) then 0 else 3) else 0
def f_put (ln : Nat → Int32) (le : Nat → Nat) (kv iv : Int32) : Int32 := if 0 ≤ kv.toInt ∧ kv.toInt < 4 then (if ln (tn kv) = -1 then -11 else if 0 ≤ iv.toInt ∧ iv.toInt < le (tn kv) then 1 else -13) else -1
abbrev f_putP (ln : Nat → Int32) (le : Nat → Nat) (kv iv : Int32) : Prop := (0 ≤ kv.toInt ∧ kv.toInt < 4) ∧ ¬ ln (tn kv) = -1 ∧ 0 ≤ iv.toInt ∧ iv.toInt < le (tn kv)
def f_cellF (ln : Nat → Int32) (le : Nat → Nat) (kv iv lv : Int32) : Int32 := if (0 ≤ kv.toInt ∧ kv.toInt < 4) ∧ 0 ≤ lv.toInt ∧ lv.toInt < 3 then fcF (ln (tn kv)) (le (tn kv)) lv iv else 0
def f_cell (ln : Nat → Int32) (le : Nat → Nat) (ce : Nat → Nat → Int32) (kv iv lv : Int32) : Int64 := if ((0 ≤ kv.toInt ∧ kv.toInt < 4) ∧ 0 ≤ lv.toInt ∧ lv.toInt < 3) ∧ fcF (ln (tn kv)) (le (tn kv)) lv iv = 0 then (ce (tn kv) (tn iv)).toInt64 else -9223372036854775808
theorem fcF_0 {ln asl i : Int32} {le : Nat} (h : fcF ln le asl i = 0) : 0 ≤ i.toInt ∧ i.toInt < le := by
  unfold fcF at h
  by_cases h1 : ln = -1
  · rw [if_pos h1] at h; exact absurd h (by decide)
  · rw [if_neg h1] at h
    by_cases h2 : ¬ ln = asl
    · rw [if_pos h2] at h; exact absurd h (by decide)
    · rw [if_neg h2] at h
      by_cases h3 : 0 ≤ i.toInt ∧ i.toInt < le
      · exact h3
      · rw [if_neg h3] at h; exact absurd h (by decide)
theorem frF_0 {ln asl i nn : Int32} {le : Nat} (h : frF ln le asl i nn = 0) : ¬ nn.toInt < 0 ∧ 0 ≤ i.toInt ∧ i.toInt ≤ le ∧ nn.toInt ≤ le - i.toInt := by
  unfold frF at h
  by_cases h1 : ln = -1
  · rw [if_pos h1] at h; exact absurd h (by decide)
  · rw [if_neg h1] at h
    by_cases h2 : ¬ ln = asl
    · rw [if_pos h2] at h; exact absurd h (by decide)
    · rw [if_neg h2] at h
      by_cases h3 : nn.toInt < 0
      · rw [if_pos h3] at h; exact absurd h (by decide)
      · rw [if_neg h3] at h
        by_cases h4 : 0 ≤ i.toInt ∧ i.toInt ≤ le ∧ nn.toInt ≤ le - i.toInt
        · exact ⟨h3, h4⟩
        · rw [if_neg h4] at h; exact absurd h (by decide)
set_option maxRecDepth 100000 in
set_option maxHeartbeats 4000000 in
theorem c_X10_sheetAt_in (l : Launch) (G : aw_G) (ad : Nat → Nat) (fl : Int32) (sh : Nat → Nat) (k : Nat) (hk : k < 4) : CT l G yX10_sheetAt wsX10_sheetAt ({ frames := 0, cells := 0, slots := 0, locals := 0 }) [.ref (ad 0), .int (nI k)] [[(ad 0, .inr (9, [.ref (ad 1), .ref (ad 2), .ref (ad 3), .ref (ad 4), .ref (ad 5), .ref (ad 6), .ref (ad 7), .int fl]))], [(ad 1, .inl (gH G, 4, .inr (.inr (.inr (.inr (fun q_ => some (sh q_)))))))]] (dt (some (.ref (sh k))) [[(ad 0, .inr (9, [.ref (ad 1), .ref (ad 2), .ref (ad 3), .ref (ad 4), .ref (ad 5), .ref (ad 6), .ref (ad 7), .int fl]))], [(ad 1, .inl (gH G, 4, .inr (.inr (.inr (.inr (fun q_ => some (sh q_)))))))]]) := by
  refine CT.of (cc := cX10_sheetAt) (nL := 2) (ret := (some (.object "AwakeTurns$Sheet"))) (by decide) rfl (Nat.le_of_ble_eq_true rfl) ?_
  intro p e s m below meth c R args Q A hRm ha hQ hAe hA S hE hr hlk hnm H locs hH0 hL0 ls hl hw
  have S : CallFix p m c cX10_sheetAt 2 s args wsX10_sheetAt RX10 := S
  have hl : lv_has ls 2 [(0, .ref (ad 0)), (1, .int (nI k))] := hl
  have hinX10 : ∀ w ∈ u_ws RX10 TX10 8, w ∈ wsX10_sheetAt := by decide +kernel
  have hf13 := S.2.2.2.2 (.fieldLink RX10 13 "AwakeTurns" "sheets" "[LAwakeTurns$Sheet;") (by decide +kernel)
  refine lv_iload_n S.1 S.2.1 dX10_sheetAt_0 rfl (lv_at hl 1 rfl) ?_
  refine lv_if_lt (tgt := 9) S.1 S.2.1 dX10_sheetAt_1 (by decide) (fun c1 => ?_) (fun c1 => ?_)
  · exact absurd c1 (nI_pos (by omega))
  · refine lv_iload_n S.1 S.2.1 dX10_sheetAt_4 rfl (lv_at hl 1 rfl) ?_
    refine lv_iconst (v := 4) S.1 S.2.1 dX10_sheetAt_5 (by decide) ?_
    refine aw_icmpN_lt (x := k) (y := 4) (tgt := 13) S (by omega) (by omega) dX10_sheetAt_6 (by decide) (fun c6 => ?_) (fun c6 => ?_)
    · refine lv_aload_n S.1 S.2.1 dX10_sheetAt_13 rfl (lv_at hl 0 rfl) ?_
      refine aw_get S hE hw 0 (C := RX10) (T := TX10) (N := 8) rfl rfl hinX10 0 (by decide) hf13 rfl dX10_sheetAt_14 ?_
      refine lv_iload_n S.1 S.2.1 dX10_sheetAt_17 rfl (lv_at hl 1 rfl) ?_
      refine aw_aald_H S hE hw 1 (k := k) (r := (sh k)) rfl (by omega) (by decide) rfl dX10_sheetAt_18 ?_
      exact aw_aret S hr hlk ha hQ hAe hw dX10_sheetAt_19 (Or.inl ⟨_, rfl⟩) (Or.inr ⟨_, rfl⟩) (Nat.le_of_ble_eq_true rfl) (Nat.le_of_ble_eq_true rfl) ⟨rfl, rfl⟩
    · exact absurd c6 (by omega)
set_option maxRecDepth 100000 in
set_option maxHeartbeats 4000000 in
theorem c_X10_sheetAt_out (l : Launch) (G : aw_G) (ad : Nat → Nat) (fl : Int32) (sh : Nat → Nat) (kv : Int32) (hk : ¬ (0 ≤ kv.toInt ∧ kv.toInt < 4)) : CT l G yX10_sheetAt wsX10_sheetAt ({ frames := 0, cells := 0, slots := 0, locals := 0 }) [.ref (ad 0), .int kv] [[(ad 0, .inr (9, [.ref (ad 1), .ref (ad 2), .ref (ad 3), .ref (ad 4), .ref (ad 5), .ref (ad 6), .ref (ad 7), .int fl]))], [(ad 1, .inl (gH G, 4, .inr (.inr (.inr (.inr (fun q_ => some (sh q_)))))))]] (dt (some (.null)) [[(ad 0, .inr (9, [.ref (ad 1), .ref (ad 2), .ref (ad 3), .ref (ad 4), .ref (ad 5), .ref (ad 6), .ref (ad 7), .int fl]))], [(ad 1, .inl (gH G, 4, .inr (.inr (.inr (.inr (fun q_ => some (sh q_)))))))]]) := by
  refine CT.of (cc := cX10_sheetAt) (nL := 2) (ret := (some (.object "AwakeTurns$Sheet"))) (by decide) rfl (Nat.le_of_ble_eq_true rfl) ?_
  intro p e s m below meth c R args Q A hRm ha hQ hAe hA S hE hr hlk hnm H locs hH0 hL0 ls hl hw
  have S : CallFix p m c cX10_sheetAt 2 s args wsX10_sheetAt RX10 := S
  have hl : lv_has ls 2 [(0, .ref (ad 0)), (1, .int kv)] := hl
  refine lv_iload_n S.1 S.2.1 dX10_sheetAt_0 rfl (lv_at hl 1 rfl) ?_
  refine lv_if_lt (tgt := 9) S.1 S.2.1 dX10_sheetAt_1 (by decide) (fun c1 => ?_) (fun c1 => ?_)
  · refine lv_null S.1 S.2.1 dX10_sheetAt_9 ?_
    refine lv_goto (tgt := 19) S.1 S.2.1 dX10_sheetAt_10 (by decide) ?_
    exact aw_aret S hr hlk ha hQ hAe hw dX10_sheetAt_19 (Or.inl ⟨_, rfl⟩) (Or.inl rfl) (Nat.le_of_ble_eq_true rfl) (Nat.le_of_ble_eq_true rfl) ⟨rfl, rfl⟩
  · rw [fa_lt, li_0] at c1
    refine lv_iload_n S.1 S.2.1 dX10_sheetAt_4 rfl (lv_at hl 1 rfl) ?_
    refine lv_iconst (v := 4) S.1 S.2.1 dX10_sheetAt_5 (by decide) ?_
    refine lv_icmp_lt (tgt := 13) S.1 S.2.1 dX10_sheetAt_6 (by decide) (fun c6 => ?_) (fun c6 => ?_)
    · exact absurd (by rw [fa_lt, li_4] at c6; omega) hk
    · refine lv_null S.1 S.2.1 dX10_sheetAt_9 ?_
      refine lv_goto (tgt := 19) S.1 S.2.1 dX10_sheetAt_10 (by decide) ?_
      exact aw_aret S hr hlk ha hQ hAe hw dX10_sheetAt_19 (Or.inl ⟨_, rfl⟩) (Or.inl rfl) (Nat.le_of_ble_eq_true rfl) (Nat.le_of_ble_eq_true rfl) ⟨rfl, rfl⟩
set_option maxRecDepth 100000 in
set_option maxHeartbeats 4000000 in
theorem c_X10_sheet (l : Launch) (G : aw_G) (ad : Nat → Nat) (fl : Int32) (sh ca : Nat → Nat) (ln : Nat → Int32) (le : Nat → Nat) (ce : Nat → Nat → Int32) (kv lv nv : Int32) (hle : ∀ k, k < 4 → le k ≤ 60) : CT l G yX10_sheet wsX10_sheet ({ frames := 2, cells := 0, slots := 0, locals := 45 }) [.ref (ad 0), .int kv, .int lv, .int nv] [[(ad 0, .inr (9, [.ref (ad 1), .ref (ad 2), .ref (ad 3), .ref (ad 4), .ref (ad 5), .ref (ad 6), .ref (ad 7), .int fl]))], [(ad 1, .inl (gH G, 4, .inr (.inr (.inr (.inr (fun q_ => some (sh q_)))))))], fam 4 sh (shE ca ln le), fam 4 ca (caE G ce)] (dt (some (.int (f_sheet kv lv nv))) [[(ad 0, .inr (9, [.ref (ad 1), .ref (ad 2), .ref (ad 3), .ref (ad 4), .ref (ad 5), .ref (ad 6), .ref (ad 7), .int (f_sheetF kv lv nv)]))], [(ad 1, .inl (gH G, 4, .inr (.inr (.inr (.inr (fun q_ => some (sh q_)))))))], fam 4 sh (shE ca (f_setIf (f_sheetP kv lv nv) ln (tn kv) lv) (f_setIf (f_sheetP kv lv nv) le (tn kv) (tn nv))), fam 4 ca (caE G (f_setIf (f_sheetP kv lv nv) ce (tn kv) (fun _ => 0)))]) := by
  refine CT.of (cc := cX10_sheet) (nL := 5) (ret := (some .int)) (by decide) rfl (Nat.le_of_ble_eq_true rfl) ?_
  intro p e s m below meth c R args Q A hRm ha hQ hAe hA S hE hr hlk hnm H locs hH0 hL0 ls hl hw
  have S : CallFix p m c cX10_sheet 5 s args wsX10_sheet RX10 := S
  have hl : lv_has ls 5 [(0, .ref (ad 0)), (1, .int kv), (2, .int lv), (3, .int nv)] := hl
  have hinX10 : ∀ w ∈ u_ws RX10 TX10 8, w ∈ wsX10_sheet := by decide +kernel
  have hf59 := S.2.2.2.2 (.fieldLink RX10 59 "AwakeTurns" "lastFault" "I") (by decide +kernel)
  by_cases hz_k : 0 ≤ kv.toInt ∧ kv.toInt < 4
  · have hb_kv : tn kv < 4 := aw_tnL hz_k
    have hl := Eq.mp (congrArg (fun z_ : Int32 => lv_has ls 5 [(0, .ref (ad 0)), (1, .int z_), (2, .int lv), (3, .int nv)]) (show (kv : Int32) = nI (tn kv) from (aw_tnE hz_k))) hl
    have hl : lv_has ls 5 [(0, .ref (ad 0)), (1, .int (nI (tn kv))), (2, .int lv), (3, .int nv)] := hl
    have hle_kv := hle _ hb_kv
    have hw := aw_out hw 2 rfl (tn kv) (by omega)
    have hw : bW G A s.heap [[(ad 0, .inr (9, [.ref (ad 1), .ref (ad 2), .ref (ad 3), .ref (ad 4), .ref (ad 5), .ref (ad 6), .ref (ad 7), .int fl]))], [(ad 1, .inl (gH G, 4, .inr (.inr (.inr (.inr (fun q_ => some (sh q_)))))))], famX 4 sh (shE ca ln le) (tn kv), fam 4 ca (caE G ce), [(sh (tn kv), .inr (7, [.ref (ca (tn kv)), .int (ln (tn kv)), .int (nI (le (tn kv)))]))]] H locs := hw
    have hw := aw_out hw 3 rfl (tn kv) (by omega)
    have hw : bW G A s.heap [[(ad 0, .inr (9, [.ref (ad 1), .ref (ad 2), .ref (ad 3), .ref (ad 4), .ref (ad 5), .ref (ad 6), .ref (ad 7), .int fl]))], [(ad 1, .inl (gH G, 4, .inr (.inr (.inr (.inr (fun q_ => some (sh q_)))))))], famX 4 sh (shE ca ln le) (tn kv), famX 4 ca (caE G ce) (tn kv), [(sh (tn kv), .inr (7, [.ref (ca (tn kv)), .int (ln (tn kv)), .int (nI (le (tn kv)))]))], [(ca (tn kv), .inl (gI G, 60, .inl (ce (tn kv))))]] H locs := hw
    refine lv_aload_n S.1 S.2.1 dX10_sheet_0 rfl (lv_at hl 0 rfl) ?_
    refine lv_iload_n S.1 S.2.1 dX10_sheet_1 rfl (lv_at hl 1 rfl) ?_
    refine aw_callV S hE (c_X10_sheetAt_in l G ad fl sh (tn kv) hb_kv) gX10_sheet_X10_sheetAt (n := 1) rfl (by decide +kernel) rfl (by rw [hRm]; exact ⟨Nat.le_of_ble_eq_true rfl, Nat.le_of_ble_eq_true rfl⟩) (by rw [hRm]; exact ⟨Nat.le_of_ble_eq_true rfl, Nat.le_of_ble_eq_true rfl⟩) hw hA hl.1 [0, 1] rfl rfl (aw_recv (i := 0) hE hw rfl rfl rfl) rfl (Nat.le_of_ble_eq_true rfl) dX10_sheet_2 ?_
    rintro v w1 H locs ⟨rfl, rfl⟩ hw
    have hw : bW G A s.heap [[(ad 0, .inr (9, [.ref (ad 1), .ref (ad 2), .ref (ad 3), .ref (ad 4), .ref (ad 5), .ref (ad 6), .ref (ad 7), .int fl]))], [(ad 1, .inl (gH G, 4, .inr (.inr (.inr (.inr (fun q_ => some (sh q_)))))))], famX 4 sh (shE ca ln le) (tn kv), famX 4 ca (caE G ce) (tn kv), [(sh (tn kv), .inr (7, [.ref (ca (tn kv)), .int (ln (tn kv)), .int (nI (le (tn kv)))]))], [(ca (tn kv), .inl (gI G, 60, .inl (ce (tn kv))))]] H locs := hw
    refine W.eq (g2 := (F0 m 5 ls [.ref (sh (tn kv))])) rfl ?_
    refine lv_astore (lv' := [(4, .ref (sh (tn kv))), (0, .ref (ad 0)), (1, .int (nI (tn kv))), (2, .int lv), (3, .int nv)]) S.1 S.2.1 dX10_sheet_5 hl (by decide) rfl (fun ls hl => ?_)
    refine lv_aload S.1 S.2.1 dX10_sheet_7 (lv_at hl 0 rfl) ?_
    refine lv_ifnonnull (tgt := 18) S.1 S.2.1 dX10_sheet_9 (by decide) ?_
    refine lv_iload_n S.1 S.2.1 dX10_sheet_18 rfl (lv_at hl 3 rfl) ?_
    refine aw_callS S hE (c_X10_isLane l G lv) gX10_sheet_X10_isLane (n := 1) rfl (by decide +kernel) rfl (by rw [hRm]; exact ⟨Nat.le_of_ble_eq_true rfl, Nat.le_of_ble_eq_true rfl⟩) (by rw [hRm]; exact ⟨Nat.le_of_ble_eq_true rfl, Nat.le_of_ble_eq_true rfl⟩) hw hA hl.1 [] rfl rfl rfl (Nat.le_of_ble_eq_true rfl) dX10_sheet_19 ?_
    rintro v w1 H locs ⟨rfl, rfl⟩ hw
    have hw : bW G A s.heap [[(ad 0, .inr (9, [.ref (ad 1), .ref (ad 2), .ref (ad 3), .ref (ad 4), .ref (ad 5), .ref (ad 6), .ref (ad 7), .int fl]))], [(ad 1, .inl (gH G, 4, .inr (.inr (.inr (.inr (fun q_ => some (sh q_)))))))], famX 4 sh (shE ca ln le) (tn kv), famX 4 ca (caE G ce) (tn kv), [(sh (tn kv), .inr (7, [.ref (ca (tn kv)), .int (ln (tn kv)), .int (nI (le (tn kv)))]))], [(ca (tn kv), .inl (gI G, 60, .inl (ce (tn kv))))]] H locs := hw
    refine W.eq (g2 := (F0 m 22 ls [.int (if 0 ≤ lv.toInt ∧ lv.toInt < 3 then 1 else 0)])) rfl ?_
    refine aw_ifeq (P := 0 ≤ lv.toInt ∧ lv.toInt < 3) (tgt := 31) S dX10_sheet_22 (by decide) (fun c22 => ?_) (fun c22 => ?_)
    · refine lv_aload_n S.1 S.2.1 dX10_sheet_31 rfl (lv_at hl 1 rfl) ?_
      refine lv_bipush (v := (-2)) S.1 S.2.1 dX10_sheet_32 (by decide) ?_
      refine aw_callV S hE (c_X10_refused l G ad fl (-2)) gX10_sheet_X10_refused (n := 1) rfl (by decide +kernel) rfl (by rw [hRm]; exact ⟨Nat.le_of_ble_eq_true rfl, Nat.le_of_ble_eq_true rfl⟩) (by rw [hRm]; exact ⟨Nat.le_of_ble_eq_true rfl, Nat.le_of_ble_eq_true rfl⟩) hw hA hl.1 [0] rfl rfl (aw_recv (i := 0) hE hw rfl rfl rfl) rfl (Nat.le_of_ble_eq_true rfl) dX10_sheet_34 ?_
      rintro v w1 H locs ⟨rfl, rfl⟩ hw
      have hw : bW G A s.heap [[(ad 0, .inr (9, [.ref (ad 1), .ref (ad 2), .ref (ad 3), .ref (ad 4), .ref (ad 5), .ref (ad 6), .ref (ad 7), .int 0]))], [(ad 1, .inl (gH G, 4, .inr (.inr (.inr (.inr (fun q_ => some (sh q_)))))))], famX 4 sh (shE ca ln le) (tn kv), famX 4 ca (caE G ce) (tn kv), [(sh (tn kv), .inr (7, [.ref (ca (tn kv)), .int (ln (tn kv)), .int (nI (le (tn kv)))]))], [(ca (tn kv), .inl (gI G, 60, .inl (ce (tn kv))))]] H locs := hw
      refine W.eq (g2 := (F0 m 37 ls [.int (-2)])) rfl ?_
      have hw := aw_inS [[(ad 0, .inr (9, [.ref (ad 1), .ref (ad 2), .ref (ad 3), .ref (ad 4), .ref (ad 5), .ref (ad 6), .ref (ad 7), .int 0]))], [(ad 1, .inl (gH G, 4, .inr (.inr (.inr (.inr (fun q_ => some (sh q_)))))))], famX 4 sh (shE ca ln le) (tn kv), famX 4 ca (caE G ce) (tn kv), [(sh (tn kv), .inr (7, [.ref (ca (tn kv)), .int (ln (tn kv)), .int (nI (le (tn kv)))]))]] hw 3 rfl (by omega)
      have hw : bW G A s.heap [[(ad 0, .inr (9, [.ref (ad 1), .ref (ad 2), .ref (ad 3), .ref (ad 4), .ref (ad 5), .ref (ad 6), .ref (ad 7), .int 0]))], [(ad 1, .inl (gH G, 4, .inr (.inr (.inr (.inr (fun q_ => some (sh q_)))))))], famX 4 sh (shE ca ln le) (tn kv), fam 4 ca (caE G ce), [(sh (tn kv), .inr (7, [.ref (ca (tn kv)), .int (ln (tn kv)), .int (nI (le (tn kv)))]))]] H locs := hw
      have hw := aw_inS [[(ad 0, .inr (9, [.ref (ad 1), .ref (ad 2), .ref (ad 3), .ref (ad 4), .ref (ad 5), .ref (ad 6), .ref (ad 7), .int 0]))], [(ad 1, .inl (gH G, 4, .inr (.inr (.inr (.inr (fun q_ => some (sh q_)))))))], famX 4 sh (shE ca ln le) (tn kv), fam 4 ca (caE G ce)] hw 2 rfl (by omega)
      have hw : bW G A s.heap [[(ad 0, .inr (9, [.ref (ad 1), .ref (ad 2), .ref (ad 3), .ref (ad 4), .ref (ad 5), .ref (ad 6), .ref (ad 7), .int 0]))], [(ad 1, .inl (gH G, 4, .inr (.inr (.inr (.inr (fun q_ => some (sh q_)))))))], fam 4 sh (shE ca ln le), fam 4 ca (caE G ce)] H locs := hw
      rw [fam_congr (n := 4) (r := sh) (e := (shE ca ln le)) (e' := (shE ca (f_setIf (f_sheetP kv lv nv) ln (tn kv) lv) (f_setIf (f_sheetP kv lv nv) le (tn kv) (tn nv)))) (fun _ _ => by rw [← setIf_f (show ¬ f_sheetP kv lv nv by intro q; omega), ← setIf_f (show ¬ f_sheetP kv lv nv by intro q; omega)])] at hw
      have hw : bW G A s.heap [[(ad 0, .inr (9, [.ref (ad 1), .ref (ad 2), .ref (ad 3), .ref (ad 4), .ref (ad 5), .ref (ad 6), .ref (ad 7), .int 0]))], [(ad 1, .inl (gH G, 4, .inr (.inr (.inr (.inr (fun q_ => some (sh q_)))))))], fam 4 sh (shE ca (f_setIf (f_sheetP kv lv nv) ln (tn kv) lv) (f_setIf (f_sheetP kv lv nv) le (tn kv) (tn nv))), fam 4 ca (caE G ce)] H locs := hw
      rw [fam_congr (n := 4) (r := ca) (e := (caE G ce)) (e' := (caE G (f_setIf (f_sheetP kv lv nv) ce (tn kv) (fun _ => 0)))) (fun _ _ => by rw [← setIf_f (show ¬ f_sheetP kv lv nv by intro q; omega)])] at hw
      have hw : bW G A s.heap [[(ad 0, .inr (9, [.ref (ad 1), .ref (ad 2), .ref (ad 3), .ref (ad 4), .ref (ad 5), .ref (ad 6), .ref (ad 7), .int 0]))], [(ad 1, .inl (gH G, 4, .inr (.inr (.inr (.inr (fun q_ => some (sh q_)))))))], fam 4 sh (shE ca (f_setIf (f_sheetP kv lv nv) ln (tn kv) lv) (f_setIf (f_sheetP kv lv nv) le (tn kv) (tn nv))), fam 4 ca (caE G (f_setIf (f_sheetP kv lv nv) ce (tn kv) (fun _ => 0)))] H locs := hw
      have hw := Eq.mp (congrArg (fun z_ : Int32 => bW G A s.heap [[(ad 0, .inr (9, [.ref (ad 1), .ref (ad 2), .ref (ad 3), .ref (ad 4), .ref (ad 5), .ref (ad 6), .ref (ad 7), .int z_]))], [(ad 1, .inl (gH G, 4, .inr (.inr (.inr (.inr (fun q_ => some (sh q_)))))))], fam 4 sh (shE ca (f_setIf (f_sheetP kv lv nv) ln (tn kv) lv) (f_setIf (f_sheetP kv lv nv) le (tn kv) (tn nv))), fam 4 ca (caE G (f_setIf (f_sheetP kv lv nv) ce (tn kv) (fun _ => 0)))] H locs) (show (0 : Int32) = f_sheetF kv lv nv from (by rw [f_sheetF]; first | rw [if_neg (fun q => hz_k q.1)] | rw [if_neg (by omega)] | rw [if_pos (by omega)]))) hw
      have hw : bW G A s.heap [[(ad 0, .inr (9, [.ref (ad 1), .ref (ad 2), .ref (ad 3), .ref (ad 4), .ref (ad 5), .ref (ad 6), .ref (ad 7), .int (f_sheetF kv lv nv)]))], [(ad 1, .inl (gH G, 4, .inr (.inr (.inr (.inr (fun q_ => some (sh q_)))))))], fam 4 sh (shE ca (f_setIf (f_sheetP kv lv nv) ln (tn kv) lv) (f_setIf (f_sheetP kv lv nv) le (tn kv) (tn nv))), fam 4 ca (caE G (f_setIf (f_sheetP kv lv nv) ce (tn kv) (fun _ => 0)))] H locs := hw
      refine aw_eqi (show ((-2) : Int32) = f_sheet kv lv nv from (by rw [f_sheet]; first | rw [if_neg hz_k] | (rw [if_pos hz_k]; first | rw [if_neg (by omega)] | (rw [if_pos (by omega)]; first | (rw [if_pos (by omega)]; rfl) | rw [if_neg (by omega)])))) ?_
      exact aw_iret S hr hlk ha hQ hAe hw dX10_sheet_37 rfl (Nat.le_of_ble_eq_true rfl) (Nat.le_of_ble_eq_true rfl) ⟨rfl, rfl⟩
    · refine lv_iload_n S.1 S.2.1 dX10_sheet_25 rfl (lv_at hl 4 rfl) ?_
      refine lv_bipush (v := 60) S.1 S.2.1 dX10_sheet_26 (by decide) ?_
      refine lv_icmp_le (tgt := 38) S.1 S.2.1 dX10_sheet_28 (by decide) (fun c28 => ?_) (fun c28 => ?_)
      · rw [fa_le, li_60] at c28
        refine lv_iload_n S.1 S.2.1 dX10_sheet_38 rfl (lv_at hl 4 rfl) ?_
        refine lv_if_ge (tgt := 48) S.1 S.2.1 dX10_sheet_39 (by decide) (fun c39 => ?_) (fun c39 => ?_)
        · rw [fa_le, li_0] at c39
          have hnv : 0 ≤ nv.toInt ∧ nv.toInt < ((61 : Nat) : Int) := by omega
          have hb_nv : tn nv < 61 := aw_tnL hnv
          have hl := Eq.mp (congrArg (fun z_ : Int32 => lv_has ls 5 [(4, .ref (sh (tn kv))), (0, .ref (ad 0)), (1, .int (nI (tn kv))), (2, .int lv), (3, .int z_)]) (show (nv : Int32) = nI (tn nv) from (aw_tnE hnv))) hl
          have hl : lv_has ls 5 [(4, .ref (sh (tn kv))), (0, .ref (ad 0)), (1, .int (nI (tn kv))), (2, .int lv), (3, .int (nI (tn nv)))] := hl
          refine lv_aload_n S.1 S.2.1 dX10_sheet_48 rfl (lv_at hl 1 rfl) ?_
          refine lv_iconst (v := 0) S.1 S.2.1 dX10_sheet_49 (by decide) ?_
          refine aw_putf S hE hw 0 (C := RX10) (T := TX10) (N := 8) rfl rfl hinX10 tyX10 tyX10_ok nmX10 7 (by decide) hf59 rfl rfl rfl (Nat.le_of_ble_eq_true rfl) dX10_sheet_50 (fun H locs hw => ?_)
          have hw : bW G A s.heap [[(ad 0, .inr (9, [.ref (ad 1), .ref (ad 2), .ref (ad 3), .ref (ad 4), .ref (ad 5), .ref (ad 6), .ref (ad 7), .int 0]))], [(ad 1, .inl (gH G, 4, .inr (.inr (.inr (.inr (fun q_ => some (sh q_)))))))], famX 4 sh (shE ca ln le) (tn kv), famX 4 ca (caE G ce) (tn kv), [(sh (tn kv), .inr (7, [.ref (ca (tn kv)), .int (ln (tn kv)), .int (nI (le (tn kv)))]))], [(ca (tn kv), .inl (gI G, 60, .inl (ce (tn kv))))]] H locs := hw
          refine lv_aload S.1 S.2.1 dX10_sheet_53 (lv_at hl 0 rfl) ?_
          refine lv_iload_n S.1 S.2.1 dX10_sheet_55 rfl (lv_at hl 3 rfl) ?_
          refine lv_iload_n S.1 S.2.1 dX10_sheet_56 rfl (lv_at hl 4 rfl) ?_
          refine aw_callV S hE (c_X7_renew l G (sh (tn kv)) (ca (tn kv)) (ln (tn kv)) (le (tn kv)) (ce (tn kv)) lv (tn nv)) gX10_sheet_X7_renew (n := 2) rfl (by decide +kernel) rfl (by rw [hRm]; exact ⟨Nat.le_of_ble_eq_true rfl, Nat.le_of_ble_eq_true rfl⟩) (by rw [hRm]; exact ⟨Nat.le_of_ble_eq_true rfl, Nat.le_of_ble_eq_true rfl⟩) hw hA hl.1 [4, 5] rfl rfl (aw_recv (i := 4) hE hw rfl rfl rfl) rfl (Nat.le_of_ble_eq_true rfl) dX10_sheet_57 ?_
          rintro v w1 H locs ⟨rfl, rfl⟩ hw
          have hw : bW G A s.heap [[(ad 0, .inr (9, [.ref (ad 1), .ref (ad 2), .ref (ad 3), .ref (ad 4), .ref (ad 5), .ref (ad 6), .ref (ad 7), .int 0]))], [(ad 1, .inl (gH G, 4, .inr (.inr (.inr (.inr (fun q_ => some (sh q_)))))))], famX 4 sh (shE ca ln le) (tn kv), famX 4 ca (caE G ce) (tn kv), [((sh (tn kv)), .inr (7, [.ref (ca (tn kv)), .int lv, .int (nI (tn nv))]))], [((ca (tn kv)), .inl (gI G, 60, .inl (fun _ => 0)))]] H locs := hw
          refine W.eq (g2 := (F0 m 60 ls [])) rfl ?_
          refine lv_iconst (v := 1) S.1 S.2.1 dX10_sheet_60 (by decide) ?_
          have hw := aw_in [[(ad 0, .inr (9, [.ref (ad 1), .ref (ad 2), .ref (ad 3), .ref (ad 4), .ref (ad 5), .ref (ad 6), .ref (ad 7), .int 0]))], [(ad 1, .inl (gH G, 4, .inr (.inr (.inr (.inr (fun q_ => some (sh q_)))))))], famX 4 sh (shE ca ln le) (tn kv), famX 4 ca (caE G ce) (tn kv), [((sh (tn kv)), .inr (7, [.ref (ca (tn kv)), .int lv, .int (nI (tn nv))]))]] hw 3 rfl (by omega)
          rw [fam_congr (e' := caE G (va_up ce (tn kv) (fun _ => 0))) (fun j _ => congrFun caE_set j)] at hw
          have hw : bW G A s.heap [[(ad 0, .inr (9, [.ref (ad 1), .ref (ad 2), .ref (ad 3), .ref (ad 4), .ref (ad 5), .ref (ad 6), .ref (ad 7), .int 0]))], [(ad 1, .inl (gH G, 4, .inr (.inr (.inr (.inr (fun q_ => some (sh q_)))))))], famX 4 sh (shE ca ln le) (tn kv), fam 4 ca (caE G (va_up ce (tn kv) (fun _ => 0))), [((sh (tn kv)), .inr (7, [.ref (ca (tn kv)), .int lv, .int (nI (tn nv))]))]] H locs := hw
          have hw := aw_in [[(ad 0, .inr (9, [.ref (ad 1), .ref (ad 2), .ref (ad 3), .ref (ad 4), .ref (ad 5), .ref (ad 6), .ref (ad 7), .int 0]))], [(ad 1, .inl (gH G, 4, .inr (.inr (.inr (.inr (fun q_ => some (sh q_)))))))], famX 4 sh (shE ca ln le) (tn kv), fam 4 ca (caE G (va_up ce (tn kv) (fun _ => 0)))] hw 2 rfl (by omega)
          rw [fam_congr (e' := shE ca (va_up ln (tn kv) lv) (va_up le (tn kv) (tn nv))) (fun j _ => congrFun shE_set j)] at hw
          have hw : bW G A s.heap [[(ad 0, .inr (9, [.ref (ad 1), .ref (ad 2), .ref (ad 3), .ref (ad 4), .ref (ad 5), .ref (ad 6), .ref (ad 7), .int 0]))], [(ad 1, .inl (gH G, 4, .inr (.inr (.inr (.inr (fun q_ => some (sh q_)))))))], fam 4 sh (shE ca (va_up ln (tn kv) lv) (va_up le (tn kv) (tn nv))), fam 4 ca (caE G (va_up ce (tn kv) (fun _ => 0)))] H locs := hw
          rw [fam_congr (n := 4) (r := sh) (e := (shE ca (va_up ln (tn kv) lv) (va_up le (tn kv) (tn nv)))) (e' := (shE ca (f_setIf (f_sheetP kv lv nv) ln (tn kv) lv) (f_setIf (f_sheetP kv lv nv) le (tn kv) (tn nv)))) (fun _ _ => by rw [← setIf_t (show f_sheetP kv lv nv from ⟨hz_k, by omega, by omega⟩), ← setIf_t (show f_sheetP kv lv nv from ⟨hz_k, by omega, by omega⟩)])] at hw
          have hw : bW G A s.heap [[(ad 0, .inr (9, [.ref (ad 1), .ref (ad 2), .ref (ad 3), .ref (ad 4), .ref (ad 5), .ref (ad 6), .ref (ad 7), .int 0]))], [(ad 1, .inl (gH G, 4, .inr (.inr (.inr (.inr (fun q_ => some (sh q_)))))))], fam 4 sh (shE ca (f_setIf (f_sheetP kv lv nv) ln (tn kv) lv) (f_setIf (f_sheetP kv lv nv) le (tn kv) (tn nv))), fam 4 ca (caE G (va_up ce (tn kv) (fun _ => 0)))] H locs := hw
          rw [fam_congr (n := 4) (r := ca) (e := (caE G (va_up ce (tn kv) (fun _ => 0)))) (e' := (caE G (f_setIf (f_sheetP kv lv nv) ce (tn kv) (fun _ => 0)))) (fun _ _ => by rw [← setIf_t (show f_sheetP kv lv nv from ⟨hz_k, by omega, by omega⟩)])] at hw
          have hw : bW G A s.heap [[(ad 0, .inr (9, [.ref (ad 1), .ref (ad 2), .ref (ad 3), .ref (ad 4), .ref (ad 5), .ref (ad 6), .ref (ad 7), .int 0]))], [(ad 1, .inl (gH G, 4, .inr (.inr (.inr (.inr (fun q_ => some (sh q_)))))))], fam 4 sh (shE ca (f_setIf (f_sheetP kv lv nv) ln (tn kv) lv) (f_setIf (f_sheetP kv lv nv) le (tn kv) (tn nv))), fam 4 ca (caE G (f_setIf (f_sheetP kv lv nv) ce (tn kv) (fun _ => 0)))] H locs := hw
          have hw := Eq.mp (congrArg (fun z_ : Int32 => bW G A s.heap [[(ad 0, .inr (9, [.ref (ad 1), .ref (ad 2), .ref (ad 3), .ref (ad 4), .ref (ad 5), .ref (ad 6), .ref (ad 7), .int z_]))], [(ad 1, .inl (gH G, 4, .inr (.inr (.inr (.inr (fun q_ => some (sh q_)))))))], fam 4 sh (shE ca (f_setIf (f_sheetP kv lv nv) ln (tn kv) lv) (f_setIf (f_sheetP kv lv nv) le (tn kv) (tn nv))), fam 4 ca (caE G (f_setIf (f_sheetP kv lv nv) ce (tn kv) (fun _ => 0)))] H locs) (show (0 : Int32) = f_sheetF kv lv nv from (by rw [f_sheetF]; first | rw [if_neg (fun q => hz_k q.1)] | rw [if_neg (by omega)] | rw [if_pos (by omega)]))) hw
          have hw : bW G A s.heap [[(ad 0, .inr (9, [.ref (ad 1), .ref (ad 2), .ref (ad 3), .ref (ad 4), .ref (ad 5), .ref (ad 6), .ref (ad 7), .int (f_sheetF kv lv nv)]))], [(ad 1, .inl (gH G, 4, .inr (.inr (.inr (.inr (fun q_ => some (sh q_)))))))], fam 4 sh (shE ca (f_setIf (f_sheetP kv lv nv) ln (tn kv) lv) (f_setIf (f_sheetP kv lv nv) le (tn kv) (tn nv))), fam 4 ca (caE G (f_setIf (f_sheetP kv lv nv) ce (tn kv) (fun _ => 0)))] H locs := hw
          refine aw_eqi (show (1 : Int32) = f_sheet kv lv nv from (by rw [f_sheet]; first | rw [if_neg hz_k] | (rw [if_pos hz_k]; first | rw [if_neg (by omega)] | (rw [if_pos (by omega)]; first | (rw [if_pos (by omega)]; rfl) | rw [if_neg (by omega)])))) ?_
          exact aw_iret S hr hlk ha hQ hAe hw dX10_sheet_61 rfl (Nat.le_of_ble_eq_true rfl) (Nat.le_of_ble_eq_true rfl) ⟨rfl, rfl⟩
        · rw [fa_le, li_0] at c39
          refine lv_aload_n S.1 S.2.1 dX10_sheet_42 rfl (lv_at hl 1 rfl) ?_
          refine lv_iconst (v := 4) S.1 S.2.1 dX10_sheet_43 (by decide) ?_
          refine aw_callV S hE (c_X10_failed l G ad fl 4) gX10_sheet_X10_failed (n := 1) rfl (by decide +kernel) rfl (by rw [hRm]; exact ⟨Nat.le_of_ble_eq_true rfl, Nat.le_of_ble_eq_true rfl⟩) (by rw [hRm]; exact ⟨Nat.le_of_ble_eq_true rfl, Nat.le_of_ble_eq_true rfl⟩) hw hA hl.1 [0] rfl rfl (aw_recv (i := 0) hE hw rfl rfl rfl) rfl (Nat.le_of_ble_eq_true rfl) dX10_sheet_44 ?_
          rintro v w1 H locs ⟨rfl, rfl⟩ hw
          have hw : bW G A s.heap [[(ad 0, .inr (9, [.ref (ad 1), .ref (ad 2), .ref (ad 3), .ref (ad 4), .ref (ad 5), .ref (ad 6), .ref (ad 7), .int 4]))], [(ad 1, .inl (gH G, 4, .inr (.inr (.inr (.inr (fun q_ => some (sh q_)))))))], famX 4 sh (shE ca ln le) (tn kv), famX 4 ca (caE G ce) (tn kv), [(sh (tn kv), .inr (7, [.ref (ca (tn kv)), .int (ln (tn kv)), .int (nI (le (tn kv)))]))], [(ca (tn kv), .inl (gI G, 60, .inl (ce (tn kv))))]] H locs := hw
          refine W.eq (g2 := (F0 m 47 ls [.int (-10 - 4)])) rfl ?_
          have hw := aw_inS [[(ad 0, .inr (9, [.ref (ad 1), .ref (ad 2), .ref (ad 3), .ref (ad 4), .ref (ad 5), .ref (ad 6), .ref (ad 7), .int 4]))], [(ad 1, .inl (gH G, 4, .inr (.inr (.inr (.inr (fun q_ => some (sh q_)))))))], famX 4 sh (shE ca ln le) (tn kv), famX 4 ca (caE G ce) (tn kv), [(sh (tn kv), .inr (7, [.ref (ca (tn kv)), .int (ln (tn kv)), .int (nI (le (tn kv)))]))]] hw 3 rfl (by omega)
          have hw : bW G A s.heap [[(ad 0, .inr (9, [.ref (ad 1), .ref (ad 2), .ref (ad 3), .ref (ad 4), .ref (ad 5), .ref (ad 6), .ref (ad 7), .int 4]))], [(ad 1, .inl (gH G, 4, .inr (.inr (.inr (.inr (fun q_ => some (sh q_)))))))], famX 4 sh (shE ca ln le) (tn kv), fam 4 ca (caE G ce), [(sh (tn kv), .inr (7, [.ref (ca (tn kv)), .int (ln (tn kv)), .int (nI (le (tn kv)))]))]] H locs := hw
          have hw := aw_inS [[(ad 0, .inr (9, [.ref (ad 1), .ref (ad 2), .ref (ad 3), .ref (ad 4), .ref (ad 5), .ref (ad 6), .ref (ad 7), .int 4]))], [(ad 1, .inl (gH G, 4, .inr (.inr (.inr (.inr (fun q_ => some (sh q_)))))))], famX 4 sh (shE ca ln le) (tn kv), fam 4 ca (caE G ce)] hw 2 rfl (by omega)
          have hw : bW G A s.heap [[(ad 0, .inr (9, [.ref (ad 1), .ref (ad 2), .ref (ad 3), .ref (ad 4), .ref (ad 5), .ref (ad 6), .ref (ad 7), .int 4]))], [(ad 1, .inl (gH G, 4, .inr (.inr (.inr (.inr (fun q_ => some (sh q_)))))))], fam 4 sh (shE ca ln le), fam 4 ca (caE G ce)] H locs := hw
          rw [fam_congr (n := 4) (r := sh) (e := (shE ca ln le)) (e' := (shE ca (f_setIf (f_sheetP kv lv nv) ln (tn kv) lv) (f_setIf (f_sheetP kv lv nv) le (tn kv) (tn nv)))) (fun _ _ => by rw [← setIf_f (show ¬ f_sheetP kv lv nv by intro q; omega), ← setIf_f (show ¬ f_sheetP kv lv nv by intro q; omega)])] at hw
          have hw : bW G A s.heap [[(ad 0, .inr (9, [.ref (ad 1), .ref (ad 2), .ref (ad 3), .ref (ad 4), .ref (ad 5), .ref (ad 6), .ref (ad 7), .int 4]))], [(ad 1, .inl (gH G, 4, .inr (.inr (.inr (.inr (fun q_ => some (sh q_)))))))], fam 4 sh (shE ca (f_setIf (f_sheetP kv lv nv) ln (tn kv) lv) (f_setIf (f_sheetP kv lv nv) le (tn kv) (tn nv))), fam 4 ca (caE G ce)] H locs := hw
          rw [fam_congr (n := 4) (r := ca) (e := (caE G ce)) (e' := (caE G (f_setIf (f_sheetP kv lv nv) ce (tn kv) (fun _ => 0)))) (fun _ _ => by rw [← setIf_f (show ¬ f_sheetP kv lv nv by intro q; omega)])] at hw
          have hw : bW G A s.heap [[(ad 0, .inr (9, [.ref (ad 1), .ref (ad 2), .ref (ad 3), .ref (ad 4), .ref (ad 5), .ref (ad 6), .ref (ad 7), .int 4]))], [(ad 1, .inl (gH G, 4, .inr (.inr (.inr (.inr (fun q_ => some (sh q_)))))))], fam 4 sh (shE ca (f_setIf (f_sheetP kv lv nv) ln (tn kv) lv) (f_setIf (f_sheetP kv lv nv) le (tn kv) (tn nv))), fam 4 ca (caE G (f_setIf (f_sheetP kv lv nv) ce (tn kv) (fun _ => 0)))] H locs := hw
          have hw := Eq.mp (congrArg (fun z_ : Int32 => bW G A s.heap [[(ad 0, .inr (9, [.ref (ad 1), .ref (ad 2), .ref (ad 3), .ref (ad 4), .ref (ad 5), .ref (ad 6), .ref (ad 7), .int z_]))], [(ad 1, .inl (gH G, 4, .inr (.inr (.inr (.inr (fun q_ => some (sh q_)))))))], fam 4 sh (shE ca (f_setIf (f_sheetP kv lv nv) ln (tn kv) lv) (f_setIf (f_sheetP kv lv nv) le (tn kv) (tn nv))), fam 4 ca (caE G (f_setIf (f_sheetP kv lv nv) ce (tn kv) (fun _ => 0)))] H locs) (show (4 : Int32) = f_sheetF kv lv nv from (by rw [f_sheetF]; first | rw [if_neg (fun q => hz_k q.1)] | rw [if_neg (by omega)] | rw [if_pos (by omega)]))) hw
          have hw : bW G A s.heap [[(ad 0, .inr (9, [.ref (ad 1), .ref (ad 2), .ref (ad 3), .ref (ad 4), .ref (ad 5), .ref (ad 6), .ref (ad 7), .int (f_sheetF kv lv nv)]))], [(ad 1, .inl (gH G, 4, .inr (.inr (.inr (.inr (fun q_ => some (sh q_)))))))], fam 4 sh (shE ca (f_setIf (f_sheetP kv lv nv) ln (tn kv) lv) (f_setIf (f_sheetP kv lv nv) le (tn kv) (tn nv))), fam 4 ca (caE G (f_setIf (f_sheetP kv lv nv) ce (tn kv) (fun _ => 0)))] H locs := hw
          refine aw_eqi (show (-10 - 4 : Int32) = f_sheet kv lv nv from (by rw [f_sheet]; first | rw [if_neg hz_k] | (rw [if_pos hz_k]; first | rw [if_neg (by omega)] | (rw [if_pos (by omega)]; first | (rw [if_pos (by omega)]; rfl) | rw [if_neg (by omega)])))) ?_
          exact aw_iret S hr hlk ha hQ hAe hw dX10_sheet_47 rfl (Nat.le_of_ble_eq_true rfl) (Nat.le_of_ble_eq_true rfl) ⟨rfl, rfl⟩
      · rw [fa_le, li_60] at c28
        refine lv_aload_n S.1 S.2.1 dX10_sheet_31 rfl (lv_at hl 1 rfl) ?_
        refine lv_bipush (v := (-2)) S.1 S.2.1 dX10_sheet_32 (by decide) ?_
        refine aw_callV S hE (c_X10_refused l G ad fl (-2)) gX10_sheet_X10_refused (n := 1) rfl (by decide +kernel) rfl (by rw [hRm]; exact ⟨Nat.le_of_ble_eq_true rfl, Nat.le_of_ble_eq_true rfl⟩) (by rw [hRm]; exact ⟨Nat.le_of_ble_eq_true rfl, Nat.le_of_ble_eq_true rfl⟩) hw hA hl.1 [0] rfl rfl (aw_recv (i := 0) hE hw rfl rfl rfl) rfl (Nat.le_of_ble_eq_true rfl) dX10_sheet_34 ?_
        rintro v w1 H locs ⟨rfl, rfl⟩ hw
        have hw : bW G A s.heap [[(ad 0, .inr (9, [.ref (ad 1), .ref (ad 2), .ref (ad 3), .ref (ad 4), .ref (ad 5), .ref (ad 6), .ref (ad 7), .int 0]))], [(ad 1, .inl (gH G, 4, .inr (.inr (.inr (.inr (fun q_ => some (sh q_)))))))], famX 4 sh (shE ca ln le) (tn kv), famX 4 ca (caE G ce) (tn kv), [(sh (tn kv), .inr (7, [.ref (ca (tn kv)), .int (ln (tn kv)), .int (nI (le (tn kv)))]))], [(ca (tn kv), .inl (gI G, 60, .inl (ce (tn kv))))]] H locs := hw
        refine W.eq (g2 := (F0 m 37 ls [.int (-2)])) rfl ?_
        have hw := aw_inS [[(ad 0, .inr (9, [.ref (ad 1), .ref (ad 2), .ref (ad 3), .ref (ad 4), .ref (ad 5), .ref (ad 6), .ref (ad 7), .int 0]))], [(ad 1, .inl (gH G, 4, .inr (.inr (.inr (.inr (fun q_ => some (sh q_)))))))], famX 4 sh (shE ca ln le) (tn kv), famX 4 ca (caE G ce) (tn kv), [(sh (tn kv), .inr (7, [.ref (ca (tn kv)), .int (ln (tn kv)), .int (nI (le (tn kv)))]))]] hw 3 rfl (by omega)
        have hw : bW G A s.heap [[(ad 0, .inr (9, [.ref (ad 1), .ref (ad 2), .ref (ad 3), .ref (ad 4), .ref (ad 5), .ref (ad 6), .ref (ad 7), .int 0]))], [(ad 1, .inl (gH G, 4, .inr (.inr (.inr (.inr (fun q_ => some (sh q_)))))))], famX 4 sh (shE ca ln le) (tn kv), fam 4 ca (caE G ce), [(sh (tn kv), .inr (7, [.ref (ca (tn kv)), .int (ln (tn kv)), .int (nI (le (tn kv)))]))]] H locs := hw
        have hw := aw_inS [[(ad 0, .inr (9, [.ref (ad 1), .ref (ad 2), .ref (ad 3), .ref (ad 4), .ref (ad 5), .ref (ad 6), .ref (ad 7), .int 0]))], [(ad 1, .inl (gH G, 4, .inr (.inr (.inr (.inr (fun q_ => some (sh q_)))))))], famX 4 sh (shE ca ln le) (tn kv), fam 4 ca (caE G ce)] hw 2 rfl (by omega)
        have hw : bW G A s.heap [[(ad 0, .inr (9, [.ref (ad 1), .ref (ad 2), .ref (ad 3), .ref (ad 4), .ref (ad 5), .ref (ad 6), .ref (ad 7), .int 0]))], [(ad 1, .inl (gH G, 4, .inr (.inr (.inr (.inr (fun q_ => some (sh q_)))))))], fam 4 sh (shE ca ln le), fam 4 ca (caE G ce)] H locs := hw
        rw [fam_congr (n := 4) (r := sh) (e := (shE ca ln le)) (e' := (shE ca (f_setIf (f_sheetP kv lv nv) ln (tn kv) lv) (f_setIf (f_sheetP kv lv nv) le (tn kv) (tn nv)))) (fun _ _ => by rw [← setIf_f (show ¬ f_sheetP kv lv nv by intro q; omega), ← setIf_f (show ¬ f_sheetP kv lv nv by intro q; omega)])] at hw
        have hw : bW G A s.heap [[(ad 0, .inr (9, [.ref (ad 1), .ref (ad 2), .ref (ad 3), .ref (ad 4), .ref (ad 5), .ref (ad 6), .ref (ad 7), .int 0]))], [(ad 1, .inl (gH G, 4, .inr (.inr (.inr (.inr (fun q_ => some (sh q_)))))))], fam 4 sh (shE ca (f_setIf (f_sheetP kv lv nv) ln (tn kv) lv) (f_setIf (f_sheetP kv lv nv) le (tn kv) (tn nv))), fam 4 ca (caE G ce)] H locs := hw
        rw [fam_congr (n := 4) (r := ca) (e := (caE G ce)) (e' := (caE G (f_setIf (f_sheetP kv lv nv) ce (tn kv) (fun _ => 0)))) (fun _ _ => by rw [← setIf_f (show ¬ f_sheetP kv lv nv by intro q; omega)])] at hw
        have hw : bW G A s.heap [[(ad 0, .inr (9, [.ref (ad 1), .ref (ad 2), .ref (ad 3), .ref (ad 4), .ref (ad 5), .ref (ad 6), .ref (ad 7), .int 0]))], [(ad 1, .inl (gH G, 4, .inr (.inr (.inr (.inr (fun q_ => some (sh q_)))))))], fam 4 sh (shE ca (f_setIf (f_sheetP kv lv nv) ln (tn kv) lv) (f_setIf (f_sheetP kv lv nv) le (tn kv) (tn nv))), fam 4 ca (caE G (f_setIf (f_sheetP kv lv nv) ce (tn kv) (fun _ => 0)))] H locs := hw
        have hw := Eq.mp (congrArg (fun z_ : Int32 => bW G A s.heap [[(ad 0, .inr (9, [.ref (ad 1), .ref (ad 2), .ref (ad 3), .ref (ad 4), .ref (ad 5), .ref (ad 6), .ref (ad 7), .int z_]))], [(ad 1, .inl (gH G, 4, .inr (.inr (.inr (.inr (fun q_ => some (sh q_)))))))], fam 4 sh (shE ca (f_setIf (f_sheetP kv lv nv) ln (tn kv) lv) (f_setIf (f_sheetP kv lv nv) le (tn kv) (tn nv))), fam 4 ca (caE G (f_setIf (f_sheetP kv lv nv) ce (tn kv) (fun _ => 0)))] H locs) (show (0 : Int32) = f_sheetF kv lv nv from (by rw [f_sheetF]; first | rw [if_neg (fun q => hz_k q.1)] | rw [if_neg (by omega)] | rw [if_pos (by omega)]))) hw
        have hw : bW G A s.heap [[(ad 0, .inr (9, [.ref (ad 1), .ref (ad 2), .ref (ad 3), .ref (ad 4), .ref (ad 5), .ref (ad 6), .ref (ad 7), .int (f_sheetF kv lv nv)]))], [(ad 1, .inl (gH G, 4, .inr (.inr (.inr (.inr (fun q_ => some (sh q_)))))))], fam 4 sh (shE ca (f_setIf (f_sheetP kv lv nv) ln (tn kv) lv) (f_setIf (f_sheetP kv lv nv) le (tn kv) (tn nv))), fam 4 ca (caE G (f_setIf (f_sheetP kv lv nv) ce (tn kv) (fun _ => 0)))] H locs := hw
        refine aw_eqi (show ((-2) : Int32) = f_sheet kv lv nv from (by rw [f_sheet]; first | rw [if_neg hz_k] | (rw [if_pos hz_k]; first | rw [if_neg (by omega)] | (rw [if_pos (by omega)]; first | (rw [if_pos (by omega)]; rfl) | rw [if_neg (by omega)])))) ?_
        exact aw_iret S hr hlk ha hQ hAe hw dX10_sheet_37 rfl (Nat.le_of_ble_eq_true rfl) (Nat.le_of_ble_eq_true rfl) ⟨rfl, rfl⟩
  · refine lv_aload_n S.1 S.2.1 dX10_sheet_0 rfl (lv_at hl 0 rfl) ?_
    refine lv_iload_n S.1 S.2.1 dX10_sheet_1 rfl (lv_at hl 1 rfl) ?_
    refine aw_callV S hE (c_X10_sheetAt_out l G ad fl sh kv hz_k) gX10_sheet_X10_sheetAt (n := 1) rfl (by decide +kernel) rfl (by rw [hRm]; exact ⟨Nat.le_of_ble_eq_true rfl, Nat.le_of_ble_eq_true rfl⟩) (by rw [hRm]; exact ⟨Nat.le_of_ble_eq_true rfl, Nat.le_of_ble_eq_true rfl⟩) hw hA hl.1 [0, 1] rfl rfl (aw_recv (i := 0) hE hw rfl rfl rfl) rfl (Nat.le_of_ble_eq_true rfl) dX10_sheet_2 ?_
    rintro v w1 H locs ⟨rfl, rfl⟩ hw
    have hw : bW G A s.heap [[(ad 0, .inr (9, [.ref (ad 1), .ref (ad 2), .ref (ad 3), .ref (ad 4), .ref (ad 5), .ref (ad 6), .ref (ad 7), .int fl]))], [(ad 1, .inl (gH G, 4, .inr (.inr (.inr (.inr (fun q_ => some (sh q_)))))))], fam 4 sh (shE ca ln le), fam 4 ca (caE G ce)] H locs := hw
    refine W.eq (g2 := (F0 m 5 ls [.null])) rfl ?_
    refine lv_astoreN (lv' := [(4, .null), (0, .ref (ad 0)), (1, .int kv), (2, .int lv), (3, .int nv)]) S.1 S.2.1 dX10_sheet_5 hl (by decide) rfl (fun ls hl => ?_)
    refine lv_aloadN S.1 S.2.1 dX10_sheet_7 (lv_at hl 0 rfl) ?_
    refine lv_ifnonnullN S.1 S.2.1 dX10_sheet_9 ?_
    refine lv_aload_n S.1 S.2.1 dX10_sheet_12 rfl (lv_at hl 1 rfl) ?_
    refine lv_iconst (v := (-1)) S.1 S.2.1 dX10_sheet_13 (by decide) ?_
    refine aw_callV S hE (c_X10_refused l G ad fl (-1)) gX10_sheet_X10_refused (n := 1) rfl (by decide +kernel) rfl (by rw [hRm]; exact ⟨Nat.le_of_ble_eq_true rfl, Nat.le_of_ble_eq_true rfl⟩) (by rw [hRm]; exact ⟨Nat.le_of_ble_eq_true rfl, Nat.le_of_ble_eq_true rfl⟩) hw hA hl.1 [0] rfl rfl (aw_recv (i := 0) hE hw rfl rfl rfl) rfl (Nat.le_of_ble_eq_true rfl) dX10_sheet_14 ?_
    rintro v w1 H locs ⟨rfl, rfl⟩ hw
    have hw : bW G A s.heap [[(ad 0, .inr (9, [.ref (ad 1), .ref (ad 2), .ref (ad 3), .ref (ad 4), .ref (ad 5), .ref (ad 6), .ref (ad 7), .int 0]))], [(ad 1, .inl (gH G, 4, .inr (.inr (.inr (.inr (fun q_ => some (sh q_)))))))], fam 4 sh (shE ca ln le), fam 4 ca (caE G ce)] H locs := hw
    refine W.eq (g2 := (F0 m 17 ls [.int (-1)])) rfl ?_
    rw [fam_congr (n := 4) (r := sh) (e := (shE ca ln le)) (e' := (shE ca (f_setIf (f_sheetP kv lv nv) ln (tn kv) lv) (f_setIf (f_sheetP kv lv nv) le (tn kv) (tn nv)))) (fun _ _ => by rw [← setIf_f (show ¬ f_sheetP kv lv nv by exact fun q => hz_k q.1), ← setIf_f (show ¬ f_sheetP kv lv nv by exact fun q => hz_k q.1)])] at hw
    have hw : bW G A s.heap [[(ad 0, .inr (9, [.ref (ad 1), .ref (ad 2), .ref (ad 3), .ref (ad 4), .ref (ad 5), .ref (ad 6), .ref (ad 7), .int 0]))], [(ad 1, .inl (gH G, 4, .inr (.inr (.inr (.inr (fun q_ => some (sh q_)))))))], fam 4 sh (shE ca (f_setIf (f_sheetP kv lv nv) ln (tn kv) lv) (f_setIf (f_sheetP kv lv nv) le (tn kv) (tn nv))), fam 4 ca (caE G ce)] H locs := hw
    rw [fam_congr (n := 4) (r := ca) (e := (caE G ce)) (e' := (caE G (f_setIf (f_sheetP kv lv nv) ce (tn kv) (fun _ => 0)))) (fun _ _ => by rw [← setIf_f (show ¬ f_sheetP kv lv nv by exact fun q => hz_k q.1)])] at hw
    have hw : bW G A s.heap [[(ad 0, .inr (9, [.ref (ad 1), .ref (ad 2), .ref (ad 3), .ref (ad 4), .ref (ad 5), .ref (ad 6), .ref (ad 7), .int 0]))], [(ad 1, .inl (gH G, 4, .inr (.inr (.inr (.inr (fun q_ => some (sh q_)))))))], fam 4 sh (shE ca (f_setIf (f_sheetP kv lv nv) ln (tn kv) lv) (f_setIf (f_sheetP kv lv nv) le (tn kv) (tn nv))), fam 4 ca (caE G (f_setIf (f_sheetP kv lv nv) ce (tn kv) (fun _ => 0)))] H locs := hw
    have hw := Eq.mp (congrArg (fun z_ : Int32 => bW G A s.heap [[(ad 0, .inr (9, [.ref (ad 1), .ref (ad 2), .ref (ad 3), .ref (ad 4), .ref (ad 5), .ref (ad 6), .ref (ad 7), .int z_]))], [(ad 1, .inl (gH G, 4, .inr (.inr (.inr (.inr (fun q_ => some (sh q_)))))))], fam 4 sh (shE ca (f_setIf (f_sheetP kv lv nv) ln (tn kv) lv) (f_setIf (f_sheetP kv lv nv) le (tn kv) (tn nv))), fam 4 ca (caE G (f_setIf (f_sheetP kv lv nv) ce (tn kv) (fun _ => 0)))] H locs) (show (0 : Int32) = f_sheetF kv lv nv from (by rw [f_sheetF]; first | rw [if_neg (fun q => hz_k q.1)] | rw [if_neg (by omega)] | rw [if_pos (by omega)]))) hw
    have hw : bW G A s.heap [[(ad 0, .inr (9, [.ref (ad 1), .ref (ad 2), .ref (ad 3), .ref (ad 4), .ref (ad 5), .ref (ad 6), .ref (ad 7), .int (f_sheetF kv lv nv)]))], [(ad 1, .inl (gH G, 4, .inr (.inr (.inr (.inr (fun q_ => some (sh q_)))))))], fam 4 sh (shE ca (f_setIf (f_sheetP kv lv nv) ln (tn kv) lv) (f_setIf (f_sheetP kv lv nv) le (tn kv) (tn nv))), fam 4 ca (caE G (f_setIf (f_sheetP kv lv nv) ce (tn kv) (fun _ => 0)))] H locs := hw
    refine aw_eqi (show ((-1) : Int32) = f_sheet kv lv nv from (by rw [f_sheet]; first | rw [if_neg hz_k] | (rw [if_pos hz_k]; first | rw [if_neg (by omega)] | (rw [if_pos (by omega)]; first | (rw [if_pos (by omega)]; rfl) | rw [if_neg (by omega)])))) ?_
    exact aw_iret S hr hlk ha hQ hAe hw dX10_sheet_17 rfl (Nat.le_of_ble_eq_true rfl) (Nat.le_of_ble_eq_true rfl) ⟨rfl, rfl⟩
set_option maxRecDepth 100000 in
set_option maxHeartbeats 4000000 in
theorem c_X10_lose (l : Launch) (G : aw_G) (ad : Nat → Nat) (fl : Int32) (sh ca : Nat → Nat) (ln : Nat → Int32) (le : Nat → Nat) (ce : Nat → Nat → Int32) (kv : Int32) (hle : ∀ k, k < 4 → le k ≤ 60) : CT l G yX10_lose wsX10_lose ({ frames := 1, cells := 0, slots := 0, locals := 21 }) [.ref (ad 0), .int kv] [[(ad 0, .inr (9, [.ref (ad 1), .ref (ad 2), .ref (ad 3), .ref (ad 4), .ref (ad 5), .ref (ad 6), .ref (ad 7), .int fl]))], [(ad 1, .inl (gH G, 4, .inr (.inr (.inr (.inr (fun q_ => some (sh q_)))))))], fam 4 sh (shE ca ln le), fam 4 ca (caE G ce)] (dt (some (.int (f_lose ln kv))) [[(ad 0, .inr (9, [.ref (ad 1), .ref (ad 2), .ref (ad 3), .ref (ad 4), .ref (ad 5), .ref (ad 6), .ref (ad 7), .int fl]))], [(ad 1, .inl (gH G, 4, .inr (.inr (.inr (.inr (fun q_ => some (sh q_)))))))], fam 4 sh (shE ca (f_setIf (0 ≤ kv.toInt ∧ kv.toInt < 4) ln (tn kv) (-1)) (f_setIf (0 ≤ kv.toInt ∧ kv.toInt < 4) le (tn kv) 0)), fam 4 ca (caE G ce)]) := by
  refine CT.of (cc := cX10_lose) (nL := 4) (ret := (some .int)) (by decide) rfl (Nat.le_of_ble_eq_true rfl) ?_
  intro p e s m below meth c R args Q A hRm ha hQ hAe hA S hE hr hlk hnm H locs hH0 hL0 ls hl hw
  have S : CallFix p m c cX10_lose 4 s args wsX10_lose RX10 := S
  have hl : lv_has ls 4 [(0, .ref (ad 0)), (1, .int kv)] := hl
  by_cases hz_k : 0 ≤ kv.toInt ∧ kv.toInt < 4
  · have hb_kv : tn kv < 4 := aw_tnL hz_k
    have hl := Eq.mp (congrArg (fun z_ : Int32 => lv_has ls 4 [(0, .ref (ad 0)), (1, .int z_)]) (show (kv : Int32) = nI (tn kv) from (aw_tnE hz_k))) hl
    have hl : lv_has ls 4 [(0, .ref (ad 0)), (1, .int (nI (tn kv)))] := hl
    have hle_kv := hle _ hb_kv
    have hw := aw_out hw 2 rfl (tn kv) (by omega)
    have hw : bW G A s.heap [[(ad 0, .inr (9, [.ref (ad 1), .ref (ad 2), .ref (ad 3), .ref (ad 4), .ref (ad 5), .ref (ad 6), .ref (ad 7), .int fl]))], [(ad 1, .inl (gH G, 4, .inr (.inr (.inr (.inr (fun q_ => some (sh q_)))))))], famX 4 sh (shE ca ln le) (tn kv), fam 4 ca (caE G ce), [(sh (tn kv), .inr (7, [.ref (ca (tn kv)), .int (ln (tn kv)), .int (nI (le (tn kv)))]))]] H locs := hw
    have hw := aw_out hw 3 rfl (tn kv) (by omega)
    have hw : bW G A s.heap [[(ad 0, .inr (9, [.ref (ad 1), .ref (ad 2), .ref (ad 3), .ref (ad 4), .ref (ad 5), .ref (ad 6), .ref (ad 7), .int fl]))], [(ad 1, .inl (gH G, 4, .inr (.inr (.inr (.inr (fun q_ => some (sh q_)))))))], famX 4 sh (shE ca ln le) (tn kv), famX 4 ca (caE G ce) (tn kv), [(sh (tn kv), .inr (7, [.ref (ca (tn kv)), .int (ln (tn kv)), .int (nI (le (tn kv)))]))], [(ca (tn kv), .inl (gI G, 60, .inl (ce (tn kv))))]] H locs := hw
    refine lv_aload_n S.1 S.2.1 dX10_lose_0 rfl (lv_at hl 0 rfl) ?_
    refine lv_iload_n S.1 S.2.1 dX10_lose_1 rfl (lv_at hl 1 rfl) ?_
    refine aw_callV S hE (c_X10_sheetAt_in l G ad fl sh (tn kv) hb_kv) gX10_lose_X10_sheetAt (n := 1) rfl (by decide +kernel) rfl (by rw [hRm]; exact ⟨Nat.le_of_ble_eq_true rfl, Nat.le_of_ble_eq_true rfl⟩) (by rw [hRm]; exact ⟨Nat.le_of_ble_eq_true rfl, Nat.le_of_ble_eq_true rfl⟩) hw hA hl.1 [0, 1] rfl rfl (aw_recv (i := 0) hE hw rfl rfl rfl) rfl (Nat.le_of_ble_eq_true rfl) dX10_lose_2 ?_
    rintro v w1 H locs ⟨rfl, rfl⟩ hw
    have hw : bW G A s.heap [[(ad 0, .inr (9, [.ref (ad 1), .ref (ad 2), .ref (ad 3), .ref (ad 4), .ref (ad 5), .ref (ad 6), .ref (ad 7), .int fl]))], [(ad 1, .inl (gH G, 4, .inr (.inr (.inr (.inr (fun q_ => some (sh q_)))))))], famX 4 sh (shE ca ln le) (tn kv), famX 4 ca (caE G ce) (tn kv), [(sh (tn kv), .inr (7, [.ref (ca (tn kv)), .int (ln (tn kv)), .int (nI (le (tn kv)))]))], [(ca (tn kv), .inl (gI G, 60, .inl (ce (tn kv))))]] H locs := hw
    refine W.eq (g2 := (F0 m 5 ls [.ref (sh (tn kv))])) rfl ?_
    refine lv_astore_n (lv' := [(2, .ref (sh (tn kv))), (0, .ref (ad 0)), (1, .int (nI (tn kv)))]) S.1 S.2.1 dX10_lose_5 rfl hl (by decide) rfl (fun ls hl => ?_)
    refine lv_aload_n S.1 S.2.1 dX10_lose_6 rfl (lv_at hl 0 rfl) ?_
    refine lv_ifnonnull (tgt := 12) S.1 S.2.1 dX10_lose_7 (by decide) ?_
    refine lv_aload_n S.1 S.2.1 dX10_lose_12 rfl (lv_at hl 0 rfl) ?_
    refine aw_callV S hE (c_X7_isNothing l G (sh (tn kv)) (ca (tn kv)) (ln (tn kv)) (le (tn kv))) gX10_lose_X7_isNothing (n := 0) rfl (by decide +kernel) rfl (by rw [hRm]; exact ⟨Nat.le_of_ble_eq_true rfl, Nat.le_of_ble_eq_true rfl⟩) (by rw [hRm]; exact ⟨Nat.le_of_ble_eq_true rfl, Nat.le_of_ble_eq_true rfl⟩) hw hA hl.1 [4] rfl rfl (aw_recv (i := 4) hE hw rfl rfl rfl) rfl (Nat.le_of_ble_eq_true rfl) dX10_lose_13 ?_
    rintro v w1 H locs ⟨rfl, rfl⟩ hw
    have hw : bW G A s.heap [[(ad 0, .inr (9, [.ref (ad 1), .ref (ad 2), .ref (ad 3), .ref (ad 4), .ref (ad 5), .ref (ad 6), .ref (ad 7), .int fl]))], [(ad 1, .inl (gH G, 4, .inr (.inr (.inr (.inr (fun q_ => some (sh q_)))))))], famX 4 sh (shE ca ln le) (tn kv), famX 4 ca (caE G ce) (tn kv), [(sh (tn kv), .inr (7, [.ref (ca (tn kv)), .int (ln (tn kv)), .int (nI (le (tn kv)))]))], [(ca (tn kv), .inl (gI G, 60, .inl (ce (tn kv))))]] H locs := hw
    refine W.eq (g2 := (F0 m 16 ls [.int (if (ln (tn kv)) = -1 then 1 else 0)])) rfl ?_
    have join24 : ∀ (H : Heap) (locs : List Loc), ∀ (ls : Array Slot), lv_has ls 4 [(2, .ref (sh (tn kv))), (0, .ref (ad 0)), (1, .int (nI (tn kv)))] → bW G A s.heap [[(ad 0, .inr (9, [.ref (ad 1), .ref (ad 2), .ref (ad 3), .ref (ad 4), .ref (ad 5), .ref (ad 6), .ref (ad 7), .int fl]))], [(ad 1, .inl (gH G, 4, .inr (.inr (.inr (.inr (fun q_ => some (sh q_)))))))], famX 4 sh (shE ca ln le) (tn kv), famX 4 ca (caE G ce) (tn kv), [(sh (tn kv), .inr (7, [.ref (ca (tn kv)), .int (ln (tn kv)), .int (nI (le (tn kv)))]))], [(ca (tn kv), .inl (gI G, 60, .inl (ce (tn kv))))]] H locs → W p l e R s m args below meth c H locs 0 0 Q (F0 m 24 ls [.int (if ln (tn kv) = -1 then 0 else 1)]) := by
      intro  H locs ls hl hw
      refine lv_istore_n (lv' := [(3, .int (if ln (tn kv) = -1 then 0 else 1)), (2, .ref (sh (tn kv))), (0, .ref (ad 0)), (1, .int (nI (tn kv)))]) S.1 S.2.1 dX10_lose_24 rfl hl (by decide) rfl (fun ls hl => ?_)
      refine lv_aload_n S.1 S.2.1 dX10_lose_25 rfl (lv_at hl 1 rfl) ?_
      refine aw_callV S hE (c_X7_drop l G (sh (tn kv)) (ca (tn kv)) (ln (tn kv)) (le (tn kv))) gX10_lose_X7_drop (n := 0) rfl (by decide +kernel) rfl (by rw [hRm]; exact ⟨Nat.le_of_ble_eq_true rfl, Nat.le_of_ble_eq_true rfl⟩) (by rw [hRm]; exact ⟨Nat.le_of_ble_eq_true rfl, Nat.le_of_ble_eq_true rfl⟩) hw hA hl.1 [4] rfl rfl (aw_recv (i := 4) hE hw rfl rfl rfl) rfl (Nat.le_of_ble_eq_true rfl) dX10_lose_26 ?_
      rintro v w1 H locs ⟨rfl, rfl⟩ hw
      have hw : bW G A s.heap [[(ad 0, .inr (9, [.ref (ad 1), .ref (ad 2), .ref (ad 3), .ref (ad 4), .ref (ad 5), .ref (ad 6), .ref (ad 7), .int fl]))], [(ad 1, .inl (gH G, 4, .inr (.inr (.inr (.inr (fun q_ => some (sh q_)))))))], famX 4 sh (shE ca ln le) (tn kv), famX 4 ca (caE G ce) (tn kv), [((sh (tn kv)), .inr (7, [.ref (ca (tn kv)), .int (-1), .int (nI 0)]))], [(ca (tn kv), .inl (gI G, 60, .inl (ce (tn kv))))]] H locs := hw
      refine W.eq (g2 := (F0 m 29 ls [])) rfl ?_
      refine lv_iload_n S.1 S.2.1 dX10_lose_29 rfl (lv_at hl 0 rfl) ?_
      have hw := aw_inS [[(ad 0, .inr (9, [.ref (ad 1), .ref (ad 2), .ref (ad 3), .ref (ad 4), .ref (ad 5), .ref (ad 6), .ref (ad 7), .int fl]))], [(ad 1, .inl (gH G, 4, .inr (.inr (.inr (.inr (fun q_ => some (sh q_)))))))], famX 4 sh (shE ca ln le) (tn kv), famX 4 ca (caE G ce) (tn kv), [((sh (tn kv)), .inr (7, [.ref (ca (tn kv)), .int (-1), .int (nI 0)]))]] hw 3 rfl (by omega)
      have hw : bW G A s.heap [[(ad 0, .inr (9, [.ref (ad 1), .ref (ad 2), .ref (ad 3), .ref (ad 4), .ref (ad 5), .ref (ad 6), .ref (ad 7), .int fl]))], [(ad 1, .inl (gH G, 4, .inr (.inr (.inr (.inr (fun q_ => some (sh q_)))))))], famX 4 sh (shE ca ln le) (tn kv), fam 4 ca (caE G ce), [((sh (tn kv)), .inr (7, [.ref (ca (tn kv)), .int (-1), .int (nI 0)]))]] H locs := hw
      have hw := aw_in [[(ad 0, .inr (9, [.ref (ad 1), .ref (ad 2), .ref (ad 3), .ref (ad 4), .ref (ad 5), .ref (ad 6), .ref (ad 7), .int fl]))], [(ad 1, .inl (gH G, 4, .inr (.inr (.inr (.inr (fun q_ => some (sh q_)))))))], famX 4 sh (shE ca ln le) (tn kv), fam 4 ca (caE G ce)] hw 2 rfl (by omega)
      rw [fam_congr (e' := shE ca (va_up ln (tn kv) (-1)) (va_up le (tn kv) 0)) (fun j _ => congrFun shE_set j)] at hw
      have hw : bW G A s.heap [[(ad 0, .inr (9, [.ref (ad 1), .ref (ad 2), .ref (ad 3), .ref (ad 4), .ref (ad 5), .ref (ad 6), .ref (ad 7), .int fl]))], [(ad 1, .inl (gH G, 4, .inr (.inr (.inr (.inr (fun q_ => some (sh q_)))))))], fam 4 sh (shE ca (va_up ln (tn kv) (-1)) (va_up le (tn kv) 0)), fam 4 ca (caE G ce)] H locs := hw
      rw [fam_congr (n := 4) (r := sh) (e := (shE ca (va_up ln (tn kv) (-1)) (va_up le (tn kv) 0))) (e' := (shE ca (f_setIf (0 ≤ kv.toInt ∧ kv.toInt < 4) ln (tn kv) (-1)) (f_setIf (0 ≤ kv.toInt ∧ kv.toInt < 4) le (tn kv) 0))) (fun _ _ => by rw [← setIf_t hz_k, ← setIf_t hz_k])] at hw
      have hw : bW G A s.heap [[(ad 0, .inr (9, [.ref (ad 1), .ref (ad 2), .ref (ad 3), .ref (ad 4), .ref (ad 5), .ref (ad 6), .ref (ad 7), .int fl]))], [(ad 1, .inl (gH G, 4, .inr (.inr (.inr (.inr (fun q_ => some (sh q_)))))))], fam 4 sh (shE ca (f_setIf (0 ≤ kv.toInt ∧ kv.toInt < 4) ln (tn kv) (-1)) (f_setIf (0 ≤ kv.toInt ∧ kv.toInt < 4) le (tn kv) 0)), fam 4 ca (caE G ce)] H locs := hw
      refine aw_eqi (show (if ln (tn kv) = -1 then 0 else 1 : Int32) = f_lose ln kv from (by rw [f_lose]; first | rw [if_neg hz_k] | rw [if_pos hz_k])) ?_
      exact aw_iret S hr hlk ha hQ hAe hw dX10_lose_30 rfl (Nat.le_of_ble_eq_true rfl) (Nat.le_of_ble_eq_true rfl) ⟨rfl, rfl⟩
    refine aw_ifeq (P := (ln (tn kv)) = -1) (tgt := 23) S dX10_lose_16 (by decide) (fun c16 => ?_) (fun c16 => ?_)
    · refine lv_iconst (v := 1) S.1 S.2.1 dX10_lose_23 (by decide) ?_
      refine aw_eqi (show (1 : Int32) = if ln (tn kv) = -1 then 0 else 1 from (by first | rw [if_pos c16] | rw [if_neg c16])) ?_
      exact join24  _ _ _ (lv_sub hl [0, 1, 2] rfl) hw
    · refine lv_iconst (v := 0) S.1 S.2.1 dX10_lose_19 (by decide) ?_
      refine lv_goto (tgt := 24) S.1 S.2.1 dX10_lose_20 (by decide) ?_
      refine aw_eqi (show (0 : Int32) = if ln (tn kv) = -1 then 0 else 1 from (by first | rw [if_pos c16] | rw [if_neg c16])) ?_
      exact join24  _ _ _ (lv_sub hl [0, 1, 2] rfl) hw
  · refine lv_aload_n S.1 S.2.1 dX10_lose_0 rfl (lv_at hl 0 rfl) ?_
    refine lv_iload_n S.1 S.2.1 dX10_lose_1 rfl (lv_at hl 1 rfl) ?_
    refine aw_callV S hE (c_X10_sheetAt_out l G ad fl sh kv hz_k) gX10_lose_X10_sheetAt (n := 1) rfl (by decide +kernel) rfl (by rw [hRm]; exact ⟨Nat.le_of_ble_eq_true rfl, Nat.le_of_ble_eq_true rfl⟩) (by rw [hRm]; exact ⟨Nat.le_of_ble_eq_true rfl, Nat.le_of_ble_eq_true rfl⟩) hw hA hl.1 [0, 1] rfl rfl (aw_recv (i := 0) hE hw rfl rfl rfl) rfl (Nat.le_of_ble_eq_true rfl) dX10_lose_2 ?_
    rintro v w1 H locs ⟨rfl, rfl⟩ hw
    have hw : bW G A s.heap [[(ad 0, .inr (9, [.ref (ad 1), .ref (ad 2), .ref (ad 3), .ref (ad 4), .ref (ad 5), .ref (ad 6), .ref (ad 7), .int fl]))], [(ad 1, .inl (gH G, 4, .inr (.inr (.inr (.inr (fun q_ => some (sh q_)))))))], fam 4 sh (shE ca ln le), fam 4 ca (caE G ce)] H locs := hw
    refine W.eq (g2 := (F0 m 5 ls [.null])) rfl ?_
    refine lv_astore_nN (lv' := [(2, .null), (0, .ref (ad 0)), (1, .int kv)]) S.1 S.2.1 dX10_lose_5 rfl hl (by decide) rfl (fun ls hl => ?_)
    refine lv_aload_nN S.1 S.2.1 dX10_lose_6 rfl (lv_at hl 0 rfl) ?_
    refine lv_ifnonnullN S.1 S.2.1 dX10_lose_7 ?_
    refine lv_iconst (v := (-1)) S.1 S.2.1 dX10_lose_10 (by decide) ?_
    rw [fam_congr (n := 4) (r := sh) (e := (shE ca ln le)) (e' := (shE ca (f_setIf (0 ≤ kv.toInt ∧ kv.toInt < 4) ln (tn kv) (-1)) (f_setIf (0 ≤ kv.toInt ∧ kv.toInt < 4) le (tn kv) 0))) (fun _ _ => by rw [← setIf_f hz_k, ← setIf_f hz_k])] at hw
    have hw : bW G A s.heap [[(ad 0, .inr (9, [.ref (ad 1), .ref (ad 2), .ref (ad 3), .ref (ad 4), .ref (ad 5), .ref (ad 6), .ref (ad 7), .int fl]))], [(ad 1, .inl (gH G, 4, .inr (.inr (.inr (.inr (fun q_ => some (sh q_)))))))], fam 4 sh (shE ca (f_setIf (0 ≤ kv.toInt ∧ kv.toInt < 4) ln (tn kv) (-1)) (f_setIf (0 ≤ kv.toInt ∧ kv.toInt < 4) le (tn kv) 0)), fam 4 ca (caE G ce)] H locs := hw
    refine aw_eqi (show ((-1) : Int32) = f_lose ln kv from (by rw [f_lose]; first | rw [if_neg hz_k] | rw [if_pos hz_k])) ?_
    exact aw_iret S hr hlk ha hQ hAe hw dX10_lose_11 rfl (Nat.le_of_ble_eq_true rfl) (Nat.le_of_ble_eq_true rfl) ⟨rfl, rfl⟩
set_option maxRecDepth 100000 in
set_option maxHeartbeats 4000000 in
theorem c_X10_put (l : Launch) (G : aw_G) (ad : Nat → Nat) (fl : Int32) (sh ca : Nat → Nat) (ln : Nat → Int32) (le : Nat → Nat) (ce : Nat → Nat → Int32) (kv iv v : Int32) (hle : ∀ k, k < 4 → le k ≤ 60) : CT l G yX10_put wsX10_put ({ frames := 1, cells := 0, slots := 0, locals := 21 }) [.ref (ad 0), .int kv, .int iv, .int v] [[(ad 0, .inr (9, [.ref (ad 1), .ref (ad 2), .ref (ad 3), .ref (ad 4), .ref (ad 5), .ref (ad 6), .ref (ad 7), .int fl]))], [(ad 1, .inl (gH G, 4, .inr (.inr (.inr (.inr (fun q_ => some (sh q_)))))))], fam 4 sh (shE ca ln le), fam 4 ca (caE G ce)] (dt (some (.int (f_put ln le kv iv))) [[(ad 0, .inr (9, [.ref (ad 1), .ref (ad 2), .ref (ad 3), .ref (ad 4), .ref (ad 5), .ref (ad 6), .ref (ad 7), .int (f_putF ln le kv iv)]))], [(ad 1, .inl (gH G, 4, .inr (.inr (.inr (.inr (fun q_ => some (sh q_)))))))], fam 4 sh (shE ca ln le), fam 4 ca (caE G (f_setIf (f_putP ln le kv iv) ce (tn kv) (upd (ce (tn kv)) (tn iv) (cutF (ln (tn kv)) v))))]) := by
  refine CT.of (cc := cX10_put) (nL := 5) (ret := (some .int)) (by decide) rfl (Nat.le_of_ble_eq_true rfl) ?_
  intro p e s m below meth c R args Q A hRm ha hQ hAe hA S hE hr hlk hnm H locs hH0 hL0 ls hl hw
  have S : CallFix p m c cX10_put 5 s args wsX10_put RX10 := S
  have hl : lv_has ls 5 [(0, .ref (ad 0)), (1, .int kv), (2, .int iv), (3, .int v)] := hl
  have hinX7 : ∀ w ∈ u_ws RX7 TX7 3, w ∈ wsX10_put := by decide +kernel
  have hf233 := S.2.2.2.2 (.fieldLink RX10 233 "AwakeTurns$Sheet" "length" "I") (by decide +kernel)
  have hinX10 : ∀ w ∈ u_ws RX10 TX10 8, w ∈ wsX10_put := by decide +kernel
  have hf59 := S.2.2.2.2 (.fieldLink RX10 59 "AwakeTurns" "lastFault" "I") (by decide +kernel)
  have hf82 := S.2.2.2.2 (.fieldLink RX10 82 "AwakeTurns$Sheet" "cells" "[I") (by decide +kernel)
  by_cases hz_k : 0 ≤ kv.toInt ∧ kv.toInt < 4
  · have hb_kv : tn kv < 4 := aw_tnL hz_k
    have hl := Eq.mp (congrArg (fun z_ : Int32 => lv_has ls 5 [(0, .ref (ad 0)), (1, .int z_), (2, .int iv), (3, .int v)]) (show (kv : Int32) = nI (tn kv) from (aw_tnE hz_k))) hl
    have hl : lv_has ls 5 [(0, .ref (ad 0)), (1, .int (nI (tn kv))), (2, .int iv), (3, .int v)] := hl
    have hle_kv := hle _ hb_kv
    have hw := aw_out hw 2 rfl (tn kv) (by omega)
    have hw : bW G A s.heap [[(ad 0, .inr (9, [.ref (ad 1), .ref (ad 2), .ref (ad 3), .ref (ad 4), .ref (ad 5), .ref (ad 6), .ref (ad 7), .int fl]))], [(ad 1, .inl (gH G, 4, .inr (.inr (.inr (.inr (fun q_ => some (sh q_)))))))], famX 4 sh (shE ca ln le) (tn kv), fam 4 ca (caE G ce), [(sh (tn kv), .inr (7, [.ref (ca (tn kv)), .int (ln (tn kv)), .int (nI (le (tn kv)))]))]] H locs := hw
    have hw := aw_out hw 3 rfl (tn kv) (by omega)
    have hw : bW G A s.heap [[(ad 0, .inr (9, [.ref (ad 1), .ref (ad 2), .ref (ad 3), .ref (ad 4), .ref (ad 5), .ref (ad 6), .ref (ad 7), .int fl]))], [(ad 1, .inl (gH G, 4, .inr (.inr (.inr (.inr (fun q_ => some (sh q_)))))))], famX 4 sh (shE ca ln le) (tn kv), famX 4 ca (caE G ce) (tn kv), [(sh (tn kv), .inr (7, [.ref (ca (tn kv)), .int (ln (tn kv)), .int (nI (le (tn kv)))]))], [(ca (tn kv), .inl (gI G, 60, .inl (ce (tn kv))))]] H locs := hw
    refine lv_aload_n S.1 S.2.1 dX10_put_0 rfl (lv_at hl 0 rfl) ?_
    refine lv_iload_n S.1 S.2.1 dX10_put_1 rfl (lv_at hl 1 rfl) ?_
    refine aw_callV S hE (c_X10_sheetAt_in l G ad fl sh (tn kv) hb_kv) gX10_put_X10_sheetAt (n := 1) rfl (by decide +kernel) rfl (by rw [hRm]; exact ⟨Nat.le_of_ble_eq_true rfl, Nat.le_of_ble_eq_true rfl⟩) (by rw [hRm]; exact ⟨Nat.le_of_ble_eq_true rfl, Nat.le_of_ble_eq_true rfl⟩) hw hA hl.1 [0, 1] rfl rfl (aw_recv (i := 0) hE hw rfl rfl rfl) rfl (Nat.le_of_ble_eq_true rfl) dX10_put_2 ?_
    rintro v w1 H locs ⟨rfl, rfl⟩ hw
    have hw : bW G A s.heap [[(ad 0, .inr (9, [.ref (ad 1), .ref (ad 2), .ref (ad 3), .ref (ad 4), .ref (ad 5), .ref (ad 6), .ref (ad 7), .int fl]))], [(ad 1, .inl (gH G, 4, .inr (.inr (.inr (.inr (fun q_ => some (sh q_)))))))], famX 4 sh (shE ca ln le) (tn kv), famX 4 ca (caE G ce) (tn kv), [(sh (tn kv), .inr (7, [.ref (ca (tn kv)), .int (ln (tn kv)), .int (nI (le (tn kv)))]))], [(ca (tn kv), .inl (gI G, 60, .inl (ce (tn kv))))]] H locs := hw
    refine W.eq (g2 := (F0 m 5 ls [.ref (sh (tn kv))])) rfl ?_
    refine lv_astore (lv' := [(4, .ref (sh (tn kv))), (0, .ref (ad 0)), (1, .int (nI (tn kv))), (2, .int iv), (3, .int v)]) S.1 S.2.1 dX10_put_5 hl (by decide) rfl (fun ls hl => ?_)
    refine lv_aload S.1 S.2.1 dX10_put_7 (lv_at hl 0 rfl) ?_
    refine lv_ifnonnull (tgt := 18) S.1 S.2.1 dX10_put_9 (by decide) ?_
    refine lv_aload S.1 S.2.1 dX10_put_18 (lv_at hl 0 rfl) ?_
    refine aw_callV S hE (c_X7_isNothing l G (sh (tn kv)) (ca (tn kv)) (ln (tn kv)) (le (tn kv))) gX10_put_X7_isNothing (n := 0) rfl (by decide +kernel) rfl (by rw [hRm]; exact ⟨Nat.le_of_ble_eq_true rfl, Nat.le_of_ble_eq_true rfl⟩) (by rw [hRm]; exact ⟨Nat.le_of_ble_eq_true rfl, Nat.le_of_ble_eq_true rfl⟩) hw hA hl.1 [4] rfl rfl (aw_recv (i := 4) hE hw rfl rfl rfl) rfl (Nat.le_of_ble_eq_true rfl) dX10_put_20 ?_
    rintro v w1 H locs ⟨rfl, rfl⟩ hw
    have hw : bW G A s.heap [[(ad 0, .inr (9, [.ref (ad 1), .ref (ad 2), .ref (ad 3), .ref (ad 4), .ref (ad 5), .ref (ad 6), .ref (ad 7), .int fl]))], [(ad 1, .inl (gH G, 4, .inr (.inr (.inr (.inr (fun q_ => some (sh q_)))))))], famX 4 sh (shE ca ln le) (tn kv), famX 4 ca (caE G ce) (tn kv), [(sh (tn kv), .inr (7, [.ref (ca (tn kv)), .int (ln (tn kv)), .int (nI (le (tn kv)))]))], [(ca (tn kv), .inl (gI G, 60, .inl (ce (tn kv))))]] H locs := hw
    refine W.eq (g2 := (F0 m 23 ls [.int (if (ln (tn kv)) = -1 then 1 else 0)])) rfl ?_
    refine aw_ifeq (P := (ln (tn kv)) = -1) (tgt := 32) S dX10_put_23 (by decide) (fun c23 => ?_) (fun c23 => ?_)
    · refine lv_iload_n S.1 S.2.1 dX10_put_32 rfl (lv_at hl 3 rfl) ?_
      refine lv_if_lt (tgt := 45) S.1 S.2.1 dX10_put_33 (by decide) (fun c33 => ?_) (fun c33 => ?_)
      · rw [fa_lt, li_0] at c33
        have hiv : ¬ (0 ≤ iv.toInt ∧ iv.toInt < le (tn kv)) := by omega
        refine lv_aload_n S.1 S.2.1 dX10_put_45 rfl (lv_at hl 1 rfl) ?_
        refine lv_iconst (v := 3) S.1 S.2.1 dX10_put_46 (by decide) ?_
        refine aw_callV S hE (c_X10_failed l G ad fl 3) gX10_put_X10_failed (n := 1) rfl (by decide +kernel) rfl (by rw [hRm]; exact ⟨Nat.le_of_ble_eq_true rfl, Nat.le_of_ble_eq_true rfl⟩) (by rw [hRm]; exact ⟨Nat.le_of_ble_eq_true rfl, Nat.le_of_ble_eq_true rfl⟩) hw hA hl.1 [0] rfl rfl (aw_recv (i := 0) hE hw rfl rfl rfl) rfl (Nat.le_of_ble_eq_true rfl) dX10_put_47 ?_
        rintro v w1 H locs ⟨rfl, rfl⟩ hw
        have hw : bW G A s.heap [[(ad 0, .inr (9, [.ref (ad 1), .ref (ad 2), .ref (ad 3), .ref (ad 4), .ref (ad 5), .ref (ad 6), .ref (ad 7), .int 3]))], [(ad 1, .inl (gH G, 4, .inr (.inr (.inr (.inr (fun q_ => some (sh q_)))))))], famX 4 sh (shE ca ln le) (tn kv), famX 4 ca (caE G ce) (tn kv), [(sh (tn kv), .inr (7, [.ref (ca (tn kv)), .int (ln (tn kv)), .int (nI (le (tn kv)))]))], [(ca (tn kv), .inl (gI G, 60, .inl (ce (tn kv))))]] H locs := hw
        refine W.eq (g2 := (F0 m 50 ls [.int (-10 - 3)])) rfl ?_
        have hw := aw_inS [[(ad 0, .inr (9, [.ref (ad 1), .ref (ad 2), .ref (ad 3), .ref (ad 4), .ref (ad 5), .ref (ad 6), .ref (ad 7), .int 3]))], [(ad 1, .inl (gH G, 4, .inr (.inr (.inr (.inr (fun q_ => some (sh q_)))))))], famX 4 sh (shE ca ln le) (tn kv), famX 4 ca (caE G ce) (tn kv), [(sh (tn kv), .inr (7, [.ref (ca (tn kv)), .int (ln (tn kv)), .int (nI (le (tn kv)))]))]] hw 3 rfl (by omega)
        have hw : bW G A s.heap [[(ad 0, .inr (9, [.ref (ad 1), .ref (ad 2), .ref (ad 3), .ref (ad 4), .ref (ad 5), .ref (ad 6), .ref (ad 7), .int 3]))], [(ad 1, .inl (gH G, 4, .inr (.inr (.inr (.inr (fun q_ => some (sh q_)))))))], famX 4 sh (shE ca ln le) (tn kv), fam 4 ca (caE G ce), [(sh (tn kv), .inr (7, [.ref (ca (tn kv)), .int (ln (tn kv)), .int (nI (le (tn kv)))]))]] H locs := hw
        have hw := aw_inS [[(ad 0, .inr (9, [.ref (ad 1), .ref (ad 2), .ref (ad 3), .ref (ad 4), .ref (ad 5), .ref (ad 6), .ref (ad 7), .int 3]))], [(ad 1, .inl (gH G, 4, .inr (.inr (.inr (.inr (fun q_ => some (sh q_)))))))], famX 4 sh (shE ca ln le) (tn kv), fam 4 ca (caE G ce)] hw 2 rfl (by omega)
        have hw : bW G A s.heap [[(ad 0, .inr (9, [.ref (ad 1), .ref (ad 2), .ref (ad 3), .ref (ad 4), .ref (ad 5), .ref (ad 6), .ref (ad 7), .int 3]))], [(ad 1, .inl (gH G, 4, .inr (.inr (.inr (.inr (fun q_ => some (sh q_)))))))], fam 4 sh (shE ca ln le), fam 4 ca (caE G ce)] H locs := hw
        rw [fam_congr (n := 4) (r := ca) (e := (caE G ce)) (e' := (caE G (f_setIf (f_putP ln le kv iv) ce (tn kv) (upd (ce (tn kv)) (tn iv) (cutF (ln (tn kv)) v))))) (fun _ _ => by rw [← setIf_f (show ¬ f_putP ln le kv iv from fun q => hiv q.2.2)])] at hw
        have hw : bW G A s.heap [[(ad 0, .inr (9, [.ref (ad 1), .ref (ad 2), .ref (ad 3), .ref (ad 4), .ref (ad 5), .ref (ad 6), .ref (ad 7), .int 3]))], [(ad 1, .inl (gH G, 4, .inr (.inr (.inr (.inr (fun q_ => some (sh q_)))))))], fam 4 sh (shE ca ln le), fam 4 ca (caE G (f_setIf (f_putP ln le kv iv) ce (tn kv) (upd (ce (tn kv)) (tn iv) (cutF (ln (tn kv)) v))))] H locs := hw
        have hw := Eq.mp (congrArg (fun z_ : Int32 => bW G A s.heap [[(ad 0, .inr (9, [.ref (ad 1), .ref (ad 2), .ref (ad 3), .ref (ad 4), .ref (ad 5), .ref (ad 6), .ref (ad 7), .int z_]))], [(ad 1, .inl (gH G, 4, .inr (.inr (.inr (.inr (fun q_ => some (sh q_)))))))], fam 4 sh (shE ca ln le), fam 4 ca (caE G (f_setIf (f_putP ln le kv iv) ce (tn kv) (upd (ce (tn kv)) (tn iv) (cutF (ln (tn kv)) v))))] H locs) (show (3 : Int32) = f_putF ln le kv iv from (by rw [f_putF]; first | rw [if_neg hz_k] | (rw [if_pos hz_k]; first | rw [if_pos c23] | (rw [if_neg c23]; first | rw [if_pos hiv] | rw [if_neg hiv]))))) hw
        have hw : bW G A s.heap [[(ad 0, .inr (9, [.ref (ad 1), .ref (ad 2), .ref (ad 3), .ref (ad 4), .ref (ad 5), .ref (ad 6), .ref (ad 7), .int (f_putF ln le kv iv)]))], [(ad 1, .inl (gH G, 4, .inr (.inr (.inr (.inr (fun q_ => some (sh q_)))))))], fam 4 sh (shE ca ln le), fam 4 ca (caE G (f_setIf (f_putP ln le kv iv) ce (tn kv) (upd (ce (tn kv)) (tn iv) (cutF (ln (tn kv)) v))))] H locs := hw
        refine aw_eqi (show (-10 - 3 : Int32) = f_put ln le kv iv from (by rw [f_put]; first | rw [if_neg hz_k] | (rw [if_pos hz_k]; first | (rw [if_pos c23]; rfl) | (rw [if_neg c23]; first | rw [if_pos hiv] | (rw [if_neg hiv]; rfl))))) ?_
        exact aw_iret S hr hlk ha hQ hAe hw dX10_put_50 rfl (Nat.le_of_ble_eq_true rfl) (Nat.le_of_ble_eq_true rfl) ⟨rfl, rfl⟩
      · rw [fa_lt, li_0] at c33
        refine lv_iload_n S.1 S.2.1 dX10_put_36 rfl (lv_at hl 3 rfl) ?_
        refine lv_aload S.1 S.2.1 dX10_put_37 (lv_at hl 0 rfl) ?_
        refine aw_get S hE hw 4 (C := RX7) (T := TX7) (N := 3) rfl rfl hinX7 2 (by decide) hf233 rfl dX10_put_39 ?_
        refine lv_icmp_lt (tgt := 51) S.1 S.2.1 dX10_put_42 (by decide) (fun c42 => ?_) (fun c42 => ?_)
        · rw [fa_lt, nI_toInt (show le (tn kv) < 2 ^ 31 by omega)] at c42
          have hiv : 0 ≤ iv.toInt ∧ iv.toInt < le (tn kv) := by omega
          have hb_iv : tn iv < le (tn kv) := aw_tnL hiv
          have hl := Eq.mp (congrArg (fun z_ : Int32 => lv_has ls 5 [(4, .ref (sh (tn kv))), (0, .ref (ad 0)), (1, .int (nI (tn kv))), (2, .int z_), (3, .int v)]) (show (iv : Int32) = nI (tn iv) from (aw_tnE hiv))) hl
          have hl : lv_has ls 5 [(4, .ref (sh (tn kv))), (0, .ref (ad 0)), (1, .int (nI (tn kv))), (2, .int (nI (tn iv))), (3, .int v)] := hl
          refine lv_aload_n S.1 S.2.1 dX10_put_51 rfl (lv_at hl 1 rfl) ?_
          refine lv_iconst (v := 0) S.1 S.2.1 dX10_put_52 (by decide) ?_
          refine aw_putf S hE hw 0 (C := RX10) (T := TX10) (N := 8) rfl rfl hinX10 tyX10 tyX10_ok nmX10 7 (by decide) hf59 rfl rfl rfl (Nat.le_of_ble_eq_true rfl) dX10_put_53 (fun H locs hw => ?_)
          have hw : bW G A s.heap [[(ad 0, .inr (9, [.ref (ad 1), .ref (ad 2), .ref (ad 3), .ref (ad 4), .ref (ad 5), .ref (ad 6), .ref (ad 7), .int 0]))], [(ad 1, .inl (gH G, 4, .inr (.inr (.inr (.inr (fun q_ => some (sh q_)))))))], famX 4 sh (shE ca ln le) (tn kv), famX 4 ca (caE G ce) (tn kv), [(sh (tn kv), .inr (7, [.ref (ca (tn kv)), .int (ln (tn kv)), .int (nI (le (tn kv)))]))], [(ca (tn kv), .inl (gI G, 60, .inl (ce (tn kv))))]] H locs := hw
          refine lv_aload S.1 S.2.1 dX10_put_56 (lv_at hl 0 rfl) ?_
          refine aw_get S hE hw 4 (C := RX7) (T := TX7) (N := 3) rfl rfl hinX7 0 (by decide) hf82 rfl dX10_put_58 ?_
          refine lv_iload_n S.1 S.2.1 dX10_put_61 rfl (lv_at hl 3 rfl) ?_
          refine lv_aload S.1 S.2.1 dX10_put_62 (lv_at hl 0 rfl) ?_
          refine lv_iload_n S.1 S.2.1 dX10_put_64 rfl (lv_at hl 4 rfl) ?_
          refine aw_callV S hE (c_X7_cut l G (sh (tn kv)) (ca (tn kv)) (ln (tn kv)) (le (tn kv)) v) gX10_put_X7_cut (n := 1) rfl (by decide +kernel) rfl (by rw [hRm]; exact ⟨Nat.le_of_ble_eq_true rfl, Nat.le_of_ble_eq_true rfl⟩) (by rw [hRm]; exact ⟨Nat.le_of_ble_eq_true rfl, Nat.le_of_ble_eq_true rfl⟩) hw hA hl.1 [4] rfl rfl (aw_recv (i := 4) hE hw rfl rfl rfl) rfl (Nat.le_of_ble_eq_true rfl) dX10_put_65 ?_
          rintro v w1 H locs ⟨rfl, rfl⟩ hw
          have hw : bW G A s.heap [[(ad 0, .inr (9, [.ref (ad 1), .ref (ad 2), .ref (ad 3), .ref (ad 4), .ref (ad 5), .ref (ad 6), .ref (ad 7), .int 0]))], [(ad 1, .inl (gH G, 4, .inr (.inr (.inr (.inr (fun q_ => some (sh q_)))))))], famX 4 sh (shE ca ln le) (tn kv), famX 4 ca (caE G ce) (tn kv), [(sh (tn kv), .inr (7, [.ref (ca (tn kv)), .int (ln (tn kv)), .int (nI (le (tn kv)))]))], [(ca (tn kv), .inl (gI G, 60, .inl (ce (tn kv))))]] H locs := hw
          refine W.eq (g2 := (F0 m 68 ls [.int (cutF (ln (tn kv)) v), .int (nI (tn iv)), .ref (ca (tn kv))])) rfl ?_
          refine aw_iast S hE hw 5 (k := (tn iv)) rfl (by omega) (by decide) dX10_put_68 (fun H locs hw => ?_)
          have hw : bW G A s.heap [[(ad 0, .inr (9, [.ref (ad 1), .ref (ad 2), .ref (ad 3), .ref (ad 4), .ref (ad 5), .ref (ad 6), .ref (ad 7), .int 0]))], [(ad 1, .inl (gH G, 4, .inr (.inr (.inr (.inr (fun q_ => some (sh q_)))))))], famX 4 sh (shE ca ln le) (tn kv), famX 4 ca (caE G ce) (tn kv), [(sh (tn kv), .inr (7, [.ref (ca (tn kv)), .int (ln (tn kv)), .int (nI (le (tn kv)))]))], [(ca (tn kv), .inl (gI G, 60, .inl (upd (ce (tn kv)) (tn iv) (cutF (ln (tn kv)) v))))]] H locs := hw
          refine lv_iconst (v := 1) S.1 S.2.1 dX10_put_69 (by decide) ?_
          have hw := aw_in [[(ad 0, .inr (9, [.ref (ad 1), .ref (ad 2), .ref (ad 3), .ref (ad 4), .ref (ad 5), .ref (ad 6), .ref (ad 7), .int 0]))], [(ad 1, .inl (gH G, 4, .inr (.inr (.inr (.inr (fun q_ => some (sh q_)))))))], famX 4 sh (shE ca ln le) (tn kv), famX 4 ca (caE G ce) (tn kv), [(sh (tn kv), .inr (7, [.ref (ca (tn kv)), .int (ln (tn kv)), .int (nI (le (tn kv)))]))]] hw 3 rfl (by omega)
          rw [fam_congr (e' := caE G (va_up ce (tn kv) (upd (ce (tn kv)) (tn iv) (cutF (ln (tn kv)) v)))) (fun j _ => congrFun caE_set j)] at hw
          have hw : bW G A s.heap [[(ad 0, .inr (9, [.ref (ad 1), .ref (ad 2), .ref (ad 3), .ref (ad 4), .ref (ad 5), .ref (ad 6), .ref (ad 7), .int 0]))], [(ad 1, .inl (gH G, 4, .inr (.inr (.inr (.inr (fun q_ => some (sh q_)))))))], famX 4 sh (shE ca ln le) (tn kv), fam 4 ca (caE G (va_up ce (tn kv) (upd (ce (tn kv)) (tn iv) (cutF (ln (tn kv)) v)))), [(sh (tn kv), .inr (7, [.ref (ca (tn kv)), .int (ln (tn kv)), .int (nI (le (tn kv)))]))]] H locs := hw
          have hw := aw_inS [[(ad 0, .inr (9, [.ref (ad 1), .ref (ad 2), .ref (ad 3), .ref (ad 4), .ref (ad 5), .ref (ad 6), .ref (ad 7), .int 0]))], [(ad 1, .inl (gH G, 4, .inr (.inr (.inr (.inr (fun q_ => some (sh q_)))))))], famX 4 sh (shE ca ln le) (tn kv), fam 4 ca (caE G (va_up ce (tn kv) (upd (ce (tn kv)) (tn iv) (cutF (ln (tn kv)) v))))] hw 2 rfl (by omega)
          have hw : bW G A s.heap [[(ad 0, .inr (9, [.ref (ad 1), .ref (ad 2), .ref (ad 3), .ref (ad 4), .ref (ad 5), .ref (ad 6), .ref (ad 7), .int 0]))], [(ad 1, .inl (gH G, 4, .inr (.inr (.inr (.inr (fun q_ => some (sh q_)))))))], fam 4 sh (shE ca ln le), fam 4 ca (caE G (va_up ce (tn kv) (upd (ce (tn kv)) (tn iv) (cutF (ln (tn kv)) v))))] H locs := hw
          rw [fam_congr (n := 4) (r := ca) (e := (caE G (va_up ce (tn kv) (upd (ce (tn kv)) (tn iv) (cutF (ln (tn kv)) v))))) (e' := (caE G (f_setIf (f_putP ln le kv iv) ce (tn kv) (upd (ce (tn kv)) (tn iv) (cutF (ln (tn kv)) v))))) (fun _ _ => by rw [← setIf_t (show f_putP ln le kv iv from ⟨hz_k, c23, hiv⟩)])] at hw
          have hw : bW G A s.heap [[(ad 0, .inr (9, [.ref (ad 1), .ref (ad 2), .ref (ad 3), .ref (ad 4), .ref (ad 5), .ref (ad 6), .ref (ad 7), .int 0]))], [(ad 1, .inl (gH G, 4, .inr (.inr (.inr (.inr (fun q_ => some (sh q_)))))))], fam 4 sh (shE ca ln le), fam 4 ca (caE G (f_setIf (f_putP ln le kv iv) ce (tn kv) (upd (ce (tn kv)) (tn iv) (cutF (ln (tn kv)) v))))] H locs := hw
          have hw := Eq.mp (congrArg (fun z_ : Int32 => bW G A s.heap [[(ad 0, .inr (9, [.ref (ad 1), .ref (ad 2), .ref (ad 3), .ref (ad 4), .ref (ad 5), .ref (ad 6), .ref (ad 7), .int z_]))], [(ad 1, .inl (gH G, 4, .inr (.inr (.inr (.inr (fun q_ => some (sh q_)))))))], fam 4 sh (shE ca ln le), fam 4 ca (caE G (f_setIf (f_putP ln le kv iv) ce (tn kv) (upd (ce (tn kv)) (tn iv) (cutF (ln (tn kv)) v))))] H locs) (show (0 : Int32) = f_putF ln le kv iv from (by rw [f_putF]; first | rw [if_neg hz_k] | (rw [if_pos hz_k]; first | rw [if_pos c23] | (rw [if_neg c23]; first | rw [if_pos hiv] | rw [if_neg hiv]))))) hw
          have hw : bW G A s.heap [[(ad 0, .inr (9, [.ref (ad 1), .ref (ad 2), .ref (ad 3), .ref (ad 4), .ref (ad 5), .ref (ad 6), .ref (ad 7), .int (f_putF ln le kv iv)]))], [(ad 1, .inl (gH G, 4, .inr (.inr (.inr (.inr (fun q_ => some (sh q_)))))))], fam 4 sh (shE ca ln le), fam 4 ca (caE G (f_setIf (f_putP ln le kv iv) ce (tn kv) (upd (ce (tn kv)) (tn iv) (cutF (ln (tn kv)) v))))] H locs := hw
          refine aw_eqi (show (1 : Int32) = f_put ln le kv iv from (by rw [f_put]; first | rw [if_neg hz_k] | (rw [if_pos hz_k]; first | (rw [if_pos c23]; rfl) | (rw [if_neg c23]; first | rw [if_pos hiv] | (rw [if_neg hiv]; rfl))))) ?_
          exact aw_iret S hr hlk ha hQ hAe hw dX10_put_70 rfl (Nat.le_of_ble_eq_true rfl) (Nat.le_of_ble_eq_true rfl) ⟨rfl, rfl⟩
        · rw [fa_lt, nI_toInt (show le (tn kv) < 2 ^ 31 by omega)] at c42
          have hiv : ¬ (0 ≤ iv.toInt ∧ iv.toInt < le (tn kv)) := by omega
          refine lv_aload_n S.1 S.2.1 dX10_put_45 rfl (lv_at hl 1 rfl) ?_
          refine lv_iconst (v := 3) S.1 S.2.1 dX10_put_46 (by decide) ?_
          refine aw_callV S hE (c_X10_failed l G ad fl 3) gX10_put_X10_failed (n := 1) rfl (by decide +kernel) rfl (by rw [hRm]; exact ⟨Nat.le_of_ble_eq_true rfl, Nat.le_of_ble_eq_true rfl⟩) (by rw [hRm]; exact ⟨Nat.le_of_ble_eq_true rfl, Nat.le_of_ble_eq_true rfl⟩) hw hA hl.1 [0] rfl rfl (aw_recv (i := 0) hE hw rfl rfl rfl) rfl (Nat.le_of_ble_eq_true rfl) dX10_put_47 ?_
          rintro v w1 H locs ⟨rfl, rfl⟩ hw
          have hw : bW G A s.heap [[(ad 0, .inr (9, [.ref (ad 1), .ref (ad 2), .ref (ad 3), .ref (ad 4), .ref (ad 5), .ref (ad 6), .ref (ad 7), .int 3]))], [(ad 1, .inl (gH G, 4, .inr (.inr (.inr (.inr (fun q_ => some (sh q_)))))))], famX 4 sh (shE ca ln le) (tn kv), famX 4 ca (caE G ce) (tn kv), [(sh (tn kv), .inr (7, [.ref (ca (tn kv)), .int (ln (tn kv)), .int (nI (le (tn kv)))]))], [(ca (tn kv), .inl (gI G, 60, .inl (ce (tn kv))))]] H locs := hw
          refine W.eq (g2 := (F0 m 50 ls [.int (-10 - 3)])) rfl ?_
          have hw := aw_inS [[(ad 0, .inr (9, [.ref (ad 1), .ref (ad 2), .ref (ad 3), .ref (ad 4), .ref (ad 5), .ref (ad 6), .ref (ad 7), .int 3]))], [(ad 1, .inl (gH G, 4, .inr (.inr (.inr (.inr (fun q_ => some (sh q_)))))))], famX 4 sh (shE ca ln le) (tn kv), famX 4 ca (caE G ce) (tn kv), [(sh (tn kv), .inr (7, [.ref (ca (tn kv)), .int (ln (tn kv)), .int (nI (le (tn kv)))]))]] hw 3 rfl (by omega)
          have hw : bW G A s.heap [[(ad 0, .inr (9, [.ref (ad 1), .ref (ad 2), .ref (ad 3), .ref (ad 4), .ref (ad 5), .ref (ad 6), .ref (ad 7), .int 3]))], [(ad 1, .inl (gH G, 4, .inr (.inr (.inr (.inr (fun q_ => some (sh q_)))))))], famX 4 sh (shE ca ln le) (tn kv), fam 4 ca (caE G ce), [(sh (tn kv), .inr (7, [.ref (ca (tn kv)), .int (ln (tn kv)), .int (nI (le (tn kv)))]))]] H locs := hw
          have hw := aw_inS [[(ad 0, .inr (9, [.ref (ad 1), .ref (ad 2), .ref (ad 3), .ref (ad 4), .ref (ad 5), .ref (ad 6), .ref (ad 7), .int 3]))], [(ad 1, .inl (gH G, 4, .inr (.inr (.inr (.inr (fun q_ => some (sh q_)))))))], famX 4 sh (shE ca ln le) (tn kv), fam 4 ca (caE G ce)] hw 2 rfl (by omega)
          have hw : bW G A s.heap [[(ad 0, .inr (9, [.ref (ad 1), .ref (ad 2), .ref (ad 3), .ref (ad 4), .ref (ad 5), .ref (ad 6), .ref (ad 7), .int 3]))], [(ad 1, .inl (gH G, 4, .inr (.inr (.inr (.inr (fun q_ => some (sh q_)))))))], fam 4 sh (shE ca ln le), fam 4 ca (caE G ce)] H locs := hw
          rw [fam_congr (n := 4) (r := ca) (e := (caE G ce)) (e' := (caE G (f_setIf (f_putP ln le kv iv) ce (tn kv) (upd (ce (tn kv)) (tn iv) (cutF (ln (tn kv)) v))))) (fun _ _ => by rw [← setIf_f (show ¬ f_putP ln le kv iv from fun q => hiv q.2.2)])] at hw
          have hw : bW G A s.heap [[(ad 0, .inr (9, [.ref (ad 1), .ref (ad 2), .ref (ad 3), .ref (ad 4), .ref (ad 5), .ref (ad 6), .ref (ad 7), .int 3]))], [(ad 1, .inl (gH G, 4, .inr (.inr (.inr (.inr (fun q_ => some (sh q_)))))))], fam 4 sh (shE ca ln le), fam 4 ca (caE G (f_setIf (f_putP ln le kv iv) ce (tn kv) (upd (ce (tn kv)) (tn iv) (cutF (ln (tn kv)) v))))] H locs := hw
          have hw := Eq.mp (congrArg (fun z_ : Int32 => bW G A s.heap [[(ad 0, .inr (9, [.ref (ad 1), .ref (ad 2), .ref (ad 3), .ref (ad 4), .ref (ad 5), .ref (ad 6), .ref (ad 7), .int z_]))], [(ad 1, .inl (gH G, 4, .inr (.inr (.inr (.inr (fun q_ => some (sh q_)))))))], fam 4 sh (shE ca ln le), fam 4 ca (caE G (f_setIf (f_putP ln le kv iv) ce (tn kv) (upd (ce (tn kv)) (tn iv) (cutF (ln (tn kv)) v))))] H locs) (show (3 : Int32) = f_putF ln le kv iv from (by rw [f_putF]; first | rw [if_neg hz_k] | (rw [if_pos hz_k]; first | rw [if_pos c23] | (rw [if_neg c23]; first | rw [if_pos hiv] | rw [if_neg hiv]))))) hw
          have hw : bW G A s.heap [[(ad 0, .inr (9, [.ref (ad 1), .ref (ad 2), .ref (ad 3), .ref (ad 4), .ref (ad 5), .ref (ad 6), .ref (ad 7), .int (f_putF ln le kv iv)]))], [(ad 1, .inl (gH G, 4, .inr (.inr (.inr (.inr (fun q_ => some (sh q_)))))))], fam 4 sh (shE ca ln le), fam 4 ca (caE G (f_setIf (f_putP ln le kv iv) ce (tn kv) (upd (ce (tn kv)) (tn iv) (cutF (ln (tn kv)) v))))] H locs := hw
          refine aw_eqi (show (-10 - 3 : Int32) = f_put ln le kv iv from (by rw [f_put]; first | rw [if_neg hz_k] | (rw [if_pos hz_k]; first | (rw [if_pos c23]; rfl) | (rw [if_neg c23]; first | rw [if_pos hiv] | (rw [if_neg hiv]; rfl))))) ?_
          exact aw_iret S hr hlk ha hQ hAe hw dX10_put_50 rfl (Nat.le_of_ble_eq_true rfl) (Nat.le_of_ble_eq_true rfl) ⟨rfl, rfl⟩
    · refine lv_aload_n S.1 S.2.1 dX10_put_26 rfl (lv_at hl 1 rfl) ?_
      refine lv_iconst (v := 1) S.1 S.2.1 dX10_put_27 (by decide) ?_
      refine aw_callV S hE (c_X10_failed l G ad fl 1) gX10_put_X10_failed (n := 1) rfl (by decide +kernel) rfl (by rw [hRm]; exact ⟨Nat.le_of_ble_eq_true rfl, Nat.le_of_ble_eq_true rfl⟩) (by rw [hRm]; exact ⟨Nat.le_of_ble_eq_true rfl, Nat.le_of_ble_eq_true rfl⟩) hw hA hl.1 [0] rfl rfl (aw_recv (i := 0) hE hw rfl rfl rfl) rfl (Nat.le_of_ble_eq_true rfl) dX10_put_28 ?_
      rintro v w1 H locs ⟨rfl, rfl⟩ hw
      have hw : bW G A s.heap [[(ad 0, .inr (9, [.ref (ad 1), .ref (ad 2), .ref (ad 3), .ref (ad 4), .ref (ad 5), .ref (ad 6), .ref (ad 7), .int 1]))], [(ad 1, .inl (gH G, 4, .inr (.inr (.inr (.inr (fun q_ => some (sh q_)))))))], famX 4 sh (shE ca ln le) (tn kv), famX 4 ca (caE G ce) (tn kv), [(sh (tn kv), .inr (7, [.ref (ca (tn kv)), .int (ln (tn kv)), .int (nI (le (tn kv)))]))], [(ca (tn kv), .inl (gI G, 60, .inl (ce (tn kv))))]] H locs := hw
      refine W.eq (g2 := (F0 m 31 ls [.int (-10 - 1)])) rfl ?_
      have hw := aw_inS [[(ad 0, .inr (9, [.ref (ad 1), .ref (ad 2), .ref (ad 3), .ref (ad 4), .ref (ad 5), .ref (ad 6), .ref (ad 7), .int 1]))], [(ad 1, .inl (gH G, 4, .inr (.inr (.inr (.inr (fun q_ => some (sh q_)))))))], famX 4 sh (shE ca ln le) (tn kv), famX 4 ca (caE G ce) (tn kv), [(sh (tn kv), .inr (7, [.ref (ca (tn kv)), .int (ln (tn kv)), .int (nI (le (tn kv)))]))]] hw 3 rfl (by omega)
      have hw : bW G A s.heap [[(ad 0, .inr (9, [.ref (ad 1), .ref (ad 2), .ref (ad 3), .ref (ad 4), .ref (ad 5), .ref (ad 6), .ref (ad 7), .int 1]))], [(ad 1, .inl (gH G, 4, .inr (.inr (.inr (.inr (fun q_ => some (sh q_)))))))], famX 4 sh (shE ca ln le) (tn kv), fam 4 ca (caE G ce), [(sh (tn kv), .inr (7, [.ref (ca (tn kv)), .int (ln (tn kv)), .int (nI (le (tn kv)))]))]] H locs := hw
      have hw := aw_inS [[(ad 0, .inr (9, [.ref (ad 1), .ref (ad 2), .ref (ad 3), .ref (ad 4), .ref (ad 5), .ref (ad 6), .ref (ad 7), .int 1]))], [(ad 1, .inl (gH G, 4, .inr (.inr (.inr (.inr (fun q_ => some (sh q_)))))))], famX 4 sh (shE ca ln le) (tn kv), fam 4 ca (caE G ce)] hw 2 rfl (by omega)
      have hw : bW G A s.heap [[(ad 0, .inr (9, [.ref (ad 1), .ref (ad 2), .ref (ad 3), .ref (ad 4), .ref (ad 5), .ref (ad 6), .ref (ad 7), .int 1]))], [(ad 1, .inl (gH G, 4, .inr (.inr (.inr (.inr (fun q_ => some (sh q_)))))))], fam 4 sh (shE ca ln le), fam 4 ca (caE G ce)] H locs := hw
      rw [fam_congr (n := 4) (r := ca) (e := (caE G ce)) (e' := (caE G (f_setIf (f_putP ln le kv iv) ce (tn kv) (upd (ce (tn kv)) (tn iv) (cutF (ln (tn kv)) v))))) (fun _ _ => by rw [← setIf_f (show ¬ f_putP ln le kv iv from fun q => q.2.1 c23)])] at hw
      have hw : bW G A s.heap [[(ad 0, .inr (9, [.ref (ad 1), .ref (ad 2), .ref (ad 3), .ref (ad 4), .ref (ad 5), .ref (ad 6), .ref (ad 7), .int 1]))], [(ad 1, .inl (gH G, 4, .inr (.inr (.inr (.inr (fun q_ => some (sh q_)))))))], fam 4 sh (shE ca ln le), fam 4 ca (caE G (f_setIf (f_putP ln le kv iv) ce (tn kv) (upd (ce (tn kv)) (tn iv) (cutF (ln (tn kv)) v))))] H locs := hw
      have hw := Eq.mp (congrArg (fun z_ : Int32 => bW G A s.heap [[(ad 0, .inr (9, [.ref (ad 1), .ref (ad 2), .ref (ad 3), .ref (ad 4), .ref (ad 5), .ref (ad 6), .ref (ad 7), .int z_]))], [(ad 1, .inl (gH G, 4, .inr (.inr (.inr (.inr (fun q_ => some (sh q_)))))))], fam 4 sh (shE ca ln le), fam 4 ca (caE G (f_setIf (f_putP ln le kv iv) ce (tn kv) (upd (ce (tn kv)) (tn iv) (cutF (ln (tn kv)) v))))] H locs) (show (1 : Int32) = f_putF ln le kv iv from (by rw [f_putF]; first | rw [if_neg hz_k] | (rw [if_pos hz_k]; first | rw [if_pos c23] | (rw [if_neg c23]; first | rw [if_pos hiv] | rw [if_neg hiv]))))) hw
      have hw : bW G A s.heap [[(ad 0, .inr (9, [.ref (ad 1), .ref (ad 2), .ref (ad 3), .ref (ad 4), .ref (ad 5), .ref (ad 6), .ref (ad 7), .int (f_putF ln le kv iv)]))], [(ad 1, .inl (gH G, 4, .inr (.inr (.inr (.inr (fun q_ => some (sh q_)))))))], fam 4 sh (shE ca ln le), fam 4 ca (caE G (f_setIf (f_putP ln le kv iv) ce (tn kv) (upd (ce (tn kv)) (tn iv) (cutF (ln (tn kv)) v))))] H locs := hw
      refine aw_eqi (show (-10 - 1 : Int32) = f_put ln le kv iv from (by rw [f_put]; first | rw [if_neg hz_k] | (rw [if_pos hz_k]; first | (rw [if_pos c23]; rfl) | (rw [if_neg c23]; first | rw [if_pos hiv] | (rw [if_neg hiv]; rfl))))) ?_
      exact aw_iret S hr hlk ha hQ hAe hw dX10_put_31 rfl (Nat.le_of_ble_eq_true rfl) (Nat.le_of_ble_eq_true rfl) ⟨rfl, rfl⟩
  · refine lv_aload_n S.1 S.2.1 dX10_put_0 rfl (lv_at hl 0 rfl) ?_
    refine lv_iload_n S.1 S.2.1 dX10_put_1 rfl (lv_at hl 1 rfl) ?_
    refine aw_callV S hE (c_X10_sheetAt_out l G ad fl sh kv hz_k) gX10_put_X10_sheetAt (n := 1) rfl (by decide +kernel) rfl (by rw [hRm]; exact ⟨Nat.le_of_ble_eq_true rfl, Nat.le_of_ble_eq_true rfl⟩) (by rw [hRm]; exact ⟨Nat.le_of_ble_eq_true rfl, Nat.le_of_ble_eq_true rfl⟩) hw hA hl.1 [0, 1] rfl rfl (aw_recv (i := 0) hE hw rfl rfl rfl) rfl (Nat.le_of_ble_eq_true rfl) dX10_put_2 ?_
    rintro v w1 H locs ⟨rfl, rfl⟩ hw
    have hw : bW G A s.heap [[(ad 0, .inr (9, [.ref (ad 1), .ref (ad 2), .ref (ad 3), .ref (ad 4), .ref (ad 5), .ref (ad 6), .ref (ad 7), .int fl]))], [(ad 1, .inl (gH G, 4, .inr (.inr (.inr (.inr (fun q_ => some (sh q_)))))))], fam 4 sh (shE ca ln le), fam 4 ca (caE G ce)] H locs := hw
    refine W.eq (g2 := (F0 m 5 ls [.null])) rfl ?_
    refine lv_astoreN (lv' := [(4, .null), (0, .ref (ad 0)), (1, .int kv), (2, .int iv), (3, .int v)]) S.1 S.2.1 dX10_put_5 hl (by decide) rfl (fun ls hl => ?_)
    refine lv_aloadN S.1 S.2.1 dX10_put_7 (lv_at hl 0 rfl) ?_
    refine lv_ifnonnullN S.1 S.2.1 dX10_put_9 ?_
    refine lv_aload_n S.1 S.2.1 dX10_put_12 rfl (lv_at hl 1 rfl) ?_
    refine lv_iconst (v := (-1)) S.1 S.2.1 dX10_put_13 (by decide) ?_
    refine aw_callV S hE (c_X10_refused l G ad fl (-1)) gX10_put_X10_refused (n := 1) rfl (by decide +kernel) rfl (by rw [hRm]; exact ⟨Nat.le_of_ble_eq_true rfl, Nat.le_of_ble_eq_true rfl⟩) (by rw [hRm]; exact ⟨Nat.le_of_ble_eq_true rfl, Nat.le_of_ble_eq_true rfl⟩) hw hA hl.1 [0] rfl rfl (aw_recv (i := 0) hE hw rfl rfl rfl) rfl (Nat.le_of_ble_eq_true rfl) dX10_put_14 ?_
    rintro v w1 H locs ⟨rfl, rfl⟩ hw
    have hw : bW G A s.heap [[(ad 0, .inr (9, [.ref (ad 1), .ref (ad 2), .ref (ad 3), .ref (ad 4), .ref (ad 5), .ref (ad 6), .ref (ad 7), .int 0]))], [(ad 1, .inl (gH G, 4, .inr (.inr (.inr (.inr (fun q_ => some (sh q_)))))))], fam 4 sh (shE ca ln le), fam 4 ca (caE G ce)] H locs := hw
    refine W.eq (g2 := (F0 m 17 ls [.int (-1)])) rfl ?_
    rw [fam_congr (n := 4) (r := ca) (e := (caE G ce)) (e' := (caE G (f_setIf (f_putP ln le kv iv) ce (tn kv) (upd (ce (tn kv)) (tn iv) (cutF (ln (tn kv)) v))))) (fun _ _ => by rw [← setIf_f (show ¬ f_putP ln le kv iv from fun q => hz_k q.1)])] at hw
    have hw : bW G A s.heap [[(ad 0, .inr (9, [.ref (ad 1), .ref (ad 2), .ref (ad 3), .ref (ad 4), .ref (ad 5), .ref (ad 6), .ref (ad 7), .int 0]))], [(ad 1, .inl (gH G, 4, .inr (.inr (.inr (.inr (fun q_ => some (sh q_)))))))], fam 4 sh (shE ca ln le), fam 4 ca (caE G (f_setIf (f_putP ln le kv iv) ce (tn kv) (upd (ce (tn kv)) (tn iv) (cutF (ln (tn kv)) v))))] H locs := hw
    have hw := Eq.mp (congrArg (fun z_ : Int32 => bW G A s.heap [[(ad 0, .inr (9, [.ref (ad 1), .ref (ad 2), .ref (ad 3), .ref (ad 4), .ref (ad 5), .ref (ad 6), .ref (ad 7), .int z_]))], [(ad 1, .inl (gH G, 4, .inr (.inr (.inr (.inr (fun q_ => some (sh q_)))))))], fam 4 sh (shE ca ln le), fam 4 ca (caE G (f_setIf (f_putP ln le kv iv) ce (tn kv) (upd (ce (tn kv)) (tn iv) (cutF (ln (tn kv)) v))))] H locs) (show (0 : Int32) = f_putF ln le kv iv from (by rw [f_putF]; first | rw [if_neg hz_k] | (rw [if_pos hz_k]; first | rw [if_pos c23] | (rw [if_neg c23]; first | rw [if_pos hiv] | rw [if_neg hiv]))))) hw
    have hw : bW G A s.heap [[(ad 0, .inr (9, [.ref (ad 1), .ref (ad 2), .ref (ad 3), .ref (ad 4), .ref (ad 5), .ref (ad 6), .ref (ad 7), .int (f_putF ln le kv iv)]))], [(ad 1, .inl (gH G, 4, .inr (.inr (.inr (.inr (fun q_ => some (sh q_)))))))], fam 4 sh (shE ca ln le), fam 4 ca (caE G (f_setIf (f_putP ln le kv iv) ce (tn kv) (upd (ce (tn kv)) (tn iv) (cutF (ln (tn kv)) v))))] H locs := hw
    refine aw_eqi (show ((-1) : Int32) = f_put ln le kv iv from (by rw [f_put]; first | rw [if_neg hz_k] | (rw [if_pos hz_k]; first | (rw [if_pos c23]; rfl) | (rw [if_neg c23]; first | rw [if_pos hiv] | (rw [if_neg hiv]; rfl))))) ?_
    exact aw_iret S hr hlk ha hQ hAe hw dX10_put_17 rfl (Nat.le_of_ble_eq_true rfl) (Nat.le_of_ble_eq_true rfl) ⟨rfl, rfl⟩
set_option maxRecDepth 100000 in
set_option maxHeartbeats 4000000 in
theorem c_X10_cell (l : Launch) (G : aw_G) (ad : Nat → Nat) (fl : Int32) (sh ca : Nat → Nat) (ln : Nat → Int32) (le : Nat → Nat) (ce : Nat → Nat → Int32) (kv iv lv : Int32) (hle : ∀ k, k < 4 → le k ≤ 60) : CT l G yX10_cell wsX10_cell ({ frames := 3, cells := 0, slots := 0, locals := 64 }) [.ref (ad 0), .int kv, .int iv, .int lv] [[(ad 0, .inr (9, [.ref (ad 1), .ref (ad 2), .ref (ad 3), .ref (ad 4), .ref (ad 5), .ref (ad 6), .ref (ad 7), .int fl]))], [(ad 1, .inl (gH G, 4, .inr (.inr (.inr (.inr (fun q_ => some (sh q_)))))))], fam 4 sh (shE ca ln le), fam 4 ca (caE G ce)] (dt (some (.long (f_cell ln le ce kv iv lv))) [[(ad 0, .inr (9, [.ref (ad 1), .ref (ad 2), .ref (ad 3), .ref (ad 4), .ref (ad 5), .ref (ad 6), .ref (ad 7), .int (f_cellF ln le kv iv lv)]))], [(ad 1, .inl (gH G, 4, .inr (.inr (.inr (.inr (fun q_ => some (sh q_)))))))], fam 4 sh (shE ca ln le), fam 4 ca (caE G ce)]) := by
  refine CT.of (cc := cX10_cell) (nL := 5) (ret := (some .long)) (by decide) rfl (Nat.le_of_ble_eq_true rfl) ?_
  intro p e s m below meth c R args Q A hRm ha hQ hAe hA S hE hr hlk hnm H locs hH0 hL0 ls hl hw
  have S : CallFix p m c cX10_cell 5 s args wsX10_cell RX10 := S
  have hl : lv_has ls 5 [(0, .ref (ad 0)), (1, .int kv), (2, .int iv), (3, .int lv)] := hl
  have hinX10 : ∀ w ∈ u_ws RX10 TX10 8, w ∈ wsX10_cell := by decide +kernel
  have hf59 := S.2.2.2.2 (.fieldLink RX10 59 "AwakeTurns" "lastFault" "I") (by decide +kernel)
  have hinX7 : ∀ w ∈ u_ws RX7 TX7 3, w ∈ wsX10_cell := by decide +kernel
  have hf82 := S.2.2.2.2 (.fieldLink RX10 82 "AwakeTurns$Sheet" "cells" "[I") (by decide +kernel)
  by_cases hz_k : 0 ≤ kv.toInt ∧ kv.toInt < 4
  · have hb_kv : tn kv < 4 := aw_tnL hz_k
    have hl := Eq.mp (congrArg (fun z_ : Int32 => lv_has ls 5 [(0, .ref (ad 0)), (1, .int z_), (2, .int iv), (3, .int lv)]) (show (kv : Int32) = nI (tn kv) from (aw_tnE hz_k))) hl
    have hl : lv_has ls 5 [(0, .ref (ad 0)), (1, .int (nI (tn kv))), (2, .int iv), (3, .int lv)] := hl
    have hle_kv := hle _ hb_kv
    have hw := aw_out hw 2 rfl (tn kv) (by omega)
    have hw : bW G A s.heap [[(ad 0, .inr (9, [.ref (ad 1), .ref (ad 2), .ref (ad 3), .ref (ad 4), .ref (ad 5), .ref (ad 6), .ref (ad 7), .int fl]))], [(ad 1, .inl (gH G, 4, .inr (.inr (.inr (.inr (fun q_ => some (sh q_)))))))], famX 4 sh (shE ca ln le) (tn kv), fam 4 ca (caE G ce), [(sh (tn kv), .inr (7, [.ref (ca (tn kv)), .int (ln (tn kv)), .int (nI (le (tn kv)))]))]] H locs := hw
    have hw := aw_out hw 3 rfl (tn kv) (by omega)
    have hw : bW G A s.heap [[(ad 0, .inr (9, [.ref (ad 1), .ref (ad 2), .ref (ad 3), .ref (ad 4), .ref (ad 5), .ref (ad 6), .ref (ad 7), .int fl]))], [(ad 1, .inl (gH G, 4, .inr (.inr (.inr (.inr (fun q_ => some (sh q_)))))))], famX 4 sh (shE ca ln le) (tn kv), famX 4 ca (caE G ce) (tn kv), [(sh (tn kv), .inr (7, [.ref (ca (tn kv)), .int (ln (tn kv)), .int (nI (le (tn kv)))]))], [(ca (tn kv), .inl (gI G, 60, .inl (ce (tn kv))))]] H locs := hw
    refine lv_aload_n S.1 S.2.1 dX10_cell_0 rfl (lv_at hl 0 rfl) ?_
    refine lv_iload_n S.1 S.2.1 dX10_cell_1 rfl (lv_at hl 1 rfl) ?_
    refine aw_callV S hE (c_X10_sheetAt_in l G ad fl sh (tn kv) hb_kv) gX10_cell_X10_sheetAt (n := 1) rfl (by decide +kernel) rfl (by rw [hRm]; exact ⟨Nat.le_of_ble_eq_true rfl, Nat.le_of_ble_eq_true rfl⟩) (by rw [hRm]; exact ⟨Nat.le_of_ble_eq_true rfl, Nat.le_of_ble_eq_true rfl⟩) hw hA hl.1 [0, 1] rfl rfl (aw_recv (i := 0) hE hw rfl rfl rfl) rfl (Nat.le_of_ble_eq_true rfl) dX10_cell_2 ?_
    rintro v w1 H locs ⟨rfl, rfl⟩ hw
    have hw : bW G A s.heap [[(ad 0, .inr (9, [.ref (ad 1), .ref (ad 2), .ref (ad 3), .ref (ad 4), .ref (ad 5), .ref (ad 6), .ref (ad 7), .int fl]))], [(ad 1, .inl (gH G, 4, .inr (.inr (.inr (.inr (fun q_ => some (sh q_)))))))], famX 4 sh (shE ca ln le) (tn kv), famX 4 ca (caE G ce) (tn kv), [(sh (tn kv), .inr (7, [.ref (ca (tn kv)), .int (ln (tn kv)), .int (nI (le (tn kv)))]))], [(ca (tn kv), .inl (gI G, 60, .inl (ce (tn kv))))]] H locs := hw
    refine W.eq (g2 := (F0 m 5 ls [.ref (sh (tn kv))])) rfl ?_
    refine lv_astore (lv' := [(4, .ref (sh (tn kv))), (0, .ref (ad 0)), (1, .int (nI (tn kv))), (2, .int iv), (3, .int lv)]) S.1 S.2.1 dX10_cell_5 hl (by decide) rfl (fun ls hl => ?_)
    refine lv_aload_n S.1 S.2.1 dX10_cell_7 rfl (lv_at hl 1 rfl) ?_
    refine lv_iconst (v := 0) S.1 S.2.1 dX10_cell_8 (by decide) ?_
    refine aw_putf S hE hw 0 (C := RX10) (T := TX10) (N := 8) rfl rfl hinX10 tyX10 tyX10_ok nmX10 7 (by decide) hf59 rfl rfl rfl (Nat.le_of_ble_eq_true rfl) dX10_cell_9 (fun H locs hw => ?_)
    have hw : bW G A s.heap [[(ad 0, .inr (9, [.ref (ad 1), .ref (ad 2), .ref (ad 3), .ref (ad 4), .ref (ad 5), .ref (ad 6), .ref (ad 7), .int 0]))], [(ad 1, .inl (gH G, 4, .inr (.inr (.inr (.inr (fun q_ => some (sh q_)))))))], famX 4 sh (shE ca ln le) (tn kv), famX 4 ca (caE G ce) (tn kv), [(sh (tn kv), .inr (7, [.ref (ca (tn kv)), .int (ln (tn kv)), .int (nI (le (tn kv)))]))], [(ca (tn kv), .inl (gI G, 60, .inl (ce (tn kv))))]] H locs := hw
    refine lv_aload S.1 S.2.1 dX10_cell_12 (lv_at hl 0 rfl) ?_
    refine lv_ifnull S.1 S.2.1 dX10_cell_14 ?_
    refine lv_iload_n S.1 S.2.1 dX10_cell_17 rfl (lv_at hl 4 rfl) ?_
    refine aw_callS S hE (c_X10_isLane l G lv) gX10_cell_X10_isLane (n := 1) rfl (by decide +kernel) rfl (by rw [hRm]; exact ⟨Nat.le_of_ble_eq_true rfl, Nat.le_of_ble_eq_true rfl⟩) (by rw [hRm]; exact ⟨Nat.le_of_ble_eq_true rfl, Nat.le_of_ble_eq_true rfl⟩) hw hA hl.1 [] rfl rfl rfl (Nat.le_of_ble_eq_true rfl) dX10_cell_18 ?_
    rintro v w1 H locs ⟨rfl, rfl⟩ hw
    have hw : bW G A s.heap [[(ad 0, .inr (9, [.ref (ad 1), .ref (ad 2), .ref (ad 3), .ref (ad 4), .ref (ad 5), .ref (ad 6), .ref (ad 7), .int 0]))], [(ad 1, .inl (gH G, 4, .inr (.inr (.inr (.inr (fun q_ => some (sh q_)))))))], famX 4 sh (shE ca ln le) (tn kv), famX 4 ca (caE G ce) (tn kv), [(sh (tn kv), .inr (7, [.ref (ca (tn kv)), .int (ln (tn kv)), .int (nI (le (tn kv)))]))], [(ca (tn kv), .inl (gI G, 60, .inl (ce (tn kv))))]] H locs := hw
    refine W.eq (g2 := (F0 m 21 ls [.int (if 0 ≤ lv.toInt ∧ lv.toInt < 3 then 1 else 0)])) rfl ?_
    refine aw_ifne (P := 0 ≤ lv.toInt ∧ lv.toInt < 3) (tgt := 28) S dX10_cell_21 (by decide) (fun c21 => ?_) (fun c21 => ?_)
    · refine lv_aload_n S.1 S.2.1 dX10_cell_28 rfl (lv_at hl 1 rfl) ?_
      refine lv_aload S.1 S.2.1 dX10_cell_29 (lv_at hl 0 rfl) ?_
      refine lv_iload_n S.1 S.2.1 dX10_cell_31 rfl (lv_at hl 4 rfl) ?_
      refine lv_iload_n S.1 S.2.1 dX10_cell_32 rfl (lv_at hl 3 rfl) ?_
      refine aw_callV S hE (c_X7_faultOfCell l G (sh (tn kv)) (ca (tn kv)) (ln (tn kv)) (le (tn kv)) lv iv (by first | assumption | omega)) gX10_cell_X7_faultOfCell (n := 2) rfl (by decide +kernel) rfl (by rw [hRm]; exact ⟨Nat.le_of_ble_eq_true rfl, Nat.le_of_ble_eq_true rfl⟩) (by rw [hRm]; exact ⟨Nat.le_of_ble_eq_true rfl, Nat.le_of_ble_eq_true rfl⟩) hw hA hl.1 [4] rfl rfl (aw_recv (i := 4) hE hw rfl rfl rfl) rfl (Nat.le_of_ble_eq_true rfl) dX10_cell_33 ?_
      rintro v w1 H locs ⟨rfl, rfl⟩ hw
      have hw : bW G A s.heap [[(ad 0, .inr (9, [.ref (ad 1), .ref (ad 2), .ref (ad 3), .ref (ad 4), .ref (ad 5), .ref (ad 6), .ref (ad 7), .int 0]))], [(ad 1, .inl (gH G, 4, .inr (.inr (.inr (.inr (fun q_ => some (sh q_)))))))], famX 4 sh (shE ca ln le) (tn kv), famX 4 ca (caE G ce) (tn kv), [(sh (tn kv), .inr (7, [.ref (ca (tn kv)), .int (ln (tn kv)), .int (nI (le (tn kv)))]))], [(ca (tn kv), .inl (gI G, 60, .inl (ce (tn kv))))]] H locs := hw
      refine W.eq (g2 := (F0 m 36 ls [.int (fcF (ln (tn kv)) (le (tn kv)) lv iv), .ref (ad 0)])) rfl ?_
      refine aw_putf S hE hw 0 (C := RX10) (T := TX10) (N := 8) rfl rfl hinX10 tyX10 tyX10_ok nmX10 7 (by decide) hf59 rfl rfl rfl (Nat.le_of_ble_eq_true rfl) dX10_cell_36 (fun H locs hw => ?_)
      have hw : bW G A s.heap [[(ad 0, .inr (9, [.ref (ad 1), .ref (ad 2), .ref (ad 3), .ref (ad 4), .ref (ad 5), .ref (ad 6), .ref (ad 7), .int (fcF (ln (tn kv)) (le (tn kv)) lv iv)]))], [(ad 1, .inl (gH G, 4, .inr (.inr (.inr (.inr (fun q_ => some (sh q_)))))))], famX 4 sh (shE ca ln le) (tn kv), famX 4 ca (caE G ce) (tn kv), [(sh (tn kv), .inr (7, [.ref (ca (tn kv)), .int (ln (tn kv)), .int (nI (le (tn kv)))]))], [(ca (tn kv), .inl (gI G, 60, .inl (ce (tn kv))))]] H locs := hw
      refine lv_aload_n S.1 S.2.1 dX10_cell_39 rfl (lv_at hl 1 rfl) ?_
      refine aw_get S hE hw 0 (C := RX10) (T := TX10) (N := 8) rfl rfl hinX10 7 (by decide) hf59 rfl dX10_cell_40 ?_
      refine lv_if_ne (tgt := 57) S.1 S.2.1 dX10_cell_43 (by decide) (fun c43 => ?_) (fun c43 => ?_)
      · refine lv_ldc2 (v := (-9223372036854775808)) S.1 S.2.1 S.2.2.2.1 (S.2.2.2.2 (.constantLong RX10 215 (-9223372036854775808)) (by decide +kernel)) dX10_cell_57 ?_
        have hw := aw_inS [[(ad 0, .inr (9, [.ref (ad 1), .ref (ad 2), .ref (ad 3), .ref (ad 4), .ref (ad 5), .ref (ad 6), .ref (ad 7), .int (fcF (ln (tn kv)) (le (tn kv)) lv iv)]))], [(ad 1, .inl (gH G, 4, .inr (.inr (.inr (.inr (fun q_ => some (sh q_)))))))], famX 4 sh (shE ca ln le) (tn kv), famX 4 ca (caE G ce) (tn kv), [(sh (tn kv), .inr (7, [.ref (ca (tn kv)), .int (ln (tn kv)), .int (nI (le (tn kv)))]))]] hw 3 rfl (by omega)
        have hw : bW G A s.heap [[(ad 0, .inr (9, [.ref (ad 1), .ref (ad 2), .ref (ad 3), .ref (ad 4), .ref (ad 5), .ref (ad 6), .ref (ad 7), .int (fcF (ln (tn kv)) (le (tn kv)) lv iv)]))], [(ad 1, .inl (gH G, 4, .inr (.inr (.inr (.inr (fun q_ => some (sh q_)))))))], famX 4 sh (shE ca ln le) (tn kv), fam 4 ca (caE G ce), [(sh (tn kv), .inr (7, [.ref (ca (tn kv)), .int (ln (tn kv)), .int (nI (le (tn kv)))]))]] H locs := hw
        have hw := aw_inS [[(ad 0, .inr (9, [.ref (ad 1), .ref (ad 2), .ref (ad 3), .ref (ad 4), .ref (ad 5), .ref (ad 6), .ref (ad 7), .int (fcF (ln (tn kv)) (le (tn kv)) lv iv)]))], [(ad 1, .inl (gH G, 4, .inr (.inr (.inr (.inr (fun q_ => some (sh q_)))))))], famX 4 sh (shE ca ln le) (tn kv), fam 4 ca (caE G ce)] hw 2 rfl (by omega)
        have hw : bW G A s.heap [[(ad 0, .inr (9, [.ref (ad 1), .ref (ad 2), .ref (ad 3), .ref (ad 4), .ref (ad 5), .ref (ad 6), .ref (ad 7), .int (fcF (ln (tn kv)) (le (tn kv)) lv iv)]))], [(ad 1, .inl (gH G, 4, .inr (.inr (.inr (.inr (fun q_ => some (sh q_)))))))], fam 4 sh (shE ca ln le), fam 4 ca (caE G ce)] H locs := hw
        have hw := Eq.mp (congrArg (fun z_ : Int32 => bW G A s.heap [[(ad 0, .inr (9, [.ref (ad 1), .ref (ad 2), .ref (ad 3), .ref (ad 4), .ref (ad 5), .ref (ad 6), .ref (ad 7), .int z_]))], [(ad 1, .inl (gH G, 4, .inr (.inr (.inr (.inr (fun q_ => some (sh q_)))))))], fam 4 sh (shE ca ln le), fam 4 ca (caE G ce)] H locs) (show (fcF (ln (tn kv)) (le (tn kv)) lv iv : Int32) = f_cellF ln le kv iv lv from (by rw [f_cellF]; first | rw [if_neg (fun q => hz_k q.1)] | rw [if_neg (fun q => c21 q.2)] | rw [if_pos ⟨hz_k, c21⟩]))) hw
        have hw : bW G A s.heap [[(ad 0, .inr (9, [.ref (ad 1), .ref (ad 2), .ref (ad 3), .ref (ad 4), .ref (ad 5), .ref (ad 6), .ref (ad 7), .int (f_cellF ln le kv iv lv)]))], [(ad 1, .inl (gH G, 4, .inr (.inr (.inr (.inr (fun q_ => some (sh q_)))))))], fam 4 sh (shE ca ln le), fam 4 ca (caE G ce)] H locs := hw
        refine aw_eql (show (-9223372036854775808 : Int64) = f_cell ln le ce kv iv lv from (by rw [f_cell, if_neg (fun q => c43 q.2)])) ?_
        exact aw_lret S hr hlk ha hQ hAe hw dX10_cell_60 (Nat.le_of_ble_eq_true rfl) (Nat.le_of_ble_eq_true rfl) ⟨rfl, rfl⟩
      · have hiv := fcF_0 c43
        have hb_iv : tn iv < le (tn kv) := aw_tnL hiv
        have hl := Eq.mp (congrArg (fun z_ : Int32 => lv_has ls 5 [(4, .ref (sh (tn kv))), (0, .ref (ad 0)), (1, .int (nI (tn kv))), (2, .int z_), (3, .int lv)]) (show (iv : Int32) = nI (tn iv) from (aw_tnE hiv))) hl
        have hl : lv_has ls 5 [(4, .ref (sh (tn kv))), (0, .ref (ad 0)), (1, .int (nI (tn kv))), (2, .int (nI (tn iv))), (3, .int lv)] := hl
        refine lv_aload S.1 S.2.1 dX10_cell_46 (lv_at hl 0 rfl) ?_
        refine aw_get S hE hw 4 (C := RX7) (T := TX7) (N := 3) rfl rfl hinX7 0 (by decide) hf82 rfl dX10_cell_48 ?_
        refine lv_iload_n S.1 S.2.1 dX10_cell_51 rfl (lv_at hl 3 rfl) ?_
        refine aw_iald S hE hw 5 (k := (tn iv)) rfl (by omega) (by decide) dX10_cell_52 ?_
        refine lv_i2l S.1 S.2.1 dX10_cell_53 rfl ?_
        refine lv_goto (tgt := 60) S.1 S.2.1 dX10_cell_54 (by decide) ?_
        have hw := aw_inS [[(ad 0, .inr (9, [.ref (ad 1), .ref (ad 2), .ref (ad 3), .ref (ad 4), .ref (ad 5), .ref (ad 6), .ref (ad 7), .int (fcF (ln (tn kv)) (le (tn kv)) lv iv)]))], [(ad 1, .inl (gH G, 4, .inr (.inr (.inr (.inr (fun q_ => some (sh q_)))))))], famX 4 sh (shE ca ln le) (tn kv), famX 4 ca (caE G ce) (tn kv), [(sh (tn kv), .inr (7, [.ref (ca (tn kv)), .int (ln (tn kv)), .int (nI (le (tn kv)))]))]] hw 3 rfl (by omega)
        have hw : bW G A s.heap [[(ad 0, .inr (9, [.ref (ad 1), .ref (ad 2), .ref (ad 3), .ref (ad 4), .ref (ad 5), .ref (ad 6), .ref (ad 7), .int (fcF (ln (tn kv)) (le (tn kv)) lv iv)]))], [(ad 1, .inl (gH G, 4, .inr (.inr (.inr (.inr (fun q_ => some (sh q_)))))))], famX 4 sh (shE ca ln le) (tn kv), fam 4 ca (caE G ce), [(sh (tn kv), .inr (7, [.ref (ca (tn kv)), .int (ln (tn kv)), .int (nI (le (tn kv)))]))]] H locs := hw
        have hw := aw_inS [[(ad 0, .inr (9, [.ref (ad 1), .ref (ad 2), .ref (ad 3), .ref (ad 4), .ref (ad 5), .ref (ad 6), .ref (ad 7), .int (fcF (ln (tn kv)) (le (tn kv)) lv iv)]))], [(ad 1, .inl (gH G, 4, .inr (.inr (.inr (.inr (fun q_ => some (sh q_)))))))], famX 4 sh (shE ca ln le) (tn kv), fam 4 ca (caE G ce)] hw 2 rfl (by omega)
        have hw : bW G A s.heap [[(ad 0, .inr (9, [.ref (ad 1), .ref (ad 2), .ref (ad 3), .ref (ad 4), .ref (ad 5), .ref (ad 6), .ref (ad 7), .int (fcF (ln (tn kv)) (le (tn kv)) lv iv)]))], [(ad 1, .inl (gH G, 4, .inr (.inr (.inr (.inr (fun q_ => some (sh q_)))))))], fam 4 sh (shE ca ln le), fam 4 ca (caE G ce)] H locs := hw
        have hw := Eq.mp (congrArg (fun z_ : Int32 => bW G A s.heap [[(ad 0, .inr (9, [.ref (ad 1), .ref (ad 2), .ref (ad 3), .ref (ad 4), .ref (ad 5), .ref (ad 6), .ref (ad 7), .int z_]))], [(ad 1, .inl (gH G, 4, .inr (.inr (.inr (.inr (fun q_ => some (sh q_)))))))], fam 4 sh (shE ca ln le), fam 4 ca (caE G ce)] H locs) (show (fcF (ln (tn kv)) (le (tn kv)) lv iv : Int32) = f_cellF ln le kv iv lv from (by rw [f_cellF]; first | rw [if_neg (fun q => hz_k q.1)] | rw [if_neg (fun q => c21 q.2)] | rw [if_pos ⟨hz_k, c21⟩]))) hw
        have hw : bW G A s.heap [[(ad 0, .inr (9, [.ref (ad 1), .ref (ad 2), .ref (ad 3), .ref (ad 4), .ref (ad 5), .ref (ad 6), .ref (ad 7), .int (f_cellF ln le kv iv lv)]))], [(ad 1, .inl (gH G, 4, .inr (.inr (.inr (.inr (fun q_ => some (sh q_)))))))], fam 4 sh (shE ca ln le), fam 4 ca (caE G ce)] H locs := hw
        refine aw_eql (show (((ce (tn kv)) (tn iv)).toInt64 : Int64) = f_cell ln le ce kv iv lv from (by rw [f_cell, if_pos ⟨⟨hz_k, c21⟩, c43⟩])) ?_
        exact aw_lret S hr hlk ha hQ hAe hw dX10_cell_60 (Nat.le_of_ble_eq_true rfl) (Nat.le_of_ble_eq_true rfl) ⟨rfl, rfl⟩
    · refine lv_ldc2 (v := (-9223372036854775808)) S.1 S.2.1 S.2.2.2.1 (S.2.2.2.2 (.constantLong RX10 215 (-9223372036854775808)) (by decide +kernel)) dX10_cell_24 ?_
      have hw := aw_inS [[(ad 0, .inr (9, [.ref (ad 1), .ref (ad 2), .ref (ad 3), .ref (ad 4), .ref (ad 5), .ref (ad 6), .ref (ad 7), .int 0]))], [(ad 1, .inl (gH G, 4, .inr (.inr (.inr (.inr (fun q_ => some (sh q_)))))))], famX 4 sh (shE ca ln le) (tn kv), famX 4 ca (caE G ce) (tn kv), [(sh (tn kv), .inr (7, [.ref (ca (tn kv)), .int (ln (tn kv)), .int (nI (le (tn kv)))]))]] hw 3 rfl (by omega)
      have hw : bW G A s.heap [[(ad 0, .inr (9, [.ref (ad 1), .ref (ad 2), .ref (ad 3), .ref (ad 4), .ref (ad 5), .ref (ad 6), .ref (ad 7), .int 0]))], [(ad 1, .inl (gH G, 4, .inr (.inr (.inr (.inr (fun q_ => some (sh q_)))))))], famX 4 sh (shE ca ln le) (tn kv), fam 4 ca (caE G ce), [(sh (tn kv), .inr (7, [.ref (ca (tn kv)), .int (ln (tn kv)), .int (nI (le (tn kv)))]))]] H locs := hw
      have hw := aw_inS [[(ad 0, .inr (9, [.ref (ad 1), .ref (ad 2), .ref (ad 3), .ref (ad 4), .ref (ad 5), .ref (ad 6), .ref (ad 7), .int 0]))], [(ad 1, .inl (gH G, 4, .inr (.inr (.inr (.inr (fun q_ => some (sh q_)))))))], famX 4 sh (shE ca ln le) (tn kv), fam 4 ca (caE G ce)] hw 2 rfl (by omega)
      have hw : bW G A s.heap [[(ad 0, .inr (9, [.ref (ad 1), .ref (ad 2), .ref (ad 3), .ref (ad 4), .ref (ad 5), .ref (ad 6), .ref (ad 7), .int 0]))], [(ad 1, .inl (gH G, 4, .inr (.inr (.inr (.inr (fun q_ => some (sh q_)))))))], fam 4 sh (shE ca ln le), fam 4 ca (caE G ce)] H locs := hw
      have hw := Eq.mp (congrArg (fun z_ : Int32 => bW G A s.heap [[(ad 0, .inr (9, [.ref (ad 1), .ref (ad 2), .ref (ad 3), .ref (ad 4), .ref (ad 5), .ref (ad 6), .ref (ad 7), .int z_]))], [(ad 1, .inl (gH G, 4, .inr (.inr (.inr (.inr (fun q_ => some (sh q_)))))))], fam 4 sh (shE ca ln le), fam 4 ca (caE G ce)] H locs) (show (0 : Int32) = f_cellF ln le kv iv lv from (by rw [f_cellF]; first | rw [if_neg (fun q => hz_k q.1)] | rw [if_neg (fun q => c21 q.2)] | rw [if_pos ⟨hz_k, c21⟩]))) hw
      have hw : bW G A s.heap [[(ad 0, .inr (9, [.ref (ad 1), .ref (ad 2), .ref (ad 3), .ref (ad 4), .ref (ad 5), .ref (ad 6), .ref (ad 7), .int (f_cellF ln le kv iv lv)]))], [(ad 1, .inl (gH G, 4, .inr (.inr (.inr (.inr (fun q_ => some (sh q_)))))))], fam 4 sh (shE ca ln le), fam 4 ca (caE G ce)] H locs := hw
      refine aw_eql (show (-9223372036854775808 : Int64) = f_cell ln le ce kv iv lv from (by rw [f_cell, if_neg (fun q => c21 q.1.2)])) ?_
      exact aw_lret S hr hlk ha hQ hAe hw dX10_cell_27 (Nat.le_of_ble_eq_true rfl) (Nat.le_of_ble_eq_true rfl) ⟨rfl, rfl⟩
  · refine lv_aload_n S.1 S.2.1 dX10_cell_0 rfl (lv_at hl 0 rfl) ?_
    refine lv_iload_n S.1 S.2.1 dX10_cell_1 rfl (lv_at hl 1 rfl) ?_
    refine aw_callV S hE (c_X10_sheetAt_out l G ad fl sh kv hz_k) gX10_cell_X10_sheetAt (n := 1) rfl (by decide +kernel) rfl (by rw [hRm]; exact ⟨Nat.le_of_ble_eq_true rfl, Nat.le_of_ble_eq_true rfl⟩) (by rw [hRm]; exact ⟨Nat.le_of_ble_eq_true rfl, Nat.le_of_ble_eq_true rfl⟩) hw hA hl.1 [0, 1] rfl rfl (aw_recv (i := 0) hE hw rfl rfl rfl) rfl (Nat.le_of_ble_eq_true rfl) dX10_cell_2 ?_
    rintro v w1 H locs ⟨rfl, rfl⟩ hw
    have hw : bW G A s.heap [[(ad 0, .inr (9, [.ref (ad 1), .ref (ad 2), .ref (ad 3), .ref (ad 4), .ref (ad 5), .ref (ad 6), .ref (ad 7), .int fl]))], [(ad 1, .inl (gH G, 4, .inr (.inr (.inr (.inr (fun q_ => some (sh q_)))))))], fam 4 sh (shE ca ln le), fam 4 ca (caE G ce)] H locs := hw
    refine W.eq (g2 := (F0 m 5 ls [.null])) rfl ?_
    refine lv_astoreN (lv' := [(4, .null), (0, .ref (ad 0)), (1, .int kv), (2, .int iv), (3, .int lv)]) S.1 S.2.1 dX10_cell_5 hl (by decide) rfl (fun ls hl => ?_)
    refine lv_aload_n S.1 S.2.1 dX10_cell_7 rfl (lv_at hl 1 rfl) ?_
    refine lv_iconst (v := 0) S.1 S.2.1 dX10_cell_8 (by decide) ?_
    refine aw_putf S hE hw 0 (C := RX10) (T := TX10) (N := 8) rfl rfl hinX10 tyX10 tyX10_ok nmX10 7 (by decide) hf59 rfl rfl rfl (Nat.le_of_ble_eq_true rfl) dX10_cell_9 (fun H locs hw => ?_)
    have hw : bW G A s.heap [[(ad 0, .inr (9, [.ref (ad 1), .ref (ad 2), .ref (ad 3), .ref (ad 4), .ref (ad 5), .ref (ad 6), .ref (ad 7), .int 0]))], [(ad 1, .inl (gH G, 4, .inr (.inr (.inr (.inr (fun q_ => some (sh q_)))))))], fam 4 sh (shE ca ln le), fam 4 ca (caE G ce)] H locs := hw
    refine lv_aloadN S.1 S.2.1 dX10_cell_12 (lv_at hl 0 rfl) ?_
    refine lv_ifnullN (tgt := 24) S.1 S.2.1 dX10_cell_14 (by decide) ?_
    refine lv_ldc2 (v := (-9223372036854775808)) S.1 S.2.1 S.2.2.2.1 (S.2.2.2.2 (.constantLong RX10 215 (-9223372036854775808)) (by decide +kernel)) dX10_cell_24 ?_
    have hw := Eq.mp (congrArg (fun z_ : Int32 => bW G A s.heap [[(ad 0, .inr (9, [.ref (ad 1), .ref (ad 2), .ref (ad 3), .ref (ad 4), .ref (ad 5), .ref (ad 6), .ref (ad 7), .int z_]))], [(ad 1, .inl (gH G, 4, .inr (.inr (.inr (.inr (fun q_ => some (sh q_)))))))], fam 4 sh (shE ca ln le), fam 4 ca (caE G ce)] H locs) (show (0 : Int32) = f_cellF ln le kv iv lv from (by rw [f_cellF]; first | rw [if_neg (fun q => hz_k q.1)] | rw [if_neg (fun q => c21 q.2)] | rw [if_pos ⟨hz_k, c21⟩]))) hw
    have hw : bW G A s.heap [[(ad 0, .inr (9, [.ref (ad 1), .ref (ad 2), .ref (ad 3), .ref (ad 4), .ref (ad 5), .ref (ad 6), .ref (ad 7), .int (f_cellF ln le kv iv lv)]))], [(ad 1, .inl (gH G, 4, .inr (.inr (.inr (.inr (fun q_ => some (sh q_)))))))], fam 4 sh (shE ca ln le), fam 4 ca (caE G ce)] H locs := hw
    refine aw_eql (show (-9223372036854775808 : Int64) = f_cell ln le ce kv iv lv from (by rw [f_cell, if_neg (fun q => hz_k q.1.1)])) ?_
    exact aw_lret S hr hlk ha hQ hAe hw dX10_cell_27 (Nat.le_of_ble_eq_true rfl) (Nat.le_of_ble_eq_true rfl) ⟨rfl, rfl⟩
