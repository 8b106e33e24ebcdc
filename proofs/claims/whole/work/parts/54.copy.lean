/-! copies, turns that are judged, boarding -/
theorem fam_pos {wb : List va_W} {i n k : Nat} {r : Nat → Nat} {e : Nat → va_E} (hi : wb[i]? = some (fam n r e)) (hk : k < n) : ∃ q0 : Nat, wb.flatten[q0]? = some (r k, e k) ∧ ∀ y, wb.flatten.set q0 (r k, y) = (wb.set i (fam n r (va_up e k y))).flatten := by
  have key : ∀ (wb : List va_W) (i : Nat), wb[i]? = some (fam n r e) → ∃ q0 : Nat, wb.flatten[q0]? = some (r k, e k) ∧ ∀ y, wb.flatten.set q0 (r k, y) = (wb.set i (fam n r (va_up e k y))).flatten := by
    intro wb
    induction wb with
    | nil => intro i h; simp at h
    | cons b wb ih =>
      intro i h
      cases i with
      | zero =>
        simp only [List.getElem?_cons_zero, Option.some.injEq] at h
        subst h
        refine ⟨k, ?_, fun y => ?_⟩
        · rw [List.flatten_cons, List.getElem?_append_left (by rw [fam_len]; exact hk)]
          simp [fam, hk]
        · rw [List.flatten_cons, List.set_append_left _ _ (by rw [fam_len]; exact hk)]
          simp only [List.set_cons_zero, List.flatten_cons]
          congr 1
          apply List.ext_getElem?
          intro j
          rw [List.getElem?_set]
          by_cases e1 : k = j
          · subst e1
            simp [fam, hk, va_up_self]
          · rw [if_neg e1]
            simp only [fam, List.getElem?_map]
            rcases Nat.lt_or_ge j n with q | q
            · simp [q, va_up_ne _ _ (show j ≠ k from fun z => e1 z.symm)]
            · simp [List.getElem?_eq_none (show (List.range n).length ≤ j by simpa using q)]
      | succ i =>
        simp only [List.getElem?_cons_succ] at h
        obtain ⟨q0, h1, h2⟩ := ih i h
        refine ⟨b.length + q0, ?_, fun y => ?_⟩
        · rw [List.flatten_cons, List.getElem?_append_right (by omega), Nat.add_sub_cancel_left]
          exact h1
        · rw [List.flatten_cons, List.set_append_right _ _ (by omega), Nat.add_sub_cancel_left, h2 y]
          simp
  exact key wb i hi
section CPF
variable {p : Program} {l : Launch} {e : Env} {R : Room} {s : State} {m : MethodId} {args : Array Value} {below : List Frame} {meth : Method} {c : Code} {H : Heap} {locs : List Loc} {cells slots : Nat} {Q : State → Prop}
variable {G : aw_G} {A : Nat → Prop} {H0 : Heap} {wb wc : List va_W} {cc : ByteArray} {nL : Nat} {Ts : List Cond} {own : String} {pc : Nat} {ls : Array Slot} {rest : List Value}
theorem aw_copyF (S : CallFix p m c cc nL s args Ts own) (hE : aw_E G s) (hw : bW G A H0 wb H locs) (i : Nat) {index k o sp dp n : Nat} {ca : Nat → Nat} {ce : Nat → Nat → Int32} (hml : c.maxLocals = ls.size) (hlink : (Cond.methodLink own index arraycopyName).before args s = true) (hnat : (Cond.native arraycopyName).before args s = true) (hstat : (Cond.static arraycopyName).before args s = true) (hini : (Cond.initialized "java/lang/System").before args s = true)
    (hi : wb[i]? = some (fam 4 ca (caE G ce))) (hk : k < 4) (ho : o < 4) (h4 : sp + n ≤ 60) (h5 : dp + n ≤ 60) (hframes : 1 ≤ R.frames) (hlocals : (rest.map fun v => v.category).sum + (nativeFrameWords "java/lang/System" "arraycopy" 5 + 11) ≤ R.locals) (hdg : decode cc pc = .ok (.invokestatic index, 3))
    (kk : ∀ (H1 : Heap) (locs1 : List Loc), bW G A H0 (wb.set i (fam 4 ca (caE G (va_up ce o (va_cpy (ce k) (ce o) sp dp n))))) H1 locs1 → W p l e R s m args below meth c H1 locs1 cells slots Q (F0 m (pc + 3) ls rest)) : W p l e R s m args below meth c H locs cells slots Q (F0 m pc ls (.int (nI n) :: .int (nI dp) :: .ref (ca o) :: .int (nI sp) :: .ref (ca k) :: rest)) := by
  obtain ⟨q0, h1, -⟩ := fam_pos hi hk
  obtain ⟨q1, h2, h3⟩ := fam_pos hi ho
  refine va_copyi (D := G.1) S.1 S.2.1 hml S.2.2.2.1 hlink hnat hstat hini hE.1 hw.1 hw.2.1 hw.2.2 q0 q1 0 0 h1 h2 rfl rfl rfl (nI_pos (by omega)) (nI_pos (by omega)) (nI_pos (by omega)) (by rw [nI_clamp (by omega), nI_clamp (by omega)]; exact h4) (by rw [nI_clamp (by omega), nI_clamp (by omega)]; exact h5) (fun _ _ => rfl) hframes hlocals hdg (fun H1 locs1 hP hD hS => ?_)
  rw [h3, nI_clamp (by omega), nI_clamp (by omega), nI_clamp (by omega), caE_set] at hP hD
  exact kk H1 locs1 ⟨hP, hD, hS⟩
end CPF
abbrev f_rng (le : Nat) (iv nv : Int32) : Prop := 0 ≤ iv.toInt ∧ iv.toInt ≤ le ∧ nv.toInt ≤ le - iv.toInt
def f_copyF (ln : Nat → Int32) (le : Nat → Nat) (kv iv ov jv nv : Int32) : Int32 := if (0 ≤ kv.toInt ∧ kv.toInt < 4) ∧ 0 ≤ ov.toInt ∧ ov.toInt < 4 then (if ln (tn kv) = -1 ∨ ln (tn ov) = -1 then 1 else if ¬ ln (tn kv) = ln (tn ov) then 2 else if ¬ nv.toInt < 0 ∧ f_rng (le (tn kv)) iv nv ∧ f_rng (le (tn ov)) jv nv then 0 else 3) else 0
def f_copy (ln : Nat → Int32) (le : Nat → Nat) (kv iv ov jv nv : Int32) : Int32 := if (0 ≤ kv.toInt ∧ kv.toInt < 4) ∧ 0 ≤ ov.toInt ∧ ov.toInt < 4 then (if f_copyF ln le kv iv ov jv nv = 0 then nv else -10 - f_copyF ln le kv iv ov jv nv) else -1
abbrev f_copyP (ln : Nat → Int32) (le : Nat → Nat) (kv iv ov jv nv : Int32) : Prop := ((0 ≤ kv.toInt ∧ kv.toInt < 4) ∧ 0 ≤ ov.toInt ∧ ov.toInt < 4) ∧ f_copyF ln le kv iv ov jv nv = 0
/-- cells that are sets of the crew's -/
abbrev f_sets (n : Nat) (f : Nat → Int32) (i nn : Nat) : Prop := fF (fun x => !decide (f (i + x) &&& (nI (2 ^ n - 1) ^^^ (-1)) = 0)) nn = nn
def f_judgeF (n : Nat) (ln : Nat → Int32) (le : Nat → Nat) (kv lv iv nv : Int32) : Int32 := if (0 ≤ kv.toInt ∧ kv.toInt < 4) ∧ (0 ≤ lv.toInt ∧ lv.toInt < 3) ∧ ¬ n = 0 then frF (ln (tn kv)) (le (tn kv)) lv iv nv else 0
def f_judge (n : Nat) (ln : Nat → Int32) (le : Nat → Nat) (ce : Nat → Nat → Int32) (jd : Int32) (kv lv iv nv : Int32) : Int32 := if 0 ≤ kv.toInt ∧ kv.toInt < 4 then (if 0 ≤ lv.toInt ∧ lv.toInt < 3 then (if n = 0 then -3 else if frF (ln (tn kv)) (le (tn kv)) lv iv nv = 0 then (if tn nv ≤ 12 ∧ f_sets n (ce (tn kv)) (tn iv) (tn nv) then jd else -2) else -10 - frF (ln (tn kv)) (le (tn kv)) lv iv nv) else -2) else -1
def f_shipF (ln : Nat → Int32) (le : Nat → Nat) (kv lv iv nv : Int32) : Int32 := if (0 ≤ kv.toInt ∧ kv.toInt < 4) ∧ (0 ≤ lv.toInt ∧ lv.toInt < 3) then frF (ln (tn kv)) (le (tn kv)) lv iv nv else 0
def f_ship (ln : Nat → Int32) (le : Nat → Nat) (ce : Nat → Nat → Int32) (kv lv iv nv : Int32) : Int32 := if 0 ≤ kv.toInt ∧ kv.toInt < 4 then (if 0 ≤ lv.toInt ∧ lv.toInt < 3 then (if frF (ln (tn kv)) (le (tn kv)) lv iv nv = 0 then (if ffF (ce (tn kv)) (tn iv) (tn nv) = -9 then nI ((tn nv - 1) / 4) else -100 - ffF (ce (tn kv)) (tn iv) (tn nv)) else -10 - frF (ln (tn kv)) (le (tn kv)) lv iv nv) else -2) else -1
abbrev f_shipP (ln : Nat → Int32) (le : Nat → Nat) (ce : Nat → Nat → Int32) (kv lv iv nv : Int32) : Prop := ((0 ≤ kv.toInt ∧ kv.toInt < 4) ∧ 0 ≤ lv.toInt ∧ lv.toInt < 3) ∧ frF (ln (tn kv)) (le (tn kv)) lv iv nv = 0 ∧ ffF (ce (tn kv)) (tn iv) (tn nv) = -9
theorem ffF_ok {f : Nat → Int32} {i nn : Nat} (hn : nn ≤ 60) (h : ffF f i nn = -9) : (∀ x, x < nn → msB (f (i + x)) x = true) ∧ 9 ≤ nn ∧ nn % 4 = 1 ∧ nn ≤ 25 := by
  have hle : ffN f i nn ≤ nn := fF_le _ _
  unfold ffF at h
  by_cases h1 : ffN f i nn < nn
  · rw [if_pos h1, fa_eq, nI_toInt (by omega), li_m9] at h
    omega
  · rw [if_neg h1] at h
    by_cases h2 : 9 ≤ nn ∧ nn % 4 = 1
    · have hall : ∀ x, x < nn → msB (f (i + x)) x = true := by
        intro x hx
        have := fF_no (fun x => !msB (f (i + x)) x) nn x (by show x < ffN f i nn; omega)
        simpa using this
      refine ⟨hall, h2.1, h2.2, ?_⟩
      rcases Nat.lt_or_ge 25 nn with q | q
      · have h3 := hall 25 q
        unfold msB at h3
        simp at h3
      · exact q
    · rw [if_neg h2, fa_eq, nI_toInt (by omega), li_m9] at h
      omega
set_option maxRecDepth 100000 in
set_option maxHeartbeats 4000000 in
theorem c_X10_copy (l : Launch) (G : aw_G) (ad : Nat → Nat) (fl : Int32) (sh ca : Nat → Nat) (ln : Nat → Int32) (le : Nat → Nat) (ce : Nat → Nat → Int32) (kv iv ov jv nv : Int32) (hle : ∀ k, k < 4 → le k ≤ 60) : CT l G yX10_copy wsX10_copy ({ frames := 1, cells := 0, slots := 0, locals := 60 }) [.ref (ad 0), .int kv, .int iv, .int ov, .int jv, .int nv] [[(ad 0, .inr (9, [.ref (ad 1), .ref (ad 2), .ref (ad 3), .ref (ad 4), .ref (ad 5), .ref (ad 6), .ref (ad 7), .int fl]))], [(ad 1, .inl (gH G, 4, .inr (.inr (.inr (.inr (fun q_ => some (sh q_)))))))], fam 4 sh (shE ca ln le), fam 4 ca (caE G ce)] (dt (some (.int (f_copy ln le kv iv ov jv nv))) [[(ad 0, .inr (9, [.ref (ad 1), .ref (ad 2), .ref (ad 3), .ref (ad 4), .ref (ad 5), .ref (ad 6), .ref (ad 7), .int (f_copyF ln le kv iv ov jv nv)]))], [(ad 1, .inl (gH G, 4, .inr (.inr (.inr (.inr (fun q_ => some (sh q_)))))))], fam 4 sh (shE ca ln le), fam 4 ca (caE G (f_setIf (f_copyP ln le kv iv ov jv nv) ce (tn ov) (va_cpy (ce (tn kv)) (ce (tn ov)) (tn iv) (tn jv) (tn nv))))]) := by
  refine CT.of (cc := cX10_copy) (nL := 8) (ret := (some .int)) (by decide) rfl (Nat.le_of_ble_eq_true rfl) ?_
  intro p e s m below meth c R args Q A hRm ha hQ hAe hA S hE hr hlk hnm H locs hH0 hL0 ls hl hw
  have S : CallFix p m c cX10_copy 8 s args wsX10_copy RX10 := S
  have hl : lv_has ls 8 [(0, .ref (ad 0)), (1, .int kv), (2, .int iv), (3, .int ov), (4, .int jv), (5, .int nv)] := hl
  have hinX7 : ∀ w ∈ u_ws RX7 TX7 3, w ∈ wsX10_copy := by decide +kernel
  have hf242 := S.2.2.2.2 (.fieldLink RX10 242 "AwakeTurns$Sheet" "lane" "I") (by decide +kernel)
  have hinX10 : ∀ w ∈ u_ws RX10 TX10 8, w ∈ wsX10_copy := by decide +kernel
  have hf59 := S.2.2.2.2 (.fieldLink RX10 59 "AwakeTurns" "lastFault" "I") (by decide +kernel)
  have hf82 := S.2.2.2.2 (.fieldLink RX10 82 "AwakeTurns$Sheet" "cells" "[I") (by decide +kernel)
  have hz_ac1 := S.2.2.2.2 (.methodLink RX10 182 arraycopyName) (by decide +kernel)
  have hz_ac2 := S.2.2.2.2 (.native arraycopyName) (by decide +kernel)
  have hz_ac3 := S.2.2.2.2 (.static arraycopyName) (by decide +kernel)
  have hz_ac4 := S.2.2.2.2 (.initialized "java/lang/System") (by decide +kernel)
  by_cases hz_k : 0 ≤ kv.toInt ∧ kv.toInt < 4
  · have hb_kv : tn kv < 4 := aw_tnL hz_k
    have hl := Eq.mp (congrArg (fun z_ : Int32 => lv_has ls 8 [(0, .ref (ad 0)), (1, .int z_), (2, .int iv), (3, .int ov), (4, .int jv), (5, .int nv)]) (show (kv : Int32) = nI (tn kv) from (aw_tnE hz_k))) hl
    have hl : lv_has ls 8 [(0, .ref (ad 0)), (1, .int (nI (tn kv))), (2, .int iv), (3, .int ov), (4, .int jv), (5, .int nv)] := hl
    have hle_kv := hle _ hb_kv
    refine lv_aload_n S.1 S.2.1 dX10_copy_0 rfl (lv_at hl 0 rfl) ?_
    refine lv_iload_n S.1 S.2.1 dX10_copy_1 rfl (lv_at hl 1 rfl) ?_
    refine aw_callV S hE (c_X10_sheetAt_in l G ad fl sh (tn kv) hb_kv) gX10_copy_X10_sheetAt (n := 1) rfl (by decide +kernel) rfl (by rw [hRm]; exact ⟨Nat.le_of_ble_eq_true rfl, Nat.le_of_ble_eq_true rfl⟩) (by rw [hRm]; exact ⟨Nat.le_of_ble_eq_true rfl, Nat.le_of_ble_eq_true rfl⟩) hw hA hl.1 [0, 1] rfl rfl (aw_recv (i := 0) hE hw rfl rfl rfl) rfl (Nat.le_of_ble_eq_true rfl) dX10_copy_2 ?_
    rintro v w1 H locs ⟨rfl, rfl⟩ hw
    have hw : bW G A s.heap [[(ad 0, .inr (9, [.ref (ad 1), .ref (ad 2), .ref (ad 3), .ref (ad 4), .ref (ad 5), .ref (ad 6), .ref (ad 7), .int fl]))], [(ad 1, .inl (gH G, 4, .inr (.inr (.inr (.inr (fun q_ => some (sh q_)))))))], fam 4 sh (shE ca ln le), fam 4 ca (caE G ce)] H locs := hw
    refine W.eq (g2 := (F0 m 5 ls [.ref (sh (tn kv))])) rfl ?_
    refine lv_astore (lv' := [(6, .ref (sh (tn kv))), (0, .ref (ad 0)), (1, .int (nI (tn kv))), (2, .int iv), (3, .int ov), (4, .int jv), (5, .int nv)]) S.1 S.2.1 dX10_copy_5 hl (by decide) rfl (fun ls hl => ?_)
    by_cases hz_o : 0 ≤ ov.toInt ∧ ov.toInt < 4
    · have hb_ov : tn ov < 4 := aw_tnL hz_o
      have hl := Eq.mp (congrArg (fun z_ : Int32 => lv_has ls 8 [(6, .ref (sh (tn kv))), (0, .ref (ad 0)), (1, .int (nI (tn kv))), (2, .int iv), (3, .int z_), (4, .int jv), (5, .int nv)]) (show (ov : Int32) = nI (tn ov) from (aw_tnE hz_o))) hl
      have hl : lv_has ls 8 [(6, .ref (sh (tn kv))), (0, .ref (ad 0)), (1, .int (nI (tn kv))), (2, .int iv), (3, .int (nI (tn ov))), (4, .int jv), (5, .int nv)] := hl
      have hle_ov := hle _ hb_ov
      refine lv_aload_n S.1 S.2.1 dX10_copy_7 rfl (lv_at hl 1 rfl) ?_
      refine lv_iload_n S.1 S.2.1 dX10_copy_8 rfl (lv_at hl 4 rfl) ?_
      refine aw_callV S hE (c_X10_sheetAt_in l G ad fl sh (tn ov) hb_ov) gX10_copy_X10_sheetAt (n := 1) rfl (by decide +kernel) rfl (by rw [hRm]; exact ⟨Nat.le_of_ble_eq_true rfl, Nat.le_of_ble_eq_true rfl⟩) (by rw [hRm]; exact ⟨Nat.le_of_ble_eq_true rfl, Nat.le_of_ble_eq_true rfl⟩) hw hA hl.1 [0, 1] rfl rfl (aw_recv (i := 0) hE hw rfl rfl rfl) rfl (Nat.le_of_ble_eq_true rfl) dX10_copy_9 ?_
      rintro v w1 H locs ⟨rfl, rfl⟩ hw
      have hw : bW G A s.heap [[(ad 0, .inr (9, [.ref (ad 1), .ref (ad 2), .ref (ad 3), .ref (ad 4), .ref (ad 5), .ref (ad 6), .ref (ad 7), .int fl]))], [(ad 1, .inl (gH G, 4, .inr (.inr (.inr (.inr (fun q_ => some (sh q_)))))))], fam 4 sh (shE ca ln le), fam 4 ca (caE G ce)] H locs := hw
      refine W.eq (g2 := (F0 m 12 ls [.ref (sh (tn ov))])) rfl ?_
      refine lv_astore (lv' := [(7, .ref (sh (tn ov))), (6, .ref (sh (tn kv))), (0, .ref (ad 0)), (1, .int (nI (tn kv))), (2, .int iv), (3, .int (nI (tn ov))), (4, .int jv), (5, .int nv)]) S.1 S.2.1 dX10_copy_12 hl (by decide) rfl (fun ls hl => ?_)
      refine lv_aload S.1 S.2.1 dX10_copy_14 (lv_at hl 1 rfl) ?_
      refine lv_ifnull S.1 S.2.1 dX10_copy_16 ?_
      refine lv_aload S.1 S.2.1 dX10_copy_19 (lv_at hl 0 rfl) ?_
      refine lv_ifnonnull (tgt := 30) S.1 S.2.1 dX10_copy_21 (by decide) ?_
      refine lv_aload S.1 S.2.1 dX10_copy_30 (lv_at hl 1 rfl) ?_
      have hw := aw_out hw 2 rfl (tn kv) (by omega)
      have hw : bW G A s.heap [[(ad 0, .inr (9, [.ref (ad 1), .ref (ad 2), .ref (ad 3), .ref (ad 4), .ref (ad 5), .ref (ad 6), .ref (ad 7), .int fl]))], [(ad 1, .inl (gH G, 4, .inr (.inr (.inr (.inr (fun q_ => some (sh q_)))))))], famX 4 sh (shE ca ln le) (tn kv), fam 4 ca (caE G ce), [(sh (tn kv), .inr (7, [.ref (ca (tn kv)), .int (ln (tn kv)), .int (nI (le (tn kv)))]))]] H locs := hw
      refine aw_callV S hE (c_X7_isNothing l G (sh (tn kv)) (ca (tn kv)) (ln (tn kv)) (le (tn kv))) gX10_copy_X7_isNothing (n := 0) rfl (by decide +kernel) rfl (by rw [hRm]; exact ⟨Nat.le_of_ble_eq_true rfl, Nat.le_of_ble_eq_true rfl⟩) (by rw [hRm]; exact ⟨Nat.le_of_ble_eq_true rfl, Nat.le_of_ble_eq_true rfl⟩) hw hA hl.1 [4] rfl rfl (aw_recv (i := 4) hE hw rfl rfl rfl) rfl (Nat.le_of_ble_eq_true rfl) dX10_copy_32 ?_
      rintro v w1 H locs ⟨rfl, rfl⟩ hw
      have hw : bW G A s.heap [[(ad 0, .inr (9, [.ref (ad 1), .ref (ad 2), .ref (ad 3), .ref (ad 4), .ref (ad 5), .ref (ad 6), .ref (ad 7), .int fl]))], [(ad 1, .inl (gH G, 4, .inr (.inr (.inr (.inr (fun q_ => some (sh q_)))))))], famX 4 sh (shE ca ln le) (tn kv), fam 4 ca (caE G ce), [(sh (tn kv), .inr (7, [.ref (ca (tn kv)), .int (ln (tn kv)), .int (nI (le (tn kv)))]))]] H locs := hw
      refine W.eq (g2 := (F0 m 35 ls [.int (if (ln (tn kv)) = -1 then 1 else 0)])) rfl ?_
      have hw := aw_inS [[(ad 0, .inr (9, [.ref (ad 1), .ref (ad 2), .ref (ad 3), .ref (ad 4), .ref (ad 5), .ref (ad 6), .ref (ad 7), .int fl]))], [(ad 1, .inl (gH G, 4, .inr (.inr (.inr (.inr (fun q_ => some (sh q_)))))))], famX 4 sh (shE ca ln le) (tn kv), fam 4 ca (caE G ce)] hw 2 rfl (by omega)
      have hw : bW G A s.heap [[(ad 0, .inr (9, [.ref (ad 1), .ref (ad 2), .ref (ad 3), .ref (ad 4), .ref (ad 5), .ref (ad 6), .ref (ad 7), .int fl]))], [(ad 1, .inl (gH G, 4, .inr (.inr (.inr (.inr (fun q_ => some (sh q_)))))))], fam 4 sh (shE ca ln le), fam 4 ca (caE G ce)] H locs := hw
      refine aw_ifne (P := (ln (tn kv)) = -1) (tgt := 46) S dX10_copy_35 (by decide) (fun c35 => ?_) (fun c35 => ?_)
      · have hF : f_copyF ln le kv iv ov jv nv = 1 := by rw [f_copyF, if_pos ⟨hz_k, hz_o⟩, if_pos (Or.inl c35)]
        refine lv_aload_n S.1 S.2.1 dX10_copy_46 rfl (lv_at hl 2 rfl) ?_
        refine lv_iconst (v := 1) S.1 S.2.1 dX10_copy_47 (by decide) ?_
        refine aw_callV S hE (c_X10_failed l G ad fl 1) gX10_copy_X10_failed (n := 1) rfl (by decide +kernel) rfl (by rw [hRm]; exact ⟨Nat.le_of_ble_eq_true rfl, Nat.le_of_ble_eq_true rfl⟩) (by rw [hRm]; exact ⟨Nat.le_of_ble_eq_true rfl, Nat.le_of_ble_eq_true rfl⟩) hw hA hl.1 [0] rfl rfl (aw_recv (i := 0) hE hw rfl rfl rfl) rfl (Nat.le_of_ble_eq_true rfl) dX10_copy_48 ?_
        rintro v w1 H locs ⟨rfl, rfl⟩ hw
        have hw : bW G A s.heap [[(ad 0, .inr (9, [.ref (ad 1), .ref (ad 2), .ref (ad 3), .ref (ad 4), .ref (ad 5), .ref (ad 6), .ref (ad 7), .int 1]))], [(ad 1, .inl (gH G, 4, .inr (.inr (.inr (.inr (fun q_ => some (sh q_)))))))], fam 4 sh (shE ca ln le), fam 4 ca (caE G ce)] H locs := hw
        refine W.eq (g2 := (F0 m 51 ls [.int (-10 - 1)])) rfl ?_
        rw [fam_congr (n := 4) (r := ca) (e := (caE G ce)) (e' := (caE G (f_setIf (f_copyP ln le kv iv ov jv nv) ce (tn ov) (va_cpy (ce (tn kv)) (ce (tn ov)) (tn iv) (tn jv) (tn nv))))) (fun _ _ => by rw [← setIf_f (show ¬ f_copyP ln le kv iv ov jv nv from fun q => absurd (hF.symm.trans q.2) (by decide))])] at hw
        have hw : bW G A s.heap [[(ad 0, .inr (9, [.ref (ad 1), .ref (ad 2), .ref (ad 3), .ref (ad 4), .ref (ad 5), .ref (ad 6), .ref (ad 7), .int 1]))], [(ad 1, .inl (gH G, 4, .inr (.inr (.inr (.inr (fun q_ => some (sh q_)))))))], fam 4 sh (shE ca ln le), fam 4 ca (caE G (f_setIf (f_copyP ln le kv iv ov jv nv) ce (tn ov) (va_cpy (ce (tn kv)) (ce (tn ov)) (tn iv) (tn jv) (tn nv))))] H locs := hw
        have hw := Eq.mp (congrArg (fun z_ : Int32 => bW G A s.heap [[(ad 0, .inr (9, [.ref (ad 1), .ref (ad 2), .ref (ad 3), .ref (ad 4), .ref (ad 5), .ref (ad 6), .ref (ad 7), .int z_]))], [(ad 1, .inl (gH G, 4, .inr (.inr (.inr (.inr (fun q_ => some (sh q_)))))))], fam 4 sh (shE ca ln le), fam 4 ca (caE G (f_setIf (f_copyP ln le kv iv ov jv nv) ce (tn ov) (va_cpy (ce (tn kv)) (ce (tn ov)) (tn iv) (tn jv) (tn nv))))] H locs) (show (1 : Int32) = f_copyF ln le kv iv ov jv nv from hF.symm)) hw
        have hw : bW G A s.heap [[(ad 0, .inr (9, [.ref (ad 1), .ref (ad 2), .ref (ad 3), .ref (ad 4), .ref (ad 5), .ref (ad 6), .ref (ad 7), .int (f_copyF ln le kv iv ov jv nv)]))], [(ad 1, .inl (gH G, 4, .inr (.inr (.inr (.inr (fun q_ => some (sh q_)))))))], fam 4 sh (shE ca ln le), fam 4 ca (caE G (f_setIf (f_copyP ln le kv iv ov jv nv) ce (tn ov) (va_cpy (ce (tn kv)) (ce (tn ov)) (tn iv) (tn jv) (tn nv))))] H locs := hw
        refine aw_eqi (show (-10 - 1 : Int32) = f_copy ln le kv iv ov jv nv from (by rw [f_copy, if_pos ⟨hz_k, hz_o⟩, hF]; rfl)) ?_
        exact aw_iret S hr hlk ha hQ hAe hw dX10_copy_51 rfl (Nat.le_of_ble_eq_true rfl) (Nat.le_of_ble_eq_true rfl) ⟨rfl, rfl⟩
      · refine lv_aload S.1 S.2.1 dX10_copy_38 (lv_at hl 0 rfl) ?_
        have hw := aw_out hw 2 rfl (tn ov) (by omega)
        have hw : bW G A s.heap [[(ad 0, .inr (9, [.ref (ad 1), .ref (ad 2), .ref (ad 3), .ref (ad 4), .ref (ad 5), .ref (ad 6), .ref (ad 7), .int fl]))], [(ad 1, .inl (gH G, 4, .inr (.inr (.inr (.inr (fun q_ => some (sh q_)))))))], famX 4 sh (shE ca ln le) (tn ov), fam 4 ca (caE G ce), [(sh (tn ov), .inr (7, [.ref (ca (tn ov)), .int (ln (tn ov)), .int (nI (le (tn ov)))]))]] H locs := hw
        refine aw_callV S hE (c_X7_isNothing l G (sh (tn ov)) (ca (tn ov)) (ln (tn ov)) (le (tn ov))) gX10_copy_X7_isNothing (n := 0) rfl (by decide +kernel) rfl (by rw [hRm]; exact ⟨Nat.le_of_ble_eq_true rfl, Nat.le_of_ble_eq_true rfl⟩) (by rw [hRm]; exact ⟨Nat.le_of_ble_eq_true rfl, Nat.le_of_ble_eq_true rfl⟩) hw hA hl.1 [4] rfl rfl (aw_recv (i := 4) hE hw rfl rfl rfl) rfl (Nat.le_of_ble_eq_true rfl) dX10_copy_40 ?_
        rintro v w1 H locs ⟨rfl, rfl⟩ hw
        have hw : bW G A s.heap [[(ad 0, .inr (9, [.ref (ad 1), .ref (ad 2), .ref (ad 3), .ref (ad 4), .ref (ad 5), .ref (ad 6), .ref (ad 7), .int fl]))], [(ad 1, .inl (gH G, 4, .inr (.inr (.inr (.inr (fun q_ => some (sh q_)))))))], famX 4 sh (shE ca ln le) (tn ov), fam 4 ca (caE G ce), [(sh (tn ov), .inr (7, [.ref (ca (tn ov)), .int (ln (tn ov)), .int (nI (le (tn ov)))]))]] H locs := hw
        refine W.eq (g2 := (F0 m 43 ls [.int (if (ln (tn ov)) = -1 then 1 else 0)])) rfl ?_
        have hw := aw_inS [[(ad 0, .inr (9, [.ref (ad 1), .ref (ad 2), .ref (ad 3), .ref (ad 4), .ref (ad 5), .ref (ad 6), .ref (ad 7), .int fl]))], [(ad 1, .inl (gH G, 4, .inr (.inr (.inr (.inr (fun q_ => some (sh q_)))))))], famX 4 sh (shE ca ln le) (tn ov), fam 4 ca (caE G ce)] hw 2 rfl (by omega)
        have hw : bW G A s.heap [[(ad 0, .inr (9, [.ref (ad 1), .ref (ad 2), .ref (ad 3), .ref (ad 4), .ref (ad 5), .ref (ad 6), .ref (ad 7), .int fl]))], [(ad 1, .inl (gH G, 4, .inr (.inr (.inr (.inr (fun q_ => some (sh q_)))))))], fam 4 sh (shE ca ln le), fam 4 ca (caE G ce)] H locs := hw
        refine aw_ifeq (P := (ln (tn ov)) = -1) (tgt := 52) S dX10_copy_43 (by decide) (fun c43 => ?_) (fun c43 => ?_)
        · refine lv_aload S.1 S.2.1 dX10_copy_52 (lv_at hl 1 rfl) ?_
          have hw := aw_out hw 2 rfl (tn kv) (by omega)
          have hw : bW G A s.heap [[(ad 0, .inr (9, [.ref (ad 1), .ref (ad 2), .ref (ad 3), .ref (ad 4), .ref (ad 5), .ref (ad 6), .ref (ad 7), .int fl]))], [(ad 1, .inl (gH G, 4, .inr (.inr (.inr (.inr (fun q_ => some (sh q_)))))))], famX 4 sh (shE ca ln le) (tn kv), fam 4 ca (caE G ce), [(sh (tn kv), .inr (7, [.ref (ca (tn kv)), .int (ln (tn kv)), .int (nI (le (tn kv)))]))]] H locs := hw
          refine aw_get S hE hw 4 (C := RX7) (T := TX7) (N := 3) rfl rfl hinX7 1 (by decide) hf242 rfl dX10_copy_54 ?_
          have hw := aw_inS [[(ad 0, .inr (9, [.ref (ad 1), .ref (ad 2), .ref (ad 3), .ref (ad 4), .ref (ad 5), .ref (ad 6), .ref (ad 7), .int fl]))], [(ad 1, .inl (gH G, 4, .inr (.inr (.inr (.inr (fun q_ => some (sh q_)))))))], famX 4 sh (shE ca ln le) (tn kv), fam 4 ca (caE G ce)] hw 2 rfl (by omega)
          have hw : bW G A s.heap [[(ad 0, .inr (9, [.ref (ad 1), .ref (ad 2), .ref (ad 3), .ref (ad 4), .ref (ad 5), .ref (ad 6), .ref (ad 7), .int fl]))], [(ad 1, .inl (gH G, 4, .inr (.inr (.inr (.inr (fun q_ => some (sh q_)))))))], fam 4 sh (shE ca ln le), fam 4 ca (caE G ce)] H locs := hw
          refine lv_aload S.1 S.2.1 dX10_copy_57 (lv_at hl 0 rfl) ?_
          have hw := aw_out hw 2 rfl (tn ov) (by omega)
          have hw : bW G A s.heap [[(ad 0, .inr (9, [.ref (ad 1), .ref (ad 2), .ref (ad 3), .ref (ad 4), .ref (ad 5), .ref (ad 6), .ref (ad 7), .int fl]))], [(ad 1, .inl (gH G, 4, .inr (.inr (.inr (.inr (fun q_ => some (sh q_)))))))], famX 4 sh (shE ca ln le) (tn ov), fam 4 ca (caE G ce), [(sh (tn ov), .inr (7, [.ref (ca (tn ov)), .int (ln (tn ov)), .int (nI (le (tn ov)))]))]] H locs := hw
          refine aw_get S hE hw 4 (C := RX7) (T := TX7) (N := 3) rfl rfl hinX7 1 (by decide) hf242 rfl dX10_copy_59 ?_
          have hw := aw_inS [[(ad 0, .inr (9, [.ref (ad 1), .ref (ad 2), .ref (ad 3), .ref (ad 4), .ref (ad 5), .ref (ad 6), .ref (ad 7), .int fl]))], [(ad 1, .inl (gH G, 4, .inr (.inr (.inr (.inr (fun q_ => some (sh q_)))))))], famX 4 sh (shE ca ln le) (tn ov), fam 4 ca (caE G ce)] hw 2 rfl (by omega)
          have hw : bW G A s.heap [[(ad 0, .inr (9, [.ref (ad 1), .ref (ad 2), .ref (ad 3), .ref (ad 4), .ref (ad 5), .ref (ad 6), .ref (ad 7), .int fl]))], [(ad 1, .inl (gH G, 4, .inr (.inr (.inr (.inr (fun q_ => some (sh q_)))))))], fam 4 sh (shE ca ln le), fam 4 ca (caE G ce)] H locs := hw
          refine lv_icmp_eq (tgt := 71) S.1 S.2.1 dX10_copy_62 (by decide) (fun c62 => ?_) (fun c62 => ?_)
          · refine lv_iload S.1 S.2.1 dX10_copy_71 (lv_at hl 7 rfl) ?_
            refine lv_if_lt (tgt := 99) S.1 S.2.1 dX10_copy_73 (by decide) (fun c73 => ?_) (fun c73 => ?_)
            · rw [fa_lt, li_0] at c73
              have hF : f_copyF ln le kv iv ov jv nv = 3 := by rw [f_copyF, if_pos ⟨hz_k, hz_o⟩, if_neg (fun q => q.elim c35 c43), if_neg (not_not_intro c62), if_neg (by omega)]
              refine lv_aload_n S.1 S.2.1 dX10_copy_99 rfl (lv_at hl 2 rfl) ?_
              refine lv_iconst (v := 3) S.1 S.2.1 dX10_copy_100 (by decide) ?_
              refine aw_callV S hE (c_X10_failed l G ad fl 3) gX10_copy_X10_failed (n := 1) rfl (by decide +kernel) rfl (by rw [hRm]; exact ⟨Nat.le_of_ble_eq_true rfl, Nat.le_of_ble_eq_true rfl⟩) (by rw [hRm]; exact ⟨Nat.le_of_ble_eq_true rfl, Nat.le_of_ble_eq_true rfl⟩) hw hA hl.1 [0] rfl rfl (aw_recv (i := 0) hE hw rfl rfl rfl) rfl (Nat.le_of_ble_eq_true rfl) dX10_copy_101 ?_
              rintro v w1 H locs ⟨rfl, rfl⟩ hw
              have hw : bW G A s.heap [[(ad 0, .inr (9, [.ref (ad 1), .ref (ad 2), .ref (ad 3), .ref (ad 4), .ref (ad 5), .ref (ad 6), .ref (ad 7), .int 3]))], [(ad 1, .inl (gH G, 4, .inr (.inr (.inr (.inr (fun q_ => some (sh q_)))))))], fam 4 sh (shE ca ln le), fam 4 ca (caE G ce)] H locs := hw
              refine W.eq (g2 := (F0 m 104 ls [.int (-10 - 3)])) rfl ?_
              rw [fam_congr (n := 4) (r := ca) (e := (caE G ce)) (e' := (caE G (f_setIf (f_copyP ln le kv iv ov jv nv) ce (tn ov) (va_cpy (ce (tn kv)) (ce (tn ov)) (tn iv) (tn jv) (tn nv))))) (fun _ _ => by rw [← setIf_f (show ¬ f_copyP ln le kv iv ov jv nv from fun q => absurd (hF.symm.trans q.2) (by decide))])] at hw
              have hw : bW G A s.heap [[(ad 0, .inr (9, [.ref (ad 1), .ref (ad 2), .ref (ad 3), .ref (ad 4), .ref (ad 5), .ref (ad 6), .ref (ad 7), .int 3]))], [(ad 1, .inl (gH G, 4, .inr (.inr (.inr (.inr (fun q_ => some (sh q_)))))))], fam 4 sh (shE ca ln le), fam 4 ca (caE G (f_setIf (f_copyP ln le kv iv ov jv nv) ce (tn ov) (va_cpy (ce (tn kv)) (ce (tn ov)) (tn iv) (tn jv) (tn nv))))] H locs := hw
              have hw := Eq.mp (congrArg (fun z_ : Int32 => bW G A s.heap [[(ad 0, .inr (9, [.ref (ad 1), .ref (ad 2), .ref (ad 3), .ref (ad 4), .ref (ad 5), .ref (ad 6), .ref (ad 7), .int z_]))], [(ad 1, .inl (gH G, 4, .inr (.inr (.inr (.inr (fun q_ => some (sh q_)))))))], fam 4 sh (shE ca ln le), fam 4 ca (caE G (f_setIf (f_copyP ln le kv iv ov jv nv) ce (tn ov) (va_cpy (ce (tn kv)) (ce (tn ov)) (tn iv) (tn jv) (tn nv))))] H locs) (show (3 : Int32) = f_copyF ln le kv iv ov jv nv from hF.symm)) hw
              have hw : bW G A s.heap [[(ad 0, .inr (9, [.ref (ad 1), .ref (ad 2), .ref (ad 3), .ref (ad 4), .ref (ad 5), .ref (ad 6), .ref (ad 7), .int (f_copyF ln le kv iv ov jv nv)]))], [(ad 1, .inl (gH G, 4, .inr (.inr (.inr (.inr (fun q_ => some (sh q_)))))))], fam 4 sh (shE ca ln le), fam 4 ca (caE G (f_setIf (f_copyP ln le kv iv ov jv nv) ce (tn ov) (va_cpy (ce (tn kv)) (ce (tn ov)) (tn iv) (tn jv) (tn nv))))] H locs := hw
              refine aw_eqi (show (-10 - 3 : Int32) = f_copy ln le kv iv ov jv nv from (by rw [f_copy, if_pos ⟨hz_k, hz_o⟩, hF]; rfl)) ?_
              exact aw_iret S hr hlk ha hQ hAe hw dX10_copy_104 rfl (Nat.le_of_ble_eq_true rfl) (Nat.le_of_ble_eq_true rfl) ⟨rfl, rfl⟩
            · rw [fa_lt, li_0] at c73
              refine lv_aload S.1 S.2.1 dX10_copy_76 (lv_at hl 1 rfl) ?_
              refine lv_iload_n S.1 S.2.1 dX10_copy_78 rfl (lv_at hl 4 rfl) ?_
              refine lv_iload S.1 S.2.1 dX10_copy_79 (lv_at hl 7 rfl) ?_
              have hw := aw_out hw 2 rfl (tn kv) (by omega)
              have hw : bW G A s.heap [[(ad 0, .inr (9, [.ref (ad 1), .ref (ad 2), .ref (ad 3), .ref (ad 4), .ref (ad 5), .ref (ad 6), .ref (ad 7), .int fl]))], [(ad 1, .inl (gH G, 4, .inr (.inr (.inr (.inr (fun q_ => some (sh q_)))))))], famX 4 sh (shE ca ln le) (tn kv), fam 4 ca (caE G ce), [(sh (tn kv), .inr (7, [.ref (ca (tn kv)), .int (ln (tn kv)), .int (nI (le (tn kv)))]))]] H locs := hw
              refine aw_callV S hE (c_X7_hasRange l G (sh (tn kv)) (ca (tn kv)) (ln (tn kv)) (le (tn kv)) iv nv hle_kv) gX10_copy_X7_hasRange (n := 2) rfl (by decide +kernel) rfl (by rw [hRm]; exact ⟨Nat.le_of_ble_eq_true rfl, Nat.le_of_ble_eq_true rfl⟩) (by rw [hRm]; exact ⟨Nat.le_of_ble_eq_true rfl, Nat.le_of_ble_eq_true rfl⟩) hw hA hl.1 [4] rfl rfl (aw_recv (i := 4) hE hw rfl rfl rfl) rfl (Nat.le_of_ble_eq_true rfl) dX10_copy_81 ?_
              rintro v w1 H locs ⟨rfl, rfl⟩ hw
              have hw : bW G A s.heap [[(ad 0, .inr (9, [.ref (ad 1), .ref (ad 2), .ref (ad 3), .ref (ad 4), .ref (ad 5), .ref (ad 6), .ref (ad 7), .int fl]))], [(ad 1, .inl (gH G, 4, .inr (.inr (.inr (.inr (fun q_ => some (sh q_)))))))], famX 4 sh (shE ca ln le) (tn kv), fam 4 ca (caE G ce), [(sh (tn kv), .inr (7, [.ref (ca (tn kv)), .int (ln (tn kv)), .int (nI (le (tn kv)))]))]] H locs := hw
              refine W.eq (g2 := (F0 m 84 ls [.int (if 0 ≤ iv.toInt ∧ iv.toInt ≤ (le (tn kv)) ∧ nv.toInt ≤ (le (tn kv)) - iv.toInt then 1 else 0)])) rfl ?_
              have hw := aw_inS [[(ad 0, .inr (9, [.ref (ad 1), .ref (ad 2), .ref (ad 3), .ref (ad 4), .ref (ad 5), .ref (ad 6), .ref (ad 7), .int fl]))], [(ad 1, .inl (gH G, 4, .inr (.inr (.inr (.inr (fun q_ => some (sh q_)))))))], famX 4 sh (shE ca ln le) (tn kv), fam 4 ca (caE G ce)] hw 2 rfl (by omega)
              have hw : bW G A s.heap [[(ad 0, .inr (9, [.ref (ad 1), .ref (ad 2), .ref (ad 3), .ref (ad 4), .ref (ad 5), .ref (ad 6), .ref (ad 7), .int fl]))], [(ad 1, .inl (gH G, 4, .inr (.inr (.inr (.inr (fun q_ => some (sh q_)))))))], fam 4 sh (shE ca ln le), fam 4 ca (caE G ce)] H locs := hw
              refine aw_ifeq (P := 0 ≤ iv.toInt ∧ iv.toInt ≤ (le (tn kv)) ∧ nv.toInt ≤ (le (tn kv)) - iv.toInt) (tgt := 99) S dX10_copy_84 (by decide) (fun c84 => ?_) (fun c84 => ?_)
              · have hF : f_copyF ln le kv iv ov jv nv = 3 := by rw [f_copyF, if_pos ⟨hz_k, hz_o⟩, if_neg (fun q => q.elim c35 c43), if_neg (not_not_intro c62), if_neg (by omega)]
                refine lv_aload_n S.1 S.2.1 dX10_copy_99 rfl (lv_at hl 2 rfl) ?_
                refine lv_iconst (v := 3) S.1 S.2.1 dX10_copy_100 (by decide) ?_
                refine aw_callV S hE (c_X10_failed l G ad fl 3) gX10_copy_X10_failed (n := 1) rfl (by decide +kernel) rfl (by rw [hRm]; exact ⟨Nat.le_of_ble_eq_true rfl, Nat.le_of_ble_eq_true rfl⟩) (by rw [hRm]; exact ⟨Nat.le_of_ble_eq_true rfl, Nat.le_of_ble_eq_true rfl⟩) hw hA hl.1 [0] rfl rfl (aw_recv (i := 0) hE hw rfl rfl rfl) rfl (Nat.le_of_ble_eq_true rfl) dX10_copy_101 ?_
                rintro v w1 H locs ⟨rfl, rfl⟩ hw
                have hw : bW G A s.heap [[(ad 0, .inr (9, [.ref (ad 1), .ref (ad 2), .ref (ad 3), .ref (ad 4), .ref (ad 5), .ref (ad 6), .ref (ad 7), .int 3]))], [(ad 1, .inl (gH G, 4, .inr (.inr (.inr (.inr (fun q_ => some (sh q_)))))))], fam 4 sh (shE ca ln le), fam 4 ca (caE G ce)] H locs := hw
                refine W.eq (g2 := (F0 m 104 ls [.int (-10 - 3)])) rfl ?_
                rw [fam_congr (n := 4) (r := ca) (e := (caE G ce)) (e' := (caE G (f_setIf (f_copyP ln le kv iv ov jv nv) ce (tn ov) (va_cpy (ce (tn kv)) (ce (tn ov)) (tn iv) (tn jv) (tn nv))))) (fun _ _ => by rw [← setIf_f (show ¬ f_copyP ln le kv iv ov jv nv from fun q => absurd (hF.symm.trans q.2) (by decide))])] at hw
                have hw : bW G A s.heap [[(ad 0, .inr (9, [.ref (ad 1), .ref (ad 2), .ref (ad 3), .ref (ad 4), .ref (ad 5), .ref (ad 6), .ref (ad 7), .int 3]))], [(ad 1, .inl (gH G, 4, .inr (.inr (.inr (.inr (fun q_ => some (sh q_)))))))], fam 4 sh (shE ca ln le), fam 4 ca (caE G (f_setIf (f_copyP ln le kv iv ov jv nv) ce (tn ov) (va_cpy (ce (tn kv)) (ce (tn ov)) (tn iv) (tn jv) (tn nv))))] H locs := hw
                have hw := Eq.mp (congrArg (fun z_ : Int32 => bW G A s.heap [[(ad 0, .inr (9, [.ref (ad 1), .ref (ad 2), .ref (ad 3), .ref (ad 4), .ref (ad 5), .ref (ad 6), .ref (ad 7), .int z_]))], [(ad 1, .inl (gH G, 4, .inr (.inr (.inr (.inr (fun q_ => some (sh q_)))))))], fam 4 sh (shE ca ln le), fam 4 ca (caE G (f_setIf (f_copyP ln le kv iv ov jv nv) ce (tn ov) (va_cpy (ce (tn kv)) (ce (tn ov)) (tn iv) (tn jv) (tn nv))))] H locs) (show (3 : Int32) = f_copyF ln le kv iv ov jv nv from hF.symm)) hw
                have hw : bW G A s.heap [[(ad 0, .inr (9, [.ref (ad 1), .ref (ad 2), .ref (ad 3), .ref (ad 4), .ref (ad 5), .ref (ad 6), .ref (ad 7), .int (f_copyF ln le kv iv ov jv nv)]))], [(ad 1, .inl (gH G, 4, .inr (.inr (.inr (.inr (fun q_ => some (sh q_)))))))], fam 4 sh (shE ca ln le), fam 4 ca (caE G (f_setIf (f_copyP ln le kv iv ov jv nv) ce (tn ov) (va_cpy (ce (tn kv)) (ce (tn ov)) (tn iv) (tn jv) (tn nv))))] H locs := hw
                refine aw_eqi (show (-10 - 3 : Int32) = f_copy ln le kv iv ov jv nv from (by rw [f_copy, if_pos ⟨hz_k, hz_o⟩, hF]; rfl)) ?_
                exact aw_iret S hr hlk ha hQ hAe hw dX10_copy_104 rfl (Nat.le_of_ble_eq_true rfl) (Nat.le_of_ble_eq_true rfl) ⟨rfl, rfl⟩
              · refine lv_aload S.1 S.2.1 dX10_copy_87 (lv_at hl 0 rfl) ?_
                refine lv_iload S.1 S.2.1 dX10_copy_89 (lv_at hl 6 rfl) ?_
                refine lv_iload S.1 S.2.1 dX10_copy_91 (lv_at hl 7 rfl) ?_
                have hw := aw_out hw 2 rfl (tn ov) (by omega)
                have hw : bW G A s.heap [[(ad 0, .inr (9, [.ref (ad 1), .ref (ad 2), .ref (ad 3), .ref (ad 4), .ref (ad 5), .ref (ad 6), .ref (ad 7), .int fl]))], [(ad 1, .inl (gH G, 4, .inr (.inr (.inr (.inr (fun q_ => some (sh q_)))))))], famX 4 sh (shE ca ln le) (tn ov), fam 4 ca (caE G ce), [(sh (tn ov), .inr (7, [.ref (ca (tn ov)), .int (ln (tn ov)), .int (nI (le (tn ov)))]))]] H locs := hw
                refine aw_callV S hE (c_X7_hasRange l G (sh (tn ov)) (ca (tn ov)) (ln (tn ov)) (le (tn ov)) jv nv hle_ov) gX10_copy_X7_hasRange (n := 2) rfl (by decide +kernel) rfl (by rw [hRm]; exact ⟨Nat.le_of_ble_eq_true rfl, Nat.le_of_ble_eq_true rfl⟩) (by rw [hRm]; exact ⟨Nat.le_of_ble_eq_true rfl, Nat.le_of_ble_eq_true rfl⟩) hw hA hl.1 [4] rfl rfl (aw_recv (i := 4) hE hw rfl rfl rfl) rfl (Nat.le_of_ble_eq_true rfl) dX10_copy_93 ?_
                rintro v w1 H locs ⟨rfl, rfl⟩ hw
                have hw : bW G A s.heap [[(ad 0, .inr (9, [.ref (ad 1), .ref (ad 2), .ref (ad 3), .ref (ad 4), .ref (ad 5), .ref (ad 6), .ref (ad 7), .int fl]))], [(ad 1, .inl (gH G, 4, .inr (.inr (.inr (.inr (fun q_ => some (sh q_)))))))], famX 4 sh (shE ca ln le) (tn ov), fam 4 ca (caE G ce), [(sh (tn ov), .inr (7, [.ref (ca (tn ov)), .int (ln (tn ov)), .int (nI (le (tn ov)))]))]] H locs := hw
                refine W.eq (g2 := (F0 m 96 ls [.int (if 0 ≤ jv.toInt ∧ jv.toInt ≤ (le (tn ov)) ∧ nv.toInt ≤ (le (tn ov)) - jv.toInt then 1 else 0)])) rfl ?_
                have hw := aw_inS [[(ad 0, .inr (9, [.ref (ad 1), .ref (ad 2), .ref (ad 3), .ref (ad 4), .ref (ad 5), .ref (ad 6), .ref (ad 7), .int fl]))], [(ad 1, .inl (gH G, 4, .inr (.inr (.inr (.inr (fun q_ => some (sh q_)))))))], famX 4 sh (shE ca ln le) (tn ov), fam 4 ca (caE G ce)] hw 2 rfl (by omega)
                have hw : bW G A s.heap [[(ad 0, .inr (9, [.ref (ad 1), .ref (ad 2), .ref (ad 3), .ref (ad 4), .ref (ad 5), .ref (ad 6), .ref (ad 7), .int fl]))], [(ad 1, .inl (gH G, 4, .inr (.inr (.inr (.inr (fun q_ => some (sh q_)))))))], fam 4 sh (shE ca ln le), fam 4 ca (caE G ce)] H locs := hw
                refine aw_ifne (P := 0 ≤ jv.toInt ∧ jv.toInt ≤ (le (tn ov)) ∧ nv.toInt ≤ (le (tn ov)) - jv.toInt) (tgt := 105) S dX10_copy_96 (by decide) (fun c96 => ?_) (fun c96 => ?_)
                · have hF : f_copyF ln le kv iv ov jv nv = 0 := by rw [f_copyF, if_pos ⟨hz_k, hz_o⟩, if_neg (fun q => q.elim c35 c43), if_neg (not_not_intro c62), if_pos ⟨c73, c84, c96⟩]
                  have hiv : 0 ≤ iv.toInt ∧ iv.toInt < ((61 : Nat) : Int) := by omega
                  have hjv : 0 ≤ jv.toInt ∧ jv.toInt < ((61 : Nat) : Int) := by omega
                  have hnv : 0 ≤ nv.toInt ∧ nv.toInt < ((61 : Nat) : Int) := by omega
                  have hb_iv : tn iv < 61 := aw_tnL hiv
                  have hl := Eq.mp (congrArg (fun z_ : Int32 => lv_has ls 8 [(7, .ref (sh (tn ov))), (6, .ref (sh (tn kv))), (0, .ref (ad 0)), (1, .int (nI (tn kv))), (2, .int z_), (3, .int (nI (tn ov))), (4, .int jv), (5, .int nv)]) (show (iv : Int32) = nI (tn iv) from (aw_tnE hiv))) hl
                  have hl : lv_has ls 8 [(7, .ref (sh (tn ov))), (6, .ref (sh (tn kv))), (0, .ref (ad 0)), (1, .int (nI (tn kv))), (2, .int (nI (tn iv))), (3, .int (nI (tn ov))), (4, .int jv), (5, .int nv)] := hl
                  have hb_jv : tn jv < 61 := aw_tnL hjv
                  have hl := Eq.mp (congrArg (fun z_ : Int32 => lv_has ls 8 [(7, .ref (sh (tn ov))), (6, .ref (sh (tn kv))), (0, .ref (ad 0)), (1, .int (nI (tn kv))), (2, .int (nI (tn iv))), (3, .int (nI (tn ov))), (4, .int z_), (5, .int nv)]) (show (jv : Int32) = nI (tn jv) from (aw_tnE hjv))) hl
                  have hl : lv_has ls 8 [(7, .ref (sh (tn ov))), (6, .ref (sh (tn kv))), (0, .ref (ad 0)), (1, .int (nI (tn kv))), (2, .int (nI (tn iv))), (3, .int (nI (tn ov))), (4, .int (nI (tn jv))), (5, .int nv)] := hl
                  have hb_nv : tn nv < 61 := aw_tnL hnv
                  have hl := Eq.mp (congrArg (fun z_ : Int32 => lv_has ls 8 [(7, .ref (sh (tn ov))), (6, .ref (sh (tn kv))), (0, .ref (ad 0)), (1, .int (nI (tn kv))), (2, .int (nI (tn iv))), (3, .int (nI (tn ov))), (4, .int (nI (tn jv))), (5, .int z_)]) (show (nv : Int32) = nI (tn nv) from (aw_tnE hnv))) hl
                  have hl : lv_has ls 8 [(7, .ref (sh (tn ov))), (6, .ref (sh (tn kv))), (0, .ref (ad 0)), (1, .int (nI (tn kv))), (2, .int (nI (tn iv))), (3, .int (nI (tn ov))), (4, .int (nI (tn jv))), (5, .int (nI (tn nv)))] := hl
                  have ei : (tn iv : Int) = iv.toInt := Int.toNat_of_nonneg hiv.1
                  have ej : (tn jv : Int) = jv.toInt := Int.toNat_of_nonneg hjv.1
                  have en : (tn nv : Int) = nv.toInt := Int.toNat_of_nonneg hnv.1
                  refine lv_aload_n S.1 S.2.1 dX10_copy_105 rfl (lv_at hl 2 rfl) ?_
                  refine lv_iconst (v := 0) S.1 S.2.1 dX10_copy_106 (by decide) ?_
                  refine aw_putf S hE hw 0 (C := RX10) (T := TX10) (N := 8) rfl rfl hinX10 tyX10 tyX10_ok nmX10 7 (by decide) hf59 rfl rfl rfl (Nat.le_of_ble_eq_true rfl) dX10_copy_107 (fun H locs hw => ?_)
                  have hw : bW G A s.heap [[(ad 0, .inr (9, [.ref (ad 1), .ref (ad 2), .ref (ad 3), .ref (ad 4), .ref (ad 5), .ref (ad 6), .ref (ad 7), .int 0]))], [(ad 1, .inl (gH G, 4, .inr (.inr (.inr (.inr (fun q_ => some (sh q_)))))))], fam 4 sh (shE ca ln le), fam 4 ca (caE G ce)] H locs := hw
                  refine lv_aload S.1 S.2.1 dX10_copy_110 (lv_at hl 1 rfl) ?_
                  have hw := aw_out hw 2 rfl (tn kv) (by omega)
                  have hw : bW G A s.heap [[(ad 0, .inr (9, [.ref (ad 1), .ref (ad 2), .ref (ad 3), .ref (ad 4), .ref (ad 5), .ref (ad 6), .ref (ad 7), .int 0]))], [(ad 1, .inl (gH G, 4, .inr (.inr (.inr (.inr (fun q_ => some (sh q_)))))))], famX 4 sh (shE ca ln le) (tn kv), fam 4 ca (caE G ce), [(sh (tn kv), .inr (7, [.ref (ca (tn kv)), .int (ln (tn kv)), .int (nI (le (tn kv)))]))]] H locs := hw
                  refine aw_get S hE hw 4 (C := RX7) (T := TX7) (N := 3) rfl rfl hinX7 0 (by decide) hf82 rfl dX10_copy_112 ?_
                  have hw := aw_inS [[(ad 0, .inr (9, [.ref (ad 1), .ref (ad 2), .ref (ad 3), .ref (ad 4), .ref (ad 5), .ref (ad 6), .ref (ad 7), .int 0]))], [(ad 1, .inl (gH G, 4, .inr (.inr (.inr (.inr (fun q_ => some (sh q_)))))))], famX 4 sh (shE ca ln le) (tn kv), fam 4 ca (caE G ce)] hw 2 rfl (by omega)
                  have hw : bW G A s.heap [[(ad 0, .inr (9, [.ref (ad 1), .ref (ad 2), .ref (ad 3), .ref (ad 4), .ref (ad 5), .ref (ad 6), .ref (ad 7), .int 0]))], [(ad 1, .inl (gH G, 4, .inr (.inr (.inr (.inr (fun q_ => some (sh q_)))))))], fam 4 sh (shE ca ln le), fam 4 ca (caE G ce)] H locs := hw
                  refine lv_iload_n S.1 S.2.1 dX10_copy_115 rfl (lv_at hl 4 rfl) ?_
                  refine lv_aload S.1 S.2.1 dX10_copy_116 (lv_at hl 0 rfl) ?_
                  have hw := aw_out hw 2 rfl (tn ov) (by omega)
                  have hw : bW G A s.heap [[(ad 0, .inr (9, [.ref (ad 1), .ref (ad 2), .ref (ad 3), .ref (ad 4), .ref (ad 5), .ref (ad 6), .ref (ad 7), .int 0]))], [(ad 1, .inl (gH G, 4, .inr (.inr (.inr (.inr (fun q_ => some (sh q_)))))))], famX 4 sh (shE ca ln le) (tn ov), fam 4 ca (caE G ce), [(sh (tn ov), .inr (7, [.ref (ca (tn ov)), .int (ln (tn ov)), .int (nI (le (tn ov)))]))]] H locs := hw
                  refine aw_get S hE hw 4 (C := RX7) (T := TX7) (N := 3) rfl rfl hinX7 0 (by decide) hf82 rfl dX10_copy_118 ?_
                  have hw := aw_inS [[(ad 0, .inr (9, [.ref (ad 1), .ref (ad 2), .ref (ad 3), .ref (ad 4), .ref (ad 5), .ref (ad 6), .ref (ad 7), .int 0]))], [(ad 1, .inl (gH G, 4, .inr (.inr (.inr (.inr (fun q_ => some (sh q_)))))))], famX 4 sh (shE ca ln le) (tn ov), fam 4 ca (caE G ce)] hw 2 rfl (by omega)
                  have hw : bW G A s.heap [[(ad 0, .inr (9, [.ref (ad 1), .ref (ad 2), .ref (ad 3), .ref (ad 4), .ref (ad 5), .ref (ad 6), .ref (ad 7), .int 0]))], [(ad 1, .inl (gH G, 4, .inr (.inr (.inr (.inr (fun q_ => some (sh q_)))))))], fam 4 sh (shE ca ln le), fam 4 ca (caE G ce)] H locs := hw
                  refine lv_iload S.1 S.2.1 dX10_copy_121 (lv_at hl 6 rfl) ?_
                  refine lv_iload S.1 S.2.1 dX10_copy_123 (lv_at hl 7 rfl) ?_
                  refine aw_copyF S hE hw 3 (k := tn kv) (o := tn ov) (sp := tn iv) (dp := tn jv) (n := tn nv) (by rw [S.2.2.1]; exact hl.1.symm) hz_ac1 hz_ac2 hz_ac3 hz_ac4 rfl hb_kv hb_ov (by omega) (by omega) (by rw [hRm]; exact Nat.le_of_ble_eq_true rfl) (by rw [hRm]; exact Nat.le_of_ble_eq_true rfl) dX10_copy_125 (fun H locs hw => ?_)
                  have hw : bW G A s.heap [[(ad 0, .inr (9, [.ref (ad 1), .ref (ad 2), .ref (ad 3), .ref (ad 4), .ref (ad 5), .ref (ad 6), .ref (ad 7), .int 0]))], [(ad 1, .inl (gH G, 4, .inr (.inr (.inr (.inr (fun q_ => some (sh q_)))))))], fam 4 sh (shE ca ln le), fam 4 ca (caE G (va_up ce (tn ov) (va_cpy (ce (tn kv)) (ce (tn ov)) (tn iv) (tn jv) (tn nv))))] H locs := hw
                  refine lv_iload S.1 S.2.1 dX10_copy_128 (lv_at hl 7 rfl) ?_
                  rw [fam_congr (n := 4) (r := ca) (e := (caE G (va_up ce (tn ov) (va_cpy (ce (tn kv)) (ce (tn ov)) (tn iv) (tn jv) (tn nv))))) (e' := (caE G (f_setIf (f_copyP ln le kv iv ov jv nv) ce (tn ov) (va_cpy (ce (tn kv)) (ce (tn ov)) (tn iv) (tn jv) (tn nv))))) (fun _ _ => by rw [← setIf_t (show f_copyP ln le kv iv ov jv nv from ⟨⟨hz_k, hz_o⟩, hF⟩)])] at hw
                  have hw : bW G A s.heap [[(ad 0, .inr (9, [.ref (ad 1), .ref (ad 2), .ref (ad 3), .ref (ad 4), .ref (ad 5), .ref (ad 6), .ref (ad 7), .int 0]))], [(ad 1, .inl (gH G, 4, .inr (.inr (.inr (.inr (fun q_ => some (sh q_)))))))], fam 4 sh (shE ca ln le), fam 4 ca (caE G (f_setIf (f_copyP ln le kv iv ov jv nv) ce (tn ov) (va_cpy (ce (tn kv)) (ce (tn ov)) (tn iv) (tn jv) (tn nv))))] H locs := hw
                  have hw := Eq.mp (congrArg (fun z_ : Int32 => bW G A s.heap [[(ad 0, .inr (9, [.ref (ad 1), .ref (ad 2), .ref (ad 3), .ref (ad 4), .ref (ad 5), .ref (ad 6), .ref (ad 7), .int z_]))], [(ad 1, .inl (gH G, 4, .inr (.inr (.inr (.inr (fun q_ => some (sh q_)))))))], fam 4 sh (shE ca ln le), fam 4 ca (caE G (f_setIf (f_copyP ln le kv iv ov jv nv) ce (tn ov) (va_cpy (ce (tn kv)) (ce (tn ov)) (tn iv) (tn jv) (tn nv))))] H locs) (show (0 : Int32) = f_copyF ln le kv iv ov jv nv from hF.symm)) hw
                  have hw : bW G A s.heap [[(ad 0, .inr (9, [.ref (ad 1), .ref (ad 2), .ref (ad 3), .ref (ad 4), .ref (ad 5), .ref (ad 6), .ref (ad 7), .int (f_copyF ln le kv iv ov jv nv)]))], [(ad 1, .inl (gH G, 4, .inr (.inr (.inr (.inr (fun q_ => some (sh q_)))))))], fam 4 sh (shE ca ln le), fam 4 ca (caE G (f_setIf (f_copyP ln le kv iv ov jv nv) ce (tn ov) (va_cpy (ce (tn kv)) (ce (tn ov)) (tn iv) (tn jv) (tn nv))))] H locs := hw
                  refine aw_eqi (show (nI (tn nv) : Int32) = f_copy ln le kv iv ov jv nv from (by rw [f_copy, if_pos ⟨hz_k, hz_o⟩, hF, if_pos rfl]; exact (aw_tnE hnv).symm)) ?_
                  exact aw_iret S hr hlk ha hQ hAe hw dX10_copy_130 rfl (Nat.le_of_ble_eq_true rfl) (Nat.le_of_ble_eq_true rfl) ⟨rfl, rfl⟩
                · have hF : f_copyF ln le kv iv ov jv nv = 3 := by rw [f_copyF, if_pos ⟨hz_k, hz_o⟩, if_neg (fun q => q.elim c35 c43), if_neg (not_not_intro c62), if_neg (by omega)]
                  refine lv_aload_n S.1 S.2.1 dX10_copy_99 rfl (lv_at hl 2 rfl) ?_
                  refine lv_iconst (v := 3) S.1 S.2.1 dX10_copy_100 (by decide) ?_
                  refine aw_callV S hE (c_X10_failed l G ad fl 3) gX10_copy_X10_failed (n := 1) rfl (by decide +kernel) rfl (by rw [hRm]; exact ⟨Nat.le_of_ble_eq_true rfl, Nat.le_of_ble_eq_true rfl⟩) (by rw [hRm]; exact ⟨Nat.le_of_ble_eq_true rfl, Nat.le_of_ble_eq_true rfl⟩) hw hA hl.1 [0] rfl rfl (aw_recv (i := 0) hE hw rfl rfl rfl) rfl (Nat.le_of_ble_eq_true rfl) dX10_copy_101 ?_
                  rintro v w1 H locs ⟨rfl, rfl⟩ hw
                  have hw : bW G A s.heap [[(ad 0, .inr (9, [.ref (ad 1), .ref (ad 2), .ref (ad 3), .ref (ad 4), .ref (ad 5), .ref (ad 6), .ref (ad 7), .int 3]))], [(ad 1, .inl (gH G, 4, .inr (.inr (.inr (.inr (fun q_ => some (sh q_)))))))], fam 4 sh (shE ca ln le), fam 4 ca (caE G ce)] H locs := hw
                  refine W.eq (g2 := (F0 m 104 ls [.int (-10 - 3)])) rfl ?_
                  rw [fam_congr (n := 4) (r := ca) (e := (caE G ce)) (e' := (caE G (f_setIf (f_copyP ln le kv iv ov jv nv) ce (tn ov) (va_cpy (ce (tn kv)) (ce (tn ov)) (tn iv) (tn jv) (tn nv))))) (fun _ _ => by rw [← setIf_f (show ¬ f_copyP ln le kv iv ov jv nv from fun q => absurd (hF.symm.trans q.2) (by decide))])] at hw
                  have hw : bW G A s.heap [[(ad 0, .inr (9, [.ref (ad 1), .ref (ad 2), .ref (ad 3), .ref (ad 4), .ref (ad 5), .ref (ad 6), .ref (ad 7), .int 3]))], [(ad 1, .inl (gH G, 4, .inr (.inr (.inr (.inr (fun q_ => some (sh q_)))))))], fam 4 sh (shE ca ln le), fam 4 ca (caE G (f_setIf (f_copyP ln le kv iv ov jv nv) ce (tn ov) (va_cpy (ce (tn kv)) (ce (tn ov)) (tn iv) (tn jv) (tn nv))))] H locs := hw
                  have hw := Eq.mp (congrArg (fun z_ : Int32 => bW G A s.heap [[(ad 0, .inr (9, [.ref (ad 1), .ref (ad 2), .ref (ad 3), .ref (ad 4), .ref (ad 5), .ref (ad 6), .ref (ad 7), .int z_]))], [(ad 1, .inl (gH G, 4, .inr (.inr (.inr (.inr (fun q_ => some (sh q_)))))))], fam 4 sh (shE ca ln le), fam 4 ca (caE G (f_setIf (f_copyP ln le kv iv ov jv nv) ce (tn ov) (va_cpy (ce (tn kv)) (ce (tn ov)) (tn iv) (tn jv) (tn nv))))] H locs) (show (3 : Int32) = f_copyF ln le kv iv ov jv nv from hF.symm)) hw
                  have hw : bW G A s.heap [[(ad 0, .inr (9, [.ref (ad 1), .ref (ad 2), .ref (ad 3), .ref (ad 4), .ref (ad 5), .ref (ad 6), .ref (ad 7), .int (f_copyF ln le kv iv ov jv nv)]))], [(ad 1, .inl (gH G, 4, .inr (.inr (.inr (.inr (fun q_ => some (sh q_)))))))], fam 4 sh (shE ca ln le), fam 4 ca (caE G (f_setIf (f_copyP ln le kv iv ov jv nv) ce (tn ov) (va_cpy (ce (tn kv)) (ce (tn ov)) (tn iv) (tn jv) (tn nv))))] H locs := hw
                  refine aw_eqi (show (-10 - 3 : Int32) = f_copy ln le kv iv ov jv nv from (by rw [f_copy, if_pos ⟨hz_k, hz_o⟩, hF]; rfl)) ?_
                  exact aw_iret S hr hlk ha hQ hAe hw dX10_copy_104 rfl (Nat.le_of_ble_eq_true rfl) (Nat.le_of_ble_eq_true rfl) ⟨rfl, rfl⟩
          · have hF : f_copyF ln le kv iv ov jv nv = 2 := by rw [f_copyF, if_pos ⟨hz_k, hz_o⟩, if_neg (fun q => q.elim c35 c43), if_pos c62]
            refine lv_aload_n S.1 S.2.1 dX10_copy_65 rfl (lv_at hl 2 rfl) ?_
            refine lv_iconst (v := 2) S.1 S.2.1 dX10_copy_66 (by decide) ?_
            refine aw_callV S hE (c_X10_failed l G ad fl 2) gX10_copy_X10_failed (n := 1) rfl (by decide +kernel) rfl (by rw [hRm]; exact ⟨Nat.le_of_ble_eq_true rfl, Nat.le_of_ble_eq_true rfl⟩) (by rw [hRm]; exact ⟨Nat.le_of_ble_eq_true rfl, Nat.le_of_ble_eq_true rfl⟩) hw hA hl.1 [0] rfl rfl (aw_recv (i := 0) hE hw rfl rfl rfl) rfl (Nat.le_of_ble_eq_true rfl) dX10_copy_67 ?_
            rintro v w1 H locs ⟨rfl, rfl⟩ hw
            have hw : bW G A s.heap [[(ad 0, .inr (9, [.ref (ad 1), .ref (ad 2), .ref (ad 3), .ref (ad 4), .ref (ad 5), .ref (ad 6), .ref (ad 7), .int 2]))], [(ad 1, .inl (gH G, 4, .inr (.inr (.inr (.inr (fun q_ => some (sh q_)))))))], fam 4 sh (shE ca ln le), fam 4 ca (caE G ce)] H locs := hw
            refine W.eq (g2 := (F0 m 70 ls [.int (-10 - 2)])) rfl ?_
            rw [fam_congr (n := 4) (r := ca) (e := (caE G ce)) (e' := (caE G (f_setIf (f_copyP ln le kv iv ov jv nv) ce (tn ov) (va_cpy (ce (tn kv)) (ce (tn ov)) (tn iv) (tn jv) (tn nv))))) (fun _ _ => by rw [← setIf_f (show ¬ f_copyP ln le kv iv ov jv nv from fun q => absurd (hF.symm.trans q.2) (by decide))])] at hw
            have hw : bW G A s.heap [[(ad 0, .inr (9, [.ref (ad 1), .ref (ad 2), .ref (ad 3), .ref (ad 4), .ref (ad 5), .ref (ad 6), .ref (ad 7), .int 2]))], [(ad 1, .inl (gH G, 4, .inr (.inr (.inr (.inr (fun q_ => some (sh q_)))))))], fam 4 sh (shE ca ln le), fam 4 ca (caE G (f_setIf (f_copyP ln le kv iv ov jv nv) ce (tn ov) (va_cpy (ce (tn kv)) (ce (tn ov)) (tn iv) (tn jv) (tn nv))))] H locs := hw
            have hw := Eq.mp (congrArg (fun z_ : Int32 => bW G A s.heap [[(ad 0, .inr (9, [.ref (ad 1), .ref (ad 2), .ref (ad 3), .ref (ad 4), .ref (ad 5), .ref (ad 6), .ref (ad 7), .int z_]))], [(ad 1, .inl (gH G, 4, .inr (.inr (.inr (.inr (fun q_ => some (sh q_)))))))], fam 4 sh (shE ca ln le), fam 4 ca (caE G (f_setIf (f_copyP ln le kv iv ov jv nv) ce (tn ov) (va_cpy (ce (tn kv)) (ce (tn ov)) (tn iv) (tn jv) (tn nv))))] H locs) (show (2 : Int32) = f_copyF ln le kv iv ov jv nv from hF.symm)) hw
            have hw : bW G A s.heap [[(ad 0, .inr (9, [.ref (ad 1), .ref (ad 2), .ref (ad 3), .ref (ad 4), .ref (ad 5), .ref (ad 6), .ref (ad 7), .int (f_copyF ln le kv iv ov jv nv)]))], [(ad 1, .inl (gH G, 4, .inr (.inr (.inr (.inr (fun q_ => some (sh q_)))))))], fam 4 sh (shE ca ln le), fam 4 ca (caE G (f_setIf (f_copyP ln le kv iv ov jv nv) ce (tn ov) (va_cpy (ce (tn kv)) (ce (tn ov)) (tn iv) (tn jv) (tn nv))))] H locs := hw
            refine aw_eqi (show (-10 - 2 : Int32) = f_copy ln le kv iv ov jv nv from (by rw [f_copy, if_pos ⟨hz_k, hz_o⟩, hF]; rfl)) ?_
            exact aw_iret S hr hlk ha hQ hAe hw dX10_copy_70 rfl (Nat.le_of_ble_eq_true rfl) (Nat.le_of_ble_eq_true rfl) ⟨rfl, rfl⟩
        · have hF : f_copyF ln le kv iv ov jv nv = 1 := by rw [f_copyF, if_pos ⟨hz_k, hz_o⟩, if_pos (Or.inr c43)]
          refine lv_aload_n S.1 S.2.1 dX10_copy_46 rfl (lv_at hl 2 rfl) ?_
          refine lv_iconst (v := 1) S.1 S.2.1 dX10_copy_47 (by decide) ?_
          refine aw_callV S hE (c_X10_failed l G ad fl 1) gX10_copy_X10_failed (n := 1) rfl (by decide +kernel) rfl (by rw [hRm]; exact ⟨Nat.le_of_ble_eq_true rfl, Nat.le_of_ble_eq_true rfl⟩) (by rw [hRm]; exact ⟨Nat.le_of_ble_eq_true rfl, Nat.le_of_ble_eq_true rfl⟩) hw hA hl.1 [0] rfl rfl (aw_recv (i := 0) hE hw rfl rfl rfl) rfl (Nat.le_of_ble_eq_true rfl) dX10_copy_48 ?_
          rintro v w1 H locs ⟨rfl, rfl⟩ hw
          have hw : bW G A s.heap [[(ad 0, .inr (9, [.ref (ad 1), .ref (ad 2), .ref (ad 3), .ref (ad 4), .ref (ad 5), .ref (ad 6), .ref (ad 7), .int 1]))], [(ad 1, .inl (gH G, 4, .inr (.inr (.inr (.inr (fun q_ => some (sh q_)))))))], fam 4 sh (shE ca ln le), fam 4 ca (caE G ce)] H locs := hw
          refine W.eq (g2 := (F0 m 51 ls [.int (-10 - 1)])) rfl ?_
          rw [fam_congr (n := 4) (r := ca) (e := (caE G ce)) (e' := (caE G (f_setIf (f_copyP ln le kv iv ov jv nv) ce (tn ov) (va_cpy (ce (tn kv)) (ce (tn ov)) (tn iv) (tn jv) (tn nv))))) (fun _ _ => by rw [← setIf_f (show ¬ f_copyP ln le kv iv ov jv nv from fun q => absurd (hF.symm.trans q.2) (by decide))])] at hw
          have hw : bW G A s.heap [[(ad 0, .inr (9, [.ref (ad 1), .ref (ad 2), .ref (ad 3), .ref (ad 4), .ref (ad 5), .ref (ad 6), .ref (ad 7), .int 1]))], [(ad 1, .inl (gH G, 4, .inr (.inr (.inr (.inr (fun q_ => some (sh q_)))))))], fam 4 sh (shE ca ln le), fam 4 ca (caE G (f_setIf (f_copyP ln le kv iv ov jv nv) ce (tn ov) (va_cpy (ce (tn kv)) (ce (tn ov)) (tn iv) (tn jv) (tn nv))))] H locs := hw
          have hw := Eq.mp (congrArg (fun z_ : Int32 => bW G A s.heap [[(ad 0, .inr (9, [.ref (ad 1), .ref (ad 2), .ref (ad 3), .ref (ad 4), .ref (ad 5), .ref (ad 6), .ref (ad 7), .int z_]))], [(ad 1, .inl (gH G, 4, .inr (.inr (.inr (.inr (fun q_ => some (sh q_)))))))], fam 4 sh (shE ca ln le), fam 4 ca (caE G (f_setIf (f_copyP ln le kv iv ov jv nv) ce (tn ov) (va_cpy (ce (tn kv)) (ce (tn ov)) (tn iv) (tn jv) (tn nv))))] H locs) (show (1 : Int32) = f_copyF ln le kv iv ov jv nv from hF.symm)) hw
          have hw : bW G A s.heap [[(ad 0, .inr (9, [.ref (ad 1), .ref (ad 2), .ref (ad 3), .ref (ad 4), .ref (ad 5), .ref (ad 6), .ref (ad 7), .int (f_copyF ln le kv iv ov jv nv)]))], [(ad 1, .inl (gH G, 4, .inr (.inr (.inr (.inr (fun q_ => some (sh q_)))))))], fam 4 sh (shE ca ln le), fam 4 ca (caE G (f_setIf (f_copyP ln le kv iv ov jv nv) ce (tn ov) (va_cpy (ce (tn kv)) (ce (tn ov)) (tn iv) (tn jv) (tn nv))))] H locs := hw
          refine aw_eqi (show (-10 - 1 : Int32) = f_copy ln le kv iv ov jv nv from (by rw [f_copy, if_pos ⟨hz_k, hz_o⟩, hF]; rfl)) ?_
          exact aw_iret S hr hlk ha hQ hAe hw dX10_copy_51 rfl (Nat.le_of_ble_eq_true rfl) (Nat.le_of_ble_eq_true rfl) ⟨rfl, rfl⟩
    · have hko : ¬ ((0 ≤ kv.toInt ∧ kv.toInt < 4) ∧ 0 ≤ ov.toInt ∧ ov.toInt < 4) := fun q => hz_o q.2
      refine lv_aload_n S.1 S.2.1 dX10_copy_7 rfl (lv_at hl 1 rfl) ?_
      refine lv_iload_n S.1 S.2.1 dX10_copy_8 rfl (lv_at hl 4 rfl) ?_
      refine aw_callV S hE (c_X10_sheetAt_out l G ad fl sh ov hz_o) gX10_copy_X10_sheetAt (n := 1) rfl (by decide +kernel) rfl (by rw [hRm]; exact ⟨Nat.le_of_ble_eq_true rfl, Nat.le_of_ble_eq_true rfl⟩) (by rw [hRm]; exact ⟨Nat.le_of_ble_eq_true rfl, Nat.le_of_ble_eq_true rfl⟩) hw hA hl.1 [0, 1] rfl rfl (aw_recv (i := 0) hE hw rfl rfl rfl) rfl (Nat.le_of_ble_eq_true rfl) dX10_copy_9 ?_
      rintro v w1 H locs ⟨rfl, rfl⟩ hw
      have hw : bW G A s.heap [[(ad 0, .inr (9, [.ref (ad 1), .ref (ad 2), .ref (ad 3), .ref (ad 4), .ref (ad 5), .ref (ad 6), .ref (ad 7), .int fl]))], [(ad 1, .inl (gH G, 4, .inr (.inr (.inr (.inr (fun q_ => some (sh q_)))))))], fam 4 sh (shE ca ln le), fam 4 ca (caE G ce)] H locs := hw
      refine W.eq (g2 := (F0 m 12 ls [.null])) rfl ?_
      refine lv_astoreN (lv' := [(7, .null), (6, .ref (sh (tn kv))), (0, .ref (ad 0)), (1, .int (nI (tn kv))), (2, .int iv), (3, .int ov), (4, .int jv), (5, .int nv)]) S.1 S.2.1 dX10_copy_12 hl (by decide) rfl (fun ls hl => ?_)
      refine lv_aload S.1 S.2.1 dX10_copy_14 (lv_at hl 1 rfl) ?_
      refine lv_ifnull S.1 S.2.1 dX10_copy_16 ?_
      refine lv_aloadN S.1 S.2.1 dX10_copy_19 (lv_at hl 0 rfl) ?_
      refine lv_ifnonnullN S.1 S.2.1 dX10_copy_21 ?_
      refine lv_aload_n S.1 S.2.1 dX10_copy_24 rfl (lv_at hl 2 rfl) ?_
      refine lv_iconst (v := (-1)) S.1 S.2.1 dX10_copy_25 (by decide) ?_
      refine aw_callV S hE (c_X10_refused l G ad fl (-1)) gX10_copy_X10_refused (n := 1) rfl (by decide +kernel) rfl (by rw [hRm]; exact ⟨Nat.le_of_ble_eq_true rfl, Nat.le_of_ble_eq_true rfl⟩) (by rw [hRm]; exact ⟨Nat.le_of_ble_eq_true rfl, Nat.le_of_ble_eq_true rfl⟩) hw hA hl.1 [0] rfl rfl (aw_recv (i := 0) hE hw rfl rfl rfl) rfl (Nat.le_of_ble_eq_true rfl) dX10_copy_26 ?_
      rintro v w1 H locs ⟨rfl, rfl⟩ hw
      have hw : bW G A s.heap [[(ad 0, .inr (9, [.ref (ad 1), .ref (ad 2), .ref (ad 3), .ref (ad 4), .ref (ad 5), .ref (ad 6), .ref (ad 7), .int 0]))], [(ad 1, .inl (gH G, 4, .inr (.inr (.inr (.inr (fun q_ => some (sh q_)))))))], fam 4 sh (shE ca ln le), fam 4 ca (caE G ce)] H locs := hw
      refine W.eq (g2 := (F0 m 29 ls [.int (-1)])) rfl ?_
      rw [fam_congr (n := 4) (r := ca) (e := (caE G ce)) (e' := (caE G (f_setIf (f_copyP ln le kv iv ov jv nv) ce (tn ov) (va_cpy (ce (tn kv)) (ce (tn ov)) (tn iv) (tn jv) (tn nv))))) (fun _ _ => by rw [← setIf_f (show ¬ f_copyP ln le kv iv ov jv nv from fun q => hko q.1)])] at hw
      have hw : bW G A s.heap [[(ad 0, .inr (9, [.ref (ad 1), .ref (ad 2), .ref (ad 3), .ref (ad 4), .ref (ad 5), .ref (ad 6), .ref (ad 7), .int 0]))], [(ad 1, .inl (gH G, 4, .inr (.inr (.inr (.inr (fun q_ => some (sh q_)))))))], fam 4 sh (shE ca ln le), fam 4 ca (caE G (f_setIf (f_copyP ln le kv iv ov jv nv) ce (tn ov) (va_cpy (ce (tn kv)) (ce (tn ov)) (tn iv) (tn jv) (tn nv))))] H locs := hw
      have hw := Eq.mp (congrArg (fun z_ : Int32 => bW G A s.heap [[(ad 0, .inr (9, [.ref (ad 1), .ref (ad 2), .ref (ad 3), .ref (ad 4), .ref (ad 5), .ref (ad 6), .ref (ad 7), .int z_]))], [(ad 1, .inl (gH G, 4, .inr (.inr (.inr (.inr (fun q_ => some (sh q_)))))))], fam 4 sh (shE ca ln le), fam 4 ca (caE G (f_setIf (f_copyP ln le kv iv ov jv nv) ce (tn ov) (va_cpy (ce (tn kv)) (ce (tn ov)) (tn iv) (tn jv) (tn nv))))] H locs) (show (0 : Int32) = f_copyF ln le kv iv ov jv nv from (by rw [f_copyF, if_neg hko]))) hw
      have hw : bW G A s.heap [[(ad 0, .inr (9, [.ref (ad 1), .ref (ad 2), .ref (ad 3), .ref (ad 4), .ref (ad 5), .ref (ad 6), .ref (ad 7), .int (f_copyF ln le kv iv ov jv nv)]))], [(ad 1, .inl (gH G, 4, .inr (.inr (.inr (.inr (fun q_ => some (sh q_)))))))], fam 4 sh (shE ca ln le), fam 4 ca (caE G (f_setIf (f_copyP ln le kv iv ov jv nv) ce (tn ov) (va_cpy (ce (tn kv)) (ce (tn ov)) (tn iv) (tn jv) (tn nv))))] H locs := hw
      refine aw_eqi (show ((-1) : Int32) = f_copy ln le kv iv ov jv nv from (by rw [f_copy, if_neg hko])) ?_
      exact aw_iret S hr hlk ha hQ hAe hw dX10_copy_29 rfl (Nat.le_of_ble_eq_true rfl) (Nat.le_of_ble_eq_true rfl) ⟨rfl, rfl⟩
  · have hko : ¬ ((0 ≤ kv.toInt ∧ kv.toInt < 4) ∧ 0 ≤ ov.toInt ∧ ov.toInt < 4) := fun q => hz_k q.1
    refine lv_aload_n S.1 S.2.1 dX10_copy_0 rfl (lv_at hl 0 rfl) ?_
    refine lv_iload_n S.1 S.2.1 dX10_copy_1 rfl (lv_at hl 1 rfl) ?_
    refine aw_callV S hE (c_X10_sheetAt_out l G ad fl sh kv hz_k) gX10_copy_X10_sheetAt (n := 1) rfl (by decide +kernel) rfl (by rw [hRm]; exact ⟨Nat.le_of_ble_eq_true rfl, Nat.le_of_ble_eq_true rfl⟩) (by rw [hRm]; exact ⟨Nat.le_of_ble_eq_true rfl, Nat.le_of_ble_eq_true rfl⟩) hw hA hl.1 [0, 1] rfl rfl (aw_recv (i := 0) hE hw rfl rfl rfl) rfl (Nat.le_of_ble_eq_true rfl) dX10_copy_2 ?_
    rintro v w1 H locs ⟨rfl, rfl⟩ hw
    have hw : bW G A s.heap [[(ad 0, .inr (9, [.ref (ad 1), .ref (ad 2), .ref (ad 3), .ref (ad 4), .ref (ad 5), .ref (ad 6), .ref (ad 7), .int fl]))], [(ad 1, .inl (gH G, 4, .inr (.inr (.inr (.inr (fun q_ => some (sh q_)))))))], fam 4 sh (shE ca ln le), fam 4 ca (caE G ce)] H locs := hw
    refine W.eq (g2 := (F0 m 5 ls [.null])) rfl ?_
    refine lv_astoreN (lv' := [(6, .null), (0, .ref (ad 0)), (1, .int kv), (2, .int iv), (3, .int ov), (4, .int jv), (5, .int nv)]) S.1 S.2.1 dX10_copy_5 hl (by decide) rfl (fun ls hl => ?_)
    by_cases hz_o : 0 ≤ ov.toInt ∧ ov.toInt < 4
    · have hb_ov : tn ov < 4 := aw_tnL hz_o
      have hl := Eq.mp (congrArg (fun z_ : Int32 => lv_has ls 8 [(6, .null), (0, .ref (ad 0)), (1, .int kv), (2, .int iv), (3, .int z_), (4, .int jv), (5, .int nv)]) (show (ov : Int32) = nI (tn ov) from (aw_tnE hz_o))) hl
      have hl : lv_has ls 8 [(6, .null), (0, .ref (ad 0)), (1, .int kv), (2, .int iv), (3, .int (nI (tn ov))), (4, .int jv), (5, .int nv)] := hl
      have hle_ov := hle _ hb_ov
      refine lv_aload_n S.1 S.2.1 dX10_copy_7 rfl (lv_at hl 1 rfl) ?_
      refine lv_iload_n S.1 S.2.1 dX10_copy_8 rfl (lv_at hl 4 rfl) ?_
      refine aw_callV S hE (c_X10_sheetAt_in l G ad fl sh (tn ov) hb_ov) gX10_copy_X10_sheetAt (n := 1) rfl (by decide +kernel) rfl (by rw [hRm]; exact ⟨Nat.le_of_ble_eq_true rfl, Nat.le_of_ble_eq_true rfl⟩) (by rw [hRm]; exact ⟨Nat.le_of_ble_eq_true rfl, Nat.le_of_ble_eq_true rfl⟩) hw hA hl.1 [0, 1] rfl rfl (aw_recv (i := 0) hE hw rfl rfl rfl) rfl (Nat.le_of_ble_eq_true rfl) dX10_copy_9 ?_
      rintro v w1 H locs ⟨rfl, rfl⟩ hw
      have hw : bW G A s.heap [[(ad 0, .inr (9, [.ref (ad 1), .ref (ad 2), .ref (ad 3), .ref (ad 4), .ref (ad 5), .ref (ad 6), .ref (ad 7), .int fl]))], [(ad 1, .inl (gH G, 4, .inr (.inr (.inr (.inr (fun q_ => some (sh q_)))))))], fam 4 sh (shE ca ln le), fam 4 ca (caE G ce)] H locs := hw
      refine W.eq (g2 := (F0 m 12 ls [.ref (sh (tn ov))])) rfl ?_
      refine lv_astore (lv' := [(7, .ref (sh (tn ov))), (6, .null), (0, .ref (ad 0)), (1, .int kv), (2, .int iv), (3, .int (nI (tn ov))), (4, .int jv), (5, .int nv)]) S.1 S.2.1 dX10_copy_12 hl (by decide) rfl (fun ls hl => ?_)
      refine lv_aloadN S.1 S.2.1 dX10_copy_14 (lv_at hl 1 rfl) ?_
      refine lv_ifnullN (tgt := 24) S.1 S.2.1 dX10_copy_16 (by decide) ?_
      refine lv_aload_n S.1 S.2.1 dX10_copy_24 rfl (lv_at hl 2 rfl) ?_
      refine lv_iconst (v := (-1)) S.1 S.2.1 dX10_copy_25 (by decide) ?_
      refine aw_callV S hE (c_X10_refused l G ad fl (-1)) gX10_copy_X10_refused (n := 1) rfl (by decide +kernel) rfl (by rw [hRm]; exact ⟨Nat.le_of_ble_eq_true rfl, Nat.le_of_ble_eq_true rfl⟩) (by rw [hRm]; exact ⟨Nat.le_of_ble_eq_true rfl, Nat.le_of_ble_eq_true rfl⟩) hw hA hl.1 [0] rfl rfl (aw_recv (i := 0) hE hw rfl rfl rfl) rfl (Nat.le_of_ble_eq_true rfl) dX10_copy_26 ?_
      rintro v w1 H locs ⟨rfl, rfl⟩ hw
      have hw : bW G A s.heap [[(ad 0, .inr (9, [.ref (ad 1), .ref (ad 2), .ref (ad 3), .ref (ad 4), .ref (ad 5), .ref (ad 6), .ref (ad 7), .int 0]))], [(ad 1, .inl (gH G, 4, .inr (.inr (.inr (.inr (fun q_ => some (sh q_)))))))], fam 4 sh (shE ca ln le), fam 4 ca (caE G ce)] H locs := hw
      refine W.eq (g2 := (F0 m 29 ls [.int (-1)])) rfl ?_
      rw [fam_congr (n := 4) (r := ca) (e := (caE G ce)) (e' := (caE G (f_setIf (f_copyP ln le kv iv ov jv nv) ce (tn ov) (va_cpy (ce (tn kv)) (ce (tn ov)) (tn iv) (tn jv) (tn nv))))) (fun _ _ => by rw [← setIf_f (show ¬ f_copyP ln le kv iv ov jv nv from fun q => hko q.1)])] at hw
      have hw : bW G A s.heap [[(ad 0, .inr (9, [.ref (ad 1), .ref (ad 2), .ref (ad 3), .ref (ad 4), .ref (ad 5), .ref (ad 6), .ref (ad 7), .int 0]))], [(ad 1, .inl (gH G, 4, .inr (.inr (.inr (.inr (fun q_ => some (sh q_)))))))], fam 4 sh (shE ca ln le), fam 4 ca (caE G (f_setIf (f_copyP ln le kv iv ov jv nv) ce (tn ov) (va_cpy (ce (tn kv)) (ce (tn ov)) (tn iv) (tn jv) (tn nv))))] H locs := hw
      have hw := Eq.mp (congrArg (fun z_ : Int32 => bW G A s.heap [[(ad 0, .inr (9, [.ref (ad 1), .ref (ad 2), .ref (ad 3), .ref (ad 4), .ref (ad 5), .ref (ad 6), .ref (ad 7), .int z_]))], [(ad 1, .inl (gH G, 4, .inr (.inr (.inr (.inr (fun q_ => some (sh q_)))))))], fam 4 sh (shE ca ln le), fam 4 ca (caE G (f_setIf (f_copyP ln le kv iv ov jv nv) ce (tn ov) (va_cpy (ce (tn kv)) (ce (tn ov)) (tn iv) (tn jv) (tn nv))))] H locs) (show (0 : Int32) = f_copyF ln le kv iv ov jv nv from (by rw [f_copyF, if_neg hko]))) hw
      have hw : bW G A s.heap [[(ad 0, .inr (9, [.ref (ad 1), .ref (ad 2), .ref (ad 3), .ref (ad 4), .ref (ad 5), .ref (ad 6), .ref (ad 7), .int (f_copyF ln le kv iv ov jv nv)]))], [(ad 1, .inl (gH G, 4, .inr (.inr (.inr (.inr (fun q_ => some (sh q_)))))))], fam 4 sh (shE ca ln le), fam 4 ca (caE G (f_setIf (f_copyP ln le kv iv ov jv nv) ce (tn ov) (va_cpy (ce (tn kv)) (ce (tn ov)) (tn iv) (tn jv) (tn nv))))] H locs := hw
      refine aw_eqi (show ((-1) : Int32) = f_copy ln le kv iv ov jv nv from (by rw [f_copy, if_neg hko])) ?_
      exact aw_iret S hr hlk ha hQ hAe hw dX10_copy_29 rfl (Nat.le_of_ble_eq_true rfl) (Nat.le_of_ble_eq_true rfl) ⟨rfl, rfl⟩
    · have hko : ¬ ((0 ≤ kv.toInt ∧ kv.toInt < 4) ∧ 0 ≤ ov.toInt ∧ ov.toInt < 4) := fun q => hz_o q.2
      refine lv_aload_n S.1 S.2.1 dX10_copy_7 rfl (lv_at hl 1 rfl) ?_
      refine lv_iload_n S.1 S.2.1 dX10_copy_8 rfl (lv_at hl 4 rfl) ?_
      refine aw_callV S hE (c_X10_sheetAt_out l G ad fl sh ov hz_o) gX10_copy_X10_sheetAt (n := 1) rfl (by decide +kernel) rfl (by rw [hRm]; exact ⟨Nat.le_of_ble_eq_true rfl, Nat.le_of_ble_eq_true rfl⟩) (by rw [hRm]; exact ⟨Nat.le_of_ble_eq_true rfl, Nat.le_of_ble_eq_true rfl⟩) hw hA hl.1 [0, 1] rfl rfl (aw_recv (i := 0) hE hw rfl rfl rfl) rfl (Nat.le_of_ble_eq_true rfl) dX10_copy_9 ?_
      rintro v w1 H locs ⟨rfl, rfl⟩ hw
      have hw : bW G A s.heap [[(ad 0, .inr (9, [.ref (ad 1), .ref (ad 2), .ref (ad 3), .ref (ad 4), .ref (ad 5), .ref (ad 6), .ref (ad 7), .int fl]))], [(ad 1, .inl (gH G, 4, .inr (.inr (.inr (.inr (fun q_ => some (sh q_)))))))], fam 4 sh (shE ca ln le), fam 4 ca (caE G ce)] H locs := hw
      refine W.eq (g2 := (F0 m 12 ls [.null])) rfl ?_
      refine lv_astoreN (lv' := [(7, .null), (6, .null), (0, .ref (ad 0)), (1, .int kv), (2, .int iv), (3, .int ov), (4, .int jv), (5, .int nv)]) S.1 S.2.1 dX10_copy_12 hl (by decide) rfl (fun ls hl => ?_)
      refine lv_aloadN S.1 S.2.1 dX10_copy_14 (lv_at hl 1 rfl) ?_
      refine lv_ifnullN (tgt := 24) S.1 S.2.1 dX10_copy_16 (by decide) ?_
      refine lv_aload_n S.1 S.2.1 dX10_copy_24 rfl (lv_at hl 2 rfl) ?_
      refine lv_iconst (v := (-1)) S.1 S.2.1 dX10_copy_25 (by decide) ?_
      refine aw_callV S hE (c_X10_refused l G ad fl (-1)) gX10_copy_X10_refused (n := 1) rfl (by decide +kernel) rfl (by rw [hRm]; exact ⟨Nat.le_of_ble_eq_true rfl, Nat.le_of_ble_eq_true rfl⟩) (by rw [hRm]; exact ⟨Nat.le_of_ble_eq_true rfl, Nat.le_of_ble_eq_true rfl⟩) hw hA hl.1 [0] rfl rfl (aw_recv (i := 0) hE hw rfl rfl rfl) rfl (Nat.le_of_ble_eq_true rfl) dX10_copy_26 ?_
      rintro v w1 H locs ⟨rfl, rfl⟩ hw
      have hw : bW G A s.heap [[(ad 0, .inr (9, [.ref (ad 1), .ref (ad 2), .ref (ad 3), .ref (ad 4), .ref (ad 5), .ref (ad 6), .ref (ad 7), .int 0]))], [(ad 1, .inl (gH G, 4, .inr (.inr (.inr (.inr (fun q_ => some (sh q_)))))))], fam 4 sh (shE ca ln le), fam 4 ca (caE G ce)] H locs := hw
      refine W.eq (g2 := (F0 m 29 ls [.int (-1)])) rfl ?_
      rw [fam_congr (n := 4) (r := ca) (e := (caE G ce)) (e' := (caE G (f_setIf (f_copyP ln le kv iv ov jv nv) ce (tn ov) (va_cpy (ce (tn kv)) (ce (tn ov)) (tn iv) (tn jv) (tn nv))))) (fun _ _ => by rw [← setIf_f (show ¬ f_copyP ln le kv iv ov jv nv from fun q => hko q.1)])] at hw
      have hw : bW G A s.heap [[(ad 0, .inr (9, [.ref (ad 1), .ref (ad 2), .ref (ad 3), .ref (ad 4), .ref (ad 5), .ref (ad 6), .ref (ad 7), .int 0]))], [(ad 1, .inl (gH G, 4, .inr (.inr (.inr (.inr (fun q_ => some (sh q_)))))))], fam 4 sh (shE ca ln le), fam 4 ca (caE G (f_setIf (f_copyP ln le kv iv ov jv nv) ce (tn ov) (va_cpy (ce (tn kv)) (ce (tn ov)) (tn iv) (tn jv) (tn nv))))] H locs := hw
      have hw := Eq.mp (congrArg (fun z_ : Int32 => bW G A s.heap [[(ad 0, .inr (9, [.ref (ad 1), .ref (ad 2), .ref (ad 3), .ref (ad 4), .ref (ad 5), .ref (ad 6), .ref (ad 7), .int z_]))], [(ad 1, .inl (gH G, 4, .inr (.inr (.inr (.inr (fun q_ => some (sh q_)))))))], fam 4 sh (shE ca ln le), fam 4 ca (caE G (f_setIf (f_copyP ln le kv iv ov jv nv) ce (tn ov) (va_cpy (ce (tn kv)) (ce (tn ov)) (tn iv) (tn jv) (tn nv))))] H locs) (show (0 : Int32) = f_copyF ln le kv iv ov jv nv from (by rw [f_copyF, if_neg hko]))) hw
      have hw : bW G A s.heap [[(ad 0, .inr (9, [.ref (ad 1), .ref (ad 2), .ref (ad 3), .ref (ad 4), .ref (ad 5), .ref (ad 6), .ref (ad 7), .int (f_copyF ln le kv iv ov jv nv)]))], [(ad 1, .inl (gH G, 4, .inr (.inr (.inr (.inr (fun q_ => some (sh q_)))))))], fam 4 sh (shE ca ln le), fam 4 ca (caE G (f_setIf (f_copyP ln le kv iv ov jv nv) ce (tn ov) (va_cpy (ce (tn kv)) (ce (tn ov)) (tn iv) (tn jv) (tn nv))))] H locs := hw
      refine aw_eqi (show ((-1) : Int32) = f_copy ln le kv iv ov jv nv from (by rw [f_copy, if_neg hko])) ?_
      exact aw_iret S hr hlk ha hQ hAe hw dX10_copy_29 rfl (Nat.le_of_ble_eq_true rfl) (Nat.le_of_ble_eq_true rfl) ⟨rfl, rfl⟩
