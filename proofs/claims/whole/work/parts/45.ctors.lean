/-! constructors of the class -/
section MN
variable {p : Program} {l : Launch} {e : Env} {R : Room} {s : State} {m : MethodId} {args : Array Value} {below : List Frame} {meth : Method} {c : Code} {H : Heap} {locs : List Loc} {cells slots : Nat} {Q : State → Prop}
variable {G : aw_G} {A : Nat → Prop} {H0 : Heap} {wb wc : List va_W} {cc : ByteArray} {nL : Nat} {Ts : List Cond} {own : String} {pc : Nat} {ls : Array Slot} {rest : List Value}
/-- blocks in another order, or fewer -/
theorem bW.pick (hw : bW G A H0 wb H locs) (is : List Nat) (hC : is.map (fun i => wb[i]?) = wc.map some) (hn : va_nd is = true) : bW G A H0 wc H locs := ⟨(aw_sub hw is hC hn).1, (aw_sub hw is hC hn).2, hw.2.2⟩
theorem aw_inner (c : ClassId) (n : Nat) : Jvm.Free.Multi.innerC c n (defaultValue .int) = vp_cell c (n, .inl (fun _ => 0)) := by
  rw [vp_cell_i]
  show ({ cls := c, slots := Array.replicate n (.int 0), vm := .none } : Cell) = _
  rw [arrV_new]
theorem aw_mna (S : CallFix p m c cc nL s args Ts own) (hE : aw_E G s) (hw : bW G A H0 wb H locs) (hA : ∀ q, H0.size ≤ q → A q) {index : Nat} (hcl : (Cond.classLink own index "[[I").before args s = true) (harr : (Cond.arrayClass .int).before args s = true) (hcells : cells + (1 + 13) ≤ R.cells) (hslots : slots + (13 + 13 * 64) ≤ R.slots) (hdg : decode cc pc = .ok (.multianewarray index 2, 4))
    (kk : ∀ (q : Nat) (r : Nat → Nat) (H1 : Heap), bW G A H0 (wb ++ [[(q, .inl (gA G, 13, .inr (.inr (.inr (.inr (fun q_ => some (r q_)))))))], fam 13 r (rrE G (fun _ _ => 0))]) H1 locs → W p l e R s m args below meth c H1 locs (cells + 14) (slots + 845) Q (F0 m (pc + 4) ls (.ref q :: rest))) : W p l e R s m args below meth c H locs cells slots Q (F0 m pc ls (.int 64 :: .int 13 :: rest)) := by
  have hP0 : va_P G.1 vwCl (wb.flatten ++ va_pl [] (fun _ => .inr (0, []))) H := by simpa [va_pl] using hw.1
  have hD0 : va_D A (wb.flatten ++ va_pl [] (fun _ => .inr (0, []))) := by simpa [va_pl] using hw.2.1
  refine va_mna (D := G.1) (ty := .int) (cy := gI G) S.1 S.2.1 S.2.2.2.1 hcl hE.2.2.2.1.2.2 harr hE.2.2.2.2.2 hE.1 hP0 hD0 hw.2.2 hA (N' := 13) (K' := 64) (z := (64, .inl (fun _ => 0))) (by decide) (by decide) (by decide) (by decide) (by decide) (by decide) (by decide) (by decide) (by decide) hcells hslots (fun c => aw_inner c 64) hdg (fun q r cA H1 hinj hnot hK hP hD hS => ?_)
  have h1 : s.vm.findClass ("[" ++ (FieldType.array .int).toString) = some cA := (hK.2 5 (cA, .array .int) rfl).2
  have h2 : s.vm.findClass ("[" ++ (FieldType.array .int).toString) = some (gA G) := (hE.1.2 4 (gA G, .array .int) rfl).2
  have ec : cA = gA G := Option.some.inj (h1.symm.trans h2)
  subst ec
  have ef : (wb.flatten ++ [(q, .inl (gA G, 13, .inr (.inr (.inr (.inr (fun i => if i < 13 then some (r i) else none))))))]) ++ va_pl ([] ++ (List.range 13).map r) (vr_up (fun _ => .inr (0, [])) ((List.range 13).map r) (.inl (gI G, (64, .inl (fun _ => 0))))) = (wb ++ [[(q, .inl (gA G, 13, .inr (.inr (.inr (.inr (fun i => if i < 13 then some (r i) else none))))))], fam 13 r (rrE G (fun _ _ => 0))]).flatten := by
    have e2 : va_pl ([] ++ (List.range 13).map r) (vr_up (fun _ => .inr (0, [])) ((List.range 13).map r) (.inl (gI G, (64, .inl (fun _ => 0))))) = fam 13 r (rrE G (fun _ _ => 0)) := by
      unfold va_pl fam
      rw [List.nil_append, List.map_map]
      apply List.map_congr_left
      intro i hi
      show (r i, vr_up _ _ _ (r i)) = _
      rw [vr_up_in (List.mem_map.mpr ⟨i, hi, rfl⟩)]
      rfl
    rw [e2]
    simp
  rw [ef] at hP hD
  have hw2 : bW G A H0 (wb ++ [[(q, .inl (gA G, 13, .inr (.inr (.inr (.inr (fun i => if i < 13 then some (r i) else none))))))], fam 13 r (rrE G (fun _ _ => 0))]) H1 locs := ⟨hP, hD, hS⟩
  have hw3 := aw_qarr (i := wb.length) (a := q) (n := 13) (ci := gA G) (f := fun i => if i < 13 then some (r i) else none) hw2 (by rw [List.getElem?_append_right (by omega), Nat.sub_self]; rfl) (fun q_ => some (r q_)) (fun j hj => by simp [hj])
  rw [List.set_append_right _ _ (by omega), Nat.sub_self] at hw3
  exact kk q r H1 hw3
end MN
set_option maxRecDepth 100000 in
set_option maxHeartbeats 4000000 in
theorem c_X2_init (l : Launch) (G : aw_G) (a : Nat)  : CT l G yX2_init wsX2_init ({ frames := 1, cells := 0, slots := 0, locals := 20 }) [.ref a] [[(a, .inr (2, [.int 0]))]] (dt none [[(a, .inr (2, [.int 0]))]]) := by
  refine CT.of (cc := cX2_init) (nL := 1) (ret := none) (by decide) rfl (Nat.le_of_ble_eq_true rfl) ?_
  intro p e s m below meth c R args Q A hRm ha hQ hAe hA S hE hr hlk hnm H locs hH0 hL0 ls hl hw
  have S : CallFix p m c cX2_init 1 s args wsX2_init RX2 := S
  have hl : lv_has ls 1 [(0, .ref a)] := hl
  have hz_oi1 := S.2.2.2.2 (.methodLink RX2 1 objectInit) (by decide +kernel)
  have hz_oi2 := S.2.2.2.2 (.instanceMethod objectInit) (by decide +kernel)
  have hz_oi3 := S.2.2.2.2 (.code objectInit ⟨#[0xb1]⟩ 1 none) (by decide +kernel)
  have hinX2 : ∀ w ∈ u_ws RX2 TX2 1, w ∈ wsX2_init := by decide +kernel
  have hf7 := S.2.2.2.2 (.fieldLink RX2 7 "AwakeTurns$Marks" "value" "I") (by decide +kernel)
  refine lv_aload_n S.1 S.2.1 dX2_init_0 rfl (lv_at hl 0 rfl) ?_
  refine W.objInit S.1 S.2.1 S.2.2.2.1 hz_oi1 hz_oi2 hz_oi3 rfl (by rw [S.2.2.1]; exact hl.1) rfl dX2_init_1 (by rw [hRm]; exact Nat.le_of_ble_eq_true rfl) (by rw [hRm]; exact Nat.le_of_ble_eq_true rfl) ?_
  refine W.eq (g2 := (F0 m 4 ls [])) rfl ?_
  refine lv_aload_n S.1 S.2.1 dX2_init_4 rfl (lv_at hl 0 rfl) ?_
  refine lv_iconst (v := 0) S.1 S.2.1 dX2_init_5 (by decide) ?_
  refine aw_putf S hE hw 0 (C := RX2) (T := TX2) (N := 1) rfl rfl hinX2 tyX2 tyX2_ok nmX2 0 (by decide) hf7 rfl rfl rfl (Nat.le_of_ble_eq_true rfl) dX2_init_6 (fun H locs hw => ?_)
  have hw : bW G A s.heap [[(a, .inr (2, [.int 0]))]] H locs := hw
  exact aw_vret S hr hlk ha hQ hAe hw dX2_init_9 (Nat.le_of_ble_eq_true rfl) (Nat.le_of_ble_eq_true rfl) ⟨rfl, rfl⟩
set_option maxRecDepth 100000 in
set_option maxHeartbeats 4000000 in
theorem c_X7_init (l : Launch) (G : aw_G) (a : Nat)  : CT l G yX7_init wsX7_init ({ frames := 1, cells := 1, slots := 60, locals := 20 }) [.ref a] [[(a, .inr (7, [.null, .int 0, .int 0]))]] (fun v w => ∃ (q7 : Nat), v = none ∧ w = [[(a, .inr (7, [.ref q7, .int (-1), .int 0]))], [(q7, .inl (gI G, 60, .inl (fun _ => 0)))]]) := by
  refine CT.of (cc := cX7_init) (nL := 1) (ret := none) (by decide) rfl (Nat.le_of_ble_eq_true rfl) ?_
  intro p e s m below meth c R args Q A hRm ha hQ hAe hA S hE hr hlk hnm H locs hH0 hL0 ls hl hw
  have S : CallFix p m c cX7_init 1 s args wsX7_init RX7 := S
  have hl : lv_has ls 1 [(0, .ref a)] := hl
  have hz_oi1 := S.2.2.2.2 (.methodLink RX7 3 objectInit) (by decide +kernel)
  have hz_oi2 := S.2.2.2.2 (.instanceMethod objectInit) (by decide +kernel)
  have hz_oi3 := S.2.2.2.2 (.code objectInit ⟨#[0xb1]⟩ 1 none) (by decide +kernel)
  have hz_aci := S.2.2.2.2 (.arrayClass .int) (by decide +kernel)
  have hinX7 : ∀ w ∈ u_ws RX7 TX7 3, w ∈ wsX7_init := by decide +kernel
  have hf9 := S.2.2.2.2 (.fieldLink RX7 9 "AwakeTurns$Sheet" "cells" "[I") (by decide +kernel)
  have hf15 := S.2.2.2.2 (.fieldLink RX7 15 "AwakeTurns$Sheet" "lane" "I") (by decide +kernel)
  have hf19 := S.2.2.2.2 (.fieldLink RX7 19 "AwakeTurns$Sheet" "length" "I") (by decide +kernel)
  refine lv_aload_n S.1 S.2.1 dX7_init_0 rfl (lv_at hl 0 rfl) ?_
  refine W.objInit S.1 S.2.1 S.2.2.2.1 hz_oi1 hz_oi2 hz_oi3 rfl (by rw [S.2.2.1]; exact hl.1) rfl dX7_init_1 (by rw [hRm]; exact Nat.le_of_ble_eq_true rfl) (by rw [hRm]; exact Nat.le_of_ble_eq_true rfl) ?_
  refine W.eq (g2 := (F0 m 4 ls [])) rfl ?_
  refine lv_aload_n S.1 S.2.1 dX7_init_4 rfl (lv_at hl 0 rfl) ?_
  refine lv_bipush (v := 60) S.1 S.2.1 dX7_init_5 (by decide) ?_
  refine aw_newi S hE hw hA (N := 60) hz_aci (by decide) (by decide) (by decide) (by rw [hRm]; exact Nat.le_of_ble_eq_true rfl) (by rw [hRm]; exact Nat.le_of_ble_eq_true rfl) dX7_init_7 (fun q7 H hw => ?_)
  have hw : bW G A s.heap [[(a, .inr (7, [.null, .int 0, .int 0]))], [(q7, .inl (gI G, 60, .inl (fun _ => 0)))]] H locs := hw
  refine aw_putF S hE hw 0 (C := RX7) (T := TX7) (N := 3) rfl rfl hinX7 tyX7 tyX7_ok nmX7 0 (by decide) hf9 rfl hnm rfl rfl rfl (Nat.le_of_ble_eq_true rfl) dX7_init_9 (fun H locs hw => ?_)
  have hw : bW G A s.heap [[(a, .inr (7, [.ref q7, .int 0, .int 0]))], [(q7, .inl (gI G, 60, .inl (fun _ => 0)))]] H locs := hw
  refine lv_aload_n S.1 S.2.1 dX7_init_12 rfl (lv_at hl 0 rfl) ?_
  refine lv_iconst (v := (-1)) S.1 S.2.1 dX7_init_13 (by decide) ?_
  refine aw_putf S hE hw 0 (C := RX7) (T := TX7) (N := 3) rfl rfl hinX7 tyX7 tyX7_ok nmX7 1 (by decide) hf15 rfl rfl rfl (Nat.le_of_ble_eq_true rfl) dX7_init_14 (fun H locs hw => ?_)
  have hw : bW G A s.heap [[(a, .inr (7, [.ref q7, .int (-1), .int 0]))], [(q7, .inl (gI G, 60, .inl (fun _ => 0)))]] H locs := hw
  refine lv_aload_n S.1 S.2.1 dX7_init_17 rfl (lv_at hl 0 rfl) ?_
  refine lv_iconst (v := 0) S.1 S.2.1 dX7_init_18 (by decide) ?_
  refine aw_putf S hE hw 0 (C := RX7) (T := TX7) (N := 3) rfl rfl hinX7 tyX7 tyX7_ok nmX7 2 (by decide) hf19 rfl rfl rfl (Nat.le_of_ble_eq_true rfl) dX7_init_19 (fun H locs hw => ?_)
  have hw : bW G A s.heap [[(a, .inr (7, [.ref q7, .int (-1), .int 0]))], [(q7, .inl (gI G, 60, .inl (fun _ => 0)))]] H locs := hw
  exact aw_vret S hr hlk ha hQ hAe hw dX7_init_22 (Nat.le_of_ble_eq_true rfl) (Nat.le_of_ble_eq_true rfl) ⟨q7, rfl, rfl⟩
set_option maxRecDepth 100000 in
set_option maxHeartbeats 4000000 in
theorem c_X0_init (l : Launch) (G : aw_G) (a : Nat)  : CT l G yX0_init wsX0_init ({ frames := 1, cells := 5, slots := 158, locals := 20 }) [.ref a] [[(a, .inr (0, [.null, .null, .null, .null, .null, .int 0, .int 0]))]] (fun v w => ∃ (q7 : Nat) (q16 : Nat) (q24 : Nat) (q32 : Nat) (q40 : Nat), v = none ∧ w = [[(a, .inr (0, [.ref q7, .ref q16, .ref q24, .ref q32, .ref q40, .int 0, .int 0]))], [(q7, .inl (gL G, 6, .inr (.inr (.inr (.inr (fun _ => none))))))], [(q16, .inl (gI G, 12, .inl (fun _ => 0)))], [(q24, .inl (gI G, 12, .inl (fun _ => 0)))], [(q32, .inl (gI G, 64, .inl (fun _ => 0)))], [(q40, .inl (gI G, 64, .inl (fun _ => 0)))]]) := by
  refine CT.of (cc := cX0_init) (nL := 1) (ret := none) (by decide) rfl (Nat.le_of_ble_eq_true rfl) ?_
  intro p e s m below meth c R args Q A hRm ha hQ hAe hA S hE hr hlk hnm H locs hH0 hL0 ls hl hw
  have S : CallFix p m c cX0_init 1 s args wsX0_init RX0 := S
  have hl : lv_has ls 1 [(0, .ref a)] := hl
  have hz_oi1 := S.2.2.2.2 (.methodLink RX0 3 objectInit) (by decide +kernel)
  have hz_oi2 := S.2.2.2.2 (.instanceMethod objectInit) (by decide +kernel)
  have hz_oi3 := S.2.2.2.2 (.code objectInit ⟨#[0xb1]⟩ 1 none) (by decide +kernel)
  have hz_cl9 := S.2.2.2.2 (.classLink RX0 9 RX8) (by decide +kernel)
  have hinX0 : ∀ w ∈ u_ws RX0 TX0 7, w ∈ wsX0_init := by decide +kernel
  have hf11 := S.2.2.2.2 (.fieldLink RX0 11 "AwakeTurns$Crew" "sleepers" "[LAwakeTurns$Sleeper;") (by decide +kernel)
  have hz_aci := S.2.2.2.2 (.arrayClass .int) (by decide +kernel)
  have hf17 := S.2.2.2.2 (.fieldLink RX0 17 "AwakeTurns$Crew" "turns" "[I") (by decide +kernel)
  have hf21 := S.2.2.2.2 (.fieldLink RX0 21 "AwakeTurns$Crew" "wanted" "[I") (by decide +kernel)
  have hf24 := S.2.2.2.2 (.fieldLink RX0 24 "AwakeTurns$Crew" "skillsOfSet" "[I") (by decide +kernel)
  have hf27 := S.2.2.2.2 (.fieldLink RX0 27 "AwakeTurns$Crew" "harmOfSet" "[I") (by decide +kernel)
  have hf30 := S.2.2.2.2 (.fieldLink RX0 30 "AwakeTurns$Crew" "count" "I") (by decide +kernel)
  have hf34 := S.2.2.2.2 (.fieldLink RX0 34 "AwakeTurns$Crew" "lawNow" "I") (by decide +kernel)
  refine lv_aload_n S.1 S.2.1 dX0_init_0 rfl (lv_at hl 0 rfl) ?_
  refine W.objInit S.1 S.2.1 S.2.2.2.1 hz_oi1 hz_oi2 hz_oi3 rfl (by rw [S.2.2.1]; exact hl.1) rfl dX0_init_1 (by rw [hRm]; exact Nat.le_of_ble_eq_true rfl) (by rw [hRm]; exact Nat.le_of_ble_eq_true rfl) ?_
  refine W.eq (g2 := (F0 m 4 ls [])) rfl ?_
  refine lv_aload_n S.1 S.2.1 dX0_init_4 rfl (lv_at hl 0 rfl) ?_
  refine lv_bipush (v := 6) S.1 S.2.1 dX0_init_5 (by decide) ?_
  refine aw_newq_L S hE hw hA (N := 6) hz_cl9 (by decide) (by decide) (by decide) (by rw [hRm]; exact Nat.le_of_ble_eq_true rfl) (by rw [hRm]; exact Nat.le_of_ble_eq_true rfl) dX0_init_7 (fun q7 H hw => ?_)
  have hw : bW G A s.heap [[(a, .inr (0, [.null, .null, .null, .null, .null, .int 0, .int 0]))], [(q7, .inl (gL G, 6, .inr (.inr (.inr (.inr (fun _ => none))))))]] H locs := hw
  refine aw_putF S hE hw 0 (C := RX0) (T := TX0) (N := 7) rfl rfl hinX0 tyX0 tyX0_ok nmX0 0 (by decide) hf11 rfl hnm rfl rfl rfl (Nat.le_of_ble_eq_true rfl) dX0_init_10 (fun H locs hw => ?_)
  have hw : bW G A s.heap [[(a, .inr (0, [.ref q7, .null, .null, .null, .null, .int 0, .int 0]))], [(q7, .inl (gL G, 6, .inr (.inr (.inr (.inr (fun _ => none))))))]] H locs := hw
  refine lv_aload_n S.1 S.2.1 dX0_init_13 rfl (lv_at hl 0 rfl) ?_
  refine lv_bipush (v := 12) S.1 S.2.1 dX0_init_14 (by decide) ?_
  refine aw_newi S hE hw hA (N := 12) hz_aci (by decide) (by decide) (by decide) (by rw [hRm]; exact Nat.le_of_ble_eq_true rfl) (by rw [hRm]; exact Nat.le_of_ble_eq_true rfl) dX0_init_16 (fun q16 H hw => ?_)
  have hw : bW G A s.heap [[(a, .inr (0, [.ref q7, .null, .null, .null, .null, .int 0, .int 0]))], [(q7, .inl (gL G, 6, .inr (.inr (.inr (.inr (fun _ => none))))))], [(q16, .inl (gI G, 12, .inl (fun _ => 0)))]] H locs := hw
  refine aw_putF S hE hw 0 (C := RX0) (T := TX0) (N := 7) rfl rfl hinX0 tyX0 tyX0_ok nmX0 1 (by decide) hf17 rfl hnm rfl rfl rfl (Nat.le_of_ble_eq_true rfl) dX0_init_18 (fun H locs hw => ?_)
  have hw : bW G A s.heap [[(a, .inr (0, [.ref q7, .ref q16, .null, .null, .null, .int 0, .int 0]))], [(q7, .inl (gL G, 6, .inr (.inr (.inr (.inr (fun _ => none))))))], [(q16, .inl (gI G, 12, .inl (fun _ => 0)))]] H locs := hw
  refine lv_aload_n S.1 S.2.1 dX0_init_21 rfl (lv_at hl 0 rfl) ?_
  refine lv_bipush (v := 12) S.1 S.2.1 dX0_init_22 (by decide) ?_
  refine aw_newi S hE hw hA (N := 12) hz_aci (by decide) (by decide) (by decide) (by rw [hRm]; exact Nat.le_of_ble_eq_true rfl) (by rw [hRm]; exact Nat.le_of_ble_eq_true rfl) dX0_init_24 (fun q24 H hw => ?_)
  have hw : bW G A s.heap [[(a, .inr (0, [.ref q7, .ref q16, .null, .null, .null, .int 0, .int 0]))], [(q7, .inl (gL G, 6, .inr (.inr (.inr (.inr (fun _ => none))))))], [(q16, .inl (gI G, 12, .inl (fun _ => 0)))], [(q24, .inl (gI G, 12, .inl (fun _ => 0)))]] H locs := hw
  refine aw_putF S hE hw 0 (C := RX0) (T := TX0) (N := 7) rfl rfl hinX0 tyX0 tyX0_ok nmX0 2 (by decide) hf21 rfl hnm rfl rfl rfl (Nat.le_of_ble_eq_true rfl) dX0_init_26 (fun H locs hw => ?_)
  have hw : bW G A s.heap [[(a, .inr (0, [.ref q7, .ref q16, .ref q24, .null, .null, .int 0, .int 0]))], [(q7, .inl (gL G, 6, .inr (.inr (.inr (.inr (fun _ => none))))))], [(q16, .inl (gI G, 12, .inl (fun _ => 0)))], [(q24, .inl (gI G, 12, .inl (fun _ => 0)))]] H locs := hw
  refine lv_aload_n S.1 S.2.1 dX0_init_29 rfl (lv_at hl 0 rfl) ?_
  refine lv_bipush (v := 64) S.1 S.2.1 dX0_init_30 (by decide) ?_
  refine aw_newi S hE hw hA (N := 64) hz_aci (by decide) (by decide) (by decide) (by rw [hRm]; exact Nat.le_of_ble_eq_true rfl) (by rw [hRm]; exact Nat.le_of_ble_eq_true rfl) dX0_init_32 (fun q32 H hw => ?_)
  have hw : bW G A s.heap [[(a, .inr (0, [.ref q7, .ref q16, .ref q24, .null, .null, .int 0, .int 0]))], [(q7, .inl (gL G, 6, .inr (.inr (.inr (.inr (fun _ => none))))))], [(q16, .inl (gI G, 12, .inl (fun _ => 0)))], [(q24, .inl (gI G, 12, .inl (fun _ => 0)))], [(q32, .inl (gI G, 64, .inl (fun _ => 0)))]] H locs := hw
  refine aw_putF S hE hw 0 (C := RX0) (T := TX0) (N := 7) rfl rfl hinX0 tyX0 tyX0_ok nmX0 3 (by decide) hf24 rfl hnm rfl rfl rfl (Nat.le_of_ble_eq_true rfl) dX0_init_34 (fun H locs hw => ?_)
  have hw : bW G A s.heap [[(a, .inr (0, [.ref q7, .ref q16, .ref q24, .ref q32, .null, .int 0, .int 0]))], [(q7, .inl (gL G, 6, .inr (.inr (.inr (.inr (fun _ => none))))))], [(q16, .inl (gI G, 12, .inl (fun _ => 0)))], [(q24, .inl (gI G, 12, .inl (fun _ => 0)))], [(q32, .inl (gI G, 64, .inl (fun _ => 0)))]] H locs := hw
  refine lv_aload_n S.1 S.2.1 dX0_init_37 rfl (lv_at hl 0 rfl) ?_
  refine lv_bipush (v := 64) S.1 S.2.1 dX0_init_38 (by decide) ?_
  refine aw_newi S hE hw hA (N := 64) hz_aci (by decide) (by decide) (by decide) (by rw [hRm]; exact Nat.le_of_ble_eq_true rfl) (by rw [hRm]; exact Nat.le_of_ble_eq_true rfl) dX0_init_40 (fun q40 H hw => ?_)
  have hw : bW G A s.heap [[(a, .inr (0, [.ref q7, .ref q16, .ref q24, .ref q32, .null, .int 0, .int 0]))], [(q7, .inl (gL G, 6, .inr (.inr (.inr (.inr (fun _ => none))))))], [(q16, .inl (gI G, 12, .inl (fun _ => 0)))], [(q24, .inl (gI G, 12, .inl (fun _ => 0)))], [(q32, .inl (gI G, 64, .inl (fun _ => 0)))], [(q40, .inl (gI G, 64, .inl (fun _ => 0)))]] H locs := hw
  refine aw_putF S hE hw 0 (C := RX0) (T := TX0) (N := 7) rfl rfl hinX0 tyX0 tyX0_ok nmX0 4 (by decide) hf27 rfl hnm rfl rfl rfl (Nat.le_of_ble_eq_true rfl) dX0_init_42 (fun H locs hw => ?_)
  have hw : bW G A s.heap [[(a, .inr (0, [.ref q7, .ref q16, .ref q24, .ref q32, .ref q40, .int 0, .int 0]))], [(q7, .inl (gL G, 6, .inr (.inr (.inr (.inr (fun _ => none))))))], [(q16, .inl (gI G, 12, .inl (fun _ => 0)))], [(q24, .inl (gI G, 12, .inl (fun _ => 0)))], [(q32, .inl (gI G, 64, .inl (fun _ => 0)))], [(q40, .inl (gI G, 64, .inl (fun _ => 0)))]] H locs := hw
  refine lv_aload_n S.1 S.2.1 dX0_init_45 rfl (lv_at hl 0 rfl) ?_
  refine lv_iconst (v := 0) S.1 S.2.1 dX0_init_46 (by decide) ?_
  refine aw_putf S hE hw 0 (C := RX0) (T := TX0) (N := 7) rfl rfl hinX0 tyX0 tyX0_ok nmX0 5 (by decide) hf30 rfl rfl rfl (Nat.le_of_ble_eq_true rfl) dX0_init_47 (fun H locs hw => ?_)
  have hw : bW G A s.heap [[(a, .inr (0, [.ref q7, .ref q16, .ref q24, .ref q32, .ref q40, .int 0, .int 0]))], [(q7, .inl (gL G, 6, .inr (.inr (.inr (.inr (fun _ => none))))))], [(q16, .inl (gI G, 12, .inl (fun _ => 0)))], [(q24, .inl (gI G, 12, .inl (fun _ => 0)))], [(q32, .inl (gI G, 64, .inl (fun _ => 0)))], [(q40, .inl (gI G, 64, .inl (fun _ => 0)))]] H locs := hw
  refine lv_aload_n S.1 S.2.1 dX0_init_50 rfl (lv_at hl 0 rfl) ?_
  refine lv_iconst (v := 0) S.1 S.2.1 dX0_init_51 (by decide) ?_
  refine aw_putf S hE hw 0 (C := RX0) (T := TX0) (N := 7) rfl rfl hinX0 tyX0 tyX0_ok nmX0 6 (by decide) hf34 rfl rfl rfl (Nat.le_of_ble_eq_true rfl) dX0_init_52 (fun H locs hw => ?_)
  have hw : bW G A s.heap [[(a, .inr (0, [.ref q7, .ref q16, .ref q24, .ref q32, .ref q40, .int 0, .int 0]))], [(q7, .inl (gL G, 6, .inr (.inr (.inr (.inr (fun _ => none))))))], [(q16, .inl (gI G, 12, .inl (fun _ => 0)))], [(q24, .inl (gI G, 12, .inl (fun _ => 0)))], [(q32, .inl (gI G, 64, .inl (fun _ => 0)))], [(q40, .inl (gI G, 64, .inl (fun _ => 0)))]] H locs := hw
  exact aw_vret S hr hlk ha hQ hAe hw dX0_init_55 (Nat.le_of_ble_eq_true rfl) (Nat.le_of_ble_eq_true rfl) ⟨q7, q16, q24, q32, q40, rfl, rfl⟩
set_option maxRecDepth 100000 in
set_option maxHeartbeats 4000000 in
theorem c_X3_init (l : Launch) (G : aw_G) (a cr : Nat)  : CT l G yX3_init wsX3_init ({ frames := 1, cells := 2, slots := 12, locals := 20 }) [.ref a, .ref cr] [[(a, .inr (3, [.null, .null, .null, .int 0, .int 0]))]] (fun v w => ∃ (q7 : Nat) (q15 : Nat), v = none ∧ w = [[(a, .inr (3, [.ref cr, .ref q7, .ref q15, .int 0, .int 0]))], [(q7, .inl (gI G, 6, .inl (fun _ => 0)))], [(q15, .inl (gI G, 6, .inl (fun _ => 0)))]]) := by
  refine CT.of (cc := cX3_init) (nL := 2) (ret := none) (by decide) rfl (Nat.le_of_ble_eq_true rfl) ?_
  intro p e s m below meth c R args Q A hRm ha hQ hAe hA S hE hr hlk hnm H locs hH0 hL0 ls hl hw
  have S : CallFix p m c cX3_init 2 s args wsX3_init RX3 := S
  have hl : lv_has ls 2 [(0, .ref a), (1, .ref cr)] := hl
  have hz_oi1 := S.2.2.2.2 (.methodLink RX3 3 objectInit) (by decide +kernel)
  have hz_oi2 := S.2.2.2.2 (.instanceMethod objectInit) (by decide +kernel)
  have hz_oi3 := S.2.2.2.2 (.code objectInit ⟨#[0xb1]⟩ 1 none) (by decide +kernel)
  have hz_aci := S.2.2.2.2 (.arrayClass .int) (by decide +kernel)
  have hinX3 : ∀ w ∈ u_ws RX3 TX3 5, w ∈ wsX3_init := by decide +kernel
  have hf9 := S.2.2.2.2 (.fieldLink RX3 9 "AwakeTurns$MonthWalk" "harmSoFar" "[I") (by decide +kernel)
  have hf15 := S.2.2.2.2 (.fieldLink RX3 15 "AwakeTurns$MonthWalk" "known" "[I") (by decide +kernel)
  have hf18 := S.2.2.2.2 (.fieldLink RX3 18 "AwakeTurns$MonthWalk" "lacking" "I") (by decide +kernel)
  have hf22 := S.2.2.2.2 (.fieldLink RX3 22 "AwakeTurns$MonthWalk" "upBefore" "I") (by decide +kernel)
  have hf25 := S.2.2.2.2 (.fieldLink RX3 25 "AwakeTurns$MonthWalk" "crew" "LAwakeTurns$Crew;") (by decide +kernel)
  refine lv_aload_n S.1 S.2.1 dX3_init_0 rfl (lv_at hl 0 rfl) ?_
  refine W.objInit S.1 S.2.1 S.2.2.2.1 hz_oi1 hz_oi2 hz_oi3 rfl (by rw [S.2.2.1]; exact hl.1) rfl dX3_init_1 (by rw [hRm]; exact Nat.le_of_ble_eq_true rfl) (by rw [hRm]; exact Nat.le_of_ble_eq_true rfl) ?_
  refine W.eq (g2 := (F0 m 4 ls [])) rfl ?_
  refine lv_aload_n S.1 S.2.1 dX3_init_4 rfl (lv_at hl 0 rfl) ?_
  refine lv_bipush (v := 6) S.1 S.2.1 dX3_init_5 (by decide) ?_
  refine aw_newi S hE hw hA (N := 6) hz_aci (by decide) (by decide) (by decide) (by rw [hRm]; exact Nat.le_of_ble_eq_true rfl) (by rw [hRm]; exact Nat.le_of_ble_eq_true rfl) dX3_init_7 (fun q7 H hw => ?_)
  have hw : bW G A s.heap [[(a, .inr (3, [.null, .null, .null, .int 0, .int 0]))], [(q7, .inl (gI G, 6, .inl (fun _ => 0)))]] H locs := hw
  refine aw_putF S hE hw 0 (C := RX3) (T := TX3) (N := 5) rfl rfl hinX3 tyX3 tyX3_ok nmX3 1 (by decide) hf9 rfl hnm rfl rfl rfl (Nat.le_of_ble_eq_true rfl) dX3_init_9 (fun H locs hw => ?_)
  have hw : bW G A s.heap [[(a, .inr (3, [.null, .ref q7, .null, .int 0, .int 0]))], [(q7, .inl (gI G, 6, .inl (fun _ => 0)))]] H locs := hw
  refine lv_aload_n S.1 S.2.1 dX3_init_12 rfl (lv_at hl 0 rfl) ?_
  refine lv_bipush (v := 6) S.1 S.2.1 dX3_init_13 (by decide) ?_
  refine aw_newi S hE hw hA (N := 6) hz_aci (by decide) (by decide) (by decide) (by rw [hRm]; exact Nat.le_of_ble_eq_true rfl) (by rw [hRm]; exact Nat.le_of_ble_eq_true rfl) dX3_init_15 (fun q15 H hw => ?_)
  have hw : bW G A s.heap [[(a, .inr (3, [.null, .ref q7, .null, .int 0, .int 0]))], [(q7, .inl (gI G, 6, .inl (fun _ => 0)))], [(q15, .inl (gI G, 6, .inl (fun _ => 0)))]] H locs := hw
  refine aw_putF S hE hw 0 (C := RX3) (T := TX3) (N := 5) rfl rfl hinX3 tyX3 tyX3_ok nmX3 2 (by decide) hf15 rfl hnm rfl rfl rfl (Nat.le_of_ble_eq_true rfl) dX3_init_17 (fun H locs hw => ?_)
  have hw : bW G A s.heap [[(a, .inr (3, [.null, .ref q7, .ref q15, .int 0, .int 0]))], [(q7, .inl (gI G, 6, .inl (fun _ => 0)))], [(q15, .inl (gI G, 6, .inl (fun _ => 0)))]] H locs := hw
  refine lv_aload_n S.1 S.2.1 dX3_init_20 rfl (lv_at hl 0 rfl) ?_
  refine lv_iconst (v := 0) S.1 S.2.1 dX3_init_21 (by decide) ?_
  refine aw_putf S hE hw 0 (C := RX3) (T := TX3) (N := 5) rfl rfl hinX3 tyX3 tyX3_ok nmX3 3 (by decide) hf18 rfl rfl rfl (Nat.le_of_ble_eq_true rfl) dX3_init_22 (fun H locs hw => ?_)
  have hw : bW G A s.heap [[(a, .inr (3, [.null, .ref q7, .ref q15, .int 0, .int 0]))], [(q7, .inl (gI G, 6, .inl (fun _ => 0)))], [(q15, .inl (gI G, 6, .inl (fun _ => 0)))]] H locs := hw
  refine lv_aload_n S.1 S.2.1 dX3_init_25 rfl (lv_at hl 0 rfl) ?_
  refine lv_iconst (v := 0) S.1 S.2.1 dX3_init_26 (by decide) ?_
  refine aw_putf S hE hw 0 (C := RX3) (T := TX3) (N := 5) rfl rfl hinX3 tyX3 tyX3_ok nmX3 4 (by decide) hf22 rfl rfl rfl (Nat.le_of_ble_eq_true rfl) dX3_init_27 (fun H locs hw => ?_)
  have hw : bW G A s.heap [[(a, .inr (3, [.null, .ref q7, .ref q15, .int 0, .int 0]))], [(q7, .inl (gI G, 6, .inl (fun _ => 0)))], [(q15, .inl (gI G, 6, .inl (fun _ => 0)))]] H locs := hw
  refine lv_aload_n S.1 S.2.1 dX3_init_30 rfl (lv_at hl 0 rfl) ?_
  refine lv_aload_n S.1 S.2.1 dX3_init_31 rfl (lv_at hl 1 rfl) ?_
  refine aw_putF S hE hw 0 (C := RX3) (T := TX3) (N := 5) rfl rfl hinX3 tyX3 tyX3_ok nmX3 0 (by decide) hf25 rfl hnm rfl rfl rfl (Nat.le_of_ble_eq_true rfl) dX3_init_32 (fun H locs hw => ?_)
  have hw : bW G A s.heap [[(a, .inr (3, [.ref cr, .ref q7, .ref q15, .int 0, .int 0]))], [(q7, .inl (gI G, 6, .inl (fun _ => 0)))], [(q15, .inl (gI G, 6, .inl (fun _ => 0)))]] H locs := hw
  exact aw_vret S hr hlk ha hQ hAe hw dX3_init_35 (Nat.le_of_ble_eq_true rfl) (Nat.le_of_ble_eq_true rfl) ⟨q7, q15, rfl, rfl⟩
set_option maxRecDepth 100000 in
set_option maxHeartbeats 4000000 in
theorem c_X4_init (l : Launch) (G : aw_G) (a : Nat)  : CT l G yX4_init wsX4_init ({ frames := 1, cells := 6, slots := 52, locals := 20 }) [.ref a] [[(a, .inr (4, [.null, .null, .null, .null, .null, .null, .int 0, .int 0]))]] (fun v w => ∃ (q7 : Nat) (q15 : Nat) (q23 : Nat) (q31 : Nat) (q39 : Nat) (q47 : Nat), v = none ∧ w = [[(a, .inr (4, [.ref q7, .ref q15, .ref q23, .ref q31, .ref q39, .ref q47, .int 0, .int 0]))], [(q7, .inl (gI G, 8, .inl (fun _ => 0)))], [(q15, .inl (gI G, 8, .inl (fun _ => 0)))], [(q23, .inl (gI G, 8, .inl (fun _ => 0)))], [(q31, .inl (gI G, 8, .inl (fun _ => 0)))], [(q39, .inl (gI G, 8, .inl (fun _ => 0)))], [(q47, .inl (gI G, 12, .inl (fun _ => 0)))]]) := by
  refine CT.of (cc := cX4_init) (nL := 1) (ret := none) (by decide) rfl (Nat.le_of_ble_eq_true rfl) ?_
  intro p e s m below meth c R args Q A hRm ha hQ hAe hA S hE hr hlk hnm H locs hH0 hL0 ls hl hw
  have S : CallFix p m c cX4_init 1 s args wsX4_init RX4 := S
  have hl : lv_has ls 1 [(0, .ref a)] := hl
  have hz_oi1 := S.2.2.2.2 (.methodLink RX4 3 objectInit) (by decide +kernel)
  have hz_oi2 := S.2.2.2.2 (.instanceMethod objectInit) (by decide +kernel)
  have hz_oi3 := S.2.2.2.2 (.code objectInit ⟨#[0xb1]⟩ 1 none) (by decide +kernel)
  have hz_aci := S.2.2.2.2 (.arrayClass .int) (by decide +kernel)
  have hinX4 : ∀ w ∈ u_ws RX4 TX4 8, w ∈ wsX4_init := by decide +kernel
  have hf9 := S.2.2.2.2 (.fieldLink RX4 9 "AwakeTurns$News" "noteFrom" "[I") (by decide +kernel)
  have hf15 := S.2.2.2.2 (.fieldLink RX4 15 "AwakeTurns$News" "noteTo" "[I") (by decide +kernel)
  have hf18 := S.2.2.2.2 (.fieldLink RX4 18 "AwakeTurns$News" "readingOf" "[I") (by decide +kernel)
  have hf21 := S.2.2.2.2 (.fieldLink RX4 21 "AwakeTurns$News" "readingMonth" "[I") (by decide +kernel)
  have hf24 := S.2.2.2.2 (.fieldLink RX4 24 "AwakeTurns$News" "readingBit" "[I") (by decide +kernel)
  have hf27 := S.2.2.2.2 (.fieldLink RX4 27 "AwakeTurns$News" "knowing" "[I") (by decide +kernel)
  have hf30 := S.2.2.2.2 (.fieldLink RX4 30 "AwakeTurns$News" "notes" "I") (by decide +kernel)
  have hf34 := S.2.2.2.2 (.fieldLink RX4 34 "AwakeTurns$News" "readings" "I") (by decide +kernel)
  refine lv_aload_n S.1 S.2.1 dX4_init_0 rfl (lv_at hl 0 rfl) ?_
  refine W.objInit S.1 S.2.1 S.2.2.2.1 hz_oi1 hz_oi2 hz_oi3 rfl (by rw [S.2.2.1]; exact hl.1) rfl dX4_init_1 (by rw [hRm]; exact Nat.le_of_ble_eq_true rfl) (by rw [hRm]; exact Nat.le_of_ble_eq_true rfl) ?_
  refine W.eq (g2 := (F0 m 4 ls [])) rfl ?_
  refine lv_aload_n S.1 S.2.1 dX4_init_4 rfl (lv_at hl 0 rfl) ?_
  refine lv_bipush (v := 8) S.1 S.2.1 dX4_init_5 (by decide) ?_
  refine aw_newi S hE hw hA (N := 8) hz_aci (by decide) (by decide) (by decide) (by rw [hRm]; exact Nat.le_of_ble_eq_true rfl) (by rw [hRm]; exact Nat.le_of_ble_eq_true rfl) dX4_init_7 (fun q7 H hw => ?_)
  have hw : bW G A s.heap [[(a, .inr (4, [.null, .null, .null, .null, .null, .null, .int 0, .int 0]))], [(q7, .inl (gI G, 8, .inl (fun _ => 0)))]] H locs := hw
  refine aw_putF S hE hw 0 (C := RX4) (T := TX4) (N := 8) rfl rfl hinX4 tyX4 tyX4_ok nmX4 0 (by decide) hf9 rfl hnm rfl rfl rfl (Nat.le_of_ble_eq_true rfl) dX4_init_9 (fun H locs hw => ?_)
  have hw : bW G A s.heap [[(a, .inr (4, [.ref q7, .null, .null, .null, .null, .null, .int 0, .int 0]))], [(q7, .inl (gI G, 8, .inl (fun _ => 0)))]] H locs := hw
  refine lv_aload_n S.1 S.2.1 dX4_init_12 rfl (lv_at hl 0 rfl) ?_
  refine lv_bipush (v := 8) S.1 S.2.1 dX4_init_13 (by decide) ?_
  refine aw_newi S hE hw hA (N := 8) hz_aci (by decide) (by decide) (by decide) (by rw [hRm]; exact Nat.le_of_ble_eq_true rfl) (by rw [hRm]; exact Nat.le_of_ble_eq_true rfl) dX4_init_15 (fun q15 H hw => ?_)
  have hw : bW G A s.heap [[(a, .inr (4, [.ref q7, .null, .null, .null, .null, .null, .int 0, .int 0]))], [(q7, .inl (gI G, 8, .inl (fun _ => 0)))], [(q15, .inl (gI G, 8, .inl (fun _ => 0)))]] H locs := hw
  refine aw_putF S hE hw 0 (C := RX4) (T := TX4) (N := 8) rfl rfl hinX4 tyX4 tyX4_ok nmX4 1 (by decide) hf15 rfl hnm rfl rfl rfl (Nat.le_of_ble_eq_true rfl) dX4_init_17 (fun H locs hw => ?_)
  have hw : bW G A s.heap [[(a, .inr (4, [.ref q7, .ref q15, .null, .null, .null, .null, .int 0, .int 0]))], [(q7, .inl (gI G, 8, .inl (fun _ => 0)))], [(q15, .inl (gI G, 8, .inl (fun _ => 0)))]] H locs := hw
  refine lv_aload_n S.1 S.2.1 dX4_init_20 rfl (lv_at hl 0 rfl) ?_
  refine lv_bipush (v := 8) S.1 S.2.1 dX4_init_21 (by decide) ?_
  refine aw_newi S hE hw hA (N := 8) hz_aci (by decide) (by decide) (by decide) (by rw [hRm]; exact Nat.le_of_ble_eq_true rfl) (by rw [hRm]; exact Nat.le_of_ble_eq_true rfl) dX4_init_23 (fun q23 H hw => ?_)
  have hw : bW G A s.heap [[(a, .inr (4, [.ref q7, .ref q15, .null, .null, .null, .null, .int 0, .int 0]))], [(q7, .inl (gI G, 8, .inl (fun _ => 0)))], [(q15, .inl (gI G, 8, .inl (fun _ => 0)))], [(q23, .inl (gI G, 8, .inl (fun _ => 0)))]] H locs := hw
  refine aw_putF S hE hw 0 (C := RX4) (T := TX4) (N := 8) rfl rfl hinX4 tyX4 tyX4_ok nmX4 2 (by decide) hf18 rfl hnm rfl rfl rfl (Nat.le_of_ble_eq_true rfl) dX4_init_25 (fun H locs hw => ?_)
  have hw : bW G A s.heap [[(a, .inr (4, [.ref q7, .ref q15, .ref q23, .null, .null, .null, .int 0, .int 0]))], [(q7, .inl (gI G, 8, .inl (fun _ => 0)))], [(q15, .inl (gI G, 8, .inl (fun _ => 0)))], [(q23, .inl (gI G, 8, .inl (fun _ => 0)))]] H locs := hw
  refine lv_aload_n S.1 S.2.1 dX4_init_28 rfl (lv_at hl 0 rfl) ?_
  refine lv_bipush (v := 8) S.1 S.2.1 dX4_init_29 (by decide) ?_
  refine aw_newi S hE hw hA (N := 8) hz_aci (by decide) (by decide) (by decide) (by rw [hRm]; exact Nat.le_of_ble_eq_true rfl) (by rw [hRm]; exact Nat.le_of_ble_eq_true rfl) dX4_init_31 (fun q31 H hw => ?_)
  have hw : bW G A s.heap [[(a, .inr (4, [.ref q7, .ref q15, .ref q23, .null, .null, .null, .int 0, .int 0]))], [(q7, .inl (gI G, 8, .inl (fun _ => 0)))], [(q15, .inl (gI G, 8, .inl (fun _ => 0)))], [(q23, .inl (gI G, 8, .inl (fun _ => 0)))], [(q31, .inl (gI G, 8, .inl (fun _ => 0)))]] H locs := hw
  refine aw_putF S hE hw 0 (C := RX4) (T := TX4) (N := 8) rfl rfl hinX4 tyX4 tyX4_ok nmX4 3 (by decide) hf21 rfl hnm rfl rfl rfl (Nat.le_of_ble_eq_true rfl) dX4_init_33 (fun H locs hw => ?_)
  have hw : bW G A s.heap [[(a, .inr (4, [.ref q7, .ref q15, .ref q23, .ref q31, .null, .null, .int 0, .int 0]))], [(q7, .inl (gI G, 8, .inl (fun _ => 0)))], [(q15, .inl (gI G, 8, .inl (fun _ => 0)))], [(q23, .inl (gI G, 8, .inl (fun _ => 0)))], [(q31, .inl (gI G, 8, .inl (fun _ => 0)))]] H locs := hw
  refine lv_aload_n S.1 S.2.1 dX4_init_36 rfl (lv_at hl 0 rfl) ?_
  refine lv_bipush (v := 8) S.1 S.2.1 dX4_init_37 (by decide) ?_
  refine aw_newi S hE hw hA (N := 8) hz_aci (by decide) (by decide) (by decide) (by rw [hRm]; exact Nat.le_of_ble_eq_true rfl) (by rw [hRm]; exact Nat.le_of_ble_eq_true rfl) dX4_init_39 (fun q39 H hw => ?_)
  have hw : bW G A s.heap [[(a, .inr (4, [.ref q7, .ref q15, .ref q23, .ref q31, .null, .null, .int 0, .int 0]))], [(q7, .inl (gI G, 8, .inl (fun _ => 0)))], [(q15, .inl (gI G, 8, .inl (fun _ => 0)))], [(q23, .inl (gI G, 8, .inl (fun _ => 0)))], [(q31, .inl (gI G, 8, .inl (fun _ => 0)))], [(q39, .inl (gI G, 8, .inl (fun _ => 0)))]] H locs := hw
  refine aw_putF S hE hw 0 (C := RX4) (T := TX4) (N := 8) rfl rfl hinX4 tyX4 tyX4_ok nmX4 4 (by decide) hf24 rfl hnm rfl rfl rfl (Nat.le_of_ble_eq_true rfl) dX4_init_41 (fun H locs hw => ?_)
  have hw : bW G A s.heap [[(a, .inr (4, [.ref q7, .ref q15, .ref q23, .ref q31, .ref q39, .null, .int 0, .int 0]))], [(q7, .inl (gI G, 8, .inl (fun _ => 0)))], [(q15, .inl (gI G, 8, .inl (fun _ => 0)))], [(q23, .inl (gI G, 8, .inl (fun _ => 0)))], [(q31, .inl (gI G, 8, .inl (fun _ => 0)))], [(q39, .inl (gI G, 8, .inl (fun _ => 0)))]] H locs := hw
  refine lv_aload_n S.1 S.2.1 dX4_init_44 rfl (lv_at hl 0 rfl) ?_
  refine lv_bipush (v := 12) S.1 S.2.1 dX4_init_45 (by decide) ?_
  refine aw_newi S hE hw hA (N := 12) hz_aci (by decide) (by decide) (by decide) (by rw [hRm]; exact Nat.le_of_ble_eq_true rfl) (by rw [hRm]; exact Nat.le_of_ble_eq_true rfl) dX4_init_47 (fun q47 H hw => ?_)
  have hw : bW G A s.heap [[(a, .inr (4, [.ref q7, .ref q15, .ref q23, .ref q31, .ref q39, .null, .int 0, .int 0]))], [(q7, .inl (gI G, 8, .inl (fun _ => 0)))], [(q15, .inl (gI G, 8, .inl (fun _ => 0)))], [(q23, .inl (gI G, 8, .inl (fun _ => 0)))], [(q31, .inl (gI G, 8, .inl (fun _ => 0)))], [(q39, .inl (gI G, 8, .inl (fun _ => 0)))], [(q47, .inl (gI G, 12, .inl (fun _ => 0)))]] H locs := hw
  refine aw_putF S hE hw 0 (C := RX4) (T := TX4) (N := 8) rfl rfl hinX4 tyX4 tyX4_ok nmX4 5 (by decide) hf27 rfl hnm rfl rfl rfl (Nat.le_of_ble_eq_true rfl) dX4_init_49 (fun H locs hw => ?_)
  have hw : bW G A s.heap [[(a, .inr (4, [.ref q7, .ref q15, .ref q23, .ref q31, .ref q39, .ref q47, .int 0, .int 0]))], [(q7, .inl (gI G, 8, .inl (fun _ => 0)))], [(q15, .inl (gI G, 8, .inl (fun _ => 0)))], [(q23, .inl (gI G, 8, .inl (fun _ => 0)))], [(q31, .inl (gI G, 8, .inl (fun _ => 0)))], [(q39, .inl (gI G, 8, .inl (fun _ => 0)))], [(q47, .inl (gI G, 12, .inl (fun _ => 0)))]] H locs := hw
  refine lv_aload_n S.1 S.2.1 dX4_init_52 rfl (lv_at hl 0 rfl) ?_
  refine lv_iconst (v := 0) S.1 S.2.1 dX4_init_53 (by decide) ?_
  refine aw_putf S hE hw 0 (C := RX4) (T := TX4) (N := 8) rfl rfl hinX4 tyX4 tyX4_ok nmX4 6 (by decide) hf30 rfl rfl rfl (Nat.le_of_ble_eq_true rfl) dX4_init_54 (fun H locs hw => ?_)
  have hw : bW G A s.heap [[(a, .inr (4, [.ref q7, .ref q15, .ref q23, .ref q31, .ref q39, .ref q47, .int 0, .int 0]))], [(q7, .inl (gI G, 8, .inl (fun _ => 0)))], [(q15, .inl (gI G, 8, .inl (fun _ => 0)))], [(q23, .inl (gI G, 8, .inl (fun _ => 0)))], [(q31, .inl (gI G, 8, .inl (fun _ => 0)))], [(q39, .inl (gI G, 8, .inl (fun _ => 0)))], [(q47, .inl (gI G, 12, .inl (fun _ => 0)))]] H locs := hw
  refine lv_aload_n S.1 S.2.1 dX4_init_57 rfl (lv_at hl 0 rfl) ?_
  refine lv_iconst (v := 0) S.1 S.2.1 dX4_init_58 (by decide) ?_
  refine aw_putf S hE hw 0 (C := RX4) (T := TX4) (N := 8) rfl rfl hinX4 tyX4 tyX4_ok nmX4 7 (by decide) hf34 rfl rfl rfl (Nat.le_of_ble_eq_true rfl) dX4_init_59 (fun H locs hw => ?_)
  have hw : bW G A s.heap [[(a, .inr (4, [.ref q7, .ref q15, .ref q23, .ref q31, .ref q39, .ref q47, .int 0, .int 0]))], [(q7, .inl (gI G, 8, .inl (fun _ => 0)))], [(q15, .inl (gI G, 8, .inl (fun _ => 0)))], [(q23, .inl (gI G, 8, .inl (fun _ => 0)))], [(q31, .inl (gI G, 8, .inl (fun _ => 0)))], [(q39, .inl (gI G, 8, .inl (fun _ => 0)))], [(q47, .inl (gI G, 12, .inl (fun _ => 0)))]] H locs := hw
  exact aw_vret S hr hlk ha hQ hAe hw dX4_init_62 (Nat.le_of_ble_eq_true rfl) (Nat.le_of_ble_eq_true rfl) ⟨q7, q15, q23, q31, q39, q47, rfl, rfl⟩
set_option maxRecDepth 100000 in
set_option maxHeartbeats 4000000 in
theorem c_X6_init (l : Launch) (G : aw_G) (a cr : Nat)  : CT l G yX6_init wsX6_init ({ frames := 1, cells := 14, slots := 845, locals := 20 }) [.ref a, .ref cr] [[(a, .inr (6, [.null, .null]))]] (fun v w => ∃ (q9 : Nat) (r9 : Nat → Nat), v = none ∧ w = [[(a, .inr (6, [.ref cr, .ref q9]))], [(q9, .inl (gA G, 13, .inr (.inr (.inr (.inr (fun q_ => some (r9 q_)))))))], fam 13 r9 (rrE G (fun _ _ => 0))]) := by
  refine CT.of (cc := cX6_init) (nL := 2) (ret := none) (by decide) rfl (Nat.le_of_ble_eq_true rfl) ?_
  intro p e s m below meth c R args Q A hRm ha hQ hAe hA S hE hr hlk hnm H locs hH0 hL0 ls hl hw
  have S : CallFix p m c cX6_init 2 s args wsX6_init RX6 := S
  have hl : lv_has ls 2 [(0, .ref a), (1, .ref cr)] := hl
  have hz_oi1 := S.2.2.2.2 (.methodLink RX6 3 objectInit) (by decide +kernel)
  have hz_oi2 := S.2.2.2.2 (.instanceMethod objectInit) (by decide +kernel)
  have hz_oi3 := S.2.2.2.2 (.code objectInit ⟨#[0xb1]⟩ 1 none) (by decide +kernel)
  have hz_cl9 := S.2.2.2.2 (.classLink RX6 9 "[[I") (by decide +kernel)
  have hz_aci := S.2.2.2.2 (.arrayClass .int) (by decide +kernel)
  have hinX6 : ∀ w ∈ u_ws RX6 TX6 2, w ∈ wsX6_init := by decide +kernel
  have hf11 := S.2.2.2.2 (.fieldLink RX6 11 "AwakeTurns$Plan" "rest" "[[I") (by decide +kernel)
  have hf16 := S.2.2.2.2 (.fieldLink RX6 16 "AwakeTurns$Plan" "crew" "LAwakeTurns$Crew;") (by decide +kernel)
  refine lv_aload_n S.1 S.2.1 dX6_init_0 rfl (lv_at hl 0 rfl) ?_
  refine W.objInit S.1 S.2.1 S.2.2.2.1 hz_oi1 hz_oi2 hz_oi3 rfl (by rw [S.2.2.1]; exact hl.1) rfl dX6_init_1 (by rw [hRm]; exact Nat.le_of_ble_eq_true rfl) (by rw [hRm]; exact Nat.le_of_ble_eq_true rfl) ?_
  refine W.eq (g2 := (F0 m 4 ls [])) rfl ?_
  refine lv_aload_n S.1 S.2.1 dX6_init_4 rfl (lv_at hl 0 rfl) ?_
  refine lv_bipush (v := 13) S.1 S.2.1 dX6_init_5 (by decide) ?_
  refine lv_bipush (v := 64) S.1 S.2.1 dX6_init_7 (by decide) ?_
  refine aw_mna S hE hw hA hz_cl9 hz_aci (by rw [hRm]; exact Nat.le_of_ble_eq_true rfl) (by rw [hRm]; exact Nat.le_of_ble_eq_true rfl) dX6_init_9 (fun q9 r9 H hw => ?_)
  have hw : bW G A s.heap [[(a, .inr (6, [.null, .null]))], [(q9, .inl (gA G, 13, .inr (.inr (.inr (.inr (fun q_ => some (r9 q_)))))))], fam 13 r9 (rrE G (fun _ _ => 0))] H locs := hw
  refine aw_putF S hE hw 0 (C := RX6) (T := TX6) (N := 2) rfl rfl hinX6 tyX6 tyX6_ok nmX6 1 (by decide) hf11 rfl hnm rfl rfl rfl (Nat.le_of_ble_eq_true rfl) dX6_init_13 (fun H locs hw => ?_)
  have hw : bW G A s.heap [[(a, .inr (6, [.null, .ref q9]))], [(q9, .inl (gA G, 13, .inr (.inr (.inr (.inr (fun q_ => some (r9 q_)))))))], fam 13 r9 (rrE G (fun _ _ => 0))] H locs := hw
  refine lv_aload_n S.1 S.2.1 dX6_init_16 rfl (lv_at hl 0 rfl) ?_
  refine lv_aload_n S.1 S.2.1 dX6_init_17 rfl (lv_at hl 1 rfl) ?_
  refine aw_putF S hE hw 0 (C := RX6) (T := TX6) (N := 2) rfl rfl hinX6 tyX6 tyX6_ok nmX6 0 (by decide) hf16 rfl hnm rfl rfl rfl (Nat.le_of_ble_eq_true rfl) dX6_init_18 (fun H locs hw => ?_)
  have hw : bW G A s.heap [[(a, .inr (6, [.ref cr, .ref q9]))], [(q9, .inl (gA G, 13, .inr (.inr (.inr (.inr (fun q_ => some (r9 q_)))))))], fam 13 r9 (rrE G (fun _ _ => 0))] H locs := hw
  exact aw_vret S hr hlk ha hQ hAe hw dX6_init_21 (Nat.le_of_ble_eq_true rfl) (Nat.le_of_ble_eq_true rfl) ⟨q9, r9, rfl, rfl⟩
