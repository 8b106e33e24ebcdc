/-! worlds in blocks, contracts in one form, rows over them -/
abbrev aw_G : Type := va_G × ClassId × ClassId × ClassId × ClassId × ClassId
abbrev gI (G : aw_G) : ClassId := G.2.1
abbrev gZ (G : aw_G) : ClassId := G.2.2.1
abbrev gH (G : aw_G) : ClassId := G.2.2.2.1
abbrev gL (G : aw_G) : ClassId := G.2.2.2.2.1
abbrev gA (G : aw_G) : ClassId := G.2.2.2.2.2
abbrev gT (G : aw_G) : List (ClassId × FieldType) := [(gI G, .int), (gZ G, .boolean), (gH G, .object "AwakeTurns$Sheet"), (gL G, .object "AwakeTurns$Sleeper"), (gA G, .array .int)]
/-- what the tables say beside the words: the classes, the arrays' classes, the nest mates' links, casts -/
def aw_E (G : aw_G) (U : State) : Prop :=
  va_K G.1 vwCl (gT G) U ∧
  (va_Nw (.methodLinkNest "AwakeTurns$MonthWalk" 74 yX10_isIn "AwakeTurns") U ∧ va_Nw (.methodLinkNest "AwakeTurns$News" 41 yX10_isIn "AwakeTurns") U ∧ va_Nw (.methodLinkNest "AwakeTurns$Plan" 53 yX10_isIn "AwakeTurns") U) ∧
  (va_Nw (.methodLinkNest "AwakeTurns" 17 yX7_init "AwakeTurns") U ∧ va_Nw (.methodLinkNest "AwakeTurns" 20 yX0_init "AwakeTurns") U ∧ va_Nw (.methodLinkNest "AwakeTurns" 43 yX4_init "AwakeTurns") U ∧ va_Nw (.methodLinkNest "AwakeTurns" 50 yX2_init "AwakeTurns") U) ∧
  (va_AO "AwakeTurns$Sheet" U ∧ va_AO "AwakeTurns$Sleeper" U ∧ va_AOA .int U) ∧
  (va_Nc "AwakeTurns$Sleeper" "AwakeTurns$Frail" U ∧ va_Nc "AwakeTurns$Sleeper" "AwakeTurns$Old" U ∧ va_Nc "AwakeTurns$Frail" "AwakeTurns$Old" U ∧ va_Nw (.castable "AwakeTurns$Old" "AwakeTurns$Frail") U ∧ va_Nw (.castable "AwakeTurns$Frail" "AwakeTurns$Sleeper") U ∧ va_Nw (.castable "AwakeTurns$Old" "AwakeTurns$Sleeper") U) ∧
  U.vm.findClass (FieldType.array .int).toString = some (gI G)
theorem aw_E.warm {G : aw_G} {s U : State} (hW : s.WarmedH U.vm) (h : aw_E G s) : aw_E G U := by
  obtain ⟨hK, ⟨n1, n2, n3⟩, ⟨m1, m2, m3, m4⟩, ⟨a1, a2, a3⟩, ⟨c1, c2, c3, c4, c5, c6⟩, hi⟩ := h
  exact ⟨va_K.moved hW.alike hK, ⟨va_Nw.warmM hW n1, va_Nw.warmM hW n2, va_Nw.warmM hW n3⟩, ⟨va_Nw.warmM hW m1, va_Nw.warmM hW m2, va_Nw.warmM hW m3, va_Nw.warmM hW m4⟩, ⟨va_AO.moved hW.alike a1, va_AO.moved hW.alike a2, va_AOA.moved hW.alike a3⟩, ⟨va_Nc.moved hW.alike c1, va_Nc.moved hW.alike c2, va_Nc.moved hW.alike c3, va_Nw.warmC hW c4, va_Nw.warmC hW c5, va_Nw.warmC hW c6⟩, by rw [hW.alike.findClass]; exact hi⟩
theorem aw_E.calling {G : aw_G} {U : State} {g : JFrame} {mk : MethodId} {a : Array Value} (h : aw_E G U) : aw_E G (U.calling g mk a) := by
  obtain ⟨hK, ⟨n1, n2, n3⟩, ⟨m1, m2, m3, m4⟩, ⟨a1, a2, a3⟩, ⟨c1, c2, c3, c4, c5, c6⟩, hi⟩ := h
  have hv : U.vm = (U.calling g mk a).vm := rfl
  have hal : U.vm.Alike (U.calling g mk a).vm := Vm.Alike.refl U.vm
  exact ⟨va_K.moved hal hK, ⟨va_Nw.same rfl hv n1, va_Nw.same rfl hv n2, va_Nw.same rfl hv n3⟩, ⟨va_Nw.same rfl hv m1, va_Nw.same rfl hv m2, va_Nw.same rfl hv m3, va_Nw.same rfl hv m4⟩, ⟨va_AO.moved hal a1, va_AO.moved hal a2, va_AOA.moved hal a3⟩, ⟨va_Nc.moved hal c1, va_Nc.moved hal c2, va_Nc.moved hal c3, va_Nw.same rfl hv c4, va_Nw.same rfl hv c5, va_Nw.same rfl hv c6⟩, hi⟩
/-- the world in blocks -/
def bW (G : aw_G) (A : Nat → Prop) (H0 : Heap) (wb : List va_W) (H : Heap) (locs : List Loc) : Prop := va_P G.1 vwCl wb.flatten H ∧ va_D A wb.flatten ∧ va_S A H0 H locs
/-! lists -/
theorem aw_P_mem {D : va_G} {cl : List vw_C} {ws : va_W} {H : Heap} : va_P D cl ws H ↔ ∀ q ∈ ws, va_at D cl q H := by
  constructor
  · intro h q hq
    obtain ⟨k, hk⟩ := List.getElem?_of_mem hq
    exact h k q hk
  · intro h k q hk
    exact h q (List.mem_of_getElem? hk)
theorem aw_nd {ws : va_W} : (∀ (i j : Nat) (p q : Nat × va_E), ws[i]? = some p → ws[j]? = some q → p.1 = q.1 → i = j) ↔ (ws.map Prod.fst).Nodup := by
  unfold List.Nodup
  rw [List.pairwise_iff_getElem]
  constructor
  · intro h i j hi hj hij he
    have hj' : j < ws.length := by simpa using hj
    have hi' : i < ws.length := by simpa using hi
    rw [List.getElem_map, List.getElem_map] at he
    have := h i j ws[i] ws[j] (List.getElem?_eq_getElem hi') (List.getElem?_eq_getElem hj') he
    omega
  · intro h i j p q hp hq he
    obtain ⟨hi, ei⟩ := List.getElem?_eq_some_iff.mp hp
    obtain ⟨hj, ej⟩ := List.getElem?_eq_some_iff.mp hq
    have hi2 : i < (ws.map Prod.fst).length := by simpa using hi
    have hj2 : j < (ws.map Prod.fst).length := by simpa using hj
    rcases Nat.lt_trichotomy i j with q1 | q1 | q1
    · exact absurd (by rw [List.getElem_map, List.getElem_map, ei, ej]; exact he) (h i j hi2 hj2 q1)
    · exact q1
    · exact absurd (by rw [List.getElem_map, List.getElem_map, ei, ej]; exact he.symm) (h j i hj2 hi2 q1)
theorem aw_D_iff {A : Nat → Prop} {ws : va_W} : va_D A ws ↔ (ws.map Prod.fst).Nodup ∧ ∀ q ∈ ws, A q.1 := by
  unfold va_D
  rw [aw_nd]
  constructor
  · rintro ⟨h1, h2⟩
    refine ⟨h1, fun q hq => ?_⟩
    obtain ⟨k, hk⟩ := List.getElem?_of_mem hq
    exact h2 k q hk
  · rintro ⟨h1, h2⟩
    exact ⟨h1, fun k q hk => h2 q (List.mem_of_getElem? hk)⟩
theorem aw_P_perm {D : va_G} {cl : List vw_C} {ws ws' : va_W} {H : Heap} (hp : List.Perm ws ws') (h : va_P D cl ws H) : va_P D cl ws' H := aw_P_mem.mpr fun q hq => aw_P_mem.mp h q (hp.mem_iff.mpr hq)
theorem aw_D_perm {A : Nat → Prop} {ws ws' : va_W} (hp : List.Perm ws ws') (h : va_D A ws) : va_D A ws' := by
  obtain ⟨h1, h2⟩ := aw_D_iff.mp h
  exact aw_D_iff.mpr ⟨(hp.map Prod.fst).nodup h1, fun q hq => h2 q (hp.mem_iff.mpr hq)⟩
theorem bW.perm {G : aw_G} {A : Nat → Prop} {H0 H : Heap} {wb wb' : List va_W} {locs : List Loc} (hp : List.Perm wb.flatten wb'.flatten) (h : bW G A H0 wb H locs) : bW G A H0 wb' H locs := ⟨aw_P_perm hp h.1, aw_D_perm hp h.2.1, h.2.2⟩
theorem aw_A_iff {ws : va_W} {sz q : Nat} : va_A ws sz q ↔ (∃ x ∈ ws, x.1 = q) ∨ sz ≤ q := by
  unfold va_A
  constructor
  · rintro (⟨k, e, h⟩ | h)
    · exact Or.inl ⟨(q, e), List.mem_of_getElem? h, rfl⟩
    · exact Or.inr h
  · rintro (⟨x, hx, rfl⟩ | h)
    · obtain ⟨k, hk⟩ := List.getElem?_of_mem hx
      exact Or.inl ⟨k, x.2, hk⟩
    · exact Or.inr h
/-- taking a block out -/
theorem aw_take : ∀ (wb : List va_W) (i : Nat) (b : va_W), wb[i]? = some b → List.Perm wb.flatten (b ++ (wb.set i []).flatten)
  | [], i, b, h => by simp at h
  | x :: wb, 0, b, h => by
    simp only [List.getElem?_cons_zero, Option.some.injEq] at h
    subst h
    simp
  | x :: wb, i + 1, b, h => by
    simp only [List.getElem?_cons_succ] at h
    have ih := aw_take wb i b h
    simp only [List.flatten_cons, List.set_cons_succ]
    refine (List.Perm.append_left x ih).trans ?_
    rw [← List.append_assoc, ← List.append_assoc]
    exact List.Perm.append_right _ List.perm_append_comm
theorem aw_put : ∀ (wb : List va_W) (i : Nat) (b : va_W), i < wb.length → List.Perm (wb.set i b).flatten (b ++ (wb.set i []).flatten) := by
  intro wb i b h
  have h1 : (wb.set i b)[i]? = some b := by simp [h]
  have h2 := aw_take (wb.set i b) i b h1
  rwa [List.set_set] at h2
def aw_hole : List va_W → List Nat → List va_W
  | wb, [] => wb
  | wb, i :: is => aw_hole (wb.set i []) is
/-- the world behind a call: the callee's blocks in their places, new ones at the end -/
def aw_sA : List va_W → List Nat → List va_W → List va_W
  | wb, [], ex => wb ++ ex
  | wb, i :: is, [] => aw_sA (wb.set i []) is []
  | wb, i :: is, b :: bs => aw_sA (wb.set i b) is bs
theorem aw_hole_perm : ∀ (is : List Nat) (wb wc : List va_W), is.map (fun i => wb[i]?) = wc.map some → va_nd is = true → List.Perm wb.flatten (wc.flatten ++ (aw_hole wb is).flatten)
  | [], wb, wc, h, _ => by
    cases wc with
    | nil => simp [aw_hole]
    | cons x y => simp at h
  | i :: is, wb, wc, h, hn => by
    cases wc with
    | nil => simp at h
    | cons b wc =>
      simp only [List.map_cons, List.cons.injEq] at h
      simp only [va_nd, Bool.and_eq_true, decide_eq_true_eq] at hn
      have h2 : is.map (fun j => (wb.set i [])[j]?) = wc.map some := by
        rw [← h.2]
        apply List.map_congr_left
        intro j hj
        have hne : i ≠ j := fun e => hn.1 (e ▸ hj)
        simp [List.getElem?_set, hne]
      have ih := aw_hole_perm is (wb.set i []) wc h2 hn.2
      simp only [List.flatten_cons, aw_hole, List.append_assoc]
      exact (aw_take wb i b h.1).trans (List.Perm.append_left b ih)
theorem aw_hole_swap : ∀ (is : List Nat) (wb : List va_W) (i : Nat) (b : va_W), i ∉ is → aw_hole (wb.set i b) is = (aw_hole wb is).set i b
  | [], _, _, _, _ => rfl
  | j :: is, wb, i, b, h => by
    have h1 : i ≠ j := fun e => h (e ▸ List.mem_cons_self)
    have h2 : i ∉ is := fun e => h (List.mem_cons_of_mem _ e)
    simp only [aw_hole]
    rw [List.set_comm _ _ h1, aw_hole_swap is (wb.set j []) i b h2]
theorem aw_hole_len : ∀ (is : List Nat) (wb : List va_W), (aw_hole wb is).length = wb.length
  | [], _ => rfl
  | i :: is, wb => by rw [aw_hole, aw_hole_len is]; simp
theorem aw_sA_perm : ∀ (is : List Nat) (wb w1 : List va_W), (∀ i ∈ is, i < wb.length) → va_nd is = true → List.Perm (aw_sA wb is w1).flatten (w1.flatten ++ (aw_hole wb is).flatten)
  | [], wb, w1, _, _ => by
    simp only [aw_sA, aw_hole, List.flatten_append]
    exact List.perm_append_comm
  | i :: is, wb, [], h, hn => by
    simp only [va_nd, Bool.and_eq_true, decide_eq_true_eq] at hn
    simp only [aw_sA, aw_hole]
    exact aw_sA_perm is (wb.set i []) [] (fun j hj => by simpa using h j (List.mem_cons_of_mem _ hj)) hn.2
  | i :: is, wb, b :: w1, h, hn => by
    simp only [va_nd, Bool.and_eq_true, decide_eq_true_eq] at hn
    simp only [aw_sA, aw_hole]
    have h2 := aw_sA_perm is (wb.set i b) w1 (fun j hj => by simpa using h j (List.mem_cons_of_mem _ hj)) hn.2
    refine h2.trans ?_
    rw [aw_hole_swap is wb i b hn.1, aw_hole_swap is wb i [] hn.1]
    have hi : i < (aw_hole wb is).length := by rw [aw_hole_len]; exact h i List.mem_cons_self
    refine (List.Perm.append_left _ (aw_put (aw_hole wb is) i b hi)).trans ?_
    simp only [List.flatten_cons]
    rw [← List.append_assoc]
    exact List.Perm.append_right _ List.perm_append_comm
/-- the frame rule: what a callee did to its blocks, beside the rest -/
theorem aw_frame {D : va_G} {cl : List vw_C} {A : Nat → Prop} {wb wc w1 : List va_W} {H H1 : Heap} (hP : va_P D cl wb.flatten H) (hD : va_D A wb.flatten) (is : List Nat) (hC : is.map (fun i => wb[i]?) = wc.map some) (hn : va_nd is = true)
    (hk : ∀ q : Nat, q < H.size → ¬ va_A wc.flatten H.size q → H1[q]? = H[q]?) (hF : ∀ q, va_A wc.flatten H.size q → A q) (hP1 : va_P D cl w1.flatten H1) (hD1 : va_D (va_A wc.flatten H.size) w1.flatten) : va_P D cl (aw_sA wb is w1).flatten H1 ∧ va_D A (aw_sA wb is w1).flatten := by
  have hlt : ∀ i ∈ is, i < wb.length := by
    intro i hi
    have h1 : wb[i]? ∈ is.map (fun i => wb[i]?) := List.mem_map.mpr ⟨i, hi, rfl⟩
    rw [hC] at h1
    obtain ⟨b, -, hb⟩ := List.mem_map.mp h1
    exact (List.getElem?_eq_some_iff.mp hb.symm).1
  have hp := aw_hole_perm is wb wc hC hn
  have hs := aw_sA_perm is wb w1 hlt hn
  have hP2 := aw_P_perm hp hP
  have hD2 := aw_D_iff.mp (aw_D_perm hp hD)
  have hD3 := aw_D_iff.mp hD1
  rw [List.map_append, List.nodup_append] at hD2
  have hout : ∀ x ∈ (aw_hole wb is).flatten, ¬ va_A wc.flatten H.size x.1 := by
    intro x hx ha
    rcases aw_A_iff.mp ha with ⟨y, hy, e⟩ | hge
    · exact hD2.1.2.2 y.1 (List.mem_map.mpr ⟨y, hy, rfl⟩) x.1 (List.mem_map.mpr ⟨x, hx, rfl⟩) e
    · have := (aw_P_mem.mp hP2 x (List.mem_append_right _ hx)).lt
      omega
  refine ⟨aw_P_perm hs.symm (aw_P_mem.mpr ?_), aw_D_perm hs.symm (aw_D_iff.mpr ⟨?_, ?_⟩)⟩
  · intro x hx
    rcases List.mem_append.mp hx with h | h
    · exact aw_P_mem.mp hP1 x h
    · have hat := aw_P_mem.mp hP2 x (List.mem_append_right _ h)
      exact hat.kept (hk x.1 hat.lt (hout x h))
  · rw [List.map_append, List.nodup_append]
    refine ⟨hD3.1, hD2.1.2.1, ?_⟩
    intro a ha b hb e
    obtain ⟨x, hx, rfl⟩ := List.mem_map.mp ha
    obtain ⟨y, hy, rfl⟩ := List.mem_map.mp hb
    exact hout y hy (e ▸ hD3.2 x hx)
  · intro x hx
    rcases List.mem_append.mp hx with h | h
    · exact hF _ (hD3.2 x h)
    · exact hD2.2 x (List.mem_append_right _ h)
