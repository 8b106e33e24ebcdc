/-! rows that make cells -/
section AL
variable {p : Program} {l : Launch} {e : Env} {R : Room} {s : State} {m : MethodId} {args : Array Value} {below : List Frame} {meth : Method} {c : Code} {H : Heap} {locs : List Loc} {cells slots : Nat} {Q : State → Prop}
variable {G : aw_G} {A : Nat → Prop} {H0 : Heap} {wb : List va_W} {cc : ByteArray} {nL : Nat} {Ts : List Cond} {own : String} {pc : Nat} {ls : Array Slot} {rest : List Value}
theorem aw_fl {wb : List va_W} {x : Nat × va_E} : wb.flatten ++ [x] = (wb ++ [[x]]).flatten := by simp
theorem aw_new (S : CallFix p m c cc nL s args Ts own) (hE : aw_E G s) (hw : bW G A H0 wb H locs) (hA : ∀ q, H0.size ≤ q → A q) {C : String} {T : u_T} {N ci index : Nat} {fs : List Value} (hc : vwCl[ci]? = some (C, T, N)) (hin : ∀ w ∈ u_ws C T N, w ∈ Ts) (ty0 : Nat → FieldType) (hty : ∀ k, k < N → parseFieldDescriptor (T k).2.2.1 = some (ty0 k)) (hcl : (Cond.classLink own index C).before args s = true) (hinst : (Cond.instantiable C N).before args s = true) (hini : (Cond.initialized C).before args s = true) (hfs : ∀ j, j < N → defaultValue (ty0 j) = vp_V fs j) (hcells : cells + 1 ≤ R.cells) (hslots : slots + N ≤ R.slots) (hdg : decode cc pc = .ok (.new index, 3))
    (kk : ∀ (q : Nat) (H1 : Heap), bW G A H0 (wb ++ [[(q, .inr (ci, fs))]]) H1 locs → W p l e R s m args below meth c H1 locs (cells + 1) (slots + N) Q (F0 m (pc + 3) ls (.ref q :: rest))) : W p l e R s m args below meth c H locs cells slots Q (F0 m pc ls rest) := by
  refine va_new (D := G.1) S.1 S.2.1 S.2.2.2.2 hin ty0 hty S.2.2.2.1 hcl hinst hini hE.1 hw.1 hw.2.1 hw.2.2 hA hc hfs hcells hslots hdg (fun q H1 hP hD hS => ?_)
  rw [aw_fl] at hP hD
  exact kk q H1 ⟨hP, hD, hS⟩
theorem aw_newi (S : CallFix p m c cc nL s args Ts own) (hE : aw_E G s) (hw : bW G A H0 wb H locs) (hA : ∀ q, H0.size ≤ q → A q) {n : Int32} {N : Nat} (harr : (Cond.arrayClass .int).before args s = true) (hn : ¬ n < 0) (hN : n.toNatClampNeg = N) (hb : N * 4 ≤ 536870912) (hcells : cells + 1 ≤ R.cells) (hslots : slots + N ≤ R.slots) (hdg : decode cc pc = .ok (.newarray .int, 2))
    (kk : ∀ (q : Nat) (H1 : Heap), bW G A H0 (wb ++ [[(q, .inl (gI G, N, .inl (fun _ => 0)))]]) H1 locs → W p l e R s m args below meth c H1 locs (cells + 1) (slots + N) Q (F0 m (pc + 2) ls (.ref q :: rest))) : W p l e R s m args below meth c H locs cells slots Q (F0 m pc ls (.int n :: rest)) := by
  refine va_newa (D := G.1) (atype := .int) (ty := .int) S.1 S.2.1 harr rfl hE.1 hw.1 hw.2.1 hw.2.2 hA (a0 := (N, .inl (fun _ => 0))) (fun _ => rfl) hn hN hb hcells hslots hdg (fun q cA H1 hK hP hD hS => ?_)
  have h1 : s.vm.findClass ("[" ++ (FieldType.int).toString) = some cA := (hK.2 5 (cA, .int) rfl).2
  have h2 : s.vm.findClass ("[" ++ (FieldType.int).toString) = some (gI G) := (hE.1.2 0 (gI G, .int) rfl).2
  have e : cA = gI G := Option.some.inj (h1.symm.trans h2)
  subst e
  rw [aw_fl] at hP hD
  exact kk q H1 ⟨hP, hD, hS⟩
theorem aw_newz (S : CallFix p m c cc nL s args Ts own) (hE : aw_E G s) (hw : bW G A H0 wb H locs) (hA : ∀ q, H0.size ≤ q → A q) {n : Int32} {N : Nat} (harr : (Cond.arrayClass .boolean).before args s = true) (hn : ¬ n < 0) (hN : n.toNatClampNeg = N) (hb : N * 1 ≤ 536870912) (hcells : cells + 1 ≤ R.cells) (hslots : slots + N ≤ R.slots) (hdg : decode cc pc = .ok (.newarray .boolean, 2))
    (kk : ∀ (q : Nat) (H1 : Heap), bW G A H0 (wb ++ [[(q, .inl (gZ G, N, .inl (fun _ => 0)))]]) H1 locs → W p l e R s m args below meth c H1 locs (cells + 1) (slots + N) Q (F0 m (pc + 2) ls (.ref q :: rest))) : W p l e R s m args below meth c H locs cells slots Q (F0 m pc ls (.int n :: rest)) := by
  refine va_newa (D := G.1) (atype := .boolean) (ty := .boolean) S.1 S.2.1 harr rfl hE.1 hw.1 hw.2.1 hw.2.2 hA (a0 := (N, .inl (fun _ => 0))) (fun _ => rfl) hn hN hb hcells hslots hdg (fun q cA H1 hK hP hD hS => ?_)
  have h1 : s.vm.findClass ("[" ++ (FieldType.boolean).toString) = some cA := (hK.2 5 (cA, .boolean) rfl).2
  have h2 : s.vm.findClass ("[" ++ (FieldType.boolean).toString) = some (gZ G) := (hE.1.2 1 (gZ G, .boolean) rfl).2
  have e : cA = gZ G := Option.some.inj (h1.symm.trans h2)
  subst e
  rw [aw_fl] at hP hD
  exact kk q H1 ⟨hP, hD, hS⟩
theorem aw_newq_H (S : CallFix p m c cc nL s args Ts own) (hE : aw_E G s) (hw : bW G A H0 wb H locs) (hA : ∀ q, H0.size ≤ q → A q) {index : Nat} {n : Int32} {N : Nat} (hcl : (Cond.classLink own index "AwakeTurns$Sheet").before args s = true) (hn : ¬ n < 0) (hN : n.toNatClampNeg = N) (hb : N * 4 ≤ 536870912) (hcells : cells + 1 ≤ R.cells) (hslots : slots + N ≤ R.slots) (hdg : decode cc pc = .ok (.anewarray index, 3))
    (kk : ∀ (q : Nat) (H1 : Heap), bW G A H0 (wb ++ [[(q, .inl (gH G, N, .inr (.inr (.inr (.inr (fun _ => none))))))]]) H1 locs → W p l e R s m args below meth c H1 locs (cells + 1) (slots + N) Q (F0 m (pc + 3) ls (.ref q :: rest))) : W p l e R s m args below meth c H locs cells slots Q (F0 m pc ls (.int n :: rest)) := by
  refine va_newq (D := G.1) S.1 S.2.1 S.2.2.2.1 hcl hE.2.2.2.1.1 hE.1 hw.1 hw.2.1 hw.2.2 hA hn hN hb hcells hslots hdg (fun q cA H1 hK hP hD hS => ?_)
  obtain ⟨kA, cm, h11, h12, h13, h1⟩ := (hK.2 5 (cA, .object "AwakeTurns$Sheet") rfl).2
  obtain ⟨kA2, cm2, h21, h22, h23, h2⟩ := (hE.1.2 2 (gH G, .object "AwakeTurns$Sheet") rfl).2
  have e : cA = gH G := Option.some.inj (h1.symm.trans h2)
  subst e
  rw [aw_fl] at hP hD
  exact kk q H1 ⟨hP, hD, hS⟩
theorem aw_newq_L (S : CallFix p m c cc nL s args Ts own) (hE : aw_E G s) (hw : bW G A H0 wb H locs) (hA : ∀ q, H0.size ≤ q → A q) {index : Nat} {n : Int32} {N : Nat} (hcl : (Cond.classLink own index "AwakeTurns$Sleeper").before args s = true) (hn : ¬ n < 0) (hN : n.toNatClampNeg = N) (hb : N * 4 ≤ 536870912) (hcells : cells + 1 ≤ R.cells) (hslots : slots + N ≤ R.slots) (hdg : decode cc pc = .ok (.anewarray index, 3))
    (kk : ∀ (q : Nat) (H1 : Heap), bW G A H0 (wb ++ [[(q, .inl (gL G, N, .inr (.inr (.inr (.inr (fun _ => none))))))]]) H1 locs → W p l e R s m args below meth c H1 locs (cells + 1) (slots + N) Q (F0 m (pc + 3) ls (.ref q :: rest))) : W p l e R s m args below meth c H locs cells slots Q (F0 m pc ls (.int n :: rest)) := by
  refine va_newq (D := G.1) S.1 S.2.1 S.2.2.2.1 hcl hE.2.2.2.1.2.1 hE.1 hw.1 hw.2.1 hw.2.2 hA hn hN hb hcells hslots hdg (fun q cA H1 hK hP hD hS => ?_)
  obtain ⟨kA, cm, h11, h12, h13, h1⟩ := (hK.2 5 (cA, .object "AwakeTurns$Sleeper") rfl).2
  obtain ⟨kA2, cm2, h21, h22, h23, h2⟩ := (hE.1.2 3 (gL G, .object "AwakeTurns$Sleeper") rfl).2
  have e : cA = gL G := Option.some.inj (h1.symm.trans h2)
  subst e
  rw [aw_fl] at hP hD
  exact kk q H1 ⟨hP, hD, hS⟩
/-- a sleeper into the array of sleepers: any of the three kinds -/
theorem aw_astq_L (S : CallFix p m c cc nL s args Ts own) (hE : aw_E G s) (hw : bW G A H0 wb H locs) (i j : Nat) {a n k v ci : Nat} {f : Nat → Option Nat} {vs : List Value} (hi : wb[i]? = some [(a, .inl (gL G, n, .inr (.inr (.inr (.inr f)))))]) (hj : wb[j]? = some [(v, .inr (ci, vs))]) (hci : ci = 8 ∨ ci = 1 ∨ ci = 5) (hk : k < n) (hn : n < 2 ^ 31) (hdg : decode cc pc = .ok (.aastore, 1))
    (kk : ∀ (H1 : Heap) (locs1 : List Loc), bW G A H0 (wb.set i [(a, .inl (gL G, n, .inr (.inr (.inr (.inr (va_up f k (some v)))))))]) H1 locs1 → W p l e R s m args below meth c H1 locs1 cells slots Q (F0 m (pc + 1) ls rest)) : W p l e R s m args below meth c H locs cells slots Q (F0 m pc ls (.ref v :: .int (nI k) :: .ref a :: rest)) := by
  obtain ⟨q0, h1, h2⟩ := aw_pos wb i _ hi
  obtain ⟨q1, h3, -⟩ := aw_pos wb j _ hj
  obtain ⟨-, -, -, -, ⟨-, -, -, -, c5, c6⟩, -⟩ := id hE
  rcases hci with rfl | rfl | rfl
  · refine va_astq (D := G.1) (r := (RX8, TX8, 3)) S.1 S.2.1 hE.1 hw.1 hw.2.1 hw.2.2 q0 3 q1 8 h1 rfl h3 rfl (vp_in_nI hk hn) hdg (fun H1 locs1 hP hD hS => ?_)
    rw [h2, nI_clamp (by omega)] at hP hD
    exact kk H1 locs1 ⟨hP, hD, hS⟩
  · refine va_astqO (D := G.1) (r := (RX1, TX1, 3)) S.1 S.2.1 hE.1 hw.1 hw.2.1 hw.2.2 q0 3 q1 1 h1 rfl c5 h3 rfl (vp_in_nI hk hn) hdg (fun H1 locs1 hP hD hS => ?_)
    rw [h2, nI_clamp (by omega)] at hP hD
    exact kk H1 locs1 ⟨hP, hD, hS⟩
  · refine va_astqO (D := G.1) (r := (RX5, TX5, 3)) S.1 S.2.1 hE.1 hw.1 hw.2.1 hw.2.2 q0 3 q1 5 h1 rfl c6 h3 rfl (vp_in_nI hk hn) hdg (fun H1 locs1 hP hD hS => ?_)
    rw [h2, nI_clamp (by omega)] at hP hD
    exact kk H1 locs1 ⟨hP, hD, hS⟩
theorem aw_astq_H (S : CallFix p m c cc nL s args Ts own) (hE : aw_E G s) (hw : bW G A H0 wb H locs) (i j : Nat) {a n k v : Nat} {f : Nat → Option Nat} {vs : List Value} (hi : wb[i]? = some [(a, .inl (gH G, n, .inr (.inr (.inr (.inr f)))))]) (hj : wb[j]? = some [(v, .inr (7, vs))]) (hk : k < n) (hn : n < 2 ^ 31) (hdg : decode cc pc = .ok (.aastore, 1))
    (kk : ∀ (H1 : Heap) (locs1 : List Loc), bW G A H0 (wb.set i [(a, .inl (gH G, n, .inr (.inr (.inr (.inr (va_up f k (some v)))))))]) H1 locs1 → W p l e R s m args below meth c H1 locs1 cells slots Q (F0 m (pc + 1) ls rest)) : W p l e R s m args below meth c H locs cells slots Q (F0 m pc ls (.ref v :: .int (nI k) :: .ref a :: rest)) := by
  obtain ⟨q0, h1, h2⟩ := aw_pos wb i _ hi
  obtain ⟨q1, h3, -⟩ := aw_pos wb j _ hj
  refine va_astq (D := G.1) (r := (RX7, TX7, 3)) S.1 S.2.1 hE.1 hw.1 hw.2.1 hw.2.2 q0 2 q1 7 h1 rfl h3 rfl (vp_in_nI hk hn) hdg (fun H1 locs1 hP hD hS => ?_)
  rw [h2, nI_clamp (by omega)] at hP hD
  exact kk H1 locs1 ⟨hP, hD, hS⟩
/-- an array of references, written otherwise within its length -/
theorem aw_qarr {i : Nat} {a n : Nat} {ci : ClassId} {f : Nat → Option Nat} (hw : bW G A H0 wb H locs) (hi : wb[i]? = some [(a, .inl (ci, n, .inr (.inr (.inr (.inr f)))))]) (g : Nat → Option Nat) (h : ∀ j, j < n → f j = g j) : bW G A H0 (wb.set i [(a, .inl (ci, n, .inr (.inr (.inr (.inr g)))))]) H locs := by
  have hl : i < wb.length := (List.getElem?_eq_some_iff.mp hi).1
  have hp := aw_take wb i _ hi
  have hq := aw_put wb i [(a, .inl (ci, n, .inr (.inr (.inr (.inr g)))))] hl
  have h1 := aw_P_mem.mp (aw_P_perm hp hw.1)
  have h2 := aw_D_iff.mp (aw_D_perm hp hw.2.1)
  have hcg : vp_cell ci (n, .inr (.inr (.inr (.inr f)))) = vp_cell ci (n, .inr (.inr (.inr (.inr g)))) := by
    rw [vp_cell_q, vp_cell_q]
    unfold arrV
    congr 1
    apply Array.ext
    · simp
    · intro i h1 h2
      simp only [Array.getElem_ofFn]
      rw [h i (by simpa using h1)]
  refine ⟨aw_P_perm hq.symm (aw_P_mem.mpr ?_), aw_D_perm hq.symm (aw_D_iff.mpr ⟨h2.1, ?_⟩), hw.2.2⟩
  · intro x hx
    rcases List.mem_append.mp hx with h3 | h3
    · rw [List.mem_singleton] at h3
      subst h3
      have := h1 (a, .inl (ci, n, .inr (.inr (.inr (.inr f))))) (List.mem_append_left _ List.mem_cons_self)
      show H[a]? = some (vp_cell ci (n, .inr (.inr (.inr (.inr g)))))
      rw [← hcg]
      exact this
    · exact h1 x (List.mem_append_right _ h3)
  · intro x hx
    rcases List.mem_append.mp hx with h3 | h3
    · rw [List.mem_singleton] at h3
      subst h3
      exact h2.2 (a, .inl (ci, n, .inr (.inr (.inr (.inr f))))) (List.mem_append_left _ List.mem_cons_self)
    · exact h2.2 x (List.mem_append_right _ h3)
/-- blocks may be dropped -/
theorem bW.drop {w2 : List va_W} (hw : bW G A H0 (wb ++ w2) H locs) : bW G A H0 wb H locs := by
  have h1 := aw_P_mem.mp hw.1
  have h2 := aw_D_iff.mp hw.2.1
  rw [List.flatten_append] at h1 h2
  rw [List.map_append, List.nodup_append] at h2
  exact ⟨aw_P_mem.mpr fun q hq => h1 q (List.mem_append_left _ hq), aw_D_iff.mpr ⟨h2.1.1, fun q hq => h2.2 q (List.mem_append_left _ hq)⟩, hw.2.2⟩
end AL
section CW
variable {p : Program} {l : Launch} {e : Env} {R : Room} {s : State} {m : MethodId} {args : Array Value} {below : List Frame} {meth : Method} {c : Code} {H : Heap} {locs : List Loc} {cells slots : Nat} {Q : State → Prop}
variable {G : aw_G} {A : Nat → Prop} {H0 : Heap} {wb wc : List va_W} {cc : ByteArray} {nL : Nat} {Ts : List Cond} {own : String} {pc : Nat} {ls : Array Slot} {rest st0 : List Value} {Qr : Option Value → List va_W → Prop}
variable {y : MethodName} {ws ws' : List Cond} {rm : Room} {As : List Value} {bytes : ByteArray} {maxL index n : Nat} {ret : Option FieldType} {C : String} {b : Addr}
theorem aw_callW {owner : String} {x : MethodName} (S : CallFix p m c cc nL s args Ts own) (hE : aw_E G s) (hM : CT l G y ws rm (.ref b :: As) wc Qr) (hT : GoodIn Ts (va_wsU own index C owner x y ws)) (hws : ws = Cond.code y bytes maxL ret :: ws') (hyx : y = ⟨owner, x.name, x.desc⟩) (hd : owner ≠ "java/lang/invoke/MethodHandle" ∧ owner ≠ "java/lang/invoke/VarHandle" ∧ (parseMethodDescriptor x.desc).map (fun d => d.parameters.length) = some n) (hAn : As.length = n) (hR : rm.frames + 1 ≤ R.frames ∧ 8 + (maxL + 11) + rm.locals ≤ R.locals) (hf : cells + rm.cells ≤ R.cells ∧ slots + rm.slots ≤ R.slots)
    (hw : bW G A H0 wb H locs) (hA : ∀ q, H0.size ≤ q → A q) (hl : ls.size = nL) (is : List Nat) (hC : is.map (fun i => wb[i]?) = wc.map some) (hn : va_nd is = true) (hrec : ∃ cell : Cell, H[b]? = some cell ∧ cell.vm.isStatics = false ∧ s.vm.findClass C = some cell.cls) (hst : st0 = As.reverse ++ .ref b :: rest) (hrm : (rest.map fun v => v.category).sum ≤ 8) (hdg : decode cc pc = .ok (.invokevirtual index, 3))
    (kk : ∀ (v : Option Value) (w1 : List va_W) (H1 : Heap) (locs1 : List Loc), Qr v w1 → bW G A H0 (aw_sA wb is w1) H1 locs1 → W p l e R s m args below meth c H1 locs1 (cells + rm.cells) (slots + rm.slots) Q (F0 m (pc + 3) ls (v.toList ++ rest))) : W p l e R s m args below meth c H locs cells slots Q (F0 m pc ls st0) :=
  aw_go (a := (Value.ref b :: As).toArray) (va_runU (Pc := aw_Pc G (.ref b :: As) wc H.size) S (hM H.size) (va_cwU n S.2.2.2.2 hT hws rfl rfl hyx hd hR) ⟨aw_blind, hrec, aw_pre hE hw is hC hn⟩ rfl hAn hl hst (lv_room hrm) hdg hf) hw hA is hC hn kk
end CW
