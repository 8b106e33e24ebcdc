/-! calls over block worlds -/
section CB
variable {p : Program} {l : Launch} {e : Env} {R : Room} {s : State} {m : MethodId} {args : Array Value} {below : List Frame} {meth : Method} {c : Code} {H : Heap} {locs : List Loc} {cells slots : Nat} {Q : State → Prop}
variable {G : aw_G} {A : Nat → Prop} {H0 : Heap} {wb wc : List va_W} {cc : ByteArray} {nL : Nat} {Ts : List Cond} {own : String} {pc : Nat} {ls : Array Slot} {rest st0 : List Value} {Qr : Option Value → List va_W → Prop}
variable {y : MethodName} {ws ws' : List Cond} {rm : Room} {As : List Value} {bytes : ByteArray} {maxL index n : Nat} {ret : Option FieldType} {C : String} {b : Addr}
abbrev aw_Pc (G : aw_G) (av : List Value) (wc : List va_W) (sz : Nat) : Array Value → State → Prop := va_Pc av (fun U => U.heap.size = sz ∧ va_P G.1 vwCl wc.flatten U.heap ∧ aw_E G U ∧ va_D (fun _ => True) wc.flatten)
theorem aw_blind {av : List Value} {sz : Nat} : FrameBlind (aw_Pc G av wc sz) := fun a U g mk q => by
  obtain ⟨q0, q1, qP, qE, qD⟩ := q
  exact ⟨q0, q1, qP, qE.calling, qD⟩
theorem aw_sub (hw : bW G A H0 wb H locs) (is : List Nat) (hC : is.map (fun i => wb[i]?) = wc.map some) (hn : va_nd is = true) : va_P G.1 vwCl wc.flatten H ∧ va_D A wc.flatten := by
  have hp := aw_hole_perm is wb wc hC hn
  have h1 := aw_P_mem.mp (aw_P_perm hp hw.1)
  have h2 := aw_D_iff.mp (aw_D_perm hp hw.2.1)
  rw [List.map_append, List.nodup_append] at h2
  exact ⟨aw_P_mem.mpr fun q hq => h1 q (List.mem_append_left _ hq), aw_D_iff.mpr ⟨h2.1.1, fun q hq => h2.2 q (List.mem_append_left _ hq)⟩⟩
theorem aw_pre (hE : aw_E G s) (hw : bW G A H0 wb H locs) (is : List Nat) (hC : is.map (fun i => wb[i]?) = wc.map some) (hn : va_nd is = true) {av : List Value} : ∀ U : State, U.heap = H → s.WarmedH U.vm → aw_Pc G av wc H.size av.toArray U := by
  intro U hU hW
  obtain ⟨hP, hD⟩ := aw_sub hw is hC hn
  exact ⟨rfl, by rw [hU], by rw [hU]; exact hP, hE.warm hW, aw_D_iff.mpr ⟨(aw_D_iff.mp hD).1, fun _ _ => trivial⟩⟩
/-- behind a call -/
theorem aw_go {a : Array Value} {mc ms : Nat} (hr : va_Run p l e R s m args below meth c H locs cells slots mc ms (F0 m pc ls st0) rest ((fun _ st oc t => (∃ (v : Option Value) (w1 : List va_W), oc = .returned v ∧ Qr v w1 ∧ va_P G.1 vwCl w1.flatten t.heap ∧ va_D (va_A wc.flatten H.size) w1.flatten) ∧ va_F (va_A wc.flatten H.size) st t : Array Value → State → Outcome → State → Prop) a) (va_A wc.flatten H.size))
    (hw : bW G A H0 wb H locs) (hA : ∀ q, H0.size ≤ q → A q) (is : List Nat) (hC : is.map (fun i => wb[i]?) = wc.map some) (hn : va_nd is = true)
    (kk : ∀ (v : Option Value) (w1 : List va_W) (H1 : Heap) (locs1 : List Loc), Qr v w1 → bW G A H0 (aw_sA wb is w1) H1 locs1 → W p l e R s m args below meth c H1 locs1 (cells + mc) (slots + ms) Q (F0 m (pc + 3) ls (v.toList ++ rest))) : W p l e R s m args below meth c H locs cells slots Q (F0 m pc ls st0) := by
  obtain ⟨hP, hD, hS⟩ := hw
  have hF : ∀ q, va_A wc.flatten H.size q → A q := by
    intro q hq
    rcases aw_A_iff.mp hq with ⟨x, hx, rfl⟩ | h
    · have hp := aw_hole_perm is wb wc hC hn
      exact (aw_D_iff.mp hD).2 x (hp.mem_iff.mpr (List.mem_append_left _ hx))
    · exact hA q (Nat.le_trans hS.1 h)
  intro T hT X
  obtain ⟨v, st₀, t, T', L, h0, X', hL, e1, e2, ⟨⟨v1, w1, hv, hq, hP1, hD1⟩, hz, hk⟩, st⟩ := hr T hT X
  cases hv
  rw [h0] at hz hk
  have hk' : ∀ q : Nat, q < H.size → ¬ va_A wc.flatten H.size q → T'.heap[q]? = H[q]? := fun q h1 h2 => by rw [e1]; exact hk q h1 h2
  have hP1' : va_P G.1 vwCl w1.flatten T'.heap := by rw [e1]; exact hP1
  obtain ⟨hP2, hD2⟩ := aw_frame hP hD is hC hn hk' hF hP1' hD1
  have hz' : H.size ≤ T'.heap.size := by rw [e1]; exact hz
  obtain ⟨t2, a1, b1⟩ := kk v w1 T'.heap (locs ++ L) hq ⟨hP2, hD2, ⟨Nat.le_trans hS.1 hz', fun q h1 h2 => by rw [hk' q (Nat.lt_of_lt_of_le h1 hS.1) (fun z => h2 (hF q z))]; exact hS.2.1 q h1 h2, fun q hq => by
      rcases List.mem_append.mp hq with h | h
      · exact hS.2.2 q h
      · exact hF _ (hL q h)⟩⟩ T' rfl X'
  exact ⟨t2, st t2 a1, b1⟩
theorem aw_recv {ci i : Nat} {fs : List Value} {q : vw_C} (hE : aw_E G s) (hw : bW G A H0 wb H locs) (hi : wb[i]? = some [(b, .inr (ci, fs))]) (hc : vwCl[ci]? = some q) (hq : q.1 = C) : ∃ cell : Cell, H[b]? = some cell ∧ cell.vm.isStatics = false ∧ s.vm.findClass C = some cell.cls := by
  obtain ⟨q0, h1, -⟩ := aw_pos wb i _ hi
  subst hq
  exact va_recv hE.1 hw.1 hc h1
theorem aw_callV (S : CallFix p m c cc nL s args Ts own) (hE : aw_E G s) (hM : CT l G y ws rm (.ref b :: As) wc Qr) (hT : GoodIn Ts (wsV own index C y ws)) (hws : ws = Cond.code y bytes maxL ret :: ws') (hd : y.cls = C ∧ y.cls ≠ "java/lang/invoke/MethodHandle" ∧ y.cls ≠ "java/lang/invoke/VarHandle" ∧ (parseMethodDescriptor y.desc).map (fun d => d.parameters.length) = some n) (hAn : As.length = n) (hR : rm.frames + 1 ≤ R.frames ∧ 8 + (maxL + 11) + rm.locals ≤ R.locals) (hf : cells + rm.cells ≤ R.cells ∧ slots + rm.slots ≤ R.slots)
    (hw : bW G A H0 wb H locs) (hA : ∀ q, H0.size ≤ q → A q) (hl : ls.size = nL) (is : List Nat) (hC : is.map (fun i => wb[i]?) = wc.map some) (hn : va_nd is = true) (hrec : ∃ cell : Cell, H[b]? = some cell ∧ cell.vm.isStatics = false ∧ s.vm.findClass C = some cell.cls) (hst : st0 = As.reverse ++ .ref b :: rest) (hrm : (rest.map fun v => v.category).sum ≤ 8) (hdg : decode cc pc = .ok (.invokevirtual index, 3))
    (kk : ∀ (v : Option Value) (w1 : List va_W) (H1 : Heap) (locs1 : List Loc), Qr v w1 → bW G A H0 (aw_sA wb is w1) H1 locs1 → W p l e R s m args below meth c H1 locs1 (cells + rm.cells) (slots + rm.slots) Q (F0 m (pc + 3) ls (v.toList ++ rest))) : W p l e R s m args below meth c H locs cells slots Q (F0 m pc ls st0) :=
  aw_go (a := (Value.ref b :: As).toArray) (va_runV (Pc := aw_Pc G (.ref b :: As) wc H.size) S (hM H.size) (cwV n S.2.2.2.2 hT hws rfl rfl hd hR) ⟨aw_blind, hrec, aw_pre hE hw is hC hn⟩ rfl hAn hl hst (lv_room hrm) hdg hf) hw hA is hC hn kk
theorem aw_callU {owner : String} {x : MethodName} {b0 : ByteArray} {m0 : Nat} {r0 : Option FieldType} (S : CallFix p m c cc nL s args Ts own) (hE : aw_E G s) (hM : CT l G y ws rm (.ref b :: As) wc Qr) (hT : GoodIn Ts (va_wsO own index C owner x y ws)) (hws : ws = Cond.code y bytes maxL ret :: ws') (h0 : Cond.code ⟨owner, x.name, x.desc⟩ b0 m0 r0 ∈ Ts) (hd : owner ≠ "java/lang/invoke/MethodHandle" ∧ owner ≠ "java/lang/invoke/VarHandle" ∧ (parseMethodDescriptor x.desc).map (fun d => d.parameters.length) = some n) (hAn : As.length = n) (hR : rm.frames + 1 ≤ R.frames ∧ 8 + (maxL + 11) + rm.locals ≤ R.locals) (hf : cells + rm.cells ≤ R.cells ∧ slots + rm.slots ≤ R.slots)
    (hw : bW G A H0 wb H locs) (hA : ∀ q, H0.size ≤ q → A q) (hl : ls.size = nL) (is : List Nat) (hC : is.map (fun i => wb[i]?) = wc.map some) (hn : va_nd is = true) (hrec : ∃ cell : Cell, H[b]? = some cell ∧ cell.vm.isStatics = false ∧ s.vm.findClass C = some cell.cls) (hst : st0 = As.reverse ++ .ref b :: rest) (hrm : (rest.map fun v => v.category).sum ≤ 8) (hdg : decode cc pc = .ok (.invokevirtual index, 3))
    (kk : ∀ (v : Option Value) (w1 : List va_W) (H1 : Heap) (locs1 : List Loc), Qr v w1 → bW G A H0 (aw_sA wb is w1) H1 locs1 → W p l e R s m args below meth c H1 locs1 (cells + rm.cells) (slots + rm.slots) Q (F0 m (pc + 3) ls (v.toList ++ rest))) : W p l e R s m args below meth c H locs cells slots Q (F0 m pc ls st0) :=
  aw_go (a := (Value.ref b :: As).toArray) (va_runU (Pc := aw_Pc G (.ref b :: As) wc H.size) S (hM H.size) (va_cwO n S.2.2.2.2 hT hws rfl rfl h0 hd hR) ⟨aw_blind, hrec, aw_pre hE hw is hC hn⟩ rfl hAn hl hst (lv_room hrm) hdg hf) hw hA is hC hn kk
theorem aw_callSU {cC : ClassId} (S : CallFix p m c cc nL s args Ts own) (hE : aw_E G s) (hat : ClassAt s C cC) (hM : CT l G y ws rm (.ref b :: As) wc Qr) (hT : GoodIn Ts (va_wsSU own index y ws)) (hws : ws = Cond.code y bytes maxL ret :: ws') (hd : y.name ≠ "<init>" ∧ (parseMethodDescriptor y.desc).map (fun d => d.parameters.length) = some n) (hAn : As.length = n) (hR : rm.frames + 1 ≤ R.frames ∧ 8 + (maxL + 11) + rm.locals ≤ R.locals) (hf : cells + rm.cells ≤ R.cells ∧ slots + rm.slots ≤ R.slots)
    (hw : bW G A H0 wb H locs) (hA : ∀ q, H0.size ≤ q → A q) (hl : ls.size = nL) (is : List Nat) (hC : is.map (fun i => wb[i]?) = wc.map some) (hn : va_nd is = true) (hrec : ∃ cell : Cell, H[b]? = some cell ∧ cell.vm.isStatics = false ∧ s.vm.findClass C = some cell.cls) (hst : st0 = As.reverse ++ .ref b :: rest) (hrm : (rest.map fun v => v.category).sum ≤ 8) (hdg : decode cc pc = .ok (.invokespecial index, 3))
    (kk : ∀ (v : Option Value) (w1 : List va_W) (H1 : Heap) (locs1 : List Loc), Qr v w1 → bW G A H0 (aw_sA wb is w1) H1 locs1 → W p l e R s m args below meth c H1 locs1 (cells + rm.cells) (slots + rm.slots) Q (F0 m (pc + 3) ls (v.toList ++ rest))) : W p l e R s m args below meth c H locs cells slots Q (F0 m pc ls st0) :=
  aw_go (a := (Value.ref b :: As).toArray) (va_runSU (Pc := aw_Pc G (.ref b :: As) wc H.size) hat S (hM H.size) (va_cwSU n S.2.2.2.2 hT hws rfl rfl hd hR) ⟨aw_blind, hrec, aw_pre hE hw is hC hn⟩ rfl hAn hl hst (lv_room hrm) hdg hf) hw hA is hC hn kk
theorem aw_callS (S : CallFix p m c cc nL s args Ts own) (hE : aw_E G s) (hM : CT l G y ws rm As wc Qr) (hT : GoodIn Ts (va_wsS own index y ws)) (hws : ws = Cond.code y bytes maxL ret :: ws') (hd : y.cls ≠ "java/lang/invoke/MethodHandle" ∧ y.cls ≠ "java/lang/invoke/VarHandle" ∧ (parseMethodDescriptor y.desc).map (fun d => d.parameters.length) = some n) (hAn : As.length = n) (hR : rm.frames + 1 ≤ R.frames ∧ 8 + (maxL + 11) + rm.locals ≤ R.locals) (hf : cells + rm.cells ≤ R.cells ∧ slots + rm.slots ≤ R.slots)
    (hw : bW G A H0 wb H locs) (hA : ∀ q, H0.size ≤ q → A q) (hl : ls.size = nL) (is : List Nat) (hC : is.map (fun i => wb[i]?) = wc.map some) (hn : va_nd is = true) (hst : st0 = As.reverse ++ rest) (hrm : (rest.map fun v => v.category).sum ≤ 8) (hdg : decode cc pc = .ok (.invokestatic index, 3))
    (kk : ∀ (v : Option Value) (w1 : List va_W) (H1 : Heap) (locs1 : List Loc), Qr v w1 → bW G A H0 (aw_sA wb is w1) H1 locs1 → W p l e R s m args below meth c H1 locs1 (cells + rm.cells) (slots + rm.slots) Q (F0 m (pc + 3) ls (v.toList ++ rest))) : W p l e R s m args below meth c H locs cells slots Q (F0 m pc ls st0) :=
  aw_go (a := As.toArray) (va_runS (Pc := aw_Pc G As wc H.size) S (hM H.size) (va_cwS n S.2.2.2.2 hT hws rfl rfl hd hR) ⟨aw_blind, aw_pre hE hw is hC hn⟩ rfl hAn hl hst (lv_room hrm) hdg hf) hw hA is hC hn kk
theorem aw_callSN {host : String} (S : CallFix p m c cc nL s args Ts own) (hE : aw_E G s) (hM : CT l G y ws rm As wc Qr) (hG : GoodIn Ts ws) (hws : ws = Cond.code y bytes maxL ret :: ws') (hlk : va_Nw (.methodLinkNest own index y host) s) (hini : (Cond.initialized y.cls).before args s = true) (hstat : (Cond.static y).before args s = true) (hd : y.cls ≠ "java/lang/invoke/MethodHandle" ∧ y.cls ≠ "java/lang/invoke/VarHandle" ∧ (parseMethodDescriptor y.desc).map (fun d => d.parameters.length) = some n) (hAn : As.length = n) (hR : rm.frames + 1 ≤ R.frames ∧ 8 + (maxL + 11) + rm.locals ≤ R.locals) (hf : cells + rm.cells ≤ R.cells ∧ slots + rm.slots ≤ R.slots)
    (hw : bW G A H0 wb H locs) (hA : ∀ q, H0.size ≤ q → A q) (hl : ls.size = nL) (is : List Nat) (hC : is.map (fun i => wb[i]?) = wc.map some) (hn : va_nd is = true) (hst : st0 = As.reverse ++ rest) (hrm : (rest.map fun v => v.category).sum ≤ 8) (hdg : decode cc pc = .ok (.invokestatic index, 3))
    (kk : ∀ (v : Option Value) (w1 : List va_W) (H1 : Heap) (locs1 : List Loc), Qr v w1 → bW G A H0 (aw_sA wb is w1) H1 locs1 → W p l e R s m args below meth c H1 locs1 (cells + rm.cells) (slots + rm.slots) Q (F0 m (pc + 3) ls (v.toList ++ rest))) : W p l e R s m args below meth c H locs cells slots Q (F0 m pc ls st0) :=
  aw_go (a := As.toArray) (va_runSN (Pc := aw_Pc G As wc H.size) S (hM H.size) ⟨va_cnB n S.2.2.2.2 hG hws rfl rfl hlk hini hd hR, hstat, trivial⟩ ⟨aw_blind, aw_pre hE hw is hC hn⟩ rfl hAn hl hst (lv_room hrm) hdg hf) hw hA is hC hn kk
theorem aw_callI (S : CallFix p m c cc nL s args Ts own) (hE : aw_E G s) (hM : CT l G y ws rm (.ref b :: As) wc Qr) (hG : GoodIn Ts ws) (hws : ws = Cond.code y bytes maxL none :: ws') (hini : (Cond.initialized y.cls).before args s = true) (hlk : (Cond.methodLink own index y).before args s = true) (hin : (Cond.instanceMethod y).before args s = true) (hy1 : y.name = "<init>") (hd : y.cls ≠ "java/lang/invoke/MethodHandle" ∧ y.cls ≠ "java/lang/invoke/VarHandle" ∧ (parseMethodDescriptor y.desc).map (fun d => d.parameters.length) = some n) (hAn : As.length = n) (hR : rm.frames + 1 ≤ R.frames ∧ 8 + (maxL + 11) + rm.locals ≤ R.locals) (hf : cells + rm.cells ≤ R.cells ∧ slots + rm.slots ≤ R.slots)
    (hw : bW G A H0 wb H locs) (hA : ∀ q, H0.size ≤ q → A q) (hl : ls.size = nL) (is : List Nat) (hC : is.map (fun i => wb[i]?) = wc.map some) (hn : va_nd is = true) (hst : st0 = As.reverse ++ .ref b :: rest) (hrm : (rest.map fun v => v.category).sum ≤ 8) (hdg : decode cc pc = .ok (.invokespecial index, 3))
    (kk : ∀ (v : Option Value) (w1 : List va_W) (H1 : Heap) (locs1 : List Loc), Qr v w1 → bW G A H0 (aw_sA wb is w1) H1 locs1 → W p l e R s m args below meth c H1 locs1 (cells + rm.cells) (slots + rm.slots) Q (F0 m (pc + 3) ls (v.toList ++ rest))) : W p l e R s m args below meth c H locs cells slots Q (F0 m pc ls st0) :=
  aw_go (a := (Value.ref b :: As).toArray) (va_runI (Pc := aw_Pc G (.ref b :: As) wc H.size) S (hM H.size) (cwI n S.2.2.2.2 hG hws rfl rfl hini hlk hin hy1 hd hR) ⟨aw_blind, aw_pre hE hw is hC hn⟩ rfl hAn hl hst (lv_room hrm) hdg hf) hw hA is hC hn kk
theorem aw_callIN {host : String} (S : CallFix p m c cc nL s args Ts own) (hE : aw_E G s) (hM : CT l G y ws rm (.ref b :: As) wc Qr) (hG : GoodIn Ts ws) (hws : ws = Cond.code y bytes maxL none :: ws') (hini : (Cond.initialized y.cls).before args s = true) (hlk : va_Nw (.methodLinkNest own index y host) s) (hin : (Cond.instanceMethod y).before args s = true) (hy1 : y.name = "<init>") (hd : y.cls ≠ "java/lang/invoke/MethodHandle" ∧ y.cls ≠ "java/lang/invoke/VarHandle" ∧ (parseMethodDescriptor y.desc).map (fun d => d.parameters.length) = some n) (hAn : As.length = n) (hR : rm.frames + 1 ≤ R.frames ∧ 8 + (maxL + 11) + rm.locals ≤ R.locals) (hf : cells + rm.cells ≤ R.cells ∧ slots + rm.slots ≤ R.slots)
    (hw : bW G A H0 wb H locs) (hA : ∀ q, H0.size ≤ q → A q) (hl : ls.size = nL) (is : List Nat) (hC : is.map (fun i => wb[i]?) = wc.map some) (hn : va_nd is = true) (hst : st0 = As.reverse ++ .ref b :: rest) (hrm : (rest.map fun v => v.category).sum ≤ 8) (hdg : decode cc pc = .ok (.invokespecial index, 3))
    (kk : ∀ (v : Option Value) (w1 : List va_W) (H1 : Heap) (locs1 : List Loc), Qr v w1 → bW G A H0 (aw_sA wb is w1) H1 locs1 → W p l e R s m args below meth c H1 locs1 (cells + rm.cells) (slots + rm.slots) Q (F0 m (pc + 3) ls (v.toList ++ rest))) : W p l e R s m args below meth c H locs cells slots Q (F0 m pc ls st0) :=
  aw_go (a := (Value.ref b :: As).toArray) (va_runIN (Pc := aw_Pc G (.ref b :: As) wc H.size) S (hM H.size) ⟨va_cnB n S.2.2.2.2 hG hws rfl rfl hlk hini hd hR, hy1, hin⟩ ⟨aw_blind, aw_pre hE hw is hC hn⟩ rfl hAn hl hst (lv_room hrm) hdg hf) hw hA is hC hn kk
end CB
/-! families -/
/-- n cells of one kind at the addresses r 0, r 1 .. -/
def fam (n : Nat) (r : Nat → Nat) (e : Nat → va_E) : va_W := (List.range n).map (fun i => (r i, e i))
def famX (n : Nat) (r : Nat → Nat) (e : Nat → va_E) (k : Nat) : va_W := ((List.range n).filter (fun i => i ≠ k)).map (fun i => (r i, e i))
theorem fam_perm {n : Nat} {r : Nat → Nat} {e : Nat → va_E} {k : Nat} (hk : k < n) : List.Perm (fam n r e) ((r k, e k) :: famX n r e k) := by
  have h1 : List.Perm (List.range n) (k :: (List.range n).filter (fun i => i ≠ k)) := by
    have h2 : (List.range n).filter (fun i => decide (i ≠ k)) = (List.range n).erase k := by
      rw [List.Nodup.erase_eq_filter List.nodup_range]
      apply List.filter_congr
      intro x _
      by_cases e : x = k <;> simp [e]
    rw [h2]
    exact List.perm_cons_erase (List.mem_range.mpr hk)
  exact h1.map (fun i => (r i, e i))
theorem famX_up {n : Nat} {r : Nat → Nat} {e : Nat → va_E} {k : Nat} {y : va_E} : famX n r (va_up e k y) k = famX n r e k := by
  unfold famX
  apply List.map_congr_left
  intro i hi
  have := (List.mem_filter.mp hi).2
  simp only [ne_eq, decide_not, Bool.not_eq_eq_eq_not, Bool.not_true, decide_eq_false_iff_not] at this
  rw [va_up_ne _ _ this]
theorem fam_congr {n : Nat} {r : Nat → Nat} {e e' : Nat → va_E} (h : ∀ i, i < n → e i = e' i) : fam n r e = fam n r e' := by
  unfold fam
  apply List.map_congr_left
  intro i hi
  rw [h i (List.mem_range.mp hi)]
theorem fam_len {n : Nat} {r : Nat → Nat} {e : Nat → va_E} : (fam n r e).length = n := by simp [fam]
theorem aw_out {G : aw_G} {A : Nat → Prop} {H0 H : Heap} {wb : List va_W} {locs : List Loc} (hw : bW G A H0 wb H locs) (i : Nat) {n : Nat} {r : Nat → Nat} {e : Nat → va_E} (hi : wb[i]? = some (fam n r e)) (k : Nat) (hk : k < n) : bW G A H0 (wb.set i (famX n r e k) ++ [[(r k, e k)]]) H locs := by
  refine hw.perm ?_
  have hl : i < wb.length := (List.getElem?_eq_some_iff.mp hi).1
  refine (aw_take wb i _ hi).trans ?_
  rw [List.flatten_append]
  refine List.Perm.trans ?_ (List.Perm.append_right _ (aw_put wb i (famX n r e k) hl).symm)
  refine (List.Perm.append_right _ (fam_perm hk)).trans ?_
  simp only [List.cons_append, List.flatten_cons, List.flatten_nil, List.append_nil]
  exact (List.perm_append_comm (l₁ := [(r k, e k)]))
theorem aw_in {G : aw_G} {A : Nat → Prop} {H0 H : Heap} (wb : List va_W) {locs : List Loc} {r : Nat → Nat} {k : Nat} {y : va_E} (hw : bW G A H0 (wb ++ [[(r k, y)]]) H locs) (i : Nat) {n : Nat} {e : Nat → va_E} (hi : wb[i]? = some (famX n r e k)) (hk : k < n) : bW G A H0 (wb.set i (fam n r (va_up e k y))) H locs := by
  refine hw.perm ?_
  have hl : i < wb.length := (List.getElem?_eq_some_iff.mp hi).1
  refine List.Perm.trans ?_ (aw_put wb i _ hl).symm
  have h1 := fam_perm (n := n) (r := r) (e := va_up e k y) hk
  rw [famX_up, va_up_self] at h1
  refine List.Perm.trans ?_ (List.Perm.append_right _ h1.symm)
  rw [List.flatten_append]
  refine (List.Perm.append_right _ (aw_take wb i _ hi)).trans ?_
  simp only [List.flatten_cons, List.flatten_nil, List.append_nil, List.cons_append]
  exact List.perm_append_comm (l₂ := [(r k, y)])
/-- the same cell goes back -/
theorem aw_inS {G : aw_G} {A : Nat → Prop} {H0 H : Heap} (wb : List va_W) {locs : List Loc} {r : Nat → Nat} {k : Nat} {n : Nat} {e : Nat → va_E} (hw : bW G A H0 (wb ++ [[(r k, e k)]]) H locs) (i : Nat) (hi : wb[i]? = some (famX n r e k)) (hk : k < n) : bW G A H0 (wb.set i (fam n r e)) H locs := by
  have h := aw_in wb hw i hi hk
  rwa [fam_congr (e' := e) (fun j _ => by unfold va_up; split <;> simp_all)] at h
/-- an array of ints, written otherwise within its length -/
theorem aw_arr_congr {c : ClassId} {n : Nat} {f g : Nat → Int32} (h : ∀ j, j < n → f j = g j) : vp_cell c (n, .inl f) = vp_cell c (n, .inl g) := by
  rw [vp_cell_i, vp_cell_i]
  unfold arrV
  congr 1
  apply Array.ext
  · simp
  · intro i h1 h2
    simp only [Array.getElem_ofFn]
    rw [h i (by simpa using h1)]
theorem aw_arr {G : aw_G} {A : Nat → Prop} {H0 H : Heap} {wb : List va_W} {locs : List Loc} (hw : bW G A H0 wb H locs) (i : Nat) {a : Nat} {c : ClassId} {n : Nat} {f : Nat → Int32} (hi : wb[i]? = some [(a, .inl (c, n, .inl f))]) (g : Nat → Int32) (h : ∀ j, j < n → f j = g j) : bW G A H0 (wb.set i [(a, .inl (c, n, .inl g))]) H locs := by
  have hl : i < wb.length := (List.getElem?_eq_some_iff.mp hi).1
  have hp := aw_take wb i _ hi
  have hq := aw_put wb i [(a, .inl (c, n, .inl g))] hl
  have h1 := aw_P_mem.mp (aw_P_perm hp hw.1)
  have h2 := aw_D_iff.mp (aw_D_perm hp hw.2.1)
  refine ⟨aw_P_perm hq.symm (aw_P_mem.mpr ?_), aw_D_perm hq.symm (aw_D_iff.mpr ⟨h2.1, ?_⟩), hw.2.2⟩
  · intro x hx
    rcases List.mem_append.mp hx with h3 | h3
    · rw [List.mem_singleton] at h3
      subst h3
      have := h1 (a, .inl (c, n, .inl f)) (List.mem_append_left _ List.mem_cons_self)
      show H[a]? = some (vp_cell c (n, .inl g))
      rw [← aw_arr_congr h]
      exact this
    · exact h1 x (List.mem_append_right _ h3)
  · intro x hx
    rcases List.mem_append.mp hx with h3 | h3
    · rw [List.mem_singleton] at h3
      subst h3
      exact h2.2 (a, .inl (c, n, .inl f)) (List.mem_append_left _ List.mem_cons_self)
    · exact h2.2 x (List.mem_append_right _ h3)
