/-! contracts -/
/-- a method's contract: from its blocks wb it comes back with Qr of the answer and of its blocks then -/
def CT (l : Launch) (G : aw_G) (y : MethodName) (ws : List Cond) (rm : Room) (av : List Value) (wb : List va_W) (Qr : Option Value → List va_W → Prop) : Prop :=
  ∀ sz : Nat, Met l y ws rm (va_Pc av (fun U => U.heap.size = sz ∧ va_P G.1 vwCl wb.flatten U.heap ∧ aw_E G U ∧ va_D (fun _ => True) wb.flatten))
    (fun _ st oc t => (∃ (v : Option Value) (w1 : List va_W), oc = .returned v ∧ Qr v w1 ∧ va_P G.1 vwCl w1.flatten t.heap ∧ va_D (va_A wb.flatten sz) w1.flatten) ∧ va_F (va_A wb.flatten sz) st t) rm.cells rm.slots (va_A wb.flatten sz)
/-- one answer, one world -/
def dt (v0 : Option Value) (w0 : List va_W) : Option Value → List va_W → Prop := fun v w => v = v0 ∧ w = w0
theorem CT.eqv {l : Launch} {G : aw_G} {y : MethodName} {ws : List Cond} {rm : Room} {av : List Value} {wb : List va_W} {v v' : Option Value} {w w' : List va_W} (h : CT l G y ws rm av wb (dt v w)) (hv : v = v') (hw : w = w') : CT l G y ws rm av wb (dt v' w') := by subst hv; subst hw; exact h
section CTO
variable {l : Launch} {G : aw_G} {y : MethodName} {ws ws' : List Cond} {rm : Room} {av : List Value} {wb : List va_W} {Qr : Option Value → List va_W → Prop} {cc : ByteArray} {nL : Nat}
/-- the end of a body: what its own instruction of return asks for -/
def aw_Q (G : aw_G) (below : List Frame) (av : List Value) (s : State) (rm : Room) (wb : List va_W) (Qr : Option Value → List va_W → Prop) : State → Prop :=
  MQ below (fun _ st oc t => (∃ (v : Option Value) (w1 : List va_W), oc = .returned v ∧ Qr v w1 ∧ va_P G.1 vwCl w1.flatten t.heap ∧ va_D (va_A wb.flatten s.heap.size) w1.flatten) ∧ va_F (va_A wb.flatten s.heap.size) st t) av.toArray s rm.cells rm.slots (va_A wb.flatten s.heap.size)
theorem CT.of {ret : Option FieldType} (hy : plainName y.cls = true) (hws : ws = Cond.code y cc nL ret :: ws') (hlen : (lg_sl av).length ≤ nL)
    (body : ∀ (p : Program) (e : Env) (s : State) (m : MethodId) (below : List Frame) (meth : Method) (c : Code) (R : Room) (args : Array Value) (Q : State → Prop) (A : Nat → Prop), R = rm → args = av.toArray → Q = aw_Q G below av s rm wb Qr → A = va_A wb.flatten s.heap.size → (∀ q, s.heap.size ≤ q → A q) → CallFix p m c cc nL s args ws y.cls → aw_E G s → meth.sig.returnType = ret → meth.locks = false → meth.name = y.name →
      ∀ (H : Heap) (locs : List Loc), H = s.heap → locs = [] → ∀ ls : Array Slot, lv_has ls nL (lv_args 0 av) → bW G A s.heap wb H locs → W p l e R s m args below meth c H locs 0 0 Q (F0 m 0 ls [])) : CT l G y ws rm av wb Qr := by
  intro sz
  refine Met.ofW (cc := cc) (maxL := nL) (ret := ret) hy hws ?_
  intro p e s m args below meth c s₁ B hml hv
  obtain ⟨rfl, hsz, hP, hE, hD0⟩ := hv
  subst hsz
  have hts := atoms_spec (ws := ws) B.pre
  have hown : s.vm.findClass y.cls = some m.cls := findClass_of_methodNamed B.named
  have hl := lv_entry av (n := nL) hlen
  rw [lg_entry_eq]
  exact body p e s m below meth c _ _ _ _ rfl rfl rfl rfl (fun q h => Or.inr h) ⟨B.exec, B.bytes, hml, hown, hts⟩ hE B.returns B.notSynchronized (name_of_methodNamed B.named B.method).1 _ _ rfl rfl _ hl ⟨hP, hD0.self, va_S.rf⟩
end CTO
section CTR
variable {p : Program} {l : Launch} {e : Env} {R : Room} {s : State} {m : MethodId} {av : List Value} {args : Array Value} {below : List Frame} {meth : Method} {c : Code} {H : Heap} {locs : List Loc} {cells slots : Nat} {Q : State → Prop} {A : Nat → Prop}
variable {G : aw_G} {rm : Room} {wb w1 : List va_W} {Qr : Option Value → List va_W → Prop} {cc : ByteArray} {nL : Nat} {Ts : List Cond} {own : String} {pc : Nat} {ls : Array Slot}
theorem aw_iret {v : Int32} {ty : FieldType} (S : CallFix p m c cc nL s args Ts own) (hr : meth.sig.returnType = some ty) (hlk : meth.locks = false) (ha : args = av.toArray) (hQ : Q = aw_Q G below av s rm wb Qr) (hAe : A = va_A wb.flatten s.heap.size) (hw : bW G A s.heap w1 H locs) (hdg : decode cc pc = .ok (.ireturn, 1)) (hn : narrow ty (.int v) = .int v) (hc : cells ≤ rm.cells) (hs : slots ≤ rm.slots) (hq : Qr (some (.int v)) w1) :
    W p l e R s m args below meth c H locs cells slots Q (F0 m pc ls [.int v]) := by
  subst ha; subst hQ; subst hAe
  refine W.widen (k := rm.cells) (n := rm.slots) hc hs ?_
  exact W.zret S.1 S.2.1 hr hn (fun t ht hW => ⟨⟨_, w1, rfl, hq, by rw [ht]; exact hw.1, hw.2.1⟩, hw.2.2.F ht⟩) hw.2.2.2.2 hdg hlk
theorem aw_lret {v : Int64} (S : CallFix p m c cc nL s args Ts own) (hr : meth.sig.returnType = some .long) (hlk : meth.locks = false) (ha : args = av.toArray) (hQ : Q = aw_Q G below av s rm wb Qr) (hAe : A = va_A wb.flatten s.heap.size) (hw : bW G A s.heap w1 H locs) (hdg : decode cc pc = .ok (.lreturn, 1)) (hc : cells ≤ rm.cells) (hs : slots ≤ rm.slots) (hq : Qr (some (.long v)) w1) :
    W p l e R s m args below meth c H locs cells slots Q (F0 m pc ls [.long v]) := by
  subst ha; subst hQ; subst hAe
  refine W.widen (k := rm.cells) (n := rm.slots) hc hs ?_
  exact W.lret S.1 S.2.1 hr (fun t ht hW => ⟨⟨_, w1, rfl, hq, by rw [ht]; exact hw.1, hw.2.1⟩, hw.2.2.F ht⟩) hw.2.2.2.2 hdg hlk
theorem aw_vret (S : CallFix p m c cc nL s args Ts own) (hr : meth.sig.returnType = none) (hlk : meth.locks = false) (ha : args = av.toArray) (hQ : Q = aw_Q G below av s rm wb Qr) (hAe : A = va_A wb.flatten s.heap.size) (hw : bW G A s.heap w1 H locs) (hdg : decode cc pc = .ok (.return_, 1)) (hc : cells ≤ rm.cells) (hs : slots ≤ rm.slots) (hq : Qr none w1) :
    W p l e R s m args below meth c H locs cells slots Q (F0 m pc ls []) := by
  subst ha; subst hQ; subst hAe
  refine W.widen (k := rm.cells) (n := rm.slots) hc hs ?_
  exact W.vret S.1 S.2.1 hr (fun t ht hW => ⟨⟨_, w1, rfl, hq, by rw [ht]; exact hw.1, hw.2.1⟩, hw.2.2.F ht⟩) hw.2.2.2.2 hdg hlk
theorem aw_aret {v : Value} {rt : FieldType} (S : CallFix p m c cc nL s args Ts own) (hr : meth.sig.returnType = some rt) (hlk : meth.locks = false) (ha : args = av.toArray) (hQ : Q = aw_Q G below av s rm wb Qr) (hAe : A = va_A wb.flatten s.heap.size) (hw : bW G A s.heap w1 H locs) (hdg : decode cc pc = .ok (.areturn, 1)) (hrt : (∃ n, rt = .object n) ∨ ∃ t, rt = .array t) (hv : v = .null ∨ ∃ a, v = .ref a) (hc : cells ≤ rm.cells) (hs : slots ≤ rm.slots) (hq : Qr (some v) w1) :
    W p l e R s m args below meth c H locs cells slots Q (F0 m pc ls [v]) := by
  subst ha; subst hQ; subst hAe
  refine W.widen (k := rm.cells) (n := rm.slots) hc hs ?_
  exact W.aret S.1 S.2.1 hr hrt hv (fun t ht hW => ⟨⟨_, w1, rfl, hq, by rw [ht]; exact hw.1, hw.2.1⟩, hw.2.2.F ht⟩) hw.2.2.2.2 hdg hlk
theorem aw_nb (P : Prop) [Decidable P] : narrow .boolean (.int (if P then 1 else 0)) = .int (if P then 1 else 0) := by
  by_cases h : P
  · rw [if_pos h]; rfl
  · rw [if_neg h]; rfl
end CTR
/-! rows over block worlds -/
section RB
variable {p : Program} {l : Launch} {e : Env} {R : Room} {s : State} {m : MethodId} {args : Array Value} {below : List Frame} {meth : Method} {c : Code} {H : Heap} {locs : List Loc} {cells slots : Nat} {Q : State → Prop}
variable {G : aw_G} {A : Nat → Prop} {H0 : Heap} {wb : List va_W} {cc : ByteArray} {nL : Nat} {Ts : List Cond} {own : String} {pc : Nat} {ls : Array Slot} {rest : List Value} {a : Nat}
theorem aw_pos : ∀ (wb : List va_W) (i : Nat) (x : Nat × va_E), wb[i]? = some [x] → ∃ q0 : Nat, wb.flatten[q0]? = some x ∧ ∀ y, wb.flatten.set q0 y = (wb.set i [y]).flatten
  | [], i, x, h => by simp at h
  | b :: wb, 0, x, h => by
    simp only [List.getElem?_cons_zero, Option.some.injEq] at h
    subst h
    exact ⟨0, by simp, fun y => by simp⟩
  | b :: wb, i + 1, x, h => by
    simp only [List.getElem?_cons_succ] at h
    obtain ⟨q0, h1, h2⟩ := aw_pos wb i x h
    refine ⟨b.length + q0, ?_, fun y => ?_⟩
    · rw [List.flatten_cons, List.getElem?_append_right (by omega), Nat.add_sub_cancel_left]
      exact h1
    · rw [List.flatten_cons, List.set_append_right _ _ (by omega), Nat.add_sub_cancel_left, h2 y]
      simp
/-- the top of the stack, written otherwise -/
theorem aw_eqi {x y : Int32} (h : x = y) (k : W p l e R s m args below meth c H locs cells slots Q (F0 m pc ls (.int y :: rest))) : W p l e R s m args below meth c H locs cells slots Q (F0 m pc ls (.int x :: rest)) := h ▸ k
theorem aw_eql {x y : Int64} (h : x = y) (k : W p l e R s m args below meth c H locs cells slots Q (F0 m pc ls (.long y :: rest))) : W p l e R s m args below meth c H locs cells slots Q (F0 m pc ls (.long x :: rest)) := h ▸ k
theorem aw_eqv {x y : Value} (h : x = y) (k : W p l e R s m args below meth c H locs cells slots Q (F0 m pc ls (y :: rest))) : W p l e R s m args below meth c H locs cells slots Q (F0 m pc ls (x :: rest)) := h ▸ k
/-- a told truth on the stack -/
theorem aw_ifeq {P : Prop} [Decidable P] {off : Int} {tgt : Nat} (S : CallFix p m c cc nL s args Ts own) (hdg : decode cc pc = .ok (.ifCond .eq off, 3)) (ht : (pc : Int) + off = (tgt : Int)) (kt : ¬ P → W p l e R s m args below meth c H locs cells slots Q (F0 m tgt ls rest)) (kf : P → W p l e R s m args below meth c H locs cells slots Q (F0 m (pc + 3) ls rest)) :
    W p l e R s m args below meth c H locs cells slots Q (F0 m pc ls (.int (if P then 1 else 0) :: rest)) := by
  refine lv_if_eq (tgt := tgt) S.1 S.2.1 hdg ht (fun h => kt fun hp => ?_) (fun h => kf ?_)
  · rw [if_pos hp] at h
    exact absurd h (by decide)
  · by_cases hp : P
    · exact hp
    · rw [if_neg hp] at h
      exact absurd rfl h
theorem aw_ifne {P : Prop} [Decidable P] {off : Int} {tgt : Nat} (S : CallFix p m c cc nL s args Ts own) (hdg : decode cc pc = .ok (.ifCond .ne off, 3)) (ht : (pc : Int) + off = (tgt : Int)) (kt : P → W p l e R s m args below meth c H locs cells slots Q (F0 m tgt ls rest)) (kf : ¬ P → W p l e R s m args below meth c H locs cells slots Q (F0 m (pc + 3) ls rest)) :
    W p l e R s m args below meth c H locs cells slots Q (F0 m pc ls (.int (if P then 1 else 0) :: rest)) := by
  refine lv_if_ne (tgt := tgt) S.1 S.2.1 hdg ht (fun h => kt ?_) (fun h => kf fun hp => ?_)
  · by_cases hp : P
    · exact hp
    · rw [if_neg hp] at h
      exact absurd rfl h
  · rw [if_pos hp] at h
    exact absurd h (by decide)
/-! numbers that are not negative -/
theorem aw_icmpN_eq {x y : Nat} {off : Int} {tgt : Nat} (S : CallFix p m c cc nL s args Ts own) (hx : x < 2 ^ 31) (hy : y < 2 ^ 31) (hdg : decode cc pc = .ok (.if_icmp .eq off, 3)) (ht : (pc : Int) + off = (tgt : Int)) (kt : x = y → W p l e R s m args below meth c H locs cells slots Q (F0 m tgt ls rest)) (kf : x ≠ y → W p l e R s m args below meth c H locs cells slots Q (F0 m (pc + 3) ls rest)) : W p l e R s m args below meth c H locs cells slots Q (F0 m pc ls (.int (nI y) :: .int (nI x) :: rest)) :=
  lv_icmp_eq S.1 S.2.1 hdg ht (fun h => kt ((nI_eq hx hy).mp h)) (fun h => kf (fun e => h ((nI_eq hx hy).mpr e)))
theorem aw_icmpN_ne {x y : Nat} {off : Int} {tgt : Nat} (S : CallFix p m c cc nL s args Ts own) (hx : x < 2 ^ 31) (hy : y < 2 ^ 31) (hdg : decode cc pc = .ok (.if_icmp .ne off, 3)) (ht : (pc : Int) + off = (tgt : Int)) (kt : x ≠ y → W p l e R s m args below meth c H locs cells slots Q (F0 m tgt ls rest)) (kf : x = y → W p l e R s m args below meth c H locs cells slots Q (F0 m (pc + 3) ls rest)) : W p l e R s m args below meth c H locs cells slots Q (F0 m pc ls (.int (nI y) :: .int (nI x) :: rest)) :=
  lv_icmp_ne S.1 S.2.1 hdg ht (fun h => kt (fun e => h ((nI_eq hx hy).mpr e))) (fun h => kf ((nI_eq hx hy).mp h))
theorem aw_icmpN_lt {x y : Nat} {off : Int} {tgt : Nat} (S : CallFix p m c cc nL s args Ts own) (hx : x < 2 ^ 31) (hy : y < 2 ^ 31) (hdg : decode cc pc = .ok (.if_icmp .lt off, 3)) (ht : (pc : Int) + off = (tgt : Int)) (kt : x < y → W p l e R s m args below meth c H locs cells slots Q (F0 m tgt ls rest)) (kf : y ≤ x → W p l e R s m args below meth c H locs cells slots Q (F0 m (pc + 3) ls rest)) : W p l e R s m args below meth c H locs cells slots Q (F0 m pc ls (.int (nI y) :: .int (nI x) :: rest)) :=
  lv_icmp_lt S.1 S.2.1 hdg ht (fun h => kt ((nI_ltI hx hy).mp h)) (fun h => kf (Nat.le_of_not_lt fun e => h ((nI_ltI hx hy).mpr e)))
theorem aw_icmpN_ge {x y : Nat} {off : Int} {tgt : Nat} (S : CallFix p m c cc nL s args Ts own) (hx : x < 2 ^ 31) (hy : y < 2 ^ 31) (hdg : decode cc pc = .ok (.if_icmp .ge off, 3)) (ht : (pc : Int) + off = (tgt : Int)) (kt : y ≤ x → W p l e R s m args below meth c H locs cells slots Q (F0 m tgt ls rest)) (kf : x < y → W p l e R s m args below meth c H locs cells slots Q (F0 m (pc + 3) ls rest)) : W p l e R s m args below meth c H locs cells slots Q (F0 m pc ls (.int (nI y) :: .int (nI x) :: rest)) :=
  lv_icmp_ge S.1 S.2.1 hdg ht (fun h => kt ((nI_leI hy hx).mp h)) (fun h => kf (Nat.lt_of_not_le fun e => h ((nI_leI hy hx).mpr e)))
theorem aw_icmpN_gt {x y : Nat} {off : Int} {tgt : Nat} (S : CallFix p m c cc nL s args Ts own) (hx : x < 2 ^ 31) (hy : y < 2 ^ 31) (hdg : decode cc pc = .ok (.if_icmp .gt off, 3)) (ht : (pc : Int) + off = (tgt : Int)) (kt : y < x → W p l e R s m args below meth c H locs cells slots Q (F0 m tgt ls rest)) (kf : x ≤ y → W p l e R s m args below meth c H locs cells slots Q (F0 m (pc + 3) ls rest)) : W p l e R s m args below meth c H locs cells slots Q (F0 m pc ls (.int (nI y) :: .int (nI x) :: rest)) :=
  lv_icmp_gt S.1 S.2.1 hdg ht (fun h => kt ((nI_ltI hy hx).mp h)) (fun h => kf (Nat.le_of_not_lt fun e => h ((nI_ltI hy hx).mpr e)))
theorem aw_icmpN_le {x y : Nat} {off : Int} {tgt : Nat} (S : CallFix p m c cc nL s args Ts own) (hx : x < 2 ^ 31) (hy : y < 2 ^ 31) (hdg : decode cc pc = .ok (.if_icmp .le off, 3)) (ht : (pc : Int) + off = (tgt : Int)) (kt : x ≤ y → W p l e R s m args below meth c H locs cells slots Q (F0 m tgt ls rest)) (kf : y < x → W p l e R s m args below meth c H locs cells slots Q (F0 m (pc + 3) ls rest)) : W p l e R s m args below meth c H locs cells slots Q (F0 m pc ls (.int (nI y) :: .int (nI x) :: rest)) :=
  lv_icmp_le S.1 S.2.1 hdg ht (fun h => kt ((nI_leI hx hy).mp h)) (fun h => kf (Nat.lt_of_not_le fun e => h ((nI_leI hx hy).mpr e)))
theorem aw_ifN_eq {x : Nat} {off : Int} {tgt : Nat} (S : CallFix p m c cc nL s args Ts own) (hx : x < 2 ^ 31) (hdg : decode cc pc = .ok (.ifCond .eq off, 3)) (ht : (pc : Int) + off = (tgt : Int)) (kt : x = 0 → W p l e R s m args below meth c H locs cells slots Q (F0 m tgt ls rest)) (kf : x ≠ 0 → W p l e R s m args below meth c H locs cells slots Q (F0 m (pc + 3) ls rest)) : W p l e R s m args below meth c H locs cells slots Q (F0 m pc ls (.int (nI x) :: rest)) :=
  lv_if_eq S.1 S.2.1 hdg ht (fun h => kt ((nI_eq hx (by decide)).mp h)) (fun h => kf (fun e => h ((nI_eq hx (by decide)).mpr e)))
theorem aw_ifN_ne {x : Nat} {off : Int} {tgt : Nat} (S : CallFix p m c cc nL s args Ts own) (hx : x < 2 ^ 31) (hdg : decode cc pc = .ok (.ifCond .ne off, 3)) (ht : (pc : Int) + off = (tgt : Int)) (kt : x ≠ 0 → W p l e R s m args below meth c H locs cells slots Q (F0 m tgt ls rest)) (kf : x = 0 → W p l e R s m args below meth c H locs cells slots Q (F0 m (pc + 3) ls rest)) : W p l e R s m args below meth c H locs cells slots Q (F0 m pc ls (.int (nI x) :: rest)) :=
  lv_if_ne S.1 S.2.1 hdg ht (fun h => kt (fun e => h ((nI_eq hx (by decide)).mpr e))) (fun h => kf ((nI_eq hx (by decide)).mp h))
theorem aw_ifN_gt {x : Nat} {off : Int} {tgt : Nat} (S : CallFix p m c cc nL s args Ts own) (hx : x < 2 ^ 31) (hdg : decode cc pc = .ok (.ifCond .gt off, 3)) (ht : (pc : Int) + off = (tgt : Int)) (kt : 0 < x → W p l e R s m args below meth c H locs cells slots Q (F0 m tgt ls rest)) (kf : x = 0 → W p l e R s m args below meth c H locs cells slots Q (F0 m (pc + 3) ls rest)) : W p l e R s m args below meth c H locs cells slots Q (F0 m pc ls (.int (nI x) :: rest)) :=
  lv_if_gt S.1 S.2.1 hdg ht (fun h => kt ((nI_ltI (a := 0) (by decide) hx).mp h)) (fun h => kf (Nat.eq_zero_of_not_pos fun e => h ((nI_ltI (a := 0) (by decide) hx).mpr e)))
theorem aw_ifN_le {x : Nat} {off : Int} {tgt : Nat} (S : CallFix p m c cc nL s args Ts own) (hx : x < 2 ^ 31) (hdg : decode cc pc = .ok (.ifCond .le off, 3)) (ht : (pc : Int) + off = (tgt : Int)) (kt : x = 0 → W p l e R s m args below meth c H locs cells slots Q (F0 m tgt ls rest)) (kf : 0 < x → W p l e R s m args below meth c H locs cells slots Q (F0 m (pc + 3) ls rest)) : W p l e R s m args below meth c H locs cells slots Q (F0 m pc ls (.int (nI x) :: rest)) :=
  lv_if_le S.1 S.2.1 hdg ht (fun h => kt (Nat.le_zero.mp ((nI_leI hx (b := 0) (by decide)).mp h))) (fun h => kf (Nat.pos_of_ne_zero fun e => h ((nI_leI hx (b := 0) (by decide)).mpr (Nat.le_of_eq e))))
theorem aw_get (S : CallFix p m c cc nL s args Ts own) (hE : aw_E G s) (hw : bW G A H0 wb H locs) (i : Nat) {C : String} {T : u_T} {N ci index : Nat} {fs : List Value} (hi : wb[i]? = some [(a, .inr (ci, fs))]) (hc : vwCl[ci]? = some (C, T, N)) (hin : ∀ w ∈ u_ws C T N, w ∈ Ts) (k : Nat) (hk : k < N) (hlink : (Cond.fieldLink own index (T k).1 (T k).2.1 (T k).2.2.1).before args s = true) {v : Value} (hv : fs[k]? = some v) (hdg : decode cc pc = .ok (.getfield index, 3))
    (kk : W p l e R s m args below meth c H locs cells slots Q (F0 m (pc + 3) ls (v :: rest))) : W p l e R s m args below meth c H locs cells slots Q (F0 m pc ls (.ref a :: rest)) := by
  obtain ⟨q0, h1, -⟩ := aw_pos wb i _ hi
  exact va_get (D := G.1) S.1 S.2.1 S.2.2.2.2 hin S.2.2.2.1 hE.1 hw.1 q0 h1 hc k hk hlink (fun _ h9 => h9) hv hdg kk
theorem aw_putf (S : CallFix p m c cc nL s args Ts own) (hE : aw_E G s) (hw : bW G A H0 wb H locs) (i : Nat) {C : String} {T : u_T} {N ci index : Nat} {fs : List Value} (hi : wb[i]? = some [(a, .inr (ci, fs))]) (hc : vwCl[ci]? = some (C, T, N)) (hin : ∀ w ∈ u_ws C T N, w ∈ Ts) (ty0 : Nat → FieldType) (hty : ∀ k, k < N → parseFieldDescriptor (T k).2.2.1 = some (ty0 k)) (hnm : ∀ a, a < N → ∀ b, b < N → a ≠ b → (T a).2.1 ≠ (T b).2.1) (k : Nat) (hk : k < N) (hlink : (Cond.fieldLink own index (T k).1 (T k).2.1 (T k).2.2.1).before args s = true) (hfin : (T k).2.2.2 = false) {v : Value} (hn : narrow (ty0 k) v = v) (hfit : fits (ty0 k) v = true) (hl : k < fs.length) (hdg : decode cc pc = .ok (.putfield index, 3))
    (kk : ∀ (H1 : Heap) (locs1 : List Loc), bW G A H0 (wb.set i [(a, .inr (ci, fs.set k v))]) H1 locs1 → W p l e R s m args below meth c H1 locs1 cells slots Q (F0 m (pc + 3) ls rest)) : W p l e R s m args below meth c H locs cells slots Q (F0 m pc ls (v :: .ref a :: rest)) := by
  obtain ⟨q0, h1, h2⟩ := aw_pos wb i _ hi
  refine va_put (D := G.1) S.1 S.2.1 S.2.2.2.2 hin ty0 hty hnm S.2.2.2.1 hE.1 hw.1 hw.2.1 hw.2.2 q0 h1 hc k hk hlink (fun _ h9 => h9) hfin (hty k hk) hn hfit hl hdg (fun H1 locs1 hP hD hS => ?_)
  rw [h2] at hP hD
  exact kk H1 locs1 ⟨hP, hD, hS⟩
theorem aw_putF (S : CallFix p m c cc nL s args Ts own) (hE : aw_E G s) (hw : bW G A H0 wb H locs) (i : Nat) {C : String} {T : u_T} {N ci index : Nat} {fs : List Value} (hi : wb[i]? = some [(a, .inr (ci, fs))]) (hc : vwCl[ci]? = some (C, T, N)) (hin : ∀ w ∈ u_ws C T N, w ∈ Ts) (ty0 : Nat → FieldType) (hty : ∀ k, k < N → parseFieldDescriptor (T k).2.2.1 = some (ty0 k)) (hnm : ∀ a, a < N → ∀ b, b < N → a ≠ b → (T a).2.1 ≠ (T b).2.1) (k : Nat) (hk : k < N) (hlink : (Cond.fieldLink own index (T k).1 (T k).2.1 (T k).2.2.1).before args s = true) (hfin : (T k).2.2.2 = true) (hin2 : meth.name = "<init>") (hdecl : (T k).1 = own) {v : Value} (hn : narrow (ty0 k) v = v) (hfit : fits (ty0 k) v = true) (hl : k < fs.length) (hdg : decode cc pc = .ok (.putfield index, 3))
    (kk : ∀ (H1 : Heap) (locs1 : List Loc), bW G A H0 (wb.set i [(a, .inr (ci, fs.set k v))]) H1 locs1 → W p l e R s m args below meth c H1 locs1 cells slots Q (F0 m (pc + 3) ls rest)) : W p l e R s m args below meth c H locs cells slots Q (F0 m pc ls (v :: .ref a :: rest)) := by
  obtain ⟨q0, h1, h2⟩ := aw_pos wb i _ hi
  refine va_putF (D := G.1) S.1 S.2.1 S.2.2.2.2 hin ty0 hty hnm S.2.2.2.1 hE.1 hw.1 hw.2.1 hw.2.2 q0 h1 hc k hk hlink (fun _ h9 => h9) hfin hin2 hdecl (hty k hk) hn hfit hl hdg (fun H1 locs1 hP hD hS => ?_)
  rw [h2] at hP hD
  exact kk H1 locs1 ⟨hP, hD, hS⟩
theorem aw_iald (S : CallFix p m c cc nL s args Ts own) (hE : aw_E G s) (hw : bW G A H0 wb H locs) (i : Nat) {n k : Nat} {f : Nat → Int32} (hi : wb[i]? = some [(a, .inl (gI G, n, .inl f))]) (hk : k < n) (hn : n < 2 ^ 31) (hdg : decode cc pc = .ok (.iaload, 1))
    (kk : W p l e R s m args below meth c H locs cells slots Q (F0 m (pc + 1) ls (.int (f k) :: rest))) : W p l e R s m args below meth c H locs cells slots Q (F0 m pc ls (.int (nI k) :: .ref a :: rest)) := by
  obtain ⟨q0, h1, -⟩ := aw_pos wb i _ hi
  refine va_iald (D := G.1) S.1 S.2.1 hE.1 hw.1 q0 0 h1 rfl (vp_in_nI hk hn) hdg ?_
  rw [nI_clamp (by omega)]
  exact kk
theorem aw_iast (S : CallFix p m c cc nL s args Ts own) (hE : aw_E G s) (hw : bW G A H0 wb H locs) (i : Nat) {n k : Nat} {f : Nat → Int32} {x : Int32} (hi : wb[i]? = some [(a, .inl (gI G, n, .inl f))]) (hk : k < n) (hn : n < 2 ^ 31) (hdg : decode cc pc = .ok (.iastore, 1))
    (kk : ∀ (H1 : Heap) (locs1 : List Loc), bW G A H0 (wb.set i [(a, .inl (gI G, n, .inl (upd f k x)))]) H1 locs1 → W p l e R s m args below meth c H1 locs1 cells slots Q (F0 m (pc + 1) ls rest)) : W p l e R s m args below meth c H locs cells slots Q (F0 m pc ls (.int x :: .int (nI k) :: .ref a :: rest)) := by
  obtain ⟨q0, h1, h2⟩ := aw_pos wb i _ hi
  refine va_iast (D := G.1) S.1 S.2.1 hE.1 hw.1 hw.2.1 hw.2.2 q0 0 h1 rfl (vp_in_nI hk hn) hdg (fun H1 locs1 hP hD hS => ?_)
  rw [h2, nI_clamp (by omega)] at hP hD
  exact kk H1 locs1 ⟨hP, hD, hS⟩
theorem aw_zald (S : CallFix p m c cc nL s args Ts own) (hE : aw_E G s) (hw : bW G A H0 wb H locs) (i : Nat) {n k : Nat} {f : Nat → Int32} (hi : wb[i]? = some [(a, .inl (gZ G, n, .inl f))]) (hk : k < n) (hn : n < 2 ^ 31) (hdg : decode cc pc = .ok (.baload, 1))
    (kk : W p l e R s m args below meth c H locs cells slots Q (F0 m (pc + 1) ls (.int (f k) :: rest))) : W p l e R s m args below meth c H locs cells slots Q (F0 m pc ls (.int (nI k) :: .ref a :: rest)) := by
  obtain ⟨q0, h1, -⟩ := aw_pos wb i _ hi
  refine va_zald (D := G.1) S.1 S.2.1 hE.1 hw.1 q0 1 h1 rfl (vp_in_nI hk hn) hdg ?_
  rw [nI_clamp (by omega)]
  exact kk
theorem aw_alen (S : CallFix p m c cc nL s args Ts own) (hE : aw_E G s) (hw : bW G A H0 wb H locs) (i : Nat) {n : Nat} {f : Nat → Int32} (hi : wb[i]? = some [(a, .inl (gI G, n, .inl f))]) (hdg : decode cc pc = .ok (.arraylength, 1))
    (kk : W p l e R s m args below meth c H locs cells slots Q (F0 m (pc + 1) ls (.int (nI n) :: rest))) : W p l e R s m args below meth c H locs cells slots Q (F0 m pc ls (.ref a :: rest)) := by
  obtain ⟨q0, h1, -⟩ := aw_pos wb i _ hi
  exact va_alen (D := G.1) S.1 S.2.1 hE.1 hw.1 q0 0 h1 rfl rfl hdg kk
theorem aw_zast (S : CallFix p m c cc nL s args Ts own) (hE : aw_E G s) (hw : bW G A H0 wb H locs) (i : Nat) {n k : Nat} {f : Nat → Int32} {x : Int32} (hi : wb[i]? = some [(a, .inl (gZ G, n, .inl f))]) (hk : k < n) (hn : n < 2 ^ 31) (hdg : decode cc pc = .ok (.bastore, 1)) (hx : vp_nar .boolean x = x)
    (kk : ∀ (H1 : Heap) (locs1 : List Loc), bW G A H0 (wb.set i [(a, .inl (gZ G, n, .inl (upd f k x)))]) H1 locs1 → W p l e R s m args below meth c H1 locs1 cells slots Q (F0 m (pc + 1) ls rest)) : W p l e R s m args below meth c H locs cells slots Q (F0 m pc ls (.int x :: .int (nI k) :: .ref a :: rest)) := by
  obtain ⟨q0, h1, h2⟩ := aw_pos wb i _ hi
  refine va_zast (D := G.1) S.1 S.2.1 hE.1 hw.1 hw.2.1 hw.2.2 q0 1 h1 rfl (vp_in_nI hk hn) hdg (fun H1 locs1 hP hD hS => ?_)
  rw [h2, nI_clamp (by omega), hx] at hP hD
  exact kk H1 locs1 ⟨hP, hD, hS⟩
theorem aw_aald_H (S : CallFix p m c cc nL s args Ts own) (hE : aw_E G s) (hw : bW G A H0 wb H locs) (i : Nat) {n k r : Nat} {f : Nat → Option Nat} (hi : wb[i]? = some [(a, .inl (gH G, n, .inr (.inr (.inr (.inr f)))))]) (hk : k < n) (hn : n < 2 ^ 31) (hr : f k = some r) (hdg : decode cc pc = .ok (.aaload, 1))
    (kk : W p l e R s m args below meth c H locs cells slots Q (F0 m (pc + 1) ls (.ref r :: rest))) : W p l e R s m args below meth c H locs cells slots Q (F0 m pc ls (.int (nI k) :: .ref a :: rest)) := by
  obtain ⟨q0, h1, -⟩ := aw_pos wb i _ hi
  refine va_aldq (D := G.1) S.1 S.2.1 hE.1 hw.1 q0 2 h1 rfl (vp_in_nI hk hn) hdg ?_
  rw [nI_clamp (by omega), hr]
  exact kk
theorem aw_aald_L (S : CallFix p m c cc nL s args Ts own) (hE : aw_E G s) (hw : bW G A H0 wb H locs) (i : Nat) {n k r : Nat} {f : Nat → Option Nat} (hi : wb[i]? = some [(a, .inl (gL G, n, .inr (.inr (.inr (.inr f)))))]) (hk : k < n) (hn : n < 2 ^ 31) (hr : f k = some r) (hdg : decode cc pc = .ok (.aaload, 1))
    (kk : W p l e R s m args below meth c H locs cells slots Q (F0 m (pc + 1) ls (.ref r :: rest))) : W p l e R s m args below meth c H locs cells slots Q (F0 m pc ls (.int (nI k) :: .ref a :: rest)) := by
  obtain ⟨q0, h1, -⟩ := aw_pos wb i _ hi
  refine va_aldq (D := G.1) S.1 S.2.1 hE.1 hw.1 q0 3 h1 rfl (vp_in_nI hk hn) hdg ?_
  rw [nI_clamp (by omega), hr]
  exact kk
theorem aw_aald_A (S : CallFix p m c cc nL s args Ts own) (hE : aw_E G s) (hw : bW G A H0 wb H locs) (i : Nat) {n k r : Nat} {f : Nat → Option Nat} (hi : wb[i]? = some [(a, .inl (gA G, n, .inr (.inr (.inr (.inr f)))))]) (hk : k < n) (hn : n < 2 ^ 31) (hr : f k = some r) (hdg : decode cc pc = .ok (.aaload, 1))
    (kk : W p l e R s m args below meth c H locs cells slots Q (F0 m (pc + 1) ls (.ref r :: rest))) : W p l e R s m args below meth c H locs cells slots Q (F0 m pc ls (.int (nI k) :: .ref a :: rest)) := by
  obtain ⟨q0, h1, -⟩ := aw_pos wb i _ hi
  have hcell : H[a]? = some (arrV (gA G) n (fun j => va_rf (f j))) := hw.1 q0 _ h1
  have hin := vp_in_nI hk hn
  refine W.aald S.1 S.2.1 (g := F0 m pc ls (.int (nI k) :: .ref a :: rest)) (v := .ref r) hcell ((hE.1.2 4 _ rfl).1 n _) rfl (fun h => by cases h) ?_ ?_ rfl rfl hdg kk
  · show ¬ (nI k < 0 ∨ (Array.ofFn (n := n) fun j => va_rf (f j.val)).size ≤ (nI k).toNatClampNeg)
    rw [Array.size_ofFn]
    exact hin
  · show (Array.ofFn (n := n) fun j => va_rf (f j.val))[(nI k).toNatClampNeg]? = some (.ref r)
    rw [nI_clamp (by omega), Array.getElem?_eq_some_iff]
    refine ⟨by simpa using hk, ?_⟩
    rw [Array.getElem_ofFn]
    show va_rf (f k) = .ref r
    rw [hr]
    rfl
/-- compares of longs -/
theorem aw_lcmp_lt {x y : Int64} {off : Int} {tgt : Nat} (S : CallFix p m c cc nL s args Ts own) (hdg : decode cc pc = .ok (.ifCond .lt off, 3)) (ht : (pc : Int) + off = (tgt : Int)) (kt : x < y → W p l e R s m args below meth c H locs cells slots Q (F0 m tgt ls rest)) (kf : ¬ x < y → W p l e R s m args below meth c H locs cells slots Q (F0 m (pc + 3) ls rest)) : W p l e R s m args below meth c H locs cells slots Q (F0 m pc ls (.int (lg_cmp x y) :: rest)) := by
  have hc : lg_cmp x y < 0 ↔ x < y := by
    unfold lg_cmp
    by_cases h1 : x > y
    · rw [if_pos h1]
      have : ¬ x < y := by rw [fa_lt64]; have := (fa_lt64 y x).mp h1; omega
      simp only [this, iff_false]
      decide
    · rw [if_neg h1]
      by_cases h2 : x = y
      · rw [if_pos h2]
        subst h2
        have : ¬ x < x := by rw [fa_lt64]; omega
        simp only [this, iff_false]
        decide
      · rw [if_neg h2]
        have : x < y := by
          rw [fa_lt64]
          have q1 : ¬ y.toInt < x.toInt := fun q => h1 ((fa_lt64 y x).mpr q)
          have q2 : ¬ x.toInt = y.toInt := fun q => h2 ((fa_eq64 x y).mpr q)
          omega
        simp only [this, iff_true]
        decide
  exact lv_if_lt S.1 S.2.1 hdg ht (fun h => kt (hc.mp h)) (fun h => kf fun q => h (hc.mpr q))
theorem aw_cmp_gt {x y : Int64} : 0 < lg_cmp x y ↔ y < x := by
  unfold lg_cmp
  by_cases h1 : x > y
  · rw [if_pos h1]
    simp only [show y < x from h1, iff_true]
    decide
  · rw [if_neg h1]
    simp only [show ¬ y < x from h1, iff_false]
    by_cases h2 : x = y
    · rw [if_pos h2]; decide
    · rw [if_neg h2]; decide
theorem aw_cmp_eq {x y : Int64} : lg_cmp x y = 0 ↔ x = y := by
  unfold lg_cmp
  by_cases h1 : x > y
  · rw [if_pos h1]
    have : ¬ x = y := by rw [fa_eq64]; have := (fa_lt64 y x).mp h1; omega
    simp only [this, iff_false]
    decide
  · rw [if_neg h1]
    by_cases h2 : x = y
    · rw [if_pos h2]; simp [h2]
    · rw [if_neg h2]
      simp only [h2, iff_false]
      decide
theorem aw_lcmp_gt {x y : Int64} {off : Int} {tgt : Nat} (S : CallFix p m c cc nL s args Ts own) (hdg : decode cc pc = .ok (.ifCond .gt off, 3)) (ht : (pc : Int) + off = (tgt : Int)) (kt : y < x → W p l e R s m args below meth c H locs cells slots Q (F0 m tgt ls rest)) (kf : ¬ y < x → W p l e R s m args below meth c H locs cells slots Q (F0 m (pc + 3) ls rest)) : W p l e R s m args below meth c H locs cells slots Q (F0 m pc ls (.int (lg_cmp x y) :: rest)) :=
  lv_if_gt S.1 S.2.1 hdg ht (fun h => kt (aw_cmp_gt.mp h)) (fun h => kf fun q => h (aw_cmp_gt.mpr q))
theorem aw_lcmp_le {x y : Int64} {off : Int} {tgt : Nat} (S : CallFix p m c cc nL s args Ts own) (hdg : decode cc pc = .ok (.ifCond .le off, 3)) (ht : (pc : Int) + off = (tgt : Int)) (kt : ¬ y < x → W p l e R s m args below meth c H locs cells slots Q (F0 m tgt ls rest)) (kf : y < x → W p l e R s m args below meth c H locs cells slots Q (F0 m (pc + 3) ls rest)) : W p l e R s m args below meth c H locs cells slots Q (F0 m pc ls (.int (lg_cmp x y) :: rest)) := by
  have hz : ∀ z : Int32, z ≤ 0 ↔ ¬ 0 < z := fun z => by rw [fa_le, fa_lt]; omega
  exact lv_if_le S.1 S.2.1 hdg ht (fun h => kt fun q => (hz _).mp h (aw_cmp_gt.mpr q)) (fun h => kf (aw_cmp_gt.mp (Decidable.byContradiction fun q => h ((hz _).mpr q))))
theorem aw_lcmp_ne {x y : Int64} {off : Int} {tgt : Nat} (S : CallFix p m c cc nL s args Ts own) (hdg : decode cc pc = .ok (.ifCond .ne off, 3)) (ht : (pc : Int) + off = (tgt : Int)) (kt : ¬ x = y → W p l e R s m args below meth c H locs cells slots Q (F0 m tgt ls rest)) (kf : x = y → W p l e R s m args below meth c H locs cells slots Q (F0 m (pc + 3) ls rest)) : W p l e R s m args below meth c H locs cells slots Q (F0 m pc ls (.int (lg_cmp x y) :: rest)) :=
  lv_if_ne S.1 S.2.1 hdg ht (fun h => kt fun q => h (aw_cmp_eq.mpr q)) (fun h => kf (aw_cmp_eq.mp h))
theorem aw_lcmp_eq {x y : Int64} {off : Int} {tgt : Nat} (S : CallFix p m c cc nL s args Ts own) (hdg : decode cc pc = .ok (.ifCond .eq off, 3)) (ht : (pc : Int) + off = (tgt : Int)) (kt : x = y → W p l e R s m args below meth c H locs cells slots Q (F0 m tgt ls rest)) (kf : ¬ x = y → W p l e R s m args below meth c H locs cells slots Q (F0 m (pc + 3) ls rest)) : W p l e R s m args below meth c H locs cells slots Q (F0 m pc ls (.int (lg_cmp x y) :: rest)) :=
  lv_if_eq S.1 S.2.1 hdg ht (fun h => kt (aw_cmp_eq.mp h)) (fun h => kf fun q => h (aw_cmp_eq.mpr q))
theorem aw_lcmp_ge {x y : Int64} {off : Int} {tgt : Nat} (S : CallFix p m c cc nL s args Ts own) (hdg : decode cc pc = .ok (.ifCond .ge off, 3)) (ht : (pc : Int) + off = (tgt : Int)) (kt : ¬ x < y → W p l e R s m args below meth c H locs cells slots Q (F0 m tgt ls rest)) (kf : x < y → W p l e R s m args below meth c H locs cells slots Q (F0 m (pc + 3) ls rest)) : W p l e R s m args below meth c H locs cells slots Q (F0 m pc ls (.int (lg_cmp x y) :: rest)) := by
  have hc : 0 ≤ lg_cmp x y ↔ ¬ x < y := by
    unfold lg_cmp
    by_cases h1 : x > y
    · rw [if_pos h1]
      have : ¬ x < y := by rw [fa_lt64]; have := (fa_lt64 y x).mp h1; omega
      simp only [this, not_false_eq_true, iff_true]
      decide
    · rw [if_neg h1]
      by_cases h2 : x = y
      · rw [if_pos h2]
        subst h2
        have : ¬ x < x := by rw [fa_lt64]; omega
        simp only [this, not_false_eq_true, iff_true]
        decide
      · rw [if_neg h2]
        have : x < y := by
          rw [fa_lt64]
          have q1 : ¬ y.toInt < x.toInt := fun q => h1 ((fa_lt64 y x).mpr q)
          have q2 : ¬ x.toInt = y.toInt := fun q => h2 ((fa_eq64 x y).mpr q)
          omega
        simp only [this, not_true_eq_false, iff_false]
        decide
  exact lv_if_ge S.1 S.2.1 hdg ht (fun h => kt (hc.mp h)) (fun h => kf (Decidable.byContradiction fun q => h (hc.mpr q)))
end RB
