/-! THE CLAIM OUT OF ONE WALK OF THE LAW'S BODY. Your part is whole_start (and what it stands on); all else here is the same for every law, but numbers. -/
def R_law : String := "AwakeTurnsLaw"
def lw_P (b : Addr) (xs : List Int32) (args : Array Value) (s : State) : Prop := args = #[.ref b] ∧ s.IntsAt b xs ∧ xs.length ≤ 3072 ∧ (Jvm.Cond.and given_1 narrow_1).before args s = true
def lw_Q (_ : Array Value) (s : State) (o : Outcome) (t : State) : Prop := o = .returned (some (.int 1)) ∧ Framed s o t [] 600000 7302250
def lw_Z (below : List Frame) (a : Array Value) (s : State) : State → Prop := fun t => ∃ o, t.status = .running ∧ Ended t below o ∧ lw_Q a s o t
/-- the law's own end, with 1 on the stack, nothing written that was there before, its room as the claim has it -/
theorem lw_ret {p : Program} {l : Launch} {e : Env} {s : State} {m : MethodId} {below : List Frame} {meth : Method} {c : Code} {b : Nat} (hx : p.tables.exec = Jvm.exec) (hb : c.code = code) (hr : meth.sig.returnType = ret) (hlocks : meth.locks = false) {pc : Nat} {H : Heap} {ls : Array Slot} (hdg : decode code pc = .ok (.ireturn, 1)) : W p l e room_1 s m #[Value.ref b] below meth c H [] 600000 7302250 (lw_Z below #[Value.ref b] s) (F0 m pc ls [.int 1]) := by
  intro T hT X
  obtain ⟨fs, hret, hrun, hended, hW, hframe⟩ := X.leave (v := some (.int 1)) (hlocks := hlocks) (fun h => by rw [hr] at h; cases h)
  have hmeth' : T.vm.method? m = some meth := X.method'
  refine ⟨T.setFrames fs, ?_, .returned (some (.int 1)), hrun, hended, rfl, ⟨_, rfl⟩, hW, hframe⟩
  jvm_step X.here [X.here.top, hx, hb, hdg, hmeth', hr, ret, narrow_b1]
  (try refine ⟨rfl, ?_⟩); (try refine ⟨rfl, ?_⟩)
  first | (intro acts; rw [hret _ acts rfl rfl rfl]) | rw [hret _ _ rfl rfl rfl]
  exact Steps.refl _
/-- what holds at the law's entry: the machine, the code, the tables' words (any of lw_tbl by 'hts w (by decide +kernel)'), the script of L ints xs at the cell b, what the Statement gives of the start (any of its parts by flat_of_before) -/
def lw_At (p : Program) (s : State) (m : MethodId) (meth : Method) (c : Code) (b L : Nat) (xs : Nat → Int32) : Prop :=
  p.tables.exec = Jvm.exec ∧ c.code = code ∧ meth.sig.returnType = ret ∧ c.maxLocals = 4 ∧ s.vm.findClass R_law = some m.cls ∧ (∀ w ∈ lw_tbl, w.before #[Value.ref b] s = true) ∧ va_X b L xs s s.heap ∧ b < s.heap.size ∧ meth.locks = false ∧ (Jvm.Cond.and given_1 narrow_1).before #[Value.ref b] s = true
def lwI (n : Nat) (kd : Nat → Int32) (sk : Nat → Int32) (sg : Nat → Option Nat) (sa : Nat → Nat) (so : Nat → Int32) (hs : Nat → Int32) (rs : Nat → Nat → Int32) (tu : Nat → Int32) (wa : Nat → Int32) (nn : Nat) (nr : Nat) (nf : Nat → Nat) (nt : Nat → Nat) (ro : Nat → Nat) (rmo : Nat → Nat) (ln : Nat → Int32) (le : Nat → Nat) (ce : Nat → Nat → Int32) (sz : Nat → Int32) (sl_ : Nat → Int32) (shm : Nat → Int32) : Prop :=
  (n ≤ 6) ∧ (∀ i, i < n → kd i = 0 ∨ kd i = 1 ∨ kd i = 2) ∧ (∀ i, i < n → sg i = some (sa i)) ∧ (∀ S, S < 2 ^ n → so S = soC n sk S) ∧ (∀ S, S < 2 ^ n → hs S = hsC n (fun j => hoK (kd j)) S) ∧ (∀ S, S < 64 → rs 12 S = 0) ∧ (∀ m, m < 12 → 0 ≤ (wa m).toInt) ∧ (∀ k, k < 12 → ∀ i, bt (tu k) i = true → i < n) ∧ (nn ≤ 8) ∧ (nr ≤ 8) ∧ (∀ k, k < nn → nf k < n) ∧ (∀ k, k < nn → nt k < n) ∧ (∀ k, k < nr → ro k < n) ∧ (∀ k, k < nr → rmo k < 12) ∧ (shR sz sl_ shm ln le ce)
/-- the world between two calls: the class and the reference side by side -/
def lwV (G : aw_G) (A : Nat → Prop) (H0 : Heap) (ad sh ca rr am : Nat → Nat) (H : Heap) (locs : List Loc) : Prop :=
  ∃ (fl : Int32) (n : Nat) (lw : Int32) (tu : Nat → Int32) (wa : Nat → Int32) (so : Nat → Int32) (hs : Nat → Int32) (la : Int32) (ub : Int32) (wh : Nat → Int32) (wk : Nat → Int32) (nn : Nat) (nr : Nat) (nf : Nat → Nat) (nt : Nat → Nat) (ro : Nat → Nat) (rmo : Nat → Nat) (rb : Nat → Bool) (kn : Nat → Int32) (tr : Int32) (td : Nat → Int32) (ln : Nat → Int32) (le : Nat → Nat) (ce : Nat → Nat → Int32) (sg : Nat → Option Nat) (sa : Nat → Nat) (kd : Nat → Int32) (sk : Nat → Int32) (br : Nat → Int32) (rs : Nat → Nat → Int32) (ra : Nat) (rsn : Nat) (rk : Nat → Int32) (rsk : Nat → Int32) (rbe : Nat → Int32) (me : Nat → Int32) (cn : Nat → Int32) (hb : Nat → Int32) (lf : Nat → Int32) (bf : Nat → Int32) (ks : Nat → Int32) (sz : Nat → Int32) (sl_ : Nat → Int32) (shm : Nat → Int32) (hd : Nat → Int32), lwI n kd sk sg sa so hs rs tu wa nn nr nf nt ro rmo ln le ce sz sl_ shm ∧ bW G A H0 [[(ad 0, .inr (9, [.ref (ad 1), .ref (ad 2), .ref (ad 3), .ref (ad 4), .ref (ad 5), .ref (ad 6), .ref (ad 7), .int fl]))], [(ad 1, .inl (gH G, 4, .inr (.inr (.inr (.inr (fun q_ => some (sh q_)))))))], [(ad 2, .inr (0, [.ref (ad 8), .ref (ad 9), .ref (ad 10), .ref (ad 11), .ref (ad 12), .int (nI n), .int lw]))], [(ad 8, .inl (gL G, 6, .inr (.inr (.inr (.inr sg)))))], [(ad 9, .inl (gI G, 12, .inl tu))], [(ad 10, .inl (gI G, 12, .inl wa))], [(ad 11, .inl (gI G, 64, .inl so))], [(ad 12, .inl (gI G, 64, .inl hs))], [(ad 3, .inr (3, [.ref (ad 2), .ref (ad 13), .ref (ad 14), .int la, .int ub]))], [(ad 13, .inl (gI G, 6, .inl wh))], [(ad 14, .inl (gI G, 6, .inl wk))], [(ad 4, .inr (6, [.ref (ad 2), .ref (ad 15)]))], [(ad 15, .inl (gA G, 13, .inr (.inr (.inr (.inr (fun q_ => some (rr q_)))))))], [(ad 5, .inr (4, [.ref (ad 16), .ref (ad 17), .ref (ad 18), .ref (ad 19), .ref (ad 20), .ref (ad 21), .int (nI nn), .int (nI nr)]))], [(ad 16, .inl (gI G, 8, .inl (fun k => nI (nf k))))], [(ad 17, .inl (gI G, 8, .inl (fun k => nI (nt k))))], [(ad 18, .inl (gI G, 8, .inl (fun k => nI (ro k))))], [(ad 19, .inl (gI G, 8, .inl (fun k => nI (rmo k))))], [(ad 20, .inl (gI G, 8, .inl (fun k => if rb k = true then 1 else 0)))], [(ad 21, .inl (gI G, 12, .inl kn))], [(ad 6, .inr (2, [.int tr]))], [(ad 7, .inl (gI G, 12, .inl td))], fam 4 sh (shE ca ln le), fam 4 ca (caE G ce), fam n sa (slE kd sk br), fam 13 rr (rrE G rs), [(am 31, mdO am fl n lw nn ra rsn nr tr)], [(am 2, .inl (gI G, 6, .inl kd))], [(am 3, .inl (gI G, 6, .inl sk))], [(am 4, .inl (gI G, 6, .inl br))], [(am 5, .inl (gI G, 12, .inl tu))], [(am 6, .inl (gI G, 12, .inl wa))], [(am 9, .inl (gI G, 8, .inl (fun k => nI (nf k))))], [(am 10, .inl (gI G, 8, .inl (fun k => nI (nt k))))], [(am 13, .inl (gI G, 6, .inl rk))], [(am 14, .inl (gI G, 6, .inl rsk))], [(am 15, .inl (gI G, 6, .inl rbe))], [(am 16, .inl (gI G, 12, .inl me))], [(am 17, .inl (gI G, 72, .inl cn))], [(am 18, .inl (gI G, 72, .inl hb))], [(am 19, .inl (gI G, 832, .inl lf))], [(am 20, .inl (gI G, 768, .inl bf))], [(am 21, .inl (gI G, 6, .inl ks))], [(am 23, .inl (gI G, 8, .inl (fun k => nI (ro k))))], [(am 24, .inl (gI G, 8, .inl (fun k => nI (rmo k))))], [(am 25, .inl (gZ G, 8, .inl (fun k => if rb k = true then 1 else 0)))], [(am 26, .inl (gI G, 4, .inl sz))], [(am 27, .inl (gI G, 4, .inl sl_))], [(am 28, .inl (gI G, 240, .inl shm))], [(am 29, .inl (gI G, 60, .inl hd))]] H locs
theorem aw_aOf {s : State} {cA comp : ClassId} {kA : Class} {ty : FieldType} (h2 : s.vm.classes[cA]? = some kA) (h3 : kA.kind = .array comp ty) : ArrOfT s cA ty := fun n z => ⟨(fun k h => by cases h), kA, h2, comp, h3⟩
set_option maxRecDepth 100000 in
set_option maxHeartbeats 4000000 in
theorem aw_start {p : Program} {s : State} {m : MethodId} {meth : Method} {c : Code} {b L : Nat} {xs : Nat → Int32} (C0 : lw_At p s m meth c b L xs) : ∃ G : aw_G, aw_E G s := by
  obtain ⟨hx, hb, hr, hml, hown, hts, hX, hbl, hlocks, hgv⟩ := C0
  have hT : ∀ w ∈ tables_1, w.before #[Value.ref b] s = true := fun w h => hts w (List.mem_append_right _ h)
  have hW : ∀ w ∈ wsL_law, w.before #[Value.ref b] s = true := fun w h => hts w (wsL_law_in w h)
  have hF := flat_of_before _ hgv
  obtain ⟨c0, i0, k0⟩ := u_known (C := RX0) (T := TX0) (N := 7) (n := 7) hW (by decide +kernel) (hW (.instantiable RX0 7) (by decide +kernel))
  obtain ⟨c1, i1, k1⟩ := u_known (C := RX1) (T := TX1) (N := 3) (n := 3) hW (by decide +kernel) (hW (.instantiable RX1 3) (by decide +kernel))
  obtain ⟨c2, i2, k2⟩ := u_known (C := RX2) (T := TX2) (N := 1) (n := 1) hW (by decide +kernel) (hW (.instantiable RX2 1) (by decide +kernel))
  obtain ⟨c3, i3, k3⟩ := u_known (C := RX3) (T := TX3) (N := 5) (n := 5) hW (by decide +kernel) (hW (.instantiable RX3 5) (by decide +kernel))
  obtain ⟨c4, i4, k4⟩ := u_known (C := RX4) (T := TX4) (N := 8) (n := 8) hW (by decide +kernel) (hW (.instantiable RX4 8) (by decide +kernel))
  obtain ⟨c5, i5, k5⟩ := u_known (C := RX5) (T := TX5) (N := 3) (n := 3) hW (by decide +kernel) (hW (.instantiable RX5 3) (by decide +kernel))
  obtain ⟨c6, i6, k6⟩ := u_known (C := RX6) (T := TX6) (N := 2) (n := 2) hW (by decide +kernel) (hW (.instantiable RX6 2) (by decide +kernel))
  obtain ⟨c7, i7, k7⟩ := u_known (C := RX7) (T := TX7) (N := 3) (n := 3) hW (by decide +kernel) (hW (.instantiable RX7 3) (by decide +kernel))
  obtain ⟨c8, i8, k8⟩ := u_known (C := RX8) (T := TX8) (N := 3) (n := 3) hW (by decide +kernel) (hW (.instantiable RX8 3) (by decide +kernel))
  obtain ⟨c9, i9, k9⟩ := u_known (C := RX10) (T := TX10) (N := 8) (n := 8) hW (by decide +kernel) (hW (.instantiable RX10 8) (by decide +kernel))
  obtain ⟨c10, i10, k10⟩ := u_known (C := RX11) (T := TX11) (N := 31) (n := 31) hW (by decide +kernel) (hW (.instantiable RX11 31) (by decide +kernel))
  obtain ⟨cI, kI, pI, a1, a2, a3⟩ := Cond.arrayClass_spec (hT (.arrayClass .int) (List.mem_of_getElem? (i := 45) (by decide +kernel)))
  obtain ⟨cZ, kZ, pZ, z1, z2, z3⟩ := Cond.arrayClass_spec (hT (.arrayClass .boolean) (List.mem_of_getElem? (i := 766) (by decide +kernel)))
  obtain ⟨pH, cH, kH, h1, -, h2, h3, h4⟩ := Cond.arrayOver_spec (hT (.arrayOver (.object "AwakeTurns$Sheet")) (List.mem_of_getElem? (i := 26) (by decide +kernel)))
  obtain ⟨pL, cL, kL, l1, -, l2, l3, l4⟩ := Cond.arrayOver_spec (hT (.arrayOver (.object "AwakeTurns$Sleeper")) (List.mem_of_getElem? (i := 53) (by decide +kernel)))
  obtain ⟨pA, cA, kA, y1, -, y2, y3, y4⟩ := arrayOverA_spec (hT (.arrayOver (.array .int)) (List.mem_of_getElem? (i := 119) (by decide +kernel)))
  refine ⟨((fun k => match k with | 0 => c0 | 1 => c1 | 2 => c2 | 3 => c3 | 4 => c4 | 5 => c5 | 6 => c6 | 7 => c7 | 8 => c8 | 9 => c9 | _ => c10, fun k => match k with | 0 => i0 | 1 => i1 | 2 => i2 | 3 => i3 | 4 => i4 | 5 => i5 | 6 => i6 | 7 => i7 | 8 => i8 | 9 => i9 | _ => i10), cI, cZ, cH, cL, cA), ⟨?_, ?_⟩, ⟨?_, ?_, ?_⟩, ⟨?_, ?_, ?_, ?_⟩, ⟨?_, ?_, ?_⟩, ⟨?_, ?_, ?_, ?_, ?_, ?_⟩, ?_⟩
  · intro k q hq
    match k, hq with
    | 0, hq => cases hq; exact k0
    | 1, hq => cases hq; exact k1
    | 2, hq => cases hq; exact k2
    | 3, hq => cases hq; exact k3
    | 4, hq => cases hq; exact k4
    | 5, hq => cases hq; exact k5
    | 6, hq => cases hq; exact k6
    | 7, hq => cases hq; exact k7
    | 8, hq => cases hq; exact k8
    | 9, hq => cases hq; exact k9
    | 10, hq => cases hq; exact k10
    | k + 11, hq => simp [vwCl] at hq
  · intro k q hq
    match k, hq with
    | 0, hq => cases hq; exact ⟨aw_aOf a2 a3, a1⟩
    | 1, hq => cases hq; exact ⟨aw_aOf z2 z3, z1⟩
    | 2, hq => cases hq; exact ⟨aw_aOf h2 h3, kH, pH, h2, h3, h1, h4⟩
    | 3, hq => cases hq; exact ⟨aw_aOf l2 l3, kL, pL, l2, l3, l1, l4⟩
    | 4, hq => cases hq; exact ⟨aw_aOf y2 y3, y4⟩
    | k + 5, hq => simp at hq
  · exact va_Nw.of rfl (hT (.methodLinkNest "AwakeTurns$MonthWalk" 74 yX10_isIn "AwakeTurns") (List.mem_of_getElem? (i := 394) (by decide +kernel)))
  · exact va_Nw.of rfl (hT (.methodLinkNest "AwakeTurns$News" 41 yX10_isIn "AwakeTurns") (List.mem_of_getElem? (i := 519) (by decide +kernel)))
  · exact va_Nw.of rfl (hT (.methodLinkNest "AwakeTurns$Plan" 53 yX10_isIn "AwakeTurns") (List.mem_of_getElem? (i := 464) (by decide +kernel)))
  · exact va_Nw.of rfl (hT (.methodLinkNest "AwakeTurns" 17 yX7_init "AwakeTurns") (List.mem_of_getElem? (i := 28) (by decide +kernel)))
  · exact va_Nw.of rfl (hT (.methodLinkNest "AwakeTurns" 20 yX0_init "AwakeTurns") (List.mem_of_getElem? (i := 48) (by decide +kernel)))
  · exact va_Nw.of rfl (hT (.methodLinkNest "AwakeTurns" 43 yX4_init "AwakeTurns") (List.mem_of_getElem? (i := 129) (by decide +kernel)))
  · exact va_Nw.of rfl (hT (.methodLinkNest "AwakeTurns" 50 yX2_init "AwakeTurns") (List.mem_of_getElem? (i := 163) (by decide +kernel)))
  · exact va_AO.of (hT (.arrayOver (.object "AwakeTurns$Sheet")) (List.mem_of_getElem? (i := 26) (by decide +kernel)))
  · exact va_AO.of (hT (.arrayOver (.object "AwakeTurns$Sleeper")) (List.mem_of_getElem? (i := 53) (by decide +kernel)))
  · exact va_AOA.of (hT (.arrayOver (.array .int)) (List.mem_of_getElem? (i := 119) (by decide +kernel)))
  · exact va_Nc.of (hF (.not (.castable "AwakeTurns$Sleeper" "AwakeTurns$Frail")) (by decide +kernel))
  · exact va_Nc.of (hF (.not (.castable "AwakeTurns$Sleeper" "AwakeTurns$Old")) (by decide +kernel))
  · exact va_Nc.of (hF (.not (.castable "AwakeTurns$Frail" "AwakeTurns$Old")) (by decide +kernel))
  · exact va_Nw.of rfl (hT (.castable "AwakeTurns$Old" "AwakeTurns$Frail") (List.mem_of_getElem? (i := 1054) (by decide +kernel)))
  · exact va_Nw.of rfl (hT (.castable "AwakeTurns$Frail" "AwakeTurns$Sleeper") (List.mem_of_getElem? (i := 1055) (by decide +kernel)))
  · exact va_Nw.of rfl (hT (.castable "AwakeTurns$Old" "AwakeTurns$Sleeper") (List.mem_of_getElem? (i := 1056) (by decide +kernel)))
  · exact a1
section LS
variable {p : Program} {l : Launch} {e : Env} {R : Room} {s : State} {m : MethodId} {args : Array Value} {below : List Frame} {meth : Method} {c : Code} {H : Heap} {locs : List Loc} {cells slots : Nat} {Q : State → Prop}
variable {G : aw_G} {A : Nat → Prop} {H0 : Heap} {wb : List va_W} {cc : ByteArray} {nL : Nat} {Ts : List Cond} {own : String} {pc : Nat} {ls : Array Slot} {rest : List Value} {b L : Nat} {xs : Nat → Int32}
/-- a number of the script -/
theorem aw_sld (S : CallFix p m c cc nL s args Ts own) (hX : va_X b L xs s H0) (hbl : b < H0.size) (hbA : ¬ A b) (hw : bW G A H0 wb H locs) {k : Nat} (hk : k < L) (hL : L < 2 ^ 31) (hdg : decode cc pc = .ok (.iaload, 1))
    (kk : W p l e R s m args below meth c H locs cells slots Q (F0 m (pc + 1) ls (.int (xs k) :: rest))) : W p l e R s m args below meth c H locs cells slots Q (F0 m pc ls (.int (nI k) :: .ref b :: rest)) := by
  refine va_sld S.1 S.2.1 hX hbl hbA hw.2.2 (vp_in_nI hk hL) hdg ?_
  rw [nI_clamp (by omega)]
  exact kk
theorem aw_slen (S : CallFix p m c cc nL s args Ts own) (hX : va_X b L xs s H0) (hbl : b < H0.size) (hbA : ¬ A b) (hw : bW G A H0 wb H locs) (hdg : decode cc pc = .ok (.arraylength, 1))
    (kk : W p l e R s m args below meth c H locs cells slots Q (F0 m (pc + 1) ls (.int (nI L) :: rest))) : W p l e R s m args below meth c H locs cells slots Q (F0 m pc ls (.ref b :: rest)) := va_slen S.1 S.2.1 hX hbl hbA hw.2.2 hdg kk
end LS
/-! what the calls keep -/
theorem bt_lt {x : Int32} {i : Nat} (h : bt x i = true) : i < 32 := BitVec.lt_of_getLsbD h
theorem lwI_up {n : Nat} {kd : Nat → Int32} {sk : Nat → Int32} {sg : Nat → Option Nat} {sa : Nat → Nat} {so : Nat → Int32} {hs : Nat → Int32} {rs : Nat → Nat → Int32} {tu : Nat → Int32} {wa : Nat → Int32} {nn : Nat} {nr : Nat} {nf : Nat → Nat} {nt : Nat → Nat} {ro : Nat → Nat} {rmo : Nat → Nat} {ln : Nat → Int32} {le : Nat → Nat} {ce : Nat → Nat → Int32} {sz : Nat → Int32} {sl_ : Nat → Int32} {shm : Nat → Int32} (sv mo : Int32) (is_ : Bool) (h : lwI n kd sk sg sa so hs rs tu wa nn nr nf nt ro rmo ln le ce sz sl_ shm) : lwI n kd sk sg sa so hs rs (f_upT n tu sv mo is_) wa nn nr nf nt ro rmo ln le ce sz sl_ shm := by
  obtain ⟨hn, hkd, hsg, hso, hhs, h12, hwa, htu, hnn, hnr, hnf, hnt, hro, hrm, hR⟩ := h
  refine ⟨hn, hkd, hsg, hso, hhs, h12, hwa, ?_, hnn, hnr, hnf, hnt, hro, hrm, hR⟩
  intro k hk i hi
  unfold f_upT at hi
  split at hi
  · rename_i hc
    unfold upd at hi
    split at hi
    · have hsv : tn sv < n := aw_tnL hc.1
      have hmo : tn mo < 12 := aw_tnL hc.2
      unfold f_upV at hi
      have h32 : i < 32 := bt_lt hi
      split at hi
      · rw [b_or, b_bit (by omega) h32, Bool.or_eq_true, decide_eq_true_eq] at hi
        rcases hi with q | q
        · exact htu _ hmo i q
        · omega
      · rw [b_and, Bool.and_eq_true] at hi
        exact htu _ hmo i hi.1
    · exact htu k hk i hi
  · exact htu k hk i hi
theorem lwI_wants {n : Nat} {kd : Nat → Int32} {sk : Nat → Int32} {sg : Nat → Option Nat} {sa : Nat → Nat} {so : Nat → Int32} {hs : Nat → Int32} {rs : Nat → Nat → Int32} {tu : Nat → Int32} {wa : Nat → Int32} {nn : Nat} {nr : Nat} {nf : Nat → Nat} {nt : Nat → Nat} {ro : Nat → Nat} {rmo : Nat → Nat} {ln : Nat → Int32} {le : Nat → Nat} {ce : Nat → Nat → Int32} {sz : Nat → Int32} {sl_ : Nat → Int32} {shm : Nat → Int32} (mo sv : Int32) (h : lwI n kd sk sg sa so hs rs tu wa nn nr nf nt ro rmo ln le ce sz sl_ shm) : lwI n kd sk sg sa so hs rs tu (f_wantsT n wa mo sv) nn nr nf nt ro rmo ln le ce sz sl_ shm := by
  obtain ⟨hn, hkd, hsg, hso, hhs, h12, hwa, htu, hnn, hnr, hnf, hnt, hro, hrm, hR⟩ := h
  refine ⟨hn, hkd, hsg, hso, hhs, h12, ?_, htu, hnn, hnr, hnf, hnt, hro, hrm, hR⟩
  intro k hk
  unfold f_wantsT
  split
  · rename_i hc
    unfold upd
    split
    · exact hc.2.1.1
    · exact hwa k hk
  · exact hwa k hk
theorem lwI_note {n : Nat} {kd : Nat → Int32} {sk : Nat → Int32} {sg : Nat → Option Nat} {sa : Nat → Nat} {so : Nat → Int32} {hs : Nat → Int32} {rs : Nat → Nat → Int32} {tu : Nat → Int32} {wa : Nat → Int32} {nn : Nat} {nr : Nat} {nf : Nat → Nat} {nt : Nat → Nat} {ro : Nat → Nat} {rmo : Nat → Nat} {ln : Nat → Int32} {le : Nat → Nat} {ce : Nat → Nat → Int32} {sz : Nat → Int32} {sl_ : Nat → Int32} {shm : Nat → Int32} (sv so_ : Int32) (hP : f_noteP n sv so_) (h : lwI n kd sk sg sa so hs rs tu wa nn nr nf nt ro rmo ln le ce sz sl_ shm) : lwI n kd sk sg sa so hs rs tu wa (min (nn + 1) 8) nr (nupd nn (tn sv) nf) (nupd nn (tn so_) nt) ro rmo ln le ce sz sl_ shm := by
  obtain ⟨hn, hkd, hsg, hso, hhs, h12, hwa, htu, hnn, hnr, hnf, hnt, hro, hrm, hR⟩ := h
  have h1 : tn sv < n := aw_tnL hP.1.1
  have h2 : tn so_ < n := aw_tnL hP.1.2
  refine ⟨hn, hkd, hsg, hso, hhs, h12, hwa, htu, by omega, hnr, ?_, ?_, hro, hrm, hR⟩
  · intro k hk
    unfold nupd
    split
    · exact h1
    · exact hnf k (by omega)
  · intro k hk
    unfold nupd
    split
    · exact h2
    · exact hnt k (by omega)
theorem lwI_tear {n : Nat} {kd : Nat → Int32} {sk : Nat → Int32} {sg : Nat → Option Nat} {sa : Nat → Nat} {so : Nat → Int32} {hs : Nat → Int32} {rs : Nat → Nat → Int32} {tu : Nat → Int32} {wa : Nat → Int32} {nn : Nat} {nr : Nat} {nf : Nat → Nat} {nt : Nat → Nat} {ro : Nat → Nat} {rmo : Nat → Nat} {ln : Nat → Int32} {le : Nat → Nat} {ce : Nat → Nat → Int32} {sz : Nat → Int32} {sl_ : Nat → Int32} {shm : Nat → Int32} (k : Int32) (h : lwI n kd sk sg sa so hs rs tu wa nn nr nf nt ro rmo ln le ce sz sl_ shm) : lwI n kd sk sg sa so hs rs tu wa (f_tearT nn k) nr nf nt ro rmo ln le ce sz sl_ shm := by
  obtain ⟨hn, hkd, hsg, hso, hhs, h12, hwa, htu, hnn, hnr, hnf, hnt, hro, hrm, hR⟩ := h
  have h1 : f_tearT nn k ≤ nn := by unfold f_tearT; split <;> omega
  exact ⟨hn, hkd, hsg, hso, hhs, h12, hwa, htu, by omega, hnr, fun j hj => hnf j (by omega), fun j hj => hnt j (by omega), hro, hrm, hR⟩
theorem lwI_back {n : Nat} {kd : Nat → Int32} {sk : Nat → Int32} {sg : Nat → Option Nat} {sa : Nat → Nat} {so : Nat → Int32} {hs : Nat → Int32} {rs : Nat → Nat → Int32} {tu : Nat → Int32} {wa : Nat → Int32} {nn : Nat} {nr : Nat} {nf : Nat → Nat} {nt : Nat → Nat} {ro : Nat → Nat} {rmo : Nat → Nat} {ln : Nat → Int32} {le : Nat → Nat} {ce : Nat → Nat → Int32} {sz : Nat → Int32} {sl_ : Nat → Int32} {shm : Nat → Int32} (k : Int32) (h : lwI n kd sk sg sa so hs rs tu wa nn nr nf nt ro rmo ln le ce sz sl_ shm) : lwI n kd sk sg sa so hs rs tu wa nn (f_tearT nr k) nf nt ro rmo ln le ce sz sl_ shm := by
  obtain ⟨hn, hkd, hsg, hso, hhs, h12, hwa, htu, hnn, hnr, hnf, hnt, hro, hrm, hR⟩ := h
  have h1 : f_tearT nr k ≤ nr := by unfold f_tearT; split <;> omega
  exact ⟨hn, hkd, hsg, hso, hhs, h12, hwa, htu, hnn, by omega, hnf, hnt, fun j hj => hro j (by omega), fun j hj => hrm j (by omega), hR⟩
theorem lwI_read {n : Nat} {kd : Nat → Int32} {sk : Nat → Int32} {sg : Nat → Option Nat} {sa : Nat → Nat} {so : Nat → Int32} {hs : Nat → Int32} {rs : Nat → Nat → Int32} {tu : Nat → Int32} {wa : Nat → Int32} {nn : Nat} {nr : Nat} {nf : Nat → Nat} {nt : Nat → Nat} {ro : Nat → Nat} {rmo : Nat → Nat} {ln : Nat → Int32} {le : Nat → Nat} {ce : Nat → Nat → Int32} {sz : Nat → Int32} {sl_ : Nat → Int32} {shm : Nat → Int32} (sv mo : Int32) (hP : f_smP n sv mo) (h : lwI n kd sk sg sa so hs rs tu wa nn nr nf nt ro rmo ln le ce sz sl_ shm) : lwI n kd sk sg sa so hs rs tu wa nn (min (nr + 1) 8) nf nt (nupd nr (tn sv) ro) (nupd nr (tn mo) rmo) ln le ce sz sl_ shm := by
  obtain ⟨hn, hkd, hsg, hso, hhs, h12, hwa, htu, hnn, hnr, hnf, hnt, hro, hrm, hR⟩ := h
  have h1 : tn sv < n := aw_tnL hP.1
  have h2 : tn mo < 12 := aw_tnL hP.2
  refine ⟨hn, hkd, hsg, hso, hhs, h12, hwa, htu, hnn, by omega, hnf, hnt, ?_, ?_, hR⟩
  · intro k hk
    unfold nupd
    split
    · exact h1
    · exact hro k (by omega)
  · intro k hk
    unfold nupd
    split
    · exact h2
    · exact hrm k (by omega)
theorem lwI_rs {n : Nat} {kd : Nat → Int32} {sk : Nat → Int32} {sg : Nat → Option Nat} {sa : Nat → Nat} {so : Nat → Int32} {hs : Nat → Int32} {rs : Nat → Nat → Int32} {tu : Nat → Int32} {wa : Nat → Int32} {nn : Nat} {nr : Nat} {nf : Nat → Nat} {nt : Nat → Nat} {ro : Nat → Nat} {rmo : Nat → Nat} {ln : Nat → Int32} {le : Nat → Nat} {ce : Nat → Nat → Int32} {sz : Nat → Int32} {sl_ : Nat → Int32} {shm : Nat → Int32} (r2 : Nat → Nat → Int32) (h2 : ∀ S, S < 64 → r2 12 S = 0) (h : lwI n kd sk sg sa so hs rs tu wa nn nr nf nt ro rmo ln le ce sz sl_ shm) : lwI n kd sk sg sa so hs r2 tu wa nn nr nf nt ro rmo ln le ce sz sl_ shm := by
  obtain ⟨hn, hkd, hsg, hso, hhs, h12, hwa, htu, hnn, hnr, hnf, hnt, hro, hrm, hR⟩ := h
  exact ⟨hn, hkd, hsg, hso, hhs, h2, hwa, htu, hnn, hnr, hnf, hnt, hro, hrm, hR⟩
theorem lwI_sh {n : Nat} {kd : Nat → Int32} {sk : Nat → Int32} {sg : Nat → Option Nat} {sa : Nat → Nat} {so : Nat → Int32} {hs : Nat → Int32} {rs : Nat → Nat → Int32} {tu : Nat → Int32} {wa : Nat → Int32} {nn : Nat} {nr : Nat} {nf : Nat → Nat} {nt : Nat → Nat} {ro : Nat → Nat} {rmo : Nat → Nat} {ln : Nat → Int32} {le : Nat → Nat} {ce : Nat → Nat → Int32} {sz : Nat → Int32} {sl_ : Nat → Int32} {shm : Nat → Int32} (ln2 : Nat → Int32) (le2 : Nat → Nat) (ce2 : Nat → Nat → Int32) (s1 s2 s3 : Nat → Int32) (h2 : shR s1 s2 s3 ln2 le2 ce2) (h : lwI n kd sk sg sa so hs rs tu wa nn nr nf nt ro rmo ln le ce sz sl_ shm) : lwI n kd sk sg sa so hs rs tu wa nn nr nf nt ro rmo ln2 le2 ce2 s1 s2 s3 := by
  obtain ⟨hn, hkd, hsg, hso, hhs, h12, hwa, htu, hnn, hnr, hnf, hnt, hro, hrm, hR⟩ := h
  exact ⟨hn, hkd, hsg, hso, hhs, h12, hwa, htu, hnn, hnr, hnf, hnt, hro, hrm, h2⟩
theorem b2c : ∀ c, c < 6 → ∀ S, S < 64 → 2 ^ c ≤ S → S < 2 ^ c + 2 ^ c → S.testBit c = true ∧ ∀ j, j < c → S.testBit j = (S - 2 ^ c).testBit j := by decide +kernel
theorem tgF_set {a b : Int32} {kn : Nat → Int32} : ∀ {n : Nat}, (∀ j, j < n → bt a j = bt b j) → tgF a kn n = tgF b kn n
  | 0, _ => rfl
  | n + 1, h => by
    unfold tgF
    rw [tgF_set (fun j hj => h j (by omega)), h n (by omega)]
theorem hmF_set {a b : Int32} {kn : Nat → Int32} : ∀ {n : Nat}, (∀ j, j < n → bt a j = bt b j) → hmF a kn n = hmF b kn n
  | 0, _ => rfl
  | n + 1, h => by
    unfold hmF
    rw [hmF_set (fun j hj => h j (by omega)), h n (by omega)]
theorem hmF_cong {set : Int32} {k1 k2 : Nat → Int32} : ∀ {n : Nat}, (∀ j, j < n → k1 j = k2 j) → hmF set k1 n = hmF set k2 n
  | 0, _ => rfl
  | n + 1, h => by
    unfold hmF
    rw [hmF_cong (fun j hj => h j (by omega)), h n (by omega)]
theorem tgF_0 {kn : Nat → Int32} : ∀ n, tgF (nI 0) kn n = 0
  | 0 => rfl
  | n + 1 => by
    unfold tgF
    rw [tgF_0 n, if_neg (by rw [b_nI _ (by decide), Nat.zero_testBit]; decide)]
theorem hmF_0 {kn : Nat → Int32} : ∀ n, hmF (nI 0) kn n = 0
  | 0 => rfl
  | n + 1 => by
    unfold hmF
    rw [hmF_0 n, if_neg (by rw [b_nI _ (by decide), Nat.zero_testBit]; decide)]
theorem soT_ok {sk so : Nat → Int32} (h0 : so 0 = 0) : ∀ c, c ≤ 6 → ∀ S, S < 2 ^ c → soT sk so c S = soC c sk S
  | 0, _, S, hS => by
    rw [show S = 0 by have : (2 : Nat) ^ 0 = 1 := rfl; omega]
    exact h0
  | c + 1, hc, S, hS => by
    have hp : 2 ^ (c + 1) = 2 ^ c + 2 ^ c := by rw [Nat.pow_succ]; omega
    have h64 := pow6 (c := c) (n := 6) (by omega) (Nat.le_refl _)
    show tsF c (2 ^ c) (sk c) (soT sk so c) S = soC (c + 1) sk S
    unfold tsF soC tgF
    by_cases q : 2 ^ c ≤ S
    · obtain ⟨e1, e2⟩ := b2c c (by omega) S (by omega) q (by omega)
      rw [if_pos ⟨q, by omega⟩, soT_ok h0 c (by omega) (S - 2 ^ c) (by omega), b_nI _ (by omega), if_pos e1]
      unfold soC
      rw [tgF_set (a := nI S) (b := nI (S - 2 ^ c)) (fun j hj => by rw [b_nI _ (by omega), b_nI _ (by omega)]; exact e2 j hj)]
    · rw [if_neg (fun z => q z.1), soT_ok h0 c (by omega) S (by omega), b_nI _ (by omega), if_neg (by rw [Nat.testBit_lt_two_pow (by omega)]; decide)]
      rfl
theorem hsT_ok {kd hs : Nat → Int32} (h0 : hs 0 = 0) : ∀ c, c ≤ 6 → ∀ S, S < 2 ^ c → hsT kd hs c S = hsC c (fun j => hoK (kd j)) S
  | 0, _, S, hS => by
    rw [show S = 0 by have : (2 : Nat) ^ 0 = 1 := rfl; omega]
    exact h0
  | c + 1, hc, S, hS => by
    have hp : 2 ^ (c + 1) = 2 ^ c + 2 ^ c := by rw [Nat.pow_succ]; omega
    have h64 := pow6 (c := c) (n := 6) (by omega) (Nat.le_refl _)
    show thF c (2 ^ c) (hoK (kd c)) (hsT kd hs c) S = hsC (c + 1) (fun j => hoK (kd j)) S
    unfold thF hsC hmF
    by_cases q : 2 ^ c ≤ S
    · obtain ⟨e1, e2⟩ := b2c c (by omega) S (by omega) q (by omega)
      rw [if_pos ⟨q, by omega⟩, hsT_ok h0 c (by omega) (S - 2 ^ c) (by omega), b_nI _ (by omega), if_pos e1]
      unfold hsC
      rw [hmF_set (a := nI S) (b := nI (S - 2 ^ c)) (fun j hj => by rw [b_nI _ (by omega), b_nI _ (by omega)]; exact e2 j hj)]
    · rw [if_neg (fun z => q z.1), hsT_ok h0 c (by omega) S (by omega), b_nI _ (by omega), if_neg (by rw [Nat.testBit_lt_two_pow (by omega)]; decide)]
      rfl
theorem kdT_or (x : Int32) : kdT x = 0 ∨ kdT x = 1 ∨ kdT x = 2 := by
  unfold kdT
  split
  · exact Or.inr (Or.inl rfl)
  · split
    · exact Or.inr (Or.inr rfl)
    · exact Or.inl rfl
theorem lwI_ship {n : Nat} {kd : Nat → Int32} {sk : Nat → Int32} {sg : Nat → Option Nat} {sa : Nat → Nat} {so : Nat → Int32} {hs : Nat → Int32} {rs : Nat → Nat → Int32} {tu : Nat → Int32} {wa : Nat → Int32} {nn : Nat} {nr : Nat} {nf : Nat → Nat} {nt : Nat → Nat} {ro : Nat → Nat} {rmo : Nat → Nat} {ln : Nat → Int32} {le : Nat → Nat} {ce : Nat → Nat → Int32} {sz : Nat → Int32} {sl_ : Nat → Int32} {shm : Nat → Int32} (cn2 : Nat) (hc : cn2 ≤ 6) (f : Nat → Int32) (i : Nat) (kd2 sk2 br2 : Nat → Int32) (sa2 : Nat → Nat) (sg2 : Nat → Option Nat) (h2 : ∀ j, j < cn2 → sg2 j = some (sa2 j)) (h3 : ∀ j, j < cn2 → kd2 j = tkd f i j ∧ sk2 j = tsk f i j ∧ br2 j = tbr f i j) (h : lwI n kd sk sg sa so hs rs tu wa nn nr nf nt ro rmo ln le ce sz sl_ shm) : lwI cn2 kd2 sk2 sg2 sa2 (soT (tsk f i) so cn2) (hsT (tkd f i) hs cn2) rs (fun _ => 0) (fun _ => 0) 0 0 nf nt ro rmo ln le ce sz sl_ shm := by
  obtain ⟨hn, hkd, hsg, hso, hhs, h12, hwa, htu, hnn, hnr, hnf, hnt, hro, hrm, hR⟩ := h
  have s0 : so 0 = 0 := by rw [hso 0 (Nat.two_pow_pos n)]; exact tgF_0 n
  have z0 : hs 0 = 0 := by rw [hhs 0 (Nat.two_pow_pos n)]; exact hmF_0 n
  refine ⟨hc, ?_, h2, ?_, ?_, h12, fun _ _ => (show 0 ≤ (0 : Int32).toInt by decide), ?_, by omega, by omega, fun k hk => absurd hk (Nat.not_lt_zero k), fun k hk => absurd hk (Nat.not_lt_zero k), fun k hk => absurd hk (Nat.not_lt_zero k), fun k hk => absurd hk (Nat.not_lt_zero k), hR⟩
  · intro j hj
    rw [(h3 j hj).1]; exact kdT_or _
  · intro S hS
    rw [soT_ok s0 cn2 hc S hS]
    exact tgF_cong (fun j hj => (h3 j hj).2.1.symm)
  · intro S hS
    rw [hsT_ok z0 cn2 hc S hS]
    exact hmF_cong (fun j hj => by rw [(h3 j hj).1])
  · intro k _ j hj
    rw [b_0] at hj; cases hj
theorem slE_cong {k1 s1 b1 k2 s2 b2 : Nat → Int32} {i : Nat} (h : k1 i = k2 i ∧ s1 i = s2 i ∧ b1 i = b2 i) : slE k1 s1 b1 i = slE k2 s2 b2 i := by
  unfold slE
  rw [h.1, h.2.1, h.2.2]
