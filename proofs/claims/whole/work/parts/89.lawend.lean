theorem lwI_0 : lwI 0 (fun _ => 0) (fun _ => 0) (fun _ => none) (fun _ => 0) (fun _ => 0) (fun _ => 0) (fun _ _ => 0) (fun _ => 0) (fun _ => 0) 0 0 (fun _ => 0) (fun _ => 0) (fun _ => 0) (fun _ => 0) (fun _ => -1) (fun _ => 0) (fun _ _ => 0) (fun _ => -1) (fun _ => 0) (fun _ => 0) := by
  refine ⟨by omega, fun i hi => absurd hi (Nat.not_lt_zero i), fun i hi => absurd hi (Nat.not_lt_zero i), fun S hS => rfl, fun S hS => rfl, fun S hS => rfl, fun m hm => (show 0 ≤ (0 : Int32).toInt by decide), fun k hk i hi => (by rw [b_0] at hi; cases hi), by omega, by omega, fun k hk => absurd hk (Nat.not_lt_zero k), fun k hk => absurd hk (Nat.not_lt_zero k), fun k hk => absurd hk (Nat.not_lt_zero k), fun k hk => absurd hk (Nat.not_lt_zero k), fun k hk => ⟨(if_pos rfl).symm, fun h => absurd rfl h, Nat.zero_le _, fun h => absurd rfl h⟩⟩
set_option maxRecDepth 100000 in
set_option maxHeartbeats 4000000 in
/-- YOUR PART: from the entry, for every script of at most 3072 ints, the law comes to its end with true ('hflags': the launch's flags, for a law that throws: no stack traces) -/
theorem whole_start {p : Program} {e : Env} {s : State} {m : MethodId} {below : List Frame} {meth : Method} {c : Code} (l : Launch) (hflags : l.flags = flags0) {b L : Nat} {xs : Nat → Int32} (hL : L ≤ 3072) (C0 : lw_At p s m meth c b L xs) : W p l e room_1 s m #[Value.ref b] below meth c s.heap [] 0 0 (lw_Z below #[Value.ref b] s) (entryFrame m ([Value.ref b] : List Value).toArray 4) := by
  obtain ⟨hx, hb, hr, hml, hown, hts, hX, hbl, hlocks, hgv⟩ := id C0
  obtain ⟨G, hE⟩ := aw_start C0
  have S : CallFix p m c cL_law 4 s #[Value.ref b] wsL_law RL := ⟨hx, hb, hml, hown, fun w h => hts w (wsL_law_in w h)⟩
  have hRm : room_1 = room_1 := rfl
  obtain ⟨A, hAd⟩ : ∃ A : Nat → Prop, A = fun q : Nat => s.heap.size ≤ q := ⟨_, rfl⟩
  have hA : ∀ q : Nat, s.heap.size ≤ q → A q := fun q h => by rw [hAd]; exact h
  have hw : bW G A s.heap [] s.heap [] := ⟨fun k q h => by simp at h, ⟨fun i j p q h => by simp at h, fun k q h => by simp at h⟩, va_S.rf⟩
  have hl := lv_entry ([.ref b]) (n := 4) (Nat.le_of_ble_eq_true rfl)
  rw [lg_entry_eq]
  generalize (lg_sl ([.ref b]) ++ List.replicate (4 - (lg_sl ([.ref b])).length) Slot.unset).toArray = ls at hl ⊢
  have hl : lv_has ls 4 [(0, .ref b)] := hl
  have hinX10 : ∀ w ∈ u_ws RX10 TX10 8, w ∈ wsL_law := by decide +kernel
  have hz_cl7 := S.2.2.2.2 (.classLink RL 7 RX10) (by decide +kernel)
  have hz_in_X10 := S.2.2.2.2 (.instantiable RX10 8) (by decide +kernel)
  have hz_ini_X10 := S.2.2.2.2 (.initialized RX10) (by decide +kernel)
  have hz_ini_X10_init := S.2.2.2.2 (.initialized RX10) (by decide +kernel)
  have hz_im_X10_init := S.2.2.2.2 (.instanceMethod yX10_init) (by decide +kernel)
  have hz_lk9 := S.2.2.2.2 (.methodLink RL 9 yX10_init) (by decide +kernel)
  have hinX11 : ∀ w ∈ u_ws RX11 TX11 31, w ∈ wsL_law := by decide +kernel
  have hz_cl10 := S.2.2.2.2 (.classLink RL 10 RX11) (by decide +kernel)
  have hz_in_X11 := S.2.2.2.2 (.instantiable RX11 31) (by decide +kernel)
  have hz_ini_X11 := S.2.2.2.2 (.initialized RX11) (by decide +kernel)
  have hz_ini_X11_init := S.2.2.2.2 (.initialized RX11) (by decide +kernel)
  have hz_im_X11_init := S.2.2.2.2 (.instanceMethod yX11_init) (by decide +kernel)
  have hz_lk12 := S.2.2.2.2 (.methodLink RL 12 yX11_init) (by decide +kernel)
  refine aw_new S hE hw hA (ci := 9) (C := RX10) (T := TX10) (N := 8) (fs := [.null, .null, .null, .null, .null, .null, .null, .int 0]) rfl hinX10 tyX10 tyX10_ok hz_cl7 hz_in_X10 hz_ini_X10 (fun j hj => by rcases (show j = 0 ∨ j = 1 ∨ j = 2 ∨ j = 3 ∨ j = 4 ∨ j = 5 ∨ j = 6 ∨ j = 7 by omega) with rfl | rfl | rfl | rfl | rfl | rfl | rfl | rfl <;> rfl) (by rw [hRm]; exact Nat.le_of_ble_eq_true rfl) (by rw [hRm]; exact Nat.le_of_ble_eq_true rfl) dL_law_0 (fun q0 H hw => ?_)
  have hw : bW G A s.heap [[(q0, .inr (9, [.null, .null, .null, .null, .null, .null, .null, .int 0]))]] H [] := hw
  refine lv_dup S.1 S.2.1 dL_law_3 rfl ?_
  refine aw_callI (n := 0) S hE (c_X10_init l G q0) gL_law_X10_init rfl hz_ini_X10_init hz_lk9 hz_im_X10_init rfl (by decide +kernel) rfl (by rw [hRm]; exact ⟨Nat.le_of_ble_eq_true rfl, Nat.le_of_ble_eq_true rfl⟩) (by rw [hRm]; exact ⟨Nat.le_of_ble_eq_true rfl, Nat.le_of_ble_eq_true rfl⟩) hw hA hl.1 [0] rfl rfl rfl (Nat.le_of_ble_eq_true rfl) dL_law_4 ?_
  rintro v w1 H locs ⟨ad, sh, ca, rr, rfl, e0, rfl⟩ hw
  subst e0
  have hw : bW G A s.heap [[(ad 0, .inr (9, [.ref (ad 1), .ref (ad 2), .ref (ad 3), .ref (ad 4), .ref (ad 5), .ref (ad 6), .ref (ad 7), .int 0]))], [(ad 1, .inl (gH G, 4, .inr (.inr (.inr (.inr (fun q_ => some (sh q_)))))))], [(ad 2, .inr (0, [.ref (ad 8), .ref (ad 9), .ref (ad 10), .ref (ad 11), .ref (ad 12), .int (nI 0), .int 0]))], [(ad 8, .inl (gL G, 6, .inr (.inr (.inr (.inr (fun _ => none))))))], [(ad 9, .inl (gI G, 12, .inl (fun _ => 0)))], [(ad 10, .inl (gI G, 12, .inl (fun _ => 0)))], [(ad 11, .inl (gI G, 64, .inl (fun _ => 0)))], [(ad 12, .inl (gI G, 64, .inl (fun _ => 0)))], [(ad 3, .inr (3, [.ref (ad 2), .ref (ad 13), .ref (ad 14), .int 0, .int 0]))], [(ad 13, .inl (gI G, 6, .inl (fun _ => 0)))], [(ad 14, .inl (gI G, 6, .inl (fun _ => 0)))], [(ad 4, .inr (6, [.ref (ad 2), .ref (ad 15)]))], [(ad 15, .inl (gA G, 13, .inr (.inr (.inr (.inr (fun q_ => some (rr q_)))))))], [(ad 5, .inr (4, [.ref (ad 16), .ref (ad 17), .ref (ad 18), .ref (ad 19), .ref (ad 20), .ref (ad 21), .int (nI 0), .int (nI 0)]))], [(ad 16, .inl (gI G, 8, .inl (fun _ => 0)))], [(ad 17, .inl (gI G, 8, .inl (fun _ => 0)))], [(ad 18, .inl (gI G, 8, .inl (fun _ => 0)))], [(ad 19, .inl (gI G, 8, .inl (fun _ => 0)))], [(ad 20, .inl (gI G, 8, .inl (fun _ => 0)))], [(ad 21, .inl (gI G, 12, .inl (fun _ => 0)))], [(ad 6, .inr (2, [.int 0]))], [(ad 7, .inl (gI G, 12, .inl (fun _ => 0)))], fam 4 sh (shE ca (fun _ => -1) (fun _ => 0)), fam 4 ca (caE G (fun _ _ => 0)), fam 0 (fun _ => 0) (slE (fun _ => 0) (fun _ => 0) (fun _ => 0)), fam 13 rr (rrE G (fun _ _ => 0))] H locs := hw
  refine W.eq (g2 := (F0 m 7 ls [.ref (ad 0)])) rfl ?_
  refine lv_astore_n (lv' := [(1, .ref (ad 0)), (0, .ref b)]) S.1 S.2.1 dL_law_7 rfl hl (by decide) rfl (fun ls hl => ?_)
  refine aw_new S hE hw hA (ci := 10) (C := RX11) (T := TX11) (N := 31) (fs := [.int 0, .int 0, .null, .null, .null, .null, .null, .int 0, .int 0, .null, .null, .int 0, .int 0, .null, .null, .null, .null, .null, .null, .null, .null, .null, .int 0, .null, .null, .null, .null, .null, .null, .null, .int 0]) rfl hinX11 tyX11 tyX11_ok hz_cl10 hz_in_X11 hz_ini_X11 (fun j hj => by rcases (show j = 0 ∨ j = 1 ∨ j = 2 ∨ j = 3 ∨ j = 4 ∨ j = 5 ∨ j = 6 ∨ j = 7 ∨ j = 8 ∨ j = 9 ∨ j = 10 ∨ j = 11 ∨ j = 12 ∨ j = 13 ∨ j = 14 ∨ j = 15 ∨ j = 16 ∨ j = 17 ∨ j = 18 ∨ j = 19 ∨ j = 20 ∨ j = 21 ∨ j = 22 ∨ j = 23 ∨ j = 24 ∨ j = 25 ∨ j = 26 ∨ j = 27 ∨ j = 28 ∨ j = 29 ∨ j = 30 by omega) with rfl | rfl | rfl | rfl | rfl | rfl | rfl | rfl | rfl | rfl | rfl | rfl | rfl | rfl | rfl | rfl | rfl | rfl | rfl | rfl | rfl | rfl | rfl | rfl | rfl | rfl | rfl | rfl | rfl | rfl | rfl <;> rfl) (by rw [hRm]; exact Nat.le_of_ble_eq_true rfl) (by rw [hRm]; exact Nat.le_of_ble_eq_true rfl) dL_law_8 (fun q8 H hw => ?_)
  have hw : bW G A s.heap [[(ad 0, .inr (9, [.ref (ad 1), .ref (ad 2), .ref (ad 3), .ref (ad 4), .ref (ad 5), .ref (ad 6), .ref (ad 7), .int 0]))], [(ad 1, .inl (gH G, 4, .inr (.inr (.inr (.inr (fun q_ => some (sh q_)))))))], [(ad 2, .inr (0, [.ref (ad 8), .ref (ad 9), .ref (ad 10), .ref (ad 11), .ref (ad 12), .int (nI 0), .int 0]))], [(ad 8, .inl (gL G, 6, .inr (.inr (.inr (.inr (fun _ => none))))))], [(ad 9, .inl (gI G, 12, .inl (fun _ => 0)))], [(ad 10, .inl (gI G, 12, .inl (fun _ => 0)))], [(ad 11, .inl (gI G, 64, .inl (fun _ => 0)))], [(ad 12, .inl (gI G, 64, .inl (fun _ => 0)))], [(ad 3, .inr (3, [.ref (ad 2), .ref (ad 13), .ref (ad 14), .int 0, .int 0]))], [(ad 13, .inl (gI G, 6, .inl (fun _ => 0)))], [(ad 14, .inl (gI G, 6, .inl (fun _ => 0)))], [(ad 4, .inr (6, [.ref (ad 2), .ref (ad 15)]))], [(ad 15, .inl (gA G, 13, .inr (.inr (.inr (.inr (fun q_ => some (rr q_)))))))], [(ad 5, .inr (4, [.ref (ad 16), .ref (ad 17), .ref (ad 18), .ref (ad 19), .ref (ad 20), .ref (ad 21), .int (nI 0), .int (nI 0)]))], [(ad 16, .inl (gI G, 8, .inl (fun _ => 0)))], [(ad 17, .inl (gI G, 8, .inl (fun _ => 0)))], [(ad 18, .inl (gI G, 8, .inl (fun _ => 0)))], [(ad 19, .inl (gI G, 8, .inl (fun _ => 0)))], [(ad 20, .inl (gI G, 8, .inl (fun _ => 0)))], [(ad 21, .inl (gI G, 12, .inl (fun _ => 0)))], [(ad 6, .inr (2, [.int 0]))], [(ad 7, .inl (gI G, 12, .inl (fun _ => 0)))], fam 4 sh (shE ca (fun _ => -1) (fun _ => 0)), fam 4 ca (caE G (fun _ _ => 0)), fam 0 (fun _ => 0) (slE (fun _ => 0) (fun _ => 0) (fun _ => 0)), fam 13 rr (rrE G (fun _ _ => 0)), [(q8, .inr (10, [.int 0, .int 0, .null, .null, .null, .null, .null, .int 0, .int 0, .null, .null, .int 0, .int 0, .null, .null, .null, .null, .null, .null, .null, .null, .null, .int 0, .null, .null, .null, .null, .null, .null, .null, .int 0]))]] H locs := hw
  refine lv_dup S.1 S.2.1 dL_law_11 rfl ?_
  refine aw_callI (n := 0) S hE (c_X11_init l G q8) gL_law_X11_init rfl hz_ini_X11_init hz_lk12 hz_im_X11_init rfl (by decide +kernel) rfl (by rw [hRm]; exact ⟨Nat.le_of_ble_eq_true rfl, Nat.le_of_ble_eq_true rfl⟩) (by rw [hRm]; exact ⟨Nat.le_of_ble_eq_true rfl, Nat.le_of_ble_eq_true rfl⟩) hw hA hl.1 [26] rfl rfl rfl (Nat.le_of_ble_eq_true rfl) dL_law_12 ?_
  rintro v w1 H locs ⟨q7, q15, q23, q31, q39, q47, q55, q63, q71, q79, q87, q95, q103, q112, q121, q129, q137, q145, q153, q160, q167, q176, q184, rfl, rfl⟩ hw
  obtain ⟨am, rfl, rfl, rfl, rfl, rfl, rfl, rfl, rfl, rfl, rfl, rfl, rfl, rfl, rfl, rfl, rfl, rfl, rfl, rfl, rfl, rfl, rfl, rfl, rfl⟩ : ∃ am : Nat → Nat, am 2 = q7 ∧ am 3 = q15 ∧ am 4 = q23 ∧ am 5 = q31 ∧ am 6 = q39 ∧ am 9 = q47 ∧ am 10 = q55 ∧ am 13 = q63 ∧ am 14 = q71 ∧ am 15 = q79 ∧ am 16 = q87 ∧ am 17 = q95 ∧ am 18 = q103 ∧ am 19 = q112 ∧ am 20 = q121 ∧ am 21 = q129 ∧ am 23 = q137 ∧ am 24 = q145 ∧ am 25 = q153 ∧ am 26 = q160 ∧ am 27 = q167 ∧ am 28 = q176 ∧ am 29 = q184 ∧ am 31 = q8 := ⟨fun k => match k with | 2 => q7 | 3 => q15 | 4 => q23 | 5 => q31 | 6 => q39 | 9 => q47 | 10 => q55 | 13 => q63 | 14 => q71 | 15 => q79 | 16 => q87 | 17 => q95 | 18 => q103 | 19 => q112 | 20 => q121 | 21 => q129 | 23 => q137 | 24 => q145 | 25 => q153 | 26 => q160 | 27 => q167 | 28 => q176 | 29 => q184 | _ => q8, rfl, rfl, rfl, rfl, rfl, rfl, rfl, rfl, rfl, rfl, rfl, rfl, rfl, rfl, rfl, rfl, rfl, rfl, rfl, rfl, rfl, rfl, rfl, rfl⟩
  refine W.eq (g2 := (F0 m 15 ls [.ref (am 31)])) rfl ?_
  refine lv_astore_n (lv' := [(2, .ref (am 31)), (1, .ref (ad 0)), (0, .ref b)]) S.1 S.2.1 dL_law_15 rfl hl (by decide) rfl (fun ls hl => ?_)
  refine lv_iconst (v := 0) S.1 S.2.1 dL_law_16 (by decide) ?_
  refine lv_istore_n (lv' := [(3, .int 0), (2, .ref (am 31)), (1, .ref (ad 0)), (0, .ref b)]) S.1 S.2.1 dL_law_17 rfl hl (by decide) rfl (fun ls hl => ?_)
  subst hAd
  refine W.widen (k := 67 + 6 * 0) (n := 3567 + 18 * 0) (Nat.le_of_ble_eq_true rfl) (Nat.le_of_ble_eq_true rfl) ?_
  exact law_loop hL C0 hE ad sh ca rr am (L + 1) 0 (by omega) (by omega) _ _ _ (lv_sub hl [3, 2, 1, 0] rfl) ⟨0, 0, 0, fun _ => 0, fun _ => 0, fun _ => 0, fun _ => 0, 0, 0, fun _ => 0, fun _ => 0, 0, 0, fun _ => 0, fun _ => 0, fun _ => 0, fun _ => 0, fun _ => false, fun _ => 0, 0, fun _ => 0, fun _ => -1, fun _ => 0, fun _ _ => 0, fun _ => none, fun _ => 0, fun _ => 0, fun _ => 0, fun _ => 0, fun _ _ => 0, 0, 0, fun _ => 0, fun _ => 0, fun _ => 0, fun _ => 0, fun _ => 0, fun _ => 0, fun _ => 0, fun _ => 0, fun _ => 0, fun _ => -1, fun _ => 0, fun _ => 0, fun _ => 0, lwI_0, hw⟩
set_option maxHeartbeats 4000000 in
theorem lw_walk (l : Launch) (hflags : l.flags = flags0) (b : Addr) (xs : List Int32) : MetFree l x (headSpec (Jvm.Cond.code x code maxLocals ret :: tables_1) room_1) (lw_P b xs) (fun _ _ _ _ _ => True) lw_Q := by
  refine MetFree.of_bodyS (code := code) (maxLocals := maxLocals) (ret := ret) (by decide) ?_ ?_
  · intro args s m h hn
    obtain ⟨meth, c, h1, h2, h3, h4, h5, h6, -, -⟩ := Cond.code_spec hn (atoms_spec (ws := Jvm.Cond.code x code maxLocals ret :: tables_1) h _ List.mem_cons_self)
    exact ⟨meth, c, h1, h2, h3, h4, h5, h6⟩
  · intro p e s m args below meth c s₁ B hml0 hP _
    obtain ⟨rfl, hx, hbd, hgv⟩ := hP
    obtain ⟨scr, harrAt, hlist, hof, hsmall⟩ := hx
    obtain ⟨hcb, hkn, -, -⟩ := State.arrayAt?_spec harrAt
    have hown : s.vm.findClass R_law = some m.cls := findClass_of_methodNamed B.named
    have hts0 : ∀ c ∈ (Jvm.Cond.code x code maxLocals ret :: tables_1), c.before #[Value.ref b] s = true := atoms_spec (ws := Jvm.Cond.code x code maxLocals ret :: tables_1) B.pre
    have hts : ∀ w ∈ lw_tbl, w.before #[Value.ref b] s = true := k2_hts_sels lw_privs (fun w hw => hts0 w (List.mem_cons_of_mem _ hw)) lw_privs_ok
    have hml : c.maxLocals = 4 := B.maxLocals_eq (hts0 _ List.mem_cons_self)
    have X₀ : Stand p l e room_1 s m #[Value.ref b] below meth c s₁ [] 0 0 := Stand.of_body B
    have hh0 : s₁.heap = s.heap := by rw [B.state]; rfl
    have hsz : scr.slots.size = xs.length := by rw [← Array.length_toList, hlist, List.length_map]
    have hval : ∀ j : Nat, j < xs.length → scr.slots[j]? = some (.int (xs.getD j 0)) := fun j hj => by
      rw [← Array.getElem?_toList, hlist]
      simp [hj]
    have hbl : b < s.heap.size := (Array.getElem?_eq_some_iff.mp hcb).1
    have hX : va_X b xs.length (fun j => xs.getD j 0) s s.heap := ⟨scr, hcb, hof, hkn, hsz, hval⟩
    have K : W p l e room_1 s m #[Value.ref b] below meth c s₁.heap [] 0 0 (lw_Z below #[Value.ref b] s) (entryFrame m ([Value.ref b] : List Value).toArray 4) := by
      rw [hh0]
      exact whole_start l hflags hbd ⟨B.exec, B.bytes, B.returns, hml, hown, hts, hX, hbl, B.notSynchronized, hgv⟩
    obtain ⟨t, a1, o, b1, b2, b3⟩ := K s₁ rfl X₀
    exact ⟨t, o, a1, b1, b2, b3⟩
theorem lw_pre_spec {args : Array Value} {s : State} (h : (Jvm.Cond.and given_1 narrow_1).before args s = true) (hr : rest_1_c.before args s = true) : ∃ (b : Addr) (xs : List Int32), lw_P b xs args s := by
  have hs := flat_of_before _ h
  have hq := flat_of_before _ hr
  have hc : (Cond.count 1).before args s = true := hs _ (by decide +kernel)
  have harr : (Cond.arrayOf (.arg 0) .int).before args s = true := hs _ (by decide +kernel)
  have hle : (Cond.le (.length (.arg 0)) (.int 3072)).before args s = true := hs _ (by decide +kernel)
  have hlen : (Cond.isInt (.length (.arg 0))).before args s = true := hq _ (by decide +kernel)
  have hall : (Cond.all (.arg 0) (.isInt (.elem (.arg 0) (.index 0)))).before args s = true := hq _ (by decide +kernel)
  obtain ⟨b, xs, hb, hx⟩ := State.ints_of_pre rfl harr hlen hall
  have hsm : xs.length < 2 ^ 31 := hx.choose_spec.2.2.2
  have hev : (Term.length (.arg 0)).eval args s none [] s = some (.int xs.length.toInt32) := hx.length_eval hb
  have hv := Cond.le_ints hev (show (Term.int 3072).eval args s none [] s = some (.int 3072) from rfl)
  have hd : xs.length.toInt32 ≤ 3072 := by
    simpa [Cond.before, Cond.holds, hv] using hle
  have hN : xs.length ≤ 3072 := (Int32.ofNat_le_ofNat hsm (by decide)).mp (show Int32.ofNat xs.length ≤ Int32.ofNat 3072 from hd)
  exact ⟨b, xs, Cond.one_arg hc (show args[0]? = some (.ref b) from hb), hx, hN, h⟩
theorem lw_comes (l : Launch) (hflags : l.flags = flags0) : Comes l x (Jvm.Cond.code x code maxLocals ret :: tables_1) room_1 (fun tb e args s => Calls_1 tb e args s ∧ rest_1 tb e args s ∧ Pre_1 tb e args s)
    (fun _ _ args s o t => lw_Q args s o t) := by
  intro p e ha hc hk s m args below hf hfit hheap happ hpre
  obtain ⟨b, xs, hP⟩ := lw_pre_spec hpre.2.2 hpre.2.1
  obtain ⟨k, o, h1, h2, h3, hQ⟩ := lw_walk l hflags b xs p e ha hc hk s m args below hf ((Spec.applies_iff_loose hf).mp happ).1 hP trivial
  exact ⟨k, o, h1, h2, h3, hQ⟩
theorem lw_frame {s t : State} {o : Outcome} {args : Array Value} (h : Framed s o t [] 600000 7302250) :
    Framed s o t (fieldLocs frame_1_writes args s ++ arrayLocs frame_1_arrays args s ++ staticLocs frame_1_statics s) 600000 7302250 := h
theorem lw_limb (L : Cond) (hL : ∀ (args : Array Value) (s t : State), L.after args s (.returned (some (.int 1))) t = true) :
    ArmFor flags0 classFile x code maxLocals ret World_1 tables_1 room_1 Calls_1 rest_1 Pre_1
      (fun tb e a s o t => postC L tb e a s o t ∧ Framed s o t (fieldLocs frame_1_writes a s ++ arrayLocs frame_1_arrays a s ++ staticLocs frame_1_statics s) 600000 7302250) := by
  intro l hflags _ _ p e ha hc hk s m args below hf hfit hheap happ hpre
  obtain ⟨k, o, h1, h2, h3, rfl, hF⟩ := lw_comes l hflags p e ha hc hk s m args below hf hfit hheap happ hpre
  exact ⟨k, _, h1, h2, h3, hL args s _, lw_frame hF⟩
theorem i_vc : Claimed_1_1 ∧ Claimed_1_2 := ⟨lw_limb limb_1_1 (fun args s t => by simp [limb_1_1, Cond.after, Cond.holds, Cond.value]), lw_limb limb_1_2 (fun args s t => Cond.after_iff.mpr (by
  first | (rw [show limb_1_2 = Cond.eq .result (.int 1) from rfl, Cond.eq_ints (x := 1) (y := 1) rfl rfl]; simp; done) | (simp [limb_1_2, Cond.value, Term.eval]; done)))⟩
