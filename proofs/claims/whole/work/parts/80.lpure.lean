/-! the least harm: one sleeper at a time, or all pairs of sets: the same -/
/-- what warming those of U that are not of S costs, of the first so many -/
def cst (o : Nat → Nat) (U S : Nat) : Nat → Nat
  | 0 => 0
  | s + 1 => cst o U S s + (if U.testBit s = true ∧ ¬ S.testBit s = true then o s else 0)
theorem cst_le {o : Nat → Nat} (ho : ∀ j, o j ≤ 4) (U S : Nat) : ∀ s, cst o U S s ≤ 4 * s
  | 0 => Nat.le_refl _
  | s + 1 => by
    have h1 := cst_le ho U S s
    have h2 := ho s
    unfold cst
    split <;> omega
theorem cst_self {o : Nat → Nat} {U : Nat} : ∀ s, cst o U U s = 0
  | 0 => rfl
  | s + 1 => by
    unfold cst
    rw [cst_self s, if_neg (fun q => q.2 q.1)]
theorem cst_cong {o : Nat → Nat} {U S T : Nat} : ∀ s, (∀ j, j < s → S.testBit j = T.testBit j) → cst o U S s = cst o U T s
  | 0, _ => rfl
  | s + 1, h => by
    unfold cst
    rw [cst_cong s (fun j hj => h j (by omega)), h s (by omega)]
def agB (U S s : Nat) : Prop := ∀ j, s ≤ j → j < 6 → U.testBit j = S.testBit j
theorem bsub : ∀ s, s < 6 → ∀ S, S < 64 → S.testBit s = true → ∀ j, j < 6 → (S - 2 ^ s).testBit j = (S.testBit j && !decide (j = s)) := by decide +kernel
theorem badd : ∀ s, s < 6 → ∀ S, S < 64 → S.testBit s = false → ∀ j, j < 6 → (S + 2 ^ s).testBit j = (S.testBit j || decide (j = s)) := by decide +kernel
theorem bits_eq {U S : Nat} (hU : U < 64) (hS : S < 64) (h : agB U S 0) : U = S := by
  apply Nat.eq_of_testBit_eq
  intro j
  rcases Nat.lt_or_ge j 6 with q | q
  · exact h j (Nat.zero_le _) q
  · have h2 : 2 ^ 6 ≤ 2 ^ j := Nat.pow_le_pow_right (by omega) q
    rw [Nat.testBit_lt_two_pow (by omega), Nat.testBit_lt_two_pow (by omega)]
theorem mn_n {a b : Nat} (ha : a < 2 ^ 31) (hb : b < 2 ^ 31) : mn (nI a) (nI b) = nI (min a b) := by
  unfold mn
  by_cases h : b < a
  · rw [if_pos ((nI_ltI hb ha).mpr h), Nat.min_eq_right (by omega)]
  · rw [if_neg (fun q => h ((nI_ltI hb ha).mp q)), Nat.min_eq_left (by omega)]
theorem chs_min {n : Nat} (hn : n ≤ 6) {hs f : Nat → Int32} {o f' : Nat → Nat} (ho : ∀ j, o j ≤ 4) (hhs : ∀ s, s < n → hs (2 ^ s) = nI (o s)) (hf : ∀ U, U < 2 ^ n → f U = nI (f' U) ∧ f' U ≤ 1048576) :
    ∀ s, s ≤ n → ∃ g : Nat → Nat, ∀ S, S < 2 ^ n → chs n hs f s S = nI (g S) ∧ g S ≤ 1048576 ∧ (∀ U, U < 2 ^ n → agB U S s → g S ≤ cst o U S s + f' U) ∧ ∃ U, U < 2 ^ n ∧ agB U S s ∧ g S = cst o U S s + f' U
  | 0, _ => by
    have h64 := pow6' hn
    refine ⟨f', fun S hS => ⟨(hf S hS).1, (hf S hS).2, fun U hU ha => ?_, S, hS, fun j _ _ => rfl, by simp [cst]⟩⟩
    rw [bits_eq (by omega) (by omega) ha]; simp [cst]
  | s + 1, hsn => by
    obtain ⟨g, ih⟩ := chs_min hn ho hhs hf s (by omega)
    have h64 := pow6' hn
    refine ⟨fun S => if S.testBit s = true then min (g (S - 2 ^ s)) (g S) else min (g S) (g (S + 2 ^ s) + o s), fun S hS => ?_⟩
    have hos := ho s
    by_cases hb : S.testBit s = true
    · have hT : S - 2 ^ s < 2 ^ n := Nat.lt_of_le_of_lt (Nat.sub_le _ _) hS
      obtain ⟨a1, a2, a3, U1, a4, a5, a6⟩ := ih S hS
      obtain ⟨b1, b2, b3, U2, b4, b5, b6⟩ := ih (S - 2 ^ s) hT
      have hbs := bsub s (by omega) S (by omega) hb
      have hcg : ∀ U, cst o U (S - 2 ^ s) s = cst o U S s := fun U => cst_cong s (fun j hj => by rw [hbs j (by omega), decide_eq_false (by omega)]; simp)
      have hc1 : ∀ U, cst o U S (s + 1) = cst o U S s := fun U => by
        show cst o U S s + _ = _
        rw [if_neg (fun q => q.2 hb), Nat.add_zero]
      refine ⟨?_, ?_, fun U hU ha => ?_, ?_⟩
      · show chF s (2 ^ n) (hs (2 ^ s)) (chs n hs f s) S = _
        unfold chF
        rw [if_pos hb, if_pos hT, a1, b1, mn_n (by omega) (by omega)]
        show _ = nI (if S.testBit s = true then _ else _)
        rw [if_pos hb]
      · show (if S.testBit s = true then _ else _) ≤ _
        rw [if_pos hb]; omega
      · show (if S.testBit s = true then _ else _) ≤ _
        rw [if_pos hb, hc1]
        by_cases hu : U.testBit s = true
        · have := a3 U hU (fun j h1 h2 => by
            rcases Nat.eq_or_lt_of_le h1 with e | e
            · rw [← e, hu, hb]
            · exact ha j e h2)
          omega
        · have := b3 U hU (fun j h1 h2 => by
            rw [hbs j h2]
            rcases Nat.eq_or_lt_of_le h1 with e | e
            · rw [← e, decide_eq_true rfl, Bool.not_true, Bool.and_false]; exact eq_false_of_ne_true hu
            · rw [decide_eq_false (by omega), Bool.not_false, Bool.and_true]; exact ha j e h2)
          rw [hcg] at this
          omega
      · show ∃ U, U < 2 ^ n ∧ agB U S (s + 1) ∧ (if S.testBit s = true then _ else _) = _
        rw [if_pos hb]
        rcases Nat.le_total (g (S - 2 ^ s)) (g S) with q | q
        · refine ⟨U2, b4, fun j h1 h2 => ?_, ?_⟩
          · rw [b5 j (by omega) h2, hbs j h2, decide_eq_false (by omega), Bool.not_false, Bool.and_true]
          · rw [Nat.min_eq_left q, hc1, b6, hcg]
        · refine ⟨U1, a4, fun j h1 h2 => a5 j (by omega) h2, ?_⟩
          rw [Nat.min_eq_right q, hc1, a6]
    · have hb' : S.testBit s = false := eq_false_of_ne_true hb
      have hd := tb_lim n (by omega) s (by omega) S (by omega)
      simp only [show s < n by omega, decide_true, Bool.not_true, Bool.false_or, Bool.and_eq_true, Bool.or_eq_true, Bool.not_eq_true', decide_eq_false_iff_not, decide_eq_true_eq] at hd
      have hT : S + 2 ^ s < 2 ^ n := by
        rcases hd.1 with (w | w) | w
        · exact absurd hS w
        · exact absurd w hb
        · exact w
      obtain ⟨a1, a2, a3, U1, a4, a5, a6⟩ := ih S hS
      obtain ⟨b1, b2, b3, U2, b4, b5, b6⟩ := ih (S + 2 ^ s) hT
      have hba := badd s (by omega) S (by omega) hb'
      have hcg : ∀ U, cst o U (S + 2 ^ s) s = cst o U S s := fun U => cst_cong s (fun j hj => by rw [hba j (by omega), decide_eq_false (by omega), Bool.or_false])
      have hc1 : ∀ U, ¬ U.testBit s = true → cst o U S (s + 1) = cst o U S s := fun U hu => by
        show cst o U S s + _ = _
        rw [if_neg (fun q => hu q.1), Nat.add_zero]
      have hc2 : ∀ U, U.testBit s = true → cst o U S (s + 1) = cst o U S s + o s := fun U hu => by
        show cst o U S s + _ = _
        rw [if_pos ⟨hu, hb⟩]
      refine ⟨?_, ?_, fun U hU ha => ?_, ?_⟩
      · show chF s (2 ^ n) (hs (2 ^ s)) (chs n hs f s) S = _
        unfold chF
        rw [if_neg hb, if_pos hS, a1, b1, hhs s (by omega), nI_add, mn_n (by omega) (by omega)]
        show _ = nI (if S.testBit s = true then _ else _)
        rw [if_neg hb]
      · show (if S.testBit s = true then _ else _) ≤ _
        rw [if_neg hb]; omega
      · show (if S.testBit s = true then _ else _) ≤ _
        rw [if_neg hb]
        by_cases hu : U.testBit s = true
        · rw [hc2 U hu]
          have := b3 U hU (fun j h1 h2 => by
            rw [hba j h2]
            rcases Nat.eq_or_lt_of_le h1 with e | e
            · rw [← e, decide_eq_true rfl, Bool.or_true]; exact hu
            · rw [decide_eq_false (by omega), Bool.or_false]; exact ha j e h2)
          rw [hcg] at this
          omega
        · rw [hc1 U hu]
          have := a3 U hU (fun j h1 h2 => by
            rcases Nat.eq_or_lt_of_le h1 with e | e
            · rw [← e, hb']; exact eq_false_of_ne_true hu
            · exact ha j e h2)
          omega
      · show ∃ U, U < 2 ^ n ∧ agB U S (s + 1) ∧ (if S.testBit s = true then _ else _) = _
        rw [if_neg hb]
        rcases Nat.le_total (g S) (g (S + 2 ^ s) + o s) with q | q
        · refine ⟨U1, a4, fun j h1 h2 => a5 j (by omega) h2, ?_⟩
          rw [Nat.min_eq_left q, hc1 U1 (by rw [a5 s (Nat.le_refl _) (by omega)]; exact hb), a6]
        · refine ⟨U2, b4, fun j h1 h2 => ?_, ?_⟩
          · rw [b5 j (by omega) h2, hba j h2, decide_eq_false (by omega), Bool.or_false]
          · rw [Nat.min_eq_right q, hc2 U2 (by rw [b5 s (Nat.le_refl _) (by omega), hba s (by omega), decide_eq_true rfl, Bool.or_true]), b6, hcg]
            omega
theorem ag_all {n U S : Nat} (hU : U < 2 ^ n) (hS : S < 2 ^ n) : agB U S n := fun j h1 _ => by
  have h2 : 2 ^ n ≤ 2 ^ j := Nat.pow_le_pow_right (by omega) h1
  rw [Nat.testBit_lt_two_pow (by omega), Nat.testBit_lt_two_pow (by omega)]
/-- harm of warming once, as a number -/
def oN (k : Int32) : Nat := if k = 0 then 1 else if k = 1 then 2 else 4
theorem oN_le (k : Int32) : oN k ≤ 4 := by unfold oN; split; decide; split <;> decide
theorem oN_eq (k : Int32) : hoK k = nI (oN k) := by unfold oN hoK; split; rfl; split <;> rfl
theorem ad_tb : ∀ U, U < 64 → ∀ S, S < 64 → ∀ j, j < 6 → (adN U S).testBit j = (U.testBit j && !S.testBit j) := by decide +kernel
theorem hm_ad {kd : Nat → Int32} {U S : Nat} (hU : U < 64) (hS : S < 64) : ∀ s, s ≤ 6 → hmF (nI (adN U S)) (fun j => hoK (kd j)) s = nI (cst (fun j => oN (kd j)) U S s)
  | 0, _ => rfl
  | s + 1, h => by
    have ha := (ad_and U hU S hS).2
    unfold hmF cst
    rw [hm_ad hU hS s (by omega), b_nI _ (by omega), ad_tb U hU S hS s (by omega)]
    by_cases q : U.testBit s = true ∧ ¬ S.testBit s = true
    · rw [if_pos q, if_pos (by rw [q.1, eq_false_of_ne_true q.2]; rfl), oN_eq, nI_add]
    · rw [if_neg q, Nat.add_zero, if_neg (fun z => q (by rw [Bool.and_eq_true, Bool.not_eq_true'] at z; exact ⟨z.1, by rw [z.2]; decide⟩))]
theorem hs_ad {n : Nat} (hn : n ≤ 6) {kd : Nat → Int32} {U S : Nat} (hU : U < 64) (hS : S < 64) : hsC n (fun j => hoK (kd j)) (adN U S) = nI (cst (fun j => oN (kd j)) U S n) := hm_ad hU hS n hn
theorem bit1 : ∀ s, s < 6 → ∀ j, j < 6 → (2 ^ s).testBit j = decide (j = s) := by decide +kernel
theorem hm_1 {ho : Nat → Int32} {s : Nat} (hs : s < 6) : ∀ j, j ≤ 6 → hmF (nI (2 ^ s)) ho j = if s < j then ho s else 0
  | 0, _ => by rw [if_neg (Nat.not_lt_zero _)]; rfl
  | j + 1, h => by
    have h64 := pow6 (c := s) (n := 6) hs (by omega)
    unfold hmF
    rw [hm_1 hs j (by omega), b_nI _ (by omega), bit1 s hs j (by omega)]
    by_cases q : j = s
    · rw [if_pos (decide_eq_true q), if_neg (by omega), if_pos (by omega), q, Int32.zero_add]
    · rw [if_neg (by rw [decide_eq_false q]; decide)]
      by_cases z : s < j
      · rw [if_pos z, if_pos (by omega)]
      · rw [if_neg z, if_neg (by omega)]
theorem hs_1 {n s : Nat} {kd : Nat → Int32} (hn : n ≤ 6) (hs : s < n) : hsC n (fun j => hoK (kd j)) (2 ^ s) = nI (oN (kd s)) := by
  unfold hsC
  rw [hm_1 (by omega) n hn, if_pos hs, oN_eq]
/-! the reference's rows -/
/-- the least so far, and where it was first -/
def lsM (its : Nat → Int32) : Nat → Int32 × Nat
  | 0 => (9999, 0)
  | S + 1 => if its S < (lsM its S).1 then (its S, S) else lsM its S
def itF (so hs : Nat → Int32) (wn : Int32) (r : Nat → Int32) (b S : Nat) : Int32 := if mtP so wn S = true then hs (adN S b) + r S else 9999
def rl (n : Nat) (so hs wa : Nat → Int32) : Nat → Nat → Int32
  | 0 => fun _ => 0
  | k + 1 => fun b => (lsM (itF so hs (wa (11 - k)) (rl n so hs wa k) b) (2 ^ n)).1
def rb (n : Nat) (so hs wa : Nat → Int32) (k b : Nat) : Nat := (lsM (itF so hs (wa (11 - k)) (rl n so hs wa k) b) (2 ^ n)).2
theorem lsM_ok {its : Nat → Int32} {it : Nat → Nat} : ∀ N, (∀ U, U < N → its U = nI (it U) ∧ it U < 2 ^ 31) → ∃ l, (lsM its N).1 = nI l ∧ l ≤ 9999 ∧ (∀ U, U < N → l ≤ it U) ∧ ((l = 9999 ∧ (lsM its N).2 = 0) ∨ ((lsM its N).2 < N ∧ it (lsM its N).2 = l ∧ l < 9999 ∧ ∀ U, U < (lsM its N).2 → l < it U))
  | 0, _ => ⟨9999, rfl, Nat.le_refl _, fun U hU => absurd hU (Nat.not_lt_zero _), Or.inl ⟨rfl, rfl⟩⟩
  | N + 1, h => by
    obtain ⟨l, h1, h2, h3, h4⟩ := lsM_ok N (fun U hU => h U (by omega))
    obtain ⟨e, hl⟩ := h N (by omega)
    by_cases q : it N < l
    · have e2 : lsM its (N + 1) = (its N, N) := by
        rw [lsM, if_pos (by rw [e, h1]; exact (nI_ltI hl (by omega)).mpr q)]
      rw [e2]
      refine ⟨it N, e, by omega, fun U hU => ?_, Or.inr ⟨Nat.lt_succ_self _, rfl, by omega, fun U hU => ?_⟩⟩
      · rcases Nat.lt_or_eq_of_le (Nat.le_of_lt_succ hU) with z | z
        · have := h3 U z; omega
        · rw [z]; exact Nat.le_refl _
      · have := h3 U hU; omega
    · have e2 : lsM its (N + 1) = lsM its N := by
        rw [lsM, if_neg (by rw [e, h1]; exact fun z => q ((nI_ltI hl (by omega)).mp z))]
      rw [e2]
      refine ⟨l, h1, h2, fun U hU => ?_, h4.imp id (fun z => ⟨by omega, z.2⟩)⟩
      rcases Nat.lt_or_eq_of_le (Nat.le_of_lt_succ hU) with z | z
      · exact h3 U z
      · rw [z]; omega
theorem rb_lt {n : Nat} {so hs wa : Nat → Int32} {k b : Nat} : rb n so hs wa k b < 2 ^ n := by
  have h : ∀ (its : Nat → Int32) N, 0 < N → (lsM its N).2 < N := by
    intro its N
    induction N with
    | zero => intro h; exact absurd h (Nat.lt_irrefl _)
    | succ N ih =>
      intro _
      rw [lsM]
      split
      · exact Nat.lt_succ_self _
      · rcases Nat.eq_zero_or_pos N with e | e
        · rw [e]; exact Nat.zero_lt_one
        · have := ih e; omega
  exact h _ _ (Nat.two_pow_pos n)
theorem rl_at {n : Nat} {so hs wa : Nat → Int32} {mo b : Nat} (h : mo < 12) : rl n so hs wa (12 - mo) b = (lsM (itF so hs (wa mo) (rl n so hs wa (11 - mo)) b) (2 ^ n)).1 := by
  rw [show 12 - mo = (11 - mo) + 1 by omega]
  show (lsM (itF so hs (wa (11 - (11 - mo))) (rl n so hs wa (11 - mo)) b) (2 ^ n)).1 = _
  rw [show 11 - (11 - mo) = mo by omega]
theorem rb_at {n : Nat} {so hs wa : Nat → Int32} {mo b : Nat} (h : mo < 12) : rb n so hs wa (11 - mo) b = (lsM (itF so hs (wa mo) (rl n so hs wa (11 - mo)) b) (2 ^ n)).2 := by
  unfold rb
  rw [show 11 - (11 - mo) = mo by omega]
/-- a row of the plan's, before the choosing -/
def f0F (n : Nat) (so hs wa : Nat → Int32) (k U : Nat) : Int32 := if mtP so (wa (11 - k)) U = true then prow n so hs wa k U else 1048576
theorem lv_step {n k : Nat} (hn : n ≤ 6) (hk : k ≤ 11) {kd so wa : Nat → Int32} (ih : ∀ U, U < 2 ^ n → ∃ a, prow n so (hsC n (fun j => hoK (kd j))) wa k U = nI a ∧ ((a ≤ 24 * k ∧ rl n so (hsC n (fun j => hoK (kd j))) wa k U = nI a) ∨ (a = 1048576 ∧ rl n so (hsC n (fun j => hoK (kd j))) wa k U = 9999))) {b : Nat} (hb : b < 2 ^ n) :
    ∃ g, prow n so (hsC n (fun j => hoK (kd j))) wa (k + 1) b = nI g ∧ ((g ≤ 24 * (k + 1) ∧ rl n so (hsC n (fun j => hoK (kd j))) wa (k + 1) b = nI g ∧ (∃ a, a ≤ 24 * k ∧ prow n so (hsC n (fun j => hoK (kd j))) wa k (rb n so (hsC n (fun j => hoK (kd j))) wa k b) = nI a) ∧
      hsC n (fun j => hoK (kd j)) (adN (rb n so (hsC n (fun j => hoK (kd j))) wa k b) b) + f0F n so (hsC n (fun j => hoK (kd j))) wa k (rb n so (hsC n (fun j => hoK (kd j))) wa k b) = nI g ∧
      ∀ U, U < rb n so (hsC n (fun j => hoK (kd j))) wa k b → ¬ hsC n (fun j => hoK (kd j)) (adN U b) + f0F n so (hsC n (fun j => hoK (kd j))) wa k U = nI g) ∨ (g = 1048576 ∧ rl n so (hsC n (fun j => hoK (kd j))) wa (k + 1) b = 9999)) := by
  have h64 := pow6' hn
  generalize hH : hsC n (fun j => hoK (kd j)) = HS at *
  have hs1 : ∀ s, s < n → HS (2 ^ s) = nI (oN (kd s)) := fun s h => by rw [← hH]; exact hs_1 hn h
  have hsa : ∀ U, U < 64 → HS (adN U b) = nI (cst (fun j => oN (kd j)) U b n) := fun U h => by rw [← hH]; exact hs_ad hn h (by omega)
  have hP : ∃ p r : Nat → Nat, ∀ U, U < 2 ^ n → prow n so HS wa k U = nI (p U) ∧ rl n so HS wa k U = nI (r U) ∧ ((p U ≤ 24 * k ∧ r U = p U) ∨ (p U = 1048576 ∧ r U = 9999)) := by
    refine ⟨fun U => tn (prow n so HS wa k U), fun U => tn (rl n so HS wa k U), fun U hU => ?_⟩
    obtain ⟨a, e1, h | h⟩ := ih U hU
    · dsimp only
      rw [e1, h.2, tn_nI (show a < 2 ^ 31 by omega)]
      exact ⟨rfl, rfl, Or.inl ⟨h.1, rfl⟩⟩
    · dsimp only
      rw [e1, h.2, tn_nI (show a < 2 ^ 31 by omega)]
      exact ⟨rfl, rfl, Or.inr ⟨h.1, rfl⟩⟩
  obtain ⟨p, r, hp⟩ := hP
  have hoL : ∀ j, (fun j => oN (kd j)) j ≤ 4 := fun j => oN_le _
  generalize hO : (fun j => oN (kd j)) = o at *
  have hco : ∀ U, cst o U b n ≤ 24 := fun U => by have := cst_le hoL U b n; omega
  have hf : ∀ U, U < 2 ^ n → f0F n so HS wa k U = nI (if mtP so (wa (11 - k)) U = true then p U else 1048576) ∧ (if mtP so (wa (11 - k)) U = true then p U else 1048576) ≤ 1048576 := by
    intro U hU
    obtain ⟨e1, e2, e3⟩ := hp U hU
    unfold f0F
    by_cases q : mtP so (wa (11 - k)) U = true
    · rw [if_pos q, if_pos q]; exact ⟨e1, by omega⟩
    · rw [if_neg q, if_neg q]; exact ⟨rfl, Nat.le_refl _⟩
  obtain ⟨g, hg⟩ := chs_min (hs := HS) hn hoL (fun s h => by rw [hs1 s h, ← hO]) hf n (Nat.le_refl _)
  obtain ⟨g1, g2, g3, U0, g4, -, g6⟩ := hg b hb
  have hit : ∀ U, U < 2 ^ n → itF so HS (wa (11 - k)) (rl n so HS wa k) b U = nI (if mtP so (wa (11 - k)) U = true then cst o U b n + r U else 9999) ∧ (if mtP so (wa (11 - k)) U = true then cst o U b n + r U else 9999) < 2 ^ 31 := by
    intro U hU
    obtain ⟨e1, e2, e3⟩ := hp U hU
    have := hco U
    unfold itF
    by_cases q : mtP so (wa (11 - k)) U = true
    · rw [if_pos q, if_pos q, hsa U (by omega), e2, nI_add]; exact ⟨rfl, by omega⟩
    · rw [if_neg q, if_neg q]; exact ⟨rfl, by omega⟩
  obtain ⟨l, l1, l2, l3, l4⟩ := lsM_ok (2 ^ n) hit
  have e0 : prow n so HS wa (k + 1) b = nI (g b) := g1
  have er : rl n so HS wa (k + 1) b = nI l := l1
  have key : ∀ U, U < 2 ^ n → (if mtP so (wa (11 - k)) U = true then cst o U b n + r U else 9999) < 9999 → p U ≤ 24 * k ∧ (if mtP so (wa (11 - k)) U = true then cst o U b n + r U else 9999) = cst o U b n + (if mtP so (wa (11 - k)) U = true then p U else 1048576) := by
    intro U hU hlt
    obtain ⟨e1, e2, e3⟩ := hp U hU
    by_cases q : mtP so (wa (11 - k)) U = true
    · rw [if_pos q] at hlt ⊢; rw [if_pos q]; omega
    · rw [if_neg q] at hlt; omega
  have key2 : ∀ U, U < 2 ^ n → cst o U b n + (if mtP so (wa (11 - k)) U = true then p U else 1048576) < 1048576 → (if mtP so (wa (11 - k)) U = true then cst o U b n + r U else 9999) = cst o U b n + (if mtP so (wa (11 - k)) U = true then p U else 1048576) ∧ (if mtP so (wa (11 - k)) U = true then cst o U b n + r U else 9999) < 9999 := by
    intro U hU hlt
    obtain ⟨e1, e2, e3⟩ := hp U hU
    have := hco U
    by_cases q : mtP so (wa (11 - k)) U = true
    · rw [if_pos q] at hlt ⊢; rw [if_pos q]; omega
    · rw [if_neg q] at hlt; omega
  rcases l4 with ⟨e9, -⟩ | ⟨q1, q2, q3, q4⟩
  · refine ⟨g b, e0, Or.inr ⟨?_, by rw [er, e9]; rfl⟩⟩
    rcases Nat.lt_or_ge (g b) 1048576 with z | z
    · have k2 := key2 U0 g4 (by omega)
      have := l3 U0 g4
      omega
    · omega
  · have erb : (lsM (itF so HS (wa (11 - k)) (rl n so HS wa k) b) (2 ^ n)).2 = rb n so HS wa k b := rfl
    rw [erb] at q1 q2 q4
    have k1 := key _ q1 (by omega)
    have k3 := g3 _ q1 (ag_all q1 hb)
    have hl24 := hco (rb n so HS wa k b)
    have hpr := (hp _ q1).2.2
    have k5 := hf _ q1
    have hgl : g b ≤ l := by omega
    have k2 := key2 U0 g4 (by omega)
    have k4 := l3 U0 g4
    have hgb : l = g b := by omega
    refine ⟨g b, e0, Or.inl ⟨?_, by rw [er, hgb], ⟨p (rb n so HS wa k b), k1.1, (hp _ q1).1⟩, ?_, fun U hU hc => ?_⟩⟩
    · have : (if mtP so (wa (11 - k)) (rb n so HS wa k b) = true then p (rb n so HS wa k b) else 1048576) = p (rb n so HS wa k b) := by
        by_cases q : mtP so (wa (11 - k)) (rb n so HS wa k b) = true
        · rw [if_pos q]
        · rw [if_neg q] at k1 k5 q2; omega
      omega
    · rw [hsa _ (by omega), k5.1, nI_add]
      congr 1; omega
    · have hUn : U < 2 ^ n := by omega
      rw [hsa _ (by omega), (hf U hUn).1, nI_add, nI_eq (by have := hco U; have := (hf U hUn).2; omega) (by omega)] at hc
      have k6 := key2 U hUn (by omega)
      have := q4 U hU
      omega
theorem lv_rel {n : Nat} (hn : n ≤ 6) {kd so wa : Nat → Int32} : ∀ k, k ≤ 12 → ∀ U, U < 2 ^ n → ∃ a, prow n so (hsC n (fun j => hoK (kd j))) wa k U = nI a ∧ ((a ≤ 24 * k ∧ rl n so (hsC n (fun j => hoK (kd j))) wa k U = nI a) ∨ (a = 1048576 ∧ rl n so (hsC n (fun j => hoK (kd j))) wa k U = 9999))
  | 0, _, U, hU => ⟨0, rfl, Or.inl ⟨Nat.zero_le _, rfl⟩⟩
  | k + 1, hk, U, hU => by
    obtain ⟨g, e, h | h⟩ := lv_step hn (by omega) (lv_rel hn k (by omega)) hU
    · exact ⟨g, e, Or.inl ⟨h.1, h.2.1⟩⟩
    · exact ⟨g, e, Or.inr h⟩
theorem lt_much {a : Nat} (h : a ≤ 1048576) : nI a < 1048576 ↔ a < 1048576 := nI_ltI (b := 1048576) (by omega) (by decide)
theorem lv_top {n : Nat} (hn : n ≤ 6) {kd so wa : Nat → Int32} : (prow n so (hsC n (fun j => hoK (kd j))) wa 12 0 < 1048576 ∧ rl n so (hsC n (fun j => hoK (kd j))) wa 12 0 = prow n so (hsC n (fun j => hoK (kd j))) wa 12 0 ∧ rl n so (hsC n (fun j => hoK (kd j))) wa 12 0 < 9999 ∧ ¬ prow n so (hsC n (fun j => hoK (kd j))) wa 12 0 = -9) ∨ (¬ prow n so (hsC n (fun j => hoK (kd j))) wa 12 0 < 1048576 ∧ ¬ rl n so (hsC n (fun j => hoK (kd j))) wa 12 0 < 9999) := by
  obtain ⟨a, e, h | h⟩ := lv_rel hn (kd := kd) (so := so) (wa := wa) 12 (Nat.le_refl _) 0 (Nat.two_pow_pos n)
  · left
    rw [h.2, e]
    refine ⟨(lt_much (by omega)).mpr (by omega), rfl, (nI_ltI (b := 9999) (by omega) (by decide)).mpr (by omega), ?_⟩
    rw [fa_eq, nI_toInt (by omega), li_m9]; omega
  · right
    rw [h.2, e, h.1]
    exact ⟨by decide, by decide⟩
theorem fb_eq {n m b : Nat} (hn : n ≤ 6) {kd so wa : Nat → Int32} (hm : m < 12) (hb : b < 2 ^ n) (hfe : prow n so (hsC n (fun j => hoK (kd j))) wa (12 - m) b < 1048576) :
    fbN n so (hsC n (fun j => hoK (kd j))) wa (fun m => prow n so (hsC n (fun j => hoK (kd j))) wa (12 - m)) m b = rb n so (hsC n (fun j => hoK (kd j))) wa (11 - m) b ∧ prow n so (hsC n (fun j => hoK (kd j))) wa (12 - (m + 1)) (rb n so (hsC n (fun j => hoK (kd j))) wa (11 - m) b) < 1048576 := by
  have e2 : 12 - (m + 1) = 11 - m := by omega
  have e3 : 12 - m = (11 - m) + 1 := by omega
  have e1 : 11 - (11 - m) = m := by omega
  rw [e3] at hfe
  obtain ⟨g, e, h | h⟩ := lv_step hn (by omega) (lv_rel hn (kd := kd) (so := so) (wa := wa) (11 - m) (by omega)) hb
  · obtain ⟨h1, h2, ⟨a, h3, h4⟩, h5, h6⟩ := h
    have hfb : ∀ U, fbP so (hsC n (fun j => hoK (kd j))) wa (fun m => prow n so (hsC n (fun j => hoK (kd j))) wa (12 - m)) m b U = decide (hsC n (fun j => hoK (kd j)) (adN U b) + f0F n so (hsC n (fun j => hoK (kd j))) wa (11 - m) U = nI g) := by
      intro U
      unfold fbP rwF f0F
      show decide (hsC n (fun j => hoK (kd j)) (adN U b) + (if mtP so (wa m) U = true then prow n so (hsC n (fun j => hoK (kd j))) wa (12 - (m + 1)) U else 1048576) = prow n so (hsC n (fun j => hoK (kd j))) wa (12 - m) b) = _
      rw [e1, e2, e3, e]
    have hF : fF (fbP so (hsC n (fun j => hoK (kd j))) wa (fun m => prow n so (hsC n (fun j => hoK (kd j))) wa (12 - m)) m b) (2 ^ n) = rb n so (hsC n (fun j => hoK (kd j))) wa (11 - m) b :=
      fF_is rb_lt (by rw [hfb]; exact decide_eq_true h5) (fun U hU => by rw [hfb]; exact decide_eq_false (h6 U hU))
    refine ⟨?_, ?_⟩
    · unfold fbN
      rw [hF, if_pos rb_lt]
    · rw [e2, h4]; exact (lt_much (by omega)).mpr (by omega)
  · rw [e, h.1] at hfe
    exact absurd hfe (by decide)
theorem wu_eq {n : Nat} (hn : n ≤ 6) {kd so wa : Nat → Int32} (h0 : prow n so (hsC n (fun j => hoK (kd j))) wa 12 0 < 1048576) : ∀ x, x < 12 → prow n so (hsC n (fun j => hoK (kd j))) wa (12 - x) (wuN n so (hsC n (fun j => hoK (kd j))) wa (fun m => prow n so (hsC n (fun j => hoK (kd j))) wa (12 - m)) x) < 1048576 ∧
    wuN n so (hsC n (fun j => hoK (kd j))) wa (fun m => prow n so (hsC n (fun j => hoK (kd j))) wa (12 - m)) (x + 1) = rb n so (hsC n (fun j => hoK (kd j))) wa (11 - x) (wuN n so (hsC n (fun j => hoK (kd j))) wa (fun m => prow n so (hsC n (fun j => hoK (kd j))) wa (12 - m)) x)
  | 0, h => by
    have h1 : prow n so (hsC n (fun j => hoK (kd j))) wa (12 - 0) 0 < 1048576 := by rw [Nat.sub_zero]; exact h0
    refine ⟨?_, ?_⟩
    · rw [wuN]; exact h1
    · rw [wuN, wuN]; exact (fb_eq (m := 0) (b := 0) hn (by omega) (Nat.two_pow_pos n) h1).1
  | x + 1, h => by
    obtain ⟨q1, q2⟩ := wu_eq hn h0 x (by omega)
    have q3 := (fb_eq hn (by omega) (wuN_lt _ _ _ _ _ _) q1).2
    rw [← q2] at q3
    exact ⟨q3, (fb_eq hn h (wuN_lt _ _ _ _ _ _) q3).1⟩
/-! the reference's tables, row by row -/
theorem ll_row {f R : Nat → Int32} {B b : Nat} {v : Int32} (h : ∀ x, x < b → f (B + x) = R x) (hv : v = R b) : ∀ x, x < b + 1 → upd f (B + b) v (B + x) = R x := fun x hx => by
  unfold upd
  by_cases e : x = b
  · rw [if_pos (by omega), e, hv]
  · rw [if_neg (by omega)]; exact h x (by omega)
theorem ll_old {f : Nat → Int32} {R : Nat → Nat → Int32} {mo b N t : Nat} {v : Int32} (hb : b < 64) (h : ∀ m, mo + 1 ≤ m → m < t → ∀ x, x < N → f (64 * m + x) = R m x) : ∀ m, mo + 1 ≤ m → m < t → ∀ x, x < N → upd f (64 * mo + b) v (64 * m + x) = R m x := fun m h1 h2 x hx => by
  unfold upd
  rw [if_neg (by omega)]; exact h m h1 h2 x hx
theorem ll_next {f : Nat → Int32} {R : Nat → Nat → Int32} {mo N t : Nat} (h : ∀ m, mo + 1 ≤ m → m < t → ∀ x, x < N → f (64 * m + x) = R m x) (h2 : ∀ x, x < N → f (64 * mo + x) = R mo x) : ∀ m, mo ≤ m → m < t → ∀ x, x < N → f (64 * m + x) = R m x := fun m h1 h3 x hx => by
  rcases Nat.eq_or_lt_of_le h1 with e | e
  · rw [← e]; exact h2 x hx
  · exact h m e h3 x hx
