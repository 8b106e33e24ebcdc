/-! the reference: judging -/
theorem fr_0 {ln lv iv nv : Int32} {le : Nat} (h : frF ln le lv iv nv = 0) : ¬ ln = -1 ∧ ¬ nv.toInt < 0 ∧ 0 ≤ iv.toInt ∧ iv.toInt ≤ le ∧ nv.toInt ≤ le - iv.toInt := by
  unfold frF at h
  by_cases h1 : ln = -1
  · rw [if_pos h1] at h; exact absurd h (by decide)
  · rw [if_neg h1] at h
    by_cases h2 : ¬ ln = lv
    · rw [if_pos h2] at h; exact absurd h (by decide)
    · rw [if_neg h2] at h
      by_cases h3 : nv.toInt < 0
      · rw [if_pos h3] at h; exact absurd h (by decide)
      · rw [if_neg h3] at h
        by_cases h4 : 0 ≤ iv.toInt ∧ iv.toInt ≤ le ∧ nv.toInt ≤ le - iv.toInt
        · exact ⟨h1, h3, h4⟩
        · rw [if_neg h4] at h; exact absurd h (by decide)
theorem fr_of (ln lv iv nv : Int32) (le : Nat) : frF ln le lv iv nv = 0 ∨ frF ln le lv iv nv = 1 ∨ frF ln le lv iv nv = 2 ∨ frF ln le lv iv nv = 3 ∨ frF ln le lv iv nv = 4 := by
  unfold frF
  split
  · exact Or.inr (Or.inl rfl)
  · split
    · exact Or.inr (Or.inr (Or.inl rfl))
    · split
      · exact Or.inr (Or.inr (Or.inr (Or.inr rfl)))
      · split
        · exact Or.inl rfl
        · exact Or.inr (Or.inr (Or.inr (Or.inl rfl)))
theorem fr_ge {ln lv iv nv : Int32} {le : Nat} : 0 ≤ (if frF ln le lv iv nv = 0 then (0 : Int32) else -10 - frF ln le lv iv nv) ↔ frF ln le lv iv nv = 0 := by
  rcases fr_of ln lv iv nv le with q | q | q | q | q <;> rw [q] <;> decide
theorem st_dec : ∀ n, n < 7 → ∀ S, S < 64 → (nI S &&& (nI (2 ^ n - 1) ^^^ (-1)) = 0 ↔ S < 2 ^ n) := by decide +kernel
theorem st_in {n : Nat} (hn : n ≤ 6) (v : Int32) : (0 ≤ v.toInt ∧ v.toInt < ((2 ^ n : Nat) : Int)) ↔ v &&& (nI (2 ^ n - 1) ^^^ (-1)) = 0 := by
  have h64 := pow6' hn
  constructor
  · intro h
    have e := aw_tnE h
    have l := aw_tnL h
    rw [e]
    exact (st_dec n (by omega) _ (by omega)).mpr l
  · intro h
    have e : v = v &&& nI 63 := by
      refine b_ext (fun i hi => ?_)
      rw [b_and, b_all 6 (by omega) i hi]
      by_cases q : i < 6
      · rw [decide_eq_true q, Bool.and_true]
      · rw [decide_eq_false q, Bool.and_false]
        have hb := congrArg (fun z => bt z i) h
        simp only [b_and, b_0] at hb
        rw [b_not _ hi, b_all n (by omega) i hi, decide_eq_false (by omega), Bool.not_false, Bool.and_true] at hb
        exact hb
    have hN : v.toBitVec.toNat < 64 := by
      rw [e, Int32.toBitVec_and, BitVec.toNat_and]
      exact Nat.lt_of_le_of_lt Nat.and_le_right (by decide)
    have hI : v.toInt = (v.toBitVec.toNat : Int) := by
      show v.toBitVec.toInt = _
      rw [BitVec.toInt_eq_toNat_of_lt (by omega)]
    have e2 : v = nI v.toBitVec.toNat := by
      rw [fa_eq, nI_toInt (by omega), hI]
    rw [e2] at h
    have := (st_dec n (by omega) _ hN).mp h
    omega
