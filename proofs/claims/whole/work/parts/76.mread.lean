/-! the reference: a text read -/
/-- whether the text goes on well at a place -/
def gdB (shm : Nat → Int32) (bs tl x : Nat) : Bool := msB (cdF shm bs tl x) x
theorem gd1 {shm : Nat → Int32} {bs tl r : Nat} (h : r < 6) : gdB shm bs tl (1 + 4 * r) = decide (cdF shm bs tl (1 + 4 * r) = 59) := by
  unfold gdB msB
  rw [if_neg (by omega), if_neg (by omega), if_pos (by omega)]
theorem gd6 {shm : Nat → Int32} {bs tl r : Nat} (h : 6 ≤ r) : gdB shm bs tl (1 + 4 * r) = false := by
  unfold gdB msB
  rw [if_neg (by omega), if_pos (by omega)]
theorem gd2 {shm : Nat → Int32} {bs tl r : Nat} (h : r < 6) : gdB shm bs tl (1 + 4 * r + 1) = decide (cdF shm bs tl (1 + 4 * r + 1) = 115 ∨ cdF shm bs tl (1 + 4 * r + 1) = 102 ∨ cdF shm bs tl (1 + 4 * r + 1) = 111) := by
  unfold gdB msB
  rw [if_neg (by omega), if_neg (by omega), if_neg (by omega), if_pos (by omega)]
theorem gd3 {shm : Nat → Int32} {bs tl r : Nat} (h : r < 6) : gdB shm bs tl (1 + 4 * r + 1 + 1) = decide (48 ≤ (cdF shm bs tl (1 + 4 * r + 1 + 1)).toInt ∧ (cdF shm bs tl (1 + 4 * r + 1 + 1)).toInt ≤ 55) := by
  unfold gdB msB
  rw [if_neg (by omega), if_neg (by omega), if_neg (by omega), if_neg (by omega), if_pos (by omega)]
theorem gd4 {shm : Nat → Int32} {bs tl r : Nat} (h : r < 6) : gdB shm bs tl (1 + 4 * r + 1 + 1 + 1) = decide (49 ≤ (cdF shm bs tl (1 + 4 * r + 1 + 1 + 1)).toInt ∧ (cdF shm bs tl (1 + 4 * r + 1 + 1 + 1)).toInt ≤ 57) := by
  unfold gdB msB
  rw [if_neg (by omega), if_neg (by omega), if_neg (by omega), if_neg (by omega), if_neg (by omega)]
