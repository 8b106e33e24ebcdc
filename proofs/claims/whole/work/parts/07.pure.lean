/-! what the calls mean: pure numbers -/
/-- the first index below n with p; n: none -/
def fF (p : Nat → Bool) : Nat → Nat
  | 0 => 0
  | n + 1 => if fF p n < n then fF p n else if p n then n else n + 1
theorem fF_le (p : Nat → Bool) : ∀ n, fF p n ≤ n
  | 0 => Nat.le_refl 0
  | n + 1 => by
    have ih := fF_le p n
    unfold fF
    split
    · omega
    · split <;> omega
theorem fF_no (p : Nat → Bool) : ∀ n k, k < fF p n → p k = false
  | 0, k, h => absurd h (Nat.not_lt_zero k)
  | n + 1, k, h => by
    have ih := fF_no p n k
    have hle := fF_le p n
    unfold fF at h
    split at h
    · exact ih h
    · rename_i q
      have e : fF p n = n := by omega
      split at h
      · exact ih (by omega)
      · rename_i hp
        rcases Nat.lt_or_ge k n with h2 | h2
        · exact ih (by omega)
        · have : k = n := by omega
          subst this
          simpa using hp
theorem fF_yes (p : Nat → Bool) : ∀ n, fF p n < n → p (fF p n) = true
  | 0, h => absurd h (Nat.not_lt_zero _)
  | n + 1, h => by
    have ih := fF_yes p n
    unfold fF at h ⊢
    split
    · rename_i q
      exact ih q
    · rename_i q
      rw [if_neg q] at h
      split
      · rename_i hp
        exact hp
      · rename_i hp
        rw [if_neg hp] at h
        omega
/-- the first: told by what it is -/
theorem fF_is {p : Nat → Bool} {n k : Nat} (hk : k < n) (h1 : p k = true) (h2 : ∀ j, j < k → p j = false) : fF p n = k := by
  rcases Nat.lt_trichotomy (fF p n) k with q | q | q
  · have h3 := fF_yes p n (by omega)
    rw [h2 _ q] at h3
    cases h3
  · exact q
  · have := fF_no p n k q
    rw [h1] at this
    cases this
theorem fF_none {p : Nat → Bool} {n : Nat} (h : ∀ j, j < n → p j = false) : fF p n = n := by
  rcases Nat.lt_or_ge (fF p n) n with q | q
  · have h3 := fF_yes p n q
    rw [h _ q] at h3
    cases h3
  · have := fF_le p n
    omega
theorem fF_cong {p q : Nat → Bool} {n : Nat} (h : ∀ j, j < n → p j = q j) : fF p n = fF q n := by
  rcases Nat.lt_or_ge (fF q n) n with z | z
  · exact fF_is z (by rw [h _ z]; exact fF_yes q n z) (fun j hj => by rw [h _ (by omega)]; exact fF_no q n j hj)
  · have e := fF_le q n
    have e2 : fF q n = n := by omega
    rw [e2]
    exact fF_none (fun j hj => by rw [h _ hj]; exact fF_no q n j (by omega))
/-- as an answer: NONE is -9 -/
def noI (k n : Nat) : Int32 := if k < n then nI k else -9
/-- a row whose first i places that p names hold g -/
def pwF (p : Nat → Bool) (g f : Nat → Int32) (i : Nat) : Nat → Int32 := fun j => if j < i ∧ p j = true then g j else f j
theorem pwF_0 (p : Nat → Bool) (g f : Nat → Int32) : pwF p g f 0 = f := funext fun j => if_neg (fun h => Nat.not_lt_zero j h.1)
theorem pwF_at (p : Nat → Bool) (g f : Nat → Int32) (i : Nat) : pwF p g f i i = f i := if_neg (fun h => Nat.lt_irrefl i h.1)
theorem pwF_t {p : Nat → Bool} {g f : Nat → Int32} {i : Nat} (h : p i = true) : upd (pwF p g f i) i (g i) = pwF p g f (i + 1) := by
  funext j
  unfold upd pwF
  by_cases e : j = i
  · subst e
    rw [if_pos rfl, if_pos ⟨Nat.lt_succ_self j, h⟩]
  · rw [if_neg e]
    by_cases q : j < i ∧ p j = true
    · rw [if_pos q, if_pos ⟨by omega, q.2⟩]
    · rw [if_neg q, if_neg (fun z => q ⟨by omega, z.2⟩)]
theorem pwF_f {p : Nat → Bool} {g f : Nat → Int32} {i : Nat} (h : ¬ p i = true) : pwF p g f i = pwF p g f (i + 1) := by
  funext j
  unfold pwF
  by_cases e : j = i
  · subst e
    rw [if_neg (fun q => h q.2), if_neg (fun q => h q.2)]
  · by_cases q : j < i ∧ p j = true
    · rw [if_pos q, if_pos ⟨by omega, q.2⟩]
    · rw [if_neg q, if_neg (fun z => q ⟨by omega, z.2⟩)]
/-- what all of a set have together: of those below n -/
def tgF (set : Int32) (kn : Nat → Int32) : Nat → Int32
  | 0 => 0
  | s + 1 => if bt set s = true then tgF set kn s ||| kn s else tgF set kn s
theorem tgF_cong {set : Int32} {k1 k2 : Nat → Int32} : ∀ {n : Nat}, (∀ j, j < n → k1 j = k2 j) → tgF set k1 n = tgF set k2 n
  | 0, _ => rfl
  | n + 1, h => by
    unfold tgF
    rw [tgF_cong (fun j hj => h j (by omega)), h n (by omega)]
theorem tgF_bt {set : Int32} {kn : Nat → Int32} {b : Nat} : ∀ {n : Nat}, bt (tgF set kn n) b = true ↔ ∃ s, s < n ∧ bt set s = true ∧ bt (kn s) b = true
  | 0 => by
    unfold tgF
    rw [b_0]
    constructor
    · intro h; cases h
    · rintro ⟨s, h, -⟩; omega
  | n + 1 => by
    have ih := tgF_bt (set := set) (kn := kn) (b := b) (n := n)
    unfold tgF
    by_cases h : bt set n = true
    · rw [if_pos h, b_or, Bool.or_eq_true, ih]
      constructor
      · rintro (⟨s, h1, h2⟩ | h1)
        · exact ⟨s, by omega, h2⟩
        · exact ⟨n, by omega, h, h1⟩
      · rintro ⟨s, h1, h2, h3⟩
        rcases Nat.lt_or_ge s n with q | q
        · exact Or.inl ⟨s, q, h2, h3⟩
        · have : s = n := by omega
          subst this
          exact Or.inr h3
    · rw [if_neg h, ih]
      constructor
      · rintro ⟨s, h1, h2⟩
        exact ⟨s, by omega, h2⟩
      · rintro ⟨s, h1, h2, h3⟩
        rcases Nat.lt_or_ge s n with q | q
        · exact ⟨s, q, h2, h3⟩
        · have : s = n := by omega
          subst this
          exact absurd h2 h
theorem b_extT {x y : Int32} (h : ∀ i, i < 32 → (bt x i = true ↔ bt y i = true)) : x = y := b_ext fun i hi => by
  have := h i hi
  cases hx : bt x i <;> cases hy : bt y i <;> simp_all
/-- one of a set has no more than all of it -/
theorem tgF_or {set : Int32} {kn : Nat → Int32} {n s : Nat} (hs : s < n) (h : bt set s = true) : kn s ||| tgF set kn n = tgF set kn n := by
  apply b_extT
  intro i _
  rw [b_or, Bool.or_eq_true]
  constructor
  · rintro (q | q)
    · exact tgF_bt.mpr ⟨s, hs, h, q⟩
    · exact q
  · exact Or.inr
/-- harm of being thawed once, by the kind -/
def hoK (k : Int32) : Int32 := if k = 0 then 1 else if k = 1 then 2 else 4
/-- who was up ahead of a month -/
def uB (tu : Nat → Int32) : Nat → Int32
  | 0 => 0
  | m + 1 => tu m
/-- knowledge in a month -/
def kA (n : Nat) (lw : Int32) (sk tu : Nat → Int32) : Nat → Nat → Int32
  | 0 => sk
  | m + 1 => if lw = 1 then pwF (bt (tu m)) (fun _ => tgF (tu m) (kA n lw sk tu m) n) (kA n lw sk tu m) n else kA n lw sk tu m
/-- harm ahead of a month -/
def hB (n : Nat) (ho tu : Nat → Int32) : Nat → Nat → Int32
  | 0 => fun _ => 0
  | m + 1 => pwF (bt (tu m &&& (uB tu m ^^^ (-1)))) (fun j => hB n ho tu m j + ho j) (hB n ho tu m) n
/-- lacks of a month -/
def lkF (n : Nat) (lw : Int32) (sk tu wa : Nat → Int32) (m : Nat) : Int32 := wa m &&& (tgF (tu m) (kA n lw sk tu m) n ^^^ (-1))
/-- who is spent, by harm h: NONE is -9 -/
def spP (br h : Nat → Int32) (s : Nat) : Bool := decide (br s < h s)
def spF (n : Nat) (br h : Nat → Int32) : Int32 := noI (fF (spP br h) n) n
/-- whether a month is wrong -/
def wrP (n : Nat) (lw : Int32) (sk ho br tu wa : Nat → Int32) (ol os : Bool) (m : Nat) : Bool := (ol && !decide (lkF n lw sk tu wa m = 0)) || (os && !decide (spF n br (hB n ho tu (m + 1)) = -9))
def fwF (n : Nat) (lw : Int32) (sk ho br tu wa : Nat → Int32) (mm : Nat) (ol os : Bool) : Nat := fF (wrP n lw sk ho br tu wa ol os) mm
/-- the cells -/
def slE (kd sk br : Nat → Int32) (i : Nat) : va_E := .inr (if kd i = 0 then 8 else if kd i = 1 then 1 else 5, [.int (nI i), .int (sk i), .int (br i)])
def shE (ca : Nat → Nat) (ln : Nat → Int32) (le : Nat → Nat) (k : Nat) : va_E := .inr (7, [.ref (ca k), .int (ln k), .int (nI (le k))])
def caE (G : aw_G) (ce : Nat → Nat → Int32) (k : Nat) : va_E := .inl (gI G, 60, .inl (ce k))
def rrE (G : aw_G) (rs : Nat → Nat → Int32) (k : Nat) : va_E := .inl (gI G, 64, .inl (rs k))
theorem slE_cases (kd sk br : Nat → Int32) (k : Nat) : (kd k = 0 ∧ slE kd sk br k = .inr (8, [.int (nI k), .int (sk k), .int (br k)])) ∨ (kd k = 1 ∧ slE kd sk br k = .inr (1, [.int (nI k), .int (sk k), .int (br k)])) ∨ ((¬ kd k = 0 ∧ ¬ kd k = 1) ∧ slE kd sk br k = .inr (5, [.int (nI k), .int (sk k), .int (br k)])) := by
  unfold slE
  by_cases h0 : kd k = 0
  · exact Or.inl ⟨h0, by rw [if_pos h0]⟩
  · by_cases h1 : kd k = 1
    · exact Or.inr (Or.inl ⟨h1, by rw [if_neg h0, if_pos h1]⟩)
    · exact Or.inr (Or.inr ⟨⟨h0, h1⟩, by rw [if_neg h0, if_neg h1]⟩)
section SLG
variable {p : Program} {l : Launch} {e : Env} {R : Room} {s : State} {m : MethodId} {args : Array Value} {below : List Frame} {meth : Method} {c : Code} {H : Heap} {locs : List Loc} {cells slots : Nat} {Q : State → Prop}
variable {G : aw_G} {A : Nat → Prop} {H0 : Heap} {wb : List va_W} {cc : ByteArray} {nL : Nat} {Ts : List Cond} {own : String} {pc : Nat} {ls : Array Slot} {rest : List Value}
theorem aw_slget {n : Nat} {sa : Nat → Nat} {kd sk br : Nat → Int32} {k index : Nat} (S : CallFix p m c cc nL s args Ts own) (hE : aw_E G s) (hw : bW G A H0 wb H locs) (i : Nat) (hi : wb[i]? = some (fam n sa (slE kd sk br))) (hk : k < n) (h8 : ∀ w ∈ u_ws RX8 TX8 3, w ∈ Ts) (h1 : ∀ w ∈ u_ws RX1 TX1 3, w ∈ Ts) (h5 : ∀ w ∈ u_ws RX5 TX5 3, w ∈ Ts) (fi : Nat) (hfi : fi < 3) (hlink : (Cond.fieldLink own index (TX8 fi).1 (TX8 fi).2.1 (TX8 fi).2.2.1).before args s = true) {v : Value} (hv : ([.int (nI k), .int (sk k), .int (br k)] : List Value)[fi]? = some v) (hdg : decode cc pc = .ok (.getfield index, 3))
    (kk : W p l e R s m args below meth c H locs cells slots Q (F0 m (pc + 3) ls (v :: rest))) : W p l e R s m args below meth c H locs cells slots Q (F0 m pc ls (.ref (sa k) :: rest)) := by
  have hw2 := aw_out hw i hi k hk
  have hl : (wb.set i (famX n sa (slE kd sk br) k)).length = wb.length := by simp
  have hi2 : (wb.set i (famX n sa (slE kd sk br) k) ++ [[(sa k, slE kd sk br k)]])[wb.length]? = some [(sa k, slE kd sk br k)] := by
    rw [List.getElem?_append_right (by omega), hl, Nat.sub_self]
    rfl
  rcases slE_cases kd sk br k with ⟨-, ez⟩ | ⟨-, ez⟩ | ⟨-, ez⟩
  · rw [ez] at hi2 hw2
    exact aw_get S hE hw2 wb.length (C := RX8) (T := TX8) (N := 3) hi2 rfl h8 fi hfi hlink hv hdg kk
  · rw [ez] at hi2 hw2
    refine aw_get S hE hw2 wb.length (C := RX1) (T := TX1) (N := 3) hi2 rfl h1 fi hfi ?_ hv hdg kk
    match fi, hfi with
    | 0, _ => exact hlink
    | 1, _ => exact hlink
    | 2, _ => exact hlink
  · rw [ez] at hi2 hw2
    refine aw_get S hE hw2 wb.length (C := RX5) (T := TX5) (N := 3) hi2 rfl h5 fi hfi ?_ hv hdg kk
    match fi, hfi with
    | 0, _ => exact hlink
    | 1, _ => exact hlink
    | 2, _ => exact hlink
end SLG
/-- lacks as the walk has them, behind so many months -/
def laB (n : Nat) (lw : Int32) (sk tu wa : Nat → Int32) : Nat → Int32
  | 0 => 0
  | m + 1 => lkF n lw sk tu wa m
theorem fill_tg {set : Int32} {f g : Nat → Int32} {n : Nat} : tgF set (fa_fill f g n) n = tgF set f n := tgF_cong fun _ hj => fa_fill_in hj
theorem fill_pw {p : Nat → Bool} {u v f g : Nat → Int32} {n : Nat} (h : ∀ j, j < n → u j = v j) : pwF p u (fa_fill f g n) n = fa_fill (pwF p v f n) g n := by
  funext j
  unfold pwF
  rcases Nat.lt_or_ge j n with q | q
  · rw [fa_fill_in q, fa_fill_in q]
    by_cases z : j < n ∧ p j = true
    · rw [if_pos z, if_pos z, h j q]
    · rw [if_neg z, if_neg z]
  · rw [fa_fill_out q, fa_fill_out q, if_neg (fun z => by omega)]
theorem en_wk {n : Nat} {lw : Int32} {sk tf wk : Nat → Int32} {m : Nat} : (if lw = 1 then pwF (bt (uB tf m)) (fun _ => tgF (uB tf m) (fa_fill (kA n lw sk tf (m - 1)) wk n) n) (fa_fill (kA n lw sk tf (m - 1)) wk n) n else fa_fill (kA n lw sk tf (m - 1)) wk n) = fa_fill (kA n lw sk tf m) wk n := by
  by_cases h : lw = 1
  · rw [if_pos h, fill_tg, fill_pw (v := fun _ => tgF (uB tf m) (kA n lw sk tf (m - 1)) n) (fun _ _ => rfl)]
    congr 1
    cases m with
    | zero =>
      funext j
      unfold pwF
      rw [if_neg (fun z => by have := z.2; unfold uB at this; rw [b_0] at this; cases this)]
    | succ m =>
      show _ = (if lw = 1 then _ else _)
      rw [if_pos h]
      rfl
  · rw [if_neg h]
    congr 1
    cases m with
    | zero => rfl
    | succ m =>
      show _ = (if lw = 1 then _ else _)
      rw [if_neg h]
      rfl
theorem en_wh {n : Nat} {kd tf wh : Nat → Int32} {m : Nat} : pwF (bt (tf m &&& (uB tf m ^^^ (-1)))) (fun j => fa_fill (hB n (fun j => hoK (kd j)) tf m) wh n j + hoK (kd j)) (fa_fill (hB n (fun j => hoK (kd j)) tf m) wh n) n = fa_fill (hB n (fun j => hoK (kd j)) tf (m + 1)) wh n :=
  fill_pw (v := fun j => hB n (fun j => hoK (kd j)) tf m j + hoK (kd j)) (fun j hj => by rw [fa_fill_in hj])
theorem en_la {n : Nat} {lw : Int32} {sk tf wa wk : Nat → Int32} {m : Nat} : wa m &&& (tgF (tf m) (fa_fill (kA n lw sk tf m) wk n) n ^^^ (-1)) = laB n lw sk tf wa (m + 1) := by
  rw [fill_tg]
  rfl
theorem en_sp {n : Nat} {br f g : Nat → Int32} : spF n br (fa_fill f g n) = spF n br f := by
  unfold spF
  rw [fF_cong (q := spP br f) (fun j hj => by unfold spP; rw [fa_fill_in hj])]
