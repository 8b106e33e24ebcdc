/-! the reference: who knows since when -/
theorem nIle {a b : Nat} (ha : a < 2 ^ 31) (hb : b < 2 ^ 31) : nI a ≤ nI b ↔ a ≤ b := by
  rw [fa_le, nI_toInt ha, nI_toInt hb]; omega
theorem n9999 {b : Nat} (hb : b < 12) : ¬ (9999 : Int32) ≤ nI b := by
  rw [fa_le, nI_toInt (by omega), show (9999 : Int32).toInt = 9999 from rfl]; omega
theorem rdF_0 {nf nt : Nat → Nat} : ∀ k, rdF nf nt 0 k = 0
  | 0 => rfl
  | k + 1 => by rw [rdF, if_neg (by rw [b_0]; exact Bool.noConfusion), rdF_0 k]
theorem nw_0 {nf nt : Nat → Nat} {nn fr si : Nat} {tf : Nat → Int32} : ∀ {m : Nat}, m ≤ si → nwK nf nt nn fr si tf m = (0, 0)
  | 0, _ => rfl
  | m + 1, h => by
    have ih := nw_0 (nf := nf) (nt := nt) (nn := nn) (fr := fr) (si := si) (tf := tf) (m := m) (by omega)
    have e : nk2 (nk1 (nk0 fr si m 0) 0 (tf m)) (tf m) = 0 := by
      rw [nk0, if_neg (by omega), nk1, Int32.zero_and, Int32.or_zero, nk2, Int32.zero_and, if_pos rfl]
    show (nk2 (nk1 (nk0 fr si m (nwK nf nt nn fr si tf m).1) (rdF nf nt (nwK nf nt nn fr si tf m).2 nn) (tf m)) (tf m), (nwK nf nt nn fr si tf m).2 ||| (nk2 (nk1 (nk0 fr si m (nwK nf nt nn fr si tf m).1) (rdF nf nt (nwK nf nt nn fr si tf m).2 nn) (tf m)) (tf m) &&& tf m)) = (0, 0)
    rw [ih]
    show (nk2 (nk1 (nk0 fr si m 0) (rdF nf nt 0 nn) (tf m)) (tf m), 0 ||| (nk2 (nk1 (nk0 fr si m 0) (rdF nf nt 0 nn) (tf m)) (tf m) &&& tf m)) = (0, 0)
    rw [rdF_0, e, Int32.zero_and, Int32.or_zero]
theorem nk_sub {k0 rd t : Int32} {s : Nat} (h : bt k0 s = true) : bt (nk2 (nk1 k0 rd t) t) s = true := by
  have h1 : bt (nk1 k0 rd t) s = true := by rw [nk1, b_or, h, Bool.true_or]
  unfold nk2
  split
  · exact h1
  · rw [b_or, h1, Bool.true_or]
theorem nw_s {nf nt : Nat → Nat} {nn fr si : Nat} {tf : Nat → Int32} {m s : Nat} (h : bt (nk0 fr si m (nwK nf nt nn fr si tf m).1) s = true) : bt (nwK nf nt nn fr si tf (m + 1)).1 s = true := nk_sub h
theorem nw_up {nf nt : Nat → Nat} {nn fr si : Nat} {tf : Nat → Int32} {m s : Nat} (h : bt (nwK nf nt nn fr si tf m).1 s = true) : bt (nwK nf nt nn fr si tf (m + 1)).1 s = true := by
  refine nw_s ?_
  by_cases e : m = si
  · rw [nw_0 (by omega)] at h
    rw [show (((0, 0) : Int32 × Int32).1) = 0 from rfl, b_0] at h
    cases h
  · rw [nk0, if_neg e]
    exact h
theorem nw_le {nf nt : Nat → Nat} {nn fr si : Nat} {tf : Nat → Int32} {s j : Nat} (h : bt (nwK nf nt nn fr si tf j).1 s = true) : ∀ {k : Nat}, j ≤ k → bt (nwK nf nt nn fr si tf k).1 s = true
  | 0, q => by rw [← show j = 0 by omega]; exact h
  | k + 1, q => by
    rcases Nat.lt_or_ge k j with z | z
    · rw [← show j = k + 1 by omega]; exact h
    · exact nw_up (nw_le h z)
theorem nw_fr {nf nt : Nat → Nat} {nn fr si : Nat} {tf : Nat → Int32} (hfr : fr < 32) {m : Nat} (h : si < m) : bt (nwK nf nt nn fr si tf m).1 fr = true := by
  refine nw_le (j := si + 1) ?_ h
  refine nw_s ?_
  rw [nk0, if_pos rfl, b_bit hfr hfr]
  exact decide_eq_true rfl
theorem nw_lf {nf nt : Nat → Nat} {nn fr si : Nat} {tf : Nat → Int32} {i : Nat} : ∀ {m : Nat}, bt (nwK nf nt nn fr si tf m).2 i = true ↔ ∃ k, k < m ∧ bt (nwE nf nt nn fr si tf k) i = true ∧ bt (tf k) i = true
  | 0 => by
    constructor
    · intro h; rw [show (nwK nf nt nn fr si tf 0).2 = 0 from rfl, b_0] at h; cases h
    · rintro ⟨k, hk, _⟩; omega
  | m + 1 => by
    rw [show (nwK nf nt nn fr si tf (m + 1)).2 = (nwK nf nt nn fr si tf m).2 ||| (nwE nf nt nn fr si tf m &&& tf m) from rfl, b_or, b_and, Bool.or_eq_true, Bool.and_eq_true, nw_lf]
    constructor
    · rintro (⟨k, hk, q⟩ | q)
      · exact ⟨k, by omega, q⟩
      · exact ⟨m, by omega, q⟩
    · rintro ⟨k, hk, q⟩
      rcases Nat.lt_or_ge k m with z | z
      · exact Or.inl ⟨k, z, q⟩
      · rw [show k = m by omega] at q; exact Or.inr q
/-- since when one knows -/
def ksV (kn : Nat → Int32) (fr si m s : Nat) : Int32 := if fF (fun j => bt (kn j) s) m < m then nI (fF (fun j => bt (kn j) s) m) else if s = fr then nI si else 9999
theorem ksV_le {nf nt : Nat → Nat} {nn fr si : Nat} {tf : Nat → Int32} (hfr : fr < 32) {m k s : Nat} (hm : m ≤ 12) (hk : k < m) (hsm : si ≤ m) : ksV (nwE nf nt nn fr si tf) fr si m s ≤ nI k ↔ bt (nwE nf nt nn fr si tf k) s = true := by
  unfold ksV
  by_cases q : fF (fun j => bt (nwE nf nt nn fr si tf j) s) m < m
  · rw [if_pos q, nIle (by omega) (by omega)]
    have hy := fF_yes _ _ q
    constructor
    · intro z
      exact nw_le (j := fF (fun j => bt (nwE nf nt nn fr si tf j) s) m + 1) hy (by omega)
    · intro z
      refine Nat.not_lt.mp (fun y => ?_)
      have := fF_no _ _ _ y
      rw [z] at this
      cases this
  · have hno : ∀ j, j < m → bt (nwE nf nt nn fr si tf j) s = false := fun j hj => fF_no (fun j => bt (nwE nf nt nn fr si tf j) s) m j (by omega)
    rw [if_neg q, hno k hk]
    constructor
    · intro z
      by_cases e : s = fr
      · rw [if_pos e, nIle (by omega) (by omega)] at z
        have h1 := hno k hk
        rw [e, show bt (nwE nf nt nn fr si tf k) fr = true from nw_fr hfr (by omega)] at h1
        cases h1
      · rw [if_neg e] at z
        exact absurd z (n9999 (by omega))
    · intro z; cases z
theorem ksV_now {nf nt : Nat → Nat} {nn fr si : Nat} {tf : Nat → Int32} (hfr : fr < 32) {m s : Nat} (hs : s < 32) (hm : m < 12) (hsm : si ≤ m) : ksV (nwE nf nt nn fr si tf) fr si m s ≤ nI m ↔ bt (nk0 fr si m (nwK nf nt nn fr si tf m).1) s = true := by
  unfold ksV
  by_cases q : fF (fun j => bt (nwE nf nt nn fr si tf j) s) m < m
  · rw [if_pos q, nIle (by omega) (by omega)]
    have hy : bt (nwK nf nt nn fr si tf (fF (fun j => bt (nwE nf nt nn fr si tf j) s) m + 1)).1 s = true := fF_yes _ _ q
    by_cases e : m = si
    · rw [nw_0 (by omega), show (((0, 0) : Int32 × Int32).1) = 0 from rfl, b_0] at hy
      cases hy
    · rw [nk0, if_neg e]
      exact ⟨fun _ => nw_le hy (by omega), fun _ => by omega⟩
  · have hno : ∀ j, j < m → bt (nwE nf nt nn fr si tf j) s = false := fun j hj => fF_no (fun j => bt (nwE nf nt nn fr si tf j) s) m j (by omega)
    rw [if_neg q]
    by_cases e : s = fr
    · rw [if_pos e, nIle (by omega) (by omega), nk0]
      constructor
      · intro _
        by_cases z : m = si
        · rw [if_pos z, b_bit hfr hs]; exact decide_eq_true e
        · rw [if_neg z, e]; exact nw_fr hfr (by omega)
      · intro _; exact hsm
    · rw [if_neg e, nk0]
      constructor
      · intro z; exact absurd z (n9999 hm)
      · intro z
        by_cases y : m = si
        · rw [if_pos y, b_bit hfr hs, decide_eq_true_eq] at z; exact absurd z e
        · rw [if_neg y] at z
          have h1 := hno (m - 1) (by omega)
          rw [show nwE nf nt nn fr si tf (m - 1) = (nwK nf nt nn fr si tf (m - 1 + 1)).1 from rfl, show m - 1 + 1 = m by omega, z] at h1
          cases h1
theorem bgF_bt {p : Nat → Bool} {i : Nat} (hi : i < 32) : ∀ {n : Nat}, n ≤ 32 → (bt (bgF p n) i = true ↔ i < n ∧ p i = true)
  | 0, _ => by rw [show bgF p 0 = 0 from rfl, b_0]; exact ⟨fun q => Bool.noConfusion q, fun q => absurd q.1 (Nat.not_lt_zero i)⟩
  | n + 1, h => by
    have ih := bgF_bt (p := p) hi (n := n) (by omega)
    rw [show bgF p (n + 1) = if p n = true then bgF p n ||| (1 <<< (nI n &&& 31)) else bgF p n from rfl]
    by_cases q : p n = true
    · rw [if_pos q, b_or, Bool.or_eq_true, ih, b_bit (by omega) hi, decide_eq_true_eq]
      constructor
      · rintro (z | z)
        · exact ⟨by omega, z.2⟩
        · exact ⟨by omega, by rw [z]; exact q⟩
      · intro z
        rcases Nat.lt_or_ge i n with y | y
        · exact Or.inl ⟨y, z.2⟩
        · exact Or.inr (by omega)
    · rw [if_neg q, ih]
      constructor
      · intro z; exact ⟨by omega, z.2⟩
      · intro z
        rcases Nat.lt_or_ge i n with y | y
        · exact ⟨y, z.2⟩
        · rw [show i = n by omega] at z; exact absurd z.2 q
theorem lnF_v {n : Nat} {set : Int32} {m : Nat} {ks : Nat → Int32} {s : Nat} (hs : s < n) : lnF n set m ks n s = if bt set s = true ∧ ¬ ks s ≤ nI m then nI m else ks s := by
  unfold lnF pwF
  by_cases h : bt set s = true ∧ ¬ ks s ≤ nI m
  · rw [if_pos ⟨hs, show (bt set s && !decide (ks s ≤ nI m)) = true by rw [h.1, decide_eq_false h.2]; rfl⟩, if_pos h]
  · rw [if_neg h, if_neg (fun z => h (by have := z.2; rw [Bool.and_eq_true, Bool.not_eq_true', decide_eq_false_iff_not] at this; exact this))]
theorem lnF_le {n : Nat} {set : Int32} {m : Nat} {ks : Nat → Int32} {s : Nat} (hs : s < n) : lnF n set m ks n s ≤ nI m ↔ ks s ≤ nI m ∨ bt set s = true := by
  rw [lnF_v hs]
  by_cases h : bt set s = true ∧ ¬ ks s ≤ nI m
  · rw [if_pos h]; exact ⟨fun _ => Or.inr h.1, fun _ => Int32.le_refl _⟩
  · rw [if_neg h]
    exact ⟨Or.inl, fun z => z.elim id (fun y => Decidable.not_not.mp (fun x => h ⟨y, x⟩))⟩
/-- a month of news -/
def nsF (n : Nat) (rd t : Int32) (m : Nat) (kf : Nat → Int32) : Nat → Int32 := if bgF (fun s => decide (lnF n (rd &&& t) m kf n s ≤ nI m)) n &&& t = 0 then lnF n (rd &&& t) m kf n else lnF n t m (lnF n (rd &&& t) m kf n) n
theorem nsF_le {n : Nat} {rd t k0 : Int32} {m : Nat} {kf : Nat → Int32} (hn : n ≤ 6) (ht : ∀ i, bt t i = true → i < n) (hk : ∀ s, s < n → (kf s ≤ nI m ↔ bt k0 s = true)) {s : Nat} (hs : s < n) : nsF n rd t m kf s ≤ nI m ↔ bt (nk2 (nk1 k0 rd t) t) s = true := by
  have h1 : ∀ s, s < n → (lnF n (rd &&& t) m kf n s ≤ nI m ↔ bt (nk1 k0 rd t) s = true) := by
    intro s hs
    rw [lnF_le hs, hk s hs, nk1, b_or, Bool.or_eq_true]
  have h2 : bgF (fun s => decide (lnF n (rd &&& t) m kf n s ≤ nI m)) n &&& t = nk1 k0 rd t &&& t := by
    refine b_extT (fun i hi => ?_)
    rw [b_and, b_and, Bool.and_eq_true, Bool.and_eq_true, bgF_bt hi (by omega), decide_eq_true_eq]
    constructor
    · intro q; exact ⟨(h1 i q.1.1).mp q.1.2, q.2⟩
    · intro q; exact ⟨⟨ht i q.2, (h1 i (ht i q.2)).mpr q.1⟩, q.2⟩
  unfold nsF nk2
  rw [h2]
  by_cases z : nk1 k0 rd t &&& t = 0
  · rw [if_pos z, if_pos z]; exact h1 s hs
  · rw [if_neg z, if_neg z, lnF_le hs, h1 s hs, b_or, Bool.or_eq_true]
theorem nsF_v {n : Nat} {rd t : Int32} {m : Nat} {kf : Nat → Int32} {s : Nat} (hs : s < n) : nsF n rd t m kf s = if kf s ≤ nI m then kf s else if nsF n rd t m kf s ≤ nI m then nI m else kf s := by
  have e1 := lnF_v (set := rd &&& t) (m := m) (ks := kf) hs
  have e2 := lnF_v (set := t) (m := m) (ks := lnF n (rd &&& t) m kf n) hs
  have hrefl : nI m ≤ nI m := Int32.le_refl _
  have key : nsF n rd t m kf s = kf s ∨ (nsF n rd t m kf s = nI m ∧ ¬ kf s ≤ nI m) := by
    unfold nsF
    split
    · rw [e1]
      split
      · next h => exact Or.inr ⟨rfl, h.2⟩
      · exact Or.inl rfl
    · rw [e2, e1]
      by_cases h : bt (rd &&& t) s = true ∧ ¬ kf s ≤ nI m
      · rw [if_pos h]
        split
        · exact Or.inr ⟨rfl, h.2⟩
        · exact Or.inr ⟨rfl, h.2⟩
      · rw [if_neg h]
        split
        · next h => exact Or.inr ⟨rfl, h.2⟩
        · exact Or.inl rfl
  rcases key with q | q
  · rw [q]
    by_cases z : kf s ≤ nI m
    · rw [if_pos z]
    · rw [if_neg z, if_neg z]
  · rw [q.1, if_neg q.2, if_pos hrefl]
theorem gn_step {n : Nat} {nf nt : Nat → Nat} {nn fr si : Nat} {tf : Nat → Int32} {m : Nat} {kf : Nat → Int32} (hn : n ≤ 6) (hfr : fr < n) (hsm : si ≤ m) (hm : m < 12) (ht : ∀ i, bt (tf m) i = true → i < n) (hk : ∀ s, s < n → kf s = ksV (nwE nf nt nn fr si tf) fr si m s) : ∀ s, s < n → nsF n (rdF nf nt (nwK nf nt nn fr si tf m).2 nn) (tf m) m kf s = ksV (nwE nf nt nn fr si tf) fr si (m + 1) s := by
  intro s hs
  have hle := nsF_le (rd := rdF nf nt (nwK nf nt nn fr si tf m).2 nn) (k0 := nk0 fr si m (nwK nf nt nn fr si tf m).1) (kf := kf) (m := m) hn ht (fun s hs => by rw [hk s hs]; exact ksV_now (by omega) (by omega) hm hsm) hs
  have hE : nsF n (rdF nf nt (nwK nf nt nn fr si tf m).2 nn) (tf m) m kf s ≤ nI m ↔ bt (nwE nf nt nn fr si tf m) s = true := hle
  have hup : kf s ≤ nI m → bt (nwE nf nt nn fr si tf m) s = true := fun z => nw_s (by rw [hk s hs] at z; exact (ksV_now (by omega) (by omega) hm hsm).mp z)
  rw [nsF_v hs, hk s hs]
  rw [hk s hs] at hup
  have hN : ksV (nwE nf nt nn fr si tf) fr si (m + 1) s = if (if fF (fun j => bt (nwE nf nt nn fr si tf j) s) m < m then fF (fun j => bt (nwE nf nt nn fr si tf j) s) m else if bt (nwE nf nt nn fr si tf m) s = true then m else m + 1) < m + 1 then nI (if fF (fun j => bt (nwE nf nt nn fr si tf j) s) m < m then fF (fun j => bt (nwE nf nt nn fr si tf j) s) m else if bt (nwE nf nt nn fr si tf m) s = true then m else m + 1) else if s = fr then nI si else 9999 := rfl
  by_cases q : fF (fun j => bt (nwE nf nt nn fr si tf j) s) m < m
  · have e : ksV (nwE nf nt nn fr si tf) fr si m s = nI (fF (fun j => bt (nwE nf nt nn fr si tf j) s) m) := by rw [ksV, if_pos q]
    rw [if_pos q, if_pos (show fF (fun j => bt (nwE nf nt nn fr si tf j) s) m < m + 1 by omega)] at hN
    rw [hN, e, if_pos ((nIle (show fF (fun j => bt (nwE nf nt nn fr si tf j) s) m < 2 ^ 31 by omega) (show m < 2 ^ 31 by omega)).mpr (by omega))]
  · have e : ksV (nwE nf nt nn fr si tf) fr si m s = if s = fr then nI si else 9999 := by rw [ksV, if_neg q]
    rw [if_neg q] at hN
    by_cases y : bt (nwE nf nt nn fr si tf m) s = true
    · rw [if_pos y, if_pos (Nat.lt_succ_self m)] at hN
      rw [hN, if_pos (hE.mpr y), e]
      by_cases z : s = fr
      · rw [if_pos z, if_pos ((nIle (by omega) (by omega)).mpr hsm)]
        have hse : si = m := by
          refine Nat.le_antisymm hsm (Nat.not_lt.mp (fun x => ?_))
          have h1 := fF_no (fun j => bt (nwE nf nt nn fr si tf j) s) m si (by omega)
          have h2 : bt (nwE nf nt nn fr si tf si) s = true := by rw [z]; exact nw_fr (by omega) (by omega)
          rw [h2] at h1
          cases h1
        rw [hse]
      · rw [if_neg z, if_neg (n9999 hm)]
    · rw [if_neg y, if_neg (Nat.lt_irrefl (m + 1))] at hN
      rw [hN, if_neg (fun z => y (hup z)), if_neg (fun z => y (hE.mp z)), e]
theorem gn_left {n : Nat} {nf nt : Nat → Nat} {nn fr si : Nat} {tf : Nat → Int32} {m : Nat} {kf : Nat → Int32} {x : Int32} (hn : n ≤ 6) (hfr : fr < n) (hsm : si ≤ m) (hm : m ≤ 12) (ht : ∀ k, k < 12 → ∀ i, bt (tf k) i = true → i < n) (hk : ∀ s, s < n → kf s = ksV (nwE nf nt nn fr si tf) fr si m s) (hx : ∀ i, i < 32 → (bt x i = true ↔ (i < n ∧ ∃ k, k < m ∧ lq tf kf k i))) : x = (nwK nf nt nn fr si tf m).2 := by
  refine b_extT (fun i hi => ?_)
  rw [hx i hi, nw_lf]
  constructor
  · rintro ⟨h1, k, h2, h3⟩
    refine ⟨k, h2, ?_, h3.1⟩
    have := h3.2
    rw [hk i h1] at this
    exact (ksV_le (by omega) hm h2 hsm).mp this
  · rintro ⟨k, h2, h3, h4⟩
    have h1 := ht k (by omega) i h4
    refine ⟨h1, k, h2, h4, ?_⟩
    rw [hk i h1]
    exact (ksV_le (by omega) hm h2 hsm).mpr h3
theorem ksV_0 {nf nt : Nat → Nat} {nn fr si : Nat} {tf : Nat → Int32} {s : Nat} : ksV (nwE nf nt nn fr si tf) fr si si s = if s = fr then nI si else 9999 := by
  have e : fF (fun j => bt (nwE nf nt nn fr si tf j) s) si = si := fF_none (fun j hj => by
    show bt (nwK nf nt nn fr si tf (j + 1)).1 s = false
    rw [nw_0 (by omega)]; exact b_0 s)
  unfold ksV
  rw [e, if_neg (Nat.lt_irrefl si)]
set_option maxRecDepth 100000 in
set_option maxHeartbeats 4000000 in
theorem c_X11_goNews (l : Launch) (G : aw_G) (am : Nat → Nat) (fl : Int32) (n : Nat) (lw : Int32) (nn ra rsn nr : Nat) (tr : Int32) (nf nt : Nat → Nat) (me ks : Nat → Int32) (fr si : Nat) (hn : n ≤ 6) (hfr : fr < n) (hsi : si < 12) (hnn : nn ≤ 8) (hnf : ∀ k, k < nn → nf k < n) (hnt : ∀ k, k < nn → nt k < n) (hme : ∀ k, k < 12 → ∀ i, bt (me k) i = true → i < n) : CT l G yX11_goNews wsX11_goNews ({ frames := 2, cells := 0, slots := 0, locals := 45 }) [.ref (am 31), .int (nI fr), .int (nI si)] [[(am 31, mdO am fl n lw nn ra rsn nr tr)], [(am 9, .inl (gI G, 8, .inl (fun k => nI (nf k))))], [(am 10, .inl (gI G, 8, .inl (fun k => nI (nt k))))], [(am 16, .inl (gI G, 12, .inl me))], [(am 21, .inl (gI G, 6, .inl ks))]] (fun v w => v = none ∧ ∃ kf : Nat → Int32, (∀ s, s < n → kf s = ksV (nwE nf nt nn fr si me) fr si 12 s) ∧ w = [[(am 31, mdO am fl n lw nn ra rsn nr tr)], [(am 9, .inl (gI G, 8, .inl (fun k => nI (nf k))))], [(am 10, .inl (gI G, 8, .inl (fun k => nI (nt k))))], [(am 16, .inl (gI G, 12, .inl me))], [(am 21, .inl (gI G, 6, .inl kf))]]) := by
  refine CT.of (cc := cX11_goNews) (nL := 7) (ret := none) (by decide) rfl (Nat.le_of_ble_eq_true rfl) ?_
  intro p e s m below meth c R args Q A hRm ha hQ hAe hA S hE hr hlk hnm H locs hH0 hL0 ls hl hw
  have S : CallFix p m c cX11_goNews 7 s args wsX11_goNews RX11 := S
  have hl : lv_has ls 7 [(0, .ref (am 31)), (1, .int (nI fr)), (2, .int (nI si))] := hl
  have hinX11 : ∀ w ∈ u_ws RX11 TX11 31, w ∈ wsX11_goNews := by decide +kernel
  have hf55 := S.2.2.2.2 (.fieldLink RX11 55 "AwakeTurnsModel" "knowsSince" "[I") (by decide +kernel)
  have hf144 := S.2.2.2.2 (.fieldLink RX11 144 "AwakeTurnsModel" "notes" "I") (by decide +kernel)
  have hf40 := S.2.2.2.2 (.fieldLink RX11 40 "AwakeTurnsModel" "meant" "[I") (by decide +kernel)
  have hf25 := S.2.2.2.2 (.fieldLink RX11 25 "AwakeTurnsModel" "noteFrom" "[I") (by decide +kernel)
  have hf28 := S.2.2.2.2 (.fieldLink RX11 28 "AwakeTurnsModel" "noteTo" "[I") (by decide +kernel)
  refine lv_iconst (v := 0) S.1 S.2.1 dX11_goNews_0 (by decide) ?_
  refine lv_istore_n (lv' := [(3, .int 0), (0, .ref (am 31)), (1, .int (nI fr)), (2, .int (nI si))]) S.1 S.2.1 dX11_goNews_1 rfl hl (by decide) rfl (fun ls hl => ?_)
  have hw := aw_arr hw 4 rfl (fa_fill (fun _ => 9999) ks 0) (fun _ _ => by rw [fa_fill_0])
  have hw : bW G A s.heap [[(am 31, mdO am fl n lw nn ra rsn nr tr)], [(am 9, .inl (gI G, 8, .inl (fun k => nI (nf k))))], [(am 10, .inl (gI G, 8, .inl (fun k => nI (nt k))))], [(am 16, .inl (gI G, 12, .inl me))], [(am 21, .inl (gI G, 6, .inl (fa_fill (fun _ => 9999) ks 0)))]] H locs := hw
  have loop2 : ∀ (fu : Nat) (i : Nat), (i ≤ 6) → (6 - i) < fu → ∀ (ls : Array Slot) (H : Heap) (locs : List Loc), lv_has ls 7 [(0, .ref (am 31)), (1, .int (nI fr)), (2, .int (nI si)), (3, .int (nI i))] → bW G A s.heap [[(am 31, mdO am fl n lw nn ra rsn nr tr)], [(am 9, .inl (gI G, 8, .inl (fun k => nI (nf k))))], [(am 10, .inl (gI G, 8, .inl (fun k => nI (nt k))))], [(am 16, .inl (gI G, 12, .inl me))], [(am 21, .inl (gI G, 6, .inl (fa_fill (fun _ => 9999) ks i)))]] H locs → W p l e R s m args below meth c H locs 0 0 Q (F0 m 2 ls []) := by
    intro fu
    induction fu with
    | zero => intro i _ hm; exact absurd hm (Nat.not_lt_zero _)
    | succ fu ih2 =>
      intro i hi hm ls H locs hl hw
      refine lv_iload_n S.1 S.2.1 dX11_goNews_2 rfl (lv_at hl 3 rfl) ?_
      refine lv_bipush (v := 6) S.1 S.2.1 dX11_goNews_3 (by decide) ?_
      refine aw_icmpN_ge (x := i) (y := 6) (tgt := 23) S (by omega) (by omega) dX11_goNews_5 (by decide) (fun c5 => ?_) (fun c5 => ?_)
      · have ex_i : i = 6 := by omega
        try rw [ex_i] at hl
        try rw [ex_i] at hw
        refine lv_aload_n S.1 S.2.1 dX11_goNews_23 rfl (lv_at hl 0 rfl) ?_
        refine aw_get S hE hw 0 (C := RX11) (T := TX11) (N := 31) rfl rfl hinX11 21 (by decide) hf55 rfl dX11_goNews_24 ?_
        refine lv_iload_n S.1 S.2.1 dX11_goNews_27 rfl (lv_at hl 1 rfl) ?_
        refine lv_iload_n S.1 S.2.1 dX11_goNews_28 rfl (lv_at hl 2 rfl) ?_
        refine aw_iast S hE hw 4 (k := fr) rfl (by omega) (by decide) dX11_goNews_29 (fun H locs hw => ?_)
        have hw : bW G A s.heap [[(am 31, mdO am fl n lw nn ra rsn nr tr)], [(am 9, .inl (gI G, 8, .inl (fun k => nI (nf k))))], [(am 10, .inl (gI G, 8, .inl (fun k => nI (nt k))))], [(am 16, .inl (gI G, 12, .inl me))], [(am 21, .inl (gI G, 6, .inl (upd (fa_fill (fun _ => 9999) ks 6) fr (nI si))))]] H locs := hw
        refine lv_iload_n S.1 S.2.1 dX11_goNews_30 rfl (lv_at hl 2 rfl) ?_
        refine lv_istore_n (lv' := [(3, .int (nI si)), (0, .ref (am 31)), (1, .int (nI fr)), (2, .int (nI si))]) S.1 S.2.1 dX11_goNews_31 rfl hl (by decide) rfl (fun ls hl => ?_)
        have loop32 : ∀ (fu : Nat) (m_ : Nat) (kf : Nat → Int32), (si ≤ m_ ∧ m_ ≤ 12) → (∀ s, s < n → kf s = ksV (nwE nf nt nn fr si me) fr si m_ s) → (12 - m_) < fu → ∀ (ls : Array Slot) (H : Heap) (locs : List Loc), lv_has ls 7 [(0, .ref (am 31)), (1, .int (nI fr)), (2, .int (nI si)), (3, .int (nI m_))] → bW G A s.heap [[(am 31, mdO am fl n lw nn ra rsn nr tr)], [(am 9, .inl (gI G, 8, .inl (fun k => nI (nf k))))], [(am 10, .inl (gI G, 8, .inl (fun k => nI (nt k))))], [(am 16, .inl (gI G, 12, .inl me))], [(am 21, .inl (gI G, 6, .inl kf))]] H locs → W p l e R s m args below meth c H locs 0 0 Q (F0 m 32 ls []) := by
          intro fu
          induction fu with
          | zero => intro m_ kf _ _ hm; exact absurd hm (Nat.not_lt_zero _)
          | succ fu ih32 =>
            intro m_ kf hm_ hk hm ls H locs hl hw
            refine lv_iload_n S.1 S.2.1 dX11_goNews_32 rfl (lv_at hl 3 rfl) ?_
            refine lv_bipush (v := 12) S.1 S.2.1 dX11_goNews_33 (by decide) ?_
            refine aw_icmpN_ge (x := m_) (y := 12) (tgt := 145) S (by omega) (by omega) dX11_goNews_35 (by decide) (fun c35 => ?_) (fun c35 => ?_)
            · have ex_m : m_ = 12 := by omega
              rw [ex_m] at hk
              exact aw_vret S hr hlk ha hQ hAe hw dX11_goNews_145 (Nat.le_of_ble_eq_true rfl) (Nat.le_of_ble_eq_true rfl) ⟨rfl, _, hk, rfl⟩
            · refine lv_aload_n S.1 S.2.1 dX11_goNews_38 rfl (lv_at hl 0 rfl) ?_
              refine lv_iload_n S.1 S.2.1 dX11_goNews_39 rfl (lv_at hl 3 rfl) ?_
              refine aw_callV S hE (c_X11_leftBy l G am fl n lw nn ra rsn nr tr me kf m_ (by first | assumption | omega) (by first | assumption | omega)) gX11_goNews_X11_leftBy (n := 1) rfl (by decide +kernel) rfl (by rw [hRm]; exact ⟨Nat.le_of_ble_eq_true rfl, Nat.le_of_ble_eq_true rfl⟩) (by rw [hRm]; exact ⟨Nat.le_of_ble_eq_true rfl, Nat.le_of_ble_eq_true rfl⟩) hw hA hl.1 [0, 3, 4] rfl rfl (aw_recv (i := 0) hE hw rfl rfl rfl) rfl (Nat.le_of_ble_eq_true rfl) dX11_goNews_40 ?_
              rintro v w1 H locs ⟨x, rfl, hx, rfl⟩ hw
              have hxF : x = (nwK nf nt nn fr si me m_).2 := gn_left hn hfr hm_.1 hm_.2 hme hk hx
              have hw : bW G A s.heap [[(am 31, mdO am fl n lw nn ra rsn nr tr)], [(am 9, .inl (gI G, 8, .inl (fun k => nI (nf k))))], [(am 10, .inl (gI G, 8, .inl (fun k => nI (nt k))))], [(am 16, .inl (gI G, 12, .inl me))], [(am 21, .inl (gI G, 6, .inl kf))]] H locs := hw
              refine W.eq (g2 := (F0 m 43 ls [.int x])) rfl ?_
              refine lv_istore (lv' := [(4, .int x), (0, .ref (am 31)), (1, .int (nI fr)), (2, .int (nI si)), (3, .int (nI m_))]) S.1 S.2.1 dX11_goNews_43 hl (by decide) rfl (fun ls hl => ?_)
              refine lv_iconst (v := 0) S.1 S.2.1 dX11_goNews_45 (by decide) ?_
              refine lv_istore (lv' := [(5, .int 0), (4, .int x), (0, .ref (am 31)), (1, .int (nI fr)), (2, .int (nI si)), (3, .int (nI m_))]) S.1 S.2.1 dX11_goNews_46 hl (by decide) rfl (fun ls hl => ?_)
              refine lv_iconst (v := 0) S.1 S.2.1 dX11_goNews_48 (by decide) ?_
              refine lv_istore (lv' := [(6, .int 0), (5, .int 0), (4, .int x), (0, .ref (am 31)), (1, .int (nI fr)), (2, .int (nI si)), (3, .int (nI m_))]) S.1 S.2.1 dX11_goNews_49 hl (by decide) rfl (fun ls hl => ?_)
              have loop51 : ∀ (fu : Nat) (k : Nat), (k ≤ nn) → (nn - k) < fu → ∀ (ls : Array Slot) (H : Heap) (locs : List Loc), lv_has ls 7 [(0, .ref (am 31)), (1, .int (nI fr)), (2, .int (nI si)), (3, .int (nI m_)), (4, .int x), (5, .int (rdF nf nt x k)), (6, .int (nI k))] → bW G A s.heap [[(am 31, mdO am fl n lw nn ra rsn nr tr)], [(am 9, .inl (gI G, 8, .inl (fun k => nI (nf k))))], [(am 10, .inl (gI G, 8, .inl (fun k => nI (nt k))))], [(am 16, .inl (gI G, 12, .inl me))], [(am 21, .inl (gI G, 6, .inl kf))]] H locs → W p l e R s m args below meth c H locs 0 0 Q (F0 m 51 ls []) := by
                intro fu
                induction fu with
                | zero => intro k _ hm; exact absurd hm (Nat.not_lt_zero _)
                | succ fu ih51 =>
                  intro k hk_ hm ls H locs hl hw
                  refine lv_iload S.1 S.2.1 dX11_goNews_51 (lv_at hl 6 rfl) ?_
                  refine lv_aload_n S.1 S.2.1 dX11_goNews_53 rfl (lv_at hl 0 rfl) ?_
                  refine aw_get S hE hw 0 (C := RX11) (T := TX11) (N := 31) rfl rfl hinX11 8 (by decide) hf144 rfl dX11_goNews_54 ?_
                  refine aw_icmpN_ge (x := k) (y := nn) (tgt := 99) S (by omega) (by omega) dX11_goNews_57 (by decide) (fun c57 => ?_) (fun c57 => ?_)
                  · have ex_k : k = nn := by omega
                    try rw [ex_k] at hl
                    try rw [ex_k] at hw
                    refine lv_aload_n S.1 S.2.1 dX11_goNews_99 rfl (lv_at hl 0 rfl) ?_
                    refine lv_iload S.1 S.2.1 dX11_goNews_100 (lv_at hl 5 rfl) ?_
                    refine lv_aload_n S.1 S.2.1 dX11_goNews_102 rfl (lv_at hl 0 rfl) ?_
                    refine aw_get S hE hw 0 (C := RX11) (T := TX11) (N := 31) rfl rfl hinX11 16 (by decide) hf40 rfl dX11_goNews_103 ?_
                    refine lv_iload_n S.1 S.2.1 dX11_goNews_106 rfl (lv_at hl 3 rfl) ?_
                    refine aw_iald S hE hw 3 (k := m_) rfl (by omega) (by decide) dX11_goNews_107 ?_
                    refine lv_iand S.1 S.2.1 dX11_goNews_108 ?_
                    refine lv_iload_n S.1 S.2.1 dX11_goNews_109 rfl (lv_at hl 3 rfl) ?_
                    refine aw_callV S hE (c_X11_learn l G am fl n lw nn ra rsn nr tr kf ((rdF nf nt x nn) &&& (me m_)) m_ (by first | assumption | omega) (by first | assumption | omega)) gX11_goNews_X11_learn (n := 2) rfl (by decide +kernel) rfl (by rw [hRm]; exact ⟨Nat.le_of_ble_eq_true rfl, Nat.le_of_ble_eq_true rfl⟩) (by rw [hRm]; exact ⟨Nat.le_of_ble_eq_true rfl, Nat.le_of_ble_eq_true rfl⟩) hw hA hl.1 [0, 4] rfl rfl (aw_recv (i := 0) hE hw rfl rfl rfl) rfl (Nat.le_of_ble_eq_true rfl) dX11_goNews_110 ?_
                    rintro v w1 H locs ⟨rfl, rfl⟩ hw
                    have hw : bW G A s.heap [[(am 31, mdO am fl n lw nn ra rsn nr tr)], [(am 9, .inl (gI G, 8, .inl (fun k => nI (nf k))))], [(am 10, .inl (gI G, 8, .inl (fun k => nI (nt k))))], [(am 16, .inl (gI G, 12, .inl me))], [(am 21, .inl (gI G, 6, .inl (lnF n ((rdF nf nt x nn) &&& (me m_)) m_ kf n)))]] H locs := hw
                    refine W.eq (g2 := (F0 m 113 ls [])) rfl ?_
                    refine lv_aload_n S.1 S.2.1 dX11_goNews_113 rfl (lv_at hl 0 rfl) ?_
                    refine lv_iload_n S.1 S.2.1 dX11_goNews_114 rfl (lv_at hl 3 rfl) ?_
                    refine aw_callV S hE (c_X11_knownBy l G am fl n lw nn ra rsn nr tr (lnF n ((rdF nf nt x nn) &&& (me m_)) m_ kf n) m_ (by first | assumption | omega) (by first | assumption | omega)) gX11_goNews_X11_knownBy (n := 1) rfl (by decide +kernel) rfl (by rw [hRm]; exact ⟨Nat.le_of_ble_eq_true rfl, Nat.le_of_ble_eq_true rfl⟩) (by rw [hRm]; exact ⟨Nat.le_of_ble_eq_true rfl, Nat.le_of_ble_eq_true rfl⟩) hw hA hl.1 [0, 4] rfl rfl (aw_recv (i := 0) hE hw rfl rfl rfl) rfl (Nat.le_of_ble_eq_true rfl) dX11_goNews_115 ?_
                    rintro v w1 H locs ⟨rfl, rfl⟩ hw
                    have hw : bW G A s.heap [[(am 31, mdO am fl n lw nn ra rsn nr tr)], [(am 9, .inl (gI G, 8, .inl (fun k => nI (nf k))))], [(am 10, .inl (gI G, 8, .inl (fun k => nI (nt k))))], [(am 16, .inl (gI G, 12, .inl me))], [(am 21, .inl (gI G, 6, .inl (lnF n ((rdF nf nt x nn) &&& (me m_)) m_ kf n)))]] H locs := hw
                    refine W.eq (g2 := (F0 m 118 ls [.int (bgF (fun s => decide ((lnF n ((rdF nf nt x nn) &&& (me m_)) m_ kf n) s ≤ nI m_)) n)])) rfl ?_
                    refine lv_aload_n S.1 S.2.1 dX11_goNews_118 rfl (lv_at hl 0 rfl) ?_
                    refine aw_get S hE hw 0 (C := RX11) (T := TX11) (N := 31) rfl rfl hinX11 16 (by decide) hf40 rfl dX11_goNews_119 ?_
                    refine lv_iload_n S.1 S.2.1 dX11_goNews_122 rfl (lv_at hl 3 rfl) ?_
                    refine aw_iald S hE hw 3 (k := m_) rfl (by omega) (by decide) dX11_goNews_123 ?_
                    refine lv_iand S.1 S.2.1 dX11_goNews_124 ?_
                    refine lv_if_eq (tgt := 139) S.1 S.2.1 dX11_goNews_125 (by decide) (fun c125 => ?_) (fun c125 => ?_)
                    · have hk2 : ∀ s, s < n → lnF n (rdF nf nt x nn &&& me m_) m_ kf n s = ksV (nwE nf nt nn fr si me) fr si (m_ + 1) s := by have q := gn_step (nf := nf) (nt := nt) (nn := nn) (tf := me) hn hfr hm_.1 c35 (hme m_ c35) hk; rw [← hxF] at q; intro s hs; have q1 := q s hs; rw [nsF, if_pos c125] at q1; exact q1
                      refine lv_iinc (v := nI (m_ + 1)) (lv' := [(3, .int (nI (m_ + 1))), (0, .ref (am 31)), (1, .int (nI fr)), (2, .int (nI si)), (4, .int x), (5, .int (rdF nf nt x nn)), (6, .int (nI nn))]) S.1 S.2.1 dX11_goNews_139 hl (k := 3) rfl (by first | exact nI_1 _ | exact nI_add _ _ | rfl) (by decide) rfl (fun ls hl => ?_)
                      refine lv_goto (tgt := 32) S.1 S.2.1 dX11_goNews_142 (by decide) ?_
                      exact ih32 (m_ + 1) (lnF n ((rdF nf nt x nn) &&& (me m_)) m_ kf n) (by omega) hk2 (by omega) _ _ _ (lv_sub hl [1, 2, 3, 0] rfl) hw
                    · have hk2 : ∀ s, s < n → lnF n (me m_) m_ (lnF n (rdF nf nt x nn &&& me m_) m_ kf n) n s = ksV (nwE nf nt nn fr si me) fr si (m_ + 1) s := by have q := gn_step (nf := nf) (nt := nt) (nn := nn) (tf := me) hn hfr hm_.1 c35 (hme m_ c35) hk; rw [← hxF] at q; intro s hs; have q1 := q s hs; rw [nsF, if_neg c125] at q1; exact q1
                      refine lv_aload_n S.1 S.2.1 dX11_goNews_128 rfl (lv_at hl 0 rfl) ?_
                      refine lv_aload_n S.1 S.2.1 dX11_goNews_129 rfl (lv_at hl 0 rfl) ?_
                      refine aw_get S hE hw 0 (C := RX11) (T := TX11) (N := 31) rfl rfl hinX11 16 (by decide) hf40 rfl dX11_goNews_130 ?_
                      refine lv_iload_n S.1 S.2.1 dX11_goNews_133 rfl (lv_at hl 3 rfl) ?_
                      refine aw_iald S hE hw 3 (k := m_) rfl (by omega) (by decide) dX11_goNews_134 ?_
                      refine lv_iload_n S.1 S.2.1 dX11_goNews_135 rfl (lv_at hl 3 rfl) ?_
                      refine aw_callV S hE (c_X11_learn l G am fl n lw nn ra rsn nr tr (lnF n ((rdF nf nt x nn) &&& (me m_)) m_ kf n) (me m_) m_ (by first | assumption | omega) (by first | assumption | omega)) gX11_goNews_X11_learn (n := 2) rfl (by decide +kernel) rfl (by rw [hRm]; exact ⟨Nat.le_of_ble_eq_true rfl, Nat.le_of_ble_eq_true rfl⟩) (by rw [hRm]; exact ⟨Nat.le_of_ble_eq_true rfl, Nat.le_of_ble_eq_true rfl⟩) hw hA hl.1 [0, 4] rfl rfl (aw_recv (i := 0) hE hw rfl rfl rfl) rfl (Nat.le_of_ble_eq_true rfl) dX11_goNews_136 ?_
                      rintro v w1 H locs ⟨rfl, rfl⟩ hw
                      have hw : bW G A s.heap [[(am 31, mdO am fl n lw nn ra rsn nr tr)], [(am 9, .inl (gI G, 8, .inl (fun k => nI (nf k))))], [(am 10, .inl (gI G, 8, .inl (fun k => nI (nt k))))], [(am 16, .inl (gI G, 12, .inl me))], [(am 21, .inl (gI G, 6, .inl (lnF n (me m_) m_ (lnF n ((rdF nf nt x nn) &&& (me m_)) m_ kf n) n)))]] H locs := hw
                      refine W.eq (g2 := (F0 m 139 ls [])) rfl ?_
                      refine lv_iinc (v := nI (m_ + 1)) (lv' := [(3, .int (nI (m_ + 1))), (0, .ref (am 31)), (1, .int (nI fr)), (2, .int (nI si)), (4, .int x), (5, .int (rdF nf nt x nn)), (6, .int (nI nn))]) S.1 S.2.1 dX11_goNews_139 hl (k := 3) rfl (by first | exact nI_1 _ | exact nI_add _ _ | rfl) (by decide) rfl (fun ls hl => ?_)
                      refine lv_goto (tgt := 32) S.1 S.2.1 dX11_goNews_142 (by decide) ?_
                      exact ih32 (m_ + 1) (lnF n (me m_) m_ (lnF n ((rdF nf nt x nn) &&& (me m_)) m_ kf n) n) (by omega) hk2 (by omega) _ _ _ (lv_sub hl [1, 2, 3, 0] rfl) hw
                  · refine lv_iload S.1 S.2.1 dX11_goNews_60 (lv_at hl 5 rfl) ?_
                    refine lv_iload S.1 S.2.1 dX11_goNews_62 (lv_at hl 4 rfl) ?_
                    refine lv_aload_n S.1 S.2.1 dX11_goNews_64 rfl (lv_at hl 0 rfl) ?_
                    refine aw_get S hE hw 0 (C := RX11) (T := TX11) (N := 31) rfl rfl hinX11 9 (by decide) hf25 rfl dX11_goNews_65 ?_
                    refine lv_iload S.1 S.2.1 dX11_goNews_68 (lv_at hl 6 rfl) ?_
                    refine aw_iald S hE hw 1 (k := k) rfl (by omega) (by decide) dX11_goNews_70 ?_
                    refine aw_callS S hE (c_X11_isIn l G x (nf k) (by have := hnf k (by omega); omega)) gX11_goNews_X11_isIn (n := 2) rfl (by decide +kernel) rfl (by rw [hRm]; exact ⟨Nat.le_of_ble_eq_true rfl, Nat.le_of_ble_eq_true rfl⟩) (by rw [hRm]; exact ⟨Nat.le_of_ble_eq_true rfl, Nat.le_of_ble_eq_true rfl⟩) hw hA hl.1 [] rfl rfl rfl (Nat.le_of_ble_eq_true rfl) dX11_goNews_71 ?_
                    rintro v w1 H locs ⟨rfl, rfl⟩ hw
                    have hw : bW G A s.heap [[(am 31, mdO am fl n lw nn ra rsn nr tr)], [(am 9, .inl (gI G, 8, .inl (fun k => nI (nf k))))], [(am 10, .inl (gI G, 8, .inl (fun k => nI (nt k))))], [(am 16, .inl (gI G, 12, .inl me))], [(am 21, .inl (gI G, 6, .inl kf))]] H locs := hw
                    refine W.eq (g2 := (F0 m 74 ls [.int (if bt x (nf k) = true then 1 else 0), .int (rdF nf nt x k)])) rfl ?_
                    have join90 : ∀ (H : Heap) (locs : List Loc), ∀ (ls : Array Slot), lv_has ls 7 [(0, .ref (am 31)), (1, .int (nI fr)), (2, .int (nI si)), (3, .int (nI m_)), (4, .int x), (5, .int (rdF nf nt x k)), (6, .int (nI k))] → bW G A s.heap [[(am 31, mdO am fl n lw nn ra rsn nr tr)], [(am 9, .inl (gI G, 8, .inl (fun k => nI (nf k))))], [(am 10, .inl (gI G, 8, .inl (fun k => nI (nt k))))], [(am 16, .inl (gI G, 12, .inl me))], [(am 21, .inl (gI G, 6, .inl kf))]] H locs → W p l e R s m args below meth c H locs 0 0 Q (F0 m 90 ls [.int (if bt x (nf k) = true then 1 <<< (nI (nt k) &&& 31) else 0), .int (rdF nf nt x k)]) := by
                      intro  H locs ls hl hw
                      refine lv_ior S.1 S.2.1 dX11_goNews_90 ?_
                      refine aw_eqi (show ((rdF nf nt x k) ||| (if bt x (nf k) = true then 1 <<< (nI (nt k) &&& 31) else 0) : Int32) = rdF nf nt x (k + 1) from (or_if _ _)) ?_
                      refine lv_istore (lv' := [(5, .int (rdF nf nt x (k + 1))), (0, .ref (am 31)), (1, .int (nI fr)), (2, .int (nI si)), (3, .int (nI m_)), (4, .int x), (6, .int (nI k))]) S.1 S.2.1 dX11_goNews_91 hl (by decide) rfl (fun ls hl => ?_)
                      refine lv_iinc (v := nI (k + 1)) (lv' := [(6, .int (nI (k + 1))), (5, .int (rdF nf nt x (k + 1))), (0, .ref (am 31)), (1, .int (nI fr)), (2, .int (nI si)), (3, .int (nI m_)), (4, .int x)]) S.1 S.2.1 dX11_goNews_93 hl (k := 6) rfl (by first | exact nI_1 _ | exact nI_add _ _ | rfl) (by decide) rfl (fun ls hl => ?_)
                      refine lv_goto (tgt := 51) S.1 S.2.1 dX11_goNews_96 (by decide) ?_
                      exact ih51 (k + 1) (by first | assumption | omega) (by omega) _ _ _ (lv_sub hl [2, 3, 4, 5, 6, 1, 0] rfl) hw
                    refine aw_ifeq (P := bt x (nf k) = true) (tgt := 89) S dX11_goNews_74 (by decide) (fun c74 => ?_) (fun c74 => ?_)
                    · refine lv_iconst (v := 0) S.1 S.2.1 dX11_goNews_89 (by decide) ?_
                      refine aw_eqi (show (0 : Int32) = if bt x (nf k) = true then 1 <<< (nI (nt k) &&& 31) else 0 from (by rw [if_neg c74])) ?_
                      exact join90  _ _ _ (lv_sub hl [0, 1, 2, 3, 4, 5, 6] rfl) hw
                    · refine lv_iconst (v := 1) S.1 S.2.1 dX11_goNews_77 (by decide) ?_
                      refine lv_aload_n S.1 S.2.1 dX11_goNews_78 rfl (lv_at hl 0 rfl) ?_
                      refine aw_get S hE hw 0 (C := RX11) (T := TX11) (N := 31) rfl rfl hinX11 10 (by decide) hf28 rfl dX11_goNews_79 ?_
                      refine lv_iload S.1 S.2.1 dX11_goNews_82 (lv_at hl 6 rfl) ?_
                      refine aw_iald S hE hw 2 (k := k) rfl (by omega) (by decide) dX11_goNews_84 ?_
                      refine lv_ishl S.1 S.2.1 dX11_goNews_85 ?_
                      refine lv_goto (tgt := 90) S.1 S.2.1 dX11_goNews_86 (by decide) ?_
                      refine aw_eqi (show (1 <<< ((nI (nt k)) &&& 31) : Int32) = if bt x (nf k) = true then 1 <<< (nI (nt k) &&& 31) else 0 from (by rw [if_pos c74])) ?_
                      exact join90  _ _ _ (lv_sub hl [0, 1, 2, 3, 4, 5, 6] rfl) hw
              exact loop51 _ 0 (by first | assumption | omega) (Nat.lt_succ_self _) _ _ _ (lv_sub hl [3, 4, 5, 6, 2, 1, 0] rfl) hw
        exact loop32 _ si (upd (fa_fill (fun _ => 9999) ks 6) fr (nI si)) (by omega) (fun s hs => by rw [ksV_0]; unfold upd; by_cases z : s = fr; (rw [if_pos z, if_pos z]); (rw [if_neg z, if_neg z, fa_fill_in (by omega)])) (Nat.lt_succ_self _) _ _ _ (lv_sub hl [1, 2, 3, 0] rfl) hw
      · refine lv_aload_n S.1 S.2.1 dX11_goNews_8 rfl (lv_at hl 0 rfl) ?_
        refine aw_get S hE hw 0 (C := RX11) (T := TX11) (N := 31) rfl rfl hinX11 21 (by decide) hf55 rfl dX11_goNews_9 ?_
        refine lv_iload_n S.1 S.2.1 dX11_goNews_12 rfl (lv_at hl 3 rfl) ?_
        refine lv_sipush (v := 9999) S.1 S.2.1 dX11_goNews_13 (by decide) ?_
        refine aw_iast S hE hw 4 (k := i) rfl (by omega) (by decide) dX11_goNews_16 (fun H locs hw => ?_)
        have hw : bW G A s.heap [[(am 31, mdO am fl n lw nn ra rsn nr tr)], [(am 9, .inl (gI G, 8, .inl (fun k => nI (nf k))))], [(am 10, .inl (gI G, 8, .inl (fun k => nI (nt k))))], [(am 16, .inl (gI G, 12, .inl me))], [(am 21, .inl (gI G, 6, .inl (upd (fa_fill (fun _ => 9999) ks i) i 9999)))]] H locs := hw
        refine lv_iinc (v := nI (i + 1)) (lv' := [(3, .int (nI (i + 1))), (0, .ref (am 31)), (1, .int (nI fr)), (2, .int (nI si))]) S.1 S.2.1 dX11_goNews_17 hl (k := 3) rfl (by first | exact nI_1 _ | exact nI_add _ _ | rfl) (by decide) rfl (fun ls hl => ?_)
        refine lv_goto (tgt := 2) S.1 S.2.1 dX11_goNews_20 (by decide) ?_
        have hw := aw_arr hw 4 rfl (fa_fill (fun _ => 9999) ks (i + 1)) (fun _ _ => by rw [← fa_fill_succ])
        have hw : bW G A s.heap [[(am 31, mdO am fl n lw nn ra rsn nr tr)], [(am 9, .inl (gI G, 8, .inl (fun k => nI (nf k))))], [(am 10, .inl (gI G, 8, .inl (fun k => nI (nt k))))], [(am 16, .inl (gI G, 12, .inl me))], [(am 21, .inl (gI G, 6, .inl (fa_fill (fun _ => 9999) ks (i + 1))))]] H locs := hw
        exact ih2 (i + 1) (by first | assumption | omega) (by omega) _ _ _ (lv_sub hl [1, 2, 3, 0] rfl) hw
  exact loop2 _ 0 (by first | assumption | omega) (Nat.lt_succ_self _) _ _ _ (lv_sub hl [1, 2, 3, 0] rfl) hw
