-- TEXTS: the signs s of a tape of n, what is read of them
def rdw (s : Nat → Int32) (i : Nat) : Nat → Nat → Nat → Nat × Bool
  | 0, a, _ => (a, true)
  | m + 1, a, k => if s a = stC i k then rdw s i m (a + 1) (k + 1) else (a, false)
def rW (s : Nat → Int32) (i a : Nat) : Nat × Bool := rdw s i (strLen.getD i 0) a 0
def rdn (s : Nat → Int32) : Nat → Nat → Option Nat → Nat × Option Nat
  | 0, a, o => (a, o)
  | m + 1, a, o => if 0 ≤ s a - 48 ∧ s a - 48 ≤ 9 then rdn s m (a + 1) (some (10 * o.getD 0 + (s a - 48).toNatClampNeg)) else (a, o)
def rN (s : Nat → Int32) (a : Nat) : Nat × Option Nat := rdn s 3 a none
def sOk (s : Nat → Int32) (n : Nat) : Prop := n ≤ 100 ∧ (∀ a, n ≤ a → s a = -1) ∧ ∀ a, a < n → ∃ q, q < 256 ∧ s a = nI q
theorem sOk_lt {s : Nat → Int32} {n a : Nat} (h : sOk s n) (e : ¬ s a = -1) : a < n := Nat.not_le.mp (fun q => e (h.2.1 a q))
theorem st_pos : ∀ i, i < 9 → ∀ k, k < strLen.getD i 0 → ¬ stC i k = -1 := by decide +kernel
theorem rdw_le {s : Nat → Int32} {n i : Nat} (h : sOk s n) (hi : i < 9) : ∀ m a k, k + m = strLen.getD i 0 → a ≤ n → (rdw s i m a k).1 ≤ n := by
  intro m
  induction m with
  | zero => intro a k _ ha; exact ha
  | succ m ih =>
    intro a k hk ha
    simp only [rdw]
    split
    · rename_i e
      have := sOk_lt (a := a) h (by rw [e]; exact st_pos i hi k (by omega))
      exact ih (a + 1) (k + 1) (by omega) (by omega)
    · exact ha
theorem rW_le {s : Nat → Int32} {n i a : Nat} (h : sOk s n) (hi : i < 9) (ha : a ≤ n) : (rW s i a).1 ≤ n := rdw_le h hi _ a 0 (by omega) ha
theorem dig_lt {s : Nat → Int32} {n a : Nat} (h : sOk s n) (e : 0 ≤ s a - 48) : a < n := sOk_lt h (fun q => by rw [q] at e; exact absurd e (by decide))
theorem rdn_le {s : Nat → Int32} {n : Nat} (h : sOk s n) : ∀ m a o, a ≤ n → (rdn s m a o).1 ≤ n := by
  intro m
  induction m with
  | zero => intro a o ha; exact ha
  | succ m ih =>
    intro a o ha
    simp only [rdn]
    split
    · rename_i e
      have := dig_lt (a := a) h e.1
      exact ih (a + 1) _ (by omega)
    · exact ha
theorem rN_le {s : Nat → Int32} {n a : Nat} (h : sOk s n) (ha : a ≤ n) : (rN s a).1 ≤ n := rdn_le h 3 a none ha
theorem rdn_lt (s : Nat → Int32) : ∀ m a o B, o.getD 0 < B → ∀ v, (rdn s m a o).2 = some v → v < 10 ^ m * B := by
  intro m
  induction m with
  | zero =>
    intro a o B hB v e
    simp only [rdn] at e
    subst e
    simpa using hB
  | succ m ih =>
    intro a o B hB v e
    simp only [rdn] at e
    split at e
    · rename_i d
      obtain ⟨j, hj, ej⟩ := ix_of 9 rfl d
      rw [ej, nI_clamp (by omega)] at e
      have := ih (a + 1) (some (10 * o.getD 0 + j)) (10 * B) (by simp only [Option.getD_some]; omega) v e
      rw [Nat.pow_succ, Nat.mul_assoc]
      exact this
    · have e : o = some v := e
      subst e
      have : v < B := by simpa using hB
      have : 0 < 10 ^ (m + 1) := Nat.pow_pos (by decide)
      exact Nat.lt_of_lt_of_le (by assumption) (Nat.le_mul_of_pos_left B this)
theorem rN_lt {s : Nat → Int32} {a v : Nat} (e : (rN s a).2 = some v) : v < 1000 := by
  have := rdn_lt s 3 a none 1 (by decide) v e
  omega
-- clauses: kind, its two numbers
def pSrc (s : Nat → Int32) (a : Nat) : Nat × Option (Nat × Nat × Nat) :=
  if (rW s 0 a).2 = true then
    (if s (rW s 0 a).1 = 108 then ((rW s 1 (rW s 0 a).1).1, if (rW s 1 (rW s 0 a).1).2 = true then some (0, 0, 0) else none)
    else if s (rW s 0 a).1 = 109 then ((rW s 2 (rW s 0 a).1).1, if (rW s 2 (rW s 0 a).1).2 = true then some (0, 1, 0) else none)
    else if s (rW s 0 a).1 = 104 then ((rW s 3 (rW s 0 a).1).1, if (rW s 3 (rW s 0 a).1).2 = true then some (0, 2, 0) else none)
    else ((rW s 0 a).1, none))
  else ((rW s 0 a).1, none)
def pKing (s : Nat → Int32) (a : Nat) : Nat × Option Nat := if 0 ≤ s a - 48 ∧ s a - 48 ≤ 5 then (a + 1, some (s a - 48).toNatClampNeg) else (a, none)
def pNum (s : Nat → Int32) (k a : Nat) : Nat × Option (Nat × Nat × Nat) :=
  if (rW s 5 a).2 = true then ((rN s (rW s 5 a).1).1, (rN s (rW s 5 a).1).2.map (fun v => (1, k, v))) else ((rW s 5 a).1, none)
def pPass (s : Nat → Int32) (a : Nat) : Nat × Option (Nat × Nat × Nat) :=
  if (rW s 4 a).2 = true then
    (match pKing s (rW s 4 a).1 with
    | (c, none) => (c, none)
    | (c, some k) => pNum s k c)
  else ((rW s 4 a).1, none)
def pBar (s : Nat → Int32) (a : Nat) : Nat × Option (Nat × Nat × Nat) :=
  if (rW s 6 a).2 = true then ((pKing s (rW s 6 a).1).1, (pKing s (rW s 6 a).1).2.map (fun k => (2, k, 0))) else ((rW s 6 a).1, none)
def pLast (s : Nat → Int32) (f a : Nat) : Nat × Option (Nat × Nat) :=
  if (rW s 8 a).2 = true then
    ((rN s (rW s 8 a).1).1, match (rN s (rW s 8 a).1).2 with
      | none => none
      | some l => if l < 12 ∧ f ≤ l then some (f, l) else none)
  else ((rW s 8 a).1, none)
def pMon (s : Nat → Int32) (a : Nat) : Nat × Option (Nat × Nat) :=
  if s a = 32 then
    (if (rW s 7 a).2 = true then
      (match rN s (rW s 7 a).1 with
      | (c, none) => (c, none)
      | (c, some f) => if f < 12 then pLast s f c else (c, none))
    else ((rW s 7 a).1, none))
  else (a, some (0, 11))
def pHead (s : Nat → Int32) (a : Nat) : Nat × Option (Nat × Nat × Nat) := if s a = 115 then pSrc s a else if s a = 112 then pPass s a else if s a = 98 then pBar s a else (a, none)
def pCl (s : Nat → Int32) (a : Nat) : Nat × Option (Nat × Nat × Nat × Nat × Nat) := match pHead s a with
  | (b, none) => (b, none)
  | (b, some (k, x, y)) => ((pMon s b).1, (pMon s b).2.map (fun q => (k, x, y, q.1, q.2)))
theorem pKing_le {s : Nat → Int32} {n a : Nat} (h : sOk s n) (ha : a ≤ n) : (pKing s a).1 ≤ n := by
  unfold pKing
  split
  · rename_i e; have := dig_lt (a := a) h e.1; exact this
  · exact ha
theorem pKing_lt {s : Nat → Int32} {a k : Nat} (e : (pKing s a).2 = some k) : k < 6 ∧ s a - 48 = nI k ∧ pKing s a = (a + 1, some k) := by
  unfold pKing at e ⊢
  split at e
  · rename_i d
    obtain ⟨j, hj, ej⟩ := ix_of 5 rfl d
    rw [if_pos d]
    rw [ej, nI_clamp (by omega)] at e ⊢
    simp only [Option.some.injEq] at e
    subst e
    exact ⟨by omega, rfl, rfl⟩
  · exact absurd e (by simp)
theorem pSrc_le {s : Nat → Int32} {n a : Nat} (h : sOk s n) (ha : a ≤ n) : (pSrc s a).1 ≤ n := by
  have h0 := rW_le (i := 0) h (by decide) ha
  unfold pSrc
  repeat' split
  all_goals first | exact h0 | exact rW_le h (by decide) h0
theorem pPass_le {s : Nat → Int32} {n a : Nat} (h : sOk s n) (ha : a ≤ n) : (pPass s a).1 ≤ n := by
  have h0 := rW_le (i := 4) h (by decide) ha
  have h1 := pKing_le h h0
  unfold pPass
  split
  · cases hk : pKing s (rW s 4 a).1 with
    | mk c o =>
      rw [hk] at h1
      cases o with
      | none => exact h1
      | some k =>
        have h2 := rW_le (i := 5) h (by decide) h1
        show (pNum s k c).1 ≤ n
        unfold pNum
        split
        · exact rN_le h h2
        · exact h2
  · exact h0
theorem pBar_le {s : Nat → Int32} {n a : Nat} (h : sOk s n) (ha : a ≤ n) : (pBar s a).1 ≤ n := by
  have h0 := rW_le (i := 6) h (by decide) ha
  unfold pBar
  split
  · exact pKing_le h h0
  · exact h0
theorem pHead_le {s : Nat → Int32} {n a : Nat} (h : sOk s n) (ha : a ≤ n) : (pHead s a).1 ≤ n := by
  unfold pHead
  repeat' split
  · exact pSrc_le h ha
  · exact pPass_le h ha
  · exact pBar_le h ha
  · exact ha
theorem pLast_le {s : Nat → Int32} {n f a : Nat} (h : sOk s n) (ha : a ≤ n) : (pLast s f a).1 ≤ n := by
  have h0 := rW_le (i := 8) h (by decide) ha
  unfold pLast
  split
  · exact rN_le h h0
  · exact h0
theorem pMon_le {s : Nat → Int32} {n a : Nat} (h : sOk s n) (ha : a ≤ n) : (pMon s a).1 ≤ n := by
  have h0 := rW_le (i := 7) h (by decide) ha
  have h1 := rN_le h h0
  unfold pMon
  split
  · split
    · cases hk : rN s (rW s 7 a).1 with
      | mk c o =>
        rw [hk] at h1
        cases o with
        | none => exact h1
        | some f =>
          show (if f < 12 then pLast s f c else (c, none)).1 ≤ n
          split
          · exact pLast_le h h1
          · exact h1
    · exact h0
  · exact ha
theorem pCl_le {s : Nat → Int32} {n a : Nat} (h : sOk s n) (ha : a ≤ n) : (pCl s a).1 ≤ n := by
  have h0 := pHead_le h ha
  unfold pCl
  cases hk : pHead s a with
  | mk b o =>
    rw [hk] at h0
    cases o with
    | none => exact h0
    | some v => exact pMon_le h h0
/-- the numbers of a clause -/
def okC (k x y : Nat) : Prop := (k = 0 ∧ x < 3 ∧ y = 0) ∨ (k = 1 ∧ x < 6 ∧ y < 1000) ∨ (k = 2 ∧ x < 6 ∧ y = 0)
theorem pHead_ok {s : Nat → Int32} {a b k x y : Nat} (h : pHead s a = (b, some (k, x, y))) : okC k x y := by
  unfold pHead at h
  split at h
  · unfold pSrc at h
    repeat' split at h
    all_goals (first | (simp only [Prod.mk.injEq, Option.some.injEq] at h; obtain ⟨_, rfl, rfl, rfl⟩ := h; exact Or.inl ⟨rfl, by decide, rfl⟩) | (simp only [Prod.mk.injEq] at h; exact absurd h.2 (by simp)))
  · split at h
    · unfold pPass at h
      split at h
      · cases hk : pKing s (rW s 4 a).1 with
        | mk c o =>
          rw [hk] at h
          cases o with
          | none => simp only [Prod.mk.injEq] at h; exact absurd h.2 (by simp)
          | some q =>
            have hq := (pKing_lt (s := s) (a := (rW s 4 a).1) (k := q) (by rw [hk])).1
            simp only at h
            unfold pNum at h
            split at h
            · simp only [Prod.mk.injEq] at h
              cases hv : (rN s (rW s 5 c).1).2 with
              | none => rw [hv] at h; exact absurd h.2 (by simp)
              | some v =>
                rw [hv] at h
                simp only [Option.map_some, Option.some.injEq, Prod.mk.injEq] at h
                obtain ⟨_, rfl, rfl, rfl⟩ := h
                exact Or.inr (Or.inl ⟨rfl, hq, rN_lt hv⟩)
            · simp only [Prod.mk.injEq] at h; exact absurd h.2 (by simp)
      · simp only [Prod.mk.injEq] at h; exact absurd h.2 (by simp)
    · split at h
      · unfold pBar at h
        split at h
        · simp only [Prod.mk.injEq] at h
          cases hv : (pKing s (rW s 6 a).1).2 with
          | none => rw [hv] at h; exact absurd h.2 (by simp)
          | some v =>
            rw [hv] at h
            simp only [Option.map_some, Option.some.injEq, Prod.mk.injEq] at h
            obtain ⟨_, rfl, rfl, rfl⟩ := h
            exact Or.inr (Or.inr ⟨rfl, (pKing_lt hv).1, rfl⟩)
        · simp only [Prod.mk.injEq] at h; exact absurd h.2 (by simp)
      · simp only [Prod.mk.injEq] at h; exact absurd h.2 (by simp)
