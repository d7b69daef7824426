theorem upL_2 (L : Nat → Nat → Int64) (a j : Nat) (v w : Int64) : upL (upL L a j v) a j w = upL L a j w := by
  funext x y
  unfold upL
  by_cases h : x = a ∧ y = j
  · rw [if_pos h, if_pos h]
  · rw [if_neg h, if_neg h, if_neg h]
theorem upL_self (L : Nat → Nat → Int64) (a j : Nat) : upL L a j (L a j) = L := by
  funext x y
  unfold upL
  by_cases h : x = a ∧ y = j
  · rw [if_pos h, h.1, h.2]
  · rw [if_neg h]
theorem cnt_kth (p : Nat → Bool) (n : Nat) : ∀ j, j < cntN p n → ∃ r, r < n ∧ p r = true ∧ cntN p r = j := by
  induction n with
  | zero => intro j hj; simp [cntN] at hj
  | succ n ih =>
    intro j hj
    cases hp0 : p n with
    | true =>
      rw [cntN_y hp0] at hj
      by_cases e : j = cntN p n
      · exact ⟨n, by omega, hp0, e.symm⟩
      · obtain ⟨r, h1, h2⟩ := ih j (by omega)
        exact ⟨r, by omega, h2⟩
    | false =>
      rw [cntN_n hp0] at hj
      obtain ⟨r, h1, h2⟩ := ih j hj
      exact ⟨r, by omega, h2⟩
theorem last_ex {p : Nat → Prop} (n r0 : Nat) (h0 : r0 < n) (hp0 : p r0) : ∃ r, r < n ∧ p r ∧ ∀ k, r < k → k < n → ¬ p k := by
  induction n with
  | zero => omega
  | succ n ih =>
    by_cases hn : p n
    · exact ⟨n, by omega, hn, fun k h1 h2 => by omega⟩
    · have : r0 ≠ n := fun h => hn (h ▸ hp0)
      obtain ⟨r, h1, h2, h3⟩ := ih (by omega)
      refine ⟨r, by omega, h2, fun k h4 h5 => ?_⟩
      by_cases e : k = n
      · rw [e]; exact hn
      · exact h3 k h4 (by omega)
def acP (g : Nat → Int32) (c : Nat) : Nat → Int64
  | 0 => 0
  | j + 1 => acP g c j ||| (if b32 (nI c) j = true then 1 <<< ((g j).toInt64 &&& 63) else 0)
theorem bit_acP (g : Nat → Int32) (f : Nat → Nat) (c k : Nat) (hg : ∀ j, j < k → g j = nI (f j) ∧ f j < 64) (i : Nat) : bitL (acP g c k) i = true ↔ ∃ j, j < k ∧ f j = i ∧ b32 (nI c) j = true := by
  induction k with
  | zero => rw [acP, bit_0]; constructor <;> intro h <;> simp at h
  | succ k ih =>
    obtain ⟨g1, g2⟩ := hg k (by omega)
    rw [acP, bit_or, Bool.or_eq_true, ih (fun j hj => hg j (by omega))]
    cases hb : b32 (nI c) k with
    | false =>
      simp only [Bool.false_eq_true, ↓reduceIte, bit_0, or_false]
      constructor
      · rintro ⟨j, h1, h2, h3⟩; exact ⟨j, by omega, h2, h3⟩
      · rintro ⟨j, h1, h2, h3⟩
        have : j ≠ k := fun h => by rw [h, hb] at h3; exact absurd h3 (by decide)
        exact ⟨j, by omega, h2, h3⟩
    | true =>
      simp only [↓reduceIte]
      rw [g1, bit_one g2, decide_eq_true_eq]
      constructor
      · rintro (⟨j, h1, h2, h3⟩ | h)
        · exact ⟨j, by omega, h2, h3⟩
        · exact ⟨k, by omega, h.symm, hb⟩
      · rintro ⟨j, h1, h2, h3⟩
        by_cases e : j = k
        · subst e; exact Or.inr h2.symm
        · exact Or.inl ⟨j, by omega, h2, h3⟩
-- the model's plan: the rows that are chosen, and whether they are in one book
def plI (m : Nat → Int32) (rows : Int64) (r : Nat) (party : Int32) (one : Bool) : Prop := (party = -1 ∧ one = true ∧ ∀ k, k < r → bitL rows k = false) ∨ ((∃ q r0, q < 5 ∧ party = nI q ∧ r0 < r ∧ bitL rows r0 = true ∧ m (289 + 7 * r0) = nI q) ∧ (one = true → ∀ k, k < r → bitL rows k = true → m (289 + 7 * k) = party) ∧ (one = false → ∃ k s, k < r ∧ s < r ∧ bitL rows k = true ∧ bitL rows s = true ∧ ¬ m (289 + 7 * k) = m (289 + 7 * s)))
