theorem image_inv {I J G : Nat → Nat → Int32} {L M : Nat → Nat → Int64} {z : Bool} (hI : Inv I L z) (j1 : ∀ a, (a < 71 ∨ 105 < a) → a ≠ 0 → J a = I a) (j3 : J 0 7 = 1) (m1 : ∀ a, a ≠ 86 → M a = L a) (c : cpd I L J M 70 0) (g1 : ∀ a, a ≠ 59 → a ≠ 57 → G a = J a) (g2 : ∀ j, j ≠ 2 → G 57 j = J 57 j) (g3 : G 57 2 = 1) (g4 : rg (G 59) (J 58) 1598) : Inv G M true := by
  have j58 : J 58 = I 58 := j1 58 (Or.inl (by decide)) (by decide)
  have j57 : J 57 = I 57 := j1 57 (Or.inl (by decide)) (by decide)
  have g : ∀ a, a < 71 → a ≠ 0 → a ≠ 59 → a ≠ 57 → G a = I a := fun a h h0 h59 h57 => (g1 a h59 h57).trans (j1 a (Or.inl h) h0)
  rw [j58] at g4
  obtain ⟨hW, b2, b3, b4, b5, b6⟩ := hI
  refine ⟨?_, ⟨?_, Or.inr ⟨?_, rfl, ?_⟩⟩, ?_, ?_, ?_, ?_⟩
  · unfold CW at hW ⊢
    simpa (disch := decide) only [g, m1] using hW
  · rw [g1 0 (by decide) (by decide), j3, g3]
  · rw [g1 0 (by decide) (by decide)]; exact j3
  · refine CW_mv (bs := 0) (mm := 58) hW g4 ?_
    unfold cpd at c ⊢
    simpa (disch := decide) only [g1] using c
  · obtain ⟨n, h1, h2, h3, h4⟩ := b3
    refine ⟨n, h1, ?_, ?_, fun i hi => ?_⟩
    · rw [g 36 (by decide) (by decide) (by decide) (by decide)]; exact h2
    · rw [g2 4 (by decide), j57]; exact h3
    · rw [g 37 (by decide) (by decide) (by decide) (by decide), g 60 (by decide) (by decide) (by decide) (by decide)]; exact h4 i hi
  · intro s hs
    have := b4 s hs
    simpa (disch := omega) only [g, m1] using this
  · unfold cTal at b5 ⊢
    simpa (disch := decide) only [g] using b5
  · obtain ⟨h1, h2, h3⟩ := b6
    refine ⟨?_, ?_, ?_⟩
    · rw [g2 9 (by decide), j57]; exact h1
    · rw [m1 57 (by decide)]; exact h2
    · rw [g2 11 (by decide), j57]; exact h3
