theorem Edw_det {lord toll : Nat → Int32} {c w t u t' u' : Nat} (h : Edw lord toll c w t u) (h' : Edw lord toll c w t' u') (ht : t < 48) (ht' : t' < 48) : t = t' ∧ u = u' := by
  obtain ⟨e1, p, hp, e2, e3⟩ := h
  obtain ⟨f1, p', hp', f2, f3⟩ := h'
  rw [e1] at f1
  have e := nI_inj (by omega) (by omega) f1
  subst e
  rw [e2] at f2
  have e := nI_inj (by omega) (by omega) f2
  subst e
  exact ⟨rfl, by rw [e3, f3]⟩
theorem Cat_upd {lord toll : Nat → Int32} {T : Nat → Int32} {c w t : Nat} {v : Int32} (h : Cat_ lord toll T c w) (hct : c ≠ t) (hv : 0 ≤ v.toInt) (hl : (T t).toInt < 0 ∨ v.toInt < (T t).toInt) : Cat_ lord toll (upd T t v) c w := by
  intro h0 t' u ht' he
  rw [upd_ne hct] at h0 ⊢
  have := h h0 t' u ht' he
  by_cases e : t' = t
  · subst e; rw [upd_at]; omega
  · rw [upd_ne e]; exact this
theorem lvw_is {lord toll : Nat → Int32} {fr : Nat} {T : Nat → Int32} {c : Nat} (hl : ∀ t, t < 48 → ∃ k, k < 6 ∧ lord t = nI k) (ht : ∀ k, k < 6 → toll k = -1 ∨ ∃ p, p < 1000 ∧ toll k = nI p) (h : Gd lord toll fr T) (hfr : fr < 48) (hc : c < 48) (h0 : 0 ≤ (T c).toInt) :
    ∀ w, w ≤ 4 → Gd lord toll fr (lvw lord toll T c w) ∧ lvw lord toll T c w c = T c ∧ (∀ t, t < 48 → lvw lord toll T c w t = T t ∨ ((T c).toInt ≤ (lvw lord toll T c w t).toInt ∧ ((T t).toInt < 0 ∨ (lvw lord toll T c w t).toInt < (T t).toInt))) ∧ ∀ x, x < w → Cat_ lord toll (lvw lord toll T c w) c x := by
  intro w
  induction w with
  | zero => intro _; exact ⟨h, rfl, fun t _ => Or.inl rfl, fun x hx => absurd hx (Nat.not_lt_zero _)⟩
  | succ w ih =>
    intro hw
    obtain ⟨i1, i2, i3, i4⟩ := ih (by omega)
    simp only [lvw]
    generalize lvw lord toll T c w = D at i1 i2 i3 i4 ⊢
    rcases rlx_is hl ht i1 hfr hc (show w < 4 by omega) (by rw [i2]; exact h0) with ⟨e, hcat⟩ | ⟨t, u, v, h48, ed, hv, hb, e⟩
    · rw [e]
      refine ⟨i1, i2, i3, fun x hx => ?_⟩
      by_cases ex : x = w
      · subst ex; exact hcat
      · exact i4 x (by omega)
    · rw [e]
      rw [i2] at hv
      have nc : c ≠ t := fun q => by subst q; rw [i2] at hb; omega
      refine ⟨(rel_Gd i1 hfr hc (show w < 4 by omega) (by rw [i2]; exact h0) h48 ed (by rw [i2]; exact hv) hb).1, by rw [upd_ne nc]; exact i2, fun d hd => ?_, fun x hx => ?_⟩
      · by_cases e2 : d = t
        · subst e2
          rw [upd_at]
          right
          refine ⟨by omega, ?_⟩
          rcases i3 d hd with q | ⟨q1, q2⟩
          · rw [q] at hb; exact hb
          · omega
        · rw [upd_ne e2]; exact i3 d hd
      · by_cases ex : x = w
        · subst ex
          intro _ t' u' ht' he
          obtain ⟨rfl, rfl⟩ := Edw_det ed he h48 ht'
          rw [upd_at, upd_ne nc, i2]
          omega
        · exact Cat_upd (i4 x (by omega)) nc (by omega) hb
theorem chB_is (s : Int64) (C : Nat → Int32) (n : Nat) : (chB s C n = none → ∀ d, d < n → bitL s d = false → (C d).toInt < 0) ∧ ∀ b, chB s C n = some b → bitL s b = false ∧ 0 ≤ (C b).toInt ∧ ∀ d, d < n → bitL s d = false → 0 ≤ (C d).toInt → (C b).toInt ≤ (C d).toInt := by
  have z : (0 : Int32).toInt = 0 := rfl
  induction n with
  | zero => exact ⟨fun _ d hd => absurd hd (Nat.not_lt_zero _), fun b h => by simp [chB] at h⟩
  | succ n ih =>
    simp only [chB]
    cases hq : chB s C n with
    | none =>
      have i1 := ih.1 hq
      simp only [Int32.lt_iff_toInt_lt, z]
      by_cases g : bitL s n = false ∧ ¬ (C n).toInt < 0
      · rw [if_pos g]
        refine ⟨fun h => by simp at h, fun b h => ?_⟩
        simp only [Option.some.injEq] at h
        subst h
        refine ⟨g.1, Int.not_lt.mp g.2, fun d hd hb hn => ?_⟩
        by_cases e : d = n
        · subst e; exact Int.le_refl _
        · have := i1 d (by omega) hb; omega
      · rw [if_neg g]
        refine ⟨fun _ d hd hb => ?_, fun b h => by simp at h⟩
        by_cases e : d = n
        · subst e; exact Classical.byContradiction (fun q => g ⟨hb, q⟩)
        · exact i1 d (by omega) hb
    | some b' =>
      obtain ⟨i1, i2, i3⟩ := ih.2 b' hq
      simp only [Int32.lt_iff_toInt_lt, z]
      by_cases g : bitL s n = false ∧ ¬ (C n).toInt < 0 ∧ (C n).toInt < (C b').toInt
      · rw [if_pos g]
        refine ⟨fun h => by simp at h, fun b h => ?_⟩
        simp only [Option.some.injEq] at h
        subst h
        refine ⟨g.1, Int.not_lt.mp g.2.1, fun d hd hb hn => ?_⟩
        by_cases e : d = n
        · subst e; exact Int.le_refl _
        · have := i3 d (by omega) hb hn; omega
      · rw [if_neg g]
        refine ⟨fun h => by simp at h, fun b h => ?_⟩
        simp only [Option.some.injEq] at h
        subst h
        refine ⟨i1, i2, fun d hd hb hn => ?_⟩
        by_cases e : d = n
        · subst e; exact Classical.byContradiction (fun q => g ⟨hb, by omega, by omega⟩)
        · exact i3 d (by omega) hb hn
/-- what holds at each turn of the search: the settled cells are closed and the cheapest -/
def Dj (lord toll : Nat → Int32) (fr : Nat) (s : Int64) (T : Nat → Int32) : Prop := Gd lord toll fr T ∧ (∀ c, c < 48 → bitL s c = true → 0 ≤ (T c).toInt ∧ ∀ w, w < 4 → Cat_ lord toll T c w) ∧ ∀ c d, c < 48 → d < 48 → bitL s c = true → bitL s d = false → 0 ≤ (T d).toInt → (T c).toInt ≤ (T d).toInt
def bN (s : Int64) (c : Nat) : Nat := if bitL s c = true then 1 else 0
theorem Dj_end {lord toll : Nat → Int32} {fr : Nat} {s : Int64} {T : Nat → Int32} (h : Dj lord toll fr s T) (hn : ∀ d, d < 48 → bitL s d = false → (T d).toInt < 0) : Cls lord toll fr T := by
  obtain ⟨h1, h2, _⟩ := h
  refine ⟨h1.1, fun c hc w hw => ?_⟩
  cases hb : bitL s c with
  | true => exact (h2 c hc hb).2 w hw
  | false => intro h0; have := hn c hc hb; omega
theorem Dj_step {lord toll : Nat → Int32} {fr : Nat} {s : Int64} {T : Nat → Int32} {c : Nat} (hl : ∀ t, t < 48 → ∃ k, k < 6 ∧ lord t = nI k) (ht : ∀ k, k < 6 → toll k = -1 ∨ ∃ p, p < 1000 ∧ toll k = nI p) (hfr : fr < 48) (h : Dj lord toll fr s T) (hc : chB s T 48 = some c) : Dj lord toll fr (s ||| 1 <<< ((nI c).toInt64 &&& 63)) (lvw lord toll T c 4) ∧ smN (bN (s ||| 1 <<< ((nI c).toInt64 &&& 63))) 48 = smN (bN s) 48 + 1 := by
  have h48 := chB_lt _ _ _ c hc
  obtain ⟨b1, b2, b3⟩ := (chB_is s T 48).2 c hc
  obtain ⟨h1, h2, h3⟩ := h
  have hbit : ∀ i, bitL (s ||| 1 <<< ((nI c).toInt64 &&& 63)) i = (bitL s i || decide (i = c)) := fun i => by rw [bit_or, bit_one (by omega)]
  obtain ⟨l1, l2, l3, l4⟩ := lvw_is hl ht h1 hfr h48 b2 4 (Nat.le_refl _)
  generalize lvw lord toll T c 4 = D at l1 l2 l3 l4 ⊢
  -- what is settled doesn't change
  have keep : ∀ d, d < 48 → bitL s d = true → D d = T d := fun d hd hb => by
    have g := h3 d c hd h48 hb b1 b2
    have g2 := (h2 d hd hb).1
    rcases l3 d hd with q | ⟨q1, q2⟩
    · exact q
    · omega
  refine ⟨⟨l1, fun d hd hb => ?_, fun d e hd he hb hb2 hn => ?_⟩, ?_⟩
  · rw [hbit] at hb
    by_cases e : d = c
    · subst e; exact ⟨by rw [l2]; exact b2, fun w hw => l4 w hw⟩
    · rw [decide_eq_false e, Bool.or_false] at hb
      have g := h2 d hd hb
      refine ⟨by rw [keep d hd hb]; exact g.1, fun w hw h0 t u h48' he => ?_⟩
      rw [keep d hd hb] at h0 ⊢
      have := g.2 w hw h0 t u h48' he
      rcases l3 t h48' with q | ⟨q1, q2⟩
      · rw [q]; exact this
      · omega
  · rw [hbit] at hb hb2
    have hb2' : bitL s e = false := by
      cases q : bitL s e with
      | false => rfl
      | true => rw [q] at hb2; simp at hb2
    have ec : e ≠ c := fun q => by rw [decide_eq_true q, Bool.or_true] at hb2; exact absurd hb2 (by decide)
    have key : (T c).toInt ≤ (D e).toInt := by
      rcases l3 e he with q | ⟨q1, q2⟩
      · rw [q] at hn ⊢; exact b3 e he hb2' hn
      · exact q1
    by_cases e2 : d = c
    · subst e2; rw [l2]; exact key
    · rw [decide_eq_false e2, Bool.or_false] at hb
      rw [keep d hd hb]
      have := h3 d c hd h48 hb b1 b2
      omega
  · have k := smN_upd (f := bN s) (g := bN (s ||| 1 <<< ((nI c).toInt64 &&& 63))) (t := c) (fun d hd => by unfold bN; rw [hbit, decide_eq_false hd, Bool.or_false]) 48 h48
    have k1 : bN s c = 0 := by unfold bN; rw [b1]; rfl
    have k2 : bN (s ||| 1 <<< ((nI c).toInt64 &&& 63)) c = 1 := by unfold bN; rw [hbit, decide_eq_true rfl, Bool.or_true]; rfl
    omega
theorem bN_full {s : Int64} (h : smN (bN s) 48 = 48) : ∀ d, d < 48 → bitL s d = true := by
  intro d hd
  have := smN_full 48 (fun c _ => by unfold bN; split <;> omega) h d hd
  unfold bN at this
  cases q : bitL s d with
  | true => rfl
  | false => rw [q] at this; exact absurd this (by decide)
