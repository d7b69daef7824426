-- tables of least costs: a closed table below which none lies is the only one
def smN (f : Nat → Nat) : Nat → Nat
  | 0 => 0
  | n + 1 => smN f n + f n
theorem smN_cg {f g : Nat → Nat} {n : Nat} (h : ∀ c, c < n → g c = f c) : smN g n = smN f n := by
  induction n with
  | zero => rfl
  | succ n ih => simp only [smN]; rw [ih (fun c hc => h c (by omega)), h n (by omega)]
theorem smN_upd {f g : Nat → Nat} {t : Nat} (h : ∀ c, c ≠ t → g c = f c) : ∀ n, t < n → smN g n + f t = smN f n + g t := by
  intro n
  induction n with
  | zero => intro ht; omega
  | succ n ih =>
    intro ht
    simp only [smN]
    by_cases e : t = n
    · subst e
      rw [smN_cg (fun c hc => h c (by omega))]
      omega
    · have := ih (by omega)
      rw [h n (by omega)]
      omega
theorem smN_le {f : Nat → Nat} : ∀ n, (∀ c, c < n → f c ≤ 1) → smN f n ≤ n := by
  intro n
  induction n with
  | zero => intro _; exact Nat.le_refl _
  | succ n ih =>
    intro h
    simp only [smN]
    have h1 := ih (fun c hc => h c (by omega))
    have h2 := h n (by omega)
    omega
theorem smN_full {f : Nat → Nat} : ∀ n, (∀ c, c < n → f c ≤ 1) → smN f n = n → ∀ c, c < n → f c = 1 := by
  intro n
  induction n with
  | zero => intro _ _ c hc; omega
  | succ n ih =>
    intro h e c hc
    simp only [smN] at e
    have h1 := smN_le n (fun c hc => h c (by omega))
    have h2 := h n (by omega)
    by_cases ec : c = n
    · subst ec; omega
    · exact ih (fun c hc => h c (by omega)) (by omega) c (by omega)
def has1 (T : Nat → Int32) (c : Nat) : Nat := if 0 ≤ (T c).toInt then 1 else 0
def wgt (T : Nat → Int32) (c : Nat) : Nat := if 0 ≤ (T c).toInt then (T c).toInt.toNat else 1000000
def cnt (T : Nat → Int32) : Nat := smN (has1 T) 48
def msr (T : Nat → Int32) : Nat := smN (wgt T) 48
theorem cnt_le (T : Nat → Int32) : cnt T ≤ 48 := smN_le 48 (fun c _ => by unfold has1; split <;> omega)
/-- a step by the way w from c to t costs u -/
def Edw (lord toll : Nat → Int32) (c w t u : Nat) : Prop := nxt (nI c) (nI w) = nI t ∧ ∃ p, p < 1000 ∧ toll (lord t).toNatClampNeg = nI p ∧ u = if lord t = lord c then 0 else p
def Cat_ (lord toll : Nat → Int32) (X : Nat → Int32) (c w : Nat) : Prop := 0 ≤ (X c).toInt → ∀ t u, t < 48 → Edw lord toll c w t u → 0 ≤ (X t).toInt ∧ (X t).toInt ≤ (X c).toInt + u
def Cls (lord toll : Nat → Int32) (fr : Nat) (X : Nat → Int32) : Prop := (X fr).toInt = 0 ∧ ∀ c, c < 48 → ∀ w, w < 4 → Cat_ lord toll X c w
def Gd (lord toll : Nat → Int32) (fr : Nat) (T : Nat → Int32) : Prop := (T fr).toInt = 0 ∧ (∀ c, c < 48 → (T c).toInt + 999 ≤ 999 * (cnt T : Int) ∧ -1 ≤ (T c).toInt) ∧ ∀ X, Cls lord toll fr X → ∀ c, c < 48 → 0 ≤ (T c).toInt → 0 ≤ (X c).toInt ∧ (X c).toInt ≤ (T c).toInt
theorem Edw_lt {lord toll : Nat → Int32} {c w t u : Nat} (h : Edw lord toll c w t u) : u < 1000 := by
  obtain ⟨_, p, hp, _, rfl⟩ := h
  split <;> omega
theorem cst_uq {lord toll : Nat → Int32} {fr : Nat} {T S : Nat → Int32} (h1 : Gd lord toll fr T) (h2 : Cls lord toll fr T) (h3 : Gd lord toll fr S) (h4 : Cls lord toll fr S) : ∀ c, c < 48 → T c = S c := by
  intro c hc
  have a1 := h1.2.2 S h4 c hc
  have a2 := h3.2.2 T h2 c hc
  have a3 := (h1.2.1 c hc).2
  have a4 := (h3.2.1 c hc).2
  apply Int32.toInt_inj.mp
  by_cases z1 : 0 ≤ (T c).toInt
  · have := a1 z1
    have := a2 this.1
    omega
  · by_cases z2 : 0 ≤ (S c).toInt
    · have := a2 z2
      omega
    · omega
/-- a better cost is written -/
theorem rel_Gd {lord toll : Nat → Int32} {fr : Nat} {T : Nat → Int32} {c w t u : Nat} {v : Int32} (h : Gd lord toll fr T) (hfr : fr < 48) (hc : c < 48) (hw : w < 4) (h0 : 0 ≤ (T c).toInt) (ht : t < 48) (he : Edw lord toll c w t u) (hv : v.toInt = (T c).toInt + u) (hl : (T t).toInt < 0 ∨ v.toInt < (T t).toInt) : Gd lord toll fr (upd T t v) ∧ msr (upd T t v) < msr T := by
  have hu := Edw_lt he
  obtain ⟨g1, g2, g3⟩ := h
  have gc := g2 c hc
  have gt := g2 t ht
  have nt : fr ≠ t := fun e => by subst e; omega
  have k1 := smN_upd (f := has1 T) (g := has1 (upd T t v)) (t := t) (fun c hc => by unfold has1; rw [upd_ne hc]) 48 ht
  have k2 := smN_upd (f := wgt T) (g := wgt (upd T t v)) (t := t) (fun c hc => by unfold wgt; rw [upd_ne hc]) 48 ht
  have k3 : has1 (upd T t v) t = 1 := by unfold has1; rw [upd_at, if_pos (by omega)]
  have k4 : wgt (upd T t v) t = v.toInt.toNat := by unfold wgt; rw [upd_at, if_pos (by omega)]
  have e1 : smN (has1 T) 48 = cnt T := rfl
  have e2 : smN (has1 (upd T t v)) 48 = cnt (upd T t v) := rfl
  have e3 : smN (wgt T) 48 = msr T := rfl
  have e4 : smN (wgt (upd T t v)) 48 = msr (upd T t v) := rfl
  have c1 := cnt_le T
  rw [e1, e2, k3] at k1
  rw [e3, e4, k4] at k2
  refine ⟨⟨by rw [upd_ne nt]; exact g1, fun d hd => ?_, fun X hX d hd hn => ?_⟩, ?_⟩
  · by_cases e : d = t
    · subst e
      rw [upd_at]
      refine ⟨?_, by omega⟩
      rcases hl with hl | hl
      · have : has1 T d = 0 := by unfold has1; rw [if_neg (by omega)]
        omega
      · have : has1 T d = 1 := by unfold has1; rw [if_pos (by omega)]
        omega
    · rw [upd_ne e]
      have gd := g2 d hd
      refine ⟨?_, gd.2⟩
      have : has1 T t ≤ 1 := by unfold has1; split <;> omega
      omega
  · by_cases e : d = t
    · subst e
      rw [upd_at]
      have x1 := g3 X hX c hc h0
      have x2 := hX.2 c hc w hw x1.1 d u ht he
      omega
    · rw [upd_ne e] at hn ⊢
      exact g3 X hX d hd hn
  · rcases hl with hl | hl
    · have : wgt T t = 1000000 := by unfold wgt; rw [if_neg (by omega)]
      omega
    · have : wgt T t = (T t).toInt.toNat := by unfold wgt; rw [if_pos (by omega)]
      omega
theorem add_cost {lord toll : Nat → Int32} {fr : Nat} {T : Nat → Int32} {c u : Nat} (h : Gd lord toll fr T) (hc : c < 48) (h0 : 0 ≤ (T c).toInt) (hu : u < 1000) : (T c + nI u).toInt = (T c).toInt + u := by
  have gc := h.2.1 c hc
  have c1 := cnt_le T
  obtain ⟨j, hj, ej⟩ := nI_of (x := T c) (by rw [Int32.lt_iff_toInt_lt]; exact Int.not_lt.mpr h0)
  rw [ej] at gc ⊢
  rw [nI_toInt hj] at gc ⊢
  rw [nI_add, nI_toInt (by omega)]
  omega
/-- the first table: 0 at the start, no way elsewhere -/
def st0 (fr : Nat) : Nat → Int32 := fun c => if c = fr then 0 else -1
theorem st0_Gd (lord toll : Nat → Int32) {fr : Nat} (hfr : fr < 48) {T : Nat → Int32} (hT : ∀ c, c < 48 → T c = st0 fr c) : Gd lord toll fr T := by
  have k : smN (has1 (st0 fr)) 48 + 0 = smN (fun _ => 0) 48 + has1 (st0 fr) fr := smN_upd (f := fun _ => 0) (fun c hc => by unfold has1 st0; rw [if_neg hc]; rfl) 48 hfr
  have k0 : has1 (st0 fr) fr = 1 := by unfold has1 st0; rw [if_pos rfl]; rfl
  have k2 : cnt T = 1 := by
    have e : smN (fun _ => 0) 48 = 0 := by decide
    have e2 : cnt T = smN (has1 (st0 fr)) 48 := smN_cg (fun c hc => by unfold has1; rw [hT c hc])
    rw [k0, e] at k
    omega
  refine ⟨by rw [hT fr hfr]; unfold st0; rw [if_pos rfl]; rfl, fun c hc => ?_, fun X hX c hc hn => ?_⟩
  · rw [k2, hT c hc]
    unfold st0
    split <;> decide
  · rw [hT c hc] at hn ⊢
    unfold st0 at hn ⊢
    by_cases e : c = fr
    · subst e; rw [if_pos rfl]; have := hX.1; rw [this]; decide
    · rw [if_neg e] at hn; exact absurd hn (by decide)
-- one step of both programs
theorem toll_cases {lord toll : Nat → Int32} (hl : ∀ t, t < 48 → ∃ k, k < 6 ∧ lord t = nI k) (ht : ∀ k, k < 6 → toll k = -1 ∨ ∃ p, p < 1000 ∧ toll k = nI p) {t : Nat} (h : t < 48) : toll (lord t).toNatClampNeg = -1 ∨ ∃ p, p < 1000 ∧ toll (lord t).toNatClampNeg = nI p := by
  obtain ⟨k, hk, e⟩ := hl t h
  rw [e, nI_clamp (by omega)]
  exact ht k hk
theorem nI_nm1 {n : Nat} (h : n < 2 ^ 31) : ¬ nI n = (-1 : Int32) := fun q => by have := nI_neg n h; rw [q] at this; exact this (by decide)
/-- rlx: what a step by the way w out of c does -/
theorem rlx_is {lord toll : Nat → Int32} {fr : Nat} {T : Nat → Int32} {c w : Nat} (hl : ∀ t, t < 48 → ∃ k, k < 6 ∧ lord t = nI k) (ht : ∀ k, k < 6 → toll k = -1 ∨ ∃ p, p < 1000 ∧ toll k = nI p) (h : Gd lord toll fr T) (hfr : fr < 48) (hc : c < 48) (hw : w < 4) (h0 : 0 ≤ (T c).toInt) :
    (rlx lord toll T c w = T ∧ Cat_ lord toll T c w) ∨ ∃ t u v, t < 48 ∧ Edw lord toll c w t u ∧ v.toInt = (T c).toInt + (u : Nat) ∧ ((T t).toInt < 0 ∨ v.toInt < (T t).toInt) ∧ rlx lord toll T c w = upd T t v := by
  unfold rlx
  rcases nxt_is w hw c hc with e | ⟨t, h48, e⟩
  · left
    rw [if_pos (Or.inl e)]
    refine ⟨rfl, fun _ t u h48 he => ?_⟩
    have he1 := he.1
    rw [e] at he1
    exact absurd he1.symm (nI_nm1 (by omega))
  · have nt : ¬ nI t = (-1 : Int32) := nI_nm1 (by omega)
    rw [e, nI_clamp (by omega)]
    rcases toll_cases hl ht h48 with q | ⟨p, hp, q⟩
    · left
      rw [if_pos (Or.inr q)]
      refine ⟨rfl, fun _ t' u h48' he => ?_⟩
      obtain ⟨e1, p, hp, e2, _⟩ := he
      rw [e] at e1
      have := nI_inj (by omega) (by omega) e1
      subst this
      rw [q] at e2
      exact absurd e2.symm (nI_nm1 (by omega))
    · have ed : Edw lord toll c w t (if lord t = lord c then 0 else p) := ⟨e, p, hp, q, rfl⟩
      have hu := Edw_lt ed
      rw [if_neg (by rintro (w1 | w1); exact nt w1; rw [q] at w1; exact nI_nm1 (by omega) w1)]
      have ev : (if lord t = lord c then (0 : Int32) else toll (lord t).toNatClampNeg) = nI (if lord t = lord c then 0 else p) := by
        split
        · rfl
        · exact q
      rw [ev]
      have hv := add_cost h hc h0 hu
      by_cases b : T t < 0 ∨ T c + nI (if lord t = lord c then 0 else p) < T t
      · right
        rw [if_pos b]
        refine ⟨t, _, _, h48, ed, hv, ?_, rfl⟩
        rw [Int32.lt_iff_toInt_lt, Int32.lt_iff_toInt_lt] at b
        exact b
      · left
        rw [if_neg b]
        refine ⟨rfl, fun _ t' u h48' he => ?_⟩
        obtain ⟨e1, p', hp', e2, e3⟩ := he
        rw [e] at e1
        have := nI_inj (by omega) (by omega) e1
        subst this
        rw [q] at e2
        have := nI_inj (by omega) (by omega) e2
        subst this
        rw [Int32.lt_iff_toInt_lt, Int32.lt_iff_toInt_lt, hv, ← e3] at b
        have z : (0 : Int32).toInt = 0 := rfl
        rw [z] at b
        omega
