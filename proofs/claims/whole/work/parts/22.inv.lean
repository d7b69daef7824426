-- WHAT TIES THE CLASS'S CELLS TO THE MODEL'S ARRAY
theorem upI_ne {I : Nat → Nat → Int32} {a b j : Nat} {v : Int32} (h : b ≠ a) : upI I a j v b = I b := by funext y; simp [upI, h]
theorem upI_eq {I : Nat → Nat → Int32} {a j : Nat} {v : Int32} : upI I a j v a = upd (I a) j v := by funext y; simp [upI, upd]
theorem upL_ne {I : Nat → Nat → Int64} {a b j : Nat} {v : Int64} (h : b ≠ a) : upL I a j v b = I b := by funext y; simp [upL, h]
theorem upL_eq {I : Nat → Nat → Int64} {a j : Nat} {v : Int64} : upL I a j v a = vp_updL (I a) j v := by funext y; simp [upL, vp_updL]
theorem upd_at {f : Nat → Int32} {k : Nat} {x : Int32} : upd f k x k = x := by simp [upd]
theorem upd_ne {f : Nat → Int32} {k j : Nat} {x : Int32} (h : j ≠ k) : upd f k x j = f j := by simp [upd, h]
def cLand (h w k m : Nat → Int32) : Prop := ∀ c, c < 48 → h c = m c ∧ w c = m (48 + c) ∧ k c = m (96 + c) ∧ 0 ≤ (m c).toInt ∧ (m c).toInt ≤ 4000 ∧ 0 ≤ (m (48 + c)).toInt ∧ (m (48 + c)).toInt ≤ 99 ∧ ∃ q, q < 6 ∧ m (96 + c) = nI q
def cLink (n : Int32) (s e t m : Nat → Int32) : Prop := ∃ k, k ≤ 40 ∧ n = nI k ∧ m 1594 = nI k ∧ ∀ l, l < k → s l = m (144 + 3 * l) ∧ e l = m (144 + 3 * l + 1) ∧ t l = m (144 + 3 * l + 2) ∧ ∃ a b q, a < 48 ∧ b < 48 ∧ q < 4096 ∧ m (144 + 3 * l) = nI a ∧ m (144 + 3 * l + 1) = nI b ∧ m (144 + 3 * l + 2) = nI q ∧ (m b).toInt < (m a).toInt
def cCamp (p s f g r m : Nat → Int32) : Prop := ∀ i, i < 5 → p i = m (264 + 5 * i) ∧ s i = m (264 + 5 * i + 1) ∧ f i = m (264 + 5 * i + 2) ∧ g i = m (264 + 5 * i + 3) ∧ r i = m (264 + 5 * i + 4) ∧ (∃ q, q < 48 ∧ m (264 + 5 * i) = nI q) ∧ (∃ q, q < 1000 ∧ m (264 + 5 * i + 1) = nI q) ∧ (∃ q, q < 20 ∧ m (264 + 5 * i + 2) = nI q) ∧ (m (264 + 5 * i + 3) = -1 ∨ ∃ q, q < 48 ∧ m (264 + 5 * i + 3) = nI q) ∧ -1 ≤ (m (264 + 5 * i + 4)).toInt ∧ (m (264 + 5 * i + 4)).toInt ≤ 3599
/-- the numbers a, b of a row of a kind -/
def okAB (k a b : Nat) : Prop := (k = 0 ∧ a < 100 ∧ b < 100) ∨ (k = 1 ∧ a < 5 ∧ b < 10) ∨ (k = 2 ∧ a < 100 ∧ b < 10) ∨ (k = 3 ∧ a < 6 ∧ b < 6) ∨ (k = 4 ∧ a < 10 ∧ b < 4) ∨ (k = 5 ∧ a < 48 ∧ b < 9) ∨ (k = 6 ∧ a < 48 ∧ 1 ≤ b ∧ b < 9)
def bitL (x : Int64) (i : Nat) : Bool := x.toBitVec.getLsbD i
def cRow (n : Int32) (S : Int64) (kd a b ow dy fr m : Nat → Int32) : Prop := ∃ k, k ≤ 40 ∧ n = nI k ∧ m 1595 = nI k ∧ (∀ i, k ≤ i → bitL S i = false) ∧ ∀ r, r < k → ow r = m (289 + 7 * r) ∧ dy r = m (289 + 7 * r + 1) ∧ fr r = m (289 + 7 * r + 2) ∧ m (289 + 7 * r + 3) = bI (bitL S r) ∧ kd r = m (289 + 7 * r + 4) ∧ a r = m (289 + 7 * r + 5) ∧ b r = m (289 + 7 * r + 6) ∧ (∃ q, q < 5 ∧ m (289 + 7 * r) = nI q) ∧ (∃ q, q < 3600 ∧ m (289 + 7 * r + 1) = nI q) ∧ (∃ q, q < 4320 ∧ m (289 + 7 * r + 2) = nI q) ∧ ∃ k1 a1 b1, m (289 + 7 * r + 4) = nI k1 ∧ m (289 + 7 * r + 5) = nI a1 ∧ m (289 + 7 * r + 6) = nI b1 ∧ okAB k1 a1 b1
def cMean (w m : Nat → Int32) : Prop := ∀ i, i < 40 → w i = m (569 + i) ∧ ∃ q, q < 4 ∧ m (569 + i) = nI q
def cTxt (n : Int32) (fy ly nc ab nu fm lm m : Nat → Int32) : Prop := ∃ k, k ≤ 8 ∧ n = nI k ∧ m 1596 = nI k ∧ ∀ t, t < k → fy t = m (609 + 28 * t) ∧ ly t = m (609 + 28 * t + 1) ∧ nc t = m (609 + 28 * t + 2) ∧ ∃ q, q ≤ 5 ∧ m (609 + 28 * t + 2) = nI q ∧ ∀ c, c < q → fm (5 * t + c) = m (609 + 28 * t + 3 + 5 * c + 3) ∧ lm (5 * t + c) = m (609 + 28 * t + 3 + 5 * c + 4) ∧
  ((m (609 + 28 * t + 3 + 5 * c) = 0 ∧ ab (5 * t + c) = -1 ∧ (∃ v, v < 3 ∧ m (609 + 28 * t + 3 + 5 * c + 1) = nI v) ∧ nu (5 * t + c) = m (609 + 28 * t + 3 + 5 * c + 1)) ∨ (m (609 + 28 * t + 3 + 5 * c) = 1 ∧ (∃ v, v < 6 ∧ m (609 + 28 * t + 3 + 5 * c + 1) = nI v) ∧ ab (5 * t + c) = m (609 + 28 * t + 3 + 5 * c + 1) ∧ (∃ v, v < 1000 ∧ m (609 + 28 * t + 3 + 5 * c + 2) = nI v) ∧ nu (5 * t + c) = m (609 + 28 * t + 3 + 5 * c + 2)) ∨ (m (609 + 28 * t + 3 + 5 * c) = 2 ∧ (∃ v, v < 6 ∧ m (609 + 28 * t + 3 + 5 * c + 1) = nI v) ∧ ab (5 * t + c) = m (609 + 28 * t + 3 + 5 * c + 1) ∧ nu (5 * t + c) = -1))
def cClm (n nr : Int32) (rw ce m : Nat → Int32) : Prop := ∃ k j, k ≤ 20 ∧ n = nI k ∧ m 1597 = nI k ∧ j ≤ 40 ∧ nr = nI j ∧ ∀ c, c < k → rw c = m (833 + 2 * c) ∧ ce c = m (833 + 2 * c + 1) ∧ (∃ q, q < j ∧ m (833 + 2 * c) = nI q) ∧ ∃ q, q < 48 ∧ m (833 + 2 * c + 1) = nI q
def cBk (bk m : Nat → Int32) : Prop := ∀ i, i < 720 → bk i = m (873 + i)
def cDay (d : Int32) (m : Nat → Int32) : Prop := d = m 1593 ∧ ∃ q, q < 3600 ∧ m 1593 = nI q
/-- a world of the class (its cells lie b behind those of the first) and an array of the model -/
def CW (b mm : Nat) (I : Nat → Nat → Int32) (L : Nat → Nat → Int64) : Prop :=
  cLand (I (3 + b)) (I (4 + b)) (I (5 + b)) (I mm) ∧ cLink (I (2 + b) 6) (I (6 + b)) (I (7 + b)) (I (8 + b)) (I mm) ∧ cCamp (I (11 + b)) (I (12 + b)) (I (13 + b)) (I (14 + b)) (I (15 + b)) (I mm) ∧
  cRow (I (16 + b) 7) (L (16 + b) 6) (I (17 + b)) (I (18 + b)) (I (19 + b)) (I (20 + b)) (I (21 + b)) (I (22 + b)) (I mm) ∧ cMean (I (23 + b)) (I mm) ∧ cTxt (I (24 + b) 7) (I (25 + b)) (I (26 + b)) (I (27 + b)) (I (28 + b)) (I (29 + b)) (I (30 + b)) (I (31 + b)) (I mm) ∧
  cClm (I (32 + b) 2) (I (16 + b) 7) (I (33 + b)) (I (34 + b)) (I mm) ∧ cBk (I (35 + b)) (I mm) ∧ cDay (I (1 + b) 6) (I mm)
def cKeep (I : Nat → Nat → Int32) (L : Nat → Nat → Int64) (z : Bool) : Prop := I 0 7 = I 57 2 ∧ (I 0 7 = 0 ∨ (I 0 7 = 1 ∧ z = true ∧ CW 70 59 I L))
def cTape (I : Nat → Nat → Int32) : Prop := ∃ n, n ≤ 100 ∧ I 36 1 = nI n ∧ I 57 4 = nI n ∧ ∀ i, i < n → I 37 i = I 60 i ∧ ∃ q, q < 256 ∧ I 60 i = nI q
def cSheet (I : Nat → Nat → Int32) (L : Nat → Nat → Int64) : Prop := ∀ s, s < 4 → I (49 + 2 * s) 1 = I 61 s ∧ I (49 + 2 * s) 2 = I 62 s ∧ (I 61 s = 0 ∨ I 61 s = 8 ∨ I 61 s = 16 ∨ I 61 s = 64) ∧ (∃ n, n ≤ 40 ∧ I 62 s = nI n) ∧ ∀ i, i < 40 → L (50 + 2 * s) i = L 63 (40 * s + i)
def cTal (I : Nat → Nat → Int32) : Prop := ∀ i, i < 7 → I 48 i = I 64 i
def cScr (I : Nat → Nat → Int32) (L : Nat → Nat → Int64) : Prop := I 57 9 = -1 ∧ L 57 10 = 0 ∧ I 57 11 = 0
/-- THE INVARIANT of the law's loop -/
def Inv (I : Nat → Nat → Int32) (L : Nat → Nat → Int64) (z : Bool) : Prop := CW 0 58 I L ∧ cKeep I L z ∧ cTape I ∧ cSheet I L ∧ cTal I ∧ cScr I L
/-- an act of both programs: they answer alike, and the invariant holds again -/
def OpOK (dc dm : MD) (as : List Value) : Prop := ∀ (I : Nat → Nat → Int32) (L : Nat → Nat → Int64) (z : Bool), Inv I L z → Ct dc (.ref 0 :: as) (hp I L z) (fun r h => Ct dm (.ref 57 :: as) h (fun r' h' => r' = r ∧ ∃ I' L' z', h' = hp I' L' z' ∧ Inv I' L' z'))
theorem cLand_m {h w k m m' : Nat → Int32} (H : cLand h w k m) (e : ∀ j, j < 144 → m' j = m j) : cLand h w k m' := by
  intro c hc
  rw [e c (by omega), e (48 + c) (by omega), e (96 + c) (by omega)]
  exact H c hc
theorem cLink_m {n : Int32} {s f t m m' : Nat → Int32} (H : cLink n s f t m) (e : ∀ j, j < 48 ∨ (144 ≤ j ∧ j < 264) ∨ j = 1594 → m' j = m j) : cLink n s f t m' := by
  obtain ⟨k, h1, h2, h3, h4⟩ := H
  refine ⟨k, h1, h2, by rw [e 1594 (by omega)]; exact h3, fun l hl => ?_⟩
  rw [e (144 + 3 * l) (by omega), e (144 + 3 * l + 1) (by omega), e (144 + 3 * l + 2) (by omega)]
  obtain ⟨g1, g2, g3, a, b, q, g4, g5, g6, g7, g8, g9, g10⟩ := h4 l hl
  exact ⟨g1, g2, g3, a, b, q, g4, g5, g6, g7, g8, g9, by rw [e a (by omega), e b (by omega)]; exact g10⟩
theorem cCamp_m {p s f g r m m' : Nat → Int32} (H : cCamp p s f g r m) (e : ∀ j, 264 ≤ j ∧ j < 289 → m' j = m j) : cCamp p s f g r m' := by
  intro i hi
  rw [e (264 + 5 * i) (by omega), e (264 + 5 * i + 1) (by omega), e (264 + 5 * i + 2) (by omega), e (264 + 5 * i + 3) (by omega), e (264 + 5 * i + 4) (by omega)]
  exact H i hi
theorem cRow_m {n : Int32} {S : Int64} {kd a b ow dy fr m m' : Nat → Int32} (H : cRow n S kd a b ow dy fr m) (e : ∀ j, (289 ≤ j ∧ j < 569) ∨ j = 1595 → m' j = m j) : cRow n S kd a b ow dy fr m' := by
  obtain ⟨k, h1, h2, h3, h5, h4⟩ := H
  refine ⟨k, h1, h2, by rw [e 1595 (by omega)]; exact h3, h5, fun r hr => ?_⟩
  rw [e (289 + 7 * r) (by omega), e (289 + 7 * r + 1) (by omega), e (289 + 7 * r + 2) (by omega), e (289 + 7 * r + 3) (by omega), e (289 + 7 * r + 4) (by omega), e (289 + 7 * r + 5) (by omega), e (289 + 7 * r + 6) (by omega)]
  exact h4 r hr
theorem cMean_m {w m m' : Nat → Int32} (H : cMean w m) (e : ∀ j, 569 ≤ j ∧ j < 609 → m' j = m j) : cMean w m' := by
  intro i hi
  rw [e (569 + i) (by omega)]
  exact H i hi
theorem cTxt_m {n : Int32} {fy ly nc ab nu fm lm m m' : Nat → Int32} (H : cTxt n fy ly nc ab nu fm lm m) (e : ∀ j, (609 ≤ j ∧ j < 833) ∨ j = 1596 → m' j = m j) : cTxt n fy ly nc ab nu fm lm m' := by
  obtain ⟨k, h1, h2, h3, h4⟩ := H
  refine ⟨k, h1, h2, by rw [e 1596 (by omega)]; exact h3, fun t ht => ?_⟩
  rw [e (609 + 28 * t) (by omega), e (609 + 28 * t + 1) (by omega), e (609 + 28 * t + 2) (by omega)]
  obtain ⟨g1, g2, g3, q, g4, g5, g6⟩ := h4 t ht
  refine ⟨g1, g2, g3, q, g4, g5, fun c hc => ?_⟩
  rw [e (609 + 28 * t + 3 + 5 * c) (by omega), e (609 + 28 * t + 3 + 5 * c + 1) (by omega), e (609 + 28 * t + 3 + 5 * c + 2) (by omega), e (609 + 28 * t + 3 + 5 * c + 3) (by omega), e (609 + 28 * t + 3 + 5 * c + 4) (by omega)]
  exact g6 c hc
theorem cClm_m {n nr : Int32} {rw_ ce m m' : Nat → Int32} (H : cClm n nr rw_ ce m) (e : ∀ j, (833 ≤ j ∧ j < 873) ∨ j = 1597 → m' j = m j) : cClm n nr rw_ ce m' := by
  obtain ⟨k, j, h1, h2, h3, h5, h6, h4⟩ := H
  refine ⟨k, j, h1, h2, by rw [e 1597 (by omega)]; exact h3, h5, h6, fun c hc => ?_⟩
  rw [e (833 + 2 * c) (by omega), e (833 + 2 * c + 1) (by omega)]
  exact h4 c hc
theorem cBk_m {bk m m' : Nat → Int32} (H : cBk bk m) (e : ∀ j, 873 ≤ j ∧ j < 1593 → m' j = m j) : cBk bk m' := by
  intro i hi
  rw [e (873 + i) (by omega)]
  exact H i hi
theorem cDay_m {d : Int32} {m m' : Nat → Int32} (H : cDay d m) (e : m' 1593 = m 1593) : cDay d m' := by
  unfold cDay
  rw [e]
  exact H
/-- a finding in both: only the tallies change -/
theorem inv_find {I : Nat → Nat → Int32} {L : Nat → Nat → Int64} {z : Bool} (h : Inv I L z) {n : Nat} (hn : n < 7) : Inv (upI (upI I 48 n (I 48 n + 1)) 64 n ((upI I 48 n (I 48 n + 1)) 64 n + 1)) L z := by
  obtain ⟨h1, h2, h3, h4, h5, h6⟩ := h
  refine ⟨?_, ?_, ?_, ?_, ?_, ?_⟩
  · simpa (disch := decide) only [CW, upI_ne] using h1
  · simpa (disch := decide) only [cKeep, CW, upI_ne] using h2
  · simpa (disch := decide) only [cTape, upI_ne] using h3
  · intro s hs
    have := h4 s hs
    rw [upI_ne (show 49 + 2 * s ≠ 64 by omega), upI_ne (show 49 + 2 * s ≠ 48 by omega)]
    simpa (disch := decide) only [upI_ne] using this
  · intro i hi
    have := h5 i hi
    simp (disch := decide) only [upI_ne, upI_eq]
    by_cases hin : i = n
    · subst hin; rw [upd_at, upd_at, this]
    · rw [upd_ne hin, upd_ne hin]; exact this
  · simpa (disch := decide) only [cScr, upI_ne] using h6
