theorem cntN_add (p : Nat → Bool) (m n : Nat) : cntN p (m + n) = cntN p m + cntN (fun i => p (m + i)) n := by
  induction n with
  | zero => rfl
  | succ n ih => rw [← Nat.add_assoc]; simp only [cntN, ih]; omega
def mk8 (c : Nat) : Nat → Nat
  | 0 => 0
  | n + 1 => c + 256 * mk8 c n
theorem tB_at {a p : Nat} (ha : a < 256) (i : Nat) : (a + 256 * p).testBit i = if i < 8 then a.testBit i else p.testBit (i - 8) := by
  rw [show a + 256 * p = 2 ^ 8 * p + a by omega]; exact Nat.testBit_two_pow_mul_add p (by omega) i
theorem and_by {a c p q : Nat} (ha : a < 256) (hc : c < 256) : (a + 256 * p) &&& (c + 256 * q) = (a &&& c) + 256 * (p &&& q) := by
  apply Nat.eq_of_testBit_eq
  intro i
  have h1 : a &&& c < 256 := Nat.lt_of_le_of_lt Nat.and_le_left ha
  rw [Nat.testBit_and, tB_at ha, tB_at hc, tB_at h1, Nat.testBit_and, Nat.testBit_and]
  split <;> rfl
theorem g1_ : ∀ b : Fin 256, ∀ t : Fin 2, ((b.val / 2 + 128 * t.val) &&& 0x55) = (b.val / 2 &&& 0x55) := by decide +kernel
theorem g2_ : ∀ b : Fin 256, ∀ t : Fin 4, ((b.val / 4 + 64 * t.val) &&& 0x33) = (b.val / 4 &&& 0x33) := by decide +kernel
def sw1 (n x : Nat) : Nat := x - ((x / 2) &&& mk8 0x55 n)
def sw2 (n x : Nat) : Nat := (x &&& mk8 0x33 n) + ((x / 4) &&& mk8 0x33 n)
def sw3 (n x : Nat) : Nat := (x + x / 16) &&& mk8 0x0f n
theorem sw1_st (n b r : Nat) (hb : b < 256) : sw1 (n + 1) (b + 256 * r) = sw1 1 b + 256 * sw1 n r := by
  have e1 : (b + 256 * r) / 2 = (b / 2 + 128 * (r % 2)) + 256 * (r / 2) := by omega
  have e2 := g1_ ⟨b, hb⟩ ⟨r % 2, by omega⟩
  simp only at e2
  have e3 : b / 2 &&& 85 ≤ b / 2 := Nat.and_le_left
  have e4 : r / 2 &&& mk8 0x55 n ≤ r / 2 := Nat.and_le_left
  simp only [sw1, mk8, e1]
  rw [and_by (by omega) (by omega), e2]
  simp only [Nat.mul_zero, Nat.add_zero]
  omega
theorem sw2_st (n b r : Nat) (hb : b < 256) : sw2 (n + 1) (b + 256 * r) = sw2 1 b + 256 * sw2 n r := by
  have e1 : (b + 256 * r) / 4 = (b / 4 + 64 * (r % 4)) + 256 * (r / 4) := by omega
  have e2 := g2_ ⟨b, hb⟩ ⟨r % 4, by omega⟩
  simp only at e2
  simp only [sw2, mk8, e1]
  rw [and_by (by omega) (by omega), and_by (by omega) (by omega), e2]
  simp only [Nat.mul_zero, Nat.add_zero]
  omega
def pcB (b : Nat) : Nat := cntN b.testBit 8
theorem g3_ : ∀ b : Fin 256, sw1 1 b < 256 ∧ sw2 1 (sw1 1 b) % 16 ≤ 4 ∧ sw2 1 (sw1 1 b) ≤ 68 ∧ pcB b ≤ 8 := by decide +kernel
theorem g4_ : ∀ b : Fin 256, ∀ t : Fin 5, ((sw2 1 (sw1 1 b) + sw2 1 (sw1 1 b) / 16 + 16 * t.val) &&& 0x0f) = pcB b := by decide +kernel
theorem low4 (n x : Nat) (h : x < 256 ^ n) : sw2 n (sw1 n x) % 16 ≤ 4 := by
  cases n with
  | zero => simp [sw2, mk8]
  | succ n =>
    rw [show x = x % 256 + 256 * (x / 256) by omega]
    have g := g3_ ⟨x % 256, by omega⟩
    simp only at g
    rw [sw1_st _ _ _ (by omega), sw2_st _ _ _ (by omega)]
    omega
theorem sw3_st (n b r : Nat) (hb : b < 256) (hr : r < 256 ^ n) : sw3 (n + 1) (sw2 (n + 1) (sw1 (n + 1) (b + 256 * r))) = pcB b + 256 * sw3 n (sw2 n (sw1 n r)) := by
  have g := g3_ ⟨b, hb⟩
  have l := low4 n r hr
  have e2 := g4_ ⟨b, hb⟩ ⟨sw2 n (sw1 n r) % 16, by omega⟩
  simp only at g e2
  rw [sw1_st _ _ _ hb, sw2_st _ _ _ g.1]
  revert l e2
  generalize sw2 n (sw1 n r) = y
  have : sw2 1 (sw1 1 b) ≤ 68 := g.2.2.1
  generalize sw2 1 (sw1 1 b) = x at this ⊢
  intro l e2
  have e1 : x + 256 * y + (x + 256 * y) / 16 = (x + x / 16 + 16 * (y % 16)) + 256 * (y + y / 16) := by omega
  simp only [sw3, mk8, e1]
  rw [and_by (by omega) (by omega), e2]
theorem pc_st (n b r : Nat) (hb : b < 256) : cntN (b + 256 * r).testBit (8 + n) = pcB b + cntN r.testBit n := by
  rw [cntN_add]
  congr 1
  · exact cntN_cg 8 (fun i hi => by rw [tB_at hb, if_pos hi])
  · exact cntN_cg n (fun i hi => by rw [tB_at hb, if_neg (by omega)]; congr 1; omega)
theorem sw_b (n x : Nat) (h : x < 256 ^ (n + 1)) : sw3 (n + 1) (sw2 (n + 1) (sw1 (n + 1) x)) = pcB (x % 256) + 256 * sw3 n (sw2 n (sw1 n (x / 256))) := by
  have e : x / 256 < 256 ^ n := by rw [Nat.pow_succ] at h; omega
  have := sw3_st n (x % 256) (x / 256) (by omega) e
  rwa [show x % 256 + 256 * (x / 256) = x by omega] at this
theorem pc_b (n x : Nat) : cntN x.testBit (8 + n) = pcB (x % 256) + cntN (x / 256).testBit n := by
  have := pc_st n (x % 256) (x / 256) (by omega)
  rwa [show x % 256 + 256 * (x / 256) = x by omega] at this
theorem pc_le (b : Nat) : pcB (b % 256) ≤ 8 := (g3_ ⟨b % 256, by omega⟩).2.2.2
theorem sw_fin {p0 p1 p2 p3 p4 p5 p6 p7 t0 t1 t2 t3 t4 t5 t6 : Nat} (h0 : p0 ≤ 8) (h1 : p1 ≤ 8) (h2 : p2 ≤ 8) (h3 : p3 ≤ 8) (h4 : p4 ≤ 8) (h5 : p5 ≤ 8) (h6 : p6 ≤ 8) (h7 : p7 ≤ 8) (e0 : t0 = p0 + 256 * t1) (e1 : t1 = p1 + 256 * t2) (e2 : t2 = p2 + 256 * t3) (e3 : t3 = p3 + 256 * t4) (e4 : t4 = p4 + 256 * t5) (e5 : t5 = p5 + 256 * t6) (e6 : t6 = p6 + 256 * p7) :
    t0 < 2 ^ 60 ∧ ((t0 + t0 / 256 + (t0 + t0 / 256) / 65536) + (t0 + t0 / 256 + (t0 + t0 / 256) / 65536) / 4294967296) % 128 = p0 + p1 + p2 + p3 + p4 + p5 + p6 + p7 := by
  have l6 : t6 ≤ 2056 := by omega
  have l5 : t5 ≤ 526344 := by omega
  have l4 : t4 ≤ 134744072 := by omega
  have l3 : t3 ≤ 34494482440 := by omega
  have l2 : t2 ≤ 8830587504648 := by omega
  have l1 : t1 ≤ 2260630401189896 := by omega
  have a1 : t0 / 256 = t1 := by omega
  refine ⟨by omega, ?_⟩
  rw [a1]
  have a2 : (t0 + t1) / 65536 = t2 + t3 := by
    clear e3 e4 e5 e6 l6 l5 l4 l3 l2 l1 a1
    omega
  rw [a2]
  have b0 : t0 = (p0 + 256 * p1 + 65536 * p2 + 16777216 * p3) + 4294967296 * t4 := by omega
  have b1 : t1 = (p1 + 256 * p2 + 65536 * p3 + 16777216 * p4) + 4294967296 * t5 := by omega
  have b2 : t2 = (p2 + 256 * p3 + 65536 * p4 + 16777216 * p5) + 4294967296 * t6 := by omega
  have b3 : t3 = (p3 + 256 * p4 + 65536 * p5 + 16777216 * p6) + 4294967296 * p7 := by omega
  have a3 : (t0 + t1 + (t2 + t3)) / 4294967296 = t4 + t5 + (t6 + p7) := by
    clear e0 e1 e2 e3 e4 e5 e6 a1 a2 l6 l5 l4 l3 l2 l1
    omega
  rw [a3]
  clear a3 a2 a1 b0 b1 b2 b3 l6 l5 l4 l3 l2 l1
  omega
theorem sw_all (x : Nat) (h : x < 2 ^ 64) : ∃ y, sw3 8 (sw2 8 (sw1 8 x)) = y ∧ y < 2 ^ 60 ∧ (y + y / 256 + (y + y / 256) / 65536 + (y + y / 256 + (y + y / 256) / 65536) / 4294967296) % 128 = cntN x.testBit 64 := by
  obtain ⟨x1, d1⟩ : ∃ x1, x1 = x / 256 := ⟨_, rfl⟩
  obtain ⟨x2, d2⟩ : ∃ x2, x2 = x1 / 256 := ⟨_, rfl⟩
  obtain ⟨x3, d3⟩ : ∃ x3, x3 = x2 / 256 := ⟨_, rfl⟩
  obtain ⟨x4, d4⟩ : ∃ x4, x4 = x3 / 256 := ⟨_, rfl⟩
  obtain ⟨x5, d5⟩ : ∃ x5, x5 = x4 / 256 := ⟨_, rfl⟩
  obtain ⟨x6, d6⟩ : ∃ x6, x6 = x5 / 256 := ⟨_, rfl⟩
  obtain ⟨x7, d7⟩ : ∃ x7, x7 = x6 / 256 := ⟨_, rfl⟩
  have f0 := sw_b 7 x (by omega)
  have f1 := sw_b 6 x1 (by omega)
  have f2 := sw_b 5 x2 (by omega)
  have f3 := sw_b 4 x3 (by omega)
  have f4 := sw_b 3 x4 (by omega)
  have f5 := sw_b 2 x5 (by omega)
  have f6 := sw_b 1 x6 (by omega)
  have f7 := sw_b 0 x7 (by omega)
  rw [show ∀ u, sw3 0 u = 0 from fun u => Nat.and_zero _] at f7
  have c0 := pc_b 56 x
  have c1 := pc_b 48 x1
  have c2 := pc_b 40 x2
  have c3 := pc_b 32 x3
  have c4 := pc_b 24 x4
  have c5 := pc_b 16 x5
  have c6 := pc_b 8 x6
  have c7 := pc_b 0 x7
  rw [show cntN (x7 / 256).testBit 0 = 0 from rfl] at c7
  simp only [Nat.reduceAdd, ← d1, ← d2, ← d3, ← d4, ← d5, ← d6, ← d7] at f0 f1 f2 f3 f4 f5 f6 f7 c0 c1 c2 c3 c4 c5 c6 c7
  simp only [Nat.mul_zero, Nat.add_zero] at f7
  rw [f7] at f6
  have f := sw_fin (pc_le x) (pc_le x1) (pc_le x2) (pc_le x3) (pc_le x4) (pc_le x5) (pc_le x6) (pc_le x7) f0 f1 f2 f3 f4 f5 f6
  refine ⟨_, rfl, f.1, f.2.trans ?_⟩
  omega
theorem sw1_le (n x : Nat) : sw1 n x ≤ x := Nat.sub_le _ _
theorem sw2_lt (x : Nat) : sw2 8 x < 2 ^ 63 := by
  have h1 : x &&& mk8 0x33 8 ≤ mk8 0x33 8 := Nat.and_le_right
  have h2 : x / 4 &&& mk8 0x33 8 ≤ mk8 0x33 8 := Nat.and_le_right
  have h3 : mk8 0x33 8 = 0x3333333333333333 := rfl
  unfold sw2; omega
