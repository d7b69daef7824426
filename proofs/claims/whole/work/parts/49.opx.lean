theorem cpL_ne {f : Nat → Nat → Int64} {a b sp dp n x : Nat} (h : x ≠ b) : cpL f a b sp dp n x = f x := by funext y; simp [cpL, h]
theorem cpL_at {f : Nat → Nat → Int64} {a b sp dp n : Nat} : cpL f a b sp dp n b = va_cpy (f a) (f b) sp dp n := by funext y; simp [cpL]
theorem op_copy (c f v o n : Int32) : OpOK m_Rh_copy m_Mo_copy [.int c, .int f, .int v, .int o, .int n] := by
  intro I L z hI
  have hI2 := hI
  obtain ⟨⟨a1, a2, a3, a4, a5, a6, a7, a8, a9⟩, b2, b3, b4, b5, b6⟩ := hI
  have ho : cpF c f v o n (fun s => I (49 + 2 * s) 1) (fun s => I (49 + 2 * s) 2) = cpF c f v o n (I 61) (I 62) := cpF_cg (fun s hs => (b4 s hs).1) (fun s hs => (b4 s hs).2.1)
  have hZ2 : ∀ s, s < 4 → ∃ n, n ≤ 40 ∧ I 62 s = nI n := fun s hs => (b4 s hs).2.2.2.1
  refine k_Rh_copy c f v o n (fun s hs => by rw [(b4 s hs).2.1]; exact hZ2 s hs) ?_
  cases hf : cpF c f v o n (fun s => I (49 + 2 * s) 1) (fun s => I (49 + 2 * s) 2) with
  | some k =>
    refine k_Mo_copy c f v o n (by simpa (disch := decide) only [upI_ne] using hZ2) ?_
    rw [upI_ne (show 61 ≠ 48 by decide), upI_ne (show 62 ≠ 48 by decide), ← ho, hf]
    exact ⟨rfl, _, _, _, rfl, inv_find hI2 k.isLt⟩
  | none =>
    intro s t a b m hs es ht et ea eb em ham hbm
    refine k_Mo_copy c f v o n hZ2 ?_
    rw [← ho, hf]
    intro s' t' a' b' m' M hs' es' ht' et' ea' eb' em' ham' hbm' m1 m2 m3
    obtain rfl : s = s' := nI_inj (by omega) (by omega) (es.symm.trans es')
    obtain rfl : t = t' := nI_inj (by omega) (by omega) (et.symm.trans et')
    obtain rfl : a = a' := nI_inj (by omega) (by omega) (ea.symm.trans ea')
    obtain rfl : b = b' := nI_inj (by omega) (by omega) (eb.symm.trans eb')
    obtain rfl : m = m' := nI_inj (by omega) (by omega) (em.symm.trans em')
    rw [cpL_ne (show 63 ≠ 50 + 2 * t by omega)] at m2 m3
    refine ⟨?ans, _, _, _, rfl, ⟨?p1, ?p2, ?p3, ?p4, ?p5, ?p6, ?p7, ?p8, ?p9⟩, ?q2, ?q3, ?q4, ?q5, ?q6⟩
    case ans => rfl
    case q4 =>
      intro u hu
      have hq := b4 u hu
      refine ⟨hq.1, hq.2.1, hq.2.2.1, hq.2.2.2.1, fun i hi => ?_⟩
      rw [m1 (50 + 2 * u) (by omega) (by omega)]
      by_cases h9 : u = t
      · subst h9
        rw [cpL_at]
        by_cases h8 : b ≤ i ∧ i < b + m
        · rw [pk_cpy_in h8.1 h8.2]
          have := m3 (i - b) (by omega)
          rw [show 40 * u + b + (i - b) = 40 * u + i by omega] at this
          rw [this, (b4 s hs).2.2.2.2 _ (by omega), Nat.add_assoc]
        · rw [pk_cpy_out (by omega), m2 _ (by omega)]
          exact hq.2.2.2.2 i hi
      · rw [cpL_ne (by omega), m2 _ (by omega)]
        exact hq.2.2.2.2 i hi
    case p1 => (try simp (disch := omega) only [upI_ne, upI_eq, upL_ne, m1, cpL_ne]); first | exact a1 | exact cLand_m a1 (fun j h => by simp (disch := omega) only [upd_ne])
    case p2 => (try simp (disch := omega) only [upI_ne, upI_eq, upL_ne, m1, cpL_ne]); first | exact a2 | exact cLink_m a2 (fun j h => by simp (disch := omega) only [upd_ne])
    case p3 => (try simp (disch := omega) only [upI_ne, upI_eq, upL_ne, m1, cpL_ne]); first | exact a3 | exact cCamp_m a3 (fun j h => by simp (disch := omega) only [upd_ne])
    case p4 => (try simp (disch := omega) only [upI_ne, upI_eq, upL_ne, m1, cpL_ne]); first | exact a4 | exact cRow_m a4 (fun j h => by simp (disch := omega) only [upd_ne])
    case p5 => (try simp (disch := omega) only [upI_ne, upI_eq, upL_ne, m1, cpL_ne]); first | exact a5 | exact cMean_m a5 (fun j h => by simp (disch := omega) only [upd_ne])
    case p6 => (try simp (disch := omega) only [upI_ne, upI_eq, upL_ne, m1, cpL_ne]); first | exact a6 | exact cTxt_m a6 (fun j h => by simp (disch := omega) only [upd_ne])
    case p7 => (try simp (disch := omega) only [upI_ne, upI_eq, upL_ne, m1, cpL_ne]); first | exact a7 | exact cClm_m a7 (fun j h => by simp (disch := omega) only [upd_ne])
    case p8 => (try simp (disch := omega) only [upI_ne, upI_eq, upL_ne, m1, cpL_ne]); first | exact a8 | exact cBk_m a8 (fun j h => by simp (disch := omega) only [upd_ne])
    case p9 => (try simp (disch := omega) only [upI_ne, upI_eq, upL_ne, m1, cpL_ne]); first | exact a9 | exact cDay_m a9 (by simp (disch := omega) only [upd_ne])
    case q2 => simpa (disch := omega) only [cKeep, CW, upI_ne, upI_eq, upL_ne, m1, cpL_ne] using b2
    case q3 => simpa (disch := omega) only [cTape, upI_ne, upI_eq, upL_ne, m1, cpL_ne] using b3
    case q5 => simpa (disch := omega) only [cTal, upI_ne, upI_eq, upL_ne, m1, cpL_ne] using b5
    case q6 => simpa (disch := omega) only [cScr, upI_ne, upI_eq, upL_ne, m1, cpL_ne] using b6
