theorem beh_none {m : Nat → Int32} {fit : Nat → Int64} {ct : Nat → Bool} {p : Int32} (d : Nat) : ∀ j, (∀ k, j ≤ k → k < j + d → ¬ m (289 + 7 * k) = p) → beh m fit ct p j d = ALLc := by
  induction d with
  | zero => intro j _; rfl
  | succ d ih =>
    intro j h
    simp only [beh]
    rw [if_neg (h j (by omega) (by omega))]
    exact ih (j + 1) (fun k h1 h2 => h k (by omega) (by omega))
theorem ahd_none {m : Nat → Int32} {fit : Nat → Int64} {ct : Nat → Bool} {p : Int32} (j d : Nat) (h : ∀ k, j ≤ k → k < j + d → ¬ m (289 + 7 * k) = p) : ahd m fit ct p (j + d) = ahd m fit ct p j := by
  induction d with
  | zero => rfl
  | succ d ih =>
    rw [← Nat.add_assoc, ahd, if_neg (h (j + d) (by omega) (by omega))]
    exact ih (fun k h1 h2 => h k h1 (by omega))
theorem wh_last {m : Nat → Int32} {fit : Nat → Int64} {ct : Nat → Bool} {n last : Nat} {p : Int32} (hf : ∀ k, sub48 (fit k)) (h1 : last < n) (h2 : m (289 + 7 * last) = p) (h3 : ∀ k, last < k → k < n → ¬ m (289 + 7 * k) = p) : whP m fit ct n last = ahd m fit ct p n := by
  unfold whP
  rw [h2, beh_none _ _ (fun k hk1 hk2 => h3 k (by omega) (by omega)), sub48_and (sub48_ahd hf _)]
  have := ahd_none (m := m) (fit := fit) (ct := ct) (p := p) (last + 1) (n - (last + 1)) (fun k hk1 hk2 => h3 k (by omega) (by omega))
  rw [show last + 1 + (n - (last + 1)) = n by omega] at this
  exact this.symm
theorem op_plan (rows : Int64) : OpOK m_Rh_plan m_Mo_plan [.long rows] := by
  intro I L z hI
  obtain ⟨kl, hk, l1, l2, _⟩ := inv_link hI
  obtain ⟨n, hn, s1, s2, he, _⟩ := inv_row hI
  have hF := CF_of hI
  have hR := CF_rowP hF hn s2
  have h11 : I 57 11 = 0 := hI.2.2.2.2.2.2.2
  have h9 : I 57 9 = -1 := hI.2.2.2.2.2.1
  have h10 : L 57 10 = 0 := hI.2.2.2.2.2.2.1
  have hd : I 1 6 = I 58 1593 := hI.1.2.2.2.2.2.2.2.2.1
  refine k_Rh_plan rows hF n kl hn s1 s2 hk l1 (fun J N j1 n1 => ?_)
  have e58 := tr58 j1
  have e57 : J 57 = I 57 := j1 57 (by decide) (by decide) (by decide) (by decide)
  have n57 : N 57 = L 57 := n1 57 (by decide) (by decide)
  have hIJ := inv_tr hI j1 n1
  have iv69 : ∀ (G G' : Nat → Nat → Int32), (∀ a, a ≠ 69 → G' a = G a) → Inv G N z → Inv G' N z := fun G G' h hG => inv_cg hG (fun a _ _ _ _ _ _ _ _ _ _ _ _ h69 => h a h69) (by rw [h 36 (by decide)]) (fun j _ _ _ => by rw [h 57 (by decide)]) (fun _ _ _ _ _ _ _ => rfl) rfl
  have ff : ∀ (f : Fin 7) (G : Nat → Nat → Int32), (∀ a, a ≠ 69 → G a = upI J 48 f.val (J 48 f.val + 1) a) → Inv (upI G 64 f.val (G 64 f.val + 1)) N z := fun f G hG => by
    have := inv_find hIJ f.isLt
    refine iv69 _ _ (fun a ha => ?_) this
    by_cases e : a = 64
    · subst e; rw [upI_eq, upI_eq, hG 64 (by decide)]
    · rw [upI_ne e, upI_ne e, hG a ha]
  have okE : ∀ q last c, q < 5 → last < n → I 58 (289 + 7 * last) = nI q → (∀ k, last < k → k < n → ¬ I 58 (289 + 7 * k) = nI q) → ∀ (G : Nat → Nat → Int32), G 58 = I 58 → G 57 = I 57 → decide (¬ whP (G 58) (mFit (G 58) kl false) (mCt G (upL N 57 10 (chP rows c)) (G 58 1593)) n last = 0) = cOk I L kl n q rows c := fun q last c hq g1 g2 g3 G hG58 hG57 => by
    rw [hG58, mCt_cg (I := I) (L := upL L 57 10 (chP rows c)) hG58 (by rw [hG57]) (by rw [upL_eq, upL_eq]; simp [vp_updL])]
    rw [wh_last (fun k => sub48_set _) g1 g2 g3, decide_eq_decide]
    rw [ahd_cg (fit' := cFit (I 58) kl (I 15 q)) (ct' := fun k => cCt I L (I 1 6) k && !bitL (chP rows c) k) n (fun k hk2 ek => ⟨?_, fun _ => ?_⟩)]
    · show _ = (cCt I L (I 1 6) k && !bitL (chP rows c) k)
      rw [ct_eq hI s1 hn _ hk2, hd]
      unfold mCt
      rw [upL_eq, h10, bit_0]
      simp only [vp_updL, ↓reduceIte]
      cases (decide (I 58 (289 + 7 * k + 3) = 1) ^^ decide (nI k = I 57 9)) <;> cases bitL (chP rows c) k <;> simp
    · have h15 : I 15 q = I 58 (264 + 5 * q + 4) := (hI.1.2.2.1 q hq).2.2.2.2.1
      show setL (fW (I 58) kl k (wtP (I 58) false k)) 48 = setL (fW (I 58) kl k (I 15 q)) 48
      unfold wtP
      rw [if_neg (by decide), ek, nI_clamp (by omega), h15]
  cases hf : plF rows (I 58) n with
  | some f =>
    have e58' : (upI J 48 f.val (J 48 f.val + 1)) 58 = I 58 := by rw [upI_ne (by decide)]; exact e58
    have e57' : (upI J 48 f.val (J 48 f.val + 1)) 57 = I 57 := by rw [upI_ne (by decide)]; exact e57
    refine k_Mo_plan rows n kl hn (by rw [e58']; exact s2) hk (by rw [e58']; exact l2) (by rw [e57']; exact h11) (by rw [e57']; exact h9) (by rw [n57]; exact h10) (by rw [e58']; exact hR) (fun G g1 => ?_)
    rw [e58', hf]
    exact ⟨rfl, _, _, _, rfl, ff f G g1⟩
  | none =>
    intro q hq ho
    cases hf2 : (if plN (cOk I L kl n q rows) (2 ^ cntN (bitL rows) 64) = none then (some 3 : Option (Fin 7)) else none) with
    | some f =>
      have e58' : (upI J 48 f.val (J 48 f.val + 1)) 58 = I 58 := by rw [upI_ne (by decide)]; exact e58
      have e57' : (upI J 48 f.val (J 48 f.val + 1)) 57 = I 57 := by rw [upI_ne (by decide)]; exact e57
      refine k_Mo_plan rows n kl hn (by rw [e58']; exact s2) hk (by rw [e58']; exact l2) (by rw [e57']; exact h11) (by rw [e57']; exact h9) (by rw [n57]; exact h10) (by rw [e58']; exact hR) (fun G g1 => ?_)
      rw [e58', hf]
      intro q' last hq' ho' g2 g3 g4
      have hqq : q = q' := by
        have hv : ¬ rows = 0 := fun h => by unfold plF at hf; rw [if_pos (Or.inl h)] at hf; exact absurd hf (by decide)
        obtain ⟨r, hr, hb⟩ := has_bit hv
        have hrn : r < n := Classical.byContradiction (fun w => by
          have h2 : ¬ ((rows.toUInt64 >>> ((nI n).toInt64.toUInt64 &&& Int64.toUInt64 63)).toInt64 = 0) := by
            rw [ush_0 rows hn]; exact fun h => by rw [h r hr (by omega)] at hb; exact absurd hb (by decide)
          unfold plF at hf; rw [if_pos (Or.inr h2)] at hf; exact absurd hf (by decide))
        exact nI_inj (by omega) (by omega) ((ho r hrn hb).symm.trans (ho' r hrn hb))
      subst hqq
      have eN := plN_cg (2 ^ cntN (bitL rows) 64) (fun c _ => okE q last c hq g2 g3 g4 (upI J 48 f.val (J 48 f.val + 1)) e58' e57')
      rw [e58'] at eN
      rw [eN, hf2]
      exact ⟨rfl, _, _, _, rfl, ff f G g1⟩
    | none =>
      refine k_Mo_plan rows n kl hn (by rw [e58]; exact s2) hk (by rw [e58]; exact l2) (by rw [e57]; exact h11) (by rw [e57]; exact h9) (by rw [n57]; exact h10) (by rw [e58]; exact hR) (fun G g1 => ?_)
      rw [e58, hf]
      intro q' last hq' ho' g2 g3 g4
      have hqq : q = q' := by
        have hv : ¬ rows = 0 := fun h => by unfold plF at hf; rw [if_pos (Or.inl h)] at hf; exact absurd hf (by decide)
        obtain ⟨r, hr, hb⟩ := has_bit hv
        have hrn : r < n := Classical.byContradiction (fun w => by
          have h2 : ¬ ((rows.toUInt64 >>> ((nI n).toInt64.toUInt64 &&& Int64.toUInt64 63)).toInt64 = 0) := by
            rw [ush_0 rows hn]; exact fun h => by rw [h r hr (by omega)] at hb; exact absurd hb (by decide)
          unfold plF at hf; rw [if_pos (Or.inr h2)] at hf; exact absurd hf (by decide))
        exact nI_inj (by omega) (by omega) ((ho r hrn hb).symm.trans (ho' r hrn hb))
      subst hqq
      have eN := plN_cg (2 ^ cntN (bitL rows) 64) (fun c _ => okE q last c hq g2 g3 g4 J e58 e57)
      rw [e58] at eN
      rw [eN, hf2]
      exact ⟨rfl, _, _, _, rfl, iv69 _ _ g1 hIJ⟩
