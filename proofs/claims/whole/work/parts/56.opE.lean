/-- the texts: how many, and how many clauses each has -/
def TxP (I : Nat → Nat → Int32) (n : Nat) (nc : Nat → Nat) : Prop := n ≤ 8 ∧ I 24 7 = nI n ∧ I 58 1596 = nI n ∧ (∀ t, t < n → nc t ≤ 5 ∧ I 27 t = nI (nc t)) ∧ (∀ t, t < n → nc t ≤ 5 ∧ I 58 (609 + 28 * t + 2) = nI (nc t)) ∧ I 1 6 = I 58 1593 ∧ (∀ w mo, lstT (cG I w (I 1 6 / 360) mo nc) n = lstT (mG I w mo nc) n) ∧ ∀ t c, t < n → c < nc t → (I 58 (609 + 28 * t + 3 + 5 * c) = 0 ∧ I 28 (5 * t + c) = -1 ∧ (∃ v, v < 3 ∧ I 58 (609 + 28 * t + 3 + 5 * c + 1) = nI v) ∧ I 29 (5 * t + c) = I 58 (609 + 28 * t + 3 + 5 * c + 1)) ∨ (I 58 (609 + 28 * t + 3 + 5 * c) = 1 ∧ (∃ v, v < 1000 ∧ I 58 (609 + 28 * t + 3 + 5 * c + 2) = nI v) ∧ I 29 (5 * t + c) = I 58 (609 + 28 * t + 3 + 5 * c + 2) ∧ ∃ v, v < 6 ∧ I 28 (5 * t + c) = nI v) ∨ (I 58 (609 + 28 * t + 3 + 5 * c) = 2 ∧ I 29 (5 * t + c) = -1 ∧ ∃ v, v < 6 ∧ I 28 (5 * t + c) = nI v)
theorem inv_tx {I : Nat → Nat → Int32} {L : Nat → Nat → Int64} {z : Bool} (hI : Inv I L z) : ∃ n nc, TxP I n nc := by
  obtain ⟨⟨a1, a2, a3, a4, a5, a6, a7, a8, a9⟩, b2, b3, b4, b5, b6⟩ := hI
  obtain ⟨n, hn, s1, s2, s4⟩ := a6
  obtain ⟨d1, _⟩ := a9
  have d1 : I 1 6 = I 58 1593 := d1
  have hq : ∀ t, t < n → ∃ q, q ≤ 5 ∧ I 58 (609 + 28 * t + 2) = nI q ∧ (I 58 (609 + 28 * t + 2)).toNatClampNeg = q := fun t ht => by
    obtain ⟨_, _, _, q, hq, e, _⟩ := s4 t ht
    exact ⟨q, hq, e, by rw [e, nI_clamp (by omega)]⟩
  refine ⟨n, fun t => (I 58 (609 + 28 * t + 2)).toNatClampNeg, hn, s1, s2, fun t ht => ?_, fun t ht => ?_, d1, fun w mo => ?_, fun t c ht hcq => ?_⟩
  · obtain ⟨q, q1, q2, q3⟩ := hq t ht
    rw [show I 27 t = _ from (s4 t ht).2.2.1]
    simp only [q3]; exact ⟨q1, q2⟩
  · obtain ⟨q, q1, q2, q3⟩ := hq t ht
    simp only [q3]; exact ⟨q1, q2⟩
  · refine lstT_cg n (fun t ht => ?_)
    unfold cG mG
    have e1 : cInF I (I 1 6 / 360) t = mInF I t := by
      unfold cInF mInF
      rw [show I 25 t = _ from (s4 t ht).1, show I 26 t = _ from (s4 t ht).2.1, d1]
    rw [e1]
    congr 1
    obtain ⟨f1, f2, f3, q, hq, e, f4⟩ := s4 t ht
    simp only [e, nI_clamp (show q < 2 ^ 31 by omega)]
    refine fstN_cg _ 0 (fun c _ hcq => ?_)
    unfold cAb mAb
    obtain ⟨g1, g2, g3⟩ := f4 c (by omega)
    rw [show I 30 (5 * t + c) = _ from g1, show I 31 (5 * t + c) = _ from g2]
    rcases g3 with ⟨h1, h2, _⟩ | ⟨h1, _, h2, _⟩ | ⟨h1, _, h2, _⟩
    · rw [decide_eq_decide, show I 28 (5 * t + c) = _ from h2, h1, if_pos rfl]
      exact and_congr ⟨fun q => q.symm, fun q => q.symm⟩ Iff.rfl
    · rw [decide_eq_decide, show I 28 (5 * t + c) = _ from h2, h1, if_neg (by decide)]
    · rw [decide_eq_decide, show I 28 (5 * t + c) = _ from h2, h1, if_neg (by decide)]
  · obtain ⟨f1, f2, f3, q, hq, e, f4⟩ := s4 t ht
    simp only [e, nI_clamp (show q < 2 ^ 31 by omega)] at hcq
    obtain ⟨g1, g2, g3⟩ := f4 c hcq
    rcases g3 with ⟨h1, h2, h3, h4⟩ | ⟨h1, ⟨v, hv, ev⟩, e, h2, h3⟩ | ⟨h1, ⟨v, hv, ev⟩, e, h2⟩
    · exact Or.inl ⟨h1, h2, h3, h4⟩
    · exact Or.inr (Or.inl ⟨h1, h2, h3, v, hv, e.trans ev⟩)
    · exact Or.inr (Or.inr ⟨h1, h2, v, hv, e.trans ev⟩)
theorem div5 {t c : Nat} (ht : t < 8) (hc : c < 5) : nI (5 * t + c) / 5 * 10 + (nI (5 * t + c) - nI (5 * t + c) / 5 * 5) = nI (10 * t + c) := by
  have e1 : nI (5 * t + c) / 5 = nI ((5 * t + c) / 5) := pk_div (d := 5) (by omega) (by decide) (by decide)
  have e2 : nI (5 * t + c) - nI (5 * t + c) / 5 * 5 = nI ((5 * t + c) % 5) := pk_rem (d := 5) (by omega) (by decide) (by decide)
  rw [e2, e1, show (10 : Int32) = nI 10 from rfl, pk_mul, nI_add]
  congr 1
  omega
def whF (w : Int32) (o : Option (Nat × Nat)) : Option (Fin 7) := if ¬ (-1 ≤ w ∧ w ≤ 5) then some 0 else if o.isNone then some 3 else none
set_option maxRecDepth 100000 in
set_option maxHeartbeats 4000000 in
theorem k_Rh_why {I L z K} (w : Int32) (n : Nat) (nc : Nat → Nat) (hn : n ≤ 8) (h1 : I 24 7 = nI n) (h2 : ∀ t, t < n → nc t ≤ 5 ∧ I 27 t = nI (nc t)) (hK : ∀ o, o = lstT (cG I w (I 1 6 / 360) ((I 1 6 - I 1 6 / 360 * 360) / 30) nc) n → fO K 48 I L z (whF w o) (K (some (.int (encS 10 o))) (hp I L z))) : Ct m_Rh_why [.ref 0, .int w] (hp I L z) K := by
  have hK := hK _ rfl
  refine in_Rh_why 71 (nB_hp _ _ _) (Nat.le_of_ble_eq_true rfl) rfl (fun P step => ?_)
  refine step [20] 600 _ _ _ _ _ _ ?_
  simp only [wq_s, wp_s, mq_iconst, mq_bipush, mq_sipush, mq_ldc0, mq_ldc1, mq_ldc_w, mq_lconst, mq_ldc2_w, mq_iload, mq_iload_n, mq_lload, mq_lload_n, mq_aload, mq_aload_n, mq_istore, mq_istore_n, mq_lstore, mq_lstore_n, mq_astore, mq_astore_n, mq_iinc, mq_iadd, mq_isub, mq_imul, mq_iand, mq_ior, mq_ixor, mq_idiv, mq_irem, mq_ineg, mq_ishl, mq_ishr, mq_iushr, mq_ladd, mq_lsub, mq_land, mq_lor, mq_lxor, mq_lshl, mq_lshr, mq_lushr, mq_i2l, mq_l2i, mq_i2b, mq_i2s, mq_lcmp, mq_dupI, mq_dupR, mq_dup2, mq_ifCond, mq_if_icmp, mq_goto, mq_nnN, mq_nnR, mq_get1, mq_get2, mq_get0, mq_get3, mq_put1, mq_put2, mq_put3, mq_put0, mq_iaload, mq_laload, mq_aald, mq_iastore, mq_lastore, mq_aastore, mq_arraylength, mq_newarray, mq_anewarray, mq_new, mq_cpI, mq_cpL, mq_abs, mq_max, mq_min, mq_is0, mq_is1, mq_iv0, mq_iv3, mq_ob, mq_ii0, mq_ii1, mq_tableswitch, mq_lookupswitch, mq_iret, mq_lret, mq_vret, hq_pI, hq_pL, hq_pR, hq_pA0, hq_pA1, hq_lk0, hq_lk1, hq_gI, hq_gIo, hq_gL, hq_gLo, hq_gA, hq_gAo, hq_rf1, hq_rf0, hq_st0_int, hq_st0_ref, hq_st0_long, hq_st1, hq_st2, hq_c0, hq_c_int, hq_c_ref, hq_c_long, hq_cS_eq, hq_cS_ne, hq_cS_lt, hq_cS_ge, hq_cS_gt, hq_cS_le, hq_isO, hq_isA, hq_inS0, hq_inS1, hq_bzI, hq_bzZ, hq_sw0, hq_sw1, hq_cat0, hq_catI, hq_catR, hq_catL, hq_en0, hq_enL, hq_enI, hq_enR, hq_hp, hq_callW, hq_rep0, hq_rep1, hq_tl1, hq_tl0, sh_all, rf_all, Nat.reduceAdd, Nat.reduceSub, Nat.reduceMul, Nat.reduceBEq, ↓reduceIte, Bool.or_false, Bool.or_true, Bool.false_or, Bool.true_or, Bool.false_eq_true, Nat.reduceLT, Nat.reduceLeDiff, Nat.reduceEqDiff, true_or, true_and, and_true, false_or, or_true, eq_self, bI_d0, bI_d1, bI_o, em_1, Classical.not_not, Nat.add_zero, forall_const, not_true_eq_false, false_implies, one_ne0, ne0_one, not_false_eq_true, tb_Rh_why]
  have p20 : (-1 ≤ w ∧ w ≤ 5) → ∀ x, P 20 [some (.ref 0), some (.int w), x] [] (I, L, rfx z, nz z) 0 0 := by
    intro hv x
    refine step [] 600 _ _ _ _ _ _ ?_
    simp only [wq_s, wp_s, mq_iconst, mq_bipush, mq_sipush, mq_ldc0, mq_ldc1, mq_ldc_w, mq_lconst, mq_ldc2_w, mq_iload, mq_iload_n, mq_lload, mq_lload_n, mq_aload, mq_aload_n, mq_istore, mq_istore_n, mq_lstore, mq_lstore_n, mq_astore, mq_astore_n, mq_iinc, mq_iadd, mq_isub, mq_imul, mq_iand, mq_ior, mq_ixor, mq_idiv, mq_irem, mq_ineg, mq_ishl, mq_ishr, mq_iushr, mq_ladd, mq_lsub, mq_land, mq_lor, mq_lxor, mq_lshl, mq_lshr, mq_lushr, mq_i2l, mq_l2i, mq_i2b, mq_i2s, mq_lcmp, mq_dupI, mq_dupR, mq_dup2, mq_ifCond, mq_if_icmp, mq_goto, mq_nnN, mq_nnR, mq_get1, mq_get2, mq_get0, mq_get3, mq_put1, mq_put2, mq_put3, mq_put0, mq_iaload, mq_laload, mq_aald, mq_iastore, mq_lastore, mq_aastore, mq_arraylength, mq_newarray, mq_anewarray, mq_new, mq_cpI, mq_cpL, mq_abs, mq_max, mq_min, mq_is0, mq_is1, mq_iv0, mq_iv3, mq_ob, mq_ii0, mq_ii1, mq_tableswitch, mq_lookupswitch, mq_iret, mq_lret, mq_vret, hq_pI, hq_pL, hq_pR, hq_pA0, hq_pA1, hq_lk0, hq_lk1, hq_gI, hq_gIo, hq_gL, hq_gLo, hq_gA, hq_gAo, hq_rf1, hq_rf0, hq_st0_int, hq_st0_ref, hq_st0_long, hq_st1, hq_st2, hq_c0, hq_c_int, hq_c_ref, hq_c_long, hq_cS_eq, hq_cS_ne, hq_cS_lt, hq_cS_ge, hq_cS_gt, hq_cS_le, hq_isO, hq_isA, hq_inS0, hq_inS1, hq_bzI, hq_bzZ, hq_sw0, hq_sw1, hq_cat0, hq_catI, hq_catR, hq_catL, hq_en0, hq_enL, hq_enI, hq_enR, hq_hp, hq_callW, hq_rep0, hq_rep1, hq_tl1, hq_tl0, sh_all, rf_all, Nat.reduceAdd, Nat.reduceSub, Nat.reduceMul, Nat.reduceBEq, ↓reduceIte, Bool.or_false, Bool.or_true, Bool.false_or, Bool.true_or, Bool.false_eq_true, Nat.reduceLT, Nat.reduceLeDiff, Nat.reduceEqDiff, true_or, true_and, and_true, false_or, or_true, eq_self, bI_d0, bI_d1, bI_o, em_1, Classical.not_not, Nat.add_zero, forall_const, not_true_eq_false, false_implies, one_ne0, ne0_one, not_false_eq_true, tb_Rh_why]
    refine k_Wo_clauseAbout w n nc hn h1 h2 ?_
    refine step [] 600 _ _ _ _ _ _ ?_
    simp only [wq_s, wp_s, mq_iconst, mq_bipush, mq_sipush, mq_ldc0, mq_ldc1, mq_ldc_w, mq_lconst, mq_ldc2_w, mq_iload, mq_iload_n, mq_lload, mq_lload_n, mq_aload, mq_aload_n, mq_istore, mq_istore_n, mq_lstore, mq_lstore_n, mq_astore, mq_astore_n, mq_iinc, mq_iadd, mq_isub, mq_imul, mq_iand, mq_ior, mq_ixor, mq_idiv, mq_irem, mq_ineg, mq_ishl, mq_ishr, mq_iushr, mq_ladd, mq_lsub, mq_land, mq_lor, mq_lxor, mq_lshl, mq_lshr, mq_lushr, mq_i2l, mq_l2i, mq_i2b, mq_i2s, mq_lcmp, mq_dupI, mq_dupR, mq_dup2, mq_ifCond, mq_if_icmp, mq_goto, mq_nnN, mq_nnR, mq_get1, mq_get2, mq_get0, mq_get3, mq_put1, mq_put2, mq_put3, mq_put0, mq_iaload, mq_laload, mq_aald, mq_iastore, mq_lastore, mq_aastore, mq_arraylength, mq_newarray, mq_anewarray, mq_new, mq_cpI, mq_cpL, mq_abs, mq_max, mq_min, mq_is0, mq_is1, mq_iv0, mq_iv3, mq_ob, mq_ii0, mq_ii1, mq_tableswitch, mq_lookupswitch, mq_iret, mq_lret, mq_vret, hq_pI, hq_pL, hq_pR, hq_pA0, hq_pA1, hq_lk0, hq_lk1, hq_gI, hq_gIo, hq_gL, hq_gLo, hq_gA, hq_gAo, hq_rf1, hq_rf0, hq_st0_int, hq_st0_ref, hq_st0_long, hq_st1, hq_st2, hq_c0, hq_c_int, hq_c_ref, hq_c_long, hq_cS_eq, hq_cS_ne, hq_cS_lt, hq_cS_ge, hq_cS_gt, hq_cS_le, hq_isO, hq_isA, hq_inS0, hq_inS1, hq_bzI, hq_bzZ, hq_sw0, hq_sw1, hq_cat0, hq_catI, hq_catR, hq_catL, hq_en0, hq_enL, hq_enI, hq_enR, hq_hp, hq_callW, hq_rep0, hq_rep1, hq_tl1, hq_tl0, sh_all, rf_all, Nat.reduceAdd, Nat.reduceSub, Nat.reduceMul, Nat.reduceBEq, ↓reduceIte, Bool.or_false, Bool.or_true, Bool.false_or, Bool.true_or, Bool.false_eq_true, Nat.reduceLT, Nat.reduceLeDiff, Nat.reduceEqDiff, true_or, true_and, and_true, false_or, or_true, eq_self, bI_d0, bI_d1, bI_o, em_1, Classical.not_not, Nat.add_zero, forall_const, not_true_eq_false, false_implies, one_ne0, ne0_one, not_false_eq_true, tb_Rh_why]
    rw [whF, if_neg (fun q => q hv)] at hK
    cases ho : lstT (cG I w (I 1 6 / 360) ((I 1 6 - I 1 6 / 360 * 360) / 30) nc) n with
    | none =>
      rw [ho] at hK
      refine ⟨fun q => absurd q (show ¬ (0 : Int32) ≤ -1 by decide), fun _ => k_Rh_finding _ 3 (by decide) (by decide) ?_⟩
      refine step [] 600 _ _ _ _ _ _ ?_
      simp only [wq_s, wp_s, mq_iconst, mq_bipush, mq_sipush, mq_ldc0, mq_ldc1, mq_ldc_w, mq_lconst, mq_ldc2_w, mq_iload, mq_iload_n, mq_lload, mq_lload_n, mq_aload, mq_aload_n, mq_istore, mq_istore_n, mq_lstore, mq_lstore_n, mq_astore, mq_astore_n, mq_iinc, mq_iadd, mq_isub, mq_imul, mq_iand, mq_ior, mq_ixor, mq_idiv, mq_irem, mq_ineg, mq_ishl, mq_ishr, mq_iushr, mq_ladd, mq_lsub, mq_land, mq_lor, mq_lxor, mq_lshl, mq_lshr, mq_lushr, mq_i2l, mq_l2i, mq_i2b, mq_i2s, mq_lcmp, mq_dupI, mq_dupR, mq_dup2, mq_ifCond, mq_if_icmp, mq_goto, mq_nnN, mq_nnR, mq_get1, mq_get2, mq_get0, mq_get3, mq_put1, mq_put2, mq_put3, mq_put0, mq_iaload, mq_laload, mq_aald, mq_iastore, mq_lastore, mq_aastore, mq_arraylength, mq_newarray, mq_anewarray, mq_new, mq_cpI, mq_cpL, mq_abs, mq_max, mq_min, mq_is0, mq_is1, mq_iv0, mq_iv3, mq_ob, mq_ii0, mq_ii1, mq_tableswitch, mq_lookupswitch, mq_iret, mq_lret, mq_vret, hq_pI, hq_pL, hq_pR, hq_pA0, hq_pA1, hq_lk0, hq_lk1, hq_gI, hq_gIo, hq_gL, hq_gLo, hq_gA, hq_gAo, hq_rf1, hq_rf0, hq_st0_int, hq_st0_ref, hq_st0_long, hq_st1, hq_st2, hq_c0, hq_c_int, hq_c_ref, hq_c_long, hq_cS_eq, hq_cS_ne, hq_cS_lt, hq_cS_ge, hq_cS_gt, hq_cS_le, hq_isO, hq_isA, hq_inS0, hq_inS1, hq_bzI, hq_bzZ, hq_sw0, hq_sw1, hq_cat0, hq_catI, hq_catR, hq_catL, hq_en0, hq_enL, hq_enI, hq_enR, hq_hp, hq_callW, hq_rep0, hq_rep1, hq_tl1, hq_tl0, sh_all, rf_all, Nat.reduceAdd, Nat.reduceSub, Nat.reduceMul, Nat.reduceBEq, ↓reduceIte, Bool.or_false, Bool.or_true, Bool.false_or, Bool.true_or, Bool.false_eq_true, Nat.reduceLT, Nat.reduceLeDiff, Nat.reduceEqDiff, true_or, true_and, and_true, false_or, or_true, eq_self, bI_d0, bI_d1, bI_o, em_1, Classical.not_not, Nat.add_zero, forall_const, not_true_eq_false, false_implies, one_ne0, ne0_one, not_false_eq_true, tb_Rh_why]
      exact fO_s hK 3 rfl (by decide)
    | some tc =>
      obtain ⟨t, c⟩ := tc
      rw [ho] at hK
      obtain ⟨g1, g2⟩ := lstT_is _ _ _ _ ho
      have hc5 : c < 5 := by
        unfold cG at g2
        split at g2
        · have := fstN_is _ _ _ _ g2; have := (h2 t g1).1; omega
        · exact absurd g2 (by simp)
      refine ⟨fun _ => ⟨by decide, by decide, ?_⟩, fun q => absurd (nI_pos' (show 5 * t + c < 2 ^ 31 by omega)) q⟩
      refine kI (fO_n hK rfl) ?_
      exact (div5 (by omega) hc5).symm
  refine ⟨fun e => p20 (by subst e; decide) _, fun e => k_Rh_within w 5 ?_⟩
  refine step [20] 600 _ _ _ _ _ _ ?_
  simp only [wq_s, wp_s, mq_iconst, mq_bipush, mq_sipush, mq_ldc0, mq_ldc1, mq_ldc_w, mq_lconst, mq_ldc2_w, mq_iload, mq_iload_n, mq_lload, mq_lload_n, mq_aload, mq_aload_n, mq_istore, mq_istore_n, mq_lstore, mq_lstore_n, mq_astore, mq_astore_n, mq_iinc, mq_iadd, mq_isub, mq_imul, mq_iand, mq_ior, mq_ixor, mq_idiv, mq_irem, mq_ineg, mq_ishl, mq_ishr, mq_iushr, mq_ladd, mq_lsub, mq_land, mq_lor, mq_lxor, mq_lshl, mq_lshr, mq_lushr, mq_i2l, mq_l2i, mq_i2b, mq_i2s, mq_lcmp, mq_dupI, mq_dupR, mq_dup2, mq_ifCond, mq_if_icmp, mq_goto, mq_nnN, mq_nnR, mq_get1, mq_get2, mq_get0, mq_get3, mq_put1, mq_put2, mq_put3, mq_put0, mq_iaload, mq_laload, mq_aald, mq_iastore, mq_lastore, mq_aastore, mq_arraylength, mq_newarray, mq_anewarray, mq_new, mq_cpI, mq_cpL, mq_abs, mq_max, mq_min, mq_is0, mq_is1, mq_iv0, mq_iv3, mq_ob, mq_ii0, mq_ii1, mq_tableswitch, mq_lookupswitch, mq_iret, mq_lret, mq_vret, hq_pI, hq_pL, hq_pR, hq_pA0, hq_pA1, hq_lk0, hq_lk1, hq_gI, hq_gIo, hq_gL, hq_gLo, hq_gA, hq_gAo, hq_rf1, hq_rf0, hq_st0_int, hq_st0_ref, hq_st0_long, hq_st1, hq_st2, hq_c0, hq_c_int, hq_c_ref, hq_c_long, hq_cS_eq, hq_cS_ne, hq_cS_lt, hq_cS_ge, hq_cS_gt, hq_cS_le, hq_isO, hq_isA, hq_inS0, hq_inS1, hq_bzI, hq_bzZ, hq_sw0, hq_sw1, hq_cat0, hq_catI, hq_catR, hq_catL, hq_en0, hq_enL, hq_enI, hq_enR, hq_hp, hq_callW, hq_rep0, hq_rep1, hq_tl1, hq_tl0, sh_all, rf_all, Nat.reduceAdd, Nat.reduceSub, Nat.reduceMul, Nat.reduceBEq, ↓reduceIte, Bool.or_false, Bool.or_true, Bool.false_or, Bool.true_or, Bool.false_eq_true, Nat.reduceLT, Nat.reduceLeDiff, Nat.reduceEqDiff, true_or, true_and, and_true, false_or, or_true, eq_self, bI_d0, bI_d1, bI_o, em_1, Classical.not_not, Nat.add_zero, forall_const, not_true_eq_false, false_implies, one_ne0, ne0_one, not_false_eq_true, tb_Rh_why]
  have t1 : (-1 : Int32).toInt = -1 := rfl
  have t0 : (0 : Int32).toInt = 0 := rfl
  refine ⟨fun g => p20 ⟨by have := Int32.le_iff_toInt_le.mp g.1; rw [Int32.le_iff_toInt_le]; omega, g.2⟩ _, fun g => k_Rh_finding _ 0 (by decide) (by decide) ?_⟩
  refine step [] 600 _ _ _ _ _ _ ?_
  simp only [wq_s, wp_s, mq_iconst, mq_bipush, mq_sipush, mq_ldc0, mq_ldc1, mq_ldc_w, mq_lconst, mq_ldc2_w, mq_iload, mq_iload_n, mq_lload, mq_lload_n, mq_aload, mq_aload_n, mq_istore, mq_istore_n, mq_lstore, mq_lstore_n, mq_astore, mq_astore_n, mq_iinc, mq_iadd, mq_isub, mq_imul, mq_iand, mq_ior, mq_ixor, mq_idiv, mq_irem, mq_ineg, mq_ishl, mq_ishr, mq_iushr, mq_ladd, mq_lsub, mq_land, mq_lor, mq_lxor, mq_lshl, mq_lshr, mq_lushr, mq_i2l, mq_l2i, mq_i2b, mq_i2s, mq_lcmp, mq_dupI, mq_dupR, mq_dup2, mq_ifCond, mq_if_icmp, mq_goto, mq_nnN, mq_nnR, mq_get1, mq_get2, mq_get0, mq_get3, mq_put1, mq_put2, mq_put3, mq_put0, mq_iaload, mq_laload, mq_aald, mq_iastore, mq_lastore, mq_aastore, mq_arraylength, mq_newarray, mq_anewarray, mq_new, mq_cpI, mq_cpL, mq_abs, mq_max, mq_min, mq_is0, mq_is1, mq_iv0, mq_iv3, mq_ob, mq_ii0, mq_ii1, mq_tableswitch, mq_lookupswitch, mq_iret, mq_lret, mq_vret, hq_pI, hq_pL, hq_pR, hq_pA0, hq_pA1, hq_lk0, hq_lk1, hq_gI, hq_gIo, hq_gL, hq_gLo, hq_gA, hq_gAo, hq_rf1, hq_rf0, hq_st0_int, hq_st0_ref, hq_st0_long, hq_st1, hq_st2, hq_c0, hq_c_int, hq_c_ref, hq_c_long, hq_cS_eq, hq_cS_ne, hq_cS_lt, hq_cS_ge, hq_cS_gt, hq_cS_le, hq_isO, hq_isA, hq_inS0, hq_inS1, hq_bzI, hq_bzZ, hq_sw0, hq_sw1, hq_cat0, hq_catI, hq_catR, hq_catL, hq_en0, hq_enL, hq_enI, hq_enR, hq_hp, hq_callW, hq_rep0, hq_rep1, hq_tl1, hq_tl0, sh_all, rf_all, Nat.reduceAdd, Nat.reduceSub, Nat.reduceMul, Nat.reduceBEq, ↓reduceIte, Bool.or_false, Bool.or_true, Bool.false_or, Bool.true_or, Bool.false_eq_true, Nat.reduceLT, Nat.reduceLeDiff, Nat.reduceEqDiff, true_or, true_and, and_true, false_or, or_true, eq_self, bI_d0, bI_d1, bI_o, em_1, Classical.not_not, Nat.add_zero, forall_const, not_true_eq_false, false_implies, one_ne0, ne0_one, not_false_eq_true, tb_Rh_why]
  refine fO_s hK 0 (if_pos (fun q => ?_)) (by decide)
  by_cases h0 : w < 0
  · exact e (m1_of (Int32.not_lt.mpr q.1) h0)
  · exact g ⟨Int32.not_lt.mp h0, q.2⟩
set_option maxRecDepth 100000 in
set_option maxHeartbeats 4000000 in
theorem k_Mo_why {I L z K} (w : Int32) (n : Nat) (nc : Nat → Nat) (hn : n ≤ 8) (h1 : I 58 1596 = nI n) (h2 : ∀ t, t < n → nc t ≤ 5 ∧ I 58 (609 + 28 * t + 2) = nI (nc t)) (hK : ∀ o, o = lstT (mG I w ((I 58 1593 - I 58 1593 / 360 * 360) / 30) nc) n → fO K 64 I L z (whF w o) (K (some (.int (encS 10 o))) (hp I L z))) : Ct m_Mo_why [.ref 57, .int w] (hp I L z) K := by
  have hK := hK _ rfl
  refine in_Mo_why 71 (nB_hp _ _ _) (Nat.le_of_ble_eq_true rfl) rfl (fun P step => ?_)
  refine step [] 600 _ _ _ _ _ _ ?_
  simp only [wq_s, wp_s, mq_iconst, mq_bipush, mq_sipush, mq_ldc0, mq_ldc1, mq_ldc_w, mq_lconst, mq_ldc2_w, mq_iload, mq_iload_n, mq_lload, mq_lload_n, mq_aload, mq_aload_n, mq_istore, mq_istore_n, mq_lstore, mq_lstore_n, mq_astore, mq_astore_n, mq_iinc, mq_iadd, mq_isub, mq_imul, mq_iand, mq_ior, mq_ixor, mq_idiv, mq_irem, mq_ineg, mq_ishl, mq_ishr, mq_iushr, mq_ladd, mq_lsub, mq_land, mq_lor, mq_lxor, mq_lshl, mq_lshr, mq_lushr, mq_i2l, mq_l2i, mq_i2b, mq_i2s, mq_lcmp, mq_dupI, mq_dupR, mq_dup2, mq_ifCond, mq_if_icmp, mq_goto, mq_nnN, mq_nnR, mq_get1, mq_get2, mq_get0, mq_get3, mq_put1, mq_put2, mq_put3, mq_put0, mq_iaload, mq_laload, mq_aald, mq_iastore, mq_lastore, mq_aastore, mq_arraylength, mq_newarray, mq_anewarray, mq_new, mq_cpI, mq_cpL, mq_abs, mq_max, mq_min, mq_is0, mq_is1, mq_iv0, mq_iv3, mq_ob, mq_ii0, mq_ii1, mq_tableswitch, mq_lookupswitch, mq_iret, mq_lret, mq_vret, hq_pI, hq_pL, hq_pR, hq_pA0, hq_pA1, hq_lk0, hq_lk1, hq_gI, hq_gIo, hq_gL, hq_gLo, hq_gA, hq_gAo, hq_rf1, hq_rf0, hq_st0_int, hq_st0_ref, hq_st0_long, hq_st1, hq_st2, hq_c0, hq_c_int, hq_c_ref, hq_c_long, hq_cS_eq, hq_cS_ne, hq_cS_lt, hq_cS_ge, hq_cS_gt, hq_cS_le, hq_isO, hq_isA, hq_inS0, hq_inS1, hq_bzI, hq_bzZ, hq_sw0, hq_sw1, hq_cat0, hq_catI, hq_catR, hq_catL, hq_en0, hq_enL, hq_enI, hq_enR, hq_hp, hq_callW, hq_rep0, hq_rep1, hq_tl1, hq_tl0, sh_all, rf_all, Nat.reduceAdd, Nat.reduceSub, Nat.reduceMul, Nat.reduceBEq, ↓reduceIte, Bool.or_false, Bool.or_true, Bool.false_or, Bool.true_or, Bool.false_eq_true, Nat.reduceLT, Nat.reduceLeDiff, Nat.reduceEqDiff, true_or, true_and, and_true, false_or, or_true, eq_self, bI_d0, bI_d1, bI_o, em_1, Classical.not_not, Nat.add_zero, forall_const, not_true_eq_false, false_implies, one_ne0, ne0_one, not_false_eq_true, tb_Mo_why]
  refine k_Mo_in w (-1) 5 ?_
  refine step [] 600 _ _ _ _ _ _ ?_
  simp only [wq_s, wp_s, mq_iconst, mq_bipush, mq_sipush, mq_ldc0, mq_ldc1, mq_ldc_w, mq_lconst, mq_ldc2_w, mq_iload, mq_iload_n, mq_lload, mq_lload_n, mq_aload, mq_aload_n, mq_istore, mq_istore_n, mq_lstore, mq_lstore_n, mq_astore, mq_astore_n, mq_iinc, mq_iadd, mq_isub, mq_imul, mq_iand, mq_ior, mq_ixor, mq_idiv, mq_irem, mq_ineg, mq_ishl, mq_ishr, mq_iushr, mq_ladd, mq_lsub, mq_land, mq_lor, mq_lxor, mq_lshl, mq_lshr, mq_lushr, mq_i2l, mq_l2i, mq_i2b, mq_i2s, mq_lcmp, mq_dupI, mq_dupR, mq_dup2, mq_ifCond, mq_if_icmp, mq_goto, mq_nnN, mq_nnR, mq_get1, mq_get2, mq_get0, mq_get3, mq_put1, mq_put2, mq_put3, mq_put0, mq_iaload, mq_laload, mq_aald, mq_iastore, mq_lastore, mq_aastore, mq_arraylength, mq_newarray, mq_anewarray, mq_new, mq_cpI, mq_cpL, mq_abs, mq_max, mq_min, mq_is0, mq_is1, mq_iv0, mq_iv3, mq_ob, mq_ii0, mq_ii1, mq_tableswitch, mq_lookupswitch, mq_iret, mq_lret, mq_vret, hq_pI, hq_pL, hq_pR, hq_pA0, hq_pA1, hq_lk0, hq_lk1, hq_gI, hq_gIo, hq_gL, hq_gLo, hq_gA, hq_gAo, hq_rf1, hq_rf0, hq_st0_int, hq_st0_ref, hq_st0_long, hq_st1, hq_st2, hq_c0, hq_c_int, hq_c_ref, hq_c_long, hq_cS_eq, hq_cS_ne, hq_cS_lt, hq_cS_ge, hq_cS_gt, hq_cS_le, hq_isO, hq_isA, hq_inS0, hq_inS1, hq_bzI, hq_bzZ, hq_sw0, hq_sw1, hq_cat0, hq_catI, hq_catR, hq_catL, hq_en0, hq_enL, hq_enI, hq_enR, hq_hp, hq_callW, hq_rep0, hq_rep1, hq_tl1, hq_tl0, sh_all, rf_all, Nat.reduceAdd, Nat.reduceSub, Nat.reduceMul, Nat.reduceBEq, ↓reduceIte, Bool.or_false, Bool.or_true, Bool.false_or, Bool.true_or, Bool.false_eq_true, Nat.reduceLT, Nat.reduceLeDiff, Nat.reduceEqDiff, true_or, true_and, and_true, false_or, or_true, eq_self, bI_d0, bI_d1, bI_o, em_1, Classical.not_not, Nat.add_zero, forall_const, not_true_eq_false, false_implies, one_ne0, ne0_one, not_false_eq_true, tb_Mo_why]
  refine ⟨fun g => k_Mo_clauseOf w n nc hn h1 h2 ?_, fun g => k_Mo_finding _ 0 (by decide) (by decide) ?_⟩
  · rw [whF, if_neg (fun q => q g)] at hK
    refine step [] 600 _ _ _ _ _ _ ?_
    simp only [wq_s, wp_s, mq_iconst, mq_bipush, mq_sipush, mq_ldc0, mq_ldc1, mq_ldc_w, mq_lconst, mq_ldc2_w, mq_iload, mq_iload_n, mq_lload, mq_lload_n, mq_aload, mq_aload_n, mq_istore, mq_istore_n, mq_lstore, mq_lstore_n, mq_astore, mq_astore_n, mq_iinc, mq_iadd, mq_isub, mq_imul, mq_iand, mq_ior, mq_ixor, mq_idiv, mq_irem, mq_ineg, mq_ishl, mq_ishr, mq_iushr, mq_ladd, mq_lsub, mq_land, mq_lor, mq_lxor, mq_lshl, mq_lshr, mq_lushr, mq_i2l, mq_l2i, mq_i2b, mq_i2s, mq_lcmp, mq_dupI, mq_dupR, mq_dup2, mq_ifCond, mq_if_icmp, mq_goto, mq_nnN, mq_nnR, mq_get1, mq_get2, mq_get0, mq_get3, mq_put1, mq_put2, mq_put3, mq_put0, mq_iaload, mq_laload, mq_aald, mq_iastore, mq_lastore, mq_aastore, mq_arraylength, mq_newarray, mq_anewarray, mq_new, mq_cpI, mq_cpL, mq_abs, mq_max, mq_min, mq_is0, mq_is1, mq_iv0, mq_iv3, mq_ob, mq_ii0, mq_ii1, mq_tableswitch, mq_lookupswitch, mq_iret, mq_lret, mq_vret, hq_pI, hq_pL, hq_pR, hq_pA0, hq_pA1, hq_lk0, hq_lk1, hq_gI, hq_gIo, hq_gL, hq_gLo, hq_gA, hq_gAo, hq_rf1, hq_rf0, hq_st0_int, hq_st0_ref, hq_st0_long, hq_st1, hq_st2, hq_c0, hq_c_int, hq_c_ref, hq_c_long, hq_cS_eq, hq_cS_ne, hq_cS_lt, hq_cS_ge, hq_cS_gt, hq_cS_le, hq_isO, hq_isA, hq_inS0, hq_inS1, hq_bzI, hq_bzZ, hq_sw0, hq_sw1, hq_cat0, hq_catI, hq_catR, hq_catL, hq_en0, hq_enL, hq_enI, hq_enR, hq_hp, hq_callW, hq_rep0, hq_rep1, hq_tl1, hq_tl0, sh_all, rf_all, Nat.reduceAdd, Nat.reduceSub, Nat.reduceMul, Nat.reduceBEq, ↓reduceIte, Bool.or_false, Bool.or_true, Bool.false_or, Bool.true_or, Bool.false_eq_true, Nat.reduceLT, Nat.reduceLeDiff, Nat.reduceEqDiff, true_or, true_and, and_true, false_or, or_true, eq_self, bI_d0, bI_d1, bI_o, em_1, Classical.not_not, Nat.add_zero, forall_const, not_true_eq_false, false_implies, one_ne0, ne0_one, not_false_eq_true, tb_Mo_why]
    cases ho : lstT (mG I w ((I 58 1593 - I 58 1593 / 360 * 360) / 30) nc) n with
    | none =>
      rw [ho] at hK
      refine ⟨fun q => absurd q (show ¬ (0 : Int32) ≤ -1 by decide), fun _ => k_Mo_finding _ 3 (by decide) (by decide) ?_⟩
      refine step [] 600 _ _ _ _ _ _ ?_
      simp only [wq_s, wp_s, mq_iconst, mq_bipush, mq_sipush, mq_ldc0, mq_ldc1, mq_ldc_w, mq_lconst, mq_ldc2_w, mq_iload, mq_iload_n, mq_lload, mq_lload_n, mq_aload, mq_aload_n, mq_istore, mq_istore_n, mq_lstore, mq_lstore_n, mq_astore, mq_astore_n, mq_iinc, mq_iadd, mq_isub, mq_imul, mq_iand, mq_ior, mq_ixor, mq_idiv, mq_irem, mq_ineg, mq_ishl, mq_ishr, mq_iushr, mq_ladd, mq_lsub, mq_land, mq_lor, mq_lxor, mq_lshl, mq_lshr, mq_lushr, mq_i2l, mq_l2i, mq_i2b, mq_i2s, mq_lcmp, mq_dupI, mq_dupR, mq_dup2, mq_ifCond, mq_if_icmp, mq_goto, mq_nnN, mq_nnR, mq_get1, mq_get2, mq_get0, mq_get3, mq_put1, mq_put2, mq_put3, mq_put0, mq_iaload, mq_laload, mq_aald, mq_iastore, mq_lastore, mq_aastore, mq_arraylength, mq_newarray, mq_anewarray, mq_new, mq_cpI, mq_cpL, mq_abs, mq_max, mq_min, mq_is0, mq_is1, mq_iv0, mq_iv3, mq_ob, mq_ii0, mq_ii1, mq_tableswitch, mq_lookupswitch, mq_iret, mq_lret, mq_vret, hq_pI, hq_pL, hq_pR, hq_pA0, hq_pA1, hq_lk0, hq_lk1, hq_gI, hq_gIo, hq_gL, hq_gLo, hq_gA, hq_gAo, hq_rf1, hq_rf0, hq_st0_int, hq_st0_ref, hq_st0_long, hq_st1, hq_st2, hq_c0, hq_c_int, hq_c_ref, hq_c_long, hq_cS_eq, hq_cS_ne, hq_cS_lt, hq_cS_ge, hq_cS_gt, hq_cS_le, hq_isO, hq_isA, hq_inS0, hq_inS1, hq_bzI, hq_bzZ, hq_sw0, hq_sw1, hq_cat0, hq_catI, hq_catR, hq_catL, hq_en0, hq_enL, hq_enI, hq_enR, hq_hp, hq_callW, hq_rep0, hq_rep1, hq_tl1, hq_tl0, sh_all, rf_all, Nat.reduceAdd, Nat.reduceSub, Nat.reduceMul, Nat.reduceBEq, ↓reduceIte, Bool.or_false, Bool.or_true, Bool.false_or, Bool.true_or, Bool.false_eq_true, Nat.reduceLT, Nat.reduceLeDiff, Nat.reduceEqDiff, true_or, true_and, and_true, false_or, or_true, eq_self, bI_d0, bI_d1, bI_o, em_1, Classical.not_not, Nat.add_zero, forall_const, not_true_eq_false, false_implies, one_ne0, ne0_one, not_false_eq_true, tb_Mo_why]
      exact fO_s hK 3 rfl (by decide)
    | some tc =>
      obtain ⟨t, c⟩ := tc
      rw [ho] at hK
      obtain ⟨g1, g2⟩ := lstT_is _ _ _ _ ho
      have hc5 : c < 5 := by
        unfold mG at g2
        split at g2
        · have := fstN_is _ _ _ _ g2; have := (h2 t g1).1; omega
        · exact absurd g2 (by simp)
      exact ⟨fun _ => fO_n hK rfl, fun q => absurd (nI_pos' (show 10 * t + c < 2 ^ 31 by omega)) q⟩
  · refine step [] 600 _ _ _ _ _ _ ?_
    simp only [wq_s, wp_s, mq_iconst, mq_bipush, mq_sipush, mq_ldc0, mq_ldc1, mq_ldc_w, mq_lconst, mq_ldc2_w, mq_iload, mq_iload_n, mq_lload, mq_lload_n, mq_aload, mq_aload_n, mq_istore, mq_istore_n, mq_lstore, mq_lstore_n, mq_astore, mq_astore_n, mq_iinc, mq_iadd, mq_isub, mq_imul, mq_iand, mq_ior, mq_ixor, mq_idiv, mq_irem, mq_ineg, mq_ishl, mq_ishr, mq_iushr, mq_ladd, mq_lsub, mq_land, mq_lor, mq_lxor, mq_lshl, mq_lshr, mq_lushr, mq_i2l, mq_l2i, mq_i2b, mq_i2s, mq_lcmp, mq_dupI, mq_dupR, mq_dup2, mq_ifCond, mq_if_icmp, mq_goto, mq_nnN, mq_nnR, mq_get1, mq_get2, mq_get0, mq_get3, mq_put1, mq_put2, mq_put3, mq_put0, mq_iaload, mq_laload, mq_aald, mq_iastore, mq_lastore, mq_aastore, mq_arraylength, mq_newarray, mq_anewarray, mq_new, mq_cpI, mq_cpL, mq_abs, mq_max, mq_min, mq_is0, mq_is1, mq_iv0, mq_iv3, mq_ob, mq_ii0, mq_ii1, mq_tableswitch, mq_lookupswitch, mq_iret, mq_lret, mq_vret, hq_pI, hq_pL, hq_pR, hq_pA0, hq_pA1, hq_lk0, hq_lk1, hq_gI, hq_gIo, hq_gL, hq_gLo, hq_gA, hq_gAo, hq_rf1, hq_rf0, hq_st0_int, hq_st0_ref, hq_st0_long, hq_st1, hq_st2, hq_c0, hq_c_int, hq_c_ref, hq_c_long, hq_cS_eq, hq_cS_ne, hq_cS_lt, hq_cS_ge, hq_cS_gt, hq_cS_le, hq_isO, hq_isA, hq_inS0, hq_inS1, hq_bzI, hq_bzZ, hq_sw0, hq_sw1, hq_cat0, hq_catI, hq_catR, hq_catL, hq_en0, hq_enL, hq_enI, hq_enR, hq_hp, hq_callW, hq_rep0, hq_rep1, hq_tl1, hq_tl0, sh_all, rf_all, Nat.reduceAdd, Nat.reduceSub, Nat.reduceMul, Nat.reduceBEq, ↓reduceIte, Bool.or_false, Bool.or_true, Bool.false_or, Bool.true_or, Bool.false_eq_true, Nat.reduceLT, Nat.reduceLeDiff, Nat.reduceEqDiff, true_or, true_and, and_true, false_or, or_true, eq_self, bI_d0, bI_d1, bI_o, em_1, Classical.not_not, Nat.add_zero, forall_const, not_true_eq_false, false_implies, one_ne0, ne0_one, not_false_eq_true, tb_Mo_why]
    exact fO_s hK 0 (if_pos g) (by decide)
theorem mG_cg {I J : Nat → Nat → Int32} {w mo : Int32} {nc : Nat → Nat} (h : J 58 = I 58) : mG J w mo nc = mG I w mo nc := by
  funext t; unfold mG mInF mAb; rw [h]
theorem op_why (w : Int32) : OpOK m_Rh_why m_Mo_why [.int w] := by
  intro I L z hI
  obtain ⟨n, nc, hn, s1, s2, c1, c2, dd, sm, cl⟩ := inv_tx hI
  refine k_Rh_why w n nc hn s1 c1 (fun o ho => ?_)
  cases hf : whF w o with
  | some f =>
    have e58 : (upI I 48 f.val (I 48 f.val + 1)) 58 = I 58 := upI_ne (by decide)
    refine k_Mo_why w n nc hn (by rw [e58]; exact s2) (by rw [e58]; exact c2) (fun o' ho' => ?_)
    rw [mG_cg e58, e58, ← sm, dd.symm] at ho'
    rw [ho', ← ho, hf]
    exact ⟨rfl, _, _, _, rfl, inv_find hI f.isLt⟩
  | none =>
    refine k_Mo_why w n nc hn s2 c2 (fun o' ho' => ?_)
    rw [← sm, dd.symm] at ho'
    rw [ho', ← ho, hf]
    exact ⟨rfl, _, _, _, rfl, hI⟩
