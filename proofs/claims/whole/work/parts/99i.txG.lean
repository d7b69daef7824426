def mtF (I F : Nat → Nat → Int32) : Prop := (∀ x, x ≠ 57 → x ≠ 65 → F x = I x) ∧ ∀ j, j ≠ 12 → j ≠ 13 → j ≠ 15 → F 57 j = I 57 j
def slT (F : Nat → Nat → Int32) (t j : Nat) (o : Option (Nat × Nat × Nat × Nat × Nat)) : Prop := ∀ k x y f l, o = some (k, x, y, f, l) → F 58 (609 + 28 * t + 3 + 5 * j) = nI k ∧ F 58 (609 + 28 * t + 3 + 5 * j + 1) = nI x ∧ F 58 (609 + 28 * t + 3 + 5 * j + 2) = nI y ∧ F 58 (609 + 28 * t + 3 + 5 * j + 3) = nI f ∧ F 58 (609 + 28 * t + 3 + 5 * j + 4) = nI l
/-- the model behind a text that was read -/
def mtN (I F : Nat → Nat → Int32) (t q : Nat) (c v : Int32) : Prop := (∀ x, x ≠ 57 → x ≠ 58 → x ≠ 65 → F x = I x) ∧ (∀ j, j ≠ 4 → j ≠ 12 → j ≠ 13 → j ≠ 15 → F 57 j = I 57 j) ∧ F 57 4 = 0 ∧ (∀ j, j ≠ 1596 → ¬ (609 + 28 * t ≤ j ∧ j < 609 + 28 * t + 28) → F 58 j = I 58 j) ∧ F 58 1596 = nI (t + 1) ∧ F 58 (609 + 28 * t) = c ∧ F 58 (609 + 28 * t + 1) = v ∧ F 58 (609 + 28 * t + 2) = nI q
theorem moS_mt {I J : Nat → Nat → Int32} {s : Nat → Int32} {n : Nat} (h : moS I s n) (g : mtF I J) : moS J s n := ⟨(g.2 4 (by decide) (by decide) (by decide)).trans h.1, h.2.1, fun a ha => by rw [g.1 60 (by decide) (by decide)]; exact h.2.2 a ha⟩
set_option maxRecDepth 100000 in
set_option maxHeartbeats 4000000 in
theorem k_Mo_text {I L z K} {s : Nat → Int32} {n : Nat} (c v : Int32) (t : Nat) (ht : t ≤ 8) (hst : I 58 1596 = nI t) (h : moS I s n) (hK : fO K 64 I L z (txO c v t)
    ((∀ F q, pRun s n 5 0 = (true, q) → mtN I F t q c v → (∀ j, j < q → slT F t j (pCl s (pP s j)).2) → K (some (.int (nI t))) (hp F L z)) ∧
    (∀ F f, pRun s n 5 0 = (false, f) → mtF I F → K (some (.int (-1 - nI f))) (hp F L z)))) : Ct m_Mo_text [.ref 57, .int c, .int v] (hp I L z) K := by
  have hn := h.2.1.1
  generalize hR : pRun s n 5 0 = r0 at hK
  refine in_Mo_text 71 (nB_hp _ _ _) (Nat.le_of_ble_eq_true rfl) rfl (fun P step => ?_)
  refine step [71, 204] 600 _ _ _ _ _ _ ?_
  simp only [wq_s, wp_s, mq_iconst, mq_bipush, mq_sipush, mq_ldc0, mq_ldc1, mq_ldc_w, mq_lconst, mq_ldc2_w, mq_iload, mq_iload_n, mq_lload, mq_lload_n, mq_aload, mq_aload_n, mq_istore, mq_istore_n, mq_lstore, mq_lstore_n, mq_astore, mq_astore_n, mq_iinc, mq_iadd, mq_isub, mq_imul, mq_iand, mq_ior, mq_ixor, mq_idiv, mq_irem, mq_ineg, mq_ishl, mq_ishr, mq_iushr, mq_ladd, mq_lsub, mq_land, mq_lor, mq_lxor, mq_lshl, mq_lshr, mq_lushr, mq_i2l, mq_l2i, mq_i2b, mq_i2s, mq_lcmp, mq_dupI, mq_dupR, mq_dup2, mq_ifCond, mq_if_icmp, mq_goto, mq_nnN, mq_nnR, mq_get1, mq_get2, mq_get0, mq_get3, mq_put1, mq_put2, mq_put3, mq_put0, mq_iaload, mq_laload, mq_aald, mq_iastore, mq_lastore, mq_aastore, mq_arraylength, mq_newarray, mq_anewarray, mq_new, mq_cpI, mq_cpL, mq_abs, mq_max, mq_min, mq_is0, mq_is1, mq_iv0, mq_iv3, mq_ob, mq_ii0, mq_ii1, mq_tableswitch, mq_lookupswitch, mq_iret, mq_lret, mq_vret, hq_pI, hq_pL, hq_pR, hq_pA0, hq_pA1, hq_lk0, hq_lk1, hq_gI, hq_gIo, hq_gL, hq_gLo, hq_gA, hq_gAo, hq_rf1, hq_rf0, hq_st0_int, hq_st0_ref, hq_st0_long, hq_st1, hq_st2, hq_c0, hq_c_int, hq_c_ref, hq_c_long, hq_cS_eq, hq_cS_ne, hq_cS_lt, hq_cS_ge, hq_cS_gt, hq_cS_le, hq_isO, hq_isA, hq_inS0, hq_inS1, hq_bzI, hq_bzZ, hq_sw0, hq_sw1, hq_cat0, hq_catI, hq_catR, hq_catL, hq_en0, hq_enL, hq_enI, hq_enR, hq_hp, hq_callW, hq_rep0, hq_rep1, hq_tl1, hq_tl0, sh_all, rf_all, Nat.reduceAdd, Nat.reduceSub, Nat.reduceMul, Nat.reduceBEq, ↓reduceIte, Bool.or_false, Bool.or_true, Bool.false_or, Bool.true_or, Bool.false_eq_true, Nat.reduceLT, Nat.reduceLeDiff, Nat.reduceEqDiff, true_or, true_and, and_true, false_or, or_true, eq_self, bI_d0, bI_d1, bI_o, em_1, Classical.not_not, Nat.add_zero, forall_const, not_true_eq_false, false_implies, one_ne0, ne0_one, not_false_eq_true, tb_Mo_text]
  refine k_Mo_in c 0 9 ?_
  refine step [71, 204] 600 _ _ _ _ _ _ ?_
  simp only [wq_s, wp_s, mq_iconst, mq_bipush, mq_sipush, mq_ldc0, mq_ldc1, mq_ldc_w, mq_lconst, mq_ldc2_w, mq_iload, mq_iload_n, mq_lload, mq_lload_n, mq_aload, mq_aload_n, mq_istore, mq_istore_n, mq_lstore, mq_lstore_n, mq_astore, mq_astore_n, mq_iinc, mq_iadd, mq_isub, mq_imul, mq_iand, mq_ior, mq_ixor, mq_idiv, mq_irem, mq_ineg, mq_ishl, mq_ishr, mq_iushr, mq_ladd, mq_lsub, mq_land, mq_lor, mq_lxor, mq_lshl, mq_lshr, mq_lushr, mq_i2l, mq_l2i, mq_i2b, mq_i2s, mq_lcmp, mq_dupI, mq_dupR, mq_dup2, mq_ifCond, mq_if_icmp, mq_goto, mq_nnN, mq_nnR, mq_get1, mq_get2, mq_get0, mq_get3, mq_put1, mq_put2, mq_put3, mq_put0, mq_iaload, mq_laload, mq_aald, mq_iastore, mq_lastore, mq_aastore, mq_arraylength, mq_newarray, mq_anewarray, mq_new, mq_cpI, mq_cpL, mq_abs, mq_max, mq_min, mq_is0, mq_is1, mq_iv0, mq_iv3, mq_ob, mq_ii0, mq_ii1, mq_tableswitch, mq_lookupswitch, mq_iret, mq_lret, mq_vret, hq_pI, hq_pL, hq_pR, hq_pA0, hq_pA1, hq_lk0, hq_lk1, hq_gI, hq_gIo, hq_gL, hq_gLo, hq_gA, hq_gAo, hq_rf1, hq_rf0, hq_st0_int, hq_st0_ref, hq_st0_long, hq_st1, hq_st2, hq_c0, hq_c_int, hq_c_ref, hq_c_long, hq_cS_eq, hq_cS_ne, hq_cS_lt, hq_cS_ge, hq_cS_gt, hq_cS_le, hq_isO, hq_isA, hq_inS0, hq_inS1, hq_bzI, hq_bzZ, hq_sw0, hq_sw1, hq_cat0, hq_catI, hq_catR, hq_catL, hq_en0, hq_enL, hq_enI, hq_enR, hq_hp, hq_callW, hq_rep0, hq_rep1, hq_tl1, hq_tl0, sh_all, rf_all, Nat.reduceAdd, Nat.reduceSub, Nat.reduceMul, Nat.reduceBEq, ↓reduceIte, Bool.or_false, Bool.or_true, Bool.false_or, Bool.true_or, Bool.false_eq_true, Nat.reduceLT, Nat.reduceLeDiff, Nat.reduceEqDiff, true_or, true_and, and_true, false_or, or_true, eq_self, bI_d0, bI_d1, bI_o, em_1, Classical.not_not, Nat.add_zero, forall_const, not_true_eq_false, false_implies, one_ne0, ne0_one, not_false_eq_true, tb_Mo_text]
  refine ⟨fun g => k_Mo_finding _ 0 (by decide) (by decide) ?_, fun g => k_Mo_in v 0 9 ?_⟩
  · refine step [71, 204] 600 _ _ _ _ _ _ ?_
    simp only [wq_s, wp_s, mq_iconst, mq_bipush, mq_sipush, mq_ldc0, mq_ldc1, mq_ldc_w, mq_lconst, mq_ldc2_w, mq_iload, mq_iload_n, mq_lload, mq_lload_n, mq_aload, mq_aload_n, mq_istore, mq_istore_n, mq_lstore, mq_lstore_n, mq_astore, mq_astore_n, mq_iinc, mq_iadd, mq_isub, mq_imul, mq_iand, mq_ior, mq_ixor, mq_idiv, mq_irem, mq_ineg, mq_ishl, mq_ishr, mq_iushr, mq_ladd, mq_lsub, mq_land, mq_lor, mq_lxor, mq_lshl, mq_lshr, mq_lushr, mq_i2l, mq_l2i, mq_i2b, mq_i2s, mq_lcmp, mq_dupI, mq_dupR, mq_dup2, mq_ifCond, mq_if_icmp, mq_goto, mq_nnN, mq_nnR, mq_get1, mq_get2, mq_get0, mq_get3, mq_put1, mq_put2, mq_put3, mq_put0, mq_iaload, mq_laload, mq_aald, mq_iastore, mq_lastore, mq_aastore, mq_arraylength, mq_newarray, mq_anewarray, mq_new, mq_cpI, mq_cpL, mq_abs, mq_max, mq_min, mq_is0, mq_is1, mq_iv0, mq_iv3, mq_ob, mq_ii0, mq_ii1, mq_tableswitch, mq_lookupswitch, mq_iret, mq_lret, mq_vret, hq_pI, hq_pL, hq_pR, hq_pA0, hq_pA1, hq_lk0, hq_lk1, hq_gI, hq_gIo, hq_gL, hq_gLo, hq_gA, hq_gAo, hq_rf1, hq_rf0, hq_st0_int, hq_st0_ref, hq_st0_long, hq_st1, hq_st2, hq_c0, hq_c_int, hq_c_ref, hq_c_long, hq_cS_eq, hq_cS_ne, hq_cS_lt, hq_cS_ge, hq_cS_gt, hq_cS_le, hq_isO, hq_isA, hq_inS0, hq_inS1, hq_bzI, hq_bzZ, hq_sw0, hq_sw1, hq_cat0, hq_catI, hq_catR, hq_catL, hq_en0, hq_enL, hq_enI, hq_enR, hq_hp, hq_callW, hq_rep0, hq_rep1, hq_tl1, hq_tl0, sh_all, rf_all, Nat.reduceAdd, Nat.reduceSub, Nat.reduceMul, Nat.reduceBEq, ↓reduceIte, Bool.or_false, Bool.or_true, Bool.false_or, Bool.true_or, Bool.false_eq_true, Nat.reduceLT, Nat.reduceLeDiff, Nat.reduceEqDiff, true_or, true_and, and_true, false_or, or_true, eq_self, bI_d0, bI_d1, bI_o, em_1, Classical.not_not, Nat.add_zero, forall_const, not_true_eq_false, false_implies, one_ne0, ne0_one, not_false_eq_true, tb_Mo_text]
    exact fO_s hK 0 (if_pos (fun q => g q.1)) (by decide)
  refine step [71, 204] 600 _ _ _ _ _ _ ?_
  simp only [wq_s, wp_s, mq_iconst, mq_bipush, mq_sipush, mq_ldc0, mq_ldc1, mq_ldc_w, mq_lconst, mq_ldc2_w, mq_iload, mq_iload_n, mq_lload, mq_lload_n, mq_aload, mq_aload_n, mq_istore, mq_istore_n, mq_lstore, mq_lstore_n, mq_astore, mq_astore_n, mq_iinc, mq_iadd, mq_isub, mq_imul, mq_iand, mq_ior, mq_ixor, mq_idiv, mq_irem, mq_ineg, mq_ishl, mq_ishr, mq_iushr, mq_ladd, mq_lsub, mq_land, mq_lor, mq_lxor, mq_lshl, mq_lshr, mq_lushr, mq_i2l, mq_l2i, mq_i2b, mq_i2s, mq_lcmp, mq_dupI, mq_dupR, mq_dup2, mq_ifCond, mq_if_icmp, mq_goto, mq_nnN, mq_nnR, mq_get1, mq_get2, mq_get0, mq_get3, mq_put1, mq_put2, mq_put3, mq_put0, mq_iaload, mq_laload, mq_aald, mq_iastore, mq_lastore, mq_aastore, mq_arraylength, mq_newarray, mq_anewarray, mq_new, mq_cpI, mq_cpL, mq_abs, mq_max, mq_min, mq_is0, mq_is1, mq_iv0, mq_iv3, mq_ob, mq_ii0, mq_ii1, mq_tableswitch, mq_lookupswitch, mq_iret, mq_lret, mq_vret, hq_pI, hq_pL, hq_pR, hq_pA0, hq_pA1, hq_lk0, hq_lk1, hq_gI, hq_gIo, hq_gL, hq_gLo, hq_gA, hq_gAo, hq_rf1, hq_rf0, hq_st0_int, hq_st0_ref, hq_st0_long, hq_st1, hq_st2, hq_c0, hq_c_int, hq_c_ref, hq_c_long, hq_cS_eq, hq_cS_ne, hq_cS_lt, hq_cS_ge, hq_cS_gt, hq_cS_le, hq_isO, hq_isA, hq_inS0, hq_inS1, hq_bzI, hq_bzZ, hq_sw0, hq_sw1, hq_cat0, hq_catI, hq_catR, hq_catL, hq_en0, hq_enL, hq_enI, hq_enR, hq_hp, hq_callW, hq_rep0, hq_rep1, hq_tl1, hq_tl0, sh_all, rf_all, Nat.reduceAdd, Nat.reduceSub, Nat.reduceMul, Nat.reduceBEq, ↓reduceIte, Bool.or_false, Bool.or_true, Bool.false_or, Bool.true_or, Bool.false_eq_true, Nat.reduceLT, Nat.reduceLeDiff, Nat.reduceEqDiff, true_or, true_and, and_true, false_or, or_true, eq_self, bI_d0, bI_d1, bI_o, em_1, Classical.not_not, Nat.add_zero, forall_const, not_true_eq_false, false_implies, one_ne0, ne0_one, not_false_eq_true, tb_Mo_text]
  refine ⟨fun g2 => k_Mo_finding _ 0 (by decide) (by decide) ?_, fun g2 => ⟨fun g3 => ?_, fun g3 => k_Mo_finding _ 0 (by decide) (by decide) ?_⟩⟩
  · refine step [71, 204] 600 _ _ _ _ _ _ ?_
    simp only [wq_s, wp_s, mq_iconst, mq_bipush, mq_sipush, mq_ldc0, mq_ldc1, mq_ldc_w, mq_lconst, mq_ldc2_w, mq_iload, mq_iload_n, mq_lload, mq_lload_n, mq_aload, mq_aload_n, mq_istore, mq_istore_n, mq_lstore, mq_lstore_n, mq_astore, mq_astore_n, mq_iinc, mq_iadd, mq_isub, mq_imul, mq_iand, mq_ior, mq_ixor, mq_idiv, mq_irem, mq_ineg, mq_ishl, mq_ishr, mq_iushr, mq_ladd, mq_lsub, mq_land, mq_lor, mq_lxor, mq_lshl, mq_lshr, mq_lushr, mq_i2l, mq_l2i, mq_i2b, mq_i2s, mq_lcmp, mq_dupI, mq_dupR, mq_dup2, mq_ifCond, mq_if_icmp, mq_goto, mq_nnN, mq_nnR, mq_get1, mq_get2, mq_get0, mq_get3, mq_put1, mq_put2, mq_put3, mq_put0, mq_iaload, mq_laload, mq_aald, mq_iastore, mq_lastore, mq_aastore, mq_arraylength, mq_newarray, mq_anewarray, mq_new, mq_cpI, mq_cpL, mq_abs, mq_max, mq_min, mq_is0, mq_is1, mq_iv0, mq_iv3, mq_ob, mq_ii0, mq_ii1, mq_tableswitch, mq_lookupswitch, mq_iret, mq_lret, mq_vret, hq_pI, hq_pL, hq_pR, hq_pA0, hq_pA1, hq_lk0, hq_lk1, hq_gI, hq_gIo, hq_gL, hq_gLo, hq_gA, hq_gAo, hq_rf1, hq_rf0, hq_st0_int, hq_st0_ref, hq_st0_long, hq_st1, hq_st2, hq_c0, hq_c_int, hq_c_ref, hq_c_long, hq_cS_eq, hq_cS_ne, hq_cS_lt, hq_cS_ge, hq_cS_gt, hq_cS_le, hq_isO, hq_isA, hq_inS0, hq_inS1, hq_bzI, hq_bzZ, hq_sw0, hq_sw1, hq_cat0, hq_catI, hq_catR, hq_catL, hq_en0, hq_enL, hq_enI, hq_enR, hq_hp, hq_callW, hq_rep0, hq_rep1, hq_tl1, hq_tl0, sh_all, rf_all, Nat.reduceAdd, Nat.reduceSub, Nat.reduceMul, Nat.reduceBEq, ↓reduceIte, Bool.or_false, Bool.or_true, Bool.false_or, Bool.true_or, Bool.false_eq_true, Nat.reduceLT, Nat.reduceLeDiff, Nat.reduceEqDiff, true_or, true_and, and_true, false_or, or_true, eq_self, bI_d0, bI_d1, bI_o, em_1, Classical.not_not, Nat.add_zero, forall_const, not_true_eq_false, false_implies, one_ne0, ne0_one, not_false_eq_true, tb_Mo_text]
    exact fO_s hK 0 (if_pos (fun q => g2 q.2.1)) (by decide)
  · have p1 : (1596 : Int32).toNatClampNeg = 1596 := rfl
    have p2 : vp_in (1596 : Int32) 1598 := vp_in_nI (n := 1596) (by decide) (by decide)
    rw [p1, hst]
    refine ⟨p2, fun g4 => ?_, fun g4 => k_Mo_finding _ 1 (by decide) (by decide) ?_⟩
    · have ht8 : t < 8 := by
        have : ¬ t = 8 := fun e => g4 (by subst e; rfl)
        omega
      have hK' := fO_n hK (by rw [txO, if_neg (fun q => q ⟨g, g2, g3⟩), if_neg (by omega)])
      clear hK
      -- the copy of what was read
      have p137 : ∀ (J : Nat → Nat → Int32) (q : Nat), q ≤ 5 → mtF I J → J 57 15 = nI q → r0 = (true, q) → (∀ j, j < q → slM J j (pCl s (pP s j)).2) → P 137 [some (.ref 57), some (.int c), some (.int v), none, none, none] [] (J, L, rfx z, nz z) 0 0 := by
        intro J q hq j1 j2 hr j3
        have e58 : J 58 = I 58 := j1.1 58 (by decide) (by decide)
        have eat : (609 : Int32) + 28 * nI t = nI (609 + 28 * t) := by
          show nI 609 + nI 28 * nI t = _
          rw [pk_mul, nI_add]
        refine step [71, 204] 600 _ _ _ _ _ _ ?_
        simp only [wq_s, wp_s, mq_iconst, mq_bipush, mq_sipush, mq_ldc0, mq_ldc1, mq_ldc_w, mq_lconst, mq_ldc2_w, mq_iload, mq_iload_n, mq_lload, mq_lload_n, mq_aload, mq_aload_n, mq_istore, mq_istore_n, mq_lstore, mq_lstore_n, mq_astore, mq_astore_n, mq_iinc, mq_iadd, mq_isub, mq_imul, mq_iand, mq_ior, mq_ixor, mq_idiv, mq_irem, mq_ineg, mq_ishl, mq_ishr, mq_iushr, mq_ladd, mq_lsub, mq_land, mq_lor, mq_lxor, mq_lshl, mq_lshr, mq_lushr, mq_i2l, mq_l2i, mq_i2b, mq_i2s, mq_lcmp, mq_dupI, mq_dupR, mq_dup2, mq_ifCond, mq_if_icmp, mq_goto, mq_nnN, mq_nnR, mq_get1, mq_get2, mq_get0, mq_get3, mq_put1, mq_put2, mq_put3, mq_put0, mq_iaload, mq_laload, mq_aald, mq_iastore, mq_lastore, mq_aastore, mq_arraylength, mq_newarray, mq_anewarray, mq_new, mq_cpI, mq_cpL, mq_abs, mq_max, mq_min, mq_is0, mq_is1, mq_iv0, mq_iv3, mq_ob, mq_ii0, mq_ii1, mq_tableswitch, mq_lookupswitch, mq_iret, mq_lret, mq_vret, hq_pI, hq_pL, hq_pR, hq_pA0, hq_pA1, hq_lk0, hq_lk1, hq_gI, hq_gIo, hq_gL, hq_gLo, hq_gA, hq_gAo, hq_rf1, hq_rf0, hq_st0_int, hq_st0_ref, hq_st0_long, hq_st1, hq_st2, hq_c0, hq_c_int, hq_c_ref, hq_c_long, hq_cS_eq, hq_cS_ne, hq_cS_lt, hq_cS_ge, hq_cS_gt, hq_cS_le, hq_isO, hq_isA, hq_inS0, hq_inS1, hq_bzI, hq_bzZ, hq_sw0, hq_sw1, hq_cat0, hq_catI, hq_catR, hq_catL, hq_en0, hq_enL, hq_enI, hq_enR, hq_hp, hq_callW, hq_rep0, hq_rep1, hq_tl1, hq_tl0, sh_all, rf_all, Nat.reduceAdd, Nat.reduceSub, Nat.reduceMul, Nat.reduceBEq, ↓reduceIte, Bool.or_false, Bool.or_true, Bool.false_or, Bool.true_or, Bool.false_eq_true, Nat.reduceLT, Nat.reduceLeDiff, Nat.reduceEqDiff, true_or, true_and, and_true, false_or, or_true, eq_self, bI_d0, bI_d1, bI_o, em_1, Classical.not_not, Nat.add_zero, forall_const, not_true_eq_false, false_implies, one_ne0, ne0_one, not_false_eq_true, tb_Mo_text]
        simp (disch := decide) only [upI_ne, e58, hst, p1, j2]
        rw [eat]
        simp (disch := omega) only [lit, nI_add, nI_clamp, vp_in_nI, true_and]
        refine loop_up (Q := fun k => ∀ F : Nat → Nat → Int32, (∀ x, x ≠ 58 → F x = J x) → (∀ j, j ≠ 1596 → ¬ (609 + 28 * t ≤ j ∧ j < 609 + 28 * t + 28) → F 58 j = I 58 j) → F 58 1596 = nI (t + 1) → F 58 (609 + 28 * t) = c → F 58 (609 + 28 * t + 1) = v → F 58 (609 + 28 * t + 2) = nI q → (∀ i, i < k → F 58 (609 + 28 * t + 3 + i) = J 65 i) → P 204 [some (.ref 57), some (.int c), some (.int v), some (.int (nI t)), some (.int (nI (609 + 28 * t))), some (.int (nI k))] [] (F, L, rfx z, nz z) 0 0) 25 (fun k hk ih F f1 f2 f3 f4 f5 f6 f7 => ?_) (fun F f1 f2 f3 f4 f5 f6 f7 => ?_) 0 (Nat.zero_le _) _ (fun x hx => ?_) (fun j a1 a2 => ?_) ?_ ?_ ?_ ?_ (fun i hi => absurd hi (Nat.not_lt_zero _))
        · refine step [71, 204] 600 _ _ _ _ _ _ ?_
          simp only [wq_s, wp_s, mq_iconst, mq_bipush, mq_sipush, mq_ldc0, mq_ldc1, mq_ldc_w, mq_lconst, mq_ldc2_w, mq_iload, mq_iload_n, mq_lload, mq_lload_n, mq_aload, mq_aload_n, mq_istore, mq_istore_n, mq_lstore, mq_lstore_n, mq_astore, mq_astore_n, mq_iinc, mq_iadd, mq_isub, mq_imul, mq_iand, mq_ior, mq_ixor, mq_idiv, mq_irem, mq_ineg, mq_ishl, mq_ishr, mq_iushr, mq_ladd, mq_lsub, mq_land, mq_lor, mq_lxor, mq_lshl, mq_lshr, mq_lushr, mq_i2l, mq_l2i, mq_i2b, mq_i2s, mq_lcmp, mq_dupI, mq_dupR, mq_dup2, mq_ifCond, mq_if_icmp, mq_goto, mq_nnN, mq_nnR, mq_get1, mq_get2, mq_get0, mq_get3, mq_put1, mq_put2, mq_put3, mq_put0, mq_iaload, mq_laload, mq_aald, mq_iastore, mq_lastore, mq_aastore, mq_arraylength, mq_newarray, mq_anewarray, mq_new, mq_cpI, mq_cpL, mq_abs, mq_max, mq_min, mq_is0, mq_is1, mq_iv0, mq_iv3, mq_ob, mq_ii0, mq_ii1, mq_tableswitch, mq_lookupswitch, mq_iret, mq_lret, mq_vret, hq_pI, hq_pL, hq_pR, hq_pA0, hq_pA1, hq_lk0, hq_lk1, hq_gI, hq_gIo, hq_gL, hq_gLo, hq_gA, hq_gAo, hq_rf1, hq_rf0, hq_st0_int, hq_st0_ref, hq_st0_long, hq_st1, hq_st2, hq_c0, hq_c_int, hq_c_ref, hq_c_long, hq_cS_eq, hq_cS_ne, hq_cS_lt, hq_cS_ge, hq_cS_gt, hq_cS_le, hq_isO, hq_isA, hq_inS0, hq_inS1, hq_bzI, hq_bzZ, hq_sw0, hq_sw1, hq_cat0, hq_catI, hq_catR, hq_catL, hq_en0, hq_enL, hq_enI, hq_enR, hq_hp, hq_callW, hq_rep0, hq_rep1, hq_tl1, hq_tl0, sh_all, rf_all, Nat.reduceAdd, Nat.reduceSub, Nat.reduceMul, Nat.reduceBEq, ↓reduceIte, Bool.or_false, Bool.or_true, Bool.false_or, Bool.true_or, Bool.false_eq_true, Nat.reduceLT, Nat.reduceLeDiff, Nat.reduceEqDiff, true_or, true_and, and_true, false_or, or_true, eq_self, bI_d0, bI_d1, bI_o, em_1, Classical.not_not, Nat.add_zero, forall_const, not_true_eq_false, false_implies, one_ne0, ne0_one, not_false_eq_true, tb_Mo_text]
          simp (disch := omega) only [lit, nI_add, nI_clamp, vp_in_nI, true_and, f1]
          refine ⟨fun q => absurd ((nI_leI (a := 25) (by omega) (by omega)).mp q) (by omega), fun _ => ih _ (fun x hx => by rw [upI_ne hx]; exact f1 x hx) (fun j a1 a2 => ?_) ?_ ?_ ?_ ?_ (fun i hi => ?_)⟩
          · rw [upI_eq, upd_ne (by omega)]; exact f2 j a1 a2
          · rw [upI_eq, upd_ne (by omega)]; exact f3
          · rw [upI_eq, upd_ne (by omega)]; exact f4
          · rw [upI_eq, upd_ne (by omega)]; exact f5
          · rw [upI_eq, upd_ne (by omega)]; exact f6
          · rw [upI_eq]
            by_cases e : i = k
            · subst e; rw [upd_at' (by omega)]
            · rw [upd_ne (by omega)]; exact f7 i (by omega)
        · refine step [71, 204] 600 _ _ _ _ _ _ ?_
          simp only [wq_s, wp_s, mq_iconst, mq_bipush, mq_sipush, mq_ldc0, mq_ldc1, mq_ldc_w, mq_lconst, mq_ldc2_w, mq_iload, mq_iload_n, mq_lload, mq_lload_n, mq_aload, mq_aload_n, mq_istore, mq_istore_n, mq_lstore, mq_lstore_n, mq_astore, mq_astore_n, mq_iinc, mq_iadd, mq_isub, mq_imul, mq_iand, mq_ior, mq_ixor, mq_idiv, mq_irem, mq_ineg, mq_ishl, mq_ishr, mq_iushr, mq_ladd, mq_lsub, mq_land, mq_lor, mq_lxor, mq_lshl, mq_lshr, mq_lushr, mq_i2l, mq_l2i, mq_i2b, mq_i2s, mq_lcmp, mq_dupI, mq_dupR, mq_dup2, mq_ifCond, mq_if_icmp, mq_goto, mq_nnN, mq_nnR, mq_get1, mq_get2, mq_get0, mq_get3, mq_put1, mq_put2, mq_put3, mq_put0, mq_iaload, mq_laload, mq_aald, mq_iastore, mq_lastore, mq_aastore, mq_arraylength, mq_newarray, mq_anewarray, mq_new, mq_cpI, mq_cpL, mq_abs, mq_max, mq_min, mq_is0, mq_is1, mq_iv0, mq_iv3, mq_ob, mq_ii0, mq_ii1, mq_tableswitch, mq_lookupswitch, mq_iret, mq_lret, mq_vret, hq_pI, hq_pL, hq_pR, hq_pA0, hq_pA1, hq_lk0, hq_lk1, hq_gI, hq_gIo, hq_gL, hq_gLo, hq_gA, hq_gAo, hq_rf1, hq_rf0, hq_st0_int, hq_st0_ref, hq_st0_long, hq_st1, hq_st2, hq_c0, hq_c_int, hq_c_ref, hq_c_long, hq_cS_eq, hq_cS_ne, hq_cS_lt, hq_cS_ge, hq_cS_gt, hq_cS_le, hq_isO, hq_isA, hq_inS0, hq_inS1, hq_bzI, hq_bzZ, hq_sw0, hq_sw1, hq_cat0, hq_catI, hq_catR, hq_catL, hq_en0, hq_enL, hq_enI, hq_enR, hq_hp, hq_callW, hq_rep0, hq_rep1, hq_tl1, hq_tl0, sh_all, rf_all, Nat.reduceAdd, Nat.reduceSub, Nat.reduceMul, Nat.reduceBEq, ↓reduceIte, Bool.or_false, Bool.or_true, Bool.false_or, Bool.true_or, Bool.false_eq_true, Nat.reduceLT, Nat.reduceLeDiff, Nat.reduceEqDiff, true_or, true_and, and_true, false_or, or_true, eq_self, bI_d0, bI_d1, bI_o, em_1, Classical.not_not, Nat.add_zero, forall_const, not_true_eq_false, false_implies, one_ne0, ne0_one, not_false_eq_true, tb_Mo_text]
          refine ⟨fun _ => hK'.1 _ q hr ⟨fun x a1 a2 a3 => ?_, fun j a1 a2 a3 a4 => ?_, ?_, fun j a1 a2 => ?_, ?_, ?_, ?_, ?_⟩ (fun j hj => ?_), fun q => absurd (Int32.le_refl _) q⟩
          · rw [upI_ne a1, f1 x a2]; exact j1.1 x a1 a3
          · rw [upI_eq, upd_ne a1, f1 57 (by decide)]; exact j1.2 j a2 a3 a4
          · rw [upI_eq, upd_at]
          · rw [upI_ne (by decide)]; exact f2 j a1 a2
          · rw [upI_ne (by decide)]; exact f3
          · rw [upI_ne (by decide)]; exact f4
          · rw [upI_ne (by decide)]; exact f5
          · rw [upI_ne (by decide)]; exact f6
          · intro k x y f l e
            obtain ⟨q1, q2, q3, q4, q5⟩ := j3 j hj k x y f l e
            rw [upI_ne (by decide)]
            refine ⟨(f7 (5 * j) (by omega)).trans q1, ?_, ?_, ?_, ?_⟩
            · rw [show 609 + 28 * t + 3 + 5 * j + 1 = 609 + 28 * t + 3 + (5 * j + 1) by omega]; exact (f7 (5 * j + 1) (by omega)).trans q2
            · rw [show 609 + 28 * t + 3 + 5 * j + 2 = 609 + 28 * t + 3 + (5 * j + 2) by omega]; exact (f7 (5 * j + 2) (by omega)).trans q3
            · rw [show 609 + 28 * t + 3 + 5 * j + 3 = 609 + 28 * t + 3 + (5 * j + 3) by omega]; exact (f7 (5 * j + 3) (by omega)).trans q4
            · rw [show 609 + 28 * t + 3 + 5 * j + 4 = 609 + 28 * t + 3 + (5 * j + 4) by omega]; exact (f7 (5 * j + 4) (by omega)).trans q5
        · rw [upI_ne hx, upI_ne hx, upI_ne hx, upI_ne hx]
        · rw [upI_eq, upd_ne (by omega), upI_eq, upd_ne (by omega), upI_eq, upd_ne (by omega), upI_eq, upd_ne a1, e58]
        · rw [upI_eq, upd_ne (by omega), upI_eq, upd_ne (by omega), upI_eq, upd_ne (by omega), upI_eq, upd_at]
        · rw [upI_eq, upd_ne (by omega), upI_eq, upd_ne (by omega), upI_eq, upd_at' (by omega)]
        · rw [upI_eq, upd_ne (by omega), upI_eq, upd_at]
        · rw [upI_eq, upd_at]
      -- a text with a fault
      have p130 : ∀ (J : Nat → Nat → Int32) (f : Nat), mtF I J → J 57 12 = nI f → r0 = (false, f) → P 130 [some (.ref 57), some (.int c), some (.int v), none, none, none] [] (J, L, rfx z, nz z) 0 0 := by
        intro J f j1 j2 hr
        refine step [71, 204] 600 _ _ _ _ _ _ ?_
        simp only [wq_s, wp_s, mq_iconst, mq_bipush, mq_sipush, mq_ldc0, mq_ldc1, mq_ldc_w, mq_lconst, mq_ldc2_w, mq_iload, mq_iload_n, mq_lload, mq_lload_n, mq_aload, mq_aload_n, mq_istore, mq_istore_n, mq_lstore, mq_lstore_n, mq_astore, mq_astore_n, mq_iinc, mq_iadd, mq_isub, mq_imul, mq_iand, mq_ior, mq_ixor, mq_idiv, mq_irem, mq_ineg, mq_ishl, mq_ishr, mq_iushr, mq_ladd, mq_lsub, mq_land, mq_lor, mq_lxor, mq_lshl, mq_lshr, mq_lushr, mq_i2l, mq_l2i, mq_i2b, mq_i2s, mq_lcmp, mq_dupI, mq_dupR, mq_dup2, mq_ifCond, mq_if_icmp, mq_goto, mq_nnN, mq_nnR, mq_get1, mq_get2, mq_get0, mq_get3, mq_put1, mq_put2, mq_put3, mq_put0, mq_iaload, mq_laload, mq_aald, mq_iastore, mq_lastore, mq_aastore, mq_arraylength, mq_newarray, mq_anewarray, mq_new, mq_cpI, mq_cpL, mq_abs, mq_max, mq_min, mq_is0, mq_is1, mq_iv0, mq_iv3, mq_ob, mq_ii0, mq_ii1, mq_tableswitch, mq_lookupswitch, mq_iret, mq_lret, mq_vret, hq_pI, hq_pL, hq_pR, hq_pA0, hq_pA1, hq_lk0, hq_lk1, hq_gI, hq_gIo, hq_gL, hq_gLo, hq_gA, hq_gAo, hq_rf1, hq_rf0, hq_st0_int, hq_st0_ref, hq_st0_long, hq_st1, hq_st2, hq_c0, hq_c_int, hq_c_ref, hq_c_long, hq_cS_eq, hq_cS_ne, hq_cS_lt, hq_cS_ge, hq_cS_gt, hq_cS_le, hq_isO, hq_isA, hq_inS0, hq_inS1, hq_bzI, hq_bzZ, hq_sw0, hq_sw1, hq_cat0, hq_catI, hq_catR, hq_catL, hq_en0, hq_enL, hq_enI, hq_enR, hq_hp, hq_callW, hq_rep0, hq_rep1, hq_tl1, hq_tl0, sh_all, rf_all, Nat.reduceAdd, Nat.reduceSub, Nat.reduceMul, Nat.reduceBEq, ↓reduceIte, Bool.or_false, Bool.or_true, Bool.false_or, Bool.true_or, Bool.false_eq_true, Nat.reduceLT, Nat.reduceLeDiff, Nat.reduceEqDiff, true_or, true_and, and_true, false_or, or_true, eq_self, bI_d0, bI_d1, bI_o, em_1, Classical.not_not, Nat.add_zero, forall_const, not_true_eq_false, false_implies, one_ne0, ne0_one, not_false_eq_true, tb_Mo_text]
        rw [j2]
        exact hK'.2 J f hr j1
      have key : ∀ cc, cc ≤ 4 → ∀ J : Nat → Nat → Int32, mtF I J → J 57 15 = nI (cc + 1) → J 57 12 = nI (pCl s (pP s cc)).1 → J 57 13 = bI (pCl s (pP s cc)).2.isNone → pP s cc ≤ n → (∀ j, j < cc + 1 → slM J j (pCl s (pP s j)).2) → pRun s n (5 - cc) cc = r0 → P 71 [some (.ref 57), some (.int c), some (.int v), none, none, none] [] (J, L, rfx z, nz z) 0 0 := by
        have body : ∀ cc, cc ≤ 4 → (cc < 4 → ∀ J : Nat → Nat → Int32, mtF I J → J 57 15 = nI (cc + 1 + 1) → J 57 12 = nI (pCl s (pP s (cc + 1))).1 → J 57 13 = bI (pCl s (pP s (cc + 1))).2.isNone → pP s (cc + 1) ≤ n → (∀ j, j < cc + 1 + 1 → slM J j (pCl s (pP s j)).2) → pRun s n (5 - (cc + 1)) (cc + 1) = r0 → P 71 [some (.ref 57), some (.int c), some (.int v), none, none, none] [] (J, L, rfx z, nz z) 0 0) → ∀ J : Nat → Nat → Int32, mtF I J → J 57 15 = nI (cc + 1) → J 57 12 = nI (pCl s (pP s cc)).1 → J 57 13 = bI (pCl s (pP s cc)).2.isNone → pP s cc ≤ n → (∀ j, j < cc + 1 → slM J j (pCl s (pP s j)).2) → pRun s n (5 - cc) cc = r0 → P 71 [some (.ref 57), some (.int c), some (.int v), none, none, none] [] (J, L, rfx z, nz z) 0 0 := by
          intro cc hcc ih J j1 j15 j12 j13 hle j6 hr
          have hle2 := pCl_le h.2.1 hle
          have mJ := moS_mt h j1
          rw [show 5 - cc = (5 - (cc + 1)) + 1 by omega] at hr
          simp only [pRun] at hr
          cases ho : (pCl s (pP s cc)).2 with
          | none =>
            rw [ho] at hr j13
            simp only [Option.isSome_none, Bool.false_eq_true, if_false] at hr
            refine step [71, 130, 204] 600 _ _ _ _ _ _ ?_
            simp only [wq_s, wp_s, mq_iconst, mq_bipush, mq_sipush, mq_ldc0, mq_ldc1, mq_ldc_w, mq_lconst, mq_ldc2_w, mq_iload, mq_iload_n, mq_lload, mq_lload_n, mq_aload, mq_aload_n, mq_istore, mq_istore_n, mq_lstore, mq_lstore_n, mq_astore, mq_astore_n, mq_iinc, mq_iadd, mq_isub, mq_imul, mq_iand, mq_ior, mq_ixor, mq_idiv, mq_irem, mq_ineg, mq_ishl, mq_ishr, mq_iushr, mq_ladd, mq_lsub, mq_land, mq_lor, mq_lxor, mq_lshl, mq_lshr, mq_lushr, mq_i2l, mq_l2i, mq_i2b, mq_i2s, mq_lcmp, mq_dupI, mq_dupR, mq_dup2, mq_ifCond, mq_if_icmp, mq_goto, mq_nnN, mq_nnR, mq_get1, mq_get2, mq_get0, mq_get3, mq_put1, mq_put2, mq_put3, mq_put0, mq_iaload, mq_laload, mq_aald, mq_iastore, mq_lastore, mq_aastore, mq_arraylength, mq_newarray, mq_anewarray, mq_new, mq_cpI, mq_cpL, mq_abs, mq_max, mq_min, mq_is0, mq_is1, mq_iv0, mq_iv3, mq_ob, mq_ii0, mq_ii1, mq_tableswitch, mq_lookupswitch, mq_iret, mq_lret, mq_vret, hq_pI, hq_pL, hq_pR, hq_pA0, hq_pA1, hq_lk0, hq_lk1, hq_gI, hq_gIo, hq_gL, hq_gLo, hq_gA, hq_gAo, hq_rf1, hq_rf0, hq_st0_int, hq_st0_ref, hq_st0_long, hq_st1, hq_st2, hq_c0, hq_c_int, hq_c_ref, hq_c_long, hq_cS_eq, hq_cS_ne, hq_cS_lt, hq_cS_ge, hq_cS_gt, hq_cS_le, hq_isO, hq_isA, hq_inS0, hq_inS1, hq_bzI, hq_bzZ, hq_sw0, hq_sw1, hq_cat0, hq_catI, hq_catR, hq_catL, hq_en0, hq_enL, hq_enI, hq_enR, hq_hp, hq_callW, hq_rep0, hq_rep1, hq_tl1, hq_tl0, sh_all, rf_all, Nat.reduceAdd, Nat.reduceSub, Nat.reduceMul, Nat.reduceBEq, ↓reduceIte, Bool.or_false, Bool.or_true, Bool.false_or, Bool.true_or, Bool.false_eq_true, Nat.reduceLT, Nat.reduceLeDiff, Nat.reduceEqDiff, true_or, true_and, and_true, false_or, or_true, eq_self, bI_d0, bI_d1, bI_o, em_1, Classical.not_not, Nat.add_zero, forall_const, not_true_eq_false, false_implies, one_ne0, ne0_one, not_false_eq_true, tb_Mo_text]
            rw [j13]
            exact ⟨fun _ => ⟨fun _ => p130 J _ j1 j12 hr.symm, fun q => absurd q (show ¬ bI true = 0 by decide)⟩, fun q => absurd q (show ¬ bI true = 0 by decide)⟩
          | some val =>
            rw [ho] at hr j13
            simp only [Option.isSome_some, if_true] at hr
            refine step [71, 112, 204] 600 _ _ _ _ _ _ ?_
            simp only [wq_s, wp_s, mq_iconst, mq_bipush, mq_sipush, mq_ldc0, mq_ldc1, mq_ldc_w, mq_lconst, mq_ldc2_w, mq_iload, mq_iload_n, mq_lload, mq_lload_n, mq_aload, mq_aload_n, mq_istore, mq_istore_n, mq_lstore, mq_lstore_n, mq_astore, mq_astore_n, mq_iinc, mq_iadd, mq_isub, mq_imul, mq_iand, mq_ior, mq_ixor, mq_idiv, mq_irem, mq_ineg, mq_ishl, mq_ishr, mq_iushr, mq_ladd, mq_lsub, mq_land, mq_lor, mq_lxor, mq_lshl, mq_lshr, mq_lushr, mq_i2l, mq_l2i, mq_i2b, mq_i2s, mq_lcmp, mq_dupI, mq_dupR, mq_dup2, mq_ifCond, mq_if_icmp, mq_goto, mq_nnN, mq_nnR, mq_get1, mq_get2, mq_get0, mq_get3, mq_put1, mq_put2, mq_put3, mq_put0, mq_iaload, mq_laload, mq_aald, mq_iastore, mq_lastore, mq_aastore, mq_arraylength, mq_newarray, mq_anewarray, mq_new, mq_cpI, mq_cpL, mq_abs, mq_max, mq_min, mq_is0, mq_is1, mq_iv0, mq_iv3, mq_ob, mq_ii0, mq_ii1, mq_tableswitch, mq_lookupswitch, mq_iret, mq_lret, mq_vret, hq_pI, hq_pL, hq_pR, hq_pA0, hq_pA1, hq_lk0, hq_lk1, hq_gI, hq_gIo, hq_gL, hq_gLo, hq_gA, hq_gAo, hq_rf1, hq_rf0, hq_st0_int, hq_st0_ref, hq_st0_long, hq_st1, hq_st2, hq_c0, hq_c_int, hq_c_ref, hq_c_long, hq_cS_eq, hq_cS_ne, hq_cS_lt, hq_cS_ge, hq_cS_gt, hq_cS_le, hq_isO, hq_isA, hq_inS0, hq_inS1, hq_bzI, hq_bzZ, hq_sw0, hq_sw1, hq_cat0, hq_catI, hq_catR, hq_catL, hq_en0, hq_enL, hq_enI, hq_enR, hq_hp, hq_callW, hq_rep0, hq_rep1, hq_tl1, hq_tl0, sh_all, rf_all, Nat.reduceAdd, Nat.reduceSub, Nat.reduceMul, Nat.reduceBEq, ↓reduceIte, Bool.or_false, Bool.or_true, Bool.false_or, Bool.true_or, Bool.false_eq_true, Nat.reduceLT, Nat.reduceLeDiff, Nat.reduceEqDiff, true_or, true_and, and_true, false_or, or_true, eq_self, bI_d0, bI_d1, bI_o, em_1, Classical.not_not, Nat.add_zero, forall_const, not_true_eq_false, false_implies, one_ne0, ne0_one, not_false_eq_true, tb_Mo_text]
            rw [j13]
            refine ⟨fun q => absurd rfl q, fun _ => k_Mo_nowS _ mJ j12 hle2 ?_⟩
            have p112 : (pCl s (pP s cc)).1 = n ∨ r0 = (false, (pCl s (pP s cc)).1) → P 112 [some (.ref 57), some (.int c), some (.int v), none, none, none] [] (J, L, rfx z, nz z) 0 0 := by
              intro hcase
              refine step [71, 130, 137, 204] 600 _ _ _ _ _ _ ?_
              simp only [wq_s, wp_s, mq_iconst, mq_bipush, mq_sipush, mq_ldc0, mq_ldc1, mq_ldc_w, mq_lconst, mq_ldc2_w, mq_iload, mq_iload_n, mq_lload, mq_lload_n, mq_aload, mq_aload_n, mq_istore, mq_istore_n, mq_lstore, mq_lstore_n, mq_astore, mq_astore_n, mq_iinc, mq_iadd, mq_isub, mq_imul, mq_iand, mq_ior, mq_ixor, mq_idiv, mq_irem, mq_ineg, mq_ishl, mq_ishr, mq_iushr, mq_ladd, mq_lsub, mq_land, mq_lor, mq_lxor, mq_lshl, mq_lshr, mq_lushr, mq_i2l, mq_l2i, mq_i2b, mq_i2s, mq_lcmp, mq_dupI, mq_dupR, mq_dup2, mq_ifCond, mq_if_icmp, mq_goto, mq_nnN, mq_nnR, mq_get1, mq_get2, mq_get0, mq_get3, mq_put1, mq_put2, mq_put3, mq_put0, mq_iaload, mq_laload, mq_aald, mq_iastore, mq_lastore, mq_aastore, mq_arraylength, mq_newarray, mq_anewarray, mq_new, mq_cpI, mq_cpL, mq_abs, mq_max, mq_min, mq_is0, mq_is1, mq_iv0, mq_iv3, mq_ob, mq_ii0, mq_ii1, mq_tableswitch, mq_lookupswitch, mq_iret, mq_lret, mq_vret, hq_pI, hq_pL, hq_pR, hq_pA0, hq_pA1, hq_lk0, hq_lk1, hq_gI, hq_gIo, hq_gL, hq_gLo, hq_gA, hq_gAo, hq_rf1, hq_rf0, hq_st0_int, hq_st0_ref, hq_st0_long, hq_st1, hq_st2, hq_c0, hq_c_int, hq_c_ref, hq_c_long, hq_cS_eq, hq_cS_ne, hq_cS_lt, hq_cS_ge, hq_cS_gt, hq_cS_le, hq_isO, hq_isA, hq_inS0, hq_inS1, hq_bzI, hq_bzZ, hq_sw0, hq_sw1, hq_cat0, hq_catI, hq_catR, hq_catL, hq_en0, hq_enL, hq_enI, hq_enR, hq_hp, hq_callW, hq_rep0, hq_rep1, hq_tl1, hq_tl0, sh_all, rf_all, Nat.reduceAdd, Nat.reduceSub, Nat.reduceMul, Nat.reduceBEq, ↓reduceIte, Bool.or_false, Bool.or_true, Bool.false_or, Bool.true_or, Bool.false_eq_true, Nat.reduceLT, Nat.reduceLeDiff, Nat.reduceEqDiff, true_or, true_and, and_true, false_or, or_true, eq_self, bI_d0, bI_d1, bI_o, em_1, Classical.not_not, Nat.add_zero, forall_const, not_true_eq_false, false_implies, one_ne0, ne0_one, not_false_eq_true, tb_Mo_text]
              rw [j13, j12, mJ.1]
              refine ⟨fun q => absurd rfl q, fun _ => ⟨fun q => ?_, fun q => ?_⟩⟩
              · have e : (pCl s (pP s cc)).1 = n := by have := (nI_leI (by omega) (by omega)).mp q; omega
                rw [if_pos e] at hr
                exact p137 J (cc + 1) (by omega) j1 j15 hr.symm j6
              · rcases hcase with e | e
                · exact absurd (by rw [e]; exact Int32.le_refl _) q
                · exact p130 J _ j1 j12 e
            refine step [71, 112, 204] 600 _ _ _ _ _ _ ?_
            simp only [wq_s, wp_s, mq_iconst, mq_bipush, mq_sipush, mq_ldc0, mq_ldc1, mq_ldc_w, mq_lconst, mq_ldc2_w, mq_iload, mq_iload_n, mq_lload, mq_lload_n, mq_aload, mq_aload_n, mq_istore, mq_istore_n, mq_lstore, mq_lstore_n, mq_astore, mq_astore_n, mq_iinc, mq_iadd, mq_isub, mq_imul, mq_iand, mq_ior, mq_ixor, mq_idiv, mq_irem, mq_ineg, mq_ishl, mq_ishr, mq_iushr, mq_ladd, mq_lsub, mq_land, mq_lor, mq_lxor, mq_lshl, mq_lshr, mq_lushr, mq_i2l, mq_l2i, mq_i2b, mq_i2s, mq_lcmp, mq_dupI, mq_dupR, mq_dup2, mq_ifCond, mq_if_icmp, mq_goto, mq_nnN, mq_nnR, mq_get1, mq_get2, mq_get0, mq_get3, mq_put1, mq_put2, mq_put3, mq_put0, mq_iaload, mq_laload, mq_aald, mq_iastore, mq_lastore, mq_aastore, mq_arraylength, mq_newarray, mq_anewarray, mq_new, mq_cpI, mq_cpL, mq_abs, mq_max, mq_min, mq_is0, mq_is1, mq_iv0, mq_iv3, mq_ob, mq_ii0, mq_ii1, mq_tableswitch, mq_lookupswitch, mq_iret, mq_lret, mq_vret, hq_pI, hq_pL, hq_pR, hq_pA0, hq_pA1, hq_lk0, hq_lk1, hq_gI, hq_gIo, hq_gL, hq_gLo, hq_gA, hq_gAo, hq_rf1, hq_rf0, hq_st0_int, hq_st0_ref, hq_st0_long, hq_st1, hq_st2, hq_c0, hq_c_int, hq_c_ref, hq_c_long, hq_cS_eq, hq_cS_ne, hq_cS_lt, hq_cS_ge, hq_cS_gt, hq_cS_le, hq_isO, hq_isA, hq_inS0, hq_inS1, hq_bzI, hq_bzZ, hq_sw0, hq_sw1, hq_cat0, hq_catI, hq_catR, hq_catL, hq_en0, hq_enL, hq_enI, hq_enR, hq_hp, hq_callW, hq_rep0, hq_rep1, hq_tl1, hq_tl0, sh_all, rf_all, Nat.reduceAdd, Nat.reduceSub, Nat.reduceMul, Nat.reduceBEq, ↓reduceIte, Bool.or_false, Bool.or_true, Bool.false_or, Bool.true_or, Bool.false_eq_true, Nat.reduceLT, Nat.reduceLeDiff, Nat.reduceEqDiff, true_or, true_and, and_true, false_or, or_true, eq_self, bI_d0, bI_d1, bI_o, em_1, Classical.not_not, Nat.add_zero, forall_const, not_true_eq_false, false_implies, one_ne0, ne0_one, not_false_eq_true, tb_Mo_text]
            rw [j15]
            refine ⟨fun e => ?_, fun e => ⟨fun q => ?_, fun q => ?_⟩⟩
            · refine p112 ?_
              by_cases eb : (pCl s (pP s cc)).1 = n
              · exact Or.inl eb
              · rw [if_neg eb, if_neg (fun w => e w.1)] at hr
                exact Or.inr hr.symm
            · refine p112 ?_
              have c4 : cc = 4 := by have := (nI_leI (a := 5) (by omega) (by omega)).mp q; omega
              by_cases eb : (pCl s (pP s cc)).1 = n
              · exact Or.inl eb
              · rw [if_neg eb, if_neg (fun w => w.2 (by omega))] at hr
                exact Or.inr hr.symm
            · have c4 : cc < 4 := by
                have : ¬ 5 ≤ cc + 1 := fun w => q ((nI_leI (a := 5) (by omega) (by omega)).mpr w)
                omega
              have hlt : (pCl s (pP s cc)).1 < n := sOk_lt h.2.1 (by rw [e]; decide)
              rw [if_neg (by omega), if_pos ⟨e, by omega⟩] at hr
              have e12 : (upI J 57 12 (J 57 12 + 1)) 57 12 = nI (pP s (cc + 1)) := by rw [upI_eq, upd_at, j12, nI_1]; rfl
              have jt : mtF I (upI J 57 12 (J 57 12 + 1)) := ⟨fun x a1 a2 => by rw [upI_ne a1]; exact j1.1 x a1 a2, fun j a1 a2 a3 => by rw [upI_eq, upd_ne a1]; exact j1.2 j a1 a2 a3⟩
              have hp1 : pP s (cc + 1) ≤ n := by simp only [pP]; omega
              refine k_Mo_readClause (pP s (cc + 1)) (cc + 1) (by omega) (moS_mt h jt) (by rw [upI_eq, upd_ne (by decide)]; exact j15) e12 (by rw [upI_eq, upd_ne (by decide)]; exact j13) hp1 (fun G g1 g2 g3 g4 g5 => ?_)
              refine step [71, 204] 600 _ _ _ _ _ _ ?_
              simp only [wq_s, wp_s, mq_iconst, mq_bipush, mq_sipush, mq_ldc0, mq_ldc1, mq_ldc_w, mq_lconst, mq_ldc2_w, mq_iload, mq_iload_n, mq_lload, mq_lload_n, mq_aload, mq_aload_n, mq_istore, mq_istore_n, mq_lstore, mq_lstore_n, mq_astore, mq_astore_n, mq_iinc, mq_iadd, mq_isub, mq_imul, mq_iand, mq_ior, mq_ixor, mq_idiv, mq_irem, mq_ineg, mq_ishl, mq_ishr, mq_iushr, mq_ladd, mq_lsub, mq_land, mq_lor, mq_lxor, mq_lshl, mq_lshr, mq_lushr, mq_i2l, mq_l2i, mq_i2b, mq_i2s, mq_lcmp, mq_dupI, mq_dupR, mq_dup2, mq_ifCond, mq_if_icmp, mq_goto, mq_nnN, mq_nnR, mq_get1, mq_get2, mq_get0, mq_get3, mq_put1, mq_put2, mq_put3, mq_put0, mq_iaload, mq_laload, mq_aald, mq_iastore, mq_lastore, mq_aastore, mq_arraylength, mq_newarray, mq_anewarray, mq_new, mq_cpI, mq_cpL, mq_abs, mq_max, mq_min, mq_is0, mq_is1, mq_iv0, mq_iv3, mq_ob, mq_ii0, mq_ii1, mq_tableswitch, mq_lookupswitch, mq_iret, mq_lret, mq_vret, hq_pI, hq_pL, hq_pR, hq_pA0, hq_pA1, hq_lk0, hq_lk1, hq_gI, hq_gIo, hq_gL, hq_gLo, hq_gA, hq_gAo, hq_rf1, hq_rf0, hq_st0_int, hq_st0_ref, hq_st0_long, hq_st1, hq_st2, hq_c0, hq_c_int, hq_c_ref, hq_c_long, hq_cS_eq, hq_cS_ne, hq_cS_lt, hq_cS_ge, hq_cS_gt, hq_cS_le, hq_isO, hq_isA, hq_inS0, hq_inS1, hq_bzI, hq_bzZ, hq_sw0, hq_sw1, hq_cat0, hq_catI, hq_catR, hq_catL, hq_en0, hq_enL, hq_enI, hq_enR, hq_hp, hq_callW, hq_rep0, hq_rep1, hq_tl1, hq_tl0, sh_all, rf_all, Nat.reduceAdd, Nat.reduceSub, Nat.reduceMul, Nat.reduceBEq, ↓reduceIte, Bool.or_false, Bool.or_true, Bool.false_or, Bool.true_or, Bool.false_eq_true, Nat.reduceLT, Nat.reduceLeDiff, Nat.reduceEqDiff, true_or, true_and, and_true, false_or, or_true, eq_self, bI_d0, bI_d1, bI_o, em_1, Classical.not_not, Nat.add_zero, forall_const, not_true_eq_false, false_implies, one_ne0, ne0_one, not_false_eq_true, tb_Mo_text]
              refine ih c4 G ⟨fun x a1 a2 => (g1.1 x a1 a2).trans (jt.1 x a1 a2), fun j a1 a2 a3 => (g1.2.1 j a1 a2 a3).trans (jt.2 j a1 a2 a3)⟩ g2 g3 g4 hp1 (fun j hj => ?_) hr
              by_cases ej : j = cc + 1
              · subst ej; exact g5
              · intro k x y f l q
                have e65 : ∀ i, i < 5 * (cc + 1) → G 65 i = J 65 i := fun i hi => by rw [g1.2.2 i hi, upI_ne (by decide)]
                rw [e65 (5 * j) (by omega), e65 (5 * j + 1) (by omega), e65 (5 * j + 2) (by omega), e65 (5 * j + 3) (by omega), e65 (5 * j + 4) (by omega)]
                exact j6 j (by omega) k x y f l q
        intro cc hcc
        obtain ⟨d, rfl⟩ : ∃ d, cc = 4 - d := ⟨4 - cc, by omega⟩
        clear hcc
        induction d with
        | zero => exact body 4 (by omega) (fun q => absurd q (by omega))
        | succ d ih =>
          by_cases hd : d < 4
          · refine body (4 - (d + 1)) (by omega) (fun _ => ?_)
            have e : 4 - (d + 1) + 1 = 4 - d := by omega
            rw [e]
            exact ih
          · rw [show 4 - (d + 1) = 4 - d by omega]; exact ih
      have e13 : (upI (upI (upI I 57 12 0) 57 13 0) 57 15 0) 57 13 = bI false := by rw [upI_eq, upd_ne (by decide), upI_eq, upd_at]; rfl
      have e12 : (upI (upI (upI I 57 12 0) 57 13 0) 57 15 0) 57 12 = nI 0 := by rw [upI_eq, upd_ne (by decide), upI_eq, upd_ne (by decide), upI_eq, upd_at]; rfl
      have e15 : (upI (upI (upI I 57 12 0) 57 13 0) 57 15 0) 57 15 = nI 0 := by rw [upI_eq, upd_at]; rfl
      have jt : mtF I (upI (upI (upI I 57 12 0) 57 13 0) 57 15 0) := ⟨fun x a1 a2 => by rw [upI_ne a1, upI_ne a1, upI_ne a1], fun j a1 a2 a3 => by rw [upI_eq, upd_ne a3, upI_eq, upd_ne a2, upI_eq, upd_ne a1]⟩
      refine k_Mo_readClause 0 0 (by decide) (moS_mt h jt) e15 e12 e13 (Nat.zero_le _) (fun G g1 g2 g3 g4 g5 => ?_)
      refine key 0 (by decide) G ⟨fun x a1 a2 => (g1.1 x a1 a2).trans (jt.1 x a1 a2), fun j a1 a2 a3 => (g1.2.1 j a1 a2 a3).trans (jt.2 j a1 a2 a3)⟩ g2 g3 g4 (Nat.zero_le _) (fun j hj => ?_) hR
      have : j = 0 := by omega
      subst this
      exact g5
    · refine step [71, 204] 600 _ _ _ _ _ _ ?_
      simp only [wq_s, wp_s, mq_iconst, mq_bipush, mq_sipush, mq_ldc0, mq_ldc1, mq_ldc_w, mq_lconst, mq_ldc2_w, mq_iload, mq_iload_n, mq_lload, mq_lload_n, mq_aload, mq_aload_n, mq_istore, mq_istore_n, mq_lstore, mq_lstore_n, mq_astore, mq_astore_n, mq_iinc, mq_iadd, mq_isub, mq_imul, mq_iand, mq_ior, mq_ixor, mq_idiv, mq_irem, mq_ineg, mq_ishl, mq_ishr, mq_iushr, mq_ladd, mq_lsub, mq_land, mq_lor, mq_lxor, mq_lshl, mq_lshr, mq_lushr, mq_i2l, mq_l2i, mq_i2b, mq_i2s, mq_lcmp, mq_dupI, mq_dupR, mq_dup2, mq_ifCond, mq_if_icmp, mq_goto, mq_nnN, mq_nnR, mq_get1, mq_get2, mq_get0, mq_get3, mq_put1, mq_put2, mq_put3, mq_put0, mq_iaload, mq_laload, mq_aald, mq_iastore, mq_lastore, mq_aastore, mq_arraylength, mq_newarray, mq_anewarray, mq_new, mq_cpI, mq_cpL, mq_abs, mq_max, mq_min, mq_is0, mq_is1, mq_iv0, mq_iv3, mq_ob, mq_ii0, mq_ii1, mq_tableswitch, mq_lookupswitch, mq_iret, mq_lret, mq_vret, hq_pI, hq_pL, hq_pR, hq_pA0, hq_pA1, hq_lk0, hq_lk1, hq_gI, hq_gIo, hq_gL, hq_gLo, hq_gA, hq_gAo, hq_rf1, hq_rf0, hq_st0_int, hq_st0_ref, hq_st0_long, hq_st1, hq_st2, hq_c0, hq_c_int, hq_c_ref, hq_c_long, hq_cS_eq, hq_cS_ne, hq_cS_lt, hq_cS_ge, hq_cS_gt, hq_cS_le, hq_isO, hq_isA, hq_inS0, hq_inS1, hq_bzI, hq_bzZ, hq_sw0, hq_sw1, hq_cat0, hq_catI, hq_catR, hq_catL, hq_en0, hq_enL, hq_enI, hq_enR, hq_hp, hq_callW, hq_rep0, hq_rep1, hq_tl1, hq_tl0, sh_all, rf_all, Nat.reduceAdd, Nat.reduceSub, Nat.reduceMul, Nat.reduceBEq, ↓reduceIte, Bool.or_false, Bool.or_true, Bool.false_or, Bool.true_or, Bool.false_eq_true, Nat.reduceLT, Nat.reduceLeDiff, Nat.reduceEqDiff, true_or, true_and, and_true, false_or, or_true, eq_self, bI_d0, bI_d1, bI_o, em_1, Classical.not_not, Nat.add_zero, forall_const, not_true_eq_false, false_implies, one_ne0, ne0_one, not_false_eq_true, tb_Mo_text]
      have : t = 8 := nI_inj (by omega) (by omega) (b := 8) g4
      exact fO_s hK 1 (by rw [txO, if_neg (fun q => q ⟨g, g2, g3⟩), if_pos (by omega)]) (by decide)
  · refine step [71, 204] 600 _ _ _ _ _ _ ?_
    simp only [wq_s, wp_s, mq_iconst, mq_bipush, mq_sipush, mq_ldc0, mq_ldc1, mq_ldc_w, mq_lconst, mq_ldc2_w, mq_iload, mq_iload_n, mq_lload, mq_lload_n, mq_aload, mq_aload_n, mq_istore, mq_istore_n, mq_lstore, mq_lstore_n, mq_astore, mq_astore_n, mq_iinc, mq_iadd, mq_isub, mq_imul, mq_iand, mq_ior, mq_ixor, mq_idiv, mq_irem, mq_ineg, mq_ishl, mq_ishr, mq_iushr, mq_ladd, mq_lsub, mq_land, mq_lor, mq_lxor, mq_lshl, mq_lshr, mq_lushr, mq_i2l, mq_l2i, mq_i2b, mq_i2s, mq_lcmp, mq_dupI, mq_dupR, mq_dup2, mq_ifCond, mq_if_icmp, mq_goto, mq_nnN, mq_nnR, mq_get1, mq_get2, mq_get0, mq_get3, mq_put1, mq_put2, mq_put3, mq_put0, mq_iaload, mq_laload, mq_aald, mq_iastore, mq_lastore, mq_aastore, mq_arraylength, mq_newarray, mq_anewarray, mq_new, mq_cpI, mq_cpL, mq_abs, mq_max, mq_min, mq_is0, mq_is1, mq_iv0, mq_iv3, mq_ob, mq_ii0, mq_ii1, mq_tableswitch, mq_lookupswitch, mq_iret, mq_lret, mq_vret, hq_pI, hq_pL, hq_pR, hq_pA0, hq_pA1, hq_lk0, hq_lk1, hq_gI, hq_gIo, hq_gL, hq_gLo, hq_gA, hq_gAo, hq_rf1, hq_rf0, hq_st0_int, hq_st0_ref, hq_st0_long, hq_st1, hq_st2, hq_c0, hq_c_int, hq_c_ref, hq_c_long, hq_cS_eq, hq_cS_ne, hq_cS_lt, hq_cS_ge, hq_cS_gt, hq_cS_le, hq_isO, hq_isA, hq_inS0, hq_inS1, hq_bzI, hq_bzZ, hq_sw0, hq_sw1, hq_cat0, hq_catI, hq_catR, hq_catL, hq_en0, hq_enL, hq_enI, hq_enR, hq_hp, hq_callW, hq_rep0, hq_rep1, hq_tl1, hq_tl0, sh_all, rf_all, Nat.reduceAdd, Nat.reduceSub, Nat.reduceMul, Nat.reduceBEq, ↓reduceIte, Bool.or_false, Bool.or_true, Bool.false_or, Bool.true_or, Bool.false_eq_true, Nat.reduceLT, Nat.reduceLeDiff, Nat.reduceEqDiff, true_or, true_and, and_true, false_or, or_true, eq_self, bI_d0, bI_d1, bI_o, em_1, Classical.not_not, Nat.add_zero, forall_const, not_true_eq_false, false_implies, one_ne0, ne0_one, not_false_eq_true, tb_Mo_text]
    exact fO_s hK 0 (if_pos (fun q => g3 q.2.2)) (by decide)
theorem pCl_ok {s : Nat → Int32} {a k x y f l : Nat} (h : (pCl s a).2 = some (k, x, y, f, l)) : okC k x y := by
  unfold pCl at h
  cases hk : pHead s a with
  | mk b o =>
    rw [hk] at h
    cases o with
    | none => exact absurd h (by simp)
    | some v =>
      obtain ⟨k', x', y'⟩ := v
      simp only at h
      cases hm : (pMon s b).2 with
      | none => rw [hm] at h; exact absurd h (by simp)
      | some fl =>
        rw [hm] at h
        simp only [Option.map_some, Option.some.injEq, Prod.mk.injEq] at h
        obtain ⟨rfl, rfl, rfl, _, _⟩ := h
        exact pHead_ok hk
theorem text_inv {I F : Nat → Nat → Int32} {L : Nat → Nat → Int64} {z : Bool} {t : Nat} (ht : t < 8) (hI : Inv I L z) (f : ∀ x, x ≠ 24 → x ≠ 25 → x ≠ 26 → x ≠ 27 → x ≠ 28 → x ≠ 29 → x ≠ 30 → x ≠ 31 → x ≠ 36 → x ≠ 57 → x ≠ 58 → x ≠ 65 → F x = I x) (h57 : ∀ j, j ≠ 4 → j ≠ 12 → j ≠ 13 → j ≠ 15 → F 57 j = I 57 j) (hm : ∀ j, j ≠ 1596 → ¬ (609 + 28 * t ≤ j ∧ j < 609 + 28 * t + 28) → F 58 j = I 58 j) (hT : cTape F) (hX : cTxt (F 24 7) (F 25) (F 26) (F 27) (F 28) (F 29) (F 30) (F 31) (F 58)) : Inv F L z := by
  obtain ⟨⟨a1, a2, a3, a4, a5, a6, a7, a8, a9⟩, b2, b3, b4, b5, b6⟩ := hI
  refine ⟨⟨?p1, ?p2, ?p3, ?p4, ?p5, hX, ?p7, ?p8, ?p9⟩, ?q2, hT, ?q4, ?q5, ?q6⟩
  case p1 => simp (disch := decide) only [f]; exact cLand_m a1 (fun j hj => hm j (by omega) (by omega))
  case p2 => simp (disch := decide) only [f]; exact cLink_m a2 (fun j hj => hm j (by omega) (by omega))
  case p3 => simp (disch := decide) only [f]; exact cCamp_m a3 (fun j hj => hm j (by omega) (by omega))
  case p4 => simp (disch := decide) only [f]; exact cRow_m a4 (fun j hj => hm j (by omega) (by omega))
  case p5 => simp (disch := decide) only [f]; exact cMean_m a5 (fun j hj => hm j (by omega) (by omega))
  case p7 => simp (disch := decide) only [f]; exact cClm_m a7 (fun j hj => hm j (by omega) (by omega))
  case p8 => simp (disch := decide) only [f]; exact cBk_m a8 (fun j hj => hm j (by omega) (by omega))
  case p9 => simp (disch := decide) only [f]; exact cDay_m a9 (hm 1593 (by omega) (by omega))
  case q2 =>
    have e2 := h57 2 (by decide) (by decide) (by decide) (by decide)
    unfold cKeep CW at b2 ⊢
    rw [e2]
    simpa (disch := decide) only [f] using b2
  case q4 => intro s1 hs1; have hq4 := b4 s1 hs1; simpa (disch := omega) only [f] using hq4
  case q5 => unfold cTal at b5 ⊢; simpa (disch := decide) only [f] using b5
  case q6 =>
    unfold cScr at b6 ⊢
    rw [h57 9 (by decide) (by decide) (by decide) (by decide), h57 11 (by decide) (by decide) (by decide) (by decide)]
    exact b6
theorem op_text (c v : Int32) : OpOK m_Rh_text m_Mo_text [.int c, .int v] := by
  intro I L z hI
  have hI2 := hI
  obtain ⟨⟨a1, a2, a3, a4, a5, a6, a7, a8, a9⟩, b2, b3, b4, b5, b6⟩ := hI
  obtain ⟨t, ht, s1, s2, s4⟩ := a6
  obtain ⟨n, hn, t1, t2, t3⟩ := b3
  have hs : sOk (fun a => if a < n then I 60 a else -1) n := ⟨hn, fun a ha => if_neg (by omega), fun a ha => by simp only [if_pos ha]; exact (t3 a ha).2⟩
  have hc : rdS I (fun a => if a < n then I 60 a else -1) n := ⟨t1, hs, fun a ha => by simp only [if_pos ha]; exact (t3 a ha).1⟩
  have hmm : ∀ J : Nat → Nat → Int32, J 57 = I 57 → J 60 = I 60 → moS J (fun a => if a < n then I 60 a else -1) n := fun J e1 e2 => ⟨by rw [e1]; exact t2, hs, fun a ha => by simp only [if_pos ha]; rw [e2]⟩
  generalize (fun a => if a < n then I 60 a else (-1 : Int32)) = s at hs hc hmm
  refine k_Rh_text c v t ht s1 hc ?_
  cases hf : txO c v t with
  | some f =>
    have e58 : (upI I 48 f.val (I 48 f.val + 1)) 58 = I 58 := upI_ne (by decide)
    refine k_Mo_text c v t ht (by rw [e58]; exact s2) (hmm _ (upI_ne (by decide)) (upI_ne (by decide))) ?_
    rw [hf]
    exact ⟨rfl, _, _, _, rfl, inv_find hI2 f.isLt⟩
  | none =>
    have ht8 : t < 8 := by
      unfold txO at hf
      split at hf
      · exact absurd hf (by simp)
      · split at hf
        · exact absurd hf (by simp)
        · omega
    refine ⟨fun G q hr q1 q2 g1 g2 => ?_, fun G f hr g1 => ?_⟩
    · have e : ∀ x, 32 ≤ x → x ≠ 36 → G x = I x := fun x h1 h2 => g1.1 x (by omega) (by omega) (by omega) (by omega) (by omega) (by omega) (by omega) (by omega) h2
      refine k_Mo_text c v t ht (by rw [e 58 (by decide) (by decide)]; exact s2) (hmm G (e 57 (by decide) (by decide)) (e 60 (by decide) (by decide))) ?_
      rw [hf]
      refine ⟨fun F q' hr' f1 f2 => ?_, fun F f hr' _ => absurd (hr.symm.trans hr') (by simp)⟩
      have eq' : q = q' := by have := hr.symm.trans hr'; simpa using this
      subst eq'
      refine ⟨rfl, _, _, _, rfl, text_inv (t := t) ht8 hI2 (fun x h24 h25 h26 h27 h28 h29 h30 h31 h36 h57 h58 h65 => (f1.1 x h57 h58 h65).trans (g1.1 x h24 h25 h26 h27 h28 h29 h30 h31 h36)) (fun j a1 a2 a3 a4 => by rw [f1.2.1 j a1 a2 a3 a4, e 57 (by decide) (by decide)]) (fun j a1 a2 => by rw [f1.2.2.2.1 j a1 a2, e 58 (by decide) (by decide)]) ⟨0, by decide, ?_, ?_, fun i hi => absurd hi (Nat.not_lt_zero _)⟩ ?_⟩
      · rw [f1.1 36 (by decide) (by decide) (by decide), g1.2.2.2.2.2.2.2]; rfl
      · rw [f1.2.2.1]; rfl
      · have ef : ∀ x, x < 32 → F x = G x := fun x hx => f1.1 x (by omega) (by omega) (by omega)
        obtain ⟨g3, g4, g5, g6, g7, g8, g9⟩ := g1.2
        obtain ⟨f3, f4, f5, f6, f7, f8, f9⟩ := f1.2
        refine ⟨t + 1, by omega, by rw [ef 24 (by decide)]; exact g8, f6, fun t' ht' => ?_⟩
        simp only [ef 25 (by decide), ef 26 (by decide), ef 27 (by decide), ef 28 (by decide), ef 29 (by decide), ef 30 (by decide), ef 31 (by decide)]
        by_cases et : t' = t
        · subst et
          refine ⟨g5.trans f7.symm, g6.trans f8.symm, g7.trans f9.symm, q, q2, f9, fun cc hcc => ?_⟩
          obtain ⟨v1, v2⟩ := g2 cc hcc
          obtain ⟨val, ev⟩ := Option.isSome_iff_exists.mp v2
          obtain ⟨k, x, y, fm, lm⟩ := val
          obtain ⟨w1, w2, w3, w4⟩ := v1 k x y fm lm ev
          obtain ⟨u1, u2, u3, u4, u5⟩ := f2 cc hcc k x y fm lm ev
          have ok := pCl_ok ev
          rw [w1, w2, w3, w4, u1, u2, u3, u4, u5]
          refine ⟨rfl, rfl, ?_⟩
          rcases ok with ⟨rfl, hx, rfl⟩ | ⟨rfl, hx, hy⟩ | ⟨rfl, hx, rfl⟩
          · exact Or.inl ⟨rfl, rfl, ⟨x, hx, rfl⟩, rfl⟩
          · exact Or.inr (Or.inl ⟨rfl, ⟨x, hx, rfl⟩, rfl, ⟨y, hy, rfl⟩, rfl⟩)
          · exact Or.inr (Or.inr ⟨rfl, ⟨x, hx, rfl⟩, rfl, rfl⟩)
        · have hlt : t' < t := by omega
          have em : ∀ j, j < 28 → F 58 (609 + 28 * t' + j) = I 58 (609 + 28 * t' + j) := fun j hj => by rw [f5 _ (by omega) (by omega), e 58 (by decide) (by decide)]
          obtain ⟨o1, o2, o3, q9, o4, o5, o6⟩ := s4 t' hlt
          rw [g4 25 (Or.inl rfl) t' hlt, g4 26 (Or.inr (Or.inl rfl)) t' hlt, g4 27 (Or.inr (Or.inr rfl)) t' hlt]
          have em0 := em 0 (by decide)
          have em1 := em 1 (by decide)
          have em2 := em 2 (by decide)
          simp only [Nat.add_zero] at em0
          rw [em0, em1, em2]
          refine ⟨o1, o2, o3, q9, o4, o5, fun cc hcc => ?_⟩
          have hcc5 : cc < 5 := by omega
          rw [g3 28 (5 * t' + cc) (by decide) (by decide) (by omega), g3 29 (5 * t' + cc) (by decide) (by decide) (by omega), g3 30 (5 * t' + cc) (by decide) (by decide) (by omega), g3 31 (5 * t' + cc) (by decide) (by decide) (by omega)]
          have ec : ∀ i, i < 5 → F 58 (609 + 28 * t' + 3 + 5 * cc + i) = I 58 (609 + 28 * t' + 3 + 5 * cc + i) := fun i hi => by
            have := em (3 + 5 * cc + i) (by omega)
            rw [show 609 + 28 * t' + 3 + 5 * cc + i = 609 + 28 * t' + (3 + 5 * cc + i) by omega]
            exact this
          have ec0 := ec 0 (by decide)
          simp only [Nat.add_zero] at ec0
          rw [ec0, ec 1 (by decide), ec 2 (by decide), ec 3 (by decide), ec 4 (by decide)]
          exact o6 cc hcc
    · have e : ∀ x, x ≠ 28 → x ≠ 29 → x ≠ 30 → x ≠ 31 → x ≠ 36 → G x = I x := fun x h1 h2 h3 h4 h5 => g1.1 x h1 h2 h3 h4 h5
      have e58 : G 58 = I 58 := e 58 (by decide) (by decide) (by decide) (by decide) (by decide)
      have e57 : G 57 = I 57 := e 57 (by decide) (by decide) (by decide) (by decide) (by decide)
      have e60 : G 60 = I 60 := e 60 (by decide) (by decide) (by decide) (by decide) (by decide)
      refine k_Mo_text c v t ht (by rw [e58]; exact s2) (hmm G e57 e60) ?_
      rw [hf]
      refine ⟨fun F q' hr' _ _ => absurd (hr.symm.trans hr') (by simp), fun F f' hr' f1 => ?_⟩
      have eq' : f = f' := by have := hr.symm.trans hr'; simpa using this
      subst eq'
      have ef : ∀ x, x ≠ 57 → x ≠ 65 → F x = G x := f1.1
      refine ⟨rfl, _, _, _, rfl, text_inv (t := t) ht8 hI2 (fun x h24 h25 h26 h27 h28 h29 h30 h31 h36 h57 h58 h65 => (ef x h57 h65).trans (e x h28 h29 h30 h31 h36)) (fun j a1 a2 a3 a4 => by rw [f1.2 j a2 a3 a4, e57]) (fun j _ _ => by rw [ef 58 (by decide) (by decide), e58]) ⟨n, hn, ?_, ?_, fun i hi => ?_⟩ ?_⟩
      · rw [ef 36 (by decide) (by decide), g1.2.2 1 (by decide)]; exact t1
      · rw [f1.2 4 (by decide) (by decide) (by decide), e57]; exact t2
      · rw [ef 37 (by decide) (by decide), ef 60 (by decide) (by decide), e 37 (by decide) (by decide) (by decide) (by decide) (by decide), e60]; exact t3 i hi
      · rw [ef 24 (by decide) (by decide), ef 25 (by decide) (by decide), ef 26 (by decide) (by decide), ef 27 (by decide) (by decide), ef 28 (by decide) (by decide), ef 29 (by decide) (by decide), ef 30 (by decide) (by decide), ef 31 (by decide) (by decide), ef 58 (by decide) (by decide), e58, e 24 (by decide) (by decide) (by decide) (by decide) (by decide), e 25 (by decide) (by decide) (by decide) (by decide) (by decide), e 26 (by decide) (by decide) (by decide) (by decide) (by decide), e 27 (by decide) (by decide) (by decide) (by decide) (by decide)]
        refine ⟨t, ht, s1, s2, fun t' ht' => ?_⟩
        obtain ⟨o1, o2, o3, q9, o4, o5, o6⟩ := s4 t' ht'
        refine ⟨o1, o2, o3, q9, o4, o5, fun cc hcc => ?_⟩
        have hcc5 : cc < 5 := by omega
        rw [g1.2.1 28 (5 * t' + cc) (by omega) (by decide), g1.2.1 29 (5 * t' + cc) (by omega) (by decide), g1.2.1 30 (5 * t' + cc) (by omega) (by decide), g1.2.1 31 (5 * t' + cc) (by omega) (by decide)]
        exact o6 cc hcc
