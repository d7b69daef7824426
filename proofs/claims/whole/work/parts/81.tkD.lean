set_option maxRecDepth 100000 in
set_option maxHeartbeats 4000000 in
theorem k_Cp_wear {I L z K} (m : Nat → Int32) (p d : Nat) (fv : Bool) (hp0 : p < 5) (hd : d < 3600) (ed : m 1593 = nI d) (hC : cCamp (I 11) (I 12) (I 13) (I 14) (I 15) m) (hK : ∀ J : Nat → Nat → Int32, (∀ a, a ≠ 12 → a ≠ 13 → a ≠ 15 → J a = I a) → cCamp (J 11) (J 12) (J 13) (J 14) (J 15) (if fv = true then liB (liA m p) p else liA m p) → K none (hp J L z)) : Ct m_Cp_wear [.ref 10, .int (nI p), .int (bI fv), .int (nI d)] (hp I L z) K := by
  refine in_Cp_wear 71 (nB_hp _ _ _) (Nat.le_of_ble_eq_true rfl) rfl (fun P step => ?_)
  have p19 : ∀ J : Nat → Nat → Int32, (∀ a, a ≠ 12 → J a = I a) → cCamp (J 11) (J 12) (J 13) (J 14) (J 15) (liA m p) → P 19 [some (.ref 10), some (.int (nI p)), some (.int (bI fv)), some (.int (nI d))] [] (J, L, rfx z, nz z) 0 0 := by
    intro J j1 hJ
    have ed1 : liA m p 1593 = nI d := by rw [← ed]; exact upd_ne (by omega)
    generalize liA m p = m1 at hK hJ ed1
    obtain ⟨f1, f2, f3, f4, f5, f6, f7, ⟨f, hf, ef⟩, f9, f10⟩ := hJ p hp0
    refine step [] 600 _ _ _ _ _ _ ?_
    simp only [wq_s, wp_s, mq_iconst, mq_bipush, mq_sipush, mq_ldc0, mq_ldc1, mq_ldc_w, mq_lconst, mq_ldc2_w, mq_iload, mq_iload_n, mq_lload, mq_lload_n, mq_aload, mq_aload_n, mq_istore, mq_istore_n, mq_lstore, mq_lstore_n, mq_astore, mq_astore_n, mq_iinc, mq_iadd, mq_isub, mq_imul, mq_iand, mq_ior, mq_ixor, mq_idiv, mq_irem, mq_ineg, mq_ishl, mq_ishr, mq_iushr, mq_ladd, mq_lsub, mq_land, mq_lor, mq_lxor, mq_lshl, mq_lshr, mq_lushr, mq_i2l, mq_l2i, mq_i2b, mq_i2s, mq_lcmp, mq_dupI, mq_dupR, mq_dup2, mq_ifCond, mq_if_icmp, mq_goto, mq_nnN, mq_nnR, mq_get1, mq_get2, mq_get0, mq_get3, mq_put1, mq_put2, mq_put3, mq_put0, mq_iaload, mq_laload, mq_aald, mq_iastore, mq_lastore, mq_aastore, mq_arraylength, mq_newarray, mq_anewarray, mq_new, mq_cpI, mq_cpL, mq_abs, mq_max, mq_min, mq_is0, mq_is1, mq_iv0, mq_iv3, mq_ob, mq_ii0, mq_ii1, mq_tableswitch, mq_lookupswitch, mq_iret, mq_lret, mq_vret, hq_pI, hq_pL, hq_pR, hq_pA0, hq_pA1, hq_lk0, hq_lk1, hq_gI, hq_gIo, hq_gL, hq_gLo, hq_gA, hq_gAo, hq_rf1, hq_rf0, hq_st0_int, hq_st0_ref, hq_st0_long, hq_st1, hq_st2, hq_c0, hq_c_int, hq_c_ref, hq_c_long, hq_cS_eq, hq_cS_ne, hq_cS_lt, hq_cS_ge, hq_cS_gt, hq_cS_le, hq_isO, hq_isA, hq_inS0, hq_inS1, hq_bzI, hq_bzZ, hq_sw0, hq_sw1, hq_cat0, hq_catI, hq_catR, hq_catL, hq_en0, hq_enL, hq_enI, hq_enR, hq_hp, hq_callW, hq_rep0, hq_rep1, hq_tl1, hq_tl0, sh_all, rf_all, Nat.reduceAdd, Nat.reduceSub, Nat.reduceMul, Nat.reduceBEq, ↓reduceIte, Bool.or_false, Bool.or_true, Bool.false_or, Bool.true_or, Bool.false_eq_true, Nat.reduceLT, Nat.reduceLeDiff, Nat.reduceEqDiff, true_or, true_and, and_true, false_or, or_true, eq_self, bI_d0, bI_d1, bI_o, em_1, Classical.not_not, Nat.add_zero, forall_const, not_true_eq_false, false_implies, one_ne0, ne0_one, not_false_eq_true, tb_Cp_wear]
    simp (disch := omega) only [bI_0, nI_clamp, vp_in_nI, true_and, upI_ne, upI_eq, upd_at, f3, ef, nI_s]
    refine ⟨fun w => ?_, fun w => ?_⟩
    · rw [if_pos (ts_nf w)] at hK
      refine ⟨fun w2 => ?_, fun w2 => k_Cp_isRightOn p _ hp0 ?_⟩
      · have h20 : f + 1 < 20 := (nI_ltI (b := 20) (by omega) (by omega)).mp w2
        refine hK _ (fun a h12 h13 h15 => by rw [upI_ne h13]; exact j1 a h12) ?_
        have e20 : ¬ m1 (264 + 5 * p + 2) + 1 = 20 := fun h => by rw [ef, nI_s] at h; have := nI_inj (b := 20) (by omega) (by omega) h; omega
        unfold liB
        rw [if_pos e20]
        simp (disch := decide) only [upI_ne, upI_eq]
        intro i hi
        have hq := hJ i hi
        by_cases h9 : i = p
        · subst h9
          simp (disch := omega) only [upd_ne, upd_at]
          exact ⟨f1, f2, by rw [ef, nI_s], f4, f5, f6, f7, ⟨f + 1, h20, by rw [ef, nI_s]⟩, f9, f10⟩
        · simp (disch := omega) only [upd_ne]
          exact hq
      · have h20 : f + 1 = 20 := by
          have : ¬ f + 1 < 20 := fun h => w2 ((nI_ltI (b := 20) (by omega) (by omega)).mpr h)
          omega
        have e20 : ¬ ¬ m1 (264 + 5 * p + 2) + 1 = 20 := fun h => h (by rw [ef, nI_s, h20]; rfl)
        unfold liB at hK
        rw [if_neg e20, ed1] at hK
        refine step [] 600 _ _ _ _ _ _ ?_
        simp only [wq_s, wp_s, mq_iconst, mq_bipush, mq_sipush, mq_ldc0, mq_ldc1, mq_ldc_w, mq_lconst, mq_ldc2_w, mq_iload, mq_iload_n, mq_lload, mq_lload_n, mq_aload, mq_aload_n, mq_istore, mq_istore_n, mq_lstore, mq_lstore_n, mq_astore, mq_astore_n, mq_iinc, mq_iadd, mq_isub, mq_imul, mq_iand, mq_ior, mq_ixor, mq_idiv, mq_irem, mq_ineg, mq_ishl, mq_ishr, mq_iushr, mq_ladd, mq_lsub, mq_land, mq_lor, mq_lxor, mq_lshl, mq_lshr, mq_lushr, mq_i2l, mq_l2i, mq_i2b, mq_i2s, mq_lcmp, mq_dupI, mq_dupR, mq_dup2, mq_ifCond, mq_if_icmp, mq_goto, mq_nnN, mq_nnR, mq_get1, mq_get2, mq_get0, mq_get3, mq_put1, mq_put2, mq_put3, mq_put0, mq_iaload, mq_laload, mq_aald, mq_iastore, mq_lastore, mq_aastore, mq_arraylength, mq_newarray, mq_anewarray, mq_new, mq_cpI, mq_cpL, mq_abs, mq_max, mq_min, mq_is0, mq_is1, mq_iv0, mq_iv3, mq_ob, mq_ii0, mq_ii1, mq_tableswitch, mq_lookupswitch, mq_iret, mq_lret, mq_vret, hq_pI, hq_pL, hq_pR, hq_pA0, hq_pA1, hq_lk0, hq_lk1, hq_gI, hq_gIo, hq_gL, hq_gLo, hq_gA, hq_gAo, hq_rf1, hq_rf0, hq_st0_int, hq_st0_ref, hq_st0_long, hq_st1, hq_st2, hq_c0, hq_c_int, hq_c_ref, hq_c_long, hq_cS_eq, hq_cS_ne, hq_cS_lt, hq_cS_ge, hq_cS_gt, hq_cS_le, hq_isO, hq_isA, hq_inS0, hq_inS1, hq_bzI, hq_bzZ, hq_sw0, hq_sw1, hq_cat0, hq_catI, hq_catR, hq_catL, hq_en0, hq_enL, hq_enI, hq_enR, hq_hp, hq_callW, hq_rep0, hq_rep1, hq_tl1, hq_tl0, sh_all, rf_all, Nat.reduceAdd, Nat.reduceSub, Nat.reduceMul, Nat.reduceBEq, ↓reduceIte, Bool.or_false, Bool.or_true, Bool.false_or, Bool.true_or, Bool.false_eq_true, Nat.reduceLT, Nat.reduceLeDiff, Nat.reduceEqDiff, true_or, true_and, and_true, false_or, or_true, eq_self, bI_d0, bI_d1, bI_o, em_1, Classical.not_not, Nat.add_zero, forall_const, not_true_eq_false, false_implies, one_ne0, ne0_one, not_false_eq_true, tb_Cp_wear]
        simp (disch := decide) only [upI_ne]
        rw [f5]
        have fin : ∀ G : Nat → Nat → Int32, (∀ a, a ≠ 13 → a ≠ 15 → G a = J a) → (∀ i, i ≠ p → G 13 i = J 13 i) → G 13 p = 0 → (∀ i, i ≠ p → G 15 i = J 15 i) → G 15 p = (if m1 (264 + 5 * p + 4) < nI d then m1 (264 + 5 * p + 4) else nI d - 1) → K none (hp G L z) := by
          intro G g1 g2 g3 g4 g5
          refine hK G (fun a h12 h13 h15 => (g1 a h13 h15).trans (j1 a h12)) ?_
          rw [g1 11 (by decide) (by decide), g1 12 (by decide) (by decide), g1 14 (by decide) (by decide)]
          intro i hi
          have hq := hJ i hi
          by_cases h9 : i = p
          · subst h9
            simp (disch := omega) only [upd_ne, upd_at]
            refine ⟨f1, f2, g3, f4, g5, f6, f7, ⟨0, by omega, rfl⟩, f9, ?_⟩
            split
            · exact f10
            · have e1 : (nI d - 1).toInt = (d : Int) - 1 := pk_sub_toInt (b := 1) (by omega) (by omega)
              rw [e1]; omega
          · simp (disch := omega) only [upd_ne]
            rw [g2 i h9, g4 i h9]
            exact hq
        refine ⟨fun w3 => ?_, fun w3 => k_Cp_haltWatch p _ hp0 ?_⟩
        · refine fin _ (fun a h13 h15 => by rw [upI_ne h13, upI_ne h13]) (fun i hi => by rw [upI_eq, upd_ne hi, upI_eq, upd_ne hi]) (by rw [upI_eq, upd_at]) (fun i hi => by rw [upI_ne (by decide), upI_ne (by decide)]) ?_
          rw [if_pos (Int32.not_le.mp w3), upI_ne (by decide), upI_ne (by decide), f5]
        · refine step [] 600 _ _ _ _ _ _ ?_
          simp only [wq_s, wp_s, mq_iconst, mq_bipush, mq_sipush, mq_ldc0, mq_ldc1, mq_ldc_w, mq_lconst, mq_ldc2_w, mq_iload, mq_iload_n, mq_lload, mq_lload_n, mq_aload, mq_aload_n, mq_istore, mq_istore_n, mq_lstore, mq_lstore_n, mq_astore, mq_astore_n, mq_iinc, mq_iadd, mq_isub, mq_imul, mq_iand, mq_ior, mq_ixor, mq_idiv, mq_irem, mq_ineg, mq_ishl, mq_ishr, mq_iushr, mq_ladd, mq_lsub, mq_land, mq_lor, mq_lxor, mq_lshl, mq_lshr, mq_lushr, mq_i2l, mq_l2i, mq_i2b, mq_i2s, mq_lcmp, mq_dupI, mq_dupR, mq_dup2, mq_ifCond, mq_if_icmp, mq_goto, mq_nnN, mq_nnR, mq_get1, mq_get2, mq_get0, mq_get3, mq_put1, mq_put2, mq_put3, mq_put0, mq_iaload, mq_laload, mq_aald, mq_iastore, mq_lastore, mq_aastore, mq_arraylength, mq_newarray, mq_anewarray, mq_new, mq_cpI, mq_cpL, mq_abs, mq_max, mq_min, mq_is0, mq_is1, mq_iv0, mq_iv3, mq_ob, mq_ii0, mq_ii1, mq_tableswitch, mq_lookupswitch, mq_iret, mq_lret, mq_vret, hq_pI, hq_pL, hq_pR, hq_pA0, hq_pA1, hq_lk0, hq_lk1, hq_gI, hq_gIo, hq_gL, hq_gLo, hq_gA, hq_gAo, hq_rf1, hq_rf0, hq_st0_int, hq_st0_ref, hq_st0_long, hq_st1, hq_st2, hq_c0, hq_c_int, hq_c_ref, hq_c_long, hq_cS_eq, hq_cS_ne, hq_cS_lt, hq_cS_ge, hq_cS_gt, hq_cS_le, hq_isO, hq_isA, hq_inS0, hq_inS1, hq_bzI, hq_bzZ, hq_sw0, hq_sw1, hq_cat0, hq_catI, hq_catR, hq_catL, hq_en0, hq_enL, hq_enI, hq_enR, hq_hp, hq_callW, hq_rep0, hq_rep1, hq_tl1, hq_tl0, sh_all, rf_all, Nat.reduceAdd, Nat.reduceSub, Nat.reduceMul, Nat.reduceBEq, ↓reduceIte, Bool.or_false, Bool.or_true, Bool.false_or, Bool.true_or, Bool.false_eq_true, Nat.reduceLT, Nat.reduceLeDiff, Nat.reduceEqDiff, true_or, true_and, and_true, false_or, or_true, eq_self, bI_d0, bI_d1, bI_o, em_1, Classical.not_not, Nat.add_zero, forall_const, not_true_eq_false, false_implies, one_ne0, ne0_one, not_false_eq_true, tb_Cp_wear]
          refine fin _ (fun a h13 h15 => by rw [upI_ne h15, upI_ne h13, upI_ne h13]) (fun i hi => by rw [upI_ne (by decide), upI_eq, upd_ne hi, upI_eq, upd_ne hi]) (by rw [upI_ne (by decide), upI_eq, upd_at]) (fun i hi => by rw [upI_eq, upd_ne hi, upI_ne (by decide), upI_ne (by decide)]) ?_
          rw [if_neg (Int32.not_lt.mpr w3), upI_eq, upd_at]
    · rw [if_neg (by rw [w]; decide)] at hK
      exact hK J (fun a h12 h13 h15 => j1 a h12) hJ
  obtain ⟨f1, f2, f3, f4, f5, f6, ⟨s, hs, es⟩, f8, f9, f10⟩ := hC p hp0
  refine step [19] 600 _ _ _ _ _ _ ?_
  simp only [wq_s, wp_s, mq_iconst, mq_bipush, mq_sipush, mq_ldc0, mq_ldc1, mq_ldc_w, mq_lconst, mq_ldc2_w, mq_iload, mq_iload_n, mq_lload, mq_lload_n, mq_aload, mq_aload_n, mq_istore, mq_istore_n, mq_lstore, mq_lstore_n, mq_astore, mq_astore_n, mq_iinc, mq_iadd, mq_isub, mq_imul, mq_iand, mq_ior, mq_ixor, mq_idiv, mq_irem, mq_ineg, mq_ishl, mq_ishr, mq_iushr, mq_ladd, mq_lsub, mq_land, mq_lor, mq_lxor, mq_lshl, mq_lshr, mq_lushr, mq_i2l, mq_l2i, mq_i2b, mq_i2s, mq_lcmp, mq_dupI, mq_dupR, mq_dup2, mq_ifCond, mq_if_icmp, mq_goto, mq_nnN, mq_nnR, mq_get1, mq_get2, mq_get0, mq_get3, mq_put1, mq_put2, mq_put3, mq_put0, mq_iaload, mq_laload, mq_aald, mq_iastore, mq_lastore, mq_aastore, mq_arraylength, mq_newarray, mq_anewarray, mq_new, mq_cpI, mq_cpL, mq_abs, mq_max, mq_min, mq_is0, mq_is1, mq_iv0, mq_iv3, mq_ob, mq_ii0, mq_ii1, mq_tableswitch, mq_lookupswitch, mq_iret, mq_lret, mq_vret, hq_pI, hq_pL, hq_pR, hq_pA0, hq_pA1, hq_lk0, hq_lk1, hq_gI, hq_gIo, hq_gL, hq_gLo, hq_gA, hq_gAo, hq_rf1, hq_rf0, hq_st0_int, hq_st0_ref, hq_st0_long, hq_st1, hq_st2, hq_c0, hq_c_int, hq_c_ref, hq_c_long, hq_cS_eq, hq_cS_ne, hq_cS_lt, hq_cS_ge, hq_cS_gt, hq_cS_le, hq_isO, hq_isA, hq_inS0, hq_inS1, hq_bzI, hq_bzZ, hq_sw0, hq_sw1, hq_cat0, hq_catI, hq_catR, hq_catL, hq_en0, hq_enL, hq_enI, hq_enR, hq_hp, hq_callW, hq_rep0, hq_rep1, hq_tl1, hq_tl0, sh_all, rf_all, Nat.reduceAdd, Nat.reduceSub, Nat.reduceMul, Nat.reduceBEq, ↓reduceIte, Bool.or_false, Bool.or_true, Bool.false_or, Bool.true_or, Bool.false_eq_true, Nat.reduceLT, Nat.reduceLeDiff, Nat.reduceEqDiff, true_or, true_and, and_true, false_or, or_true, eq_self, bI_d0, bI_d1, bI_o, em_1, Classical.not_not, Nat.add_zero, forall_const, not_true_eq_false, false_implies, one_ne0, ne0_one, not_false_eq_true, tb_Cp_wear]
  simp (disch := omega) only [nI_clamp, vp_in_nI, true_and, f2, es]
  refine ⟨fun w => p19 I (fun _ _ => rfl) ?_, fun w => p19 _ (fun a ha => upI_ne ha) ?_⟩
  · have e : liA m p = m := by
      unfold liA
      rw [es, if_pos w, Int32.sub_zero]
      funext j
      by_cases h : j = 264 + 5 * p + 1
      · subst h; rw [upd_at]; exact es.symm
      · rw [upd_ne h]
    rw [e]; exact hC
  · have hs0 : s ≠ 0 := fun h => w (by rw [h]; decide)
    obtain ⟨s', rfl⟩ : ∃ s', s = s' + 1 := ⟨s - 1, by omega⟩
    unfold liA
    rw [es, if_neg w, nI_p]
    simp (disch := decide) only [upI_ne, upI_eq]
    intro i hi
    have hq := hC i hi
    by_cases h9 : i = p
    · subst h9
      simp (disch := omega) only [upd_ne, upd_at]
      exact ⟨f1, trivial, f3, f4, f5, f6, ⟨s', by omega, rfl⟩, f8, f9, f10⟩
    · simp (disch := omega) only [upd_ne]
      exact hq
