theorem rf_im : upR (rfx false) 0 6 (some 71) = rfx true := by
  funext x y
  unfold upR rfx
  by_cases e : x = 0 ∧ y = 6
  · rw [if_pos e, if_pos e, if_pos rfl]
  · rw [if_neg e, if_neg e, if_neg e]
theorem nzF : nz false = 71 := rfl
set_option maxRecDepth 100000 in
set_option maxHeartbeats 4000000 in
theorem k_Rh_imageF {I L K} (hK : ∀ (J : Nat → Nat → Int32) (M : Nat → Nat → Int64), (∀ a, (a < 71 ∨ 105 < a) → a ≠ 0 → J a = I a) → (∀ j, j ≠ 7 → J 0 j = I 0 j) → J 0 7 = 1 → (∀ a, a < 71 → M a = L a) → (∃ (I' : Nat → Nat → Int32) (L' : Nat → Nat → Int64), (∀ a, (a < 71 ∨ 105 < a) → I' a = I a) ∧ (∀ a, a < 71 → L' a = L a) ∧ (∀ a, a ≠ 86 → M a = L' a) ∧ cpd I' L' J M 70 0) → K (some (.int 1)) (hp J M true)) : Ct m_Rh_image [.ref 0] (hp I L false) K := by
  have a1 : ∀ a, (a < 71 ∨ 105 < a) → (cpZ 70 5 (zzI I 71 106)) a = I a := fun a ha => by
    funext y
    unfold cpZ zzI
    rw [if_neg (fun q => by omega), if_neg (fun q => by omega), if_neg (fun q => by omega)]
  have a2 : ∀ a, a < 71 → (zzL L 71 106) a = L a := fun a ha => by
    funext y
    unfold zzL
    rw [if_neg (fun q => by omega)]
  have e0 : hp I L false = (zzI I 71 71, zzL L 71 71, rfx false, 71) := zz_00 I L (rfx false) 71
  rw [e0]
  refine in_Rh_image 71 (Nat.le_refl _) (Nat.le_of_ble_eq_true rfl) rfl (fun P step => ?_)
  refine step [] 600 _ _ _ _ _ _ ?_
  simp only [wq_s, wp_s, mq_iconst, mq_bipush, mq_sipush, mq_ldc0, mq_ldc1, mq_ldc_w, mq_lconst, mq_ldc2_w, mq_iload, mq_iload_n, mq_lload, mq_lload_n, mq_aload, mq_aload_n, mq_istore, mq_istore_n, mq_lstore, mq_lstore_n, mq_astore, mq_astore_n, mq_iinc, mq_iadd, mq_isub, mq_imul, mq_iand, mq_ior, mq_ixor, mq_idiv, mq_irem, mq_ineg, mq_ishl, mq_ishr, mq_iushr, mq_ladd, mq_lsub, mq_land, mq_lor, mq_lxor, mq_lshl, mq_lshr, mq_lushr, mq_i2l, mq_l2i, mq_i2b, mq_i2s, mq_lcmp, mq_dupI, mq_dupR, mq_dup2, mq_ifCond, mq_if_icmp, mq_goto, mq_nnN, mq_nnR, mq_get1, mq_get2, mq_get0, mq_get3, mq_put1, mq_put2, mq_put3, mq_put0, mq_iaload, mq_laload, mq_aald, mq_iastore, mq_lastore, mq_aastore, mq_arraylength, mq_newarray, mq_anewarray, mq_new, mq_cpI, mq_cpL, mq_abs, mq_max, mq_min, mq_is0, mq_is1, mq_iv0, mq_iv3, mq_ob, mq_ii0, mq_ii1, mq_tableswitch, mq_lookupswitch, mq_iret, mq_lret, mq_vret, hq_pI, hq_pL, hq_pR, hq_pA0, hq_pA1, hq_lk0, hq_lk1, hq_gI, hq_gIo, hq_gL, hq_gLo, hq_gA, hq_gAo, hq_rf1, hq_rf0, hq_st0_int, hq_st0_ref, hq_st0_long, hq_st1, hq_st2, hq_c0, hq_c_int, hq_c_ref, hq_c_long, hq_cS_eq, hq_cS_ne, hq_cS_lt, hq_cS_ge, hq_cS_gt, hq_cS_le, hq_isO, hq_isA, hq_inS0, hq_inS1, hq_bzI, hq_bzZ, hq_sw0, hq_sw1, hq_cat0, hq_catI, hq_catR, hq_catL, hq_en0, hq_enL, hq_enI, hq_enR, hq_hp, hq_callW, hq_rep0, hq_rep1, hq_tl1, hq_tl0, sh_all, rf_all, Nat.reduceAdd, Nat.reduceSub, Nat.reduceMul, Nat.reduceBEq, ↓reduceIte, Bool.or_false, Bool.or_true, Bool.false_or, Bool.true_or, Bool.false_eq_true, Nat.reduceLT, Nat.reduceLeDiff, Nat.reduceEqDiff, true_or, true_and, and_true, false_or, or_true, eq_self, bI_d0, bI_d1, bI_o, em_1, Classical.not_not, Nat.add_zero, forall_const, not_true_eq_false, false_implies, one_ne0, ne0_one, not_false_eq_true, tb_Rh_image, rf06F, nw_zz, nw_cz, nw_up, lO_0, lO_n, lO_v, vO_r, vO_i, sO_0, sO_v]
  refine k_Wo_init70 (r := rfx false) (fun _ _ _ => rfl) ?_
  rw [zzI_t (by decide) (by decide), zzL_t (by decide) (by decide)]
  refine step [] 600 _ _ _ _ _ _ ?_
  simp only [wq_s, wp_s, mq_iconst, mq_bipush, mq_sipush, mq_ldc0, mq_ldc1, mq_ldc_w, mq_lconst, mq_ldc2_w, mq_iload, mq_iload_n, mq_lload, mq_lload_n, mq_aload, mq_aload_n, mq_istore, mq_istore_n, mq_lstore, mq_lstore_n, mq_astore, mq_astore_n, mq_iinc, mq_iadd, mq_isub, mq_imul, mq_iand, mq_ior, mq_ixor, mq_idiv, mq_irem, mq_ineg, mq_ishl, mq_ishr, mq_iushr, mq_ladd, mq_lsub, mq_land, mq_lor, mq_lxor, mq_lshl, mq_lshr, mq_lushr, mq_i2l, mq_l2i, mq_i2b, mq_i2s, mq_lcmp, mq_dupI, mq_dupR, mq_dup2, mq_ifCond, mq_if_icmp, mq_goto, mq_nnN, mq_nnR, mq_get1, mq_get2, mq_get0, mq_get3, mq_put1, mq_put2, mq_put3, mq_put0, mq_iaload, mq_laload, mq_aald, mq_iastore, mq_lastore, mq_aastore, mq_arraylength, mq_newarray, mq_anewarray, mq_new, mq_cpI, mq_cpL, mq_abs, mq_max, mq_min, mq_is0, mq_is1, mq_iv0, mq_iv3, mq_ob, mq_ii0, mq_ii1, mq_tableswitch, mq_lookupswitch, mq_iret, mq_lret, mq_vret, hq_pI, hq_pL, hq_pR, hq_pA0, hq_pA1, hq_lk0, hq_lk1, hq_gI, hq_gIo, hq_gL, hq_gLo, hq_gA, hq_gAo, hq_rf1, hq_rf0, hq_st0_int, hq_st0_ref, hq_st0_long, hq_st1, hq_st2, hq_c0, hq_c_int, hq_c_ref, hq_c_long, hq_cS_eq, hq_cS_ne, hq_cS_lt, hq_cS_ge, hq_cS_gt, hq_cS_le, hq_isO, hq_isA, hq_inS0, hq_inS1, hq_bzI, hq_bzZ, hq_sw0, hq_sw1, hq_cat0, hq_catI, hq_catR, hq_catL, hq_en0, hq_enL, hq_enI, hq_enR, hq_hp, hq_callW, hq_rep0, hq_rep1, hq_tl1, hq_tl0, sh_all, rf_all, Nat.reduceAdd, Nat.reduceSub, Nat.reduceMul, Nat.reduceBEq, ↓reduceIte, Bool.or_false, Bool.or_true, Bool.false_or, Bool.true_or, Bool.false_eq_true, Nat.reduceLT, Nat.reduceLeDiff, Nat.reduceEqDiff, true_or, true_and, and_true, false_or, or_true, eq_self, bI_d0, bI_d1, bI_o, em_1, Classical.not_not, Nat.add_zero, forall_const, not_true_eq_false, false_implies, one_ne0, ne0_one, not_false_eq_true, tb_Rh_image, rf_im, rf06T]
  refine k_Wo_takeFrom (I := cpZ 70 5 (zzI I 71 106)) (L := zzL L 71 106) 70 0 (Or.inr ⟨rfl, rfl⟩) (fun J M j1 m1 c => ?_)
  simp only [Nat.reduceAdd] at j1 m1
  refine step [] 600 _ _ _ _ _ _ ?_
  simp only [wq_s, wp_s, mq_iconst, mq_bipush, mq_sipush, mq_ldc0, mq_ldc1, mq_ldc_w, mq_lconst, mq_ldc2_w, mq_iload, mq_iload_n, mq_lload, mq_lload_n, mq_aload, mq_aload_n, mq_istore, mq_istore_n, mq_lstore, mq_lstore_n, mq_astore, mq_astore_n, mq_iinc, mq_iadd, mq_isub, mq_imul, mq_iand, mq_ior, mq_ixor, mq_idiv, mq_irem, mq_ineg, mq_ishl, mq_ishr, mq_iushr, mq_ladd, mq_lsub, mq_land, mq_lor, mq_lxor, mq_lshl, mq_lshr, mq_lushr, mq_i2l, mq_l2i, mq_i2b, mq_i2s, mq_lcmp, mq_dupI, mq_dupR, mq_dup2, mq_ifCond, mq_if_icmp, mq_goto, mq_nnN, mq_nnR, mq_get1, mq_get2, mq_get0, mq_get3, mq_put1, mq_put2, mq_put3, mq_put0, mq_iaload, mq_laload, mq_aald, mq_iastore, mq_lastore, mq_aastore, mq_arraylength, mq_newarray, mq_anewarray, mq_new, mq_cpI, mq_cpL, mq_abs, mq_max, mq_min, mq_is0, mq_is1, mq_iv0, mq_iv3, mq_ob, mq_ii0, mq_ii1, mq_tableswitch, mq_lookupswitch, mq_iret, mq_lret, mq_vret, hq_pI, hq_pL, hq_pR, hq_pA0, hq_pA1, hq_lk0, hq_lk1, hq_gI, hq_gIo, hq_gL, hq_gLo, hq_gA, hq_gAo, hq_rf1, hq_rf0, hq_st0_int, hq_st0_ref, hq_st0_long, hq_st1, hq_st2, hq_c0, hq_c_int, hq_c_ref, hq_c_long, hq_cS_eq, hq_cS_ne, hq_cS_lt, hq_cS_ge, hq_cS_gt, hq_cS_le, hq_isO, hq_isA, hq_inS0, hq_inS1, hq_bzI, hq_bzZ, hq_sw0, hq_sw1, hq_cat0, hq_catI, hq_catR, hq_catL, hq_en0, hq_enL, hq_enI, hq_enR, hq_hp, hq_callW, hq_rep0, hq_rep1, hq_tl1, hq_tl0, sh_all, rf_all, Nat.reduceAdd, Nat.reduceSub, Nat.reduceMul, Nat.reduceBEq, ↓reduceIte, Bool.or_false, Bool.or_true, Bool.false_or, Bool.true_or, Bool.false_eq_true, Nat.reduceLT, Nat.reduceLeDiff, Nat.reduceEqDiff, true_or, true_and, and_true, false_or, or_true, eq_self, bI_d0, bI_d1, bI_o, em_1, Classical.not_not, Nat.add_zero, forall_const, not_true_eq_false, false_implies, one_ne0, ne0_one, not_false_eq_true, tb_Rh_image, nzT]
  refine hK _ M (fun a ha h0 => by rw [upI_ne h0]; exact (j1 a ha).trans (a1 a ha)) (fun j hj => by rw [upI_eq, upd_ne hj, j1 0 (Or.inl (by decide)), a1 0 (Or.inl (by decide))]) (by rw [upI_eq, upd_at]) (fun a ha => (m1 a (by omega)).trans (a2 a ha)) ⟨_, _, a1, a2, m1, ?_⟩
  unfold cpd at c ⊢
  simpa (disch := decide) only [upI_ne] using c
theorem inv_lt {I I' : Nat → Nat → Int32} {L L' : Nat → Nat → Int64} (hI : Inv I L false) (e : ∀ a, a < 71 → I' a = I a) (eL : ∀ a, a < 71 → L' a = L a) : Inv I' L' false := by
  obtain ⟨hW, b2, b3, b4, b5, b6⟩ := hI
  refine ⟨?_, ?_, ?_, ?_, ?_, ?_⟩
  · unfold CW at hW ⊢
    simpa (disch := decide) only [e, eL] using hW
  · obtain ⟨h1, h2⟩ := b2
    refine ⟨by rw [e 0 (by decide), e 57 (by decide)]; exact h1, ?_⟩
    rcases h2 with h2 | h2
    · exact Or.inl (by rw [e 0 (by decide)]; exact h2)
    · exact absurd h2.2.1 (by decide)
  · unfold cTape at b3 ⊢
    simpa (disch := decide) only [e] using b3
  · intro s hs
    have := b4 s hs
    simpa (disch := omega) only [e, eL] using this
  · unfold cTal at b5 ⊢
    simpa (disch := decide) only [e] using b5
  · unfold cScr at b6 ⊢
    simpa (disch := decide) only [e, eL] using b6
theorem op_image : OpOK m_Rh_image m_Mo_image [] := by
  intro I L z hI
  cases z with
  | true =>
    refine k_Rh_imageT (fun J M j1 j2 j3 m1 c => k_Mo_image (fun G g1 g2 g3 g4 => ?_))
    exact ⟨rfl, _, _, _, rfl, image_inv hI j1 j3 m1 c g1 g2 g3 g4⟩
  | false =>
    refine k_Rh_imageF (fun J M j1 j2 j3 m1 hc => ?_)
    obtain ⟨I', L', i1, l1, m2, c⟩ := hc
    refine k_Mo_image (fun G g1 g2 g3 g4 => ?_)
    have hI' := inv_lt hI (fun a ha => i1 a (Or.inl ha)) l1
    exact ⟨rfl, _, _, _, rfl, image_inv hI' (fun a ha h0 => (j1 a ha h0).trans (i1 a ha).symm) j3 m2 c g1 g2 g3 g4⟩
