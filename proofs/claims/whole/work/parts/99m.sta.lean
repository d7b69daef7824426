/-- THE INVARIANT HOLDS AT THE START -/
theorem start_inv {J : Nat → Nat → Int32} {L : Nat → Nat → Int64} (h0 : ∀ x y, x < 71 → x ≠ 14 → x ≠ 15 → x ≠ 57 → x ≠ 58 → J x y = 0) (h14 : ∀ y, y < 5 → J 14 y = -1) (h15 : ∀ y, y < 5 → J 15 y = 3599) (h57 : ∀ y, y ≠ 9 → J 57 y = 0) (h579 : J 57 9 = -1) (hm : ∀ y, (∀ p, p < 5 → y ≠ 264 + 5 * p + 3 ∧ y ≠ 264 + 5 * p + 4) → J 58 y = 0) (hm2 : ∀ p, p < 5 → J 58 (264 + 5 * p + 3) = -1 ∧ J 58 (264 + 5 * p + 4) = 3599) (hL : ∀ x y, x < 71 → L x y = 0) : Inv J L false := by
  have m0 : ∀ y, y < 264 ∨ 289 ≤ y → J 58 y = 0 := fun y hy => hm y (fun p hp => by omega)
  have mp : ∀ i d, i < 5 → d < 3 → J 58 (264 + 5 * i + d) = 0 := fun i d hi hd => hm _ (fun p hp => by omega)
  have z0 : (0 : Int32).toInt = 0 := rfl
  refine ⟨⟨?_, ?_, ?_, ?_, ?_, ?_, ?_, ?_, ?_⟩, ?_, ?_, ?_, ?_, ?_⟩
  · intro c hc
    rw [m0 c (by omega), m0 (48 + c) (by omega), m0 (96 + c) (by omega), h0 _ _ (by decide) (by decide) (by decide) (by decide) (by decide), h0 _ _ (by decide) (by decide) (by decide) (by decide) (by decide), h0 _ _ (by decide) (by decide) (by decide) (by decide) (by decide)]
    exact ⟨rfl, rfl, rfl, by decide, by decide, by decide, by decide, 0, by decide, rfl⟩
  · exact ⟨0, by decide, h0 _ _ (by decide) (by decide) (by decide) (by decide) (by decide), m0 1594 (by omega), fun l hl => absurd hl (Nat.not_lt_zero _)⟩
  · intro i hi
    have e0 := mp i 0 hi (by decide)
    rw [Nat.add_zero] at e0
    rw [e0, mp i 1 hi (by decide), mp i 2 hi (by decide), (hm2 i hi).1, (hm2 i hi).2, h0 _ _ (by decide) (by decide) (by decide) (by decide) (by decide), h0 _ _ (by decide) (by decide) (by decide) (by decide) (by decide), h0 _ _ (by decide) (by decide) (by decide) (by decide) (by decide)]
    exact ⟨rfl, rfl, rfl, h14 i hi, h15 i hi, ⟨0, by decide, rfl⟩, ⟨0, by decide, rfl⟩, ⟨0, by decide, rfl⟩, Or.inl rfl, by decide, by decide⟩
  · refine ⟨0, by decide, h0 _ _ (by decide) (by decide) (by decide) (by decide) (by decide), m0 1595 (by omega), fun i _ => ?_, fun l hl => absurd hl (Nat.not_lt_zero _)⟩
    rw [hL _ _ (by decide)]; exact bit_0 i
  · intro i hi
    rw [m0 (569 + i) (by omega)]
    exact ⟨h0 _ _ (by decide) (by decide) (by decide) (by decide) (by decide), 0, by decide, rfl⟩
  · exact ⟨0, by decide, h0 _ _ (by decide) (by decide) (by decide) (by decide) (by decide), m0 1596 (by omega), fun l hl => absurd hl (Nat.not_lt_zero _)⟩
  · exact ⟨0, 0, by decide, h0 _ _ (by decide) (by decide) (by decide) (by decide) (by decide), m0 1597 (by omega), by decide, h0 _ _ (by decide) (by decide) (by decide) (by decide) (by decide), fun l hl => absurd hl (Nat.not_lt_zero _)⟩
  · intro i hi
    rw [m0 (873 + i) (by omega)]
    exact h0 _ _ (by decide) (by decide) (by decide) (by decide) (by decide)
  · refine ⟨?_, 0, by decide, m0 1593 (by omega)⟩
    rw [m0 1593 (by omega)]
    exact h0 _ _ (by decide) (by decide) (by decide) (by decide) (by decide)
  · refine ⟨?_, Or.inl (h0 _ _ (by decide) (by decide) (by decide) (by decide) (by decide))⟩
    rw [h57 2 (by decide)]
    exact h0 _ _ (by decide) (by decide) (by decide) (by decide) (by decide)
  · exact ⟨0, by decide, h0 _ _ (by decide) (by decide) (by decide) (by decide) (by decide), h57 4 (by decide), fun l hl => absurd hl (Nat.not_lt_zero _)⟩
  · intro s hs
    rw [h0 (49 + 2 * s) 1 (by omega) (by omega) (by omega) (by omega) (by omega), h0 (49 + 2 * s) 2 (by omega) (by omega) (by omega) (by omega) (by omega), h0 61 s (by decide) (by decide) (by decide) (by decide) (by decide), h0 62 s (by decide) (by decide) (by decide) (by decide) (by decide)]
    exact ⟨rfl, rfl, Or.inl rfl, ⟨0, by decide, rfl⟩, fun i _ => by rw [hL (50 + 2 * s) i (by omega), hL 63 _ (by decide)]⟩
  · intro i hi
    rw [h0 48 i (by decide) (by decide) (by decide) (by decide) (by decide), h0 64 i (by decide) (by decide) (by decide) (by decide) (by decide)]
  · exact ⟨h579, hL 57 10 (by decide), h57 11 (by decide)⟩
abbrev h00 : MH := (zzI (fun _ _ => 0) 0 0, zzL (fun _ _ => 0) 0 0, rfx false, 0)
set_option maxRecDepth 100000 in
set_option maxHeartbeats 4000000 in
theorem law_pre {P : PT} {xs : Nat → Int32} {N : Nat} (hs : LStep P 0 N xs) (next : ∀ (J : Nat → Nat → Int32) (L : Nat → Nat → Int64), Inv J L false → P 18 (lvL 0) [] (hp J L false) 71 5797) : P 0 [some (.ref 3000), none, none, none] [] h00 0 0 := by
  unfold h00
  refine hs rl_pre ol_pre [18] 100 _ _ _ _ _ _ ?_
  simp only [wq_s, wp_s, mq_iconst, mq_bipush, mq_sipush, mq_ldc0, mq_ldc1, mq_ldc_w, mq_lconst, mq_ldc2_w, mq_iload, mq_iload_n, mq_lload, mq_lload_n, mq_aload, mq_aload_n, mq_istore, mq_istore_n, mq_lstore, mq_lstore_n, mq_astore, mq_astore_n, mq_iinc, mq_iadd, mq_isub, mq_imul, mq_iand, mq_ior, mq_ixor, mq_idiv, mq_irem, mq_ineg, mq_ishl, mq_ishr, mq_iushr, mq_ladd, mq_lsub, mq_land, mq_lor, mq_lxor, mq_lshl, mq_lshr, mq_lushr, mq_i2l, mq_l2i, mq_i2b, mq_i2s, mq_lcmp, mq_dupI, mq_dupR, mq_dup2, mq_ifCond, mq_if_icmp, mq_goto, mq_nnN, mq_nnR, mq_get1, mq_get2, mq_get0, mq_get3, mq_put1, mq_put2, mq_put3, mq_put0, mq_iaload, mq_laload, mq_aald, mq_iastore, mq_lastore, mq_aastore, mq_arraylength, mq_newarray, mq_anewarray, mq_new, mq_cpI, mq_cpL, mq_abs, mq_max, mq_min, mq_is0, mq_is1, mq_iv0, mq_iv3, mq_ob, mq_ii0, mq_ii1, mq_tableswitch, mq_lookupswitch, mq_iret, mq_lret, mq_vret, hq_pI, hq_pL, hq_pR, hq_pA0, hq_pA1, hq_lk0, hq_lk1, hq_gI, hq_gIo, hq_gL, hq_gLo, hq_gA, hq_gAo, hq_rf1, hq_rf0, hq_st0_int, hq_st0_ref, hq_st0_long, hq_st1, hq_st2, hq_c0, hq_c_int, hq_c_ref, hq_c_long, hq_cS_eq, hq_cS_ne, hq_cS_lt, hq_cS_ge, hq_cS_gt, hq_cS_le, hq_isO, hq_isA, hq_inS0, hq_inS1, hq_bzI, hq_bzZ, hq_sw0, hq_sw1, hq_cat0, hq_catI, hq_catR, hq_catL, hq_en0, hq_enL, hq_enI, hq_enR, hq_hp, hq_callW, hq_rep0, hq_rep1, hq_tl1, hq_tl0, sh_all, rf_all, Nat.reduceAdd, Nat.reduceSub, Nat.reduceMul, Nat.reduceBEq, ↓reduceIte, Bool.or_false, Bool.or_true, Bool.false_or, Bool.true_or, Bool.false_eq_true, Nat.reduceLT, Nat.reduceLeDiff, Nat.reduceEqDiff, true_or, true_and, and_true, false_or, or_true, eq_self, bI_d0, bI_d1, bI_o, em_1, Classical.not_not, Nat.add_zero, forall_const, not_true_eq_false, false_implies, one_ne0, ne0_one, not_false_eq_true, tl_pre, rm_c, rm_s, rm_l, nx_1, Nne, lO_0, lO_n, lO_v, vO_r, vO_i, sO_0, sO_v, nzp_0, nzp_57, Nat.add_zero, nw_zz, nw_cz]
  refine k_Rh_init (r := rfx false) (fun _ _ _ => rfl) ?_
  rw [zzI_t (by decide) (by decide), zzL_t (by decide) (by decide)]
  refine hs rl_pre ol_pre [18] 100 _ _ _ _ _ _ ?_
  simp only [wq_s, wp_s, mq_iconst, mq_bipush, mq_sipush, mq_ldc0, mq_ldc1, mq_ldc_w, mq_lconst, mq_ldc2_w, mq_iload, mq_iload_n, mq_lload, mq_lload_n, mq_aload, mq_aload_n, mq_istore, mq_istore_n, mq_lstore, mq_lstore_n, mq_astore, mq_astore_n, mq_iinc, mq_iadd, mq_isub, mq_imul, mq_iand, mq_ior, mq_ixor, mq_idiv, mq_irem, mq_ineg, mq_ishl, mq_ishr, mq_iushr, mq_ladd, mq_lsub, mq_land, mq_lor, mq_lxor, mq_lshl, mq_lshr, mq_lushr, mq_i2l, mq_l2i, mq_i2b, mq_i2s, mq_lcmp, mq_dupI, mq_dupR, mq_dup2, mq_ifCond, mq_if_icmp, mq_goto, mq_nnN, mq_nnR, mq_get1, mq_get2, mq_get0, mq_get3, mq_put1, mq_put2, mq_put3, mq_put0, mq_iaload, mq_laload, mq_aald, mq_iastore, mq_lastore, mq_aastore, mq_arraylength, mq_newarray, mq_anewarray, mq_new, mq_cpI, mq_cpL, mq_abs, mq_max, mq_min, mq_is0, mq_is1, mq_iv0, mq_iv3, mq_ob, mq_ii0, mq_ii1, mq_tableswitch, mq_lookupswitch, mq_iret, mq_lret, mq_vret, hq_pI, hq_pL, hq_pR, hq_pA0, hq_pA1, hq_lk0, hq_lk1, hq_gI, hq_gIo, hq_gL, hq_gLo, hq_gA, hq_gAo, hq_rf1, hq_rf0, hq_st0_int, hq_st0_ref, hq_st0_long, hq_st1, hq_st2, hq_c0, hq_c_int, hq_c_ref, hq_c_long, hq_cS_eq, hq_cS_ne, hq_cS_lt, hq_cS_ge, hq_cS_gt, hq_cS_le, hq_isO, hq_isA, hq_inS0, hq_inS1, hq_bzI, hq_bzZ, hq_sw0, hq_sw1, hq_cat0, hq_catI, hq_catR, hq_catL, hq_en0, hq_enL, hq_enI, hq_enR, hq_hp, hq_callW, hq_rep0, hq_rep1, hq_tl1, hq_tl0, sh_all, rf_all, Nat.reduceAdd, Nat.reduceSub, Nat.reduceMul, Nat.reduceBEq, ↓reduceIte, Bool.or_false, Bool.or_true, Bool.false_or, Bool.true_or, Bool.false_eq_true, Nat.reduceLT, Nat.reduceLeDiff, Nat.reduceEqDiff, true_or, true_and, and_true, false_or, or_true, eq_self, bI_d0, bI_d1, bI_o, em_1, Classical.not_not, Nat.add_zero, forall_const, not_true_eq_false, false_implies, one_ne0, ne0_one, not_false_eq_true, tl_pre, rm_c, rm_s, rm_l, nx_1, Nne, lO_0, lO_n, lO_v, vO_r, vO_i, sO_0, sO_v, nzp_0, nzp_57, Nat.add_zero, nw_zz, nw_cz]
  refine k_Mo_init (fun J j1 j2 j3 => ?_)
  rw [zzL_t (by decide) (by decide)]
  refine hs rl_pre ol_pre [18] 100 _ _ _ _ _ _ ?_
  simp only [wq_s, wp_s, mq_iconst, mq_bipush, mq_sipush, mq_ldc0, mq_ldc1, mq_ldc_w, mq_lconst, mq_ldc2_w, mq_iload, mq_iload_n, mq_lload, mq_lload_n, mq_aload, mq_aload_n, mq_istore, mq_istore_n, mq_lstore, mq_lstore_n, mq_astore, mq_astore_n, mq_iinc, mq_iadd, mq_isub, mq_imul, mq_iand, mq_ior, mq_ixor, mq_idiv, mq_irem, mq_ineg, mq_ishl, mq_ishr, mq_iushr, mq_ladd, mq_lsub, mq_land, mq_lor, mq_lxor, mq_lshl, mq_lshr, mq_lushr, mq_i2l, mq_l2i, mq_i2b, mq_i2s, mq_lcmp, mq_dupI, mq_dupR, mq_dup2, mq_ifCond, mq_if_icmp, mq_goto, mq_nnN, mq_nnR, mq_get1, mq_get2, mq_get0, mq_get3, mq_put1, mq_put2, mq_put3, mq_put0, mq_iaload, mq_laload, mq_aald, mq_iastore, mq_lastore, mq_aastore, mq_arraylength, mq_newarray, mq_anewarray, mq_new, mq_cpI, mq_cpL, mq_abs, mq_max, mq_min, mq_is0, mq_is1, mq_iv0, mq_iv3, mq_ob, mq_ii0, mq_ii1, mq_tableswitch, mq_lookupswitch, mq_iret, mq_lret, mq_vret, hq_pI, hq_pL, hq_pR, hq_pA0, hq_pA1, hq_lk0, hq_lk1, hq_gI, hq_gIo, hq_gL, hq_gLo, hq_gA, hq_gAo, hq_rf1, hq_rf0, hq_st0_int, hq_st0_ref, hq_st0_long, hq_st1, hq_st2, hq_c0, hq_c_int, hq_c_ref, hq_c_long, hq_cS_eq, hq_cS_ne, hq_cS_lt, hq_cS_ge, hq_cS_gt, hq_cS_le, hq_isO, hq_isA, hq_inS0, hq_inS1, hq_bzI, hq_bzZ, hq_sw0, hq_sw1, hq_cat0, hq_catI, hq_catR, hq_catL, hq_en0, hq_enL, hq_enI, hq_enR, hq_hp, hq_callW, hq_rep0, hq_rep1, hq_tl1, hq_tl0, sh_all, rf_all, Nat.reduceAdd, Nat.reduceSub, Nat.reduceMul, Nat.reduceBEq, ↓reduceIte, Bool.or_false, Bool.or_true, Bool.false_or, Bool.true_or, Bool.false_eq_true, Nat.reduceLT, Nat.reduceLeDiff, Nat.reduceEqDiff, true_or, true_and, and_true, false_or, or_true, eq_self, bI_d0, bI_d1, bI_o, em_1, Classical.not_not, Nat.add_zero, forall_const, not_true_eq_false, false_implies, one_ne0, ne0_one, not_false_eq_true, tl_pre, rm_c, rm_s, rm_l, nx_1, Nne, lO_0, lO_n, lO_v, vO_r, vO_i, sO_0, sO_v, nzp_0, nzp_57, Nat.add_zero, nw_zz, nw_cz]
  refine next J (zzL (fun _ _ => 0) 0 71) (start_inv ?_ ?_ ?_ ?_ ?_ j2 j3 ?_)
  · intro x y hx n14 n15 n57 n58
    rw [j1 x n58, upI_ne n57]
    unfold zzI cpZ
    split
    · rfl
    · rw [if_neg (fun q => n14 q.1), if_neg (fun q => n15 q.1)]
      show (if 0 ≤ x ∧ x < 58 then (0 : Int32) else 0) = 0
      split <;> rfl
  · intro y hy
    rw [j1 14 (by decide), upI_ne (by decide)]
    unfold zzI cpZ
    rw [if_neg (by decide), if_pos ⟨rfl, hy⟩]
  · intro y hy
    rw [j1 15 (by decide), upI_ne (by decide)]
    unfold zzI cpZ
    rw [if_neg (by decide), if_neg (fun q => absurd q.1 (by decide)), if_pos ⟨rfl, hy⟩]
  · intro y hy
    rw [j1 57 (by decide), upI_eq, upd_ne hy]
    unfold zzI cpZ
    rw [if_neg (by decide), if_neg (fun q => absurd q.1 (by decide)), if_neg (fun q => absurd q.1 (by decide))]
    rfl
  · rw [j1 57 (by decide), upI_eq, upd_at]
  · intro x y hx
    unfold zzL
    split <;> rfl
