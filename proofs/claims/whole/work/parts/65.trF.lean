set_option maxRecDepth 100000 in
set_option maxHeartbeats 4000000 in
theorem k_Tr_behind {I L z K} (i w s : Nat) (x : Int64) (hi : i < 40) (hw : w < 5) (hs : s < 2 ^ 30) (h1 : I 42 i = nI w) (h2 : I 43 i = nI s) (hK : K (some (.long (marP x w s &&& L 41 i))) (hp I L z)) : Ct m_Tr_behind [.ref 38, .int (nI i), .long x] (hp I L z) K := by
  refine in_Tr_behind 71 (nB_hp _ _ _) (Nat.le_of_ble_eq_true rfl) rfl (fun P step => ?_)
  refine step [] 600 _ _ _ _ _ _ ?_
  simp only [wq_s, wp_s, mq_iconst, mq_bipush, mq_sipush, mq_ldc0, mq_ldc1, mq_ldc_w, mq_lconst, mq_ldc2_w, mq_iload, mq_iload_n, mq_lload, mq_lload_n, mq_aload, mq_aload_n, mq_istore, mq_istore_n, mq_lstore, mq_lstore_n, mq_astore, mq_astore_n, mq_iinc, mq_iadd, mq_isub, mq_imul, mq_iand, mq_ior, mq_ixor, mq_idiv, mq_irem, mq_ineg, mq_ishl, mq_ishr, mq_iushr, mq_ladd, mq_lsub, mq_land, mq_lor, mq_lxor, mq_lshl, mq_lshr, mq_lushr, mq_i2l, mq_l2i, mq_i2b, mq_i2s, mq_lcmp, mq_dupI, mq_dupR, mq_dup2, mq_ifCond, mq_if_icmp, mq_goto, mq_nnN, mq_nnR, mq_get1, mq_get2, mq_get0, mq_get3, mq_put1, mq_put2, mq_put3, mq_put0, mq_iaload, mq_laload, mq_aald, mq_iastore, mq_lastore, mq_aastore, mq_arraylength, mq_newarray, mq_anewarray, mq_new, mq_cpI, mq_cpL, mq_abs, mq_max, mq_min, mq_is0, mq_is1, mq_iv0, mq_iv3, mq_ob, mq_ii0, mq_ii1, mq_tableswitch, mq_lookupswitch, mq_iret, mq_lret, mq_vret, hq_pI, hq_pL, hq_pR, hq_pA0, hq_pA1, hq_lk0, hq_lk1, hq_gI, hq_gIo, hq_gL, hq_gLo, hq_gA, hq_gAo, hq_rf1, hq_rf0, hq_st0_int, hq_st0_ref, hq_st0_long, hq_st1, hq_st2, hq_c0, hq_c_int, hq_c_ref, hq_c_long, hq_cS_eq, hq_cS_ne, hq_cS_lt, hq_cS_ge, hq_cS_gt, hq_cS_le, hq_isO, hq_isA, hq_inS0, hq_inS1, hq_bzI, hq_bzZ, hq_sw0, hq_sw1, hq_cat0, hq_catI, hq_catR, hq_catL, hq_en0, hq_enL, hq_enI, hq_enR, hq_hp, hq_callW, hq_rep0, hq_rep1, hq_tl1, hq_tl0, sh_all, rf_all, Nat.reduceAdd, Nat.reduceSub, Nat.reduceMul, Nat.reduceBEq, ↓reduceIte, Bool.or_false, Bool.or_true, Bool.false_or, Bool.true_or, Bool.false_eq_true, Nat.reduceLT, Nat.reduceLeDiff, Nat.reduceEqDiff, true_or, true_and, and_true, false_or, or_true, eq_self, bI_d0, bI_d1, bI_o, em_1, Classical.not_not, Nat.add_zero, forall_const, not_true_eq_false, false_implies, one_ne0, ne0_one, not_false_eq_true, tb_Tr_behind]
  simp (disch := omega) only [nI_clamp, vp_in_nI, true_and, h1, h2]
  refine k_Ce_marched x w s hw hs ?_
  refine step [] 600 _ _ _ _ _ _ ?_
  simp only [wq_s, wp_s, mq_iconst, mq_bipush, mq_sipush, mq_ldc0, mq_ldc1, mq_ldc_w, mq_lconst, mq_ldc2_w, mq_iload, mq_iload_n, mq_lload, mq_lload_n, mq_aload, mq_aload_n, mq_istore, mq_istore_n, mq_lstore, mq_lstore_n, mq_astore, mq_astore_n, mq_iinc, mq_iadd, mq_isub, mq_imul, mq_iand, mq_ior, mq_ixor, mq_idiv, mq_irem, mq_ineg, mq_ishl, mq_ishr, mq_iushr, mq_ladd, mq_lsub, mq_land, mq_lor, mq_lxor, mq_lshl, mq_lshr, mq_lushr, mq_i2l, mq_l2i, mq_i2b, mq_i2s, mq_lcmp, mq_dupI, mq_dupR, mq_dup2, mq_ifCond, mq_if_icmp, mq_goto, mq_nnN, mq_nnR, mq_get1, mq_get2, mq_get0, mq_get3, mq_put1, mq_put2, mq_put3, mq_put0, mq_iaload, mq_laload, mq_aald, mq_iastore, mq_lastore, mq_aastore, mq_arraylength, mq_newarray, mq_anewarray, mq_new, mq_cpI, mq_cpL, mq_abs, mq_max, mq_min, mq_is0, mq_is1, mq_iv0, mq_iv3, mq_ob, mq_ii0, mq_ii1, mq_tableswitch, mq_lookupswitch, mq_iret, mq_lret, mq_vret, hq_pI, hq_pL, hq_pR, hq_pA0, hq_pA1, hq_lk0, hq_lk1, hq_gI, hq_gIo, hq_gL, hq_gLo, hq_gA, hq_gAo, hq_rf1, hq_rf0, hq_st0_int, hq_st0_ref, hq_st0_long, hq_st1, hq_st2, hq_c0, hq_c_int, hq_c_ref, hq_c_long, hq_cS_eq, hq_cS_ne, hq_cS_lt, hq_cS_ge, hq_cS_gt, hq_cS_le, hq_isO, hq_isA, hq_inS0, hq_inS1, hq_bzI, hq_bzZ, hq_sw0, hq_sw1, hq_cat0, hq_catI, hq_catR, hq_catL, hq_en0, hq_enL, hq_enI, hq_enR, hq_hp, hq_callW, hq_rep0, hq_rep1, hq_tl1, hq_tl0, sh_all, rf_all, Nat.reduceAdd, Nat.reduceSub, Nat.reduceMul, Nat.reduceBEq, ↓reduceIte, Bool.or_false, Bool.or_true, Bool.false_or, Bool.true_or, Bool.false_eq_true, Nat.reduceLT, Nat.reduceLeDiff, Nat.reduceEqDiff, true_or, true_and, and_true, false_or, or_true, eq_self, bI_d0, bI_d1, bI_o, em_1, Classical.not_not, Nat.add_zero, forall_const, not_true_eq_false, false_implies, one_ne0, ne0_one, not_false_eq_true, tb_Tr_behind]
  simp (disch := omega) only [nI_clamp, vp_in_nI, true_and]
  exact hK
/-- the way and the steps that the trail holds -/
theorem ldR_ws {m : Nat → Int32} {J : Nat → Nat → Int32} {M : Nat → Nat → Int64} {fit : Nat → Int64} {ct : Nat → Bool} {p : Int32} {k : Nat} (hR : rowP m k) (h : ldR m J M fit ct p k) (hf : sub48 (fit k)) : ∃ w s, w < 5 ∧ s < 10 ∧ J 42 (cnP m p k) = nI w ∧ J 43 (cnP m p k) = nI s ∧ (∀ x, sub48 x → marP x w s &&& M 41 (cnP m p k) = Fs m fit ct k x) ∧ (∀ x, sub48 x → marP (x &&& M 41 (cnP m p k)) (bkP w) s = Bs m fit ct k x) := by
  obtain ⟨_, _, k1, a1, b1, g1, g2, g3, g4⟩ := hR
  obtain ⟨h1, h2, h3, h4⟩ := h
  rw [h2, h3, h4]
  unfold Fs Bs
  cases hc : ct k with
  | false =>
    simp only [Bool.false_eq_true, false_and, ↓reduceIte]
    exact ⟨0, 0, by decide, by decide, rfl, rfl, fun x hx => sub48_and hx, fun x hx => sub48_and hx⟩
  | true =>
    simp only [true_and, ↓reduceIte]
    by_cases e : m (289 + 7 * k + 4) = 1
    · have hk7 : k1 < 7 := by unfold okAB at g4; omega
      have hk1 : k1 = 1 := nI_inj (by omega) (by omega) (g1.symm.trans e)
      have hab : a1 < 5 ∧ b1 < 10 := by unfold okAB at g4; omega
      simp only [if_pos e]
      rw [g2, g3, nI_clamp (by omega), nI_clamp (by omega)]
      exact ⟨a1, b1, hab.1, hab.2, rfl, rfl, fun x _ => rfl, fun x _ => rfl⟩
    · simp only [if_neg e]
      exact ⟨0, 0, by decide, by decide, rfl, rfl, fun x _ => rfl, fun x _ => rfl⟩
theorem sub48_Fs {m : Nat → Int32} {fit : Nat → Int64} {ct : Nat → Bool} {k : Nat} {x : Int64} (hf : sub48 (fit k)) (hx : sub48 x) : sub48 (Fs m fit ct k x) := by
  unfold Fs
  split
  · exact sub48_b hf
  · exact hx
theorem sub48_Bs {m : Nat → Int32} {fit : Nat → Int64} {ct : Nat → Bool} {k : Nat} {x : Int64} (hx : sub48 x) : sub48 (Bs m fit ct k x) := by
  unfold Bs
  split
  · split
    · exact sub48_mar (sub48_a hx) _ _
    · exact sub48_a hx
  · exact hx
theorem sub48_ahd {m : Nat → Int32} {fit : Nat → Int64} {ct : Nat → Bool} {p : Int32} (hf : ∀ k, sub48 (fit k)) (k : Nat) : sub48 (ahd m fit ct p k) := by
  induction k with
  | zero => exact sub48_ALL
  | succ k ih =>
    simp only [ahd]
    split
    · exact sub48_Fs (hf k) ih
    · exact ih
theorem sub48_beh {m : Nat → Int32} {fit : Nat → Int64} {ct : Nat → Bool} {p : Int32} (d : Nat) : ∀ k, sub48 (beh m fit ct p k d) := by
  induction d with
  | zero => intro k; exact sub48_ALL
  | succ d ih =>
    intro k
    simp only [beh]
    split
    · exact sub48_Bs (ih (k + 1))
    · exact ih (k + 1)
theorem sub48_set (p : Nat → Bool) : sub48 (setL p 48) := fun i hi => by rw [bit_setL _ _ (by decide)]; simp; omega
set_option maxRecDepth 100000 in
set_option maxHeartbeats 4000000 in
theorem k_Tr_spread {I L z K} (m : Nat → Int32) (fit : Nat → Int64) (ct : Nat → Bool) (p : Int32) (n : Nat) (hn : n ≤ 40) (h1 : I 38 5 = nI (cnP m p n)) (hf : ∀ k, sub48 (fit k)) (hR : ∀ k, k < n → rowP m k) (hl : ∀ k, k < n → m (289 + 7 * k) = p → ldR m I L fit ct p k) (hK : ∀ (N : Nat → Nat → Int64), (∀ a, a ≠ 39 → N a = L a) → (∀ k, k < n → m (289 + 7 * k) = p → N 39 k = ahd m fit ct p (k + 1) &&& beh m fit ct p (k + 1) (n - (k + 1))) → (∀ k, ¬ (k < n ∧ m (289 + 7 * k) = p) → N 39 k = L 39 k) → K none (hp I N z)) : Ct m_Tr_spread [.ref 38] (hp I L z) K := by
  have hcn := cnP_le m p n
  refine in_Tr_spread 71 (nB_hp _ _ _) (Nat.le_of_ble_eq_true rfl) rfl (fun P step => ?_)
  refine step [6, 51] 600 _ _ _ _ _ _ ?_
  simp only [wq_s, wp_s, mq_iconst, mq_bipush, mq_sipush, mq_ldc0, mq_ldc1, mq_ldc_w, mq_lconst, mq_ldc2_w, mq_iload, mq_iload_n, mq_lload, mq_lload_n, mq_aload, mq_aload_n, mq_istore, mq_istore_n, mq_lstore, mq_lstore_n, mq_astore, mq_astore_n, mq_iinc, mq_iadd, mq_isub, mq_imul, mq_iand, mq_ior, mq_ixor, mq_idiv, mq_irem, mq_ineg, mq_ishl, mq_ishr, mq_iushr, mq_ladd, mq_lsub, mq_land, mq_lor, mq_lxor, mq_lshl, mq_lshr, mq_lushr, mq_i2l, mq_l2i, mq_i2b, mq_i2s, mq_lcmp, mq_dupI, mq_dupR, mq_dup2, mq_ifCond, mq_if_icmp, mq_goto, mq_nnN, mq_nnR, mq_get1, mq_get2, mq_get0, mq_get3, mq_put1, mq_put2, mq_put3, mq_put0, mq_iaload, mq_laload, mq_aald, mq_iastore, mq_lastore, mq_aastore, mq_arraylength, mq_newarray, mq_anewarray, mq_new, mq_cpI, mq_cpL, mq_abs, mq_max, mq_min, mq_is0, mq_is1, mq_iv0, mq_iv3, mq_ob, mq_ii0, mq_ii1, mq_tableswitch, mq_lookupswitch, mq_iret, mq_lret, mq_vret, hq_pI, hq_pL, hq_pR, hq_pA0, hq_pA1, hq_lk0, hq_lk1, hq_gI, hq_gIo, hq_gL, hq_gLo, hq_gA, hq_gAo, hq_rf1, hq_rf0, hq_st0_int, hq_st0_ref, hq_st0_long, hq_st1, hq_st2, hq_c0, hq_c_int, hq_c_ref, hq_c_long, hq_cS_eq, hq_cS_ne, hq_cS_lt, hq_cS_ge, hq_cS_gt, hq_cS_le, hq_isO, hq_isA, hq_inS0, hq_inS1, hq_bzI, hq_bzZ, hq_sw0, hq_sw1, hq_cat0, hq_catI, hq_catR, hq_catL, hq_en0, hq_enL, hq_enI, hq_enR, hq_hp, hq_callW, hq_rep0, hq_rep1, hq_tl1, hq_tl0, sh_all, rf_all, Nat.reduceAdd, Nat.reduceSub, Nat.reduceMul, Nat.reduceBEq, ↓reduceIte, Bool.or_false, Bool.or_true, Bool.false_or, Bool.true_or, Bool.false_eq_true, Nat.reduceLT, Nat.reduceLeDiff, Nat.reduceEqDiff, true_or, true_and, and_true, false_or, or_true, eq_self, bI_d0, bI_d1, bI_o, em_1, Classical.not_not, Nat.add_zero, forall_const, not_true_eq_false, false_implies, one_ne0, ne0_one, not_false_eq_true, tb_Tr_spread]
  refine loop_up (Q := fun k => ∀ N : Nat → Nat → Int64, (∀ a, a ≠ 39 → N a = L a) → (∀ j, j < k → m (289 + 7 * j) = p → N 39 j = ahd m fit ct p (j + 1)) → (∀ j, ¬ (j < k ∧ m (289 + 7 * j) = p) → N 39 j = L 39 j) → P 6 [some (.ref 38), some (.long (ahd m fit ct p k)), none, some (.int (nI (cnP m p k))), none, none] [] (I, N, rfx z, nz z) 0 0) n (fun k hk ih N n1 n2 n3 => ?_) (fun N n1 n2 n3 => ?_) 0 (Nat.zero_le _) L (fun _ _ => rfl) (fun j hj => absurd hj (Nat.not_lt_zero _)) (fun _ _ => rfl)
  · have hck := cnP_le m p k
    by_cases e : m (289 + 7 * k) = p
    · have hlt := cnP_lt hk e
      obtain ⟨w, s, hw, hs, e1, e2, e3, e4⟩ := ldR_ws (hR k hk) (hl k hk e) (hf k)
      have e5 := (hl k hk e).1
      simp only [ahd, if_pos e, cnP_y e] at ih
      rw [← nI_s] at ih
      refine step [6, 51] 600 _ _ _ _ _ _ ?_
      simp only [wq_s, wp_s, mq_iconst, mq_bipush, mq_sipush, mq_ldc0, mq_ldc1, mq_ldc_w, mq_lconst, mq_ldc2_w, mq_iload, mq_iload_n, mq_lload, mq_lload_n, mq_aload, mq_aload_n, mq_istore, mq_istore_n, mq_lstore, mq_lstore_n, mq_astore, mq_astore_n, mq_iinc, mq_iadd, mq_isub, mq_imul, mq_iand, mq_ior, mq_ixor, mq_idiv, mq_irem, mq_ineg, mq_ishl, mq_ishr, mq_iushr, mq_ladd, mq_lsub, mq_land, mq_lor, mq_lxor, mq_lshl, mq_lshr, mq_lushr, mq_i2l, mq_l2i, mq_i2b, mq_i2s, mq_lcmp, mq_dupI, mq_dupR, mq_dup2, mq_ifCond, mq_if_icmp, mq_goto, mq_nnN, mq_nnR, mq_get1, mq_get2, mq_get0, mq_get3, mq_put1, mq_put2, mq_put3, mq_put0, mq_iaload, mq_laload, mq_aald, mq_iastore, mq_lastore, mq_aastore, mq_arraylength, mq_newarray, mq_anewarray, mq_new, mq_cpI, mq_cpL, mq_abs, mq_max, mq_min, mq_is0, mq_is1, mq_iv0, mq_iv3, mq_ob, mq_ii0, mq_ii1, mq_tableswitch, mq_lookupswitch, mq_iret, mq_lret, mq_vret, hq_pI, hq_pL, hq_pR, hq_pA0, hq_pA1, hq_lk0, hq_lk1, hq_gI, hq_gIo, hq_gL, hq_gLo, hq_gA, hq_gAo, hq_rf1, hq_rf0, hq_st0_int, hq_st0_ref, hq_st0_long, hq_st1, hq_st2, hq_c0, hq_c_int, hq_c_ref, hq_c_long, hq_cS_eq, hq_cS_ne, hq_cS_lt, hq_cS_ge, hq_cS_gt, hq_cS_le, hq_isO, hq_isA, hq_inS0, hq_inS1, hq_bzI, hq_bzZ, hq_sw0, hq_sw1, hq_cat0, hq_catI, hq_catR, hq_catL, hq_en0, hq_enL, hq_enI, hq_enR, hq_hp, hq_callW, hq_rep0, hq_rep1, hq_tl1, hq_tl0, sh_all, rf_all, Nat.reduceAdd, Nat.reduceSub, Nat.reduceMul, Nat.reduceBEq, ↓reduceIte, Bool.or_false, Bool.or_true, Bool.false_or, Bool.true_or, Bool.false_eq_true, Nat.reduceLT, Nat.reduceLeDiff, Nat.reduceEqDiff, true_or, true_and, and_true, false_or, or_true, eq_self, bI_d0, bI_d1, bI_o, em_1, Classical.not_not, Nat.add_zero, forall_const, not_true_eq_false, false_implies, one_ne0, ne0_one, not_false_eq_true, tb_Tr_spread]
      simp (disch := omega) only [h1, nI_leI]
      refine ⟨fun h => absurd h (by omega), fun _ => k_Tr_behind (cnP m p k) w s _ (by omega) hw (by omega) e1 e2 ?_⟩
      refine step [6, 51] 600 _ _ _ _ _ _ ?_
      simp only [wq_s, wp_s, mq_iconst, mq_bipush, mq_sipush, mq_ldc0, mq_ldc1, mq_ldc_w, mq_lconst, mq_ldc2_w, mq_iload, mq_iload_n, mq_lload, mq_lload_n, mq_aload, mq_aload_n, mq_istore, mq_istore_n, mq_lstore, mq_lstore_n, mq_astore, mq_astore_n, mq_iinc, mq_iadd, mq_isub, mq_imul, mq_iand, mq_ior, mq_ixor, mq_idiv, mq_irem, mq_ineg, mq_ishl, mq_ishr, mq_iushr, mq_ladd, mq_lsub, mq_land, mq_lor, mq_lxor, mq_lshl, mq_lshr, mq_lushr, mq_i2l, mq_l2i, mq_i2b, mq_i2s, mq_lcmp, mq_dupI, mq_dupR, mq_dup2, mq_ifCond, mq_if_icmp, mq_goto, mq_nnN, mq_nnR, mq_get1, mq_get2, mq_get0, mq_get3, mq_put1, mq_put2, mq_put3, mq_put0, mq_iaload, mq_laload, mq_aald, mq_iastore, mq_lastore, mq_aastore, mq_arraylength, mq_newarray, mq_anewarray, mq_new, mq_cpI, mq_cpL, mq_abs, mq_max, mq_min, mq_is0, mq_is1, mq_iv0, mq_iv3, mq_ob, mq_ii0, mq_ii1, mq_tableswitch, mq_lookupswitch, mq_iret, mq_lret, mq_vret, hq_pI, hq_pL, hq_pR, hq_pA0, hq_pA1, hq_lk0, hq_lk1, hq_gI, hq_gIo, hq_gL, hq_gLo, hq_gA, hq_gAo, hq_rf1, hq_rf0, hq_st0_int, hq_st0_ref, hq_st0_long, hq_st1, hq_st2, hq_c0, hq_c_int, hq_c_ref, hq_c_long, hq_cS_eq, hq_cS_ne, hq_cS_lt, hq_cS_ge, hq_cS_gt, hq_cS_le, hq_isO, hq_isA, hq_inS0, hq_inS1, hq_bzI, hq_bzZ, hq_sw0, hq_sw1, hq_cat0, hq_catI, hq_catR, hq_catL, hq_en0, hq_enL, hq_enI, hq_enR, hq_hp, hq_callW, hq_rep0, hq_rep1, hq_tl1, hq_tl0, sh_all, rf_all, Nat.reduceAdd, Nat.reduceSub, Nat.reduceMul, Nat.reduceBEq, ↓reduceIte, Bool.or_false, Bool.or_true, Bool.false_or, Bool.true_or, Bool.false_eq_true, Nat.reduceLT, Nat.reduceLeDiff, Nat.reduceEqDiff, true_or, true_and, and_true, false_or, or_true, eq_self, bI_d0, bI_d1, bI_o, em_1, Classical.not_not, Nat.add_zero, forall_const, not_true_eq_false, false_implies, one_ne0, ne0_one, not_false_eq_true, tb_Tr_spread]
      rw [n1 41 (by decide), e3 _ (sub48_ahd hf k)]
      simp (disch := omega) only [nI_clamp, vp_in_nI, true_and, e5]
      refine ih _ (fun a ha => by rw [upL_ne ha]; exact n1 a ha) (fun j hj ej => ?_) (fun j hj => ?_)
      · rw [upL_eq]; unfold vp_updL
        by_cases e9 : j = k
        · subst e9; rw [if_pos rfl, if_pos e]
        · rw [if_neg e9, n2 j (by omega) ej]; simp only [ahd, if_pos ej]
      · rw [upL_eq]; unfold vp_updL
        rw [if_neg (fun q => hj ⟨by omega, by rw [q]; exact e⟩)]
        exact n3 j (fun q => hj ⟨by omega, q.2⟩)
    · simp only [ahd, if_neg e, cnP_n e] at ih
      refine ih N n1 (fun j hj ej => ?_) (fun j hj => ?_)
      · have : j ≠ k := fun q => e (by rw [← q]; exact ej)
        rw [n2 j (by omega) ej]; simp only [ahd, if_pos ej]
      · exact n3 j (fun q => hj ⟨by omega, q.2⟩)
  · refine step [6, 51] 600 _ _ _ _ _ _ ?_
    simp only [wq_s, wp_s, mq_iconst, mq_bipush, mq_sipush, mq_ldc0, mq_ldc1, mq_ldc_w, mq_lconst, mq_ldc2_w, mq_iload, mq_iload_n, mq_lload, mq_lload_n, mq_aload, mq_aload_n, mq_istore, mq_istore_n, mq_lstore, mq_lstore_n, mq_astore, mq_astore_n, mq_iinc, mq_iadd, mq_isub, mq_imul, mq_iand, mq_ior, mq_ixor, mq_idiv, mq_irem, mq_ineg, mq_ishl, mq_ishr, mq_iushr, mq_ladd, mq_lsub, mq_land, mq_lor, mq_lxor, mq_lshl, mq_lshr, mq_lushr, mq_i2l, mq_l2i, mq_i2b, mq_i2s, mq_lcmp, mq_dupI, mq_dupR, mq_dup2, mq_ifCond, mq_if_icmp, mq_goto, mq_nnN, mq_nnR, mq_get1, mq_get2, mq_get0, mq_get3, mq_put1, mq_put2, mq_put3, mq_put0, mq_iaload, mq_laload, mq_aald, mq_iastore, mq_lastore, mq_aastore, mq_arraylength, mq_newarray, mq_anewarray, mq_new, mq_cpI, mq_cpL, mq_abs, mq_max, mq_min, mq_is0, mq_is1, mq_iv0, mq_iv3, mq_ob, mq_ii0, mq_ii1, mq_tableswitch, mq_lookupswitch, mq_iret, mq_lret, mq_vret, hq_pI, hq_pL, hq_pR, hq_pA0, hq_pA1, hq_lk0, hq_lk1, hq_gI, hq_gIo, hq_gL, hq_gLo, hq_gA, hq_gAo, hq_rf1, hq_rf0, hq_st0_int, hq_st0_ref, hq_st0_long, hq_st1, hq_st2, hq_c0, hq_c_int, hq_c_ref, hq_c_long, hq_cS_eq, hq_cS_ne, hq_cS_lt, hq_cS_ge, hq_cS_gt, hq_cS_le, hq_isO, hq_isA, hq_inS0, hq_inS1, hq_bzI, hq_bzZ, hq_sw0, hq_sw1, hq_cat0, hq_catI, hq_catR, hq_catL, hq_en0, hq_enL, hq_enI, hq_enR, hq_hp, hq_callW, hq_rep0, hq_rep1, hq_tl1, hq_tl0, sh_all, rf_all, Nat.reduceAdd, Nat.reduceSub, Nat.reduceMul, Nat.reduceBEq, ↓reduceIte, Bool.or_false, Bool.or_true, Bool.false_or, Bool.true_or, Bool.false_eq_true, Nat.reduceLT, Nat.reduceLeDiff, Nat.reduceEqDiff, true_or, true_and, and_true, false_or, or_true, eq_self, bI_d0, bI_d1, bI_o, em_1, Classical.not_not, Nat.add_zero, forall_const, not_true_eq_false, false_implies, one_ne0, ne0_one, not_false_eq_true, tb_Tr_spread]
    rw [h1]
    refine ⟨fun _ => ?_, fun h => absurd (Int32.le_refl _) h⟩
    refine loop_up (Q := fun d => ∀ N : Nat → Nat → Int64, (∀ a, a ≠ 39 → N a = L a) → (∀ j, j < n → m (289 + 7 * j) = p → N 39 j = if n - d ≤ j then ahd m fit ct p (j + 1) &&& beh m fit ct p (j + 1) (n - (j + 1)) else ahd m fit ct p (j + 1)) → (∀ j, ¬ (j < n ∧ m (289 + 7 * j) = p) → N 39 j = L 39 j) → P 51 [some (.ref 38), some (.long (ahd m fit ct p n)), none, some (.long (beh m fit ct p (n - d) d)), none, some (.int (nI (cnP m p (n - d)) - 1))] [] (I, N, rfx z, nz z) 0 0) n (fun d hd ih N n1 n2 n3 => ?_) (fun N n1 n2 n3 => ?_) 0 (Nat.zero_le _) N n1 (fun j hj ej => ?_) n3
    · obtain ⟨k, hkd⟩ : ∃ k, k = n - (d + 1) := ⟨_, rfl⟩
      have hk : k < n := by omega
      have hck := cnP_le m p k
      rw [show n - d = k + 1 by omega] at n2 ⊢
      rw [show n - (d + 1) = k by omega] at ih
      by_cases e : m (289 + 7 * k) = p
      · have hlt := cnP_lt hk e
        obtain ⟨w, s, hw, hs, e1, e2, e3, e4⟩ := ldR_ws (hR k hk) (hl k hk e) (hf k)
        have e5 := (hl k hk e).1
        simp only [beh, if_pos e] at ih
        rw [cnP_y e, nI_p]
        have e9 : nI (cnP m p k) + -1 = nI (cnP m p k) - 1 := (Int32.sub_eq_add_neg _ _).symm
        refine step [6, 51] 600 _ _ _ _ _ _ ?_
        simp only [wq_s, wp_s, mq_iconst, mq_bipush, mq_sipush, mq_ldc0, mq_ldc1, mq_ldc_w, mq_lconst, mq_ldc2_w, mq_iload, mq_iload_n, mq_lload, mq_lload_n, mq_aload, mq_aload_n, mq_istore, mq_istore_n, mq_lstore, mq_lstore_n, mq_astore, mq_astore_n, mq_iinc, mq_iadd, mq_isub, mq_imul, mq_iand, mq_ior, mq_ixor, mq_idiv, mq_irem, mq_ineg, mq_ishl, mq_ishr, mq_iushr, mq_ladd, mq_lsub, mq_land, mq_lor, mq_lxor, mq_lshl, mq_lshr, mq_lushr, mq_i2l, mq_l2i, mq_i2b, mq_i2s, mq_lcmp, mq_dupI, mq_dupR, mq_dup2, mq_ifCond, mq_if_icmp, mq_goto, mq_nnN, mq_nnR, mq_get1, mq_get2, mq_get0, mq_get3, mq_put1, mq_put2, mq_put3, mq_put0, mq_iaload, mq_laload, mq_aald, mq_iastore, mq_lastore, mq_aastore, mq_arraylength, mq_newarray, mq_anewarray, mq_new, mq_cpI, mq_cpL, mq_abs, mq_max, mq_min, mq_is0, mq_is1, mq_iv0, mq_iv3, mq_ob, mq_ii0, mq_ii1, mq_tableswitch, mq_lookupswitch, mq_iret, mq_lret, mq_vret, hq_pI, hq_pL, hq_pR, hq_pA0, hq_pA1, hq_lk0, hq_lk1, hq_gI, hq_gIo, hq_gL, hq_gLo, hq_gA, hq_gAo, hq_rf1, hq_rf0, hq_st0_int, hq_st0_ref, hq_st0_long, hq_st1, hq_st2, hq_c0, hq_c_int, hq_c_ref, hq_c_long, hq_cS_eq, hq_cS_ne, hq_cS_lt, hq_cS_ge, hq_cS_gt, hq_cS_le, hq_isO, hq_isA, hq_inS0, hq_inS1, hq_bzI, hq_bzZ, hq_sw0, hq_sw1, hq_cat0, hq_catI, hq_catR, hq_catL, hq_en0, hq_enL, hq_enI, hq_enR, hq_hp, hq_callW, hq_rep0, hq_rep1, hq_tl1, hq_tl0, sh_all, rf_all, Nat.reduceAdd, Nat.reduceSub, Nat.reduceMul, Nat.reduceBEq, ↓reduceIte, Bool.or_false, Bool.or_true, Bool.false_or, Bool.true_or, Bool.false_eq_true, Nat.reduceLT, Nat.reduceLeDiff, Nat.reduceEqDiff, true_or, true_and, and_true, false_or, or_true, eq_self, bI_d0, bI_d1, bI_o, em_1, Classical.not_not, Nat.add_zero, forall_const, not_true_eq_false, false_implies, one_ne0, ne0_one, not_false_eq_true, tb_Tr_spread]
        simp (disch := omega) only [nI_clamp, vp_in_nI, true_and, e5, e1, e2]
        refine ⟨fun h => absurd h (nI_neg _ (by omega)), fun _ => k_Ce_wayBack w hw ?_⟩
        refine step [6, 51] 600 _ _ _ _ _ _ ?_
        simp only [wq_s, wp_s, mq_iconst, mq_bipush, mq_sipush, mq_ldc0, mq_ldc1, mq_ldc_w, mq_lconst, mq_ldc2_w, mq_iload, mq_iload_n, mq_lload, mq_lload_n, mq_aload, mq_aload_n, mq_istore, mq_istore_n, mq_lstore, mq_lstore_n, mq_astore, mq_astore_n, mq_iinc, mq_iadd, mq_isub, mq_imul, mq_iand, mq_ior, mq_ixor, mq_idiv, mq_irem, mq_ineg, mq_ishl, mq_ishr, mq_iushr, mq_ladd, mq_lsub, mq_land, mq_lor, mq_lxor, mq_lshl, mq_lshr, mq_lushr, mq_i2l, mq_l2i, mq_i2b, mq_i2s, mq_lcmp, mq_dupI, mq_dupR, mq_dup2, mq_ifCond, mq_if_icmp, mq_goto, mq_nnN, mq_nnR, mq_get1, mq_get2, mq_get0, mq_get3, mq_put1, mq_put2, mq_put3, mq_put0, mq_iaload, mq_laload, mq_aald, mq_iastore, mq_lastore, mq_aastore, mq_arraylength, mq_newarray, mq_anewarray, mq_new, mq_cpI, mq_cpL, mq_abs, mq_max, mq_min, mq_is0, mq_is1, mq_iv0, mq_iv3, mq_ob, mq_ii0, mq_ii1, mq_tableswitch, mq_lookupswitch, mq_iret, mq_lret, mq_vret, hq_pI, hq_pL, hq_pR, hq_pA0, hq_pA1, hq_lk0, hq_lk1, hq_gI, hq_gIo, hq_gL, hq_gLo, hq_gA, hq_gAo, hq_rf1, hq_rf0, hq_st0_int, hq_st0_ref, hq_st0_long, hq_st1, hq_st2, hq_c0, hq_c_int, hq_c_ref, hq_c_long, hq_cS_eq, hq_cS_ne, hq_cS_lt, hq_cS_ge, hq_cS_gt, hq_cS_le, hq_isO, hq_isA, hq_inS0, hq_inS1, hq_bzI, hq_bzZ, hq_sw0, hq_sw1, hq_cat0, hq_catI, hq_catR, hq_catL, hq_en0, hq_enL, hq_enI, hq_enR, hq_hp, hq_callW, hq_rep0, hq_rep1, hq_tl1, hq_tl0, sh_all, rf_all, Nat.reduceAdd, Nat.reduceSub, Nat.reduceMul, Nat.reduceBEq, ↓reduceIte, Bool.or_false, Bool.or_true, Bool.false_or, Bool.true_or, Bool.false_eq_true, Nat.reduceLT, Nat.reduceLeDiff, Nat.reduceEqDiff, true_or, true_and, and_true, false_or, or_true, eq_self, bI_d0, bI_d1, bI_o, em_1, Classical.not_not, Nat.add_zero, forall_const, not_true_eq_false, false_implies, one_ne0, ne0_one, not_false_eq_true, tb_Tr_spread]
        simp (disch := omega) only [nI_clamp, vp_in_nI, true_and, e5, e1, e2]
        refine k_Ce_marched _ _ s (bk_lt w) (by omega) ?_
        refine step [6, 51] 600 _ _ _ _ _ _ ?_
        simp only [wq_s, wp_s, mq_iconst, mq_bipush, mq_sipush, mq_ldc0, mq_ldc1, mq_ldc_w, mq_lconst, mq_ldc2_w, mq_iload, mq_iload_n, mq_lload, mq_lload_n, mq_aload, mq_aload_n, mq_istore, mq_istore_n, mq_lstore, mq_lstore_n, mq_astore, mq_astore_n, mq_iinc, mq_iadd, mq_isub, mq_imul, mq_iand, mq_ior, mq_ixor, mq_idiv, mq_irem, mq_ineg, mq_ishl, mq_ishr, mq_iushr, mq_ladd, mq_lsub, mq_land, mq_lor, mq_lxor, mq_lshl, mq_lshr, mq_lushr, mq_i2l, mq_l2i, mq_i2b, mq_i2s, mq_lcmp, mq_dupI, mq_dupR, mq_dup2, mq_ifCond, mq_if_icmp, mq_goto, mq_nnN, mq_nnR, mq_get1, mq_get2, mq_get0, mq_get3, mq_put1, mq_put2, mq_put3, mq_put0, mq_iaload, mq_laload, mq_aald, mq_iastore, mq_lastore, mq_aastore, mq_arraylength, mq_newarray, mq_anewarray, mq_new, mq_cpI, mq_cpL, mq_abs, mq_max, mq_min, mq_is0, mq_is1, mq_iv0, mq_iv3, mq_ob, mq_ii0, mq_ii1, mq_tableswitch, mq_lookupswitch, mq_iret, mq_lret, mq_vret, hq_pI, hq_pL, hq_pR, hq_pA0, hq_pA1, hq_lk0, hq_lk1, hq_gI, hq_gIo, hq_gL, hq_gLo, hq_gA, hq_gAo, hq_rf1, hq_rf0, hq_st0_int, hq_st0_ref, hq_st0_long, hq_st1, hq_st2, hq_c0, hq_c_int, hq_c_ref, hq_c_long, hq_cS_eq, hq_cS_ne, hq_cS_lt, hq_cS_ge, hq_cS_gt, hq_cS_le, hq_isO, hq_isA, hq_inS0, hq_inS1, hq_bzI, hq_bzZ, hq_sw0, hq_sw1, hq_cat0, hq_catI, hq_catR, hq_catL, hq_en0, hq_enL, hq_enI, hq_enR, hq_hp, hq_callW, hq_rep0, hq_rep1, hq_tl1, hq_tl0, sh_all, rf_all, Nat.reduceAdd, Nat.reduceSub, Nat.reduceMul, Nat.reduceBEq, ↓reduceIte, Bool.or_false, Bool.or_true, Bool.false_or, Bool.true_or, Bool.false_eq_true, Nat.reduceLT, Nat.reduceLeDiff, Nat.reduceEqDiff, true_or, true_and, and_true, false_or, or_true, eq_self, bI_d0, bI_d1, bI_o, em_1, Classical.not_not, Nat.add_zero, forall_const, not_true_eq_false, false_implies, one_ne0, ne0_one, not_false_eq_true, tb_Tr_spread]
        rw [e9, upL_ne (show 41 ≠ 39 by decide), n1 41 (by decide), e4 _ (sub48_beh d (k + 1))]
        refine ih _ (fun a ha => by rw [upL_ne ha]; exact n1 a ha) (fun j hj ej => ?_) (fun j hj => ?_)
        · rw [upL_eq]; unfold vp_updL
          by_cases e8 : j = k
          · subst e8
            rw [if_pos rfl, if_pos (Nat.le_refl _), n2 j hj ej, if_neg (by omega)]
            rw [show n - (j + 1) = d by omega]
          · rw [if_neg e8, n2 j hj ej]
            by_cases e7 : k + 1 ≤ j
            · rw [if_pos e7, if_pos (by omega)]
            · rw [if_neg e7, if_neg (by omega)]
        · rw [upL_eq]; unfold vp_updL
          rw [if_neg (fun q => hj ⟨by omega, by rw [q]; exact e⟩)]
          exact n3 j hj
      · simp only [beh, if_neg e] at ih
        rw [cnP_n e]
        refine ih N n1 (fun j hj ej => ?_) n3
        have : j ≠ k := fun q => e (by rw [← q]; exact ej)
        rw [n2 j hj ej]
        by_cases e7 : k + 1 ≤ j
        · rw [if_pos e7, if_pos (by omega)]
        · rw [if_neg e7, if_neg (by omega)]
    · rw [show nI (cnP m p (n - n)) - 1 = -1 by rw [Nat.sub_self, show cnP m p 0 = 0 from rfl]; decide]
      refine step [6, 51] 600 _ _ _ _ _ _ ?_
      simp only [wq_s, wp_s, mq_iconst, mq_bipush, mq_sipush, mq_ldc0, mq_ldc1, mq_ldc_w, mq_lconst, mq_ldc2_w, mq_iload, mq_iload_n, mq_lload, mq_lload_n, mq_aload, mq_aload_n, mq_istore, mq_istore_n, mq_lstore, mq_lstore_n, mq_astore, mq_astore_n, mq_iinc, mq_iadd, mq_isub, mq_imul, mq_iand, mq_ior, mq_ixor, mq_idiv, mq_irem, mq_ineg, mq_ishl, mq_ishr, mq_iushr, mq_ladd, mq_lsub, mq_land, mq_lor, mq_lxor, mq_lshl, mq_lshr, mq_lushr, mq_i2l, mq_l2i, mq_i2b, mq_i2s, mq_lcmp, mq_dupI, mq_dupR, mq_dup2, mq_ifCond, mq_if_icmp, mq_goto, mq_nnN, mq_nnR, mq_get1, mq_get2, mq_get0, mq_get3, mq_put1, mq_put2, mq_put3, mq_put0, mq_iaload, mq_laload, mq_aald, mq_iastore, mq_lastore, mq_aastore, mq_arraylength, mq_newarray, mq_anewarray, mq_new, mq_cpI, mq_cpL, mq_abs, mq_max, mq_min, mq_is0, mq_is1, mq_iv0, mq_iv3, mq_ob, mq_ii0, mq_ii1, mq_tableswitch, mq_lookupswitch, mq_iret, mq_lret, mq_vret, hq_pI, hq_pL, hq_pR, hq_pA0, hq_pA1, hq_lk0, hq_lk1, hq_gI, hq_gIo, hq_gL, hq_gLo, hq_gA, hq_gAo, hq_rf1, hq_rf0, hq_st0_int, hq_st0_ref, hq_st0_long, hq_st1, hq_st2, hq_c0, hq_c_int, hq_c_ref, hq_c_long, hq_cS_eq, hq_cS_ne, hq_cS_lt, hq_cS_ge, hq_cS_gt, hq_cS_le, hq_isO, hq_isA, hq_inS0, hq_inS1, hq_bzI, hq_bzZ, hq_sw0, hq_sw1, hq_cat0, hq_catI, hq_catR, hq_catL, hq_en0, hq_enL, hq_enI, hq_enR, hq_hp, hq_callW, hq_rep0, hq_rep1, hq_tl1, hq_tl0, sh_all, rf_all, Nat.reduceAdd, Nat.reduceSub, Nat.reduceMul, Nat.reduceBEq, ↓reduceIte, Bool.or_false, Bool.or_true, Bool.false_or, Bool.true_or, Bool.false_eq_true, Nat.reduceLT, Nat.reduceLeDiff, Nat.reduceEqDiff, true_or, true_and, and_true, false_or, or_true, eq_self, bI_d0, bI_d1, bI_o, em_1, Classical.not_not, Nat.add_zero, forall_const, not_true_eq_false, false_implies, one_ne0, ne0_one, not_false_eq_true, tb_Tr_spread]
      refine ⟨fun _ => hK N n1 (fun k hk ek => ?_) n3, fun h => absurd (by decide) h⟩
      rw [n2 k hk ek, if_pos (by omega)]
    · rw [n2 j hj ej, if_neg (by omega)]
abbrev cFit (m : Nat → Int32) (kl : Nat) (wt : Int32) (k : Nat) : Int64 := setL (fW m kl k wt) 48
set_option maxRecDepth 100000 in
set_option maxHeartbeats 4000000 in
theorem k_Tr_trace {I L z K} (q : Nat) (day : Int32) (hq : q < 5) (hF : CF I) (n kl : Nat) (hn : n ≤ 40) (hs : I 16 7 = nI n) (hs2 : I 58 1595 = nI n) (hk : kl ≤ 40) (h1 : I 2 6 = nI kl) (hK : ∀ (J : Nat → Nat → Int32) (N : Nat → Nat → Int64), trA I J → (∀ a, a ≠ 39 → a ≠ 41 → N a = L a) → (∀ k, k < n → I 58 (289 + 7 * k) = nI q → N 39 k = ahd (I 58) (cFit (I 58) kl (I 15 q)) (cCt I L day) (nI q) (k + 1) &&& beh (I 58) (cFit (I 58) kl (I 15 q)) (cCt I L day) (nI q) (k + 1) (n - (k + 1))) → (∀ k, ¬ (k < n ∧ I 58 (289 + 7 * k) = nI q) → N 39 k = L 39 k) → K none (hp J N z)) : Ct m_Tr_trace [.ref 38, .ref 1, .int (nI q), .int day] (hp I L z) K := by
  refine in_Tr_trace 71 (nB_hp _ _ _) (Nat.le_of_ble_eq_true rfl) rfl (fun P step => ?_)
  refine step [] 600 _ _ _ _ _ _ ?_
  simp only [wq_s, wp_s, mq_iconst, mq_bipush, mq_sipush, mq_ldc0, mq_ldc1, mq_ldc_w, mq_lconst, mq_ldc2_w, mq_iload, mq_iload_n, mq_lload, mq_lload_n, mq_aload, mq_aload_n, mq_istore, mq_istore_n, mq_lstore, mq_lstore_n, mq_astore, mq_astore_n, mq_iinc, mq_iadd, mq_isub, mq_imul, mq_iand, mq_ior, mq_ixor, mq_idiv, mq_irem, mq_ineg, mq_ishl, mq_ishr, mq_iushr, mq_ladd, mq_lsub, mq_land, mq_lor, mq_lxor, mq_lshl, mq_lshr, mq_lushr, mq_i2l, mq_l2i, mq_i2b, mq_i2s, mq_lcmp, mq_dupI, mq_dupR, mq_dup2, mq_ifCond, mq_if_icmp, mq_goto, mq_nnN, mq_nnR, mq_get1, mq_get2, mq_get0, mq_get3, mq_put1, mq_put2, mq_put3, mq_put0, mq_iaload, mq_laload, mq_aald, mq_iastore, mq_lastore, mq_aastore, mq_arraylength, mq_newarray, mq_anewarray, mq_new, mq_cpI, mq_cpL, mq_abs, mq_max, mq_min, mq_is0, mq_is1, mq_iv0, mq_iv3, mq_ob, mq_ii0, mq_ii1, mq_tableswitch, mq_lookupswitch, mq_iret, mq_lret, mq_vret, hq_pI, hq_pL, hq_pR, hq_pA0, hq_pA1, hq_lk0, hq_lk1, hq_gI, hq_gIo, hq_gL, hq_gLo, hq_gA, hq_gAo, hq_rf1, hq_rf0, hq_st0_int, hq_st0_ref, hq_st0_long, hq_st1, hq_st2, hq_c0, hq_c_int, hq_c_ref, hq_c_long, hq_cS_eq, hq_cS_ne, hq_cS_lt, hq_cS_ge, hq_cS_gt, hq_cS_le, hq_isO, hq_isA, hq_inS0, hq_inS1, hq_bzI, hq_bzZ, hq_sw0, hq_sw1, hq_cat0, hq_catI, hq_catR, hq_catL, hq_en0, hq_enL, hq_enI, hq_enR, hq_hp, hq_callW, hq_rep0, hq_rep1, hq_tl1, hq_tl0, sh_all, rf_all, Nat.reduceAdd, Nat.reduceSub, Nat.reduceMul, Nat.reduceBEq, ↓reduceIte, Bool.or_false, Bool.or_true, Bool.false_or, Bool.true_or, Bool.false_eq_true, Nat.reduceLT, Nat.reduceLeDiff, Nat.reduceEqDiff, true_or, true_and, and_true, false_or, or_true, eq_self, bI_d0, bI_d1, bI_o, em_1, Classical.not_not, Nat.add_zero, forall_const, not_true_eq_false, false_implies, one_ne0, ne0_one, not_false_eq_true, tb_Tr_trace]
  simp (disch := omega) only [nI_clamp, vp_in_nI, true_and]
  refine k_Tr_load _ day _ hF n kl hn hs hk h1 (fun J M j1 m1 j2 j3 => ?_)
  refine step [] 600 _ _ _ _ _ _ ?_
  simp only [wq_s, wp_s, mq_iconst, mq_bipush, mq_sipush, mq_ldc0, mq_ldc1, mq_ldc_w, mq_lconst, mq_ldc2_w, mq_iload, mq_iload_n, mq_lload, mq_lload_n, mq_aload, mq_aload_n, mq_istore, mq_istore_n, mq_lstore, mq_lstore_n, mq_astore, mq_astore_n, mq_iinc, mq_iadd, mq_isub, mq_imul, mq_iand, mq_ior, mq_ixor, mq_idiv, mq_irem, mq_ineg, mq_ishl, mq_ishr, mq_iushr, mq_ladd, mq_lsub, mq_land, mq_lor, mq_lxor, mq_lshl, mq_lshr, mq_lushr, mq_i2l, mq_l2i, mq_i2b, mq_i2s, mq_lcmp, mq_dupI, mq_dupR, mq_dup2, mq_ifCond, mq_if_icmp, mq_goto, mq_nnN, mq_nnR, mq_get1, mq_get2, mq_get0, mq_get3, mq_put1, mq_put2, mq_put3, mq_put0, mq_iaload, mq_laload, mq_aald, mq_iastore, mq_lastore, mq_aastore, mq_arraylength, mq_newarray, mq_anewarray, mq_new, mq_cpI, mq_cpL, mq_abs, mq_max, mq_min, mq_is0, mq_is1, mq_iv0, mq_iv3, mq_ob, mq_ii0, mq_ii1, mq_tableswitch, mq_lookupswitch, mq_iret, mq_lret, mq_vret, hq_pI, hq_pL, hq_pR, hq_pA0, hq_pA1, hq_lk0, hq_lk1, hq_gI, hq_gIo, hq_gL, hq_gLo, hq_gA, hq_gAo, hq_rf1, hq_rf0, hq_st0_int, hq_st0_ref, hq_st0_long, hq_st1, hq_st2, hq_c0, hq_c_int, hq_c_ref, hq_c_long, hq_cS_eq, hq_cS_ne, hq_cS_lt, hq_cS_ge, hq_cS_gt, hq_cS_le, hq_isO, hq_isA, hq_inS0, hq_inS1, hq_bzI, hq_bzZ, hq_sw0, hq_sw1, hq_cat0, hq_catI, hq_catR, hq_catL, hq_en0, hq_enL, hq_enI, hq_enR, hq_hp, hq_callW, hq_rep0, hq_rep1, hq_tl1, hq_tl0, sh_all, rf_all, Nat.reduceAdd, Nat.reduceSub, Nat.reduceMul, Nat.reduceBEq, ↓reduceIte, Bool.or_false, Bool.or_true, Bool.false_or, Bool.true_or, Bool.false_eq_true, Nat.reduceLT, Nat.reduceLeDiff, Nat.reduceEqDiff, true_or, true_and, and_true, false_or, or_true, eq_self, bI_d0, bI_d1, bI_o, em_1, Classical.not_not, Nat.add_zero, forall_const, not_true_eq_false, false_implies, one_ne0, ne0_one, not_false_eq_true, tb_Tr_trace]
  refine k_Tr_spread (I 58) (cFit (I 58) kl (I 15 q)) (cCt I L day) (nI q) n hn j2 (fun k => sub48_set _) (CF_rowP hF hn hs2) j3 (fun N n1 n2 n3 => ?_)
  refine step [] 600 _ _ _ _ _ _ ?_
  simp only [wq_s, wp_s, mq_iconst, mq_bipush, mq_sipush, mq_ldc0, mq_ldc1, mq_ldc_w, mq_lconst, mq_ldc2_w, mq_iload, mq_iload_n, mq_lload, mq_lload_n, mq_aload, mq_aload_n, mq_istore, mq_istore_n, mq_lstore, mq_lstore_n, mq_astore, mq_astore_n, mq_iinc, mq_iadd, mq_isub, mq_imul, mq_iand, mq_ior, mq_ixor, mq_idiv, mq_irem, mq_ineg, mq_ishl, mq_ishr, mq_iushr, mq_ladd, mq_lsub, mq_land, mq_lor, mq_lxor, mq_lshl, mq_lshr, mq_lushr, mq_i2l, mq_l2i, mq_i2b, mq_i2s, mq_lcmp, mq_dupI, mq_dupR, mq_dup2, mq_ifCond, mq_if_icmp, mq_goto, mq_nnN, mq_nnR, mq_get1, mq_get2, mq_get0, mq_get3, mq_put1, mq_put2, mq_put3, mq_put0, mq_iaload, mq_laload, mq_aald, mq_iastore, mq_lastore, mq_aastore, mq_arraylength, mq_newarray, mq_anewarray, mq_new, mq_cpI, mq_cpL, mq_abs, mq_max, mq_min, mq_is0, mq_is1, mq_iv0, mq_iv3, mq_ob, mq_ii0, mq_ii1, mq_tableswitch, mq_lookupswitch, mq_iret, mq_lret, mq_vret, hq_pI, hq_pL, hq_pR, hq_pA0, hq_pA1, hq_lk0, hq_lk1, hq_gI, hq_gIo, hq_gL, hq_gLo, hq_gA, hq_gAo, hq_rf1, hq_rf0, hq_st0_int, hq_st0_ref, hq_st0_long, hq_st1, hq_st2, hq_c0, hq_c_int, hq_c_ref, hq_c_long, hq_cS_eq, hq_cS_ne, hq_cS_lt, hq_cS_ge, hq_cS_gt, hq_cS_le, hq_isO, hq_isA, hq_inS0, hq_inS1, hq_bzI, hq_bzZ, hq_sw0, hq_sw1, hq_cat0, hq_catI, hq_catR, hq_catL, hq_en0, hq_enL, hq_enI, hq_enR, hq_hp, hq_callW, hq_rep0, hq_rep1, hq_tl1, hq_tl0, sh_all, rf_all, Nat.reduceAdd, Nat.reduceSub, Nat.reduceMul, Nat.reduceBEq, ↓reduceIte, Bool.or_false, Bool.or_true, Bool.false_or, Bool.true_or, Bool.false_eq_true, Nat.reduceLT, Nat.reduceLeDiff, Nat.reduceEqDiff, true_or, true_and, and_true, false_or, or_true, eq_self, bI_d0, bI_d1, bI_o, em_1, Classical.not_not, Nat.add_zero, forall_const, not_true_eq_false, false_implies, one_ne0, ne0_one, not_false_eq_true, tb_Tr_trace]
  exact hK J N j1 (fun a h39 h41 => by rw [n1 a h39, m1 a h41]) n2 (fun k hk2 => by rw [n3 k hk2, m1 39 (by decide)])
