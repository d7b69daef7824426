-- rows of kit/laws/BITS.to-paste.lean.txt (starting text)
theorem ts_nf {x : Bool} (h : ¬ x = false) : x = true := by cases x <;> first | rfl | exact absurd rfl h
theorem ts_nt {x : Bool} (h : ¬ x = true) : x = false := by cases x <;> first | rfl | exact absurd rfl h
theorem ts_bit {w : Int64} {s : UInt64} {j : Nat} (hj : j < 64) (hs : s.toNat = j) : ((w.toUInt64 >>> s).toInt64 &&& 1) = 0 ↔ w.toBitVec.getLsbD j = false := by
  have e : (w.toUInt64 >>> s).toInt64.toBitVec = w.toBitVec >>> j := by
    apply BitVec.eq_of_toNat_eq
    show (w.toUInt64 >>> s).toNat = _
    rw [UInt64.toNat_shiftRight, hs, Nat.mod_eq_of_lt hj, BitVec.toNat_ushiftRight]
    rfl
  rw [← Int64.toBitVec_inj, Int64.toBitVec_and, e]
  show w.toBitVec >>> j &&& 1#64 = 0#64 ↔ _
  constructor
  · intro h
    have t := congrArg (fun x => x.getLsbD 0) h
    simpa using t
  · intro h
    apply BitVec.eq_of_getLsbD_eq
    intro i hi
    cases i with
    | zero => simp [h]
    | succ i => simp
theorem wb_tb (n : Nat) : (lN n).toBitVec = BitVec.ofNat 64 n := rfl
theorem wb_inj {a b : Int64} (h : a.toBitVec = b.toBitVec) : a = b := Int64.toBitVec_inj.mp h
theorem wb_tn {n : Nat} (h : n < 2 ^ 64) : (lN n).toBitVec.toNat = n := by rw [wb_tb, BitVec.toNat_ofNat, Nat.mod_eq_of_lt h]
theorem wb_of (x : Int64) : ∃ n, n < 2 ^ 64 ∧ x = lN n := ⟨x.toBitVec.toNat, x.toBitVec.isLt, wb_inj (by rw [wb_tb]; simp)⟩
theorem wb_of32 (x : Int32) : ∃ n, n < 2 ^ 32 ∧ x = nI n := ⟨x.toBitVec.toNat, x.toBitVec.isLt, Int32.toBitVec_inj.mp (by show _ = BitVec.ofNat 32 _; simp)⟩
theorem wb_c : ∀ k, k < 64 → ((nI k).toInt64 &&& 63) = lN k := by decide +kernel
theorem wb_cu : ∀ k, k < 64 → ((nI k).toInt64.toUInt64 &&& Int64.toUInt64 63) = UInt64.ofNat k := by decide +kernel
theorem wb_sm : ∀ k, k < 64 → (BitVec.ofNat 64 k).smod 64 = BitVec.ofNat 64 k := by decide +kernel
theorem wb_pw {a b : Nat} (h : a ≤ b) : 2 ^ b = 2 ^ a * 2 ^ (b - a) := by rw [← Nat.pow_add]; congr 1; omega
theorem wb_lt2 {a b : Nat} (h : a < b) : 2 ^ a < 2 ^ b := Nat.pow_lt_pow_right (by decide) h
theorem wb_mod (n : Nat) : lN n = lN (n % 2 ^ 64) := wb_inj (by rw [wb_tb, wb_tb]; apply BitVec.eq_of_toNat_eq; rw [BitVec.toNat_ofNat, BitVec.toNat_ofNat, Nat.mod_mod])
theorem wb_shr {n k : Nat} (hn : n < 2 ^ 64) (hk : k < 64) : ((lN n).toUInt64 >>> ((nI k).toInt64.toUInt64 &&& Int64.toUInt64 63)).toInt64 = lN (n / 2 ^ k) := by
  rw [wb_cu k hk]
  apply wb_inj
  apply BitVec.eq_of_toNat_eq
  show ((lN n).toUInt64 >>> UInt64.ofNat k).toNat = (BitVec.ofNat 64 _).toNat
  have h1 : (UInt64.ofNat k).toNat = k := by
    show (BitVec.ofNat 64 k).toNat = k
    rw [BitVec.toNat_ofNat, Nat.mod_eq_of_lt (by omega)]
  have h2 : (lN n).toUInt64.toNat = n := wb_tn hn
  rw [UInt64.toNat_shiftRight, h1, h2, Nat.mod_eq_of_lt hk, Nat.shiftRight_eq_div_pow, BitVec.toNat_ofNat, Nat.mod_eq_of_lt (Nat.lt_of_le_of_lt (Nat.div_le_self _ _) hn)]
theorem wb_shl (n : Nat) {k : Nat} (hk : k < 64) : lN n <<< ((nI k).toInt64 &&& 63) = lN (n * 2 ^ k) := by
  rw [wb_c k hk]
  apply wb_inj
  rw [Int64.toBitVec_shiftLeft, wb_tb, wb_tb, wb_tb, wb_sm k hk]
  apply BitVec.eq_of_toNat_eq
  rw [BitVec.shiftLeft_eq', BitVec.toNat_shiftLeft, BitVec.toNat_ofNat, BitVec.toNat_ofNat, BitVec.toNat_ofNat, Nat.mod_eq_of_lt (show k < 2 ^ 64 by omega), Nat.shiftLeft_eq, Nat.mul_mod, Nat.mod_mod, ← Nat.mul_mod]
theorem wb_and {a b : Nat} (ha : a < 2 ^ 64) (hb : b < 2 ^ 64) : lN a &&& lN b = lN (a &&& b) := by
  apply wb_inj
  rw [Int64.toBitVec_and, wb_tb, wb_tb, wb_tb]
  apply BitVec.eq_of_toNat_eq
  rw [BitVec.toNat_and, BitVec.toNat_ofNat, BitVec.toNat_ofNat, BitVec.toNat_ofNat, Nat.mod_eq_of_lt ha, Nat.mod_eq_of_lt hb, Nat.mod_eq_of_lt (Nat.and_lt_two_pow _ hb)]
theorem wb_or {a b : Nat} (ha : a < 2 ^ 64) (hb : b < 2 ^ 64) : lN a ||| lN b = lN (a ||| b) := by
  apply wb_inj
  rw [Int64.toBitVec_or, wb_tb, wb_tb, wb_tb]
  apply BitVec.eq_of_toNat_eq
  rw [BitVec.toNat_or, BitVec.toNat_ofNat, BitVec.toNat_ofNat, BitVec.toNat_ofNat, Nat.mod_eq_of_lt ha, Nat.mod_eq_of_lt hb, Nat.mod_eq_of_lt (Nat.or_lt_two_pow ha hb)]
theorem u_tn {n : Nat} (h : n < 2 ^ 64) : (UInt64.ofNat n).toNat = n := Nat.mod_eq_of_lt h
theorem sh_amt {j : Nat} (hj : j < 64) : ((nI j).toInt64.toUInt64 &&& Int64.toUInt64 63).toNat = j := by rw [wb_cu j hj]; exact u_tn (by omega)
theorem bit_ush (w : Int64) {j : Nat} (hj : j < 64) : ((w.toUInt64 >>> ((nI j).toInt64.toUInt64 &&& Int64.toUInt64 63)).toInt64 &&& 1) = 0 ↔ bitL w j = false := ts_bit hj (sh_amt hj)
theorem lcmp_0 (x : Int64) : (lg_cmp x 0 = 0) = (x = 0) := by
  unfold lg_cmp
  by_cases h : x = 0
  · subst h; simp
  · by_cases h2 : x > 0 <;> simp [h, h2]
set_option maxRecDepth 100000 in
set_option maxHeartbeats 4000000 in
theorem k_Rh_hasBit {I L z K} (w : Int64) (j : Nat) (hj : j < 64) (hK : K (some (.int (bI (bitL w j)))) (hp I L z)) : Ct m_Rh_hasBit [.long w, .int (nI j)] (hp I L z) K := by
  refine in_Rh_hasBit 71 (nB_hp _ _ _) (Nat.le_of_ble_eq_true rfl) rfl (fun P step => ?_)
  refine step [] 600 _ _ _ _ _ _ ?_
  simp only [wq_s, wp_s, mq_iconst, mq_bipush, mq_sipush, mq_ldc0, mq_ldc1, mq_ldc_w, mq_lconst, mq_ldc2_w, mq_iload, mq_iload_n, mq_lload, mq_lload_n, mq_aload, mq_aload_n, mq_istore, mq_istore_n, mq_lstore, mq_lstore_n, mq_astore, mq_astore_n, mq_iinc, mq_iadd, mq_isub, mq_imul, mq_iand, mq_ior, mq_ixor, mq_idiv, mq_irem, mq_ineg, mq_ishl, mq_ishr, mq_iushr, mq_ladd, mq_lsub, mq_land, mq_lor, mq_lxor, mq_lshl, mq_lshr, mq_lushr, mq_i2l, mq_l2i, mq_i2b, mq_i2s, mq_lcmp, mq_dupI, mq_dupR, mq_dup2, mq_ifCond, mq_if_icmp, mq_goto, mq_nnN, mq_nnR, mq_get1, mq_get2, mq_get0, mq_get3, mq_put1, mq_put2, mq_put3, mq_put0, mq_iaload, mq_laload, mq_aald, mq_iastore, mq_lastore, mq_aastore, mq_arraylength, mq_newarray, mq_anewarray, mq_new, mq_cpI, mq_cpL, mq_abs, mq_max, mq_min, mq_is0, mq_is1, mq_iv0, mq_iv3, mq_ob, mq_ii0, mq_ii1, mq_tableswitch, mq_lookupswitch, mq_iret, mq_lret, mq_vret, hq_pI, hq_pL, hq_pR, hq_pA0, hq_pA1, hq_lk0, hq_lk1, hq_gI, hq_gIo, hq_gL, hq_gLo, hq_gA, hq_gAo, hq_rf1, hq_rf0, hq_st0_int, hq_st0_ref, hq_st0_long, hq_st1, hq_st2, hq_c0, hq_c_int, hq_c_ref, hq_c_long, hq_cS_eq, hq_cS_ne, hq_cS_lt, hq_cS_ge, hq_cS_gt, hq_cS_le, hq_isO, hq_isA, hq_inS0, hq_inS1, hq_bzI, hq_bzZ, hq_sw0, hq_sw1, hq_cat0, hq_catI, hq_catR, hq_catL, hq_en0, hq_enL, hq_enI, hq_enR, hq_hp, hq_callW, hq_rep0, hq_rep1, hq_tl1, hq_tl0, sh_all, rf_all, Nat.reduceAdd, Nat.reduceSub, Nat.reduceMul, Nat.reduceBEq, ↓reduceIte, Bool.or_false, Bool.or_true, Bool.false_or, Bool.true_or, Bool.false_eq_true, Nat.reduceLT, Nat.reduceLeDiff, Nat.reduceEqDiff, true_or, true_and, and_true, false_or, or_true, eq_self, bI_d0, bI_d1, bI_o, em_1, Classical.not_not, Nat.add_zero, tb_Rh_hasBit]
  simp only [lcmp_0, bit_ush w hj]
  refine ⟨fun h => kI hK (by rw [h]; rfl), fun h => kI hK (by rw [ts_nf h]; rfl)⟩
set_option maxRecDepth 100000 in
set_option maxHeartbeats 4000000 in
theorem k_Ro_isStruck {I L z K} (r : Nat) (hr : r < 64) (hK : K (some (.int (bI (bitL (L 16 6) r)))) (hp I L z)) : Ct m_Ro_isStruck [.ref 16, .int (nI r)] (hp I L z) K := by
  refine in_Ro_isStruck 71 (nB_hp _ _ _) (Nat.le_of_ble_eq_true rfl) rfl (fun P step => ?_)
  refine step [] 600 _ _ _ _ _ _ ?_
  simp only [wq_s, wp_s, mq_iconst, mq_bipush, mq_sipush, mq_ldc0, mq_ldc1, mq_ldc_w, mq_lconst, mq_ldc2_w, mq_iload, mq_iload_n, mq_lload, mq_lload_n, mq_aload, mq_aload_n, mq_istore, mq_istore_n, mq_lstore, mq_lstore_n, mq_astore, mq_astore_n, mq_iinc, mq_iadd, mq_isub, mq_imul, mq_iand, mq_ior, mq_ixor, mq_idiv, mq_irem, mq_ineg, mq_ishl, mq_ishr, mq_iushr, mq_ladd, mq_lsub, mq_land, mq_lor, mq_lxor, mq_lshl, mq_lshr, mq_lushr, mq_i2l, mq_l2i, mq_i2b, mq_i2s, mq_lcmp, mq_dupI, mq_dupR, mq_dup2, mq_ifCond, mq_if_icmp, mq_goto, mq_nnN, mq_nnR, mq_get1, mq_get2, mq_get0, mq_get3, mq_put1, mq_put2, mq_put3, mq_put0, mq_iaload, mq_laload, mq_aald, mq_iastore, mq_lastore, mq_aastore, mq_arraylength, mq_newarray, mq_anewarray, mq_new, mq_cpI, mq_cpL, mq_abs, mq_max, mq_min, mq_is0, mq_is1, mq_iv0, mq_iv3, mq_ob, mq_ii0, mq_ii1, mq_tableswitch, mq_lookupswitch, mq_iret, mq_lret, mq_vret, hq_pI, hq_pL, hq_pR, hq_pA0, hq_pA1, hq_lk0, hq_lk1, hq_gI, hq_gIo, hq_gL, hq_gLo, hq_gA, hq_gAo, hq_rf1, hq_rf0, hq_st0_int, hq_st0_ref, hq_st0_long, hq_st1, hq_st2, hq_c0, hq_c_int, hq_c_ref, hq_c_long, hq_cS_eq, hq_cS_ne, hq_cS_lt, hq_cS_ge, hq_cS_gt, hq_cS_le, hq_isO, hq_isA, hq_inS0, hq_inS1, hq_bzI, hq_bzZ, hq_sw0, hq_sw1, hq_cat0, hq_catI, hq_catR, hq_catL, hq_en0, hq_enL, hq_enI, hq_enR, hq_hp, hq_callW, hq_rep0, hq_rep1, hq_tl1, hq_tl0, sh_all, rf_all, Nat.reduceAdd, Nat.reduceSub, Nat.reduceMul, Nat.reduceBEq, ↓reduceIte, Bool.or_false, Bool.or_true, Bool.false_or, Bool.true_or, Bool.false_eq_true, Nat.reduceLT, Nat.reduceLeDiff, Nat.reduceEqDiff, true_or, true_and, and_true, false_or, or_true, eq_self, bI_d0, bI_d1, bI_o, em_1, Classical.not_not, Nat.add_zero, tb_Ro_isStruck]
  refine k_Rh_hasBit _ r hr ?_
  refine step [] 600 _ _ _ _ _ _ ?_
  simp only [wq_s, wp_s, mq_iconst, mq_bipush, mq_sipush, mq_ldc0, mq_ldc1, mq_ldc_w, mq_lconst, mq_ldc2_w, mq_iload, mq_iload_n, mq_lload, mq_lload_n, mq_aload, mq_aload_n, mq_istore, mq_istore_n, mq_lstore, mq_lstore_n, mq_astore, mq_astore_n, mq_iinc, mq_iadd, mq_isub, mq_imul, mq_iand, mq_ior, mq_ixor, mq_idiv, mq_irem, mq_ineg, mq_ishl, mq_ishr, mq_iushr, mq_ladd, mq_lsub, mq_land, mq_lor, mq_lxor, mq_lshl, mq_lshr, mq_lushr, mq_i2l, mq_l2i, mq_i2b, mq_i2s, mq_lcmp, mq_dupI, mq_dupR, mq_dup2, mq_ifCond, mq_if_icmp, mq_goto, mq_nnN, mq_nnR, mq_get1, mq_get2, mq_get0, mq_get3, mq_put1, mq_put2, mq_put3, mq_put0, mq_iaload, mq_laload, mq_aald, mq_iastore, mq_lastore, mq_aastore, mq_arraylength, mq_newarray, mq_anewarray, mq_new, mq_cpI, mq_cpL, mq_abs, mq_max, mq_min, mq_is0, mq_is1, mq_iv0, mq_iv3, mq_ob, mq_ii0, mq_ii1, mq_tableswitch, mq_lookupswitch, mq_iret, mq_lret, mq_vret, hq_pI, hq_pL, hq_pR, hq_pA0, hq_pA1, hq_lk0, hq_lk1, hq_gI, hq_gIo, hq_gL, hq_gLo, hq_gA, hq_gAo, hq_rf1, hq_rf0, hq_st0_int, hq_st0_ref, hq_st0_long, hq_st1, hq_st2, hq_c0, hq_c_int, hq_c_ref, hq_c_long, hq_cS_eq, hq_cS_ne, hq_cS_lt, hq_cS_ge, hq_cS_gt, hq_cS_le, hq_isO, hq_isA, hq_inS0, hq_inS1, hq_bzI, hq_bzZ, hq_sw0, hq_sw1, hq_cat0, hq_catI, hq_catR, hq_catL, hq_en0, hq_enL, hq_enI, hq_enR, hq_hp, hq_callW, hq_rep0, hq_rep1, hq_tl1, hq_tl0, sh_all, rf_all, Nat.reduceAdd, Nat.reduceSub, Nat.reduceMul, Nat.reduceBEq, ↓reduceIte, Bool.or_false, Bool.or_true, Bool.false_or, Bool.true_or, Bool.false_eq_true, Nat.reduceLT, Nat.reduceLeDiff, Nat.reduceEqDiff, true_or, true_and, and_true, false_or, or_true, eq_self, bI_d0, bI_d1, bI_o, em_1, Classical.not_not, Nat.add_zero, tb_Ro_isStruck]
  exact hK
/-- how many of the first n numbers are of a kind -/
def cntN (p : Nat → Bool) : Nat → Nat
  | 0 => 0
  | n + 1 => cntN p n + (if p n = true then 1 else 0)
theorem cntN_le (p : Nat → Bool) (n : Nat) : cntN p n ≤ n := by
  induction n with
  | zero => exact Nat.le_refl _
  | succ n ih => simp only [cntN]; split <;> omega
theorem cntN_cg {p q : Nat → Bool} (n : Nat) (h : ∀ i, i < n → p i = q i) : cntN p n = cntN q n := by
  induction n with
  | zero => rfl
  | succ n ih => simp only [cntN, ih (fun i hi => h i (by omega)), h n (by omega)]
theorem nI_s (n : Nat) : nI n + 1 = nI (n + 1) := nI_1 n
set_option maxRecDepth 100000 in
set_option maxHeartbeats 4000000 in
theorem k_Ro_inBookOf {I L z K} (p : Int32) (n : Nat) (hn : n ≤ 40) (h1 : I 16 7 = nI n) (hK : K (some (.int (nI (cntN (fun r => decide (I 20 r = p)) n)))) (hp I L z)) : Ct m_Ro_inBookOf [.ref 16, .int p] (hp I L z) K := by
  refine in_Ro_inBookOf 71 (nB_hp _ _ _) (Nat.le_of_ble_eq_true rfl) rfl (fun P step => ?_)
  refine step [4] 600 _ _ _ _ _ _ ?_
  simp only [wq_s, wp_s, mq_iconst, mq_bipush, mq_sipush, mq_ldc0, mq_ldc1, mq_ldc_w, mq_lconst, mq_ldc2_w, mq_iload, mq_iload_n, mq_lload, mq_lload_n, mq_aload, mq_aload_n, mq_istore, mq_istore_n, mq_lstore, mq_lstore_n, mq_astore, mq_astore_n, mq_iinc, mq_iadd, mq_isub, mq_imul, mq_iand, mq_ior, mq_ixor, mq_idiv, mq_irem, mq_ineg, mq_ishl, mq_ishr, mq_iushr, mq_ladd, mq_lsub, mq_land, mq_lor, mq_lxor, mq_lshl, mq_lshr, mq_lushr, mq_i2l, mq_l2i, mq_i2b, mq_i2s, mq_lcmp, mq_dupI, mq_dupR, mq_dup2, mq_ifCond, mq_if_icmp, mq_goto, mq_nnN, mq_nnR, mq_get1, mq_get2, mq_get0, mq_get3, mq_put1, mq_put2, mq_put3, mq_put0, mq_iaload, mq_laload, mq_aald, mq_iastore, mq_lastore, mq_aastore, mq_arraylength, mq_newarray, mq_anewarray, mq_new, mq_cpI, mq_cpL, mq_abs, mq_max, mq_min, mq_is0, mq_is1, mq_iv0, mq_iv3, mq_ob, mq_ii0, mq_ii1, mq_tableswitch, mq_lookupswitch, mq_iret, mq_lret, mq_vret, hq_pI, hq_pL, hq_pR, hq_pA0, hq_pA1, hq_lk0, hq_lk1, hq_gI, hq_gIo, hq_gL, hq_gLo, hq_gA, hq_gAo, hq_rf1, hq_rf0, hq_st0_int, hq_st0_ref, hq_st0_long, hq_st1, hq_st2, hq_c0, hq_c_int, hq_c_ref, hq_c_long, hq_cS_eq, hq_cS_ne, hq_cS_lt, hq_cS_ge, hq_cS_gt, hq_cS_le, hq_isO, hq_isA, hq_inS0, hq_inS1, hq_bzI, hq_bzZ, hq_sw0, hq_sw1, hq_cat0, hq_catI, hq_catR, hq_catL, hq_en0, hq_enL, hq_enI, hq_enR, hq_hp, hq_callW, hq_rep0, hq_rep1, hq_tl1, hq_tl0, sh_all, rf_all, Nat.reduceAdd, Nat.reduceSub, Nat.reduceMul, Nat.reduceBEq, ↓reduceIte, Bool.or_false, Bool.or_true, Bool.false_or, Bool.true_or, Bool.false_eq_true, Nat.reduceLT, Nat.reduceLeDiff, Nat.reduceEqDiff, true_or, true_and, and_true, false_or, or_true, eq_self, bI_d0, bI_d1, bI_o, em_1, Classical.not_not, Nat.add_zero, tb_Ro_inBookOf]
  refine loop_up (Q := fun k => P 4 [some (.ref 16), some (.int p), some (.int (nI (cntN (fun r => decide (I 20 r = p)) k))), some (.int (nI k))] [] (I, L, rfx z, nz z) 0 0) n (fun k hk hn2 => ?_) ?_ 0 (Nat.zero_le _)
  · refine step [4] 600 _ _ _ _ _ _ ?_
    simp only [wq_s, wp_s, mq_iconst, mq_bipush, mq_sipush, mq_ldc0, mq_ldc1, mq_ldc_w, mq_lconst, mq_ldc2_w, mq_iload, mq_iload_n, mq_lload, mq_lload_n, mq_aload, mq_aload_n, mq_istore, mq_istore_n, mq_lstore, mq_lstore_n, mq_astore, mq_astore_n, mq_iinc, mq_iadd, mq_isub, mq_imul, mq_iand, mq_ior, mq_ixor, mq_idiv, mq_irem, mq_ineg, mq_ishl, mq_ishr, mq_iushr, mq_ladd, mq_lsub, mq_land, mq_lor, mq_lxor, mq_lshl, mq_lshr, mq_lushr, mq_i2l, mq_l2i, mq_i2b, mq_i2s, mq_lcmp, mq_dupI, mq_dupR, mq_dup2, mq_ifCond, mq_if_icmp, mq_goto, mq_nnN, mq_nnR, mq_get1, mq_get2, mq_get0, mq_get3, mq_put1, mq_put2, mq_put3, mq_put0, mq_iaload, mq_laload, mq_aald, mq_iastore, mq_lastore, mq_aastore, mq_arraylength, mq_newarray, mq_anewarray, mq_new, mq_cpI, mq_cpL, mq_abs, mq_max, mq_min, mq_is0, mq_is1, mq_iv0, mq_iv3, mq_ob, mq_ii0, mq_ii1, mq_tableswitch, mq_lookupswitch, mq_iret, mq_lret, mq_vret, hq_pI, hq_pL, hq_pR, hq_pA0, hq_pA1, hq_lk0, hq_lk1, hq_gI, hq_gIo, hq_gL, hq_gLo, hq_gA, hq_gAo, hq_rf1, hq_rf0, hq_st0_int, hq_st0_ref, hq_st0_long, hq_st1, hq_st2, hq_c0, hq_c_int, hq_c_ref, hq_c_long, hq_cS_eq, hq_cS_ne, hq_cS_lt, hq_cS_ge, hq_cS_gt, hq_cS_le, hq_isO, hq_isA, hq_inS0, hq_inS1, hq_bzI, hq_bzZ, hq_sw0, hq_sw1, hq_cat0, hq_catI, hq_catR, hq_catL, hq_en0, hq_enL, hq_enI, hq_enR, hq_hp, hq_callW, hq_rep0, hq_rep1, hq_tl1, hq_tl0, sh_all, rf_all, Nat.reduceAdd, Nat.reduceSub, Nat.reduceMul, Nat.reduceBEq, ↓reduceIte, Bool.or_false, Bool.or_true, Bool.false_or, Bool.true_or, Bool.false_eq_true, Nat.reduceLT, Nat.reduceLeDiff, Nat.reduceEqDiff, true_or, true_and, and_true, false_or, or_true, eq_self, bI_d0, bI_d1, bI_o, em_1, Classical.not_not, Nat.add_zero, tb_Ro_inBookOf]
    simp (disch := omega) only [h1, nI_leI, nI_clamp, vp_in_nI, true_and]
    refine ⟨fun h => absurd h (by omega), fun _ => ?_⟩
    simp only [cntN, decide_eq_true_eq] at hn2
    refine ⟨fun h => ?_, fun h => ?_⟩
    · rw [if_neg h, ← nI_s] at hn2; exact hn2
    · rw [if_pos h, ← nI_s, ← nI_s] at hn2; exact hn2
  · refine step [4] 600 _ _ _ _ _ _ ?_
    simp only [wq_s, wp_s, mq_iconst, mq_bipush, mq_sipush, mq_ldc0, mq_ldc1, mq_ldc_w, mq_lconst, mq_ldc2_w, mq_iload, mq_iload_n, mq_lload, mq_lload_n, mq_aload, mq_aload_n, mq_istore, mq_istore_n, mq_lstore, mq_lstore_n, mq_astore, mq_astore_n, mq_iinc, mq_iadd, mq_isub, mq_imul, mq_iand, mq_ior, mq_ixor, mq_idiv, mq_irem, mq_ineg, mq_ishl, mq_ishr, mq_iushr, mq_ladd, mq_lsub, mq_land, mq_lor, mq_lxor, mq_lshl, mq_lshr, mq_lushr, mq_i2l, mq_l2i, mq_i2b, mq_i2s, mq_lcmp, mq_dupI, mq_dupR, mq_dup2, mq_ifCond, mq_if_icmp, mq_goto, mq_nnN, mq_nnR, mq_get1, mq_get2, mq_get0, mq_get3, mq_put1, mq_put2, mq_put3, mq_put0, mq_iaload, mq_laload, mq_aald, mq_iastore, mq_lastore, mq_aastore, mq_arraylength, mq_newarray, mq_anewarray, mq_new, mq_cpI, mq_cpL, mq_abs, mq_max, mq_min, mq_is0, mq_is1, mq_iv0, mq_iv3, mq_ob, mq_ii0, mq_ii1, mq_tableswitch, mq_lookupswitch, mq_iret, mq_lret, mq_vret, hq_pI, hq_pL, hq_pR, hq_pA0, hq_pA1, hq_lk0, hq_lk1, hq_gI, hq_gIo, hq_gL, hq_gLo, hq_gA, hq_gAo, hq_rf1, hq_rf0, hq_st0_int, hq_st0_ref, hq_st0_long, hq_st1, hq_st2, hq_c0, hq_c_int, hq_c_ref, hq_c_long, hq_cS_eq, hq_cS_ne, hq_cS_lt, hq_cS_ge, hq_cS_gt, hq_cS_le, hq_isO, hq_isA, hq_inS0, hq_inS1, hq_bzI, hq_bzZ, hq_sw0, hq_sw1, hq_cat0, hq_catI, hq_catR, hq_catL, hq_en0, hq_enL, hq_enI, hq_enR, hq_hp, hq_callW, hq_rep0, hq_rep1, hq_tl1, hq_tl0, sh_all, rf_all, Nat.reduceAdd, Nat.reduceSub, Nat.reduceMul, Nat.reduceBEq, ↓reduceIte, Bool.or_false, Bool.or_true, Bool.false_or, Bool.true_or, Bool.false_eq_true, Nat.reduceLT, Nat.reduceLeDiff, Nat.reduceEqDiff, true_or, true_and, and_true, false_or, or_true, eq_self, bI_d0, bI_d1, bI_o, em_1, Classical.not_not, Nat.add_zero, tb_Ro_inBookOf]
    simp only [h1]
    exact ⟨fun _ => hK, fun h => absurd (Int32.le_refl _) h⟩
set_option maxRecDepth 100000 in
set_option maxHeartbeats 4000000 in
theorem k_Mo_rowsOf {I L z K} (p : Int32) (n : Nat) (hn : n ≤ 40) (h1 : I 58 1595 = nI n) (hK : K (some (.int (nI (cntN (fun r => decide (I 58 (289 + 7 * r) = p)) n)))) (hp I L z)) : Ct m_Mo_rowsOf [.ref 57, .int p] (hp I L z) K := by
  refine in_Mo_rowsOf 71 (nB_hp _ _ _) (Nat.le_of_ble_eq_true rfl) rfl (fun P step => ?_)
  refine step [4] 600 _ _ _ _ _ _ ?_
  simp only [wq_s, wp_s, mq_iconst, mq_bipush, mq_sipush, mq_ldc0, mq_ldc1, mq_ldc_w, mq_lconst, mq_ldc2_w, mq_iload, mq_iload_n, mq_lload, mq_lload_n, mq_aload, mq_aload_n, mq_istore, mq_istore_n, mq_lstore, mq_lstore_n, mq_astore, mq_astore_n, mq_iinc, mq_iadd, mq_isub, mq_imul, mq_iand, mq_ior, mq_ixor, mq_idiv, mq_irem, mq_ineg, mq_ishl, mq_ishr, mq_iushr, mq_ladd, mq_lsub, mq_land, mq_lor, mq_lxor, mq_lshl, mq_lshr, mq_lushr, mq_i2l, mq_l2i, mq_i2b, mq_i2s, mq_lcmp, mq_dupI, mq_dupR, mq_dup2, mq_ifCond, mq_if_icmp, mq_goto, mq_nnN, mq_nnR, mq_get1, mq_get2, mq_get0, mq_get3, mq_put1, mq_put2, mq_put3, mq_put0, mq_iaload, mq_laload, mq_aald, mq_iastore, mq_lastore, mq_aastore, mq_arraylength, mq_newarray, mq_anewarray, mq_new, mq_cpI, mq_cpL, mq_abs, mq_max, mq_min, mq_is0, mq_is1, mq_iv0, mq_iv3, mq_ob, mq_ii0, mq_ii1, mq_tableswitch, mq_lookupswitch, mq_iret, mq_lret, mq_vret, hq_pI, hq_pL, hq_pR, hq_pA0, hq_pA1, hq_lk0, hq_lk1, hq_gI, hq_gIo, hq_gL, hq_gLo, hq_gA, hq_gAo, hq_rf1, hq_rf0, hq_st0_int, hq_st0_ref, hq_st0_long, hq_st1, hq_st2, hq_c0, hq_c_int, hq_c_ref, hq_c_long, hq_cS_eq, hq_cS_ne, hq_cS_lt, hq_cS_ge, hq_cS_gt, hq_cS_le, hq_isO, hq_isA, hq_inS0, hq_inS1, hq_bzI, hq_bzZ, hq_sw0, hq_sw1, hq_cat0, hq_catI, hq_catR, hq_catL, hq_en0, hq_enL, hq_enI, hq_enR, hq_hp, hq_callW, hq_rep0, hq_rep1, hq_tl1, hq_tl0, sh_all, rf_all, Nat.reduceAdd, Nat.reduceSub, Nat.reduceMul, Nat.reduceBEq, ↓reduceIte, Bool.or_false, Bool.or_true, Bool.false_or, Bool.true_or, Bool.false_eq_true, Nat.reduceLT, Nat.reduceLeDiff, Nat.reduceEqDiff, true_or, true_and, and_true, false_or, or_true, eq_self, bI_d0, bI_d1, bI_o, em_1, Classical.not_not, Nat.add_zero, tb_Mo_rowsOf]
  refine loop_up (Q := fun k => P 4 [some (.ref 57), some (.int p), some (.int (nI (cntN (fun r => decide (I 58 (289 + 7 * r) = p)) k))), some (.int (nI k))] [] (I, L, rfx z, nz z) 0 0) n (fun k hk hn2 => ?_) ?_ 0 (Nat.zero_le _)
  · refine step [4] 600 _ _ _ _ _ _ ?_
    simp only [wq_s, wp_s, mq_iconst, mq_bipush, mq_sipush, mq_ldc0, mq_ldc1, mq_ldc_w, mq_lconst, mq_ldc2_w, mq_iload, mq_iload_n, mq_lload, mq_lload_n, mq_aload, mq_aload_n, mq_istore, mq_istore_n, mq_lstore, mq_lstore_n, mq_astore, mq_astore_n, mq_iinc, mq_iadd, mq_isub, mq_imul, mq_iand, mq_ior, mq_ixor, mq_idiv, mq_irem, mq_ineg, mq_ishl, mq_ishr, mq_iushr, mq_ladd, mq_lsub, mq_land, mq_lor, mq_lxor, mq_lshl, mq_lshr, mq_lushr, mq_i2l, mq_l2i, mq_i2b, mq_i2s, mq_lcmp, mq_dupI, mq_dupR, mq_dup2, mq_ifCond, mq_if_icmp, mq_goto, mq_nnN, mq_nnR, mq_get1, mq_get2, mq_get0, mq_get3, mq_put1, mq_put2, mq_put3, mq_put0, mq_iaload, mq_laload, mq_aald, mq_iastore, mq_lastore, mq_aastore, mq_arraylength, mq_newarray, mq_anewarray, mq_new, mq_cpI, mq_cpL, mq_abs, mq_max, mq_min, mq_is0, mq_is1, mq_iv0, mq_iv3, mq_ob, mq_ii0, mq_ii1, mq_tableswitch, mq_lookupswitch, mq_iret, mq_lret, mq_vret, hq_pI, hq_pL, hq_pR, hq_pA0, hq_pA1, hq_lk0, hq_lk1, hq_gI, hq_gIo, hq_gL, hq_gLo, hq_gA, hq_gAo, hq_rf1, hq_rf0, hq_st0_int, hq_st0_ref, hq_st0_long, hq_st1, hq_st2, hq_c0, hq_c_int, hq_c_ref, hq_c_long, hq_cS_eq, hq_cS_ne, hq_cS_lt, hq_cS_ge, hq_cS_gt, hq_cS_le, hq_isO, hq_isA, hq_inS0, hq_inS1, hq_bzI, hq_bzZ, hq_sw0, hq_sw1, hq_cat0, hq_catI, hq_catR, hq_catL, hq_en0, hq_enL, hq_enI, hq_enR, hq_hp, hq_callW, hq_rep0, hq_rep1, hq_tl1, hq_tl0, sh_all, rf_all, Nat.reduceAdd, Nat.reduceSub, Nat.reduceMul, Nat.reduceBEq, ↓reduceIte, Bool.or_false, Bool.or_true, Bool.false_or, Bool.true_or, Bool.false_eq_true, Nat.reduceLT, Nat.reduceLeDiff, Nat.reduceEqDiff, true_or, true_and, and_true, false_or, or_true, eq_self, bI_d0, bI_d1, bI_o, em_1, Classical.not_not, Nat.add_zero, tb_Mo_rowsOf]
    simp (disch := omega) only [in_lit (show 1595 < 1598 by decide) (by decide), cl_lit (show 1595 < 2 ^ 31 by decide), h1, nI_leI, true_and]
    refine ⟨fun h => absurd h (by omega), fun _ => k_Mo_row k 0 (by omega) (by decide) ?_⟩
    refine step [4] 600 _ _ _ _ _ _ ?_
    simp only [wq_s, wp_s, mq_iconst, mq_bipush, mq_sipush, mq_ldc0, mq_ldc1, mq_ldc_w, mq_lconst, mq_ldc2_w, mq_iload, mq_iload_n, mq_lload, mq_lload_n, mq_aload, mq_aload_n, mq_istore, mq_istore_n, mq_lstore, mq_lstore_n, mq_astore, mq_astore_n, mq_iinc, mq_iadd, mq_isub, mq_imul, mq_iand, mq_ior, mq_ixor, mq_idiv, mq_irem, mq_ineg, mq_ishl, mq_ishr, mq_iushr, mq_ladd, mq_lsub, mq_land, mq_lor, mq_lxor, mq_lshl, mq_lshr, mq_lushr, mq_i2l, mq_l2i, mq_i2b, mq_i2s, mq_lcmp, mq_dupI, mq_dupR, mq_dup2, mq_ifCond, mq_if_icmp, mq_goto, mq_nnN, mq_nnR, mq_get1, mq_get2, mq_get0, mq_get3, mq_put1, mq_put2, mq_put3, mq_put0, mq_iaload, mq_laload, mq_aald, mq_iastore, mq_lastore, mq_aastore, mq_arraylength, mq_newarray, mq_anewarray, mq_new, mq_cpI, mq_cpL, mq_abs, mq_max, mq_min, mq_is0, mq_is1, mq_iv0, mq_iv3, mq_ob, mq_ii0, mq_ii1, mq_tableswitch, mq_lookupswitch, mq_iret, mq_lret, mq_vret, hq_pI, hq_pL, hq_pR, hq_pA0, hq_pA1, hq_lk0, hq_lk1, hq_gI, hq_gIo, hq_gL, hq_gLo, hq_gA, hq_gAo, hq_rf1, hq_rf0, hq_st0_int, hq_st0_ref, hq_st0_long, hq_st1, hq_st2, hq_c0, hq_c_int, hq_c_ref, hq_c_long, hq_cS_eq, hq_cS_ne, hq_cS_lt, hq_cS_ge, hq_cS_gt, hq_cS_le, hq_isO, hq_isA, hq_inS0, hq_inS1, hq_bzI, hq_bzZ, hq_sw0, hq_sw1, hq_cat0, hq_catI, hq_catR, hq_catL, hq_en0, hq_enL, hq_enI, hq_enR, hq_hp, hq_callW, hq_rep0, hq_rep1, hq_tl1, hq_tl0, sh_all, rf_all, Nat.reduceAdd, Nat.reduceSub, Nat.reduceMul, Nat.reduceBEq, ↓reduceIte, Bool.or_false, Bool.or_true, Bool.false_or, Bool.true_or, Bool.false_eq_true, Nat.reduceLT, Nat.reduceLeDiff, Nat.reduceEqDiff, true_or, true_and, and_true, false_or, or_true, eq_self, bI_d0, bI_d1, bI_o, em_1, Classical.not_not, Nat.add_zero, tb_Mo_rowsOf]
    simp only [cntN, decide_eq_true_eq] at hn2
    refine ⟨fun h => ?_, fun h => ?_⟩
    · rw [if_neg h, ← nI_s] at hn2; simpa only [Int32.add_zero, Nat.add_zero] using hn2
    · rw [if_pos h, ← nI_s, ← nI_s] at hn2; exact hn2
  · refine step [4] 600 _ _ _ _ _ _ ?_
    simp only [wq_s, wp_s, mq_iconst, mq_bipush, mq_sipush, mq_ldc0, mq_ldc1, mq_ldc_w, mq_lconst, mq_ldc2_w, mq_iload, mq_iload_n, mq_lload, mq_lload_n, mq_aload, mq_aload_n, mq_istore, mq_istore_n, mq_lstore, mq_lstore_n, mq_astore, mq_astore_n, mq_iinc, mq_iadd, mq_isub, mq_imul, mq_iand, mq_ior, mq_ixor, mq_idiv, mq_irem, mq_ineg, mq_ishl, mq_ishr, mq_iushr, mq_ladd, mq_lsub, mq_land, mq_lor, mq_lxor, mq_lshl, mq_lshr, mq_lushr, mq_i2l, mq_l2i, mq_i2b, mq_i2s, mq_lcmp, mq_dupI, mq_dupR, mq_dup2, mq_ifCond, mq_if_icmp, mq_goto, mq_nnN, mq_nnR, mq_get1, mq_get2, mq_get0, mq_get3, mq_put1, mq_put2, mq_put3, mq_put0, mq_iaload, mq_laload, mq_aald, mq_iastore, mq_lastore, mq_aastore, mq_arraylength, mq_newarray, mq_anewarray, mq_new, mq_cpI, mq_cpL, mq_abs, mq_max, mq_min, mq_is0, mq_is1, mq_iv0, mq_iv3, mq_ob, mq_ii0, mq_ii1, mq_tableswitch, mq_lookupswitch, mq_iret, mq_lret, mq_vret, hq_pI, hq_pL, hq_pR, hq_pA0, hq_pA1, hq_lk0, hq_lk1, hq_gI, hq_gIo, hq_gL, hq_gLo, hq_gA, hq_gAo, hq_rf1, hq_rf0, hq_st0_int, hq_st0_ref, hq_st0_long, hq_st1, hq_st2, hq_c0, hq_c_int, hq_c_ref, hq_c_long, hq_cS_eq, hq_cS_ne, hq_cS_lt, hq_cS_ge, hq_cS_gt, hq_cS_le, hq_isO, hq_isA, hq_inS0, hq_inS1, hq_bzI, hq_bzZ, hq_sw0, hq_sw1, hq_cat0, hq_catI, hq_catR, hq_catL, hq_en0, hq_enL, hq_enI, hq_enR, hq_hp, hq_callW, hq_rep0, hq_rep1, hq_tl1, hq_tl0, sh_all, rf_all, Nat.reduceAdd, Nat.reduceSub, Nat.reduceMul, Nat.reduceBEq, ↓reduceIte, Bool.or_false, Bool.or_true, Bool.false_or, Bool.true_or, Bool.false_eq_true, Nat.reduceLT, Nat.reduceLeDiff, Nat.reduceEqDiff, true_or, true_and, and_true, false_or, or_true, eq_self, bI_d0, bI_d1, bI_o, em_1, Classical.not_not, Nat.add_zero, tb_Mo_rowsOf]
    simp (disch := omega) only [in_lit (show 1595 < 1598 by decide) (by decide), cl_lit (show 1595 < 2 ^ 31 by decide), h1, true_and]
    exact ⟨fun _ => hK, fun h => absurd (Int32.le_refl _) h⟩
