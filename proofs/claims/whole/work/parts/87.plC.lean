def allN (p : Nat → Bool) : Nat → Bool
  | 0 => true
  | n + 1 => allN p n && p n
theorem allN_iff (p : Nat → Bool) (n : Nat) : allN p n = true ↔ ∀ i, i < n → p i = true := by
  induction n with
  | zero => exact ⟨fun _ i hi => absurd hi (Nat.not_lt_zero _), fun _ => rfl⟩
  | succ n ih =>
    simp only [allN, Bool.and_eq_true, ih]
    constructor
    · rintro ⟨h1, h2⟩ i hi
      by_cases e : i = n
      · rw [e]; exact h2
      · exact h1 i (by omega)
    · exact fun h => ⟨fun i hi => h i (by omega), h n (by omega)⟩
/-- whether all rows of a set are in one book -/
def oneB (rows : Int64) (m : Nat → Int32) (n : Nat) : Bool := allN (fun r => allN (fun s => !(bitL rows r && bitL rows s) || decide (m (289 + 7 * r) = m (289 + 7 * s))) n) n
theorem oneB_y {rows : Int64} {m : Nat → Int32} {n : Nat} (h : ∀ r s, r < n → s < n → bitL rows r = true → bitL rows s = true → m (289 + 7 * r) = m (289 + 7 * s)) : oneB rows m n = true := by
  unfold oneB
  rw [allN_iff]
  intro r hr
  rw [allN_iff]
  intro s hs
  cases h1 : bitL rows r with
  | false => rfl
  | true => cases h2 : bitL rows s with
    | false => rfl
    | true => rw [decide_eq_true (h r s hr hs h1 h2)]; rfl
theorem oneB_n {rows : Int64} {m : Nat → Int32} {n r s : Nat} (hr : r < n) (hs : s < n) (h1 : bitL rows r = true) (h2 : bitL rows s = true) (h : ¬ m (289 + 7 * r) = m (289 + 7 * s)) : oneB rows m n = false := by
  refine ts_nt (fun q => ?_)
  unfold oneB at q
  rw [allN_iff] at q
  have q := q r hr
  rw [allN_iff] at q
  have q := q s hs
  rw [h1, h2, decide_eq_false h] at q
  exact absurd q (by decide)
def plF (rows : Int64) (m : Nat → Int32) (n : Nat) : Option (Fin 7) := if rows = 0 ∨ ¬ ((rows.toUInt64 >>> ((nI n).toInt64.toUInt64 &&& Int64.toUInt64 63)).toInt64 = 0) then some 0 else if oneB rows m n = false then some 2 else if 8 < cntN (bitL rows) 64 then some 6 else none
theorem ush_0 (x : Int64) {n : Nat} (hn : n ≤ 40) : ((x.toUInt64 >>> ((nI n).toInt64.toUInt64 &&& Int64.toUInt64 63)).toInt64 = 0) = (∀ i, i < 64 → n ≤ i → bitL x i = false) := by
  apply propext
  constructor
  · intro h i hi hni
    have := congrArg (fun y => bitL y (i - n)) h
    simp only [bit_ushr x (show n < 64 by omega), bit_0, show n + (i - n) = i by omega] at this
    exact this
  · intro h
    apply bit_ext
    intro i hi
    rw [bit_ushr x (by omega), bit_0]
    by_cases h2 : n + i < 64
    · exact h _ h2 (by omega)
    · exact bit_ge (by omega)
theorem ssh_0 (x : Int64) {n : Nat} (hn : n ≤ 40) : (x >>> ((nI n).toInt64 &&& 63) = 0) = (∀ i, i < 64 → n ≤ i → bitL x i = false) := by
  apply propext
  constructor
  · intro h i hi hni
    have := congrArg (fun y => bitL y (i - n)) h
    simp only [bit_ss x (show n < 64 by omega) (show i - n < 64 by omega), bit_0, show n + (i - n) = i by omega, if_pos hi] at this
    exact this
  · intro h
    apply bit_ext
    intro i hi
    rw [bit_ss x (by omega) hi, bit_0]
    split
    · next w => exact h _ w (by omega)
    · exact h 63 (by omega) (by omega)
/-- whether a choice leaves the party a cell -/
abbrev cOk (I : Nat → Nat → Int32) (L : Nat → Nat → Int64) (kl n q : Nat) (rows : Int64) (c : Nat) : Bool := decide (¬ ahd (I 58) (cFit (I 58) kl (I 15 q)) (fun k => cCt I L (I 1 6) k && !bitL (chP rows c) k) (nI q) n = 0)
theorem hi_f {x : Int64} {n : Nat} (h : ¬ (∀ i, i < 64 → n ≤ i → bitL x i = false)) : ∃ i, i < 64 ∧ n ≤ i ∧ bitL x i = true :=
  Classical.byContradiction (fun w => h (fun i hi hni => ts_nt (fun q => w ⟨i, hi, hni, q⟩)))
theorem has_bit {x : Int64} (h : ¬ x = 0) : ∃ i, i < 64 ∧ bitL x i = true := by
  refine Classical.byContradiction (fun w => h (bit_ext (fun i hi => ?_)))
  rw [bit_0]
  exact ts_nt (fun q => w ⟨i, hi, q⟩)
set_option maxRecDepth 100000 in
set_option maxHeartbeats 4000000 in
theorem k_Rh_plan {I L z K} (rows : Int64) (hF : CF I) (n kl : Nat) (hn : n ≤ 40) (hs : I 16 7 = nI n) (hs2 : I 58 1595 = nI n) (hk : kl ≤ 40) (h1 : I 2 6 = nI kl) (hK : ∀ (J : Nat → Nat → Int32) (N : Nat → Nat → Int64), trA I J → (∀ a, a ≠ 39 → a ≠ 41 → N a = L a) → fO K 48 J N z (plF rows (I 58) n) (∀ q, q < 5 → (∀ r, r < n → bitL rows r = true → I 58 (289 + 7 * r) = nI q) → fO K 48 J N z (if plN (cOk I L kl n q rows) (2 ^ cntN (bitL rows) 64) = none then some 3 else none) (K (some (.int (encO (plN (cOk I L kl n q rows) (2 ^ cntN (bitL rows) 64))))) (hp J N z)))) : Ct m_Rh_plan [.ref 0, .long rows] (hp I L z) K := by
  have hK0 := hK I L (fun _ _ _ _ _ => rfl) (fun _ _ _ => rfl)
  have hW := CF_rwE hF hn hs
  refine in_Rh_plan 71 (nB_hp _ _ _) (Nat.le_of_ble_eq_true rfl) rfl (fun P step => ?_)
  refine step [] 600 _ _ _ _ _ _ ?_
  simp only [wq_s, wp_s, mq_iconst, mq_bipush, mq_sipush, mq_ldc0, mq_ldc1, mq_ldc_w, mq_lconst, mq_ldc2_w, mq_iload, mq_iload_n, mq_lload, mq_lload_n, mq_aload, mq_aload_n, mq_istore, mq_istore_n, mq_lstore, mq_lstore_n, mq_astore, mq_astore_n, mq_iinc, mq_iadd, mq_isub, mq_imul, mq_iand, mq_ior, mq_ixor, mq_idiv, mq_irem, mq_ineg, mq_ishl, mq_ishr, mq_iushr, mq_ladd, mq_lsub, mq_land, mq_lor, mq_lxor, mq_lshl, mq_lshr, mq_lushr, mq_i2l, mq_l2i, mq_i2b, mq_i2s, mq_lcmp, mq_dupI, mq_dupR, mq_dup2, mq_ifCond, mq_if_icmp, mq_goto, mq_nnN, mq_nnR, mq_get1, mq_get2, mq_get0, mq_get3, mq_put1, mq_put2, mq_put3, mq_put0, mq_iaload, mq_laload, mq_aald, mq_iastore, mq_lastore, mq_aastore, mq_arraylength, mq_newarray, mq_anewarray, mq_new, mq_cpI, mq_cpL, mq_abs, mq_max, mq_min, mq_is0, mq_is1, mq_iv0, mq_iv3, mq_ob, mq_ii0, mq_ii1, mq_tableswitch, mq_lookupswitch, mq_iret, mq_lret, mq_vret, hq_pI, hq_pL, hq_pR, hq_pA0, hq_pA1, hq_lk0, hq_lk1, hq_gI, hq_gIo, hq_gL, hq_gLo, hq_gA, hq_gAo, hq_rf1, hq_rf0, hq_st0_int, hq_st0_ref, hq_st0_long, hq_st1, hq_st2, hq_c0, hq_c_int, hq_c_ref, hq_c_long, hq_cS_eq, hq_cS_ne, hq_cS_lt, hq_cS_ge, hq_cS_gt, hq_cS_le, hq_isO, hq_isA, hq_inS0, hq_inS1, hq_bzI, hq_bzZ, hq_sw0, hq_sw1, hq_cat0, hq_catI, hq_catR, hq_catL, hq_en0, hq_enL, hq_enI, hq_enR, hq_hp, hq_callW, hq_rep0, hq_rep1, hq_tl1, hq_tl0, sh_all, rf_all, Nat.reduceAdd, Nat.reduceSub, Nat.reduceMul, Nat.reduceBEq, ↓reduceIte, Bool.or_false, Bool.or_true, Bool.false_or, Bool.true_or, Bool.false_eq_true, Nat.reduceLT, Nat.reduceLeDiff, Nat.reduceEqDiff, true_or, true_and, and_true, false_or, or_true, eq_self, bI_d0, bI_d1, bI_o, em_1, Classical.not_not, Nat.add_zero, forall_const, not_true_eq_false, false_implies, one_ne0, ne0_one, not_false_eq_true, tb_Rh_plan]
  rw [hs]
  simp only [lcmp_0, ush_0 rows hn]
  refine ⟨fun e => k_Rh_finding _ 0 (by decide) (by decide) ?_, fun e => ⟨fun e2 => ?_, fun e2 => k_Rh_finding _ 0 (by decide) (by decide) ?_⟩⟩
  · refine step [] 600 _ _ _ _ _ _ ?_
    simp only [wq_s, wp_s, mq_iconst, mq_bipush, mq_sipush, mq_ldc0, mq_ldc1, mq_ldc_w, mq_lconst, mq_ldc2_w, mq_iload, mq_iload_n, mq_lload, mq_lload_n, mq_aload, mq_aload_n, mq_istore, mq_istore_n, mq_lstore, mq_lstore_n, mq_astore, mq_astore_n, mq_iinc, mq_iadd, mq_isub, mq_imul, mq_iand, mq_ior, mq_ixor, mq_idiv, mq_irem, mq_ineg, mq_ishl, mq_ishr, mq_iushr, mq_ladd, mq_lsub, mq_land, mq_lor, mq_lxor, mq_lshl, mq_lshr, mq_lushr, mq_i2l, mq_l2i, mq_i2b, mq_i2s, mq_lcmp, mq_dupI, mq_dupR, mq_dup2, mq_ifCond, mq_if_icmp, mq_goto, mq_nnN, mq_nnR, mq_get1, mq_get2, mq_get0, mq_get3, mq_put1, mq_put2, mq_put3, mq_put0, mq_iaload, mq_laload, mq_aald, mq_iastore, mq_lastore, mq_aastore, mq_arraylength, mq_newarray, mq_anewarray, mq_new, mq_cpI, mq_cpL, mq_abs, mq_max, mq_min, mq_is0, mq_is1, mq_iv0, mq_iv3, mq_ob, mq_ii0, mq_ii1, mq_tableswitch, mq_lookupswitch, mq_iret, mq_lret, mq_vret, hq_pI, hq_pL, hq_pR, hq_pA0, hq_pA1, hq_lk0, hq_lk1, hq_gI, hq_gIo, hq_gL, hq_gLo, hq_gA, hq_gAo, hq_rf1, hq_rf0, hq_st0_int, hq_st0_ref, hq_st0_long, hq_st1, hq_st2, hq_c0, hq_c_int, hq_c_ref, hq_c_long, hq_cS_eq, hq_cS_ne, hq_cS_lt, hq_cS_ge, hq_cS_gt, hq_cS_le, hq_isO, hq_isA, hq_inS0, hq_inS1, hq_bzI, hq_bzZ, hq_sw0, hq_sw1, hq_cat0, hq_catI, hq_catR, hq_catL, hq_en0, hq_enL, hq_enI, hq_enR, hq_hp, hq_callW, hq_rep0, hq_rep1, hq_tl1, hq_tl0, sh_all, rf_all, Nat.reduceAdd, Nat.reduceSub, Nat.reduceMul, Nat.reduceBEq, ↓reduceIte, Bool.or_false, Bool.or_true, Bool.false_or, Bool.true_or, Bool.false_eq_true, Nat.reduceLT, Nat.reduceLeDiff, Nat.reduceEqDiff, true_or, true_and, and_true, false_or, or_true, eq_self, bI_d0, bI_d1, bI_o, em_1, Classical.not_not, Nat.add_zero, forall_const, not_true_eq_false, false_implies, one_ne0, ne0_one, not_false_eq_true, tb_Rh_plan]
    exact fO_s hK0 0 (if_pos (Or.inl e)) (by decide)
  · have hv : ¬ (rows = 0 ∨ ¬ ((rows.toUInt64 >>> ((nI n).toInt64.toUInt64 &&& Int64.toUInt64 63)).toInt64 = 0)) := by
      rw [ush_0 rows hn]; rintro (h | h); exact e h; exact h e2
    obtain ⟨r0, hr0, hb0⟩ := has_bit e
    have hr0n : r0 < n := Classical.byContradiction (fun w => by rw [e2 r0 hr0 (by omega)] at hb0; exact absurd hb0 (by decide))
    refine k_Ro_onlyOwner rows n hn hs (fun r hr => (hW r hr).1) (fun r hr => inv_own hF hn hs2 hr) ⟨r0, hr0n, hb0⟩ (fun q hq ho => ?_) (fun ⟨r, s, hr, hs3, hb, hb2, hne⟩ => ?_)
    · have hone : ¬ oneB rows (I 58) n = false := by rw [oneB_y (fun r s hr hs3 hb hb2 => by rw [ho r hr hb, ho s hs3 hb2])]; decide
      have hcl := cntN_le (bitL rows) 64
      refine step [] 600 _ _ _ _ _ _ ?_
      simp only [wq_s, wp_s, mq_iconst, mq_bipush, mq_sipush, mq_ldc0, mq_ldc1, mq_ldc_w, mq_lconst, mq_ldc2_w, mq_iload, mq_iload_n, mq_lload, mq_lload_n, mq_aload, mq_aload_n, mq_istore, mq_istore_n, mq_lstore, mq_lstore_n, mq_astore, mq_astore_n, mq_iinc, mq_iadd, mq_isub, mq_imul, mq_iand, mq_ior, mq_ixor, mq_idiv, mq_irem, mq_ineg, mq_ishl, mq_ishr, mq_iushr, mq_ladd, mq_lsub, mq_land, mq_lor, mq_lxor, mq_lshl, mq_lshr, mq_lushr, mq_i2l, mq_l2i, mq_i2b, mq_i2s, mq_lcmp, mq_dupI, mq_dupR, mq_dup2, mq_ifCond, mq_if_icmp, mq_goto, mq_nnN, mq_nnR, mq_get1, mq_get2, mq_get0, mq_get3, mq_put1, mq_put2, mq_put3, mq_put0, mq_iaload, mq_laload, mq_aald, mq_iastore, mq_lastore, mq_aastore, mq_arraylength, mq_newarray, mq_anewarray, mq_new, mq_cpI, mq_cpL, mq_abs, mq_max, mq_min, mq_is0, mq_is1, mq_iv0, mq_iv3, mq_ob, mq_ii0, mq_ii1, mq_tableswitch, mq_lookupswitch, mq_iret, mq_lret, mq_vret, hq_pI, hq_pL, hq_pR, hq_pA0, hq_pA1, hq_lk0, hq_lk1, hq_gI, hq_gIo, hq_gL, hq_gLo, hq_gA, hq_gAo, hq_rf1, hq_rf0, hq_st0_int, hq_st0_ref, hq_st0_long, hq_st1, hq_st2, hq_c0, hq_c_int, hq_c_ref, hq_c_long, hq_cS_eq, hq_cS_ne, hq_cS_lt, hq_cS_ge, hq_cS_gt, hq_cS_le, hq_isO, hq_isA, hq_inS0, hq_inS1, hq_bzI, hq_bzZ, hq_sw0, hq_sw1, hq_cat0, hq_catI, hq_catR, hq_catL, hq_en0, hq_enL, hq_enI, hq_enR, hq_hp, hq_callW, hq_rep0, hq_rep1, hq_tl1, hq_tl0, sh_all, rf_all, Nat.reduceAdd, Nat.reduceSub, Nat.reduceMul, Nat.reduceBEq, ↓reduceIte, Bool.or_false, Bool.or_true, Bool.false_or, Bool.true_or, Bool.false_eq_true, Nat.reduceLT, Nat.reduceLeDiff, Nat.reduceEqDiff, true_or, true_and, and_true, false_or, or_true, eq_self, bI_d0, bI_d1, bI_o, em_1, Classical.not_not, Nat.add_zero, forall_const, not_true_eq_false, false_implies, one_ne0, ne0_one, not_false_eq_true, tb_Rh_plan]
      refine ⟨fun _ => k_Lo_bitCount _ ?_, fun w => absurd (nI_pos' (show q < 2 ^ 31 by omega)) w⟩
      refine step [] 600 _ _ _ _ _ _ ?_
      simp only [wq_s, wp_s, mq_iconst, mq_bipush, mq_sipush, mq_ldc0, mq_ldc1, mq_ldc_w, mq_lconst, mq_ldc2_w, mq_iload, mq_iload_n, mq_lload, mq_lload_n, mq_aload, mq_aload_n, mq_istore, mq_istore_n, mq_lstore, mq_lstore_n, mq_astore, mq_astore_n, mq_iinc, mq_iadd, mq_isub, mq_imul, mq_iand, mq_ior, mq_ixor, mq_idiv, mq_irem, mq_ineg, mq_ishl, mq_ishr, mq_iushr, mq_ladd, mq_lsub, mq_land, mq_lor, mq_lxor, mq_lshl, mq_lshr, mq_lushr, mq_i2l, mq_l2i, mq_i2b, mq_i2s, mq_lcmp, mq_dupI, mq_dupR, mq_dup2, mq_ifCond, mq_if_icmp, mq_goto, mq_nnN, mq_nnR, mq_get1, mq_get2, mq_get0, mq_get3, mq_put1, mq_put2, mq_put3, mq_put0, mq_iaload, mq_laload, mq_aald, mq_iastore, mq_lastore, mq_aastore, mq_arraylength, mq_newarray, mq_anewarray, mq_new, mq_cpI, mq_cpL, mq_abs, mq_max, mq_min, mq_is0, mq_is1, mq_iv0, mq_iv3, mq_ob, mq_ii0, mq_ii1, mq_tableswitch, mq_lookupswitch, mq_iret, mq_lret, mq_vret, hq_pI, hq_pL, hq_pR, hq_pA0, hq_pA1, hq_lk0, hq_lk1, hq_gI, hq_gIo, hq_gL, hq_gLo, hq_gA, hq_gAo, hq_rf1, hq_rf0, hq_st0_int, hq_st0_ref, hq_st0_long, hq_st1, hq_st2, hq_c0, hq_c_int, hq_c_ref, hq_c_long, hq_cS_eq, hq_cS_ne, hq_cS_lt, hq_cS_ge, hq_cS_gt, hq_cS_le, hq_isO, hq_isA, hq_inS0, hq_inS1, hq_bzI, hq_bzZ, hq_sw0, hq_sw1, hq_cat0, hq_catI, hq_catR, hq_catL, hq_en0, hq_enL, hq_enI, hq_enR, hq_hp, hq_callW, hq_rep0, hq_rep1, hq_tl1, hq_tl0, sh_all, rf_all, Nat.reduceAdd, Nat.reduceSub, Nat.reduceMul, Nat.reduceBEq, ↓reduceIte, Bool.or_false, Bool.or_true, Bool.false_or, Bool.true_or, Bool.false_eq_true, Nat.reduceLT, Nat.reduceLeDiff, Nat.reduceEqDiff, true_or, true_and, and_true, false_or, or_true, eq_self, bI_d0, bI_d1, bI_o, em_1, Classical.not_not, Nat.add_zero, forall_const, not_true_eq_false, false_implies, one_ne0, ne0_one, not_false_eq_true, tb_Rh_plan]
      simp (disch := omega) only [nI_clamp, vp_in_nI, true_and]
      refine ⟨fun w => ?_, fun w => k_Rh_finding _ 6 (by decide) (by decide) ?_⟩
      · have w8 : cntN (bitL rows) 64 ≤ 8 := (nI_leI (b := 8) (by omega) (by omega)).mp w
        have hnone : plF rows (I 58) n = none := by
          unfold plF
          rw [if_neg hv, if_neg hone, if_neg (by omega)]
        refine k_Tr_load _ _ _ hF n kl hn hs hk h1 (fun J M j1 m1 j2 j3 => ?_)
        have hK' := fO_n (hK J M j1 (fun a _ h41 => m1 a h41)) hnone q hq ho
        refine step [] 600 _ _ _ _ _ _ ?_
        simp only [wq_s, wp_s, mq_iconst, mq_bipush, mq_sipush, mq_ldc0, mq_ldc1, mq_ldc_w, mq_lconst, mq_ldc2_w, mq_iload, mq_iload_n, mq_lload, mq_lload_n, mq_aload, mq_aload_n, mq_istore, mq_istore_n, mq_lstore, mq_lstore_n, mq_astore, mq_astore_n, mq_iinc, mq_iadd, mq_isub, mq_imul, mq_iand, mq_ior, mq_ixor, mq_idiv, mq_irem, mq_ineg, mq_ishl, mq_ishr, mq_iushr, mq_ladd, mq_lsub, mq_land, mq_lor, mq_lxor, mq_lshl, mq_lshr, mq_lushr, mq_i2l, mq_l2i, mq_i2b, mq_i2s, mq_lcmp, mq_dupI, mq_dupR, mq_dup2, mq_ifCond, mq_if_icmp, mq_goto, mq_nnN, mq_nnR, mq_get1, mq_get2, mq_get0, mq_get3, mq_put1, mq_put2, mq_put3, mq_put0, mq_iaload, mq_laload, mq_aald, mq_iastore, mq_lastore, mq_aastore, mq_arraylength, mq_newarray, mq_anewarray, mq_new, mq_cpI, mq_cpL, mq_abs, mq_max, mq_min, mq_is0, mq_is1, mq_iv0, mq_iv3, mq_ob, mq_ii0, mq_ii1, mq_tableswitch, mq_lookupswitch, mq_iret, mq_lret, mq_vret, hq_pI, hq_pL, hq_pR, hq_pA0, hq_pA1, hq_lk0, hq_lk1, hq_gI, hq_gIo, hq_gL, hq_gLo, hq_gA, hq_gAo, hq_rf1, hq_rf0, hq_st0_int, hq_st0_ref, hq_st0_long, hq_st1, hq_st2, hq_c0, hq_c_int, hq_c_ref, hq_c_long, hq_cS_eq, hq_cS_ne, hq_cS_lt, hq_cS_ge, hq_cS_gt, hq_cS_le, hq_isO, hq_isA, hq_inS0, hq_inS1, hq_bzI, hq_bzZ, hq_sw0, hq_sw1, hq_cat0, hq_catI, hq_catR, hq_catL, hq_en0, hq_enL, hq_enI, hq_enR, hq_hp, hq_callW, hq_rep0, hq_rep1, hq_tl1, hq_tl0, sh_all, rf_all, Nat.reduceAdd, Nat.reduceSub, Nat.reduceMul, Nat.reduceBEq, ↓reduceIte, Bool.or_false, Bool.or_true, Bool.false_or, Bool.true_or, Bool.false_eq_true, Nat.reduceLT, Nat.reduceLeDiff, Nat.reduceEqDiff, true_or, true_and, and_true, false_or, or_true, eq_self, bI_d0, bI_d1, bI_o, em_1, Classical.not_not, Nat.add_zero, forall_const, not_true_eq_false, false_implies, one_ne0, ne0_one, not_false_eq_true, tb_Rh_plan]
        refine k_Rh_fewestStruck rows _ w8 (I 58) (cFit (I 58) kl (I 15 q)) (cCt I L (I 1 6)) (nI q) n hn j2 (fun k => sub48_set _) (CF_rowP hF hn hs2) j3 ?_
        refine step [] 600 _ _ _ _ _ _ ?_
        simp only [wq_s, wp_s, mq_iconst, mq_bipush, mq_sipush, mq_ldc0, mq_ldc1, mq_ldc_w, mq_lconst, mq_ldc2_w, mq_iload, mq_iload_n, mq_lload, mq_lload_n, mq_aload, mq_aload_n, mq_istore, mq_istore_n, mq_lstore, mq_lstore_n, mq_astore, mq_astore_n, mq_iinc, mq_iadd, mq_isub, mq_imul, mq_iand, mq_ior, mq_ixor, mq_idiv, mq_irem, mq_ineg, mq_ishl, mq_ishr, mq_iushr, mq_ladd, mq_lsub, mq_land, mq_lor, mq_lxor, mq_lshl, mq_lshr, mq_lushr, mq_i2l, mq_l2i, mq_i2b, mq_i2s, mq_lcmp, mq_dupI, mq_dupR, mq_dup2, mq_ifCond, mq_if_icmp, mq_goto, mq_nnN, mq_nnR, mq_get1, mq_get2, mq_get0, mq_get3, mq_put1, mq_put2, mq_put3, mq_put0, mq_iaload, mq_laload, mq_aald, mq_iastore, mq_lastore, mq_aastore, mq_arraylength, mq_newarray, mq_anewarray, mq_new, mq_cpI, mq_cpL, mq_abs, mq_max, mq_min, mq_is0, mq_is1, mq_iv0, mq_iv3, mq_ob, mq_ii0, mq_ii1, mq_tableswitch, mq_lookupswitch, mq_iret, mq_lret, mq_vret, hq_pI, hq_pL, hq_pR, hq_pA0, hq_pA1, hq_lk0, hq_lk1, hq_gI, hq_gIo, hq_gL, hq_gLo, hq_gA, hq_gAo, hq_rf1, hq_rf0, hq_st0_int, hq_st0_ref, hq_st0_long, hq_st1, hq_st2, hq_c0, hq_c_int, hq_c_ref, hq_c_long, hq_cS_eq, hq_cS_ne, hq_cS_lt, hq_cS_ge, hq_cS_gt, hq_cS_le, hq_isO, hq_isA, hq_inS0, hq_inS1, hq_bzI, hq_bzZ, hq_sw0, hq_sw1, hq_cat0, hq_catI, hq_catR, hq_catL, hq_en0, hq_enL, hq_enI, hq_enR, hq_hp, hq_callW, hq_rep0, hq_rep1, hq_tl1, hq_tl0, sh_all, rf_all, Nat.reduceAdd, Nat.reduceSub, Nat.reduceMul, Nat.reduceBEq, ↓reduceIte, Bool.or_false, Bool.or_true, Bool.false_or, Bool.true_or, Bool.false_eq_true, Nat.reduceLT, Nat.reduceLeDiff, Nat.reduceEqDiff, true_or, true_and, and_true, false_or, or_true, eq_self, bI_d0, bI_d1, bI_o, em_1, Classical.not_not, Nat.add_zero, forall_const, not_true_eq_false, false_implies, one_ne0, ne0_one, not_false_eq_true, tb_Rh_plan]
        have h256 : 2 ^ cntN (bitL rows) 64 ≤ 256 := by
          have : 2 ^ cntN (bitL rows) 64 ≤ 2 ^ 8 := Nat.pow_le_pow_right (by decide) w8
          omega
        cases ho2 : plN (cOk I L kl n q rows) (2 ^ cntN (bitL rows) 64) with
        | none =>
          rw [ho2] at hK'
          refine ⟨fun w2 => absurd w2 (show ¬ (0 : Int32) ≤ -1 by decide), fun _ => k_Rh_finding _ 3 (by decide) (by decide) ?_⟩
          refine step [] 600 _ _ _ _ _ _ ?_
          simp only [wq_s, wp_s, mq_iconst, mq_bipush, mq_sipush, mq_ldc0, mq_ldc1, mq_ldc_w, mq_lconst, mq_ldc2_w, mq_iload, mq_iload_n, mq_lload, mq_lload_n, mq_aload, mq_aload_n, mq_istore, mq_istore_n, mq_lstore, mq_lstore_n, mq_astore, mq_astore_n, mq_iinc, mq_iadd, mq_isub, mq_imul, mq_iand, mq_ior, mq_ixor, mq_idiv, mq_irem, mq_ineg, mq_ishl, mq_ishr, mq_iushr, mq_ladd, mq_lsub, mq_land, mq_lor, mq_lxor, mq_lshl, mq_lshr, mq_lushr, mq_i2l, mq_l2i, mq_i2b, mq_i2s, mq_lcmp, mq_dupI, mq_dupR, mq_dup2, mq_ifCond, mq_if_icmp, mq_goto, mq_nnN, mq_nnR, mq_get1, mq_get2, mq_get0, mq_get3, mq_put1, mq_put2, mq_put3, mq_put0, mq_iaload, mq_laload, mq_aald, mq_iastore, mq_lastore, mq_aastore, mq_arraylength, mq_newarray, mq_anewarray, mq_new, mq_cpI, mq_cpL, mq_abs, mq_max, mq_min, mq_is0, mq_is1, mq_iv0, mq_iv3, mq_ob, mq_ii0, mq_ii1, mq_tableswitch, mq_lookupswitch, mq_iret, mq_lret, mq_vret, hq_pI, hq_pL, hq_pR, hq_pA0, hq_pA1, hq_lk0, hq_lk1, hq_gI, hq_gIo, hq_gL, hq_gLo, hq_gA, hq_gAo, hq_rf1, hq_rf0, hq_st0_int, hq_st0_ref, hq_st0_long, hq_st1, hq_st2, hq_c0, hq_c_int, hq_c_ref, hq_c_long, hq_cS_eq, hq_cS_ne, hq_cS_lt, hq_cS_ge, hq_cS_gt, hq_cS_le, hq_isO, hq_isA, hq_inS0, hq_inS1, hq_bzI, hq_bzZ, hq_sw0, hq_sw1, hq_cat0, hq_catI, hq_catR, hq_catL, hq_en0, hq_enL, hq_enI, hq_enR, hq_hp, hq_callW, hq_rep0, hq_rep1, hq_tl1, hq_tl0, sh_all, rf_all, Nat.reduceAdd, Nat.reduceSub, Nat.reduceMul, Nat.reduceBEq, ↓reduceIte, Bool.or_false, Bool.or_true, Bool.false_or, Bool.true_or, Bool.false_eq_true, Nat.reduceLT, Nat.reduceLeDiff, Nat.reduceEqDiff, true_or, true_and, and_true, false_or, or_true, eq_self, bI_d0, bI_d1, bI_o, em_1, Classical.not_not, Nat.add_zero, forall_const, not_true_eq_false, false_implies, one_ne0, ne0_one, not_false_eq_true, tb_Rh_plan]
          exact fO_s hK' 3 (if_pos rfl) (by decide)
        | some b =>
          have hb := plN_lt _ _ _ ho2
          rw [ho2] at hK'
          exact ⟨fun _ => fO_n hK' (if_neg (by simp)), fun w2 => absurd (nI_pos' (show b < 2 ^ 31 by omega)) w2⟩
      · have w8 : ¬ cntN (bitL rows) 64 ≤ 8 := fun h => w ((nI_leI (b := 8) (by omega) (by omega)).mpr h)
        refine step [] 600 _ _ _ _ _ _ ?_
        simp only [wq_s, wp_s, mq_iconst, mq_bipush, mq_sipush, mq_ldc0, mq_ldc1, mq_ldc_w, mq_lconst, mq_ldc2_w, mq_iload, mq_iload_n, mq_lload, mq_lload_n, mq_aload, mq_aload_n, mq_istore, mq_istore_n, mq_lstore, mq_lstore_n, mq_astore, mq_astore_n, mq_iinc, mq_iadd, mq_isub, mq_imul, mq_iand, mq_ior, mq_ixor, mq_idiv, mq_irem, mq_ineg, mq_ishl, mq_ishr, mq_iushr, mq_ladd, mq_lsub, mq_land, mq_lor, mq_lxor, mq_lshl, mq_lshr, mq_lushr, mq_i2l, mq_l2i, mq_i2b, mq_i2s, mq_lcmp, mq_dupI, mq_dupR, mq_dup2, mq_ifCond, mq_if_icmp, mq_goto, mq_nnN, mq_nnR, mq_get1, mq_get2, mq_get0, mq_get3, mq_put1, mq_put2, mq_put3, mq_put0, mq_iaload, mq_laload, mq_aald, mq_iastore, mq_lastore, mq_aastore, mq_arraylength, mq_newarray, mq_anewarray, mq_new, mq_cpI, mq_cpL, mq_abs, mq_max, mq_min, mq_is0, mq_is1, mq_iv0, mq_iv3, mq_ob, mq_ii0, mq_ii1, mq_tableswitch, mq_lookupswitch, mq_iret, mq_lret, mq_vret, hq_pI, hq_pL, hq_pR, hq_pA0, hq_pA1, hq_lk0, hq_lk1, hq_gI, hq_gIo, hq_gL, hq_gLo, hq_gA, hq_gAo, hq_rf1, hq_rf0, hq_st0_int, hq_st0_ref, hq_st0_long, hq_st1, hq_st2, hq_c0, hq_c_int, hq_c_ref, hq_c_long, hq_cS_eq, hq_cS_ne, hq_cS_lt, hq_cS_ge, hq_cS_gt, hq_cS_le, hq_isO, hq_isA, hq_inS0, hq_inS1, hq_bzI, hq_bzZ, hq_sw0, hq_sw1, hq_cat0, hq_catI, hq_catR, hq_catL, hq_en0, hq_enL, hq_enI, hq_enR, hq_hp, hq_callW, hq_rep0, hq_rep1, hq_tl1, hq_tl0, sh_all, rf_all, Nat.reduceAdd, Nat.reduceSub, Nat.reduceMul, Nat.reduceBEq, ↓reduceIte, Bool.or_false, Bool.or_true, Bool.false_or, Bool.true_or, Bool.false_eq_true, Nat.reduceLT, Nat.reduceLeDiff, Nat.reduceEqDiff, true_or, true_and, and_true, false_or, or_true, eq_self, bI_d0, bI_d1, bI_o, em_1, Classical.not_not, Nat.add_zero, forall_const, not_true_eq_false, false_implies, one_ne0, ne0_one, not_false_eq_true, tb_Rh_plan]
        exact fO_s hK0 6 (by unfold plF; rw [if_neg hv, if_neg hone, if_pos (by omega)]) (by decide)
    · refine step [] 600 _ _ _ _ _ _ ?_
      simp only [wq_s, wp_s, mq_iconst, mq_bipush, mq_sipush, mq_ldc0, mq_ldc1, mq_ldc_w, mq_lconst, mq_ldc2_w, mq_iload, mq_iload_n, mq_lload, mq_lload_n, mq_aload, mq_aload_n, mq_istore, mq_istore_n, mq_lstore, mq_lstore_n, mq_astore, mq_astore_n, mq_iinc, mq_iadd, mq_isub, mq_imul, mq_iand, mq_ior, mq_ixor, mq_idiv, mq_irem, mq_ineg, mq_ishl, mq_ishr, mq_iushr, mq_ladd, mq_lsub, mq_land, mq_lor, mq_lxor, mq_lshl, mq_lshr, mq_lushr, mq_i2l, mq_l2i, mq_i2b, mq_i2s, mq_lcmp, mq_dupI, mq_dupR, mq_dup2, mq_ifCond, mq_if_icmp, mq_goto, mq_nnN, mq_nnR, mq_get1, mq_get2, mq_get0, mq_get3, mq_put1, mq_put2, mq_put3, mq_put0, mq_iaload, mq_laload, mq_aald, mq_iastore, mq_lastore, mq_aastore, mq_arraylength, mq_newarray, mq_anewarray, mq_new, mq_cpI, mq_cpL, mq_abs, mq_max, mq_min, mq_is0, mq_is1, mq_iv0, mq_iv3, mq_ob, mq_ii0, mq_ii1, mq_tableswitch, mq_lookupswitch, mq_iret, mq_lret, mq_vret, hq_pI, hq_pL, hq_pR, hq_pA0, hq_pA1, hq_lk0, hq_lk1, hq_gI, hq_gIo, hq_gL, hq_gLo, hq_gA, hq_gAo, hq_rf1, hq_rf0, hq_st0_int, hq_st0_ref, hq_st0_long, hq_st1, hq_st2, hq_c0, hq_c_int, hq_c_ref, hq_c_long, hq_cS_eq, hq_cS_ne, hq_cS_lt, hq_cS_ge, hq_cS_gt, hq_cS_le, hq_isO, hq_isA, hq_inS0, hq_inS1, hq_bzI, hq_bzZ, hq_sw0, hq_sw1, hq_cat0, hq_catI, hq_catR, hq_catL, hq_en0, hq_enL, hq_enI, hq_enR, hq_hp, hq_callW, hq_rep0, hq_rep1, hq_tl1, hq_tl0, sh_all, rf_all, Nat.reduceAdd, Nat.reduceSub, Nat.reduceMul, Nat.reduceBEq, ↓reduceIte, Bool.or_false, Bool.or_true, Bool.false_or, Bool.true_or, Bool.false_eq_true, Nat.reduceLT, Nat.reduceLeDiff, Nat.reduceEqDiff, true_or, true_and, and_true, false_or, or_true, eq_self, bI_d0, bI_d1, bI_o, em_1, Classical.not_not, Nat.add_zero, forall_const, not_true_eq_false, false_implies, one_ne0, ne0_one, not_false_eq_true, tb_Rh_plan]
      refine ⟨fun w => absurd w (show ¬ (0 : Int32) ≤ -1 by decide), fun _ => k_Rh_finding _ 2 (by decide) (by decide) ?_⟩
      refine step [] 600 _ _ _ _ _ _ ?_
      simp only [wq_s, wp_s, mq_iconst, mq_bipush, mq_sipush, mq_ldc0, mq_ldc1, mq_ldc_w, mq_lconst, mq_ldc2_w, mq_iload, mq_iload_n, mq_lload, mq_lload_n, mq_aload, mq_aload_n, mq_istore, mq_istore_n, mq_lstore, mq_lstore_n, mq_astore, mq_astore_n, mq_iinc, mq_iadd, mq_isub, mq_imul, mq_iand, mq_ior, mq_ixor, mq_idiv, mq_irem, mq_ineg, mq_ishl, mq_ishr, mq_iushr, mq_ladd, mq_lsub, mq_land, mq_lor, mq_lxor, mq_lshl, mq_lshr, mq_lushr, mq_i2l, mq_l2i, mq_i2b, mq_i2s, mq_lcmp, mq_dupI, mq_dupR, mq_dup2, mq_ifCond, mq_if_icmp, mq_goto, mq_nnN, mq_nnR, mq_get1, mq_get2, mq_get0, mq_get3, mq_put1, mq_put2, mq_put3, mq_put0, mq_iaload, mq_laload, mq_aald, mq_iastore, mq_lastore, mq_aastore, mq_arraylength, mq_newarray, mq_anewarray, mq_new, mq_cpI, mq_cpL, mq_abs, mq_max, mq_min, mq_is0, mq_is1, mq_iv0, mq_iv3, mq_ob, mq_ii0, mq_ii1, mq_tableswitch, mq_lookupswitch, mq_iret, mq_lret, mq_vret, hq_pI, hq_pL, hq_pR, hq_pA0, hq_pA1, hq_lk0, hq_lk1, hq_gI, hq_gIo, hq_gL, hq_gLo, hq_gA, hq_gAo, hq_rf1, hq_rf0, hq_st0_int, hq_st0_ref, hq_st0_long, hq_st1, hq_st2, hq_c0, hq_c_int, hq_c_ref, hq_c_long, hq_cS_eq, hq_cS_ne, hq_cS_lt, hq_cS_ge, hq_cS_gt, hq_cS_le, hq_isO, hq_isA, hq_inS0, hq_inS1, hq_bzI, hq_bzZ, hq_sw0, hq_sw1, hq_cat0, hq_catI, hq_catR, hq_catL, hq_en0, hq_enL, hq_enI, hq_enR, hq_hp, hq_callW, hq_rep0, hq_rep1, hq_tl1, hq_tl0, sh_all, rf_all, Nat.reduceAdd, Nat.reduceSub, Nat.reduceMul, Nat.reduceBEq, ↓reduceIte, Bool.or_false, Bool.or_true, Bool.false_or, Bool.true_or, Bool.false_eq_true, Nat.reduceLT, Nat.reduceLeDiff, Nat.reduceEqDiff, true_or, true_and, and_true, false_or, or_true, eq_self, bI_d0, bI_d1, bI_o, em_1, Classical.not_not, Nat.add_zero, forall_const, not_true_eq_false, false_implies, one_ne0, ne0_one, not_false_eq_true, tb_Rh_plan]
      exact fO_s hK0 2 (by unfold plF; rw [if_neg hv, if_pos (oneB_n hr hs3 hb hb2 hne)]) (by decide)
  · refine step [] 600 _ _ _ _ _ _ ?_
    simp only [wq_s, wp_s, mq_iconst, mq_bipush, mq_sipush, mq_ldc0, mq_ldc1, mq_ldc_w, mq_lconst, mq_ldc2_w, mq_iload, mq_iload_n, mq_lload, mq_lload_n, mq_aload, mq_aload_n, mq_istore, mq_istore_n, mq_lstore, mq_lstore_n, mq_astore, mq_astore_n, mq_iinc, mq_iadd, mq_isub, mq_imul, mq_iand, mq_ior, mq_ixor, mq_idiv, mq_irem, mq_ineg, mq_ishl, mq_ishr, mq_iushr, mq_ladd, mq_lsub, mq_land, mq_lor, mq_lxor, mq_lshl, mq_lshr, mq_lushr, mq_i2l, mq_l2i, mq_i2b, mq_i2s, mq_lcmp, mq_dupI, mq_dupR, mq_dup2, mq_ifCond, mq_if_icmp, mq_goto, mq_nnN, mq_nnR, mq_get1, mq_get2, mq_get0, mq_get3, mq_put1, mq_put2, mq_put3, mq_put0, mq_iaload, mq_laload, mq_aald, mq_iastore, mq_lastore, mq_aastore, mq_arraylength, mq_newarray, mq_anewarray, mq_new, mq_cpI, mq_cpL, mq_abs, mq_max, mq_min, mq_is0, mq_is1, mq_iv0, mq_iv3, mq_ob, mq_ii0, mq_ii1, mq_tableswitch, mq_lookupswitch, mq_iret, mq_lret, mq_vret, hq_pI, hq_pL, hq_pR, hq_pA0, hq_pA1, hq_lk0, hq_lk1, hq_gI, hq_gIo, hq_gL, hq_gLo, hq_gA, hq_gAo, hq_rf1, hq_rf0, hq_st0_int, hq_st0_ref, hq_st0_long, hq_st1, hq_st2, hq_c0, hq_c_int, hq_c_ref, hq_c_long, hq_cS_eq, hq_cS_ne, hq_cS_lt, hq_cS_ge, hq_cS_gt, hq_cS_le, hq_isO, hq_isA, hq_inS0, hq_inS1, hq_bzI, hq_bzZ, hq_sw0, hq_sw1, hq_cat0, hq_catI, hq_catR, hq_catL, hq_en0, hq_enL, hq_enI, hq_enR, hq_hp, hq_callW, hq_rep0, hq_rep1, hq_tl1, hq_tl0, sh_all, rf_all, Nat.reduceAdd, Nat.reduceSub, Nat.reduceMul, Nat.reduceBEq, ↓reduceIte, Bool.or_false, Bool.or_true, Bool.false_or, Bool.true_or, Bool.false_eq_true, Nat.reduceLT, Nat.reduceLeDiff, Nat.reduceEqDiff, true_or, true_and, and_true, false_or, or_true, eq_self, bI_d0, bI_d1, bI_o, em_1, Classical.not_not, Nat.add_zero, forall_const, not_true_eq_false, false_implies, one_ne0, ne0_one, not_false_eq_true, tb_Rh_plan]
    exact fO_s hK0 0 (if_pos (Or.inr (by rw [ush_0 rows hn]; exact e2))) (by decide)
