theorem Ct.mono {d : MD} {args : List Value} {h : MH} {K K' : KT} (H : Ct d args h K) (hk : ∀ r h', K r h' → tyOK d.2.2.2.1 r → K' r h') : Ct d args h K' := by
  intro l G ad sz p e h1 h2 h3 s m args' below hf happ hP hKt
  obtain ⟨n, oc, a1, a2, a3, ⟨⟨⟨r, h', ad', q1, q2, q3⟩, hF⟩, hFr⟩⟩ := H l G ad sz p e h1 h2 h3 s m args' below hf happ hP hKt
  exact ⟨n, oc, a1, a2, a3, ⟨⟨⟨r, h', ad', q1, ⟨hk r h' q2.1 q2.2, q2.2⟩, q3⟩, hF⟩, hFr⟩⟩
theorem tyI {rt : Option FieldType} {r : Option Value} (e : rt = some .int) (h : tyOK rt r) : ∃ x, r = some (.int x) := by
  subst e
  cases r with
  | none => exact absurd h (by simp [tyOK])
  | some v => cases v <;> first | exact ⟨_, rfl⟩ | exact absurd h (by simp [tyOK])
theorem tyL {rt : Option FieldType} {r : Option Value} (e : rt = some .long) (h : tyOK rt r) : ∃ x, r = some (.long x) := by
  subst e
  cases r with
  | none => exact absurd h (by simp [tyOK])
  | some v => cases v <;> first | exact ⟨_, rfl⟩ | exact absurd h (by simp [tyOK])
def aft (v : Value) (dm : MD) (as : List Value) (h : MH) : Prop := Ct dm (.ref 57 :: as) h (fun r' h' => r' = some v ∧ ∃ I' L' z', h' = hp I' L' z' ∧ Inv I' L' z')
theorem op_useI {dc dm : MD} {as : List Value} (hop : OpOK dc dm as) (ht : dc.2.2.2.1 = some .int) {I : Nat → Nat → Int32} {L : Nat → Nat → Int64} {z : Bool} {K' : KT} (hI : Inv I L z) (hk : ∀ x h, aft (.int x) dm as h → K' (some (.int x)) h) : Ct dc (.ref 0 :: as) (hp I L z) K' :=
  Ct.mono (hop I L z hI) (fun r h' hh hty => by obtain ⟨x, rfl⟩ := tyI ht hty; exact hk x h' hh)
theorem op_useL {dc dm : MD} {as : List Value} (hop : OpOK dc dm as) (ht : dc.2.2.2.1 = some .long) {I : Nat → Nat → Int32} {L : Nat → Nat → Int64} {z : Bool} {K' : KT} (hI : Inv I L z) (hk : ∀ x h, aft (.long x) dm as h → K' (some (.long x)) h) : Ct dc (.ref 0 :: as) (hp I L z) K' :=
  Ct.mono (hop I L z hI) (fun r h' hh hty => by obtain ⟨x, rfl⟩ := tyL ht hty; exact hk x h' hh)
theorem aft_use {v : Value} {dm : MD} {as : List Value} {h : MH} {K' : KT} (ha : aft v dm as h) (hk : ∀ I' L' z', Inv I' L' z' → K' (some v) (hp I' L' z')) : Ct dm (.ref 57 :: as) h K' :=
  Ct.mono ha (fun r h' hh _ => by obtain ⟨rfl, I', L', z', rfl, hI'⟩ := hh; exact hk I' L' z' hI')
def LStep (P : PT) (nB N : Nat) (xs : Nat → Int32) : Prop := ∀ rows : List Row, rows.all (okRow room_1 "RiverHeadLaw" code 4 false) = true → ∀ stops n pc lv st h cn sn, wq room_1 (some .boolean) nB (N + 1, xs) Ct (tabOf rows) (fun r _ => r = some (.int 1)) P stops n pc lv st h cn sn → P pc lv st h cn sn
abbrev lvL (i : Nat) : LV := [some (.ref 3000), some (.ref 0), some (.ref 57), some (.int (nI i))]
theorem rm_c : room_1.cells = 600000 := rfl
theorem rm_s : room_1.slots = 7302250 := rfl
theorem rm_l : room_1.locals = 446 := rfl
theorem nzp_0 (z : Bool) : (0 < nz z) = True := by cases z <;> exact eq_true (by decide)
theorem nzp_57 (z : Bool) : (57 < nz z) = True := by cases z <;> exact eq_true (by decide)
theorem lg_same (x : Int64) : lg_cmp x x = 0 := by unfold lg_cmp; simp
theorem nx_1 (N : Nat) : N + 1 - 1 = N := rfl
theorem Nne (N : Nat) : (N + 1 = 0) = False := eq_false (by omega)
def rl_c0 : List Row := [(264, .aload_n 1, 1, 0, 1, 0, 0, 0, 0, [], md0),
  (265, .aload_n 0, 1, 0, 0, 0, 0, 0, 0, [], md0),
  (266, .iload_n 3, 1, 0, 3, 0, 0, 0, 0, [], md0),
  (267, .iconst 1, 1, 0, 0, 0, 0, 1, 0, [], md0),
  (268, .iadd, 1, 0, 0, 0, 0, 0, 0, [], md0),
  (269, .iaload, 1, 0, 0, 0, 0, 0, 0, [], md0),
  (270, .aload_n 0, 1, 0, 0, 0, 0, 0, 0, [], md0),
  (271, .iload_n 3, 1, 0, 3, 0, 0, 0, 0, [], md0),
  (272, .iconst 2, 1, 0, 0, 0, 0, 2, 0, [], md0),
  (273, .iadd, 1, 0, 0, 0, 0, 0, 0, [], md0),
  (274, .iaload, 1, 0, 0, 0, 0, 0, 0, [], md0),
  (275, .invokevirtual 13, 3, 418, 10, 0, 0, 0, 0, [], m_Rh_high),
  (278, .aload_n 2, 1, 0, 2, 0, 0, 0, 0, [], md0),
  (279, .aload_n 0, 1, 0, 0, 0, 0, 0, 0, [], md0),
  (280, .iload_n 3, 1, 0, 3, 0, 0, 0, 0, [], md0),
  (281, .iconst 1, 1, 0, 0, 0, 0, 1, 0, [], md0),
  (282, .iadd, 1, 0, 0, 0, 0, 0, 0, [], md0),
  (283, .iaload, 1, 0, 0, 0, 0, 0, 0, [], md0),
  (284, .aload_n 0, 1, 0, 0, 0, 0, 0, 0, [], md0),
  (285, .iload_n 3, 1, 0, 3, 0, 0, 0, 0, [], md0),
  (286, .iconst 2, 1, 0, 0, 0, 0, 2, 0, [], md0),
  (287, .iadd, 1, 0, 0, 0, 0, 0, 0, [], md0),
  (288, .iaload, 1, 0, 0, 0, 0, 0, 0, [], md0),
  (289, .invokevirtual 17, 3, 1235, 11, 0, 0, 0, 0, [], m_Mo_high),
  (292, .if_icmp .eq 1666, 3, 0, 1958, 0, 0, 0, 0, [], md0),
  (295, .iconst 0, 1, 0, 0, 0, 0, 0, 0, [], md0),
  (296, .ireturn, 1, 0, 0, 0, 0, 0, 0, [], md0)]
set_option maxRecDepth 100000 in
theorem tl_c0 : tabOf rl_c0 264 = (264, .aload_n 1, 1, 0, 1, 0, 0, 0, 0, [], md0) ∧ tabOf rl_c0 265 = (265, .aload_n 0, 1, 0, 0, 0, 0, 0, 0, [], md0) ∧ tabOf rl_c0 266 = (266, .iload_n 3, 1, 0, 3, 0, 0, 0, 0, [], md0) ∧ tabOf rl_c0 267 = (267, .iconst 1, 1, 0, 0, 0, 0, 1, 0, [], md0) ∧ tabOf rl_c0 268 = (268, .iadd, 1, 0, 0, 0, 0, 0, 0, [], md0) ∧ tabOf rl_c0 269 = (269, .iaload, 1, 0, 0, 0, 0, 0, 0, [], md0) ∧ tabOf rl_c0 270 = (270, .aload_n 0, 1, 0, 0, 0, 0, 0, 0, [], md0) ∧ tabOf rl_c0 271 = (271, .iload_n 3, 1, 0, 3, 0, 0, 0, 0, [], md0) ∧ tabOf rl_c0 272 = (272, .iconst 2, 1, 0, 0, 0, 0, 2, 0, [], md0) ∧ tabOf rl_c0 273 = (273, .iadd, 1, 0, 0, 0, 0, 0, 0, [], md0) ∧ tabOf rl_c0 274 = (274, .iaload, 1, 0, 0, 0, 0, 0, 0, [], md0) ∧ tabOf rl_c0 275 = (275, .invokevirtual 13, 3, 418, 10, 0, 0, 0, 0, [], m_Rh_high) ∧ tabOf rl_c0 278 = (278, .aload_n 2, 1, 0, 2, 0, 0, 0, 0, [], md0) ∧ tabOf rl_c0 279 = (279, .aload_n 0, 1, 0, 0, 0, 0, 0, 0, [], md0) ∧ tabOf rl_c0 280 = (280, .iload_n 3, 1, 0, 3, 0, 0, 0, 0, [], md0) ∧ tabOf rl_c0 281 = (281, .iconst 1, 1, 0, 0, 0, 0, 1, 0, [], md0) ∧ tabOf rl_c0 282 = (282, .iadd, 1, 0, 0, 0, 0, 0, 0, [], md0) ∧ tabOf rl_c0 283 = (283, .iaload, 1, 0, 0, 0, 0, 0, 0, [], md0) ∧ tabOf rl_c0 284 = (284, .aload_n 0, 1, 0, 0, 0, 0, 0, 0, [], md0) ∧ tabOf rl_c0 285 = (285, .iload_n 3, 1, 0, 3, 0, 0, 0, 0, [], md0) ∧ tabOf rl_c0 286 = (286, .iconst 2, 1, 0, 0, 0, 0, 2, 0, [], md0) ∧ tabOf rl_c0 287 = (287, .iadd, 1, 0, 0, 0, 0, 0, 0, [], md0) ∧ tabOf rl_c0 288 = (288, .iaload, 1, 0, 0, 0, 0, 0, 0, [], md0) ∧ tabOf rl_c0 289 = (289, .invokevirtual 17, 3, 1235, 11, 0, 0, 0, 0, [], m_Mo_high) ∧ tabOf rl_c0 292 = (292, .if_icmp .eq 1666, 3, 0, 1958, 0, 0, 0, 0, [], md0) ∧ tabOf rl_c0 295 = (295, .iconst 0, 1, 0, 0, 0, 0, 0, 0, [], md0) ∧ tabOf rl_c0 296 = (296, .ireturn, 1, 0, 0, 0, 0, 0, 0, [], md0) ∧ m_Rh_high.2.2.2.2.1.cells = 0 ∧ m_Rh_high.2.2.2.2.1.slots = 0 ∧ m_Rh_high.2.2.2.2.2.1 = 2 ∧ m_Mo_high.2.2.2.2.1.cells = 0 ∧ m_Mo_high.2.2.2.2.1.slots = 0 ∧ m_Mo_high.2.2.2.2.2.1 = 2 := ⟨rfl, rfl, rfl, rfl, rfl, rfl, rfl, rfl, rfl, rfl, rfl, rfl, rfl, rfl, rfl, rfl, rfl, rfl, rfl, rfl, rfl, rfl, rfl, rfl, rfl, rfl, rfl, rfl, rfl, rfl, rfl, rfl, rfl⟩
set_option maxRecDepth 100000 in
theorem ol_c0 : rl_c0.all (okRow room_1 "RiverHeadLaw" code 4 false) = true := by decide +kernel
set_option maxRecDepth 100000 in
set_option maxHeartbeats 4000000 in
theorem law_c0 {P : PT} {xs : Nat → Int32} {N : Nat} (hs : LStep P 71 N xs) (hN : N ≤ 3072) (i : Nat) (hi : i + 6 ≤ N) {I : Nat → Nat → Int32} {L : Nat → Nat → Int64} {z : Bool} (hI : Inv I L z) (cn sn : Nat) (hcn : cn + 35 ≤ 600000) (hsn : sn + 1601 ≤ 7302250) (next : ∀ (I : Nat → Nat → Int32) (L : Nat → Nat → Int64) (z : Bool) (cn2 sn2 : Nat), Inv I L z → cn2 ≤ cn + 35 → sn2 ≤ sn + 1601 → P 1958 (lvL i) [] (hp I L z) cn2 sn2) : P 264 (lvL i) [] (hp I L z) cn sn := by
  unfold lvL
  refine hs rl_c0 ol_c0 [1958] 100 _ _ _ _ _ _ ?_
  simp only [wq_s, wp_s, mq_iconst, mq_bipush, mq_sipush, mq_ldc0, mq_ldc1, mq_ldc_w, mq_lconst, mq_ldc2_w, mq_iload, mq_iload_n, mq_lload, mq_lload_n, mq_aload, mq_aload_n, mq_istore, mq_istore_n, mq_lstore, mq_lstore_n, mq_astore, mq_astore_n, mq_iinc, mq_iadd, mq_isub, mq_imul, mq_iand, mq_ior, mq_ixor, mq_idiv, mq_irem, mq_ineg, mq_ishl, mq_ishr, mq_iushr, mq_ladd, mq_lsub, mq_land, mq_lor, mq_lxor, mq_lshl, mq_lshr, mq_lushr, mq_i2l, mq_l2i, mq_i2b, mq_i2s, mq_lcmp, mq_dupI, mq_dupR, mq_dup2, mq_ifCond, mq_if_icmp, mq_goto, mq_nnN, mq_nnR, mq_get1, mq_get2, mq_get0, mq_get3, mq_put1, mq_put2, mq_put3, mq_put0, mq_iaload, mq_laload, mq_aald, mq_iastore, mq_lastore, mq_aastore, mq_arraylength, mq_newarray, mq_anewarray, mq_new, mq_cpI, mq_cpL, mq_abs, mq_max, mq_min, mq_is0, mq_is1, mq_iv0, mq_iv3, mq_ob, mq_ii0, mq_ii1, mq_tableswitch, mq_lookupswitch, mq_iret, mq_lret, mq_vret, hq_pI, hq_pL, hq_pR, hq_pA0, hq_pA1, hq_lk0, hq_lk1, hq_gI, hq_gIo, hq_gL, hq_gLo, hq_gA, hq_gAo, hq_rf1, hq_rf0, hq_st0_int, hq_st0_ref, hq_st0_long, hq_st1, hq_st2, hq_c0, hq_c_int, hq_c_ref, hq_c_long, hq_cS_eq, hq_cS_ne, hq_cS_lt, hq_cS_ge, hq_cS_gt, hq_cS_le, hq_isO, hq_isA, hq_inS0, hq_inS1, hq_bzI, hq_bzZ, hq_sw0, hq_sw1, hq_cat0, hq_catI, hq_catR, hq_catL, hq_en0, hq_enL, hq_enI, hq_enR, hq_hp, hq_callW, hq_rep0, hq_rep1, hq_tl1, hq_tl0, sh_all, rf_all, Nat.reduceAdd, Nat.reduceSub, Nat.reduceMul, Nat.reduceBEq, ↓reduceIte, Bool.or_false, Bool.or_true, Bool.false_or, Bool.true_or, Bool.false_eq_true, Nat.reduceLT, Nat.reduceLeDiff, Nat.reduceEqDiff, true_or, true_and, and_true, false_or, or_true, eq_self, bI_d0, bI_d1, bI_o, em_1, Classical.not_not, Nat.add_zero, forall_const, not_true_eq_false, false_implies, one_ne0, ne0_one, not_false_eq_true, tl_c0, rm_c, rm_s, rm_l, nx_1, Nne, lO_0, lO_n, lO_v, vO_r, vO_i, sO_0, sO_v, nzp_0, nzp_57, Nat.add_zero, lg_same]
  simp (disch := omega) only [lit, nI_add, nI_clamp, vp_in_nI, true_and]
  refine ⟨by omega, by omega, op_useI (op_high _ _) rfl hI (fun x h ha => ?_)⟩
  refine hs rl_c0 ol_c0 [1958] 100 _ _ _ _ _ _ ?_
  simp only [wq_s, wp_s, mq_iconst, mq_bipush, mq_sipush, mq_ldc0, mq_ldc1, mq_ldc_w, mq_lconst, mq_ldc2_w, mq_iload, mq_iload_n, mq_lload, mq_lload_n, mq_aload, mq_aload_n, mq_istore, mq_istore_n, mq_lstore, mq_lstore_n, mq_astore, mq_astore_n, mq_iinc, mq_iadd, mq_isub, mq_imul, mq_iand, mq_ior, mq_ixor, mq_idiv, mq_irem, mq_ineg, mq_ishl, mq_ishr, mq_iushr, mq_ladd, mq_lsub, mq_land, mq_lor, mq_lxor, mq_lshl, mq_lshr, mq_lushr, mq_i2l, mq_l2i, mq_i2b, mq_i2s, mq_lcmp, mq_dupI, mq_dupR, mq_dup2, mq_ifCond, mq_if_icmp, mq_goto, mq_nnN, mq_nnR, mq_get1, mq_get2, mq_get0, mq_get3, mq_put1, mq_put2, mq_put3, mq_put0, mq_iaload, mq_laload, mq_aald, mq_iastore, mq_lastore, mq_aastore, mq_arraylength, mq_newarray, mq_anewarray, mq_new, mq_cpI, mq_cpL, mq_abs, mq_max, mq_min, mq_is0, mq_is1, mq_iv0, mq_iv3, mq_ob, mq_ii0, mq_ii1, mq_tableswitch, mq_lookupswitch, mq_iret, mq_lret, mq_vret, hq_pI, hq_pL, hq_pR, hq_pA0, hq_pA1, hq_lk0, hq_lk1, hq_gI, hq_gIo, hq_gL, hq_gLo, hq_gA, hq_gAo, hq_rf1, hq_rf0, hq_st0_int, hq_st0_ref, hq_st0_long, hq_st1, hq_st2, hq_c0, hq_c_int, hq_c_ref, hq_c_long, hq_cS_eq, hq_cS_ne, hq_cS_lt, hq_cS_ge, hq_cS_gt, hq_cS_le, hq_isO, hq_isA, hq_inS0, hq_inS1, hq_bzI, hq_bzZ, hq_sw0, hq_sw1, hq_cat0, hq_catI, hq_catR, hq_catL, hq_en0, hq_enL, hq_enI, hq_enR, hq_hp, hq_callW, hq_rep0, hq_rep1, hq_tl1, hq_tl0, sh_all, rf_all, Nat.reduceAdd, Nat.reduceSub, Nat.reduceMul, Nat.reduceBEq, ↓reduceIte, Bool.or_false, Bool.or_true, Bool.false_or, Bool.true_or, Bool.false_eq_true, Nat.reduceLT, Nat.reduceLeDiff, Nat.reduceEqDiff, true_or, true_and, and_true, false_or, or_true, eq_self, bI_d0, bI_d1, bI_o, em_1, Classical.not_not, Nat.add_zero, forall_const, not_true_eq_false, false_implies, one_ne0, ne0_one, not_false_eq_true, tl_c0, rm_c, rm_s, rm_l, nx_1, Nne, lO_0, lO_n, lO_v, vO_r, vO_i, sO_0, sO_v, nzp_0, nzp_57, Nat.add_zero, lg_same]
  simp (disch := omega) only [lit, nI_add, nI_clamp, vp_in_nI, true_and]
  refine ⟨by omega, by omega, aft_use ha (fun I2 L2 z2 hI2 => ?_)⟩
  refine hs rl_c0 ol_c0 [1958] 100 _ _ _ _ _ _ ?_
  simp only [wq_s, wp_s, mq_iconst, mq_bipush, mq_sipush, mq_ldc0, mq_ldc1, mq_ldc_w, mq_lconst, mq_ldc2_w, mq_iload, mq_iload_n, mq_lload, mq_lload_n, mq_aload, mq_aload_n, mq_istore, mq_istore_n, mq_lstore, mq_lstore_n, mq_astore, mq_astore_n, mq_iinc, mq_iadd, mq_isub, mq_imul, mq_iand, mq_ior, mq_ixor, mq_idiv, mq_irem, mq_ineg, mq_ishl, mq_ishr, mq_iushr, mq_ladd, mq_lsub, mq_land, mq_lor, mq_lxor, mq_lshl, mq_lshr, mq_lushr, mq_i2l, mq_l2i, mq_i2b, mq_i2s, mq_lcmp, mq_dupI, mq_dupR, mq_dup2, mq_ifCond, mq_if_icmp, mq_goto, mq_nnN, mq_nnR, mq_get1, mq_get2, mq_get0, mq_get3, mq_put1, mq_put2, mq_put3, mq_put0, mq_iaload, mq_laload, mq_aald, mq_iastore, mq_lastore, mq_aastore, mq_arraylength, mq_newarray, mq_anewarray, mq_new, mq_cpI, mq_cpL, mq_abs, mq_max, mq_min, mq_is0, mq_is1, mq_iv0, mq_iv3, mq_ob, mq_ii0, mq_ii1, mq_tableswitch, mq_lookupswitch, mq_iret, mq_lret, mq_vret, hq_pI, hq_pL, hq_pR, hq_pA0, hq_pA1, hq_lk0, hq_lk1, hq_gI, hq_gIo, hq_gL, hq_gLo, hq_gA, hq_gAo, hq_rf1, hq_rf0, hq_st0_int, hq_st0_ref, hq_st0_long, hq_st1, hq_st2, hq_c0, hq_c_int, hq_c_ref, hq_c_long, hq_cS_eq, hq_cS_ne, hq_cS_lt, hq_cS_ge, hq_cS_gt, hq_cS_le, hq_isO, hq_isA, hq_inS0, hq_inS1, hq_bzI, hq_bzZ, hq_sw0, hq_sw1, hq_cat0, hq_catI, hq_catR, hq_catL, hq_en0, hq_enL, hq_enI, hq_enR, hq_hp, hq_callW, hq_rep0, hq_rep1, hq_tl1, hq_tl0, sh_all, rf_all, Nat.reduceAdd, Nat.reduceSub, Nat.reduceMul, Nat.reduceBEq, ↓reduceIte, Bool.or_false, Bool.or_true, Bool.false_or, Bool.true_or, Bool.false_eq_true, Nat.reduceLT, Nat.reduceLeDiff, Nat.reduceEqDiff, true_or, true_and, and_true, false_or, or_true, eq_self, bI_d0, bI_d1, bI_o, em_1, Classical.not_not, Nat.add_zero, forall_const, not_true_eq_false, false_implies, one_ne0, ne0_one, not_false_eq_true, tl_c0, rm_c, rm_s, rm_l, nx_1, Nne, lO_0, lO_n, lO_v, vO_r, vO_i, sO_0, sO_v, nzp_0, nzp_57, Nat.add_zero, lg_same]
  first | exact next _ _ _ _ _ hI2 (by omega) (by omega) | exact ⟨fun _ => next _ _ _ _ _ hI2 (by omega) (by omega), fun ne => absurd rfl ne⟩
