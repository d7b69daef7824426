-- CONSTRUCTORS: a new cell is zeros
def zzI (I : Nat → Nat → Int32) (lo hi : Nat) : Nat → Nat → Int32 := fun x y => if lo ≤ x ∧ x < hi then 0 else I x y
def zzL (I : Nat → Nat → Int64) (lo hi : Nat) : Nat → Nat → Int64 := fun x y => if lo ≤ x ∧ x < hi then 0 else I x y
def zR (r : Nat → Nat → Option Nat) (n : Nat) : Nat → Nat → Option Nat := fun x y => if x = n then none else r x y
def cpZ (b k : Nat) (I : Nat → Nat → Int32) : Nat → Nat → Int32 := fun x y => if x = 14 + b ∧ y < k then -1 else if x = 15 + b ∧ y < k then 3599 else I x y
theorem zR_ne {r : Nat → Nat → Option Nat} {n x : Nat} (h : x ≠ n) : zR r n x = r x := by funext y; unfold zR; rw [if_neg h]
theorem upR_ne {r : Nat → Nat → Option Nat} {a j x : Nat} {v : Option Nat} (h : x ≠ a) : upR r a j v x = r x := by funext y; unfold upR; rw [if_neg (fun q => h q.1)]
theorem zz_00 (I : Nat → Nat → Int32) (L : Nat → Nat → Int64) (r : Nat → Nat → Option Nat) (n : Nat) : ((I, L, r, n) : MH) = (zzI I n n, zzL L n n, r, n) := by
  have e1 : zzI I n n = I := by funext x y; unfold zzI; rw [if_neg (by omega)]
  have e2 : zzL L n n = L := by funext x y; unfold zzL; rw [if_neg (by omega)]
  rw [e1, e2]
theorem zI_s (I : Nat → Nat → Int32) {lo n : Nat} (h : lo ≤ n) : (fun x y => if x = n then 0 else zzI I lo n x y) = zzI I lo (n + 1) := by
  funext x y
  unfold zzI
  by_cases e : x = n
  · subst e; rw [if_pos rfl, if_pos ⟨h, by omega⟩]
  · rw [if_neg e]
    by_cases e2 : lo ≤ x ∧ x < n
    · rw [if_pos e2, if_pos ⟨e2.1, by omega⟩]
    · rw [if_neg e2, if_neg (fun q => e2 ⟨q.1, by omega⟩)]
theorem zL_s (I : Nat → Nat → Int64) {lo n : Nat} (h : lo ≤ n) : (fun x y => if x = n then 0 else zzL I lo n x y) = zzL I lo (n + 1) := by
  funext x y
  unfold zzL
  by_cases e : x = n
  · subst e; rw [if_pos rfl, if_pos ⟨h, by omega⟩]
  · rw [if_neg e]
    by_cases e2 : lo ≤ x ∧ x < n
    · rw [if_pos e2, if_pos ⟨e2.1, by omega⟩]
    · rw [if_neg e2, if_neg (fun q => e2 ⟨q.1, by omega⟩)]
theorem nw_zz (I : Nat → Nat → Int32) (L : Nat → Nat → Int64) (r : Nat → Nat → Option Nat) (lo n : Nat) (h : lo ≤ n) : nwH (zzI I lo n, zzL L lo n, r, n) = (zzI I lo (n + 1), zzL L lo (n + 1), zR r n, n + 1) := by
  rw [← zI_s I h, ← zL_s L h]; rfl
theorem nw_cz (I : Nat → Nat → Int32) (L : Nat → Nat → Int64) (r : Nat → Nat → Option Nat) (b lo n : Nat) (h : lo ≤ n) (h2 : 16 + b ≤ n) : nwH (cpZ b 5 (zzI I lo n), zzL L lo n, r, n) = (cpZ b 5 (zzI I lo (n + 1)), zzL L lo (n + 1), zR r n, n + 1) := by
  rw [← zI_s I h, ← zL_s L h]
  have e : (fun x y => if x = n then 0 else cpZ b 5 (zzI I lo n) x y) = cpZ b 5 (fun x y => if x = n then 0 else zzI I lo n x y) := by
    funext x y
    unfold cpZ
    by_cases e : x = n
    · rw [if_pos e, if_neg (fun q => by omega), if_neg (fun q => by omega)]; exact (if_pos e).symm
    · rw [if_neg e]; simp only [if_neg e]
  rw [← e]; rfl
theorem nw_up (I : Nat → Nat → Int32) (L : Nat → Nat → Int64) (r : Nat → Nat → Option Nat) (a j lo n : Nat) (v : Int32) (h : lo ≤ n) (h2 : a < lo) : nwH (upI (zzI I lo n) a j v, zzL L lo n, r, n) = (upI (zzI I lo (n + 1)) a j v, zzL L lo (n + 1), zR r n, n + 1) := by
  rw [← zI_s I h, ← zL_s L h]
  have e : (fun x y => if x = n then 0 else upI (zzI I lo n) a j v x y) = upI (fun x y => if x = n then 0 else zzI I lo n x y) a j v := by
    funext x y
    unfold upI
    by_cases e : x = n
    · rw [if_pos e, if_neg (fun q => by omega)]; exact (if_pos e).symm
    · rw [if_neg e]; simp only [if_neg e]
  rw [← e]; rfl
theorem zzI_t {I : Nat → Nat → Int32} {a b c : Nat} (h1 : a ≤ b) (h2 : b ≤ c) : zzI (zzI I a b) b c = zzI I a c := by
  funext x y
  unfold zzI
  by_cases e : b ≤ x ∧ x < c
  · rw [if_pos e, if_pos ⟨by omega, e.2⟩]
  · rw [if_neg e]
    by_cases e2 : a ≤ x ∧ x < b
    · rw [if_pos e2, if_pos ⟨e2.1, by omega⟩]
    · rw [if_neg e2, if_neg (fun q => by omega)]
theorem zzL_t {I : Nat → Nat → Int64} {a b c : Nat} (h1 : a ≤ b) (h2 : b ≤ c) : zzL (zzL I a b) b c = zzL I a c := by
  funext x y
  unfold zzL
  by_cases e : b ≤ x ∧ x < c
  · rw [if_pos e, if_pos ⟨by omega, e.2⟩]
  · rw [if_neg e]
    by_cases e2 : a ≤ x ∧ x < b
    · rw [if_pos e2, if_pos ⟨e2.1, by omega⟩]
    · rw [if_neg e2, if_neg (fun q => by omega)]
theorem zc_t {I : Nat → Nat → Int32} {b lo m k : Nat} (h1 : lo ≤ m) (h2 : m ≤ k) (h3 : 16 + b ≤ m) : zzI (cpZ b 5 (zzI I lo m)) m k = cpZ b 5 (zzI I lo k) := by
  rw [← zzI_t (I := I) h1 h2]
  funext x y
  unfold cpZ
  by_cases e : m ≤ x ∧ x < k
  · have : ∀ J : Nat → Nat → Int32, zzI J m k x y = 0 := fun J => by unfold zzI; rw [if_pos e]
    rw [this, if_neg (fun q => by omega), if_neg (fun q => by omega), this]
  · have : ∀ J : Nat → Nat → Int32, zzI J m k x y = J x y := fun J => by unfold zzI; rw [if_neg e]
    rw [this, this]
theorem lO_0 (n : Nat) : lOK n [] = True := nr rfl
theorem lO_n (n : Nat) (r : LV) : lOK n (none :: r) = lOK n r := nr rfl
theorem lO_v (n : Nat) (v : Value) (r : LV) : lOK n (some v :: r) = (vOK n v ∧ lOK n r) := nr rfl
theorem vO_r (n x : Nat) : vOK n (.ref x) = (x < n ∨ 1000 ≤ x) := nr rfl
theorem vO_i (n : Nat) (x : Int32) : vOK n (.int x) = True := nr rfl
theorem sO_0 (n : Nat) : sOK n [] = True := nr rfl
theorem sO_v (n : Nat) (v : Value) (r : List Value) : sOK n (v :: r) = (vOK n v ∧ sOK n r) := nr rfl
theorem kR {K : KT} {a : Nat → Nat → Int32} {b : Nat → Nat → Int64} {r r' : Nat → Nat → Option Nat} {n : Nat} (hK : K none (a, b, r, n)) (e : r' = r) : K none (a, b, r', n) := by rw [e]; exact hK
theorem pRf {P : PT} {pc : Nat} {lv : LV} {st : List Value} {a : Nat → Nat → Int32} {b : Nat → Nat → Int64} {r r' : Nat → Nat → Option Nat} {n cn sn : Nat} (e : r' = r) (h : P pc lv st (a, b, r, n) cn sn) : P pc lv st (a, b, r', n) cn sn := by rw [e]; exact h
theorem rn_0 (y : Nat) (h0 : ¬ y = 0) (h1 : ¬ y = 1) (h2 : ¬ y = 2) (h3 : ¬ y = 3) (h4 : ¬ y = 4) (h5 : ¬ y = 5) : rfx false 0 y = none := by
  rcases y with _ | _ | _ | _ | _ | _ | _ | n
  all_goals first | rfl | (exfalso; omega)
theorem rn_1 (y : Nat) (h0 : ¬ y = 0) (h1 : ¬ y = 1) (h2 : ¬ y = 2) (h3 : ¬ y = 3) (h4 : ¬ y = 4) (h5 : ¬ y = 5) : rfx false 1 y = none := by
  rcases y with _ | _ | _ | _ | _ | _ | n
  all_goals first | rfl | (exfalso; omega)
theorem rn_2 (y : Nat) (h0 : ¬ y = 0) (h1 : ¬ y = 1) (h2 : ¬ y = 2) (h3 : ¬ y = 3) (h4 : ¬ y = 4) (h5 : ¬ y = 5) (h7 : ¬ y = 7) : rfx false 2 y = none := by
  rcases y with _ | _ | _ | _ | _ | _ | _ | _ | n
  all_goals first | rfl | (exfalso; omega)
theorem rn_10 (y : Nat) (h0 : ¬ y = 0) (h1 : ¬ y = 1) (h2 : ¬ y = 2) (h3 : ¬ y = 3) (h4 : ¬ y = 4) : rfx false 10 y = none := by
  rcases y with _ | _ | _ | _ | _ | n
  all_goals first | rfl | (exfalso; omega)
theorem rn_16 (y : Nat) (h0 : ¬ y = 0) (h1 : ¬ y = 1) (h2 : ¬ y = 2) (h3 : ¬ y = 3) (h4 : ¬ y = 4) (h5 : ¬ y = 5) (h8 : ¬ y = 8) : rfx false 16 y = none := by
  rcases y with _ | _ | _ | _ | _ | _ | _ | _ | _ | n
  all_goals first | rfl | (exfalso; omega)
theorem rn_24 (y : Nat) (h0 : ¬ y = 0) (h1 : ¬ y = 1) (h2 : ¬ y = 2) (h3 : ¬ y = 3) (h4 : ¬ y = 4) (h5 : ¬ y = 5) (h6 : ¬ y = 6) : rfx false 24 y = none := by
  rcases y with _ | _ | _ | _ | _ | _ | _ | n
  all_goals first | rfl | (exfalso; omega)
theorem rn_32 (y : Nat) (h0 : ¬ y = 0) (h1 : ¬ y = 1) : rfx false 32 y = none := by
  rcases y with _ | _ | n
  all_goals first | rfl | (exfalso; omega)
theorem rn_36 (y : Nat) (h0 : ¬ y = 0) : rfx false 36 y = none := by
  rcases y with _ | n
  all_goals first | rfl | (exfalso; omega)
theorem rn_38 (y : Nat) (h0 : ¬ y = 0) (h1 : ¬ y = 1) (h2 : ¬ y = 2) (h3 : ¬ y = 3) (h4 : ¬ y = 4) : rfx false 38 y = none := by
  rcases y with _ | _ | _ | _ | _ | n
  all_goals first | rfl | (exfalso; omega)
theorem rn_44 (y : Nat) (h0 : ¬ y = 0) (h2 : ¬ y = 2) : rfx false 44 y = none := by
  rcases y with _ | _ | _ | n
  all_goals first | rfl | (exfalso; omega)
theorem rn_47 (y : Nat) (h0 : ¬ y = 0) (h1 : ¬ y = 1) (h2 : ¬ y = 2) (h3 : ¬ y = 3) : rfx false 47 y = none := by
  rcases y with _ | _ | _ | _ | n
  all_goals first | rfl | (exfalso; omega)
theorem rn_49 (y : Nat) (h0 : ¬ y = 0) : rfx false 49 y = none := by
  rcases y with _ | n
  all_goals first | rfl | (exfalso; omega)
theorem rn_51 (y : Nat) (h0 : ¬ y = 0) : rfx false 51 y = none := by
  rcases y with _ | n
  all_goals first | rfl | (exfalso; omega)
theorem rn_53 (y : Nat) (h0 : ¬ y = 0) : rfx false 53 y = none := by
  rcases y with _ | n
  all_goals first | rfl | (exfalso; omega)
theorem rn_55 (y : Nat) (h0 : ¬ y = 0) : rfx false 55 y = none := by
  rcases y with _ | n
  all_goals first | rfl | (exfalso; omega)
theorem rn_57 (y : Nat) (h0 : ¬ y = 0) (h1 : ¬ y = 1) (h3 : ¬ y = 3) (h5 : ¬ y = 5) (h6 : ¬ y = 6) (h7 : ¬ y = 7) (h8 : ¬ y = 8) (h14 : ¬ y = 14) (h16 : ¬ y = 16) (h17 : ¬ y = 17) (h18 : ¬ y = 18) (h19 : ¬ y = 19) (h20 : ¬ y = 20) : rfx false 57 y = none := by
  rcases y with _ | _ | _ | _ | _ | _ | _ | _ | _ | _ | _ | _ | _ | _ | _ | _ | _ | _ | _ | _ | _ | n
  all_goals first | rfl | (exfalso; omega)
theorem rn_71 (y : Nat) (h0 : ¬ y = 0) (h1 : ¬ y = 1) (h2 : ¬ y = 2) (h3 : ¬ y = 3) (h4 : ¬ y = 4) (h5 : ¬ y = 5) : rfx false 71 y = none := by
  rcases y with _ | _ | _ | _ | _ | _ | n
  all_goals first | rfl | (exfalso; omega)
theorem rn_72 (y : Nat) (h0 : ¬ y = 0) (h1 : ¬ y = 1) (h2 : ¬ y = 2) (h3 : ¬ y = 3) (h4 : ¬ y = 4) (h5 : ¬ y = 5) (h7 : ¬ y = 7) : rfx false 72 y = none := by
  rcases y with _ | _ | _ | _ | _ | _ | _ | _ | n
  all_goals first | rfl | (exfalso; omega)
theorem rn_80 (y : Nat) (h0 : ¬ y = 0) (h1 : ¬ y = 1) (h2 : ¬ y = 2) (h3 : ¬ y = 3) (h4 : ¬ y = 4) : rfx false 80 y = none := by
  rcases y with _ | _ | _ | _ | _ | n
  all_goals first | rfl | (exfalso; omega)
theorem rn_86 (y : Nat) (h0 : ¬ y = 0) (h1 : ¬ y = 1) (h2 : ¬ y = 2) (h3 : ¬ y = 3) (h4 : ¬ y = 4) (h5 : ¬ y = 5) (h8 : ¬ y = 8) : rfx false 86 y = none := by
  rcases y with _ | _ | _ | _ | _ | _ | _ | _ | _ | n
  all_goals first | rfl | (exfalso; omega)
theorem rn_94 (y : Nat) (h0 : ¬ y = 0) (h1 : ¬ y = 1) (h2 : ¬ y = 2) (h3 : ¬ y = 3) (h4 : ¬ y = 4) (h5 : ¬ y = 5) (h6 : ¬ y = 6) : rfx false 94 y = none := by
  rcases y with _ | _ | _ | _ | _ | _ | _ | n
  all_goals first | rfl | (exfalso; omega)
theorem rn_102 (y : Nat) (h0 : ¬ y = 0) (h1 : ¬ y = 1) : rfx false 102 y = none := by
  rcases y with _ | _ | n
  all_goals first | rfl | (exfalso; omega)
theorem re_La0 {r : Nat → Nat → Option Nat} (hr : ∀ x, 2 ≤ x → x < 10 → r x = rfx false x) : upR (zR (upR (zR (upR (zR (upR (zR (upR (zR (upR (zR (upR (zR (zR r 2) 3) 2 0 (some 3)) 4) 2 1 (some 4)) 5) 2 2 (some 5)) 6) 2 3 (some 6)) 7) 2 4 (some 7)) 8) 2 5 (some 8)) 9) 2 7 (some 9) = r := by
  funext a y
  by_cases h2 : a = 2
  · subst h2
    rw [hr 2 (by decide) (by decide)]
    by_cases y0 : y = 0
    · subst y0; rfl
    by_cases y1 : y = 1
    · subst y1; rfl
    by_cases y2 : y = 2
    · subst y2; rfl
    by_cases y3 : y = 3
    · subst y3; rfl
    by_cases y4 : y = 4
    · subst y4; rfl
    by_cases y5 : y = 5
    · subst y5; rfl
    by_cases y7 : y = 7
    · subst y7; rfl
    rw [rn_2 y y0 y1 y2 y3 y4 y5 y7]
    simp [upR, zR, y0, y1, y2, y3, y4, y5, y7]
  by_cases h3 : a = 3
  · subst h3; rw [hr 3 (by decide) (by decide)]; rfl
  by_cases h4 : a = 4
  · subst h4; rw [hr 4 (by decide) (by decide)]; rfl
  by_cases h5 : a = 5
  · subst h5; rw [hr 5 (by decide) (by decide)]; rfl
  by_cases h6 : a = 6
  · subst h6; rw [hr 6 (by decide) (by decide)]; rfl
  by_cases h7 : a = 7
  · subst h7; rw [hr 7 (by decide) (by decide)]; rfl
  by_cases h8 : a = 8
  · subst h8; rw [hr 8 (by decide) (by decide)]; rfl
  by_cases h9 : a = 9
  · subst h9; rw [hr 9 (by decide) (by decide)]; rfl
  simp [upR, zR, h2, h3, h4, h5, h6, h7, h8, h9]
set_option maxRecDepth 100000 in
set_option maxHeartbeats 4000000 in
theorem k_La_init0 {I : Nat → Nat → Int32} {L : Nat → Nat → Int64} {K : KT} {r : Nat → Nat → Option Nat} (hr : ∀ x, 2 ≤ x → x < 10 → r x = rfx false x) (hK : K none (zzI I 3 10, zzL L 3 10, r, 10)) : Ct m_La_init [.ref 2] (I, L, zR r 2, 3) K := by
  rw [zz_00 I L (zR r 2) 3]
  refine in_La_init 3 (Nat.le_refl _) (Nat.le_of_ble_eq_true rfl) rfl (fun P step => ?_)
  refine step [] 600 _ _ _ _ _ _ ?_
  simp only [wq_s, wp_s, mq_iconst, mq_bipush, mq_sipush, mq_ldc0, mq_ldc1, mq_ldc_w, mq_lconst, mq_ldc2_w, mq_iload, mq_iload_n, mq_lload, mq_lload_n, mq_aload, mq_aload_n, mq_istore, mq_istore_n, mq_lstore, mq_lstore_n, mq_astore, mq_astore_n, mq_iinc, mq_iadd, mq_isub, mq_imul, mq_iand, mq_ior, mq_ixor, mq_idiv, mq_irem, mq_ineg, mq_ishl, mq_ishr, mq_iushr, mq_ladd, mq_lsub, mq_land, mq_lor, mq_lxor, mq_lshl, mq_lshr, mq_lushr, mq_i2l, mq_l2i, mq_i2b, mq_i2s, mq_lcmp, mq_dupI, mq_dupR, mq_dup2, mq_ifCond, mq_if_icmp, mq_goto, mq_nnN, mq_nnR, mq_get1, mq_get2, mq_get0, mq_get3, mq_put1, mq_put2, mq_put3, mq_put0, mq_iaload, mq_laload, mq_aald, mq_iastore, mq_lastore, mq_aastore, mq_arraylength, mq_newarray, mq_anewarray, mq_new, mq_cpI, mq_cpL, mq_abs, mq_max, mq_min, mq_is0, mq_is1, mq_iv0, mq_iv3, mq_ob, mq_ii0, mq_ii1, mq_tableswitch, mq_lookupswitch, mq_iret, mq_lret, mq_vret, hq_pI, hq_pL, hq_pR, hq_pA0, hq_pA1, hq_lk0, hq_lk1, hq_gI, hq_gIo, hq_gL, hq_gLo, hq_gA, hq_gAo, hq_rf1, hq_rf0, hq_st0_int, hq_st0_ref, hq_st0_long, hq_st1, hq_st2, hq_c0, hq_c_int, hq_c_ref, hq_c_long, hq_cS_eq, hq_cS_ne, hq_cS_lt, hq_cS_ge, hq_cS_gt, hq_cS_le, hq_isO, hq_isA, hq_inS0, hq_inS1, hq_bzI, hq_bzZ, hq_sw0, hq_sw1, hq_cat0, hq_catI, hq_catR, hq_catL, hq_en0, hq_enL, hq_enI, hq_enR, hq_hp, hq_callW, hq_rep0, hq_rep1, hq_tl1, hq_tl0, sh_all, rf_all, Nat.reduceAdd, Nat.reduceSub, Nat.reduceMul, Nat.reduceBEq, ↓reduceIte, Bool.or_false, Bool.or_true, Bool.false_or, Bool.true_or, Bool.false_eq_true, Nat.reduceLT, Nat.reduceLeDiff, Nat.reduceEqDiff, true_or, true_and, and_true, false_or, or_true, eq_self, bI_d0, bI_d1, bI_o, em_1, Classical.not_not, Nat.add_zero, forall_const, not_true_eq_false, false_implies, one_ne0, ne0_one, not_false_eq_true, tb_La_init, nw_zz, nw_cz, nw_up, lO_0, lO_n, lO_v, vO_r, vO_i, sO_0, sO_v]
  exact kR hK (re_La0 hr)
theorem re_Ro0 {r : Nat → Nat → Option Nat} (hr : ∀ x, 16 ≤ x → x < 24 → r x = rfx false x) : upR (zR (upR (zR (upR (zR (upR (zR (upR (zR (upR (zR (upR (zR (zR r 16) 17) 16 0 (some 17)) 18) 16 1 (some 18)) 19) 16 2 (some 19)) 20) 16 3 (some 20)) 21) 16 4 (some 21)) 22) 16 5 (some 22)) 23) 16 8 (some 23) = r := by
  funext a y
  by_cases h16 : a = 16
  · subst h16
    rw [hr 16 (by decide) (by decide)]
    by_cases y0 : y = 0
    · subst y0; rfl
    by_cases y1 : y = 1
    · subst y1; rfl
    by_cases y2 : y = 2
    · subst y2; rfl
    by_cases y3 : y = 3
    · subst y3; rfl
    by_cases y4 : y = 4
    · subst y4; rfl
    by_cases y5 : y = 5
    · subst y5; rfl
    by_cases y8 : y = 8
    · subst y8; rfl
    rw [rn_16 y y0 y1 y2 y3 y4 y5 y8]
    simp [upR, zR, y0, y1, y2, y3, y4, y5, y8]
  by_cases h17 : a = 17
  · subst h17; rw [hr 17 (by decide) (by decide)]; rfl
  by_cases h18 : a = 18
  · subst h18; rw [hr 18 (by decide) (by decide)]; rfl
  by_cases h19 : a = 19
  · subst h19; rw [hr 19 (by decide) (by decide)]; rfl
  by_cases h20 : a = 20
  · subst h20; rw [hr 20 (by decide) (by decide)]; rfl
  by_cases h21 : a = 21
  · subst h21; rw [hr 21 (by decide) (by decide)]; rfl
  by_cases h22 : a = 22
  · subst h22; rw [hr 22 (by decide) (by decide)]; rfl
  by_cases h23 : a = 23
  · subst h23; rw [hr 23 (by decide) (by decide)]; rfl
  simp [upR, zR, h16, h17, h18, h19, h20, h21, h22, h23]
set_option maxRecDepth 100000 in
set_option maxHeartbeats 4000000 in
theorem k_Ro_init0 {I : Nat → Nat → Int32} {L : Nat → Nat → Int64} {K : KT} {r : Nat → Nat → Option Nat} (hr : ∀ x, 16 ≤ x → x < 24 → r x = rfx false x) (hK : K none (zzI I 17 24, zzL L 17 24, r, 24)) : Ct m_Ro_init [.ref 16] (I, L, zR r 16, 17) K := by
  rw [zz_00 I L (zR r 16) 17]
  refine in_Ro_init 17 (Nat.le_refl _) (Nat.le_of_ble_eq_true rfl) rfl (fun P step => ?_)
  refine step [] 600 _ _ _ _ _ _ ?_
  simp only [wq_s, wp_s, mq_iconst, mq_bipush, mq_sipush, mq_ldc0, mq_ldc1, mq_ldc_w, mq_lconst, mq_ldc2_w, mq_iload, mq_iload_n, mq_lload, mq_lload_n, mq_aload, mq_aload_n, mq_istore, mq_istore_n, mq_lstore, mq_lstore_n, mq_astore, mq_astore_n, mq_iinc, mq_iadd, mq_isub, mq_imul, mq_iand, mq_ior, mq_ixor, mq_idiv, mq_irem, mq_ineg, mq_ishl, mq_ishr, mq_iushr, mq_ladd, mq_lsub, mq_land, mq_lor, mq_lxor, mq_lshl, mq_lshr, mq_lushr, mq_i2l, mq_l2i, mq_i2b, mq_i2s, mq_lcmp, mq_dupI, mq_dupR, mq_dup2, mq_ifCond, mq_if_icmp, mq_goto, mq_nnN, mq_nnR, mq_get1, mq_get2, mq_get0, mq_get3, mq_put1, mq_put2, mq_put3, mq_put0, mq_iaload, mq_laload, mq_aald, mq_iastore, mq_lastore, mq_aastore, mq_arraylength, mq_newarray, mq_anewarray, mq_new, mq_cpI, mq_cpL, mq_abs, mq_max, mq_min, mq_is0, mq_is1, mq_iv0, mq_iv3, mq_ob, mq_ii0, mq_ii1, mq_tableswitch, mq_lookupswitch, mq_iret, mq_lret, mq_vret, hq_pI, hq_pL, hq_pR, hq_pA0, hq_pA1, hq_lk0, hq_lk1, hq_gI, hq_gIo, hq_gL, hq_gLo, hq_gA, hq_gAo, hq_rf1, hq_rf0, hq_st0_int, hq_st0_ref, hq_st0_long, hq_st1, hq_st2, hq_c0, hq_c_int, hq_c_ref, hq_c_long, hq_cS_eq, hq_cS_ne, hq_cS_lt, hq_cS_ge, hq_cS_gt, hq_cS_le, hq_isO, hq_isA, hq_inS0, hq_inS1, hq_bzI, hq_bzZ, hq_sw0, hq_sw1, hq_cat0, hq_catI, hq_catR, hq_catL, hq_en0, hq_enL, hq_enI, hq_enR, hq_hp, hq_callW, hq_rep0, hq_rep1, hq_tl1, hq_tl0, sh_all, rf_all, Nat.reduceAdd, Nat.reduceSub, Nat.reduceMul, Nat.reduceBEq, ↓reduceIte, Bool.or_false, Bool.or_true, Bool.false_or, Bool.true_or, Bool.false_eq_true, Nat.reduceLT, Nat.reduceLeDiff, Nat.reduceEqDiff, true_or, true_and, and_true, false_or, or_true, eq_self, bI_d0, bI_d1, bI_o, em_1, Classical.not_not, Nat.add_zero, forall_const, not_true_eq_false, false_implies, one_ne0, ne0_one, not_false_eq_true, tb_Ro_init, nw_zz, nw_cz, nw_up, lO_0, lO_n, lO_v, vO_r, vO_i, sO_0, sO_v]
  exact kR hK (re_Ro0 hr)
theorem re_Lw0 {r : Nat → Nat → Option Nat} (hr : ∀ x, 24 ≤ x → x < 32 → r x = rfx false x) : upR (zR (upR (zR (upR (zR (upR (zR (upR (zR (upR (zR (upR (zR (zR r 24) 25) 24 0 (some 25)) 26) 24 1 (some 26)) 27) 24 2 (some 27)) 28) 24 3 (some 28)) 29) 24 4 (some 29)) 30) 24 5 (some 30)) 31) 24 6 (some 31) = r := by
  funext a y
  by_cases h24 : a = 24
  · subst h24
    rw [hr 24 (by decide) (by decide)]
    by_cases y0 : y = 0
    · subst y0; rfl
    by_cases y1 : y = 1
    · subst y1; rfl
    by_cases y2 : y = 2
    · subst y2; rfl
    by_cases y3 : y = 3
    · subst y3; rfl
    by_cases y4 : y = 4
    · subst y4; rfl
    by_cases y5 : y = 5
    · subst y5; rfl
    by_cases y6 : y = 6
    · subst y6; rfl
    rw [rn_24 y y0 y1 y2 y3 y4 y5 y6]
    simp [upR, zR, y0, y1, y2, y3, y4, y5, y6]
  by_cases h25 : a = 25
  · subst h25; rw [hr 25 (by decide) (by decide)]; rfl
  by_cases h26 : a = 26
  · subst h26; rw [hr 26 (by decide) (by decide)]; rfl
  by_cases h27 : a = 27
  · subst h27; rw [hr 27 (by decide) (by decide)]; rfl
  by_cases h28 : a = 28
  · subst h28; rw [hr 28 (by decide) (by decide)]; rfl
  by_cases h29 : a = 29
  · subst h29; rw [hr 29 (by decide) (by decide)]; rfl
  by_cases h30 : a = 30
  · subst h30; rw [hr 30 (by decide) (by decide)]; rfl
  by_cases h31 : a = 31
  · subst h31; rw [hr 31 (by decide) (by decide)]; rfl
  simp [upR, zR, h24, h25, h26, h27, h28, h29, h30, h31]
set_option maxRecDepth 100000 in
set_option maxHeartbeats 4000000 in
theorem k_Lw_init0 {I : Nat → Nat → Int32} {L : Nat → Nat → Int64} {K : KT} {r : Nat → Nat → Option Nat} (hr : ∀ x, 24 ≤ x → x < 32 → r x = rfx false x) (hK : K none (zzI I 25 32, zzL L 25 32, r, 32)) : Ct m_Lw_init [.ref 24] (I, L, zR r 24, 25) K := by
  rw [zz_00 I L (zR r 24) 25]
  refine in_Lw_init 25 (Nat.le_refl _) (Nat.le_of_ble_eq_true rfl) rfl (fun P step => ?_)
  refine step [] 600 _ _ _ _ _ _ ?_
  simp only [wq_s, wp_s, mq_iconst, mq_bipush, mq_sipush, mq_ldc0, mq_ldc1, mq_ldc_w, mq_lconst, mq_ldc2_w, mq_iload, mq_iload_n, mq_lload, mq_lload_n, mq_aload, mq_aload_n, mq_istore, mq_istore_n, mq_lstore, mq_lstore_n, mq_astore, mq_astore_n, mq_iinc, mq_iadd, mq_isub, mq_imul, mq_iand, mq_ior, mq_ixor, mq_idiv, mq_irem, mq_ineg, mq_ishl, mq_ishr, mq_iushr, mq_ladd, mq_lsub, mq_land, mq_lor, mq_lxor, mq_lshl, mq_lshr, mq_lushr, mq_i2l, mq_l2i, mq_i2b, mq_i2s, mq_lcmp, mq_dupI, mq_dupR, mq_dup2, mq_ifCond, mq_if_icmp, mq_goto, mq_nnN, mq_nnR, mq_get1, mq_get2, mq_get0, mq_get3, mq_put1, mq_put2, mq_put3, mq_put0, mq_iaload, mq_laload, mq_aald, mq_iastore, mq_lastore, mq_aastore, mq_arraylength, mq_newarray, mq_anewarray, mq_new, mq_cpI, mq_cpL, mq_abs, mq_max, mq_min, mq_is0, mq_is1, mq_iv0, mq_iv3, mq_ob, mq_ii0, mq_ii1, mq_tableswitch, mq_lookupswitch, mq_iret, mq_lret, mq_vret, hq_pI, hq_pL, hq_pR, hq_pA0, hq_pA1, hq_lk0, hq_lk1, hq_gI, hq_gIo, hq_gL, hq_gLo, hq_gA, hq_gAo, hq_rf1, hq_rf0, hq_st0_int, hq_st0_ref, hq_st0_long, hq_st1, hq_st2, hq_c0, hq_c_int, hq_c_ref, hq_c_long, hq_cS_eq, hq_cS_ne, hq_cS_lt, hq_cS_ge, hq_cS_gt, hq_cS_le, hq_isO, hq_isA, hq_inS0, hq_inS1, hq_bzI, hq_bzZ, hq_sw0, hq_sw1, hq_cat0, hq_catI, hq_catR, hq_catL, hq_en0, hq_enL, hq_enI, hq_enR, hq_hp, hq_callW, hq_rep0, hq_rep1, hq_tl1, hq_tl0, sh_all, rf_all, Nat.reduceAdd, Nat.reduceSub, Nat.reduceMul, Nat.reduceBEq, ↓reduceIte, Bool.or_false, Bool.or_true, Bool.false_or, Bool.true_or, Bool.false_eq_true, Nat.reduceLT, Nat.reduceLeDiff, Nat.reduceEqDiff, true_or, true_and, and_true, false_or, or_true, eq_self, bI_d0, bI_d1, bI_o, em_1, Classical.not_not, Nat.add_zero, forall_const, not_true_eq_false, false_implies, one_ne0, ne0_one, not_false_eq_true, tb_Lw_init, nw_zz, nw_cz, nw_up, lO_0, lO_n, lO_v, vO_r, vO_i, sO_0, sO_v]
  exact kR hK (re_Lw0 hr)
theorem re_Cm0 {r : Nat → Nat → Option Nat} (hr : ∀ x, 32 ≤ x → x < 35 → r x = rfx false x) : upR (zR (upR (zR (zR r 32) 33) 32 0 (some 33)) 34) 32 1 (some 34) = r := by
  funext a y
  by_cases h32 : a = 32
  · subst h32
    rw [hr 32 (by decide) (by decide)]
    by_cases y0 : y = 0
    · subst y0; rfl
    by_cases y1 : y = 1
    · subst y1; rfl
    rw [rn_32 y y0 y1]
    simp [upR, zR, y0, y1]
  by_cases h33 : a = 33
  · subst h33; rw [hr 33 (by decide) (by decide)]; rfl
  by_cases h34 : a = 34
  · subst h34; rw [hr 34 (by decide) (by decide)]; rfl
  simp [upR, zR, h32, h33, h34]
set_option maxRecDepth 100000 in
set_option maxHeartbeats 4000000 in
theorem k_Cm_init0 {I : Nat → Nat → Int32} {L : Nat → Nat → Int64} {K : KT} {r : Nat → Nat → Option Nat} (hr : ∀ x, 32 ≤ x → x < 35 → r x = rfx false x) (hK : K none (zzI I 33 35, zzL L 33 35, r, 35)) : Ct m_Cm_init [.ref 32] (I, L, zR r 32, 33) K := by
  rw [zz_00 I L (zR r 32) 33]
  refine in_Cm_init 33 (Nat.le_refl _) (Nat.le_of_ble_eq_true rfl) rfl (fun P step => ?_)
  refine step [] 600 _ _ _ _ _ _ ?_
  simp only [wq_s, wp_s, mq_iconst, mq_bipush, mq_sipush, mq_ldc0, mq_ldc1, mq_ldc_w, mq_lconst, mq_ldc2_w, mq_iload, mq_iload_n, mq_lload, mq_lload_n, mq_aload, mq_aload_n, mq_istore, mq_istore_n, mq_lstore, mq_lstore_n, mq_astore, mq_astore_n, mq_iinc, mq_iadd, mq_isub, mq_imul, mq_iand, mq_ior, mq_ixor, mq_idiv, mq_irem, mq_ineg, mq_ishl, mq_ishr, mq_iushr, mq_ladd, mq_lsub, mq_land, mq_lor, mq_lxor, mq_lshl, mq_lshr, mq_lushr, mq_i2l, mq_l2i, mq_i2b, mq_i2s, mq_lcmp, mq_dupI, mq_dupR, mq_dup2, mq_ifCond, mq_if_icmp, mq_goto, mq_nnN, mq_nnR, mq_get1, mq_get2, mq_get0, mq_get3, mq_put1, mq_put2, mq_put3, mq_put0, mq_iaload, mq_laload, mq_aald, mq_iastore, mq_lastore, mq_aastore, mq_arraylength, mq_newarray, mq_anewarray, mq_new, mq_cpI, mq_cpL, mq_abs, mq_max, mq_min, mq_is0, mq_is1, mq_iv0, mq_iv3, mq_ob, mq_ii0, mq_ii1, mq_tableswitch, mq_lookupswitch, mq_iret, mq_lret, mq_vret, hq_pI, hq_pL, hq_pR, hq_pA0, hq_pA1, hq_lk0, hq_lk1, hq_gI, hq_gIo, hq_gL, hq_gLo, hq_gA, hq_gAo, hq_rf1, hq_rf0, hq_st0_int, hq_st0_ref, hq_st0_long, hq_st1, hq_st2, hq_c0, hq_c_int, hq_c_ref, hq_c_long, hq_cS_eq, hq_cS_ne, hq_cS_lt, hq_cS_ge, hq_cS_gt, hq_cS_le, hq_isO, hq_isA, hq_inS0, hq_inS1, hq_bzI, hq_bzZ, hq_sw0, hq_sw1, hq_cat0, hq_catI, hq_catR, hq_catL, hq_en0, hq_enL, hq_enI, hq_enR, hq_hp, hq_callW, hq_rep0, hq_rep1, hq_tl1, hq_tl0, sh_all, rf_all, Nat.reduceAdd, Nat.reduceSub, Nat.reduceMul, Nat.reduceBEq, ↓reduceIte, Bool.or_false, Bool.or_true, Bool.false_or, Bool.true_or, Bool.false_eq_true, Nat.reduceLT, Nat.reduceLeDiff, Nat.reduceEqDiff, true_or, true_and, and_true, false_or, or_true, eq_self, bI_d0, bI_d1, bI_o, em_1, Classical.not_not, Nat.add_zero, forall_const, not_true_eq_false, false_implies, one_ne0, ne0_one, not_false_eq_true, tb_Cm_init, nw_zz, nw_cz, nw_up, lO_0, lO_n, lO_v, vO_r, vO_i, sO_0, sO_v]
  exact kR hK (re_Cm0 hr)
theorem re_La70 {r : Nat → Nat → Option Nat} (hr : ∀ x, 72 ≤ x → x < 80 → r x = rfx false x) : upR (zR (upR (zR (upR (zR (upR (zR (upR (zR (upR (zR (upR (zR (zR r 72) 73) 72 0 (some 73)) 74) 72 1 (some 74)) 75) 72 2 (some 75)) 76) 72 3 (some 76)) 77) 72 4 (some 77)) 78) 72 5 (some 78)) 79) 72 7 (some 79) = r := by
  funext a y
  by_cases h72 : a = 72
  · subst h72
    rw [hr 72 (by decide) (by decide)]
    by_cases y0 : y = 0
    · subst y0; rfl
    by_cases y1 : y = 1
    · subst y1; rfl
    by_cases y2 : y = 2
    · subst y2; rfl
    by_cases y3 : y = 3
    · subst y3; rfl
    by_cases y4 : y = 4
    · subst y4; rfl
    by_cases y5 : y = 5
    · subst y5; rfl
    by_cases y7 : y = 7
    · subst y7; rfl
    rw [rn_72 y y0 y1 y2 y3 y4 y5 y7]
    simp [upR, zR, y0, y1, y2, y3, y4, y5, y7]
  by_cases h73 : a = 73
  · subst h73; rw [hr 73 (by decide) (by decide)]; rfl
  by_cases h74 : a = 74
  · subst h74; rw [hr 74 (by decide) (by decide)]; rfl
  by_cases h75 : a = 75
  · subst h75; rw [hr 75 (by decide) (by decide)]; rfl
  by_cases h76 : a = 76
  · subst h76; rw [hr 76 (by decide) (by decide)]; rfl
  by_cases h77 : a = 77
  · subst h77; rw [hr 77 (by decide) (by decide)]; rfl
  by_cases h78 : a = 78
  · subst h78; rw [hr 78 (by decide) (by decide)]; rfl
  by_cases h79 : a = 79
  · subst h79; rw [hr 79 (by decide) (by decide)]; rfl
  simp [upR, zR, h72, h73, h74, h75, h76, h77, h78, h79]
set_option maxRecDepth 100000 in
set_option maxHeartbeats 4000000 in
theorem k_La_init70 {I : Nat → Nat → Int32} {L : Nat → Nat → Int64} {K : KT} {r : Nat → Nat → Option Nat} (hr : ∀ x, 72 ≤ x → x < 80 → r x = rfx false x) (hK : K none (zzI I 73 80, zzL L 73 80, r, 80)) : Ct m_La_init [.ref 72] (I, L, zR r 72, 73) K := by
  rw [zz_00 I L (zR r 72) 73]
  refine in_La_init 73 (Nat.le_refl _) (Nat.le_of_ble_eq_true rfl) rfl (fun P step => ?_)
  refine step [] 600 _ _ _ _ _ _ ?_
  simp only [wq_s, wp_s, mq_iconst, mq_bipush, mq_sipush, mq_ldc0, mq_ldc1, mq_ldc_w, mq_lconst, mq_ldc2_w, mq_iload, mq_iload_n, mq_lload, mq_lload_n, mq_aload, mq_aload_n, mq_istore, mq_istore_n, mq_lstore, mq_lstore_n, mq_astore, mq_astore_n, mq_iinc, mq_iadd, mq_isub, mq_imul, mq_iand, mq_ior, mq_ixor, mq_idiv, mq_irem, mq_ineg, mq_ishl, mq_ishr, mq_iushr, mq_ladd, mq_lsub, mq_land, mq_lor, mq_lxor, mq_lshl, mq_lshr, mq_lushr, mq_i2l, mq_l2i, mq_i2b, mq_i2s, mq_lcmp, mq_dupI, mq_dupR, mq_dup2, mq_ifCond, mq_if_icmp, mq_goto, mq_nnN, mq_nnR, mq_get1, mq_get2, mq_get0, mq_get3, mq_put1, mq_put2, mq_put3, mq_put0, mq_iaload, mq_laload, mq_aald, mq_iastore, mq_lastore, mq_aastore, mq_arraylength, mq_newarray, mq_anewarray, mq_new, mq_cpI, mq_cpL, mq_abs, mq_max, mq_min, mq_is0, mq_is1, mq_iv0, mq_iv3, mq_ob, mq_ii0, mq_ii1, mq_tableswitch, mq_lookupswitch, mq_iret, mq_lret, mq_vret, hq_pI, hq_pL, hq_pR, hq_pA0, hq_pA1, hq_lk0, hq_lk1, hq_gI, hq_gIo, hq_gL, hq_gLo, hq_gA, hq_gAo, hq_rf1, hq_rf0, hq_st0_int, hq_st0_ref, hq_st0_long, hq_st1, hq_st2, hq_c0, hq_c_int, hq_c_ref, hq_c_long, hq_cS_eq, hq_cS_ne, hq_cS_lt, hq_cS_ge, hq_cS_gt, hq_cS_le, hq_isO, hq_isA, hq_inS0, hq_inS1, hq_bzI, hq_bzZ, hq_sw0, hq_sw1, hq_cat0, hq_catI, hq_catR, hq_catL, hq_en0, hq_enL, hq_enI, hq_enR, hq_hp, hq_callW, hq_rep0, hq_rep1, hq_tl1, hq_tl0, sh_all, rf_all, Nat.reduceAdd, Nat.reduceSub, Nat.reduceMul, Nat.reduceBEq, ↓reduceIte, Bool.or_false, Bool.or_true, Bool.false_or, Bool.true_or, Bool.false_eq_true, Nat.reduceLT, Nat.reduceLeDiff, Nat.reduceEqDiff, true_or, true_and, and_true, false_or, or_true, eq_self, bI_d0, bI_d1, bI_o, em_1, Classical.not_not, Nat.add_zero, forall_const, not_true_eq_false, false_implies, one_ne0, ne0_one, not_false_eq_true, tb_La_init, nw_zz, nw_cz, nw_up, lO_0, lO_n, lO_v, vO_r, vO_i, sO_0, sO_v]
  exact kR hK (re_La70 hr)
theorem re_Ro70 {r : Nat → Nat → Option Nat} (hr : ∀ x, 86 ≤ x → x < 94 → r x = rfx false x) : upR (zR (upR (zR (upR (zR (upR (zR (upR (zR (upR (zR (upR (zR (zR r 86) 87) 86 0 (some 87)) 88) 86 1 (some 88)) 89) 86 2 (some 89)) 90) 86 3 (some 90)) 91) 86 4 (some 91)) 92) 86 5 (some 92)) 93) 86 8 (some 93) = r := by
  funext a y
  by_cases h86 : a = 86
  · subst h86
    rw [hr 86 (by decide) (by decide)]
    by_cases y0 : y = 0
    · subst y0; rfl
    by_cases y1 : y = 1
    · subst y1; rfl
    by_cases y2 : y = 2
    · subst y2; rfl
    by_cases y3 : y = 3
    · subst y3; rfl
    by_cases y4 : y = 4
    · subst y4; rfl
    by_cases y5 : y = 5
    · subst y5; rfl
    by_cases y8 : y = 8
    · subst y8; rfl
    rw [rn_86 y y0 y1 y2 y3 y4 y5 y8]
    simp [upR, zR, y0, y1, y2, y3, y4, y5, y8]
  by_cases h87 : a = 87
  · subst h87; rw [hr 87 (by decide) (by decide)]; rfl
  by_cases h88 : a = 88
  · subst h88; rw [hr 88 (by decide) (by decide)]; rfl
  by_cases h89 : a = 89
  · subst h89; rw [hr 89 (by decide) (by decide)]; rfl
  by_cases h90 : a = 90
  · subst h90; rw [hr 90 (by decide) (by decide)]; rfl
  by_cases h91 : a = 91
  · subst h91; rw [hr 91 (by decide) (by decide)]; rfl
  by_cases h92 : a = 92
  · subst h92; rw [hr 92 (by decide) (by decide)]; rfl
  by_cases h93 : a = 93
  · subst h93; rw [hr 93 (by decide) (by decide)]; rfl
  simp [upR, zR, h86, h87, h88, h89, h90, h91, h92, h93]
set_option maxRecDepth 100000 in
set_option maxHeartbeats 4000000 in
theorem k_Ro_init70 {I : Nat → Nat → Int32} {L : Nat → Nat → Int64} {K : KT} {r : Nat → Nat → Option Nat} (hr : ∀ x, 86 ≤ x → x < 94 → r x = rfx false x) (hK : K none (zzI I 87 94, zzL L 87 94, r, 94)) : Ct m_Ro_init [.ref 86] (I, L, zR r 86, 87) K := by
  rw [zz_00 I L (zR r 86) 87]
  refine in_Ro_init 87 (Nat.le_refl _) (Nat.le_of_ble_eq_true rfl) rfl (fun P step => ?_)
  refine step [] 600 _ _ _ _ _ _ ?_
  simp only [wq_s, wp_s, mq_iconst, mq_bipush, mq_sipush, mq_ldc0, mq_ldc1, mq_ldc_w, mq_lconst, mq_ldc2_w, mq_iload, mq_iload_n, mq_lload, mq_lload_n, mq_aload, mq_aload_n, mq_istore, mq_istore_n, mq_lstore, mq_lstore_n, mq_astore, mq_astore_n, mq_iinc, mq_iadd, mq_isub, mq_imul, mq_iand, mq_ior, mq_ixor, mq_idiv, mq_irem, mq_ineg, mq_ishl, mq_ishr, mq_iushr, mq_ladd, mq_lsub, mq_land, mq_lor, mq_lxor, mq_lshl, mq_lshr, mq_lushr, mq_i2l, mq_l2i, mq_i2b, mq_i2s, mq_lcmp, mq_dupI, mq_dupR, mq_dup2, mq_ifCond, mq_if_icmp, mq_goto, mq_nnN, mq_nnR, mq_get1, mq_get2, mq_get0, mq_get3, mq_put1, mq_put2, mq_put3, mq_put0, mq_iaload, mq_laload, mq_aald, mq_iastore, mq_lastore, mq_aastore, mq_arraylength, mq_newarray, mq_anewarray, mq_new, mq_cpI, mq_cpL, mq_abs, mq_max, mq_min, mq_is0, mq_is1, mq_iv0, mq_iv3, mq_ob, mq_ii0, mq_ii1, mq_tableswitch, mq_lookupswitch, mq_iret, mq_lret, mq_vret, hq_pI, hq_pL, hq_pR, hq_pA0, hq_pA1, hq_lk0, hq_lk1, hq_gI, hq_gIo, hq_gL, hq_gLo, hq_gA, hq_gAo, hq_rf1, hq_rf0, hq_st0_int, hq_st0_ref, hq_st0_long, hq_st1, hq_st2, hq_c0, hq_c_int, hq_c_ref, hq_c_long, hq_cS_eq, hq_cS_ne, hq_cS_lt, hq_cS_ge, hq_cS_gt, hq_cS_le, hq_isO, hq_isA, hq_inS0, hq_inS1, hq_bzI, hq_bzZ, hq_sw0, hq_sw1, hq_cat0, hq_catI, hq_catR, hq_catL, hq_en0, hq_enL, hq_enI, hq_enR, hq_hp, hq_callW, hq_rep0, hq_rep1, hq_tl1, hq_tl0, sh_all, rf_all, Nat.reduceAdd, Nat.reduceSub, Nat.reduceMul, Nat.reduceBEq, ↓reduceIte, Bool.or_false, Bool.or_true, Bool.false_or, Bool.true_or, Bool.false_eq_true, Nat.reduceLT, Nat.reduceLeDiff, Nat.reduceEqDiff, true_or, true_and, and_true, false_or, or_true, eq_self, bI_d0, bI_d1, bI_o, em_1, Classical.not_not, Nat.add_zero, forall_const, not_true_eq_false, false_implies, one_ne0, ne0_one, not_false_eq_true, tb_Ro_init, nw_zz, nw_cz, nw_up, lO_0, lO_n, lO_v, vO_r, vO_i, sO_0, sO_v]
  exact kR hK (re_Ro70 hr)
theorem re_Lw70 {r : Nat → Nat → Option Nat} (hr : ∀ x, 94 ≤ x → x < 102 → r x = rfx false x) : upR (zR (upR (zR (upR (zR (upR (zR (upR (zR (upR (zR (upR (zR (zR r 94) 95) 94 0 (some 95)) 96) 94 1 (some 96)) 97) 94 2 (some 97)) 98) 94 3 (some 98)) 99) 94 4 (some 99)) 100) 94 5 (some 100)) 101) 94 6 (some 101) = r := by
  funext a y
  by_cases h94 : a = 94
  · subst h94
    rw [hr 94 (by decide) (by decide)]
    by_cases y0 : y = 0
    · subst y0; rfl
    by_cases y1 : y = 1
    · subst y1; rfl
    by_cases y2 : y = 2
    · subst y2; rfl
    by_cases y3 : y = 3
    · subst y3; rfl
    by_cases y4 : y = 4
    · subst y4; rfl
    by_cases y5 : y = 5
    · subst y5; rfl
    by_cases y6 : y = 6
    · subst y6; rfl
    rw [rn_94 y y0 y1 y2 y3 y4 y5 y6]
    simp [upR, zR, y0, y1, y2, y3, y4, y5, y6]
  by_cases h95 : a = 95
  · subst h95; rw [hr 95 (by decide) (by decide)]; rfl
  by_cases h96 : a = 96
  · subst h96; rw [hr 96 (by decide) (by decide)]; rfl
  by_cases h97 : a = 97
  · subst h97; rw [hr 97 (by decide) (by decide)]; rfl
  by_cases h98 : a = 98
  · subst h98; rw [hr 98 (by decide) (by decide)]; rfl
  by_cases h99 : a = 99
  · subst h99; rw [hr 99 (by decide) (by decide)]; rfl
  by_cases h100 : a = 100
  · subst h100; rw [hr 100 (by decide) (by decide)]; rfl
  by_cases h101 : a = 101
  · subst h101; rw [hr 101 (by decide) (by decide)]; rfl
  simp [upR, zR, h94, h95, h96, h97, h98, h99, h100, h101]
set_option maxRecDepth 100000 in
set_option maxHeartbeats 4000000 in
theorem k_Lw_init70 {I : Nat → Nat → Int32} {L : Nat → Nat → Int64} {K : KT} {r : Nat → Nat → Option Nat} (hr : ∀ x, 94 ≤ x → x < 102 → r x = rfx false x) (hK : K none (zzI I 95 102, zzL L 95 102, r, 102)) : Ct m_Lw_init [.ref 94] (I, L, zR r 94, 95) K := by
  rw [zz_00 I L (zR r 94) 95]
  refine in_Lw_init 95 (Nat.le_refl _) (Nat.le_of_ble_eq_true rfl) rfl (fun P step => ?_)
  refine step [] 600 _ _ _ _ _ _ ?_
  simp only [wq_s, wp_s, mq_iconst, mq_bipush, mq_sipush, mq_ldc0, mq_ldc1, mq_ldc_w, mq_lconst, mq_ldc2_w, mq_iload, mq_iload_n, mq_lload, mq_lload_n, mq_aload, mq_aload_n, mq_istore, mq_istore_n, mq_lstore, mq_lstore_n, mq_astore, mq_astore_n, mq_iinc, mq_iadd, mq_isub, mq_imul, mq_iand, mq_ior, mq_ixor, mq_idiv, mq_irem, mq_ineg, mq_ishl, mq_ishr, mq_iushr, mq_ladd, mq_lsub, mq_land, mq_lor, mq_lxor, mq_lshl, mq_lshr, mq_lushr, mq_i2l, mq_l2i, mq_i2b, mq_i2s, mq_lcmp, mq_dupI, mq_dupR, mq_dup2, mq_ifCond, mq_if_icmp, mq_goto, mq_nnN, mq_nnR, mq_get1, mq_get2, mq_get0, mq_get3, mq_put1, mq_put2, mq_put3, mq_put0, mq_iaload, mq_laload, mq_aald, mq_iastore, mq_lastore, mq_aastore, mq_arraylength, mq_newarray, mq_anewarray, mq_new, mq_cpI, mq_cpL, mq_abs, mq_max, mq_min, mq_is0, mq_is1, mq_iv0, mq_iv3, mq_ob, mq_ii0, mq_ii1, mq_tableswitch, mq_lookupswitch, mq_iret, mq_lret, mq_vret, hq_pI, hq_pL, hq_pR, hq_pA0, hq_pA1, hq_lk0, hq_lk1, hq_gI, hq_gIo, hq_gL, hq_gLo, hq_gA, hq_gAo, hq_rf1, hq_rf0, hq_st0_int, hq_st0_ref, hq_st0_long, hq_st1, hq_st2, hq_c0, hq_c_int, hq_c_ref, hq_c_long, hq_cS_eq, hq_cS_ne, hq_cS_lt, hq_cS_ge, hq_cS_gt, hq_cS_le, hq_isO, hq_isA, hq_inS0, hq_inS1, hq_bzI, hq_bzZ, hq_sw0, hq_sw1, hq_cat0, hq_catI, hq_catR, hq_catL, hq_en0, hq_enL, hq_enI, hq_enR, hq_hp, hq_callW, hq_rep0, hq_rep1, hq_tl1, hq_tl0, sh_all, rf_all, Nat.reduceAdd, Nat.reduceSub, Nat.reduceMul, Nat.reduceBEq, ↓reduceIte, Bool.or_false, Bool.or_true, Bool.false_or, Bool.true_or, Bool.false_eq_true, Nat.reduceLT, Nat.reduceLeDiff, Nat.reduceEqDiff, true_or, true_and, and_true, false_or, or_true, eq_self, bI_d0, bI_d1, bI_o, em_1, Classical.not_not, Nat.add_zero, forall_const, not_true_eq_false, false_implies, one_ne0, ne0_one, not_false_eq_true, tb_Lw_init, nw_zz, nw_cz, nw_up, lO_0, lO_n, lO_v, vO_r, vO_i, sO_0, sO_v]
  exact kR hK (re_Lw70 hr)
theorem re_Cm70 {r : Nat → Nat → Option Nat} (hr : ∀ x, 102 ≤ x → x < 105 → r x = rfx false x) : upR (zR (upR (zR (zR r 102) 103) 102 0 (some 103)) 104) 102 1 (some 104) = r := by
  funext a y
  by_cases h102 : a = 102
  · subst h102
    rw [hr 102 (by decide) (by decide)]
    by_cases y0 : y = 0
    · subst y0; rfl
    by_cases y1 : y = 1
    · subst y1; rfl
    rw [rn_102 y y0 y1]
    simp [upR, zR, y0, y1]
  by_cases h103 : a = 103
  · subst h103; rw [hr 103 (by decide) (by decide)]; rfl
  by_cases h104 : a = 104
  · subst h104; rw [hr 104 (by decide) (by decide)]; rfl
  simp [upR, zR, h102, h103, h104]
set_option maxRecDepth 100000 in
set_option maxHeartbeats 4000000 in
theorem k_Cm_init70 {I : Nat → Nat → Int32} {L : Nat → Nat → Int64} {K : KT} {r : Nat → Nat → Option Nat} (hr : ∀ x, 102 ≤ x → x < 105 → r x = rfx false x) (hK : K none (zzI I 103 105, zzL L 103 105, r, 105)) : Ct m_Cm_init [.ref 102] (I, L, zR r 102, 103) K := by
  rw [zz_00 I L (zR r 102) 103]
  refine in_Cm_init 103 (Nat.le_refl _) (Nat.le_of_ble_eq_true rfl) rfl (fun P step => ?_)
  refine step [] 600 _ _ _ _ _ _ ?_
  simp only [wq_s, wp_s, mq_iconst, mq_bipush, mq_sipush, mq_ldc0, mq_ldc1, mq_ldc_w, mq_lconst, mq_ldc2_w, mq_iload, mq_iload_n, mq_lload, mq_lload_n, mq_aload, mq_aload_n, mq_istore, mq_istore_n, mq_lstore, mq_lstore_n, mq_astore, mq_astore_n, mq_iinc, mq_iadd, mq_isub, mq_imul, mq_iand, mq_ior, mq_ixor, mq_idiv, mq_irem, mq_ineg, mq_ishl, mq_ishr, mq_iushr, mq_ladd, mq_lsub, mq_land, mq_lor, mq_lxor, mq_lshl, mq_lshr, mq_lushr, mq_i2l, mq_l2i, mq_i2b, mq_i2s, mq_lcmp, mq_dupI, mq_dupR, mq_dup2, mq_ifCond, mq_if_icmp, mq_goto, mq_nnN, mq_nnR, mq_get1, mq_get2, mq_get0, mq_get3, mq_put1, mq_put2, mq_put3, mq_put0, mq_iaload, mq_laload, mq_aald, mq_iastore, mq_lastore, mq_aastore, mq_arraylength, mq_newarray, mq_anewarray, mq_new, mq_cpI, mq_cpL, mq_abs, mq_max, mq_min, mq_is0, mq_is1, mq_iv0, mq_iv3, mq_ob, mq_ii0, mq_ii1, mq_tableswitch, mq_lookupswitch, mq_iret, mq_lret, mq_vret, hq_pI, hq_pL, hq_pR, hq_pA0, hq_pA1, hq_lk0, hq_lk1, hq_gI, hq_gIo, hq_gL, hq_gLo, hq_gA, hq_gAo, hq_rf1, hq_rf0, hq_st0_int, hq_st0_ref, hq_st0_long, hq_st1, hq_st2, hq_c0, hq_c_int, hq_c_ref, hq_c_long, hq_cS_eq, hq_cS_ne, hq_cS_lt, hq_cS_ge, hq_cS_gt, hq_cS_le, hq_isO, hq_isA, hq_inS0, hq_inS1, hq_bzI, hq_bzZ, hq_sw0, hq_sw1, hq_cat0, hq_catI, hq_catR, hq_catL, hq_en0, hq_enL, hq_enI, hq_enR, hq_hp, hq_callW, hq_rep0, hq_rep1, hq_tl1, hq_tl0, sh_all, rf_all, Nat.reduceAdd, Nat.reduceSub, Nat.reduceMul, Nat.reduceBEq, ↓reduceIte, Bool.or_false, Bool.or_true, Bool.false_or, Bool.true_or, Bool.false_eq_true, Nat.reduceLT, Nat.reduceLeDiff, Nat.reduceEqDiff, true_or, true_and, and_true, false_or, or_true, eq_self, bI_d0, bI_d1, bI_o, em_1, Classical.not_not, Nat.add_zero, forall_const, not_true_eq_false, false_implies, one_ne0, ne0_one, not_false_eq_true, tb_Cm_init, nw_zz, nw_cz, nw_up, lO_0, lO_n, lO_v, vO_r, vO_i, sO_0, sO_v]
  exact kR hK (re_Cm70 hr)
theorem re_Rd {r : Nat → Nat → Option Nat} (hr : ∀ x, 36 ≤ x → x < 38 → r x = rfx false x) : upR (zR (zR r 36) 37) 36 0 (some 37) = r := by
  funext a y
  by_cases h36 : a = 36
  · subst h36
    rw [hr 36 (by decide) (by decide)]
    by_cases y0 : y = 0
    · subst y0; rfl
    rw [rn_36 y y0]
    simp [upR, zR, y0]
  by_cases h37 : a = 37
  · subst h37; rw [hr 37 (by decide) (by decide)]; rfl
  simp [upR, zR, h36, h37]
set_option maxRecDepth 100000 in
set_option maxHeartbeats 4000000 in
theorem k_Rd_init {I : Nat → Nat → Int32} {L : Nat → Nat → Int64} {K : KT} {r : Nat → Nat → Option Nat} (hr : ∀ x, 36 ≤ x → x < 38 → r x = rfx false x) (hK : K none (zzI I 37 38, zzL L 37 38, r, 38)) : Ct m_Rd_init [.ref 36] (I, L, zR r 36, 37) K := by
  rw [zz_00 I L (zR r 36) 37]
  refine in_Rd_init 37 (Nat.le_refl _) (Nat.le_of_ble_eq_true rfl) rfl (fun P step => ?_)
  refine step [] 600 _ _ _ _ _ _ ?_
  simp only [wq_s, wp_s, mq_iconst, mq_bipush, mq_sipush, mq_ldc0, mq_ldc1, mq_ldc_w, mq_lconst, mq_ldc2_w, mq_iload, mq_iload_n, mq_lload, mq_lload_n, mq_aload, mq_aload_n, mq_istore, mq_istore_n, mq_lstore, mq_lstore_n, mq_astore, mq_astore_n, mq_iinc, mq_iadd, mq_isub, mq_imul, mq_iand, mq_ior, mq_ixor, mq_idiv, mq_irem, mq_ineg, mq_ishl, mq_ishr, mq_iushr, mq_ladd, mq_lsub, mq_land, mq_lor, mq_lxor, mq_lshl, mq_lshr, mq_lushr, mq_i2l, mq_l2i, mq_i2b, mq_i2s, mq_lcmp, mq_dupI, mq_dupR, mq_dup2, mq_ifCond, mq_if_icmp, mq_goto, mq_nnN, mq_nnR, mq_get1, mq_get2, mq_get0, mq_get3, mq_put1, mq_put2, mq_put3, mq_put0, mq_iaload, mq_laload, mq_aald, mq_iastore, mq_lastore, mq_aastore, mq_arraylength, mq_newarray, mq_anewarray, mq_new, mq_cpI, mq_cpL, mq_abs, mq_max, mq_min, mq_is0, mq_is1, mq_iv0, mq_iv3, mq_ob, mq_ii0, mq_ii1, mq_tableswitch, mq_lookupswitch, mq_iret, mq_lret, mq_vret, hq_pI, hq_pL, hq_pR, hq_pA0, hq_pA1, hq_lk0, hq_lk1, hq_gI, hq_gIo, hq_gL, hq_gLo, hq_gA, hq_gAo, hq_rf1, hq_rf0, hq_st0_int, hq_st0_ref, hq_st0_long, hq_st1, hq_st2, hq_c0, hq_c_int, hq_c_ref, hq_c_long, hq_cS_eq, hq_cS_ne, hq_cS_lt, hq_cS_ge, hq_cS_gt, hq_cS_le, hq_isO, hq_isA, hq_inS0, hq_inS1, hq_bzI, hq_bzZ, hq_sw0, hq_sw1, hq_cat0, hq_catI, hq_catR, hq_catL, hq_en0, hq_enL, hq_enI, hq_enR, hq_hp, hq_callW, hq_rep0, hq_rep1, hq_tl1, hq_tl0, sh_all, rf_all, Nat.reduceAdd, Nat.reduceSub, Nat.reduceMul, Nat.reduceBEq, ↓reduceIte, Bool.or_false, Bool.or_true, Bool.false_or, Bool.true_or, Bool.false_eq_true, Nat.reduceLT, Nat.reduceLeDiff, Nat.reduceEqDiff, true_or, true_and, and_true, false_or, or_true, eq_self, bI_d0, bI_d1, bI_o, em_1, Classical.not_not, Nat.add_zero, forall_const, not_true_eq_false, false_implies, one_ne0, ne0_one, not_false_eq_true, tb_Rd_init, nw_zz, nw_cz, nw_up, lO_0, lO_n, lO_v, vO_r, vO_i, sO_0, sO_v]
  exact kR hK (re_Rd hr)
theorem re_Tr {r : Nat → Nat → Option Nat} (hr : ∀ x, 38 ≤ x → x < 44 → r x = rfx false x) : upR (zR (upR (zR (upR (zR (upR (zR (upR (zR (zR r 38) 39) 38 0 (some 39)) 40) 38 1 (some 40)) 41) 38 2 (some 41)) 42) 38 3 (some 42)) 43) 38 4 (some 43) = r := by
  funext a y
  by_cases h38 : a = 38
  · subst h38
    rw [hr 38 (by decide) (by decide)]
    by_cases y0 : y = 0
    · subst y0; rfl
    by_cases y1 : y = 1
    · subst y1; rfl
    by_cases y2 : y = 2
    · subst y2; rfl
    by_cases y3 : y = 3
    · subst y3; rfl
    by_cases y4 : y = 4
    · subst y4; rfl
    rw [rn_38 y y0 y1 y2 y3 y4]
    simp [upR, zR, y0, y1, y2, y3, y4]
  by_cases h39 : a = 39
  · subst h39; rw [hr 39 (by decide) (by decide)]; rfl
  by_cases h40 : a = 40
  · subst h40; rw [hr 40 (by decide) (by decide)]; rfl
  by_cases h41 : a = 41
  · subst h41; rw [hr 41 (by decide) (by decide)]; rfl
  by_cases h42 : a = 42
  · subst h42; rw [hr 42 (by decide) (by decide)]; rfl
  by_cases h43 : a = 43
  · subst h43; rw [hr 43 (by decide) (by decide)]; rfl
  simp [upR, zR, h38, h39, h40, h41, h42, h43]
set_option maxRecDepth 100000 in
set_option maxHeartbeats 4000000 in
theorem k_Tr_init {I : Nat → Nat → Int32} {L : Nat → Nat → Int64} {K : KT} {r : Nat → Nat → Option Nat} (hr : ∀ x, 38 ≤ x → x < 44 → r x = rfx false x) (hK : K none (zzI I 39 44, zzL L 39 44, r, 44)) : Ct m_Tr_init [.ref 38] (I, L, zR r 38, 39) K := by
  rw [zz_00 I L (zR r 38) 39]
  refine in_Tr_init 39 (Nat.le_refl _) (Nat.le_of_ble_eq_true rfl) rfl (fun P step => ?_)
  refine step [] 600 _ _ _ _ _ _ ?_
  simp only [wq_s, wp_s, mq_iconst, mq_bipush, mq_sipush, mq_ldc0, mq_ldc1, mq_ldc_w, mq_lconst, mq_ldc2_w, mq_iload, mq_iload_n, mq_lload, mq_lload_n, mq_aload, mq_aload_n, mq_istore, mq_istore_n, mq_lstore, mq_lstore_n, mq_astore, mq_astore_n, mq_iinc, mq_iadd, mq_isub, mq_imul, mq_iand, mq_ior, mq_ixor, mq_idiv, mq_irem, mq_ineg, mq_ishl, mq_ishr, mq_iushr, mq_ladd, mq_lsub, mq_land, mq_lor, mq_lxor, mq_lshl, mq_lshr, mq_lushr, mq_i2l, mq_l2i, mq_i2b, mq_i2s, mq_lcmp, mq_dupI, mq_dupR, mq_dup2, mq_ifCond, mq_if_icmp, mq_goto, mq_nnN, mq_nnR, mq_get1, mq_get2, mq_get0, mq_get3, mq_put1, mq_put2, mq_put3, mq_put0, mq_iaload, mq_laload, mq_aald, mq_iastore, mq_lastore, mq_aastore, mq_arraylength, mq_newarray, mq_anewarray, mq_new, mq_cpI, mq_cpL, mq_abs, mq_max, mq_min, mq_is0, mq_is1, mq_iv0, mq_iv3, mq_ob, mq_ii0, mq_ii1, mq_tableswitch, mq_lookupswitch, mq_iret, mq_lret, mq_vret, hq_pI, hq_pL, hq_pR, hq_pA0, hq_pA1, hq_lk0, hq_lk1, hq_gI, hq_gIo, hq_gL, hq_gLo, hq_gA, hq_gAo, hq_rf1, hq_rf0, hq_st0_int, hq_st0_ref, hq_st0_long, hq_st1, hq_st2, hq_c0, hq_c_int, hq_c_ref, hq_c_long, hq_cS_eq, hq_cS_ne, hq_cS_lt, hq_cS_ge, hq_cS_gt, hq_cS_le, hq_isO, hq_isA, hq_inS0, hq_inS1, hq_bzI, hq_bzZ, hq_sw0, hq_sw1, hq_cat0, hq_catI, hq_catR, hq_catL, hq_en0, hq_enL, hq_enI, hq_enR, hq_hp, hq_callW, hq_rep0, hq_rep1, hq_tl1, hq_tl0, sh_all, rf_all, Nat.reduceAdd, Nat.reduceSub, Nat.reduceMul, Nat.reduceBEq, ↓reduceIte, Bool.or_false, Bool.or_true, Bool.false_or, Bool.true_or, Bool.false_eq_true, Nat.reduceLT, Nat.reduceLeDiff, Nat.reduceEqDiff, true_or, true_and, and_true, false_or, or_true, eq_self, bI_d0, bI_d1, bI_o, em_1, Classical.not_not, Nat.add_zero, forall_const, not_true_eq_false, false_implies, one_ne0, ne0_one, not_false_eq_true, tb_Tr_init, nw_zz, nw_cz, nw_up, lO_0, lO_n, lO_v, vO_r, vO_i, sO_0, sO_v]
  exact kR hK (re_Tr hr)
theorem re_To {r : Nat → Nat → Option Nat} (hr : ∀ x, 44 ≤ x → x < 47 → r x = rfx false x) : upR (zR (upR (zR (zR r 44) 45) 44 0 (some 45)) 46) 44 2 (some 46) = r := by
  funext a y
  by_cases h44 : a = 44
  · subst h44
    rw [hr 44 (by decide) (by decide)]
    by_cases y0 : y = 0
    · subst y0; rfl
    by_cases y2 : y = 2
    · subst y2; rfl
    rw [rn_44 y y0 y2]
    simp [upR, zR, y0, y2]
  by_cases h45 : a = 45
  · subst h45; rw [hr 45 (by decide) (by decide)]; rfl
  by_cases h46 : a = 46
  · subst h46; rw [hr 46 (by decide) (by decide)]; rfl
  simp [upR, zR, h44, h45, h46]
set_option maxRecDepth 100000 in
set_option maxHeartbeats 4000000 in
theorem k_To_init {I : Nat → Nat → Int32} {L : Nat → Nat → Int64} {K : KT} {r : Nat → Nat → Option Nat} (hr : ∀ x, 44 ≤ x → x < 47 → r x = rfx false x) (hK : K none (zzI I 45 47, zzL L 45 47, r, 47)) : Ct m_To_init [.ref 44] (I, L, zR r 44, 45) K := by
  rw [zz_00 I L (zR r 44) 45]
  refine in_To_init 45 (Nat.le_refl _) (Nat.le_of_ble_eq_true rfl) rfl (fun P step => ?_)
  refine step [] 600 _ _ _ _ _ _ ?_
  simp only [wq_s, wp_s, mq_iconst, mq_bipush, mq_sipush, mq_ldc0, mq_ldc1, mq_ldc_w, mq_lconst, mq_ldc2_w, mq_iload, mq_iload_n, mq_lload, mq_lload_n, mq_aload, mq_aload_n, mq_istore, mq_istore_n, mq_lstore, mq_lstore_n, mq_astore, mq_astore_n, mq_iinc, mq_iadd, mq_isub, mq_imul, mq_iand, mq_ior, mq_ixor, mq_idiv, mq_irem, mq_ineg, mq_ishl, mq_ishr, mq_iushr, mq_ladd, mq_lsub, mq_land, mq_lor, mq_lxor, mq_lshl, mq_lshr, mq_lushr, mq_i2l, mq_l2i, mq_i2b, mq_i2s, mq_lcmp, mq_dupI, mq_dupR, mq_dup2, mq_ifCond, mq_if_icmp, mq_goto, mq_nnN, mq_nnR, mq_get1, mq_get2, mq_get0, mq_get3, mq_put1, mq_put2, mq_put3, mq_put0, mq_iaload, mq_laload, mq_aald, mq_iastore, mq_lastore, mq_aastore, mq_arraylength, mq_newarray, mq_anewarray, mq_new, mq_cpI, mq_cpL, mq_abs, mq_max, mq_min, mq_is0, mq_is1, mq_iv0, mq_iv3, mq_ob, mq_ii0, mq_ii1, mq_tableswitch, mq_lookupswitch, mq_iret, mq_lret, mq_vret, hq_pI, hq_pL, hq_pR, hq_pA0, hq_pA1, hq_lk0, hq_lk1, hq_gI, hq_gIo, hq_gL, hq_gLo, hq_gA, hq_gAo, hq_rf1, hq_rf0, hq_st0_int, hq_st0_ref, hq_st0_long, hq_st1, hq_st2, hq_c0, hq_c_int, hq_c_ref, hq_c_long, hq_cS_eq, hq_cS_ne, hq_cS_lt, hq_cS_ge, hq_cS_gt, hq_cS_le, hq_isO, hq_isA, hq_inS0, hq_inS1, hq_bzI, hq_bzZ, hq_sw0, hq_sw1, hq_cat0, hq_catI, hq_catR, hq_catL, hq_en0, hq_enL, hq_enI, hq_enR, hq_hp, hq_callW, hq_rep0, hq_rep1, hq_tl1, hq_tl0, sh_all, rf_all, Nat.reduceAdd, Nat.reduceSub, Nat.reduceMul, Nat.reduceBEq, ↓reduceIte, Bool.or_false, Bool.or_true, Bool.false_or, Bool.true_or, Bool.false_eq_true, Nat.reduceLT, Nat.reduceLeDiff, Nat.reduceEqDiff, true_or, true_and, and_true, false_or, or_true, eq_self, bI_d0, bI_d1, bI_o, em_1, Classical.not_not, Nat.add_zero, forall_const, not_true_eq_false, false_implies, one_ne0, ne0_one, not_false_eq_true, tb_To_init, nw_zz, nw_cz, nw_up, lO_0, lO_n, lO_v, vO_r, vO_i, sO_0, sO_v]
  exact kR hK (re_To hr)
theorem re_Sh0 {r : Nat → Nat → Option Nat} (hr : ∀ x, 49 ≤ x → x < 51 → r x = rfx false x) : upR (zR (zR r 49) 50) 49 0 (some 50) = r := by
  funext a y
  by_cases h49 : a = 49
  · subst h49
    rw [hr 49 (by decide) (by decide)]
    by_cases y0 : y = 0
    · subst y0; rfl
    rw [rn_49 y y0]
    simp [upR, zR, y0]
  by_cases h50 : a = 50
  · subst h50; rw [hr 50 (by decide) (by decide)]; rfl
  simp [upR, zR, h49, h50]
set_option maxRecDepth 100000 in
set_option maxHeartbeats 4000000 in
theorem k_Sh_init0 {I : Nat → Nat → Int32} {L : Nat → Nat → Int64} {K : KT} {r : Nat → Nat → Option Nat} (hr : ∀ x, 49 ≤ x → x < 51 → r x = rfx false x) (hK : K none (zzI I 50 51, zzL L 50 51, r, 51)) : Ct m_Sh_init [.ref 49] (I, L, zR r 49, 50) K := by
  rw [zz_00 I L (zR r 49) 50]
  refine in_Sh_init 50 (Nat.le_refl _) (Nat.le_of_ble_eq_true rfl) rfl (fun P step => ?_)
  refine step [] 600 _ _ _ _ _ _ ?_
  simp only [wq_s, wp_s, mq_iconst, mq_bipush, mq_sipush, mq_ldc0, mq_ldc1, mq_ldc_w, mq_lconst, mq_ldc2_w, mq_iload, mq_iload_n, mq_lload, mq_lload_n, mq_aload, mq_aload_n, mq_istore, mq_istore_n, mq_lstore, mq_lstore_n, mq_astore, mq_astore_n, mq_iinc, mq_iadd, mq_isub, mq_imul, mq_iand, mq_ior, mq_ixor, mq_idiv, mq_irem, mq_ineg, mq_ishl, mq_ishr, mq_iushr, mq_ladd, mq_lsub, mq_land, mq_lor, mq_lxor, mq_lshl, mq_lshr, mq_lushr, mq_i2l, mq_l2i, mq_i2b, mq_i2s, mq_lcmp, mq_dupI, mq_dupR, mq_dup2, mq_ifCond, mq_if_icmp, mq_goto, mq_nnN, mq_nnR, mq_get1, mq_get2, mq_get0, mq_get3, mq_put1, mq_put2, mq_put3, mq_put0, mq_iaload, mq_laload, mq_aald, mq_iastore, mq_lastore, mq_aastore, mq_arraylength, mq_newarray, mq_anewarray, mq_new, mq_cpI, mq_cpL, mq_abs, mq_max, mq_min, mq_is0, mq_is1, mq_iv0, mq_iv3, mq_ob, mq_ii0, mq_ii1, mq_tableswitch, mq_lookupswitch, mq_iret, mq_lret, mq_vret, hq_pI, hq_pL, hq_pR, hq_pA0, hq_pA1, hq_lk0, hq_lk1, hq_gI, hq_gIo, hq_gL, hq_gLo, hq_gA, hq_gAo, hq_rf1, hq_rf0, hq_st0_int, hq_st0_ref, hq_st0_long, hq_st1, hq_st2, hq_c0, hq_c_int, hq_c_ref, hq_c_long, hq_cS_eq, hq_cS_ne, hq_cS_lt, hq_cS_ge, hq_cS_gt, hq_cS_le, hq_isO, hq_isA, hq_inS0, hq_inS1, hq_bzI, hq_bzZ, hq_sw0, hq_sw1, hq_cat0, hq_catI, hq_catR, hq_catL, hq_en0, hq_enL, hq_enI, hq_enR, hq_hp, hq_callW, hq_rep0, hq_rep1, hq_tl1, hq_tl0, sh_all, rf_all, Nat.reduceAdd, Nat.reduceSub, Nat.reduceMul, Nat.reduceBEq, ↓reduceIte, Bool.or_false, Bool.or_true, Bool.false_or, Bool.true_or, Bool.false_eq_true, Nat.reduceLT, Nat.reduceLeDiff, Nat.reduceEqDiff, true_or, true_and, and_true, false_or, or_true, eq_self, bI_d0, bI_d1, bI_o, em_1, Classical.not_not, Nat.add_zero, forall_const, not_true_eq_false, false_implies, one_ne0, ne0_one, not_false_eq_true, tb_Sh_init, nw_zz, nw_cz, nw_up, lO_0, lO_n, lO_v, vO_r, vO_i, sO_0, sO_v]
  exact kR hK (re_Sh0 hr)
theorem re_Sh1 {r : Nat → Nat → Option Nat} (hr : ∀ x, 51 ≤ x → x < 53 → r x = rfx false x) : upR (zR (zR r 51) 52) 51 0 (some 52) = r := by
  funext a y
  by_cases h51 : a = 51
  · subst h51
    rw [hr 51 (by decide) (by decide)]
    by_cases y0 : y = 0
    · subst y0; rfl
    rw [rn_51 y y0]
    simp [upR, zR, y0]
  by_cases h52 : a = 52
  · subst h52; rw [hr 52 (by decide) (by decide)]; rfl
  simp [upR, zR, h51, h52]
set_option maxRecDepth 100000 in
set_option maxHeartbeats 4000000 in
theorem k_Sh_init1 {I : Nat → Nat → Int32} {L : Nat → Nat → Int64} {K : KT} {r : Nat → Nat → Option Nat} (hr : ∀ x, 51 ≤ x → x < 53 → r x = rfx false x) (hK : K none (zzI I 52 53, zzL L 52 53, r, 53)) : Ct m_Sh_init [.ref 51] (I, L, zR r 51, 52) K := by
  rw [zz_00 I L (zR r 51) 52]
  refine in_Sh_init 52 (Nat.le_refl _) (Nat.le_of_ble_eq_true rfl) rfl (fun P step => ?_)
  refine step [] 600 _ _ _ _ _ _ ?_
  simp only [wq_s, wp_s, mq_iconst, mq_bipush, mq_sipush, mq_ldc0, mq_ldc1, mq_ldc_w, mq_lconst, mq_ldc2_w, mq_iload, mq_iload_n, mq_lload, mq_lload_n, mq_aload, mq_aload_n, mq_istore, mq_istore_n, mq_lstore, mq_lstore_n, mq_astore, mq_astore_n, mq_iinc, mq_iadd, mq_isub, mq_imul, mq_iand, mq_ior, mq_ixor, mq_idiv, mq_irem, mq_ineg, mq_ishl, mq_ishr, mq_iushr, mq_ladd, mq_lsub, mq_land, mq_lor, mq_lxor, mq_lshl, mq_lshr, mq_lushr, mq_i2l, mq_l2i, mq_i2b, mq_i2s, mq_lcmp, mq_dupI, mq_dupR, mq_dup2, mq_ifCond, mq_if_icmp, mq_goto, mq_nnN, mq_nnR, mq_get1, mq_get2, mq_get0, mq_get3, mq_put1, mq_put2, mq_put3, mq_put0, mq_iaload, mq_laload, mq_aald, mq_iastore, mq_lastore, mq_aastore, mq_arraylength, mq_newarray, mq_anewarray, mq_new, mq_cpI, mq_cpL, mq_abs, mq_max, mq_min, mq_is0, mq_is1, mq_iv0, mq_iv3, mq_ob, mq_ii0, mq_ii1, mq_tableswitch, mq_lookupswitch, mq_iret, mq_lret, mq_vret, hq_pI, hq_pL, hq_pR, hq_pA0, hq_pA1, hq_lk0, hq_lk1, hq_gI, hq_gIo, hq_gL, hq_gLo, hq_gA, hq_gAo, hq_rf1, hq_rf0, hq_st0_int, hq_st0_ref, hq_st0_long, hq_st1, hq_st2, hq_c0, hq_c_int, hq_c_ref, hq_c_long, hq_cS_eq, hq_cS_ne, hq_cS_lt, hq_cS_ge, hq_cS_gt, hq_cS_le, hq_isO, hq_isA, hq_inS0, hq_inS1, hq_bzI, hq_bzZ, hq_sw0, hq_sw1, hq_cat0, hq_catI, hq_catR, hq_catL, hq_en0, hq_enL, hq_enI, hq_enR, hq_hp, hq_callW, hq_rep0, hq_rep1, hq_tl1, hq_tl0, sh_all, rf_all, Nat.reduceAdd, Nat.reduceSub, Nat.reduceMul, Nat.reduceBEq, ↓reduceIte, Bool.or_false, Bool.or_true, Bool.false_or, Bool.true_or, Bool.false_eq_true, Nat.reduceLT, Nat.reduceLeDiff, Nat.reduceEqDiff, true_or, true_and, and_true, false_or, or_true, eq_self, bI_d0, bI_d1, bI_o, em_1, Classical.not_not, Nat.add_zero, forall_const, not_true_eq_false, false_implies, one_ne0, ne0_one, not_false_eq_true, tb_Sh_init, nw_zz, nw_cz, nw_up, lO_0, lO_n, lO_v, vO_r, vO_i, sO_0, sO_v]
  exact kR hK (re_Sh1 hr)
theorem re_Sh2 {r : Nat → Nat → Option Nat} (hr : ∀ x, 53 ≤ x → x < 55 → r x = rfx false x) : upR (zR (zR r 53) 54) 53 0 (some 54) = r := by
  funext a y
  by_cases h53 : a = 53
  · subst h53
    rw [hr 53 (by decide) (by decide)]
    by_cases y0 : y = 0
    · subst y0; rfl
    rw [rn_53 y y0]
    simp [upR, zR, y0]
  by_cases h54 : a = 54
  · subst h54; rw [hr 54 (by decide) (by decide)]; rfl
  simp [upR, zR, h53, h54]
set_option maxRecDepth 100000 in
set_option maxHeartbeats 4000000 in
theorem k_Sh_init2 {I : Nat → Nat → Int32} {L : Nat → Nat → Int64} {K : KT} {r : Nat → Nat → Option Nat} (hr : ∀ x, 53 ≤ x → x < 55 → r x = rfx false x) (hK : K none (zzI I 54 55, zzL L 54 55, r, 55)) : Ct m_Sh_init [.ref 53] (I, L, zR r 53, 54) K := by
  rw [zz_00 I L (zR r 53) 54]
  refine in_Sh_init 54 (Nat.le_refl _) (Nat.le_of_ble_eq_true rfl) rfl (fun P step => ?_)
  refine step [] 600 _ _ _ _ _ _ ?_
  simp only [wq_s, wp_s, mq_iconst, mq_bipush, mq_sipush, mq_ldc0, mq_ldc1, mq_ldc_w, mq_lconst, mq_ldc2_w, mq_iload, mq_iload_n, mq_lload, mq_lload_n, mq_aload, mq_aload_n, mq_istore, mq_istore_n, mq_lstore, mq_lstore_n, mq_astore, mq_astore_n, mq_iinc, mq_iadd, mq_isub, mq_imul, mq_iand, mq_ior, mq_ixor, mq_idiv, mq_irem, mq_ineg, mq_ishl, mq_ishr, mq_iushr, mq_ladd, mq_lsub, mq_land, mq_lor, mq_lxor, mq_lshl, mq_lshr, mq_lushr, mq_i2l, mq_l2i, mq_i2b, mq_i2s, mq_lcmp, mq_dupI, mq_dupR, mq_dup2, mq_ifCond, mq_if_icmp, mq_goto, mq_nnN, mq_nnR, mq_get1, mq_get2, mq_get0, mq_get3, mq_put1, mq_put2, mq_put3, mq_put0, mq_iaload, mq_laload, mq_aald, mq_iastore, mq_lastore, mq_aastore, mq_arraylength, mq_newarray, mq_anewarray, mq_new, mq_cpI, mq_cpL, mq_abs, mq_max, mq_min, mq_is0, mq_is1, mq_iv0, mq_iv3, mq_ob, mq_ii0, mq_ii1, mq_tableswitch, mq_lookupswitch, mq_iret, mq_lret, mq_vret, hq_pI, hq_pL, hq_pR, hq_pA0, hq_pA1, hq_lk0, hq_lk1, hq_gI, hq_gIo, hq_gL, hq_gLo, hq_gA, hq_gAo, hq_rf1, hq_rf0, hq_st0_int, hq_st0_ref, hq_st0_long, hq_st1, hq_st2, hq_c0, hq_c_int, hq_c_ref, hq_c_long, hq_cS_eq, hq_cS_ne, hq_cS_lt, hq_cS_ge, hq_cS_gt, hq_cS_le, hq_isO, hq_isA, hq_inS0, hq_inS1, hq_bzI, hq_bzZ, hq_sw0, hq_sw1, hq_cat0, hq_catI, hq_catR, hq_catL, hq_en0, hq_enL, hq_enI, hq_enR, hq_hp, hq_callW, hq_rep0, hq_rep1, hq_tl1, hq_tl0, sh_all, rf_all, Nat.reduceAdd, Nat.reduceSub, Nat.reduceMul, Nat.reduceBEq, ↓reduceIte, Bool.or_false, Bool.or_true, Bool.false_or, Bool.true_or, Bool.false_eq_true, Nat.reduceLT, Nat.reduceLeDiff, Nat.reduceEqDiff, true_or, true_and, and_true, false_or, or_true, eq_self, bI_d0, bI_d1, bI_o, em_1, Classical.not_not, Nat.add_zero, forall_const, not_true_eq_false, false_implies, one_ne0, ne0_one, not_false_eq_true, tb_Sh_init, nw_zz, nw_cz, nw_up, lO_0, lO_n, lO_v, vO_r, vO_i, sO_0, sO_v]
  exact kR hK (re_Sh2 hr)
theorem re_Sh3 {r : Nat → Nat → Option Nat} (hr : ∀ x, 55 ≤ x → x < 57 → r x = rfx false x) : upR (zR (zR r 55) 56) 55 0 (some 56) = r := by
  funext a y
  by_cases h55 : a = 55
  · subst h55
    rw [hr 55 (by decide) (by decide)]
    by_cases y0 : y = 0
    · subst y0; rfl
    rw [rn_55 y y0]
    simp [upR, zR, y0]
  by_cases h56 : a = 56
  · subst h56; rw [hr 56 (by decide) (by decide)]; rfl
  simp [upR, zR, h55, h56]
set_option maxRecDepth 100000 in
set_option maxHeartbeats 4000000 in
theorem k_Sh_init3 {I : Nat → Nat → Int32} {L : Nat → Nat → Int64} {K : KT} {r : Nat → Nat → Option Nat} (hr : ∀ x, 55 ≤ x → x < 57 → r x = rfx false x) (hK : K none (zzI I 56 57, zzL L 56 57, r, 57)) : Ct m_Sh_init [.ref 55] (I, L, zR r 55, 56) K := by
  rw [zz_00 I L (zR r 55) 56]
  refine in_Sh_init 56 (Nat.le_refl _) (Nat.le_of_ble_eq_true rfl) rfl (fun P step => ?_)
  refine step [] 600 _ _ _ _ _ _ ?_
  simp only [wq_s, wp_s, mq_iconst, mq_bipush, mq_sipush, mq_ldc0, mq_ldc1, mq_ldc_w, mq_lconst, mq_ldc2_w, mq_iload, mq_iload_n, mq_lload, mq_lload_n, mq_aload, mq_aload_n, mq_istore, mq_istore_n, mq_lstore, mq_lstore_n, mq_astore, mq_astore_n, mq_iinc, mq_iadd, mq_isub, mq_imul, mq_iand, mq_ior, mq_ixor, mq_idiv, mq_irem, mq_ineg, mq_ishl, mq_ishr, mq_iushr, mq_ladd, mq_lsub, mq_land, mq_lor, mq_lxor, mq_lshl, mq_lshr, mq_lushr, mq_i2l, mq_l2i, mq_i2b, mq_i2s, mq_lcmp, mq_dupI, mq_dupR, mq_dup2, mq_ifCond, mq_if_icmp, mq_goto, mq_nnN, mq_nnR, mq_get1, mq_get2, mq_get0, mq_get3, mq_put1, mq_put2, mq_put3, mq_put0, mq_iaload, mq_laload, mq_aald, mq_iastore, mq_lastore, mq_aastore, mq_arraylength, mq_newarray, mq_anewarray, mq_new, mq_cpI, mq_cpL, mq_abs, mq_max, mq_min, mq_is0, mq_is1, mq_iv0, mq_iv3, mq_ob, mq_ii0, mq_ii1, mq_tableswitch, mq_lookupswitch, mq_iret, mq_lret, mq_vret, hq_pI, hq_pL, hq_pR, hq_pA0, hq_pA1, hq_lk0, hq_lk1, hq_gI, hq_gIo, hq_gL, hq_gLo, hq_gA, hq_gAo, hq_rf1, hq_rf0, hq_st0_int, hq_st0_ref, hq_st0_long, hq_st1, hq_st2, hq_c0, hq_c_int, hq_c_ref, hq_c_long, hq_cS_eq, hq_cS_ne, hq_cS_lt, hq_cS_ge, hq_cS_gt, hq_cS_le, hq_isO, hq_isA, hq_inS0, hq_inS1, hq_bzI, hq_bzZ, hq_sw0, hq_sw1, hq_cat0, hq_catI, hq_catR, hq_catL, hq_en0, hq_enL, hq_enI, hq_enR, hq_hp, hq_callW, hq_rep0, hq_rep1, hq_tl1, hq_tl0, sh_all, rf_all, Nat.reduceAdd, Nat.reduceSub, Nat.reduceMul, Nat.reduceBEq, ↓reduceIte, Bool.or_false, Bool.or_true, Bool.false_or, Bool.true_or, Bool.false_eq_true, Nat.reduceLT, Nat.reduceLeDiff, Nat.reduceEqDiff, true_or, true_and, and_true, false_or, or_true, eq_self, bI_d0, bI_d1, bI_o, em_1, Classical.not_not, Nat.add_zero, forall_const, not_true_eq_false, false_implies, one_ne0, ne0_one, not_false_eq_true, tb_Sh_init, nw_zz, nw_cz, nw_up, lO_0, lO_n, lO_v, vO_r, vO_i, sO_0, sO_v]
  exact kR hK (re_Sh3 hr)
theorem cpZ_0 (b : Nat) (I : Nat → Nat → Int32) : cpZ b 0 I = I := by funext x y; unfold cpZ; rw [if_neg (by omega), if_neg (by omega)]
theorem cpZ_s (b k : Nat) (I : Nat → Nat → Int32) : upI (upI (cpZ b k I) (14 + b) k (-1)) (15 + b) k 3599 = cpZ b (k + 1) I := by
  funext x y
  have e5 : (y < k + 1) = (y < k ∨ y = k) := propext (by omega)
  have e6 : ¬ 14 + b = 15 + b := by omega
  have e7 : ¬ 15 + b = 14 + b := by omega
  unfold upI cpZ
  by_cases e1 : x = 14 + b
  · by_cases e2 : y = k
    · simp [e1, e2, e6, e7]
    · by_cases e3 : y < k <;> simp [e5, e1, e2, e3, e6, e7]
  · by_cases e4 : x = 15 + b
    · by_cases e2 : y = k
      · simp [e4, e2, e6, e7]
      · by_cases e3 : y < k <;> simp [e5, e4, e2, e3, e6, e7]
    · simp [e1, e4]
theorem re_Cp0 {r : Nat → Nat → Option Nat} (hr : ∀ x, 10 ≤ x → x < 16 → r x = rfx false x) : upR (zR (upR (zR (upR (zR (upR (zR (upR (zR (zR r 10) 11) 10 0 (some 11)) 12) 10 1 (some 12)) 13) 10 2 (some 13)) 14) 10 3 (some 14)) 15) 10 4 (some 15) = r := by
  funext a y
  by_cases h10 : a = 10
  · subst h10
    rw [hr 10 (by decide) (by decide)]
    by_cases y0 : y = 0
    · subst y0; rfl
    by_cases y1 : y = 1
    · subst y1; rfl
    by_cases y2 : y = 2
    · subst y2; rfl
    by_cases y3 : y = 3
    · subst y3; rfl
    by_cases y4 : y = 4
    · subst y4; rfl
    rw [rn_10 y y0 y1 y2 y3 y4]
    simp [upR, zR, y0, y1, y2, y3, y4]
  by_cases h11 : a = 11
  · subst h11; rw [hr 11 (by decide) (by decide)]; rfl
  by_cases h12 : a = 12
  · subst h12; rw [hr 12 (by decide) (by decide)]; rfl
  by_cases h13 : a = 13
  · subst h13; rw [hr 13 (by decide) (by decide)]; rfl
  by_cases h14 : a = 14
  · subst h14; rw [hr 14 (by decide) (by decide)]; rfl
  by_cases h15 : a = 15
  · subst h15; rw [hr 15 (by decide) (by decide)]; rfl
  simp [upR, zR, h10, h11, h12, h13, h14, h15]
set_option maxRecDepth 100000 in
set_option maxHeartbeats 4000000 in
theorem k_Cp_init0 {I : Nat → Nat → Int32} {L : Nat → Nat → Int64} {K : KT} {r : Nat → Nat → Option Nat} (hr : ∀ x, 10 ≤ x → x < 16 → r x = rfx false x) (hK : K none (cpZ 0 5 (zzI I 11 16), zzL L 11 16, r, 16)) : Ct m_Cp_init [.ref 10] (I, L, zR r 10, 11) K := by
  have e3 : r 10 3 = some 14 := by rw [hr 10 (by decide) (by decide)]; rfl
  have e4 : r 10 4 = some 15 := by rw [hr 10 (by decide) (by decide)]; rfl
  rw [zz_00 I L (zR r 10) 11]
  refine in_Cp_init 11 (Nat.le_refl _) (Nat.le_of_ble_eq_true rfl) rfl (fun P step => ?_)
  refine step [41] 600 _ _ _ _ _ _ ?_
  simp only [wq_s, wp_s, mq_iconst, mq_bipush, mq_sipush, mq_ldc0, mq_ldc1, mq_ldc_w, mq_lconst, mq_ldc2_w, mq_iload, mq_iload_n, mq_lload, mq_lload_n, mq_aload, mq_aload_n, mq_istore, mq_istore_n, mq_lstore, mq_lstore_n, mq_astore, mq_astore_n, mq_iinc, mq_iadd, mq_isub, mq_imul, mq_iand, mq_ior, mq_ixor, mq_idiv, mq_irem, mq_ineg, mq_ishl, mq_ishr, mq_iushr, mq_ladd, mq_lsub, mq_land, mq_lor, mq_lxor, mq_lshl, mq_lshr, mq_lushr, mq_i2l, mq_l2i, mq_i2b, mq_i2s, mq_lcmp, mq_dupI, mq_dupR, mq_dup2, mq_ifCond, mq_if_icmp, mq_goto, mq_nnN, mq_nnR, mq_get1, mq_get2, mq_get0, mq_get3, mq_put1, mq_put2, mq_put3, mq_put0, mq_iaload, mq_laload, mq_aald, mq_iastore, mq_lastore, mq_aastore, mq_arraylength, mq_newarray, mq_anewarray, mq_new, mq_cpI, mq_cpL, mq_abs, mq_max, mq_min, mq_is0, mq_is1, mq_iv0, mq_iv3, mq_ob, mq_ii0, mq_ii1, mq_tableswitch, mq_lookupswitch, mq_iret, mq_lret, mq_vret, hq_pI, hq_pL, hq_pR, hq_pA0, hq_pA1, hq_lk0, hq_lk1, hq_gI, hq_gIo, hq_gL, hq_gLo, hq_gA, hq_gAo, hq_rf1, hq_rf0, hq_st0_int, hq_st0_ref, hq_st0_long, hq_st1, hq_st2, hq_c0, hq_c_int, hq_c_ref, hq_c_long, hq_cS_eq, hq_cS_ne, hq_cS_lt, hq_cS_ge, hq_cS_gt, hq_cS_le, hq_isO, hq_isA, hq_inS0, hq_inS1, hq_bzI, hq_bzZ, hq_sw0, hq_sw1, hq_cat0, hq_catI, hq_catR, hq_catL, hq_en0, hq_enL, hq_enI, hq_enR, hq_hp, hq_callW, hq_rep0, hq_rep1, hq_tl1, hq_tl0, sh_all, rf_all, Nat.reduceAdd, Nat.reduceSub, Nat.reduceMul, Nat.reduceBEq, ↓reduceIte, Bool.or_false, Bool.or_true, Bool.false_or, Bool.true_or, Bool.false_eq_true, Nat.reduceLT, Nat.reduceLeDiff, Nat.reduceEqDiff, true_or, true_and, and_true, false_or, or_true, eq_self, bI_d0, bI_d1, bI_o, em_1, Classical.not_not, Nat.add_zero, forall_const, not_true_eq_false, false_implies, one_ne0, ne0_one, not_false_eq_true, tb_Cp_init, nw_zz, nw_cz, nw_up, lO_0, lO_n, lO_v, vO_r, vO_i, sO_0, sO_v]
  refine pRf (re_Cp0 hr) ?_
  rw [← cpZ_0 0 (zzI I 11 16)]
  refine loop_up (Q := fun k => P 41 [some (.ref 10), some (.int (nI k))] [] (cpZ 0 k (zzI I 11 16), zzL L 11 16, r, 16) 5 25) 5 (fun k hk ih => ?_) ?_ 0 (Nat.zero_le _)
  · rw [← nI_s, ← cpZ_s] at ih
    refine step [41] 600 _ _ _ _ _ _ ?_
    simp only [wq_s, wp_s, mq_iconst, mq_bipush, mq_sipush, mq_ldc0, mq_ldc1, mq_ldc_w, mq_lconst, mq_ldc2_w, mq_iload, mq_iload_n, mq_lload, mq_lload_n, mq_aload, mq_aload_n, mq_istore, mq_istore_n, mq_lstore, mq_lstore_n, mq_astore, mq_astore_n, mq_iinc, mq_iadd, mq_isub, mq_imul, mq_iand, mq_ior, mq_ixor, mq_idiv, mq_irem, mq_ineg, mq_ishl, mq_ishr, mq_iushr, mq_ladd, mq_lsub, mq_land, mq_lor, mq_lxor, mq_lshl, mq_lshr, mq_lushr, mq_i2l, mq_l2i, mq_i2b, mq_i2s, mq_lcmp, mq_dupI, mq_dupR, mq_dup2, mq_ifCond, mq_if_icmp, mq_goto, mq_nnN, mq_nnR, mq_get1, mq_get2, mq_get0, mq_get3, mq_put1, mq_put2, mq_put3, mq_put0, mq_iaload, mq_laload, mq_aald, mq_iastore, mq_lastore, mq_aastore, mq_arraylength, mq_newarray, mq_anewarray, mq_new, mq_cpI, mq_cpL, mq_abs, mq_max, mq_min, mq_is0, mq_is1, mq_iv0, mq_iv3, mq_ob, mq_ii0, mq_ii1, mq_tableswitch, mq_lookupswitch, mq_iret, mq_lret, mq_vret, hq_pI, hq_pL, hq_pR, hq_pA0, hq_pA1, hq_lk0, hq_lk1, hq_gI, hq_gIo, hq_gL, hq_gLo, hq_gA, hq_gAo, hq_rf1, hq_rf0, hq_st0_int, hq_st0_ref, hq_st0_long, hq_st1, hq_st2, hq_c0, hq_c_int, hq_c_ref, hq_c_long, hq_cS_eq, hq_cS_ne, hq_cS_lt, hq_cS_ge, hq_cS_gt, hq_cS_le, hq_isO, hq_isA, hq_inS0, hq_inS1, hq_bzI, hq_bzZ, hq_sw0, hq_sw1, hq_cat0, hq_catI, hq_catR, hq_catL, hq_en0, hq_enL, hq_enI, hq_enR, hq_hp, hq_callW, hq_rep0, hq_rep1, hq_tl1, hq_tl0, sh_all, rf_all, Nat.reduceAdd, Nat.reduceSub, Nat.reduceMul, Nat.reduceBEq, ↓reduceIte, Bool.or_false, Bool.or_true, Bool.false_or, Bool.true_or, Bool.false_eq_true, Nat.reduceLT, Nat.reduceLeDiff, Nat.reduceEqDiff, true_or, true_and, and_true, false_or, or_true, eq_self, bI_d0, bI_d1, bI_o, em_1, Classical.not_not, Nat.add_zero, forall_const, not_true_eq_false, false_implies, one_ne0, ne0_one, not_false_eq_true, tb_Cp_init, e3, e4]
    simp (disch := omega) only [nI_clamp, vp_in_nI, true_and]
    exact ⟨fun h => absurd ((nI_leI (a := 5) (by omega) (by omega)).mp h) (by omega), fun _ => ih⟩
  · refine step [41] 600 _ _ _ _ _ _ ?_
    simp only [wq_s, wp_s, mq_iconst, mq_bipush, mq_sipush, mq_ldc0, mq_ldc1, mq_ldc_w, mq_lconst, mq_ldc2_w, mq_iload, mq_iload_n, mq_lload, mq_lload_n, mq_aload, mq_aload_n, mq_istore, mq_istore_n, mq_lstore, mq_lstore_n, mq_astore, mq_astore_n, mq_iinc, mq_iadd, mq_isub, mq_imul, mq_iand, mq_ior, mq_ixor, mq_idiv, mq_irem, mq_ineg, mq_ishl, mq_ishr, mq_iushr, mq_ladd, mq_lsub, mq_land, mq_lor, mq_lxor, mq_lshl, mq_lshr, mq_lushr, mq_i2l, mq_l2i, mq_i2b, mq_i2s, mq_lcmp, mq_dupI, mq_dupR, mq_dup2, mq_ifCond, mq_if_icmp, mq_goto, mq_nnN, mq_nnR, mq_get1, mq_get2, mq_get0, mq_get3, mq_put1, mq_put2, mq_put3, mq_put0, mq_iaload, mq_laload, mq_aald, mq_iastore, mq_lastore, mq_aastore, mq_arraylength, mq_newarray, mq_anewarray, mq_new, mq_cpI, mq_cpL, mq_abs, mq_max, mq_min, mq_is0, mq_is1, mq_iv0, mq_iv3, mq_ob, mq_ii0, mq_ii1, mq_tableswitch, mq_lookupswitch, mq_iret, mq_lret, mq_vret, hq_pI, hq_pL, hq_pR, hq_pA0, hq_pA1, hq_lk0, hq_lk1, hq_gI, hq_gIo, hq_gL, hq_gLo, hq_gA, hq_gAo, hq_rf1, hq_rf0, hq_st0_int, hq_st0_ref, hq_st0_long, hq_st1, hq_st2, hq_c0, hq_c_int, hq_c_ref, hq_c_long, hq_cS_eq, hq_cS_ne, hq_cS_lt, hq_cS_ge, hq_cS_gt, hq_cS_le, hq_isO, hq_isA, hq_inS0, hq_inS1, hq_bzI, hq_bzZ, hq_sw0, hq_sw1, hq_cat0, hq_catI, hq_catR, hq_catL, hq_en0, hq_enL, hq_enI, hq_enR, hq_hp, hq_callW, hq_rep0, hq_rep1, hq_tl1, hq_tl0, sh_all, rf_all, Nat.reduceAdd, Nat.reduceSub, Nat.reduceMul, Nat.reduceBEq, ↓reduceIte, Bool.or_false, Bool.or_true, Bool.false_or, Bool.true_or, Bool.false_eq_true, Nat.reduceLT, Nat.reduceLeDiff, Nat.reduceEqDiff, true_or, true_and, and_true, false_or, or_true, eq_self, bI_d0, bI_d1, bI_o, em_1, Classical.not_not, Nat.add_zero, forall_const, not_true_eq_false, false_implies, one_ne0, ne0_one, not_false_eq_true, tb_Cp_init]
    exact ⟨fun _ => hK, fun h => absurd (Int32.le_refl _) h⟩
theorem re_Cp70 {r : Nat → Nat → Option Nat} (hr : ∀ x, 80 ≤ x → x < 86 → r x = rfx false x) : upR (zR (upR (zR (upR (zR (upR (zR (upR (zR (zR r 80) 81) 80 0 (some 81)) 82) 80 1 (some 82)) 83) 80 2 (some 83)) 84) 80 3 (some 84)) 85) 80 4 (some 85) = r := by
  funext a y
  by_cases h80 : a = 80
  · subst h80
    rw [hr 80 (by decide) (by decide)]
    by_cases y0 : y = 0
    · subst y0; rfl
    by_cases y1 : y = 1
    · subst y1; rfl
    by_cases y2 : y = 2
    · subst y2; rfl
    by_cases y3 : y = 3
    · subst y3; rfl
    by_cases y4 : y = 4
    · subst y4; rfl
    rw [rn_80 y y0 y1 y2 y3 y4]
    simp [upR, zR, y0, y1, y2, y3, y4]
  by_cases h81 : a = 81
  · subst h81; rw [hr 81 (by decide) (by decide)]; rfl
  by_cases h82 : a = 82
  · subst h82; rw [hr 82 (by decide) (by decide)]; rfl
  by_cases h83 : a = 83
  · subst h83; rw [hr 83 (by decide) (by decide)]; rfl
  by_cases h84 : a = 84
  · subst h84; rw [hr 84 (by decide) (by decide)]; rfl
  by_cases h85 : a = 85
  · subst h85; rw [hr 85 (by decide) (by decide)]; rfl
  simp [upR, zR, h80, h81, h82, h83, h84, h85]
set_option maxRecDepth 100000 in
set_option maxHeartbeats 4000000 in
theorem k_Cp_init70 {I : Nat → Nat → Int32} {L : Nat → Nat → Int64} {K : KT} {r : Nat → Nat → Option Nat} (hr : ∀ x, 80 ≤ x → x < 86 → r x = rfx false x) (hK : K none (cpZ 70 5 (zzI I 81 86), zzL L 81 86, r, 86)) : Ct m_Cp_init [.ref 80] (I, L, zR r 80, 81) K := by
  have e3 : r 80 3 = some 84 := by rw [hr 80 (by decide) (by decide)]; rfl
  have e4 : r 80 4 = some 85 := by rw [hr 80 (by decide) (by decide)]; rfl
  rw [zz_00 I L (zR r 80) 81]
  refine in_Cp_init 81 (Nat.le_refl _) (Nat.le_of_ble_eq_true rfl) rfl (fun P step => ?_)
  refine step [41] 600 _ _ _ _ _ _ ?_
  simp only [wq_s, wp_s, mq_iconst, mq_bipush, mq_sipush, mq_ldc0, mq_ldc1, mq_ldc_w, mq_lconst, mq_ldc2_w, mq_iload, mq_iload_n, mq_lload, mq_lload_n, mq_aload, mq_aload_n, mq_istore, mq_istore_n, mq_lstore, mq_lstore_n, mq_astore, mq_astore_n, mq_iinc, mq_iadd, mq_isub, mq_imul, mq_iand, mq_ior, mq_ixor, mq_idiv, mq_irem, mq_ineg, mq_ishl, mq_ishr, mq_iushr, mq_ladd, mq_lsub, mq_land, mq_lor, mq_lxor, mq_lshl, mq_lshr, mq_lushr, mq_i2l, mq_l2i, mq_i2b, mq_i2s, mq_lcmp, mq_dupI, mq_dupR, mq_dup2, mq_ifCond, mq_if_icmp, mq_goto, mq_nnN, mq_nnR, mq_get1, mq_get2, mq_get0, mq_get3, mq_put1, mq_put2, mq_put3, mq_put0, mq_iaload, mq_laload, mq_aald, mq_iastore, mq_lastore, mq_aastore, mq_arraylength, mq_newarray, mq_anewarray, mq_new, mq_cpI, mq_cpL, mq_abs, mq_max, mq_min, mq_is0, mq_is1, mq_iv0, mq_iv3, mq_ob, mq_ii0, mq_ii1, mq_tableswitch, mq_lookupswitch, mq_iret, mq_lret, mq_vret, hq_pI, hq_pL, hq_pR, hq_pA0, hq_pA1, hq_lk0, hq_lk1, hq_gI, hq_gIo, hq_gL, hq_gLo, hq_gA, hq_gAo, hq_rf1, hq_rf0, hq_st0_int, hq_st0_ref, hq_st0_long, hq_st1, hq_st2, hq_c0, hq_c_int, hq_c_ref, hq_c_long, hq_cS_eq, hq_cS_ne, hq_cS_lt, hq_cS_ge, hq_cS_gt, hq_cS_le, hq_isO, hq_isA, hq_inS0, hq_inS1, hq_bzI, hq_bzZ, hq_sw0, hq_sw1, hq_cat0, hq_catI, hq_catR, hq_catL, hq_en0, hq_enL, hq_enI, hq_enR, hq_hp, hq_callW, hq_rep0, hq_rep1, hq_tl1, hq_tl0, sh_all, rf_all, Nat.reduceAdd, Nat.reduceSub, Nat.reduceMul, Nat.reduceBEq, ↓reduceIte, Bool.or_false, Bool.or_true, Bool.false_or, Bool.true_or, Bool.false_eq_true, Nat.reduceLT, Nat.reduceLeDiff, Nat.reduceEqDiff, true_or, true_and, and_true, false_or, or_true, eq_self, bI_d0, bI_d1, bI_o, em_1, Classical.not_not, Nat.add_zero, forall_const, not_true_eq_false, false_implies, one_ne0, ne0_one, not_false_eq_true, tb_Cp_init, nw_zz, nw_cz, nw_up, lO_0, lO_n, lO_v, vO_r, vO_i, sO_0, sO_v]
  refine pRf (re_Cp70 hr) ?_
  rw [← cpZ_0 70 (zzI I 81 86)]
  refine loop_up (Q := fun k => P 41 [some (.ref 80), some (.int (nI k))] [] (cpZ 70 k (zzI I 81 86), zzL L 81 86, r, 86) 5 25) 5 (fun k hk ih => ?_) ?_ 0 (Nat.zero_le _)
  · rw [← nI_s, ← cpZ_s] at ih
    refine step [41] 600 _ _ _ _ _ _ ?_
    simp only [wq_s, wp_s, mq_iconst, mq_bipush, mq_sipush, mq_ldc0, mq_ldc1, mq_ldc_w, mq_lconst, mq_ldc2_w, mq_iload, mq_iload_n, mq_lload, mq_lload_n, mq_aload, mq_aload_n, mq_istore, mq_istore_n, mq_lstore, mq_lstore_n, mq_astore, mq_astore_n, mq_iinc, mq_iadd, mq_isub, mq_imul, mq_iand, mq_ior, mq_ixor, mq_idiv, mq_irem, mq_ineg, mq_ishl, mq_ishr, mq_iushr, mq_ladd, mq_lsub, mq_land, mq_lor, mq_lxor, mq_lshl, mq_lshr, mq_lushr, mq_i2l, mq_l2i, mq_i2b, mq_i2s, mq_lcmp, mq_dupI, mq_dupR, mq_dup2, mq_ifCond, mq_if_icmp, mq_goto, mq_nnN, mq_nnR, mq_get1, mq_get2, mq_get0, mq_get3, mq_put1, mq_put2, mq_put3, mq_put0, mq_iaload, mq_laload, mq_aald, mq_iastore, mq_lastore, mq_aastore, mq_arraylength, mq_newarray, mq_anewarray, mq_new, mq_cpI, mq_cpL, mq_abs, mq_max, mq_min, mq_is0, mq_is1, mq_iv0, mq_iv3, mq_ob, mq_ii0, mq_ii1, mq_tableswitch, mq_lookupswitch, mq_iret, mq_lret, mq_vret, hq_pI, hq_pL, hq_pR, hq_pA0, hq_pA1, hq_lk0, hq_lk1, hq_gI, hq_gIo, hq_gL, hq_gLo, hq_gA, hq_gAo, hq_rf1, hq_rf0, hq_st0_int, hq_st0_ref, hq_st0_long, hq_st1, hq_st2, hq_c0, hq_c_int, hq_c_ref, hq_c_long, hq_cS_eq, hq_cS_ne, hq_cS_lt, hq_cS_ge, hq_cS_gt, hq_cS_le, hq_isO, hq_isA, hq_inS0, hq_inS1, hq_bzI, hq_bzZ, hq_sw0, hq_sw1, hq_cat0, hq_catI, hq_catR, hq_catL, hq_en0, hq_enL, hq_enI, hq_enR, hq_hp, hq_callW, hq_rep0, hq_rep1, hq_tl1, hq_tl0, sh_all, rf_all, Nat.reduceAdd, Nat.reduceSub, Nat.reduceMul, Nat.reduceBEq, ↓reduceIte, Bool.or_false, Bool.or_true, Bool.false_or, Bool.true_or, Bool.false_eq_true, Nat.reduceLT, Nat.reduceLeDiff, Nat.reduceEqDiff, true_or, true_and, and_true, false_or, or_true, eq_self, bI_d0, bI_d1, bI_o, em_1, Classical.not_not, Nat.add_zero, forall_const, not_true_eq_false, false_implies, one_ne0, ne0_one, not_false_eq_true, tb_Cp_init, e3, e4]
    simp (disch := omega) only [nI_clamp, vp_in_nI, true_and]
    exact ⟨fun h => absurd ((nI_leI (a := 5) (by omega) (by omega)).mp h) (by omega), fun _ => ih⟩
  · refine step [41] 600 _ _ _ _ _ _ ?_
    simp only [wq_s, wp_s, mq_iconst, mq_bipush, mq_sipush, mq_ldc0, mq_ldc1, mq_ldc_w, mq_lconst, mq_ldc2_w, mq_iload, mq_iload_n, mq_lload, mq_lload_n, mq_aload, mq_aload_n, mq_istore, mq_istore_n, mq_lstore, mq_lstore_n, mq_astore, mq_astore_n, mq_iinc, mq_iadd, mq_isub, mq_imul, mq_iand, mq_ior, mq_ixor, mq_idiv, mq_irem, mq_ineg, mq_ishl, mq_ishr, mq_iushr, mq_ladd, mq_lsub, mq_land, mq_lor, mq_lxor, mq_lshl, mq_lshr, mq_lushr, mq_i2l, mq_l2i, mq_i2b, mq_i2s, mq_lcmp, mq_dupI, mq_dupR, mq_dup2, mq_ifCond, mq_if_icmp, mq_goto, mq_nnN, mq_nnR, mq_get1, mq_get2, mq_get0, mq_get3, mq_put1, mq_put2, mq_put3, mq_put0, mq_iaload, mq_laload, mq_aald, mq_iastore, mq_lastore, mq_aastore, mq_arraylength, mq_newarray, mq_anewarray, mq_new, mq_cpI, mq_cpL, mq_abs, mq_max, mq_min, mq_is0, mq_is1, mq_iv0, mq_iv3, mq_ob, mq_ii0, mq_ii1, mq_tableswitch, mq_lookupswitch, mq_iret, mq_lret, mq_vret, hq_pI, hq_pL, hq_pR, hq_pA0, hq_pA1, hq_lk0, hq_lk1, hq_gI, hq_gIo, hq_gL, hq_gLo, hq_gA, hq_gAo, hq_rf1, hq_rf0, hq_st0_int, hq_st0_ref, hq_st0_long, hq_st1, hq_st2, hq_c0, hq_c_int, hq_c_ref, hq_c_long, hq_cS_eq, hq_cS_ne, hq_cS_lt, hq_cS_ge, hq_cS_gt, hq_cS_le, hq_isO, hq_isA, hq_inS0, hq_inS1, hq_bzI, hq_bzZ, hq_sw0, hq_sw1, hq_cat0, hq_catI, hq_catR, hq_catL, hq_en0, hq_enL, hq_enI, hq_enR, hq_hp, hq_callW, hq_rep0, hq_rep1, hq_tl1, hq_tl0, sh_all, rf_all, Nat.reduceAdd, Nat.reduceSub, Nat.reduceMul, Nat.reduceBEq, ↓reduceIte, Bool.or_false, Bool.or_true, Bool.false_or, Bool.true_or, Bool.false_eq_true, Nat.reduceLT, Nat.reduceLeDiff, Nat.reduceEqDiff, true_or, true_and, and_true, false_or, or_true, eq_self, bI_d0, bI_d1, bI_o, em_1, Classical.not_not, Nat.add_zero, forall_const, not_true_eq_false, false_implies, one_ne0, ne0_one, not_false_eq_true, tb_Cp_init]
    exact ⟨fun _ => hK, fun h => absurd (Int32.le_refl _) h⟩
theorem re_Wo0 {r : Nat → Nat → Option Nat} (hr : ∀ x, 1 ≤ x → x < 36 → r x = rfx false x) : upR (zR (upR (upR (upR (upR (upR (zR r 1) 1 0 (some 2)) 1 1 (some 10)) 1 2 (some 16)) 1 3 (some 24)) 1 4 (some 32)) 35) 1 5 (some 35) = r := by
  funext a y
  by_cases h1 : a = 1
  · subst h1
    rw [hr 1 (by decide) (by decide)]
    by_cases y0 : y = 0
    · subst y0; rfl
    by_cases y1 : y = 1
    · subst y1; rfl
    by_cases y2 : y = 2
    · subst y2; rfl
    by_cases y3 : y = 3
    · subst y3; rfl
    by_cases y4 : y = 4
    · subst y4; rfl
    by_cases y5 : y = 5
    · subst y5; rfl
    rw [rn_1 y y0 y1 y2 y3 y4 y5]
    simp [upR, zR, y0, y1, y2, y3, y4, y5]
  by_cases h35 : a = 35
  · subst h35; rw [hr 35 (by decide) (by decide)]; rfl
  simp [upR, zR, h1, h35]
set_option maxRecDepth 100000 in
set_option maxHeartbeats 4000000 in
theorem k_Wo_init0 {I : Nat → Nat → Int32} {L : Nat → Nat → Int64} {K : KT} {r : Nat → Nat → Option Nat} (hr : ∀ x, 1 ≤ x → x < 36 → r x = rfx false x) (hK : K none (cpZ 0 5 (zzI I 2 36), zzL L 2 36, r, 36)) : Ct m_Wo_init [.ref 1] (I, L, zR r 1, 2) K := by
  rw [zz_00 I L (zR r 1) 2]
  refine in_Wo_init 2 (Nat.le_refl _) (Nat.le_of_ble_eq_true rfl) rfl (fun P step => ?_)
  refine step [] 600 _ _ _ _ _ _ ?_
  simp only [wq_s, wp_s, mq_iconst, mq_bipush, mq_sipush, mq_ldc0, mq_ldc1, mq_ldc_w, mq_lconst, mq_ldc2_w, mq_iload, mq_iload_n, mq_lload, mq_lload_n, mq_aload, mq_aload_n, mq_istore, mq_istore_n, mq_lstore, mq_lstore_n, mq_astore, mq_astore_n, mq_iinc, mq_iadd, mq_isub, mq_imul, mq_iand, mq_ior, mq_ixor, mq_idiv, mq_irem, mq_ineg, mq_ishl, mq_ishr, mq_iushr, mq_ladd, mq_lsub, mq_land, mq_lor, mq_lxor, mq_lshl, mq_lshr, mq_lushr, mq_i2l, mq_l2i, mq_i2b, mq_i2s, mq_lcmp, mq_dupI, mq_dupR, mq_dup2, mq_ifCond, mq_if_icmp, mq_goto, mq_nnN, mq_nnR, mq_get1, mq_get2, mq_get0, mq_get3, mq_put1, mq_put2, mq_put3, mq_put0, mq_iaload, mq_laload, mq_aald, mq_iastore, mq_lastore, mq_aastore, mq_arraylength, mq_newarray, mq_anewarray, mq_new, mq_cpI, mq_cpL, mq_abs, mq_max, mq_min, mq_is0, mq_is1, mq_iv0, mq_iv3, mq_ob, mq_ii0, mq_ii1, mq_tableswitch, mq_lookupswitch, mq_iret, mq_lret, mq_vret, hq_pI, hq_pL, hq_pR, hq_pA0, hq_pA1, hq_lk0, hq_lk1, hq_gI, hq_gIo, hq_gL, hq_gLo, hq_gA, hq_gAo, hq_rf1, hq_rf0, hq_st0_int, hq_st0_ref, hq_st0_long, hq_st1, hq_st2, hq_c0, hq_c_int, hq_c_ref, hq_c_long, hq_cS_eq, hq_cS_ne, hq_cS_lt, hq_cS_ge, hq_cS_gt, hq_cS_le, hq_isO, hq_isA, hq_inS0, hq_inS1, hq_bzI, hq_bzZ, hq_sw0, hq_sw1, hq_cat0, hq_catI, hq_catR, hq_catL, hq_en0, hq_enL, hq_enI, hq_enR, hq_hp, hq_callW, hq_rep0, hq_rep1, hq_tl1, hq_tl0, sh_all, rf_all, Nat.reduceAdd, Nat.reduceSub, Nat.reduceMul, Nat.reduceBEq, ↓reduceIte, Bool.or_false, Bool.or_true, Bool.false_or, Bool.true_or, Bool.false_eq_true, Nat.reduceLT, Nat.reduceLeDiff, Nat.reduceEqDiff, true_or, true_and, and_true, false_or, or_true, eq_self, bI_d0, bI_d1, bI_o, em_1, Classical.not_not, Nat.add_zero, forall_const, not_true_eq_false, false_implies, one_ne0, ne0_one, not_false_eq_true, tb_Wo_init, nw_zz, nw_cz, nw_up, lO_0, lO_n, lO_v, vO_r, vO_i, sO_0, sO_v]
  refine k_La_init0 (r := zR r 1) (fun x h1 h2 => by simp (disch := omega) only [upR_ne, zR_ne]; exact hr x (by omega) (by omega)) ?_
  rw [zzI_t (by decide) (by decide), zzL_t (by decide) (by decide)]
  refine step [] 600 _ _ _ _ _ _ ?_
  simp only [wq_s, wp_s, mq_iconst, mq_bipush, mq_sipush, mq_ldc0, mq_ldc1, mq_ldc_w, mq_lconst, mq_ldc2_w, mq_iload, mq_iload_n, mq_lload, mq_lload_n, mq_aload, mq_aload_n, mq_istore, mq_istore_n, mq_lstore, mq_lstore_n, mq_astore, mq_astore_n, mq_iinc, mq_iadd, mq_isub, mq_imul, mq_iand, mq_ior, mq_ixor, mq_idiv, mq_irem, mq_ineg, mq_ishl, mq_ishr, mq_iushr, mq_ladd, mq_lsub, mq_land, mq_lor, mq_lxor, mq_lshl, mq_lshr, mq_lushr, mq_i2l, mq_l2i, mq_i2b, mq_i2s, mq_lcmp, mq_dupI, mq_dupR, mq_dup2, mq_ifCond, mq_if_icmp, mq_goto, mq_nnN, mq_nnR, mq_get1, mq_get2, mq_get0, mq_get3, mq_put1, mq_put2, mq_put3, mq_put0, mq_iaload, mq_laload, mq_aald, mq_iastore, mq_lastore, mq_aastore, mq_arraylength, mq_newarray, mq_anewarray, mq_new, mq_cpI, mq_cpL, mq_abs, mq_max, mq_min, mq_is0, mq_is1, mq_iv0, mq_iv3, mq_ob, mq_ii0, mq_ii1, mq_tableswitch, mq_lookupswitch, mq_iret, mq_lret, mq_vret, hq_pI, hq_pL, hq_pR, hq_pA0, hq_pA1, hq_lk0, hq_lk1, hq_gI, hq_gIo, hq_gL, hq_gLo, hq_gA, hq_gAo, hq_rf1, hq_rf0, hq_st0_int, hq_st0_ref, hq_st0_long, hq_st1, hq_st2, hq_c0, hq_c_int, hq_c_ref, hq_c_long, hq_cS_eq, hq_cS_ne, hq_cS_lt, hq_cS_ge, hq_cS_gt, hq_cS_le, hq_isO, hq_isA, hq_inS0, hq_inS1, hq_bzI, hq_bzZ, hq_sw0, hq_sw1, hq_cat0, hq_catI, hq_catR, hq_catL, hq_en0, hq_enL, hq_enI, hq_enR, hq_hp, hq_callW, hq_rep0, hq_rep1, hq_tl1, hq_tl0, sh_all, rf_all, Nat.reduceAdd, Nat.reduceSub, Nat.reduceMul, Nat.reduceBEq, ↓reduceIte, Bool.or_false, Bool.or_true, Bool.false_or, Bool.true_or, Bool.false_eq_true, Nat.reduceLT, Nat.reduceLeDiff, Nat.reduceEqDiff, true_or, true_and, and_true, false_or, or_true, eq_self, bI_d0, bI_d1, bI_o, em_1, Classical.not_not, Nat.add_zero, forall_const, not_true_eq_false, false_implies, one_ne0, ne0_one, not_false_eq_true, tb_Wo_init, nw_zz, nw_cz, nw_up, lO_0, lO_n, lO_v, vO_r, vO_i, sO_0, sO_v]
  refine k_Cp_init0 (r := upR (zR r 1) 1 0 (some 2)) (fun x h1 h2 => by simp (disch := omega) only [upR_ne, zR_ne]; exact hr x (by omega) (by omega)) ?_
  rw [zzI_t (by decide) (by decide), zzL_t (by decide) (by decide)]
  refine step [] 600 _ _ _ _ _ _ ?_
  simp only [wq_s, wp_s, mq_iconst, mq_bipush, mq_sipush, mq_ldc0, mq_ldc1, mq_ldc_w, mq_lconst, mq_ldc2_w, mq_iload, mq_iload_n, mq_lload, mq_lload_n, mq_aload, mq_aload_n, mq_istore, mq_istore_n, mq_lstore, mq_lstore_n, mq_astore, mq_astore_n, mq_iinc, mq_iadd, mq_isub, mq_imul, mq_iand, mq_ior, mq_ixor, mq_idiv, mq_irem, mq_ineg, mq_ishl, mq_ishr, mq_iushr, mq_ladd, mq_lsub, mq_land, mq_lor, mq_lxor, mq_lshl, mq_lshr, mq_lushr, mq_i2l, mq_l2i, mq_i2b, mq_i2s, mq_lcmp, mq_dupI, mq_dupR, mq_dup2, mq_ifCond, mq_if_icmp, mq_goto, mq_nnN, mq_nnR, mq_get1, mq_get2, mq_get0, mq_get3, mq_put1, mq_put2, mq_put3, mq_put0, mq_iaload, mq_laload, mq_aald, mq_iastore, mq_lastore, mq_aastore, mq_arraylength, mq_newarray, mq_anewarray, mq_new, mq_cpI, mq_cpL, mq_abs, mq_max, mq_min, mq_is0, mq_is1, mq_iv0, mq_iv3, mq_ob, mq_ii0, mq_ii1, mq_tableswitch, mq_lookupswitch, mq_iret, mq_lret, mq_vret, hq_pI, hq_pL, hq_pR, hq_pA0, hq_pA1, hq_lk0, hq_lk1, hq_gI, hq_gIo, hq_gL, hq_gLo, hq_gA, hq_gAo, hq_rf1, hq_rf0, hq_st0_int, hq_st0_ref, hq_st0_long, hq_st1, hq_st2, hq_c0, hq_c_int, hq_c_ref, hq_c_long, hq_cS_eq, hq_cS_ne, hq_cS_lt, hq_cS_ge, hq_cS_gt, hq_cS_le, hq_isO, hq_isA, hq_inS0, hq_inS1, hq_bzI, hq_bzZ, hq_sw0, hq_sw1, hq_cat0, hq_catI, hq_catR, hq_catL, hq_en0, hq_enL, hq_enI, hq_enR, hq_hp, hq_callW, hq_rep0, hq_rep1, hq_tl1, hq_tl0, sh_all, rf_all, Nat.reduceAdd, Nat.reduceSub, Nat.reduceMul, Nat.reduceBEq, ↓reduceIte, Bool.or_false, Bool.or_true, Bool.false_or, Bool.true_or, Bool.false_eq_true, Nat.reduceLT, Nat.reduceLeDiff, Nat.reduceEqDiff, true_or, true_and, and_true, false_or, or_true, eq_self, bI_d0, bI_d1, bI_o, em_1, Classical.not_not, Nat.add_zero, forall_const, not_true_eq_false, false_implies, one_ne0, ne0_one, not_false_eq_true, tb_Wo_init, nw_zz, nw_cz, nw_up, lO_0, lO_n, lO_v, vO_r, vO_i, sO_0, sO_v]
  refine k_Ro_init0 (r := upR (upR (zR r 1) 1 0 (some 2)) 1 1 (some 10)) (fun x h1 h2 => by simp (disch := omega) only [upR_ne, zR_ne]; exact hr x (by omega) (by omega)) ?_
  rw [zc_t (by decide) (by decide) (by decide), zzL_t (by decide) (by decide)]
  refine step [] 600 _ _ _ _ _ _ ?_
  simp only [wq_s, wp_s, mq_iconst, mq_bipush, mq_sipush, mq_ldc0, mq_ldc1, mq_ldc_w, mq_lconst, mq_ldc2_w, mq_iload, mq_iload_n, mq_lload, mq_lload_n, mq_aload, mq_aload_n, mq_istore, mq_istore_n, mq_lstore, mq_lstore_n, mq_astore, mq_astore_n, mq_iinc, mq_iadd, mq_isub, mq_imul, mq_iand, mq_ior, mq_ixor, mq_idiv, mq_irem, mq_ineg, mq_ishl, mq_ishr, mq_iushr, mq_ladd, mq_lsub, mq_land, mq_lor, mq_lxor, mq_lshl, mq_lshr, mq_lushr, mq_i2l, mq_l2i, mq_i2b, mq_i2s, mq_lcmp, mq_dupI, mq_dupR, mq_dup2, mq_ifCond, mq_if_icmp, mq_goto, mq_nnN, mq_nnR, mq_get1, mq_get2, mq_get0, mq_get3, mq_put1, mq_put2, mq_put3, mq_put0, mq_iaload, mq_laload, mq_aald, mq_iastore, mq_lastore, mq_aastore, mq_arraylength, mq_newarray, mq_anewarray, mq_new, mq_cpI, mq_cpL, mq_abs, mq_max, mq_min, mq_is0, mq_is1, mq_iv0, mq_iv3, mq_ob, mq_ii0, mq_ii1, mq_tableswitch, mq_lookupswitch, mq_iret, mq_lret, mq_vret, hq_pI, hq_pL, hq_pR, hq_pA0, hq_pA1, hq_lk0, hq_lk1, hq_gI, hq_gIo, hq_gL, hq_gLo, hq_gA, hq_gAo, hq_rf1, hq_rf0, hq_st0_int, hq_st0_ref, hq_st0_long, hq_st1, hq_st2, hq_c0, hq_c_int, hq_c_ref, hq_c_long, hq_cS_eq, hq_cS_ne, hq_cS_lt, hq_cS_ge, hq_cS_gt, hq_cS_le, hq_isO, hq_isA, hq_inS0, hq_inS1, hq_bzI, hq_bzZ, hq_sw0, hq_sw1, hq_cat0, hq_catI, hq_catR, hq_catL, hq_en0, hq_enL, hq_enI, hq_enR, hq_hp, hq_callW, hq_rep0, hq_rep1, hq_tl1, hq_tl0, sh_all, rf_all, Nat.reduceAdd, Nat.reduceSub, Nat.reduceMul, Nat.reduceBEq, ↓reduceIte, Bool.or_false, Bool.or_true, Bool.false_or, Bool.true_or, Bool.false_eq_true, Nat.reduceLT, Nat.reduceLeDiff, Nat.reduceEqDiff, true_or, true_and, and_true, false_or, or_true, eq_self, bI_d0, bI_d1, bI_o, em_1, Classical.not_not, Nat.add_zero, forall_const, not_true_eq_false, false_implies, one_ne0, ne0_one, not_false_eq_true, tb_Wo_init, nw_zz, nw_cz, nw_up, lO_0, lO_n, lO_v, vO_r, vO_i, sO_0, sO_v]
  refine k_Lw_init0 (r := upR (upR (upR (zR r 1) 1 0 (some 2)) 1 1 (some 10)) 1 2 (some 16)) (fun x h1 h2 => by simp (disch := omega) only [upR_ne, zR_ne]; exact hr x (by omega) (by omega)) ?_
  rw [zc_t (by decide) (by decide) (by decide), zzL_t (by decide) (by decide)]
  refine step [] 600 _ _ _ _ _ _ ?_
  simp only [wq_s, wp_s, mq_iconst, mq_bipush, mq_sipush, mq_ldc0, mq_ldc1, mq_ldc_w, mq_lconst, mq_ldc2_w, mq_iload, mq_iload_n, mq_lload, mq_lload_n, mq_aload, mq_aload_n, mq_istore, mq_istore_n, mq_lstore, mq_lstore_n, mq_astore, mq_astore_n, mq_iinc, mq_iadd, mq_isub, mq_imul, mq_iand, mq_ior, mq_ixor, mq_idiv, mq_irem, mq_ineg, mq_ishl, mq_ishr, mq_iushr, mq_ladd, mq_lsub, mq_land, mq_lor, mq_lxor, mq_lshl, mq_lshr, mq_lushr, mq_i2l, mq_l2i, mq_i2b, mq_i2s, mq_lcmp, mq_dupI, mq_dupR, mq_dup2, mq_ifCond, mq_if_icmp, mq_goto, mq_nnN, mq_nnR, mq_get1, mq_get2, mq_get0, mq_get3, mq_put1, mq_put2, mq_put3, mq_put0, mq_iaload, mq_laload, mq_aald, mq_iastore, mq_lastore, mq_aastore, mq_arraylength, mq_newarray, mq_anewarray, mq_new, mq_cpI, mq_cpL, mq_abs, mq_max, mq_min, mq_is0, mq_is1, mq_iv0, mq_iv3, mq_ob, mq_ii0, mq_ii1, mq_tableswitch, mq_lookupswitch, mq_iret, mq_lret, mq_vret, hq_pI, hq_pL, hq_pR, hq_pA0, hq_pA1, hq_lk0, hq_lk1, hq_gI, hq_gIo, hq_gL, hq_gLo, hq_gA, hq_gAo, hq_rf1, hq_rf0, hq_st0_int, hq_st0_ref, hq_st0_long, hq_st1, hq_st2, hq_c0, hq_c_int, hq_c_ref, hq_c_long, hq_cS_eq, hq_cS_ne, hq_cS_lt, hq_cS_ge, hq_cS_gt, hq_cS_le, hq_isO, hq_isA, hq_inS0, hq_inS1, hq_bzI, hq_bzZ, hq_sw0, hq_sw1, hq_cat0, hq_catI, hq_catR, hq_catL, hq_en0, hq_enL, hq_enI, hq_enR, hq_hp, hq_callW, hq_rep0, hq_rep1, hq_tl1, hq_tl0, sh_all, rf_all, Nat.reduceAdd, Nat.reduceSub, Nat.reduceMul, Nat.reduceBEq, ↓reduceIte, Bool.or_false, Bool.or_true, Bool.false_or, Bool.true_or, Bool.false_eq_true, Nat.reduceLT, Nat.reduceLeDiff, Nat.reduceEqDiff, true_or, true_and, and_true, false_or, or_true, eq_self, bI_d0, bI_d1, bI_o, em_1, Classical.not_not, Nat.add_zero, forall_const, not_true_eq_false, false_implies, one_ne0, ne0_one, not_false_eq_true, tb_Wo_init, nw_zz, nw_cz, nw_up, lO_0, lO_n, lO_v, vO_r, vO_i, sO_0, sO_v]
  refine k_Cm_init0 (r := upR (upR (upR (upR (zR r 1) 1 0 (some 2)) 1 1 (some 10)) 1 2 (some 16)) 1 3 (some 24)) (fun x h1 h2 => by simp (disch := omega) only [upR_ne, zR_ne]; exact hr x (by omega) (by omega)) ?_
  rw [zc_t (by decide) (by decide) (by decide), zzL_t (by decide) (by decide)]
  refine step [] 600 _ _ _ _ _ _ ?_
  simp only [wq_s, wp_s, mq_iconst, mq_bipush, mq_sipush, mq_ldc0, mq_ldc1, mq_ldc_w, mq_lconst, mq_ldc2_w, mq_iload, mq_iload_n, mq_lload, mq_lload_n, mq_aload, mq_aload_n, mq_istore, mq_istore_n, mq_lstore, mq_lstore_n, mq_astore, mq_astore_n, mq_iinc, mq_iadd, mq_isub, mq_imul, mq_iand, mq_ior, mq_ixor, mq_idiv, mq_irem, mq_ineg, mq_ishl, mq_ishr, mq_iushr, mq_ladd, mq_lsub, mq_land, mq_lor, mq_lxor, mq_lshl, mq_lshr, mq_lushr, mq_i2l, mq_l2i, mq_i2b, mq_i2s, mq_lcmp, mq_dupI, mq_dupR, mq_dup2, mq_ifCond, mq_if_icmp, mq_goto, mq_nnN, mq_nnR, mq_get1, mq_get2, mq_get0, mq_get3, mq_put1, mq_put2, mq_put3, mq_put0, mq_iaload, mq_laload, mq_aald, mq_iastore, mq_lastore, mq_aastore, mq_arraylength, mq_newarray, mq_anewarray, mq_new, mq_cpI, mq_cpL, mq_abs, mq_max, mq_min, mq_is0, mq_is1, mq_iv0, mq_iv3, mq_ob, mq_ii0, mq_ii1, mq_tableswitch, mq_lookupswitch, mq_iret, mq_lret, mq_vret, hq_pI, hq_pL, hq_pR, hq_pA0, hq_pA1, hq_lk0, hq_lk1, hq_gI, hq_gIo, hq_gL, hq_gLo, hq_gA, hq_gAo, hq_rf1, hq_rf0, hq_st0_int, hq_st0_ref, hq_st0_long, hq_st1, hq_st2, hq_c0, hq_c_int, hq_c_ref, hq_c_long, hq_cS_eq, hq_cS_ne, hq_cS_lt, hq_cS_ge, hq_cS_gt, hq_cS_le, hq_isO, hq_isA, hq_inS0, hq_inS1, hq_bzI, hq_bzZ, hq_sw0, hq_sw1, hq_cat0, hq_catI, hq_catR, hq_catL, hq_en0, hq_enL, hq_enI, hq_enR, hq_hp, hq_callW, hq_rep0, hq_rep1, hq_tl1, hq_tl0, sh_all, rf_all, Nat.reduceAdd, Nat.reduceSub, Nat.reduceMul, Nat.reduceBEq, ↓reduceIte, Bool.or_false, Bool.or_true, Bool.false_or, Bool.true_or, Bool.false_eq_true, Nat.reduceLT, Nat.reduceLeDiff, Nat.reduceEqDiff, true_or, true_and, and_true, false_or, or_true, eq_self, bI_d0, bI_d1, bI_o, em_1, Classical.not_not, Nat.add_zero, forall_const, not_true_eq_false, false_implies, one_ne0, ne0_one, not_false_eq_true, tb_Wo_init, nw_zz, nw_cz, nw_up, lO_0, lO_n, lO_v, vO_r, vO_i, sO_0, sO_v]
  exact kR hK (re_Wo0 hr)
theorem re_Wo70 {r : Nat → Nat → Option Nat} (hr : ∀ x, 71 ≤ x → x < 106 → r x = rfx false x) : upR (zR (upR (upR (upR (upR (upR (zR r 71) 71 0 (some 72)) 71 1 (some 80)) 71 2 (some 86)) 71 3 (some 94)) 71 4 (some 102)) 105) 71 5 (some 105) = r := by
  funext a y
  by_cases h71 : a = 71
  · subst h71
    rw [hr 71 (by decide) (by decide)]
    by_cases y0 : y = 0
    · subst y0; rfl
    by_cases y1 : y = 1
    · subst y1; rfl
    by_cases y2 : y = 2
    · subst y2; rfl
    by_cases y3 : y = 3
    · subst y3; rfl
    by_cases y4 : y = 4
    · subst y4; rfl
    by_cases y5 : y = 5
    · subst y5; rfl
    rw [rn_71 y y0 y1 y2 y3 y4 y5]
    simp [upR, zR, y0, y1, y2, y3, y4, y5]
  by_cases h105 : a = 105
  · subst h105; rw [hr 105 (by decide) (by decide)]; rfl
  simp [upR, zR, h71, h105]
set_option maxRecDepth 100000 in
set_option maxHeartbeats 4000000 in
theorem k_Wo_init70 {I : Nat → Nat → Int32} {L : Nat → Nat → Int64} {K : KT} {r : Nat → Nat → Option Nat} (hr : ∀ x, 71 ≤ x → x < 106 → r x = rfx false x) (hK : K none (cpZ 70 5 (zzI I 72 106), zzL L 72 106, r, 106)) : Ct m_Wo_init [.ref 71] (I, L, zR r 71, 72) K := by
  rw [zz_00 I L (zR r 71) 72]
  refine in_Wo_init 72 (Nat.le_refl _) (Nat.le_of_ble_eq_true rfl) rfl (fun P step => ?_)
  refine step [] 600 _ _ _ _ _ _ ?_
  simp only [wq_s, wp_s, mq_iconst, mq_bipush, mq_sipush, mq_ldc0, mq_ldc1, mq_ldc_w, mq_lconst, mq_ldc2_w, mq_iload, mq_iload_n, mq_lload, mq_lload_n, mq_aload, mq_aload_n, mq_istore, mq_istore_n, mq_lstore, mq_lstore_n, mq_astore, mq_astore_n, mq_iinc, mq_iadd, mq_isub, mq_imul, mq_iand, mq_ior, mq_ixor, mq_idiv, mq_irem, mq_ineg, mq_ishl, mq_ishr, mq_iushr, mq_ladd, mq_lsub, mq_land, mq_lor, mq_lxor, mq_lshl, mq_lshr, mq_lushr, mq_i2l, mq_l2i, mq_i2b, mq_i2s, mq_lcmp, mq_dupI, mq_dupR, mq_dup2, mq_ifCond, mq_if_icmp, mq_goto, mq_nnN, mq_nnR, mq_get1, mq_get2, mq_get0, mq_get3, mq_put1, mq_put2, mq_put3, mq_put0, mq_iaload, mq_laload, mq_aald, mq_iastore, mq_lastore, mq_aastore, mq_arraylength, mq_newarray, mq_anewarray, mq_new, mq_cpI, mq_cpL, mq_abs, mq_max, mq_min, mq_is0, mq_is1, mq_iv0, mq_iv3, mq_ob, mq_ii0, mq_ii1, mq_tableswitch, mq_lookupswitch, mq_iret, mq_lret, mq_vret, hq_pI, hq_pL, hq_pR, hq_pA0, hq_pA1, hq_lk0, hq_lk1, hq_gI, hq_gIo, hq_gL, hq_gLo, hq_gA, hq_gAo, hq_rf1, hq_rf0, hq_st0_int, hq_st0_ref, hq_st0_long, hq_st1, hq_st2, hq_c0, hq_c_int, hq_c_ref, hq_c_long, hq_cS_eq, hq_cS_ne, hq_cS_lt, hq_cS_ge, hq_cS_gt, hq_cS_le, hq_isO, hq_isA, hq_inS0, hq_inS1, hq_bzI, hq_bzZ, hq_sw0, hq_sw1, hq_cat0, hq_catI, hq_catR, hq_catL, hq_en0, hq_enL, hq_enI, hq_enR, hq_hp, hq_callW, hq_rep0, hq_rep1, hq_tl1, hq_tl0, sh_all, rf_all, Nat.reduceAdd, Nat.reduceSub, Nat.reduceMul, Nat.reduceBEq, ↓reduceIte, Bool.or_false, Bool.or_true, Bool.false_or, Bool.true_or, Bool.false_eq_true, Nat.reduceLT, Nat.reduceLeDiff, Nat.reduceEqDiff, true_or, true_and, and_true, false_or, or_true, eq_self, bI_d0, bI_d1, bI_o, em_1, Classical.not_not, Nat.add_zero, forall_const, not_true_eq_false, false_implies, one_ne0, ne0_one, not_false_eq_true, tb_Wo_init, nw_zz, nw_cz, nw_up, lO_0, lO_n, lO_v, vO_r, vO_i, sO_0, sO_v]
  refine k_La_init70 (r := zR r 71) (fun x h1 h2 => by simp (disch := omega) only [upR_ne, zR_ne]; exact hr x (by omega) (by omega)) ?_
  rw [zzI_t (by decide) (by decide), zzL_t (by decide) (by decide)]
  refine step [] 600 _ _ _ _ _ _ ?_
  simp only [wq_s, wp_s, mq_iconst, mq_bipush, mq_sipush, mq_ldc0, mq_ldc1, mq_ldc_w, mq_lconst, mq_ldc2_w, mq_iload, mq_iload_n, mq_lload, mq_lload_n, mq_aload, mq_aload_n, mq_istore, mq_istore_n, mq_lstore, mq_lstore_n, mq_astore, mq_astore_n, mq_iinc, mq_iadd, mq_isub, mq_imul, mq_iand, mq_ior, mq_ixor, mq_idiv, mq_irem, mq_ineg, mq_ishl, mq_ishr, mq_iushr, mq_ladd, mq_lsub, mq_land, mq_lor, mq_lxor, mq_lshl, mq_lshr, mq_lushr, mq_i2l, mq_l2i, mq_i2b, mq_i2s, mq_lcmp, mq_dupI, mq_dupR, mq_dup2, mq_ifCond, mq_if_icmp, mq_goto, mq_nnN, mq_nnR, mq_get1, mq_get2, mq_get0, mq_get3, mq_put1, mq_put2, mq_put3, mq_put0, mq_iaload, mq_laload, mq_aald, mq_iastore, mq_lastore, mq_aastore, mq_arraylength, mq_newarray, mq_anewarray, mq_new, mq_cpI, mq_cpL, mq_abs, mq_max, mq_min, mq_is0, mq_is1, mq_iv0, mq_iv3, mq_ob, mq_ii0, mq_ii1, mq_tableswitch, mq_lookupswitch, mq_iret, mq_lret, mq_vret, hq_pI, hq_pL, hq_pR, hq_pA0, hq_pA1, hq_lk0, hq_lk1, hq_gI, hq_gIo, hq_gL, hq_gLo, hq_gA, hq_gAo, hq_rf1, hq_rf0, hq_st0_int, hq_st0_ref, hq_st0_long, hq_st1, hq_st2, hq_c0, hq_c_int, hq_c_ref, hq_c_long, hq_cS_eq, hq_cS_ne, hq_cS_lt, hq_cS_ge, hq_cS_gt, hq_cS_le, hq_isO, hq_isA, hq_inS0, hq_inS1, hq_bzI, hq_bzZ, hq_sw0, hq_sw1, hq_cat0, hq_catI, hq_catR, hq_catL, hq_en0, hq_enL, hq_enI, hq_enR, hq_hp, hq_callW, hq_rep0, hq_rep1, hq_tl1, hq_tl0, sh_all, rf_all, Nat.reduceAdd, Nat.reduceSub, Nat.reduceMul, Nat.reduceBEq, ↓reduceIte, Bool.or_false, Bool.or_true, Bool.false_or, Bool.true_or, Bool.false_eq_true, Nat.reduceLT, Nat.reduceLeDiff, Nat.reduceEqDiff, true_or, true_and, and_true, false_or, or_true, eq_self, bI_d0, bI_d1, bI_o, em_1, Classical.not_not, Nat.add_zero, forall_const, not_true_eq_false, false_implies, one_ne0, ne0_one, not_false_eq_true, tb_Wo_init, nw_zz, nw_cz, nw_up, lO_0, lO_n, lO_v, vO_r, vO_i, sO_0, sO_v]
  refine k_Cp_init70 (r := upR (zR r 71) 71 0 (some 72)) (fun x h1 h2 => by simp (disch := omega) only [upR_ne, zR_ne]; exact hr x (by omega) (by omega)) ?_
  rw [zzI_t (by decide) (by decide), zzL_t (by decide) (by decide)]
  refine step [] 600 _ _ _ _ _ _ ?_
  simp only [wq_s, wp_s, mq_iconst, mq_bipush, mq_sipush, mq_ldc0, mq_ldc1, mq_ldc_w, mq_lconst, mq_ldc2_w, mq_iload, mq_iload_n, mq_lload, mq_lload_n, mq_aload, mq_aload_n, mq_istore, mq_istore_n, mq_lstore, mq_lstore_n, mq_astore, mq_astore_n, mq_iinc, mq_iadd, mq_isub, mq_imul, mq_iand, mq_ior, mq_ixor, mq_idiv, mq_irem, mq_ineg, mq_ishl, mq_ishr, mq_iushr, mq_ladd, mq_lsub, mq_land, mq_lor, mq_lxor, mq_lshl, mq_lshr, mq_lushr, mq_i2l, mq_l2i, mq_i2b, mq_i2s, mq_lcmp, mq_dupI, mq_dupR, mq_dup2, mq_ifCond, mq_if_icmp, mq_goto, mq_nnN, mq_nnR, mq_get1, mq_get2, mq_get0, mq_get3, mq_put1, mq_put2, mq_put3, mq_put0, mq_iaload, mq_laload, mq_aald, mq_iastore, mq_lastore, mq_aastore, mq_arraylength, mq_newarray, mq_anewarray, mq_new, mq_cpI, mq_cpL, mq_abs, mq_max, mq_min, mq_is0, mq_is1, mq_iv0, mq_iv3, mq_ob, mq_ii0, mq_ii1, mq_tableswitch, mq_lookupswitch, mq_iret, mq_lret, mq_vret, hq_pI, hq_pL, hq_pR, hq_pA0, hq_pA1, hq_lk0, hq_lk1, hq_gI, hq_gIo, hq_gL, hq_gLo, hq_gA, hq_gAo, hq_rf1, hq_rf0, hq_st0_int, hq_st0_ref, hq_st0_long, hq_st1, hq_st2, hq_c0, hq_c_int, hq_c_ref, hq_c_long, hq_cS_eq, hq_cS_ne, hq_cS_lt, hq_cS_ge, hq_cS_gt, hq_cS_le, hq_isO, hq_isA, hq_inS0, hq_inS1, hq_bzI, hq_bzZ, hq_sw0, hq_sw1, hq_cat0, hq_catI, hq_catR, hq_catL, hq_en0, hq_enL, hq_enI, hq_enR, hq_hp, hq_callW, hq_rep0, hq_rep1, hq_tl1, hq_tl0, sh_all, rf_all, Nat.reduceAdd, Nat.reduceSub, Nat.reduceMul, Nat.reduceBEq, ↓reduceIte, Bool.or_false, Bool.or_true, Bool.false_or, Bool.true_or, Bool.false_eq_true, Nat.reduceLT, Nat.reduceLeDiff, Nat.reduceEqDiff, true_or, true_and, and_true, false_or, or_true, eq_self, bI_d0, bI_d1, bI_o, em_1, Classical.not_not, Nat.add_zero, forall_const, not_true_eq_false, false_implies, one_ne0, ne0_one, not_false_eq_true, tb_Wo_init, nw_zz, nw_cz, nw_up, lO_0, lO_n, lO_v, vO_r, vO_i, sO_0, sO_v]
  refine k_Ro_init70 (r := upR (upR (zR r 71) 71 0 (some 72)) 71 1 (some 80)) (fun x h1 h2 => by simp (disch := omega) only [upR_ne, zR_ne]; exact hr x (by omega) (by omega)) ?_
  rw [zc_t (by decide) (by decide) (by decide), zzL_t (by decide) (by decide)]
  refine step [] 600 _ _ _ _ _ _ ?_
  simp only [wq_s, wp_s, mq_iconst, mq_bipush, mq_sipush, mq_ldc0, mq_ldc1, mq_ldc_w, mq_lconst, mq_ldc2_w, mq_iload, mq_iload_n, mq_lload, mq_lload_n, mq_aload, mq_aload_n, mq_istore, mq_istore_n, mq_lstore, mq_lstore_n, mq_astore, mq_astore_n, mq_iinc, mq_iadd, mq_isub, mq_imul, mq_iand, mq_ior, mq_ixor, mq_idiv, mq_irem, mq_ineg, mq_ishl, mq_ishr, mq_iushr, mq_ladd, mq_lsub, mq_land, mq_lor, mq_lxor, mq_lshl, mq_lshr, mq_lushr, mq_i2l, mq_l2i, mq_i2b, mq_i2s, mq_lcmp, mq_dupI, mq_dupR, mq_dup2, mq_ifCond, mq_if_icmp, mq_goto, mq_nnN, mq_nnR, mq_get1, mq_get2, mq_get0, mq_get3, mq_put1, mq_put2, mq_put3, mq_put0, mq_iaload, mq_laload, mq_aald, mq_iastore, mq_lastore, mq_aastore, mq_arraylength, mq_newarray, mq_anewarray, mq_new, mq_cpI, mq_cpL, mq_abs, mq_max, mq_min, mq_is0, mq_is1, mq_iv0, mq_iv3, mq_ob, mq_ii0, mq_ii1, mq_tableswitch, mq_lookupswitch, mq_iret, mq_lret, mq_vret, hq_pI, hq_pL, hq_pR, hq_pA0, hq_pA1, hq_lk0, hq_lk1, hq_gI, hq_gIo, hq_gL, hq_gLo, hq_gA, hq_gAo, hq_rf1, hq_rf0, hq_st0_int, hq_st0_ref, hq_st0_long, hq_st1, hq_st2, hq_c0, hq_c_int, hq_c_ref, hq_c_long, hq_cS_eq, hq_cS_ne, hq_cS_lt, hq_cS_ge, hq_cS_gt, hq_cS_le, hq_isO, hq_isA, hq_inS0, hq_inS1, hq_bzI, hq_bzZ, hq_sw0, hq_sw1, hq_cat0, hq_catI, hq_catR, hq_catL, hq_en0, hq_enL, hq_enI, hq_enR, hq_hp, hq_callW, hq_rep0, hq_rep1, hq_tl1, hq_tl0, sh_all, rf_all, Nat.reduceAdd, Nat.reduceSub, Nat.reduceMul, Nat.reduceBEq, ↓reduceIte, Bool.or_false, Bool.or_true, Bool.false_or, Bool.true_or, Bool.false_eq_true, Nat.reduceLT, Nat.reduceLeDiff, Nat.reduceEqDiff, true_or, true_and, and_true, false_or, or_true, eq_self, bI_d0, bI_d1, bI_o, em_1, Classical.not_not, Nat.add_zero, forall_const, not_true_eq_false, false_implies, one_ne0, ne0_one, not_false_eq_true, tb_Wo_init, nw_zz, nw_cz, nw_up, lO_0, lO_n, lO_v, vO_r, vO_i, sO_0, sO_v]
  refine k_Lw_init70 (r := upR (upR (upR (zR r 71) 71 0 (some 72)) 71 1 (some 80)) 71 2 (some 86)) (fun x h1 h2 => by simp (disch := omega) only [upR_ne, zR_ne]; exact hr x (by omega) (by omega)) ?_
  rw [zc_t (by decide) (by decide) (by decide), zzL_t (by decide) (by decide)]
  refine step [] 600 _ _ _ _ _ _ ?_
  simp only [wq_s, wp_s, mq_iconst, mq_bipush, mq_sipush, mq_ldc0, mq_ldc1, mq_ldc_w, mq_lconst, mq_ldc2_w, mq_iload, mq_iload_n, mq_lload, mq_lload_n, mq_aload, mq_aload_n, mq_istore, mq_istore_n, mq_lstore, mq_lstore_n, mq_astore, mq_astore_n, mq_iinc, mq_iadd, mq_isub, mq_imul, mq_iand, mq_ior, mq_ixor, mq_idiv, mq_irem, mq_ineg, mq_ishl, mq_ishr, mq_iushr, mq_ladd, mq_lsub, mq_land, mq_lor, mq_lxor, mq_lshl, mq_lshr, mq_lushr, mq_i2l, mq_l2i, mq_i2b, mq_i2s, mq_lcmp, mq_dupI, mq_dupR, mq_dup2, mq_ifCond, mq_if_icmp, mq_goto, mq_nnN, mq_nnR, mq_get1, mq_get2, mq_get0, mq_get3, mq_put1, mq_put2, mq_put3, mq_put0, mq_iaload, mq_laload, mq_aald, mq_iastore, mq_lastore, mq_aastore, mq_arraylength, mq_newarray, mq_anewarray, mq_new, mq_cpI, mq_cpL, mq_abs, mq_max, mq_min, mq_is0, mq_is1, mq_iv0, mq_iv3, mq_ob, mq_ii0, mq_ii1, mq_tableswitch, mq_lookupswitch, mq_iret, mq_lret, mq_vret, hq_pI, hq_pL, hq_pR, hq_pA0, hq_pA1, hq_lk0, hq_lk1, hq_gI, hq_gIo, hq_gL, hq_gLo, hq_gA, hq_gAo, hq_rf1, hq_rf0, hq_st0_int, hq_st0_ref, hq_st0_long, hq_st1, hq_st2, hq_c0, hq_c_int, hq_c_ref, hq_c_long, hq_cS_eq, hq_cS_ne, hq_cS_lt, hq_cS_ge, hq_cS_gt, hq_cS_le, hq_isO, hq_isA, hq_inS0, hq_inS1, hq_bzI, hq_bzZ, hq_sw0, hq_sw1, hq_cat0, hq_catI, hq_catR, hq_catL, hq_en0, hq_enL, hq_enI, hq_enR, hq_hp, hq_callW, hq_rep0, hq_rep1, hq_tl1, hq_tl0, sh_all, rf_all, Nat.reduceAdd, Nat.reduceSub, Nat.reduceMul, Nat.reduceBEq, ↓reduceIte, Bool.or_false, Bool.or_true, Bool.false_or, Bool.true_or, Bool.false_eq_true, Nat.reduceLT, Nat.reduceLeDiff, Nat.reduceEqDiff, true_or, true_and, and_true, false_or, or_true, eq_self, bI_d0, bI_d1, bI_o, em_1, Classical.not_not, Nat.add_zero, forall_const, not_true_eq_false, false_implies, one_ne0, ne0_one, not_false_eq_true, tb_Wo_init, nw_zz, nw_cz, nw_up, lO_0, lO_n, lO_v, vO_r, vO_i, sO_0, sO_v]
  refine k_Cm_init70 (r := upR (upR (upR (upR (zR r 71) 71 0 (some 72)) 71 1 (some 80)) 71 2 (some 86)) 71 3 (some 94)) (fun x h1 h2 => by simp (disch := omega) only [upR_ne, zR_ne]; exact hr x (by omega) (by omega)) ?_
  rw [zc_t (by decide) (by decide) (by decide), zzL_t (by decide) (by decide)]
  refine step [] 600 _ _ _ _ _ _ ?_
  simp only [wq_s, wp_s, mq_iconst, mq_bipush, mq_sipush, mq_ldc0, mq_ldc1, mq_ldc_w, mq_lconst, mq_ldc2_w, mq_iload, mq_iload_n, mq_lload, mq_lload_n, mq_aload, mq_aload_n, mq_istore, mq_istore_n, mq_lstore, mq_lstore_n, mq_astore, mq_astore_n, mq_iinc, mq_iadd, mq_isub, mq_imul, mq_iand, mq_ior, mq_ixor, mq_idiv, mq_irem, mq_ineg, mq_ishl, mq_ishr, mq_iushr, mq_ladd, mq_lsub, mq_land, mq_lor, mq_lxor, mq_lshl, mq_lshr, mq_lushr, mq_i2l, mq_l2i, mq_i2b, mq_i2s, mq_lcmp, mq_dupI, mq_dupR, mq_dup2, mq_ifCond, mq_if_icmp, mq_goto, mq_nnN, mq_nnR, mq_get1, mq_get2, mq_get0, mq_get3, mq_put1, mq_put2, mq_put3, mq_put0, mq_iaload, mq_laload, mq_aald, mq_iastore, mq_lastore, mq_aastore, mq_arraylength, mq_newarray, mq_anewarray, mq_new, mq_cpI, mq_cpL, mq_abs, mq_max, mq_min, mq_is0, mq_is1, mq_iv0, mq_iv3, mq_ob, mq_ii0, mq_ii1, mq_tableswitch, mq_lookupswitch, mq_iret, mq_lret, mq_vret, hq_pI, hq_pL, hq_pR, hq_pA0, hq_pA1, hq_lk0, hq_lk1, hq_gI, hq_gIo, hq_gL, hq_gLo, hq_gA, hq_gAo, hq_rf1, hq_rf0, hq_st0_int, hq_st0_ref, hq_st0_long, hq_st1, hq_st2, hq_c0, hq_c_int, hq_c_ref, hq_c_long, hq_cS_eq, hq_cS_ne, hq_cS_lt, hq_cS_ge, hq_cS_gt, hq_cS_le, hq_isO, hq_isA, hq_inS0, hq_inS1, hq_bzI, hq_bzZ, hq_sw0, hq_sw1, hq_cat0, hq_catI, hq_catR, hq_catL, hq_en0, hq_enL, hq_enI, hq_enR, hq_hp, hq_callW, hq_rep0, hq_rep1, hq_tl1, hq_tl0, sh_all, rf_all, Nat.reduceAdd, Nat.reduceSub, Nat.reduceMul, Nat.reduceBEq, ↓reduceIte, Bool.or_false, Bool.or_true, Bool.false_or, Bool.true_or, Bool.false_eq_true, Nat.reduceLT, Nat.reduceLeDiff, Nat.reduceEqDiff, true_or, true_and, and_true, false_or, or_true, eq_self, bI_d0, bI_d1, bI_o, em_1, Classical.not_not, Nat.add_zero, forall_const, not_true_eq_false, false_implies, one_ne0, ne0_one, not_false_eq_true, tb_Wo_init, nw_zz, nw_cz, nw_up, lO_0, lO_n, lO_v, vO_r, vO_i, sO_0, sO_v]
  exact kR hK (re_Wo70 hr)
theorem re_Rh {r : Nat → Nat → Option Nat} (hr : ∀ x, 0 ≤ x → x < 57 → r x = rfx false x) : upR (upR (upR (upR (upR (zR (upR (zR (upR (upR (upR (upR (zR r 0) 0 0 (some 1)) 0 1 (some 36)) 0 2 (some 38)) 0 3 (some 44)) 47) 0 4 (some 47)) 48) 0 5 (some 48)) 47 0 (some 49)) 47 1 (some 51)) 47 2 (some 53)) 47 3 (some 55) = r := by
  funext a y
  by_cases h0 : a = 0
  · subst h0
    rw [hr 0 (by decide) (by decide)]
    by_cases y0 : y = 0
    · subst y0; rfl
    by_cases y1 : y = 1
    · subst y1; rfl
    by_cases y2 : y = 2
    · subst y2; rfl
    by_cases y3 : y = 3
    · subst y3; rfl
    by_cases y4 : y = 4
    · subst y4; rfl
    by_cases y5 : y = 5
    · subst y5; rfl
    rw [rn_0 y y0 y1 y2 y3 y4 y5]
    simp [upR, zR, y0, y1, y2, y3, y4, y5]
  by_cases h47 : a = 47
  · subst h47
    rw [hr 47 (by decide) (by decide)]
    by_cases y0 : y = 0
    · subst y0; rfl
    by_cases y1 : y = 1
    · subst y1; rfl
    by_cases y2 : y = 2
    · subst y2; rfl
    by_cases y3 : y = 3
    · subst y3; rfl
    rw [rn_47 y y0 y1 y2 y3]
    simp [upR, zR, y0, y1, y2, y3]
  by_cases h48 : a = 48
  · subst h48; rw [hr 48 (by decide) (by decide)]; rfl
  simp [upR, zR, h0, h47, h48]
theorem ii_1 : (0 : Int32) + 1 = 1 := nr rfl
theorem ii_2 : (1 : Int32) + 1 = 2 := nr rfl
theorem ii_3 : (2 : Int32) + 1 = 3 := nr rfl
theorem ii_4 : (3 : Int32) + 1 = 4 := nr rfl
theorem ic_0 : (0 : Int32).toNatClampNeg = 0 := nr rfl
theorem ic_1 : (1 : Int32).toNatClampNeg = 1 := nr rfl
theorem ic_2 : (2 : Int32).toNatClampNeg = 2 := nr rfl
theorem ic_3 : (3 : Int32).toNatClampNeg = 3 := nr rfl
theorem iv_0 : vp_in (0 : Int32) 4 = True := eq_true (vp_in_nI (n := 0) (by decide) (by decide))
theorem iv_1 : vp_in (1 : Int32) 4 = True := eq_true (vp_in_nI (n := 1) (by decide) (by decide))
theorem iv_2 : vp_in (2 : Int32) 4 = True := eq_true (vp_in_nI (n := 2) (by decide) (by decide))
theorem iv_3 : vp_in (3 : Int32) 4 = True := eq_true (vp_in_nI (n := 3) (by decide) (by decide))
theorem il_0 : ((4 : Int32) ≤ 0) = False := eq_false (by decide)
theorem il_1 : ((4 : Int32) ≤ 1) = False := eq_false (by decide)
theorem il_2 : ((4 : Int32) ≤ 2) = False := eq_false (by decide)
theorem il_3 : ((4 : Int32) ≤ 3) = False := eq_false (by decide)
theorem il_4 : ((4 : Int32) ≤ 4) = True := eq_true (by decide)
set_option maxRecDepth 100000 in
set_option maxHeartbeats 4000000 in
theorem k_Rh_init {I : Nat → Nat → Int32} {L : Nat → Nat → Int64} {K : KT} {r : Nat → Nat → Option Nat} (hr : ∀ x, 0 ≤ x → x < 57 → r x = rfx false x) (hK : K none (cpZ 0 5 (zzI I 1 57), zzL L 1 57, r, 57)) : Ct m_Rh_init [.ref 0] (I, L, zR r 0, 1) K := by
  rw [zz_00 I L (zR r 0) 1]
  refine in_Rh_init 1 (Nat.le_refl _) (Nat.le_of_ble_eq_true rfl) rfl (fun P step => ?_)
  refine step [66] 600 _ _ _ _ _ _ ?_
  simp only [wq_s, wp_s, mq_iconst, mq_bipush, mq_sipush, mq_ldc0, mq_ldc1, mq_ldc_w, mq_lconst, mq_ldc2_w, mq_iload, mq_iload_n, mq_lload, mq_lload_n, mq_aload, mq_aload_n, mq_istore, mq_istore_n, mq_lstore, mq_lstore_n, mq_astore, mq_astore_n, mq_iinc, mq_iadd, mq_isub, mq_imul, mq_iand, mq_ior, mq_ixor, mq_idiv, mq_irem, mq_ineg, mq_ishl, mq_ishr, mq_iushr, mq_ladd, mq_lsub, mq_land, mq_lor, mq_lxor, mq_lshl, mq_lshr, mq_lushr, mq_i2l, mq_l2i, mq_i2b, mq_i2s, mq_lcmp, mq_dupI, mq_dupR, mq_dup2, mq_ifCond, mq_if_icmp, mq_goto, mq_nnN, mq_nnR, mq_get1, mq_get2, mq_get0, mq_get3, mq_put1, mq_put2, mq_put3, mq_put0, mq_iaload, mq_laload, mq_aald, mq_iastore, mq_lastore, mq_aastore, mq_arraylength, mq_newarray, mq_anewarray, mq_new, mq_cpI, mq_cpL, mq_abs, mq_max, mq_min, mq_is0, mq_is1, mq_iv0, mq_iv3, mq_ob, mq_ii0, mq_ii1, mq_tableswitch, mq_lookupswitch, mq_iret, mq_lret, mq_vret, hq_pI, hq_pL, hq_pR, hq_pA0, hq_pA1, hq_lk0, hq_lk1, hq_gI, hq_gIo, hq_gL, hq_gLo, hq_gA, hq_gAo, hq_rf1, hq_rf0, hq_st0_int, hq_st0_ref, hq_st0_long, hq_st1, hq_st2, hq_c0, hq_c_int, hq_c_ref, hq_c_long, hq_cS_eq, hq_cS_ne, hq_cS_lt, hq_cS_ge, hq_cS_gt, hq_cS_le, hq_isO, hq_isA, hq_inS0, hq_inS1, hq_bzI, hq_bzZ, hq_sw0, hq_sw1, hq_cat0, hq_catI, hq_catR, hq_catL, hq_en0, hq_enL, hq_enI, hq_enR, hq_hp, hq_callW, hq_rep0, hq_rep1, hq_tl1, hq_tl0, sh_all, rf_all, Nat.reduceAdd, Nat.reduceSub, Nat.reduceMul, Nat.reduceBEq, ↓reduceIte, Bool.or_false, Bool.or_true, Bool.false_or, Bool.true_or, Bool.false_eq_true, Nat.reduceLT, Nat.reduceLeDiff, Nat.reduceEqDiff, true_or, true_and, and_true, false_or, or_true, eq_self, bI_d0, bI_d1, bI_o, em_1, Classical.not_not, Nat.add_zero, forall_const, not_true_eq_false, false_implies, one_ne0, ne0_one, not_false_eq_true, tb_Rh_init, nw_zz, nw_cz, nw_up, lO_0, lO_n, lO_v, vO_r, vO_i, sO_0, sO_v]
  refine k_Wo_init0 (r := zR r 0) (fun x h1 h2 => by simp (disch := omega) only [upR_ne, zR_ne]; exact hr x (by omega) (by omega)) ?_
  rw [zzI_t (by decide) (by decide), zzL_t (by decide) (by decide)]
  refine step [66] 600 _ _ _ _ _ _ ?_
  simp only [wq_s, wp_s, mq_iconst, mq_bipush, mq_sipush, mq_ldc0, mq_ldc1, mq_ldc_w, mq_lconst, mq_ldc2_w, mq_iload, mq_iload_n, mq_lload, mq_lload_n, mq_aload, mq_aload_n, mq_istore, mq_istore_n, mq_lstore, mq_lstore_n, mq_astore, mq_astore_n, mq_iinc, mq_iadd, mq_isub, mq_imul, mq_iand, mq_ior, mq_ixor, mq_idiv, mq_irem, mq_ineg, mq_ishl, mq_ishr, mq_iushr, mq_ladd, mq_lsub, mq_land, mq_lor, mq_lxor, mq_lshl, mq_lshr, mq_lushr, mq_i2l, mq_l2i, mq_i2b, mq_i2s, mq_lcmp, mq_dupI, mq_dupR, mq_dup2, mq_ifCond, mq_if_icmp, mq_goto, mq_nnN, mq_nnR, mq_get1, mq_get2, mq_get0, mq_get3, mq_put1, mq_put2, mq_put3, mq_put0, mq_iaload, mq_laload, mq_aald, mq_iastore, mq_lastore, mq_aastore, mq_arraylength, mq_newarray, mq_anewarray, mq_new, mq_cpI, mq_cpL, mq_abs, mq_max, mq_min, mq_is0, mq_is1, mq_iv0, mq_iv3, mq_ob, mq_ii0, mq_ii1, mq_tableswitch, mq_lookupswitch, mq_iret, mq_lret, mq_vret, hq_pI, hq_pL, hq_pR, hq_pA0, hq_pA1, hq_lk0, hq_lk1, hq_gI, hq_gIo, hq_gL, hq_gLo, hq_gA, hq_gAo, hq_rf1, hq_rf0, hq_st0_int, hq_st0_ref, hq_st0_long, hq_st1, hq_st2, hq_c0, hq_c_int, hq_c_ref, hq_c_long, hq_cS_eq, hq_cS_ne, hq_cS_lt, hq_cS_ge, hq_cS_gt, hq_cS_le, hq_isO, hq_isA, hq_inS0, hq_inS1, hq_bzI, hq_bzZ, hq_sw0, hq_sw1, hq_cat0, hq_catI, hq_catR, hq_catL, hq_en0, hq_enL, hq_enI, hq_enR, hq_hp, hq_callW, hq_rep0, hq_rep1, hq_tl1, hq_tl0, sh_all, rf_all, Nat.reduceAdd, Nat.reduceSub, Nat.reduceMul, Nat.reduceBEq, ↓reduceIte, Bool.or_false, Bool.or_true, Bool.false_or, Bool.true_or, Bool.false_eq_true, Nat.reduceLT, Nat.reduceLeDiff, Nat.reduceEqDiff, true_or, true_and, and_true, false_or, or_true, eq_self, bI_d0, bI_d1, bI_o, em_1, Classical.not_not, Nat.add_zero, forall_const, not_true_eq_false, false_implies, one_ne0, ne0_one, not_false_eq_true, tb_Rh_init, nw_zz, nw_cz, nw_up, lO_0, lO_n, lO_v, vO_r, vO_i, sO_0, sO_v]
  refine k_Rd_init (r := upR (zR r 0) 0 0 (some 1)) (fun x h1 h2 => by simp (disch := omega) only [upR_ne, zR_ne]; exact hr x (by omega) (by omega)) ?_
  rw [zc_t (by decide) (by decide) (by decide), zzL_t (by decide) (by decide)]
  refine step [66] 600 _ _ _ _ _ _ ?_
  simp only [wq_s, wp_s, mq_iconst, mq_bipush, mq_sipush, mq_ldc0, mq_ldc1, mq_ldc_w, mq_lconst, mq_ldc2_w, mq_iload, mq_iload_n, mq_lload, mq_lload_n, mq_aload, mq_aload_n, mq_istore, mq_istore_n, mq_lstore, mq_lstore_n, mq_astore, mq_astore_n, mq_iinc, mq_iadd, mq_isub, mq_imul, mq_iand, mq_ior, mq_ixor, mq_idiv, mq_irem, mq_ineg, mq_ishl, mq_ishr, mq_iushr, mq_ladd, mq_lsub, mq_land, mq_lor, mq_lxor, mq_lshl, mq_lshr, mq_lushr, mq_i2l, mq_l2i, mq_i2b, mq_i2s, mq_lcmp, mq_dupI, mq_dupR, mq_dup2, mq_ifCond, mq_if_icmp, mq_goto, mq_nnN, mq_nnR, mq_get1, mq_get2, mq_get0, mq_get3, mq_put1, mq_put2, mq_put3, mq_put0, mq_iaload, mq_laload, mq_aald, mq_iastore, mq_lastore, mq_aastore, mq_arraylength, mq_newarray, mq_anewarray, mq_new, mq_cpI, mq_cpL, mq_abs, mq_max, mq_min, mq_is0, mq_is1, mq_iv0, mq_iv3, mq_ob, mq_ii0, mq_ii1, mq_tableswitch, mq_lookupswitch, mq_iret, mq_lret, mq_vret, hq_pI, hq_pL, hq_pR, hq_pA0, hq_pA1, hq_lk0, hq_lk1, hq_gI, hq_gIo, hq_gL, hq_gLo, hq_gA, hq_gAo, hq_rf1, hq_rf0, hq_st0_int, hq_st0_ref, hq_st0_long, hq_st1, hq_st2, hq_c0, hq_c_int, hq_c_ref, hq_c_long, hq_cS_eq, hq_cS_ne, hq_cS_lt, hq_cS_ge, hq_cS_gt, hq_cS_le, hq_isO, hq_isA, hq_inS0, hq_inS1, hq_bzI, hq_bzZ, hq_sw0, hq_sw1, hq_cat0, hq_catI, hq_catR, hq_catL, hq_en0, hq_enL, hq_enI, hq_enR, hq_hp, hq_callW, hq_rep0, hq_rep1, hq_tl1, hq_tl0, sh_all, rf_all, Nat.reduceAdd, Nat.reduceSub, Nat.reduceMul, Nat.reduceBEq, ↓reduceIte, Bool.or_false, Bool.or_true, Bool.false_or, Bool.true_or, Bool.false_eq_true, Nat.reduceLT, Nat.reduceLeDiff, Nat.reduceEqDiff, true_or, true_and, and_true, false_or, or_true, eq_self, bI_d0, bI_d1, bI_o, em_1, Classical.not_not, Nat.add_zero, forall_const, not_true_eq_false, false_implies, one_ne0, ne0_one, not_false_eq_true, tb_Rh_init, nw_zz, nw_cz, nw_up, lO_0, lO_n, lO_v, vO_r, vO_i, sO_0, sO_v]
  refine k_Tr_init (r := upR (upR (zR r 0) 0 0 (some 1)) 0 1 (some 36)) (fun x h1 h2 => by simp (disch := omega) only [upR_ne, zR_ne]; exact hr x (by omega) (by omega)) ?_
  rw [zc_t (by decide) (by decide) (by decide), zzL_t (by decide) (by decide)]
  refine step [66] 600 _ _ _ _ _ _ ?_
  simp only [wq_s, wp_s, mq_iconst, mq_bipush, mq_sipush, mq_ldc0, mq_ldc1, mq_ldc_w, mq_lconst, mq_ldc2_w, mq_iload, mq_iload_n, mq_lload, mq_lload_n, mq_aload, mq_aload_n, mq_istore, mq_istore_n, mq_lstore, mq_lstore_n, mq_astore, mq_astore_n, mq_iinc, mq_iadd, mq_isub, mq_imul, mq_iand, mq_ior, mq_ixor, mq_idiv, mq_irem, mq_ineg, mq_ishl, mq_ishr, mq_iushr, mq_ladd, mq_lsub, mq_land, mq_lor, mq_lxor, mq_lshl, mq_lshr, mq_lushr, mq_i2l, mq_l2i, mq_i2b, mq_i2s, mq_lcmp, mq_dupI, mq_dupR, mq_dup2, mq_ifCond, mq_if_icmp, mq_goto, mq_nnN, mq_nnR, mq_get1, mq_get2, mq_get0, mq_get3, mq_put1, mq_put2, mq_put3, mq_put0, mq_iaload, mq_laload, mq_aald, mq_iastore, mq_lastore, mq_aastore, mq_arraylength, mq_newarray, mq_anewarray, mq_new, mq_cpI, mq_cpL, mq_abs, mq_max, mq_min, mq_is0, mq_is1, mq_iv0, mq_iv3, mq_ob, mq_ii0, mq_ii1, mq_tableswitch, mq_lookupswitch, mq_iret, mq_lret, mq_vret, hq_pI, hq_pL, hq_pR, hq_pA0, hq_pA1, hq_lk0, hq_lk1, hq_gI, hq_gIo, hq_gL, hq_gLo, hq_gA, hq_gAo, hq_rf1, hq_rf0, hq_st0_int, hq_st0_ref, hq_st0_long, hq_st1, hq_st2, hq_c0, hq_c_int, hq_c_ref, hq_c_long, hq_cS_eq, hq_cS_ne, hq_cS_lt, hq_cS_ge, hq_cS_gt, hq_cS_le, hq_isO, hq_isA, hq_inS0, hq_inS1, hq_bzI, hq_bzZ, hq_sw0, hq_sw1, hq_cat0, hq_catI, hq_catR, hq_catL, hq_en0, hq_enL, hq_enI, hq_enR, hq_hp, hq_callW, hq_rep0, hq_rep1, hq_tl1, hq_tl0, sh_all, rf_all, Nat.reduceAdd, Nat.reduceSub, Nat.reduceMul, Nat.reduceBEq, ↓reduceIte, Bool.or_false, Bool.or_true, Bool.false_or, Bool.true_or, Bool.false_eq_true, Nat.reduceLT, Nat.reduceLeDiff, Nat.reduceEqDiff, true_or, true_and, and_true, false_or, or_true, eq_self, bI_d0, bI_d1, bI_o, em_1, Classical.not_not, Nat.add_zero, forall_const, not_true_eq_false, false_implies, one_ne0, ne0_one, not_false_eq_true, tb_Rh_init, nw_zz, nw_cz, nw_up, lO_0, lO_n, lO_v, vO_r, vO_i, sO_0, sO_v]
  refine k_To_init (r := upR (upR (upR (zR r 0) 0 0 (some 1)) 0 1 (some 36)) 0 2 (some 38)) (fun x h1 h2 => by simp (disch := omega) only [upR_ne, zR_ne]; exact hr x (by omega) (by omega)) ?_
  rw [zc_t (by decide) (by decide) (by decide), zzL_t (by decide) (by decide)]
  refine step [66] 600 _ _ _ _ _ _ ?_
  simp only [wq_s, wp_s, mq_iconst, mq_bipush, mq_sipush, mq_ldc0, mq_ldc1, mq_ldc_w, mq_lconst, mq_ldc2_w, mq_iload, mq_iload_n, mq_lload, mq_lload_n, mq_aload, mq_aload_n, mq_istore, mq_istore_n, mq_lstore, mq_lstore_n, mq_astore, mq_astore_n, mq_iinc, mq_iadd, mq_isub, mq_imul, mq_iand, mq_ior, mq_ixor, mq_idiv, mq_irem, mq_ineg, mq_ishl, mq_ishr, mq_iushr, mq_ladd, mq_lsub, mq_land, mq_lor, mq_lxor, mq_lshl, mq_lshr, mq_lushr, mq_i2l, mq_l2i, mq_i2b, mq_i2s, mq_lcmp, mq_dupI, mq_dupR, mq_dup2, mq_ifCond, mq_if_icmp, mq_goto, mq_nnN, mq_nnR, mq_get1, mq_get2, mq_get0, mq_get3, mq_put1, mq_put2, mq_put3, mq_put0, mq_iaload, mq_laload, mq_aald, mq_iastore, mq_lastore, mq_aastore, mq_arraylength, mq_newarray, mq_anewarray, mq_new, mq_cpI, mq_cpL, mq_abs, mq_max, mq_min, mq_is0, mq_is1, mq_iv0, mq_iv3, mq_ob, mq_ii0, mq_ii1, mq_tableswitch, mq_lookupswitch, mq_iret, mq_lret, mq_vret, hq_pI, hq_pL, hq_pR, hq_pA0, hq_pA1, hq_lk0, hq_lk1, hq_gI, hq_gIo, hq_gL, hq_gLo, hq_gA, hq_gAo, hq_rf1, hq_rf0, hq_st0_int, hq_st0_ref, hq_st0_long, hq_st1, hq_st2, hq_c0, hq_c_int, hq_c_ref, hq_c_long, hq_cS_eq, hq_cS_ne, hq_cS_lt, hq_cS_ge, hq_cS_gt, hq_cS_le, hq_isO, hq_isA, hq_inS0, hq_inS1, hq_bzI, hq_bzZ, hq_sw0, hq_sw1, hq_cat0, hq_catI, hq_catR, hq_catL, hq_en0, hq_enL, hq_enI, hq_enR, hq_hp, hq_callW, hq_rep0, hq_rep1, hq_tl1, hq_tl0, sh_all, rf_all, Nat.reduceAdd, Nat.reduceSub, Nat.reduceMul, Nat.reduceBEq, ↓reduceIte, Bool.or_false, Bool.or_true, Bool.false_or, Bool.true_or, Bool.false_eq_true, Nat.reduceLT, Nat.reduceLeDiff, Nat.reduceEqDiff, true_or, true_and, and_true, false_or, or_true, eq_self, bI_d0, bI_d1, bI_o, em_1, Classical.not_not, Nat.add_zero, forall_const, not_true_eq_false, false_implies, one_ne0, ne0_one, not_false_eq_true, tb_Rh_init, nw_zz, nw_cz, nw_up, lO_0, lO_n, lO_v, vO_r, vO_i, sO_0, sO_v]
  have g0 : (upR (zR (upR (zR (upR (upR (upR (upR (zR r 0) 0 0 (some 1)) 0 1 (some 36)) 0 2 (some 38)) 0 3 (some 44)) 47) 0 4 (some 47)) 48) 0 5 (some 48)) 0 4 = some 47 := rfl
  refine step [66] 600 _ _ _ _ _ _ ?_
  simp only [wq_s, wp_s, mq_iconst, mq_bipush, mq_sipush, mq_ldc0, mq_ldc1, mq_ldc_w, mq_lconst, mq_ldc2_w, mq_iload, mq_iload_n, mq_lload, mq_lload_n, mq_aload, mq_aload_n, mq_istore, mq_istore_n, mq_lstore, mq_lstore_n, mq_astore, mq_astore_n, mq_iinc, mq_iadd, mq_isub, mq_imul, mq_iand, mq_ior, mq_ixor, mq_idiv, mq_irem, mq_ineg, mq_ishl, mq_ishr, mq_iushr, mq_ladd, mq_lsub, mq_land, mq_lor, mq_lxor, mq_lshl, mq_lshr, mq_lushr, mq_i2l, mq_l2i, mq_i2b, mq_i2s, mq_lcmp, mq_dupI, mq_dupR, mq_dup2, mq_ifCond, mq_if_icmp, mq_goto, mq_nnN, mq_nnR, mq_get1, mq_get2, mq_get0, mq_get3, mq_put1, mq_put2, mq_put3, mq_put0, mq_iaload, mq_laload, mq_aald, mq_iastore, mq_lastore, mq_aastore, mq_arraylength, mq_newarray, mq_anewarray, mq_new, mq_cpI, mq_cpL, mq_abs, mq_max, mq_min, mq_is0, mq_is1, mq_iv0, mq_iv3, mq_ob, mq_ii0, mq_ii1, mq_tableswitch, mq_lookupswitch, mq_iret, mq_lret, mq_vret, hq_pI, hq_pL, hq_pR, hq_pA0, hq_pA1, hq_lk0, hq_lk1, hq_gI, hq_gIo, hq_gL, hq_gLo, hq_gA, hq_gAo, hq_rf1, hq_rf0, hq_st0_int, hq_st0_ref, hq_st0_long, hq_st1, hq_st2, hq_c0, hq_c_int, hq_c_ref, hq_c_long, hq_cS_eq, hq_cS_ne, hq_cS_lt, hq_cS_ge, hq_cS_gt, hq_cS_le, hq_isO, hq_isA, hq_inS0, hq_inS1, hq_bzI, hq_bzZ, hq_sw0, hq_sw1, hq_cat0, hq_catI, hq_catR, hq_catL, hq_en0, hq_enL, hq_enI, hq_enR, hq_hp, hq_callW, hq_rep0, hq_rep1, hq_tl1, hq_tl0, sh_all, rf_all, Nat.reduceAdd, Nat.reduceSub, Nat.reduceMul, Nat.reduceBEq, ↓reduceIte, Bool.or_false, Bool.or_true, Bool.false_or, Bool.true_or, Bool.false_eq_true, Nat.reduceLT, Nat.reduceLeDiff, Nat.reduceEqDiff, true_or, true_and, and_true, false_or, or_true, eq_self, bI_d0, bI_d1, bI_o, em_1, Classical.not_not, Nat.add_zero, forall_const, not_true_eq_false, false_implies, one_ne0, ne0_one, not_false_eq_true, tb_Rh_init, nw_zz, nw_cz, nw_up, lO_0, lO_n, lO_v, vO_r, vO_i, sO_0, sO_v, ii_1, ii_2, ii_3, ii_4, ic_0, ic_1, ic_2, ic_3, iv_0, iv_1, iv_2, iv_3, il_0, il_1, il_2, il_3, il_4, not_true_eq_false, not_false_eq_true, false_implies, true_implies, and_true, true_and, g0]
  refine k_Sh_init0 (r := upR (zR (upR (zR (upR (upR (upR (upR (zR r 0) 0 0 (some 1)) 0 1 (some 36)) 0 2 (some 38)) 0 3 (some 44)) 47) 0 4 (some 47)) 48) 0 5 (some 48)) (fun x h1 h2 => by simp (disch := omega) only [upR_ne, zR_ne]; exact hr x (by omega) (by omega)) ?_
  rw [zc_t (by decide) (by decide) (by decide), zzL_t (by decide) (by decide)]
  refine step [66] 600 _ _ _ _ _ _ ?_
  simp only [wq_s, wp_s, mq_iconst, mq_bipush, mq_sipush, mq_ldc0, mq_ldc1, mq_ldc_w, mq_lconst, mq_ldc2_w, mq_iload, mq_iload_n, mq_lload, mq_lload_n, mq_aload, mq_aload_n, mq_istore, mq_istore_n, mq_lstore, mq_lstore_n, mq_astore, mq_astore_n, mq_iinc, mq_iadd, mq_isub, mq_imul, mq_iand, mq_ior, mq_ixor, mq_idiv, mq_irem, mq_ineg, mq_ishl, mq_ishr, mq_iushr, mq_ladd, mq_lsub, mq_land, mq_lor, mq_lxor, mq_lshl, mq_lshr, mq_lushr, mq_i2l, mq_l2i, mq_i2b, mq_i2s, mq_lcmp, mq_dupI, mq_dupR, mq_dup2, mq_ifCond, mq_if_icmp, mq_goto, mq_nnN, mq_nnR, mq_get1, mq_get2, mq_get0, mq_get3, mq_put1, mq_put2, mq_put3, mq_put0, mq_iaload, mq_laload, mq_aald, mq_iastore, mq_lastore, mq_aastore, mq_arraylength, mq_newarray, mq_anewarray, mq_new, mq_cpI, mq_cpL, mq_abs, mq_max, mq_min, mq_is0, mq_is1, mq_iv0, mq_iv3, mq_ob, mq_ii0, mq_ii1, mq_tableswitch, mq_lookupswitch, mq_iret, mq_lret, mq_vret, hq_pI, hq_pL, hq_pR, hq_pA0, hq_pA1, hq_lk0, hq_lk1, hq_gI, hq_gIo, hq_gL, hq_gLo, hq_gA, hq_gAo, hq_rf1, hq_rf0, hq_st0_int, hq_st0_ref, hq_st0_long, hq_st1, hq_st2, hq_c0, hq_c_int, hq_c_ref, hq_c_long, hq_cS_eq, hq_cS_ne, hq_cS_lt, hq_cS_ge, hq_cS_gt, hq_cS_le, hq_isO, hq_isA, hq_inS0, hq_inS1, hq_bzI, hq_bzZ, hq_sw0, hq_sw1, hq_cat0, hq_catI, hq_catR, hq_catL, hq_en0, hq_enL, hq_enI, hq_enR, hq_hp, hq_callW, hq_rep0, hq_rep1, hq_tl1, hq_tl0, sh_all, rf_all, Nat.reduceAdd, Nat.reduceSub, Nat.reduceMul, Nat.reduceBEq, ↓reduceIte, Bool.or_false, Bool.or_true, Bool.false_or, Bool.true_or, Bool.false_eq_true, Nat.reduceLT, Nat.reduceLeDiff, Nat.reduceEqDiff, true_or, true_and, and_true, false_or, or_true, eq_self, bI_d0, bI_d1, bI_o, em_1, Classical.not_not, Nat.add_zero, forall_const, not_true_eq_false, false_implies, one_ne0, ne0_one, not_false_eq_true, tb_Rh_init, nw_zz, nw_cz, nw_up, lO_0, lO_n, lO_v, vO_r, vO_i, sO_0, sO_v, ii_1, ii_2, ii_3, ii_4, ic_0, ic_1, ic_2, ic_3, iv_0, iv_1, iv_2, iv_3, il_0, il_1, il_2, il_3, il_4, not_true_eq_false, not_false_eq_true, false_implies, true_implies, and_true, true_and]
  have g1 : (upR (upR (zR (upR (zR (upR (upR (upR (upR (zR r 0) 0 0 (some 1)) 0 1 (some 36)) 0 2 (some 38)) 0 3 (some 44)) 47) 0 4 (some 47)) 48) 0 5 (some 48)) 47 0 (some 49)) 0 4 = some 47 := rfl
  refine step [66] 600 _ _ _ _ _ _ ?_
  simp only [wq_s, wp_s, mq_iconst, mq_bipush, mq_sipush, mq_ldc0, mq_ldc1, mq_ldc_w, mq_lconst, mq_ldc2_w, mq_iload, mq_iload_n, mq_lload, mq_lload_n, mq_aload, mq_aload_n, mq_istore, mq_istore_n, mq_lstore, mq_lstore_n, mq_astore, mq_astore_n, mq_iinc, mq_iadd, mq_isub, mq_imul, mq_iand, mq_ior, mq_ixor, mq_idiv, mq_irem, mq_ineg, mq_ishl, mq_ishr, mq_iushr, mq_ladd, mq_lsub, mq_land, mq_lor, mq_lxor, mq_lshl, mq_lshr, mq_lushr, mq_i2l, mq_l2i, mq_i2b, mq_i2s, mq_lcmp, mq_dupI, mq_dupR, mq_dup2, mq_ifCond, mq_if_icmp, mq_goto, mq_nnN, mq_nnR, mq_get1, mq_get2, mq_get0, mq_get3, mq_put1, mq_put2, mq_put3, mq_put0, mq_iaload, mq_laload, mq_aald, mq_iastore, mq_lastore, mq_aastore, mq_arraylength, mq_newarray, mq_anewarray, mq_new, mq_cpI, mq_cpL, mq_abs, mq_max, mq_min, mq_is0, mq_is1, mq_iv0, mq_iv3, mq_ob, mq_ii0, mq_ii1, mq_tableswitch, mq_lookupswitch, mq_iret, mq_lret, mq_vret, hq_pI, hq_pL, hq_pR, hq_pA0, hq_pA1, hq_lk0, hq_lk1, hq_gI, hq_gIo, hq_gL, hq_gLo, hq_gA, hq_gAo, hq_rf1, hq_rf0, hq_st0_int, hq_st0_ref, hq_st0_long, hq_st1, hq_st2, hq_c0, hq_c_int, hq_c_ref, hq_c_long, hq_cS_eq, hq_cS_ne, hq_cS_lt, hq_cS_ge, hq_cS_gt, hq_cS_le, hq_isO, hq_isA, hq_inS0, hq_inS1, hq_bzI, hq_bzZ, hq_sw0, hq_sw1, hq_cat0, hq_catI, hq_catR, hq_catL, hq_en0, hq_enL, hq_enI, hq_enR, hq_hp, hq_callW, hq_rep0, hq_rep1, hq_tl1, hq_tl0, sh_all, rf_all, Nat.reduceAdd, Nat.reduceSub, Nat.reduceMul, Nat.reduceBEq, ↓reduceIte, Bool.or_false, Bool.or_true, Bool.false_or, Bool.true_or, Bool.false_eq_true, Nat.reduceLT, Nat.reduceLeDiff, Nat.reduceEqDiff, true_or, true_and, and_true, false_or, or_true, eq_self, bI_d0, bI_d1, bI_o, em_1, Classical.not_not, Nat.add_zero, forall_const, not_true_eq_false, false_implies, one_ne0, ne0_one, not_false_eq_true, tb_Rh_init, nw_zz, nw_cz, nw_up, lO_0, lO_n, lO_v, vO_r, vO_i, sO_0, sO_v, ii_1, ii_2, ii_3, ii_4, ic_0, ic_1, ic_2, ic_3, iv_0, iv_1, iv_2, iv_3, il_0, il_1, il_2, il_3, il_4, not_true_eq_false, not_false_eq_true, false_implies, true_implies, and_true, true_and, g1]
  refine k_Sh_init1 (r := upR (upR (zR (upR (zR (upR (upR (upR (upR (zR r 0) 0 0 (some 1)) 0 1 (some 36)) 0 2 (some 38)) 0 3 (some 44)) 47) 0 4 (some 47)) 48) 0 5 (some 48)) 47 0 (some 49)) (fun x h1 h2 => by simp (disch := omega) only [upR_ne, zR_ne]; exact hr x (by omega) (by omega)) ?_
  rw [zc_t (by decide) (by decide) (by decide), zzL_t (by decide) (by decide)]
  refine step [66] 600 _ _ _ _ _ _ ?_
  simp only [wq_s, wp_s, mq_iconst, mq_bipush, mq_sipush, mq_ldc0, mq_ldc1, mq_ldc_w, mq_lconst, mq_ldc2_w, mq_iload, mq_iload_n, mq_lload, mq_lload_n, mq_aload, mq_aload_n, mq_istore, mq_istore_n, mq_lstore, mq_lstore_n, mq_astore, mq_astore_n, mq_iinc, mq_iadd, mq_isub, mq_imul, mq_iand, mq_ior, mq_ixor, mq_idiv, mq_irem, mq_ineg, mq_ishl, mq_ishr, mq_iushr, mq_ladd, mq_lsub, mq_land, mq_lor, mq_lxor, mq_lshl, mq_lshr, mq_lushr, mq_i2l, mq_l2i, mq_i2b, mq_i2s, mq_lcmp, mq_dupI, mq_dupR, mq_dup2, mq_ifCond, mq_if_icmp, mq_goto, mq_nnN, mq_nnR, mq_get1, mq_get2, mq_get0, mq_get3, mq_put1, mq_put2, mq_put3, mq_put0, mq_iaload, mq_laload, mq_aald, mq_iastore, mq_lastore, mq_aastore, mq_arraylength, mq_newarray, mq_anewarray, mq_new, mq_cpI, mq_cpL, mq_abs, mq_max, mq_min, mq_is0, mq_is1, mq_iv0, mq_iv3, mq_ob, mq_ii0, mq_ii1, mq_tableswitch, mq_lookupswitch, mq_iret, mq_lret, mq_vret, hq_pI, hq_pL, hq_pR, hq_pA0, hq_pA1, hq_lk0, hq_lk1, hq_gI, hq_gIo, hq_gL, hq_gLo, hq_gA, hq_gAo, hq_rf1, hq_rf0, hq_st0_int, hq_st0_ref, hq_st0_long, hq_st1, hq_st2, hq_c0, hq_c_int, hq_c_ref, hq_c_long, hq_cS_eq, hq_cS_ne, hq_cS_lt, hq_cS_ge, hq_cS_gt, hq_cS_le, hq_isO, hq_isA, hq_inS0, hq_inS1, hq_bzI, hq_bzZ, hq_sw0, hq_sw1, hq_cat0, hq_catI, hq_catR, hq_catL, hq_en0, hq_enL, hq_enI, hq_enR, hq_hp, hq_callW, hq_rep0, hq_rep1, hq_tl1, hq_tl0, sh_all, rf_all, Nat.reduceAdd, Nat.reduceSub, Nat.reduceMul, Nat.reduceBEq, ↓reduceIte, Bool.or_false, Bool.or_true, Bool.false_or, Bool.true_or, Bool.false_eq_true, Nat.reduceLT, Nat.reduceLeDiff, Nat.reduceEqDiff, true_or, true_and, and_true, false_or, or_true, eq_self, bI_d0, bI_d1, bI_o, em_1, Classical.not_not, Nat.add_zero, forall_const, not_true_eq_false, false_implies, one_ne0, ne0_one, not_false_eq_true, tb_Rh_init, nw_zz, nw_cz, nw_up, lO_0, lO_n, lO_v, vO_r, vO_i, sO_0, sO_v, ii_1, ii_2, ii_3, ii_4, ic_0, ic_1, ic_2, ic_3, iv_0, iv_1, iv_2, iv_3, il_0, il_1, il_2, il_3, il_4, not_true_eq_false, not_false_eq_true, false_implies, true_implies, and_true, true_and]
  have g2 : (upR (upR (upR (zR (upR (zR (upR (upR (upR (upR (zR r 0) 0 0 (some 1)) 0 1 (some 36)) 0 2 (some 38)) 0 3 (some 44)) 47) 0 4 (some 47)) 48) 0 5 (some 48)) 47 0 (some 49)) 47 1 (some 51)) 0 4 = some 47 := rfl
  refine step [66] 600 _ _ _ _ _ _ ?_
  simp only [wq_s, wp_s, mq_iconst, mq_bipush, mq_sipush, mq_ldc0, mq_ldc1, mq_ldc_w, mq_lconst, mq_ldc2_w, mq_iload, mq_iload_n, mq_lload, mq_lload_n, mq_aload, mq_aload_n, mq_istore, mq_istore_n, mq_lstore, mq_lstore_n, mq_astore, mq_astore_n, mq_iinc, mq_iadd, mq_isub, mq_imul, mq_iand, mq_ior, mq_ixor, mq_idiv, mq_irem, mq_ineg, mq_ishl, mq_ishr, mq_iushr, mq_ladd, mq_lsub, mq_land, mq_lor, mq_lxor, mq_lshl, mq_lshr, mq_lushr, mq_i2l, mq_l2i, mq_i2b, mq_i2s, mq_lcmp, mq_dupI, mq_dupR, mq_dup2, mq_ifCond, mq_if_icmp, mq_goto, mq_nnN, mq_nnR, mq_get1, mq_get2, mq_get0, mq_get3, mq_put1, mq_put2, mq_put3, mq_put0, mq_iaload, mq_laload, mq_aald, mq_iastore, mq_lastore, mq_aastore, mq_arraylength, mq_newarray, mq_anewarray, mq_new, mq_cpI, mq_cpL, mq_abs, mq_max, mq_min, mq_is0, mq_is1, mq_iv0, mq_iv3, mq_ob, mq_ii0, mq_ii1, mq_tableswitch, mq_lookupswitch, mq_iret, mq_lret, mq_vret, hq_pI, hq_pL, hq_pR, hq_pA0, hq_pA1, hq_lk0, hq_lk1, hq_gI, hq_gIo, hq_gL, hq_gLo, hq_gA, hq_gAo, hq_rf1, hq_rf0, hq_st0_int, hq_st0_ref, hq_st0_long, hq_st1, hq_st2, hq_c0, hq_c_int, hq_c_ref, hq_c_long, hq_cS_eq, hq_cS_ne, hq_cS_lt, hq_cS_ge, hq_cS_gt, hq_cS_le, hq_isO, hq_isA, hq_inS0, hq_inS1, hq_bzI, hq_bzZ, hq_sw0, hq_sw1, hq_cat0, hq_catI, hq_catR, hq_catL, hq_en0, hq_enL, hq_enI, hq_enR, hq_hp, hq_callW, hq_rep0, hq_rep1, hq_tl1, hq_tl0, sh_all, rf_all, Nat.reduceAdd, Nat.reduceSub, Nat.reduceMul, Nat.reduceBEq, ↓reduceIte, Bool.or_false, Bool.or_true, Bool.false_or, Bool.true_or, Bool.false_eq_true, Nat.reduceLT, Nat.reduceLeDiff, Nat.reduceEqDiff, true_or, true_and, and_true, false_or, or_true, eq_self, bI_d0, bI_d1, bI_o, em_1, Classical.not_not, Nat.add_zero, forall_const, not_true_eq_false, false_implies, one_ne0, ne0_one, not_false_eq_true, tb_Rh_init, nw_zz, nw_cz, nw_up, lO_0, lO_n, lO_v, vO_r, vO_i, sO_0, sO_v, ii_1, ii_2, ii_3, ii_4, ic_0, ic_1, ic_2, ic_3, iv_0, iv_1, iv_2, iv_3, il_0, il_1, il_2, il_3, il_4, not_true_eq_false, not_false_eq_true, false_implies, true_implies, and_true, true_and, g2]
  refine k_Sh_init2 (r := upR (upR (upR (zR (upR (zR (upR (upR (upR (upR (zR r 0) 0 0 (some 1)) 0 1 (some 36)) 0 2 (some 38)) 0 3 (some 44)) 47) 0 4 (some 47)) 48) 0 5 (some 48)) 47 0 (some 49)) 47 1 (some 51)) (fun x h1 h2 => by simp (disch := omega) only [upR_ne, zR_ne]; exact hr x (by omega) (by omega)) ?_
  rw [zc_t (by decide) (by decide) (by decide), zzL_t (by decide) (by decide)]
  refine step [66] 600 _ _ _ _ _ _ ?_
  simp only [wq_s, wp_s, mq_iconst, mq_bipush, mq_sipush, mq_ldc0, mq_ldc1, mq_ldc_w, mq_lconst, mq_ldc2_w, mq_iload, mq_iload_n, mq_lload, mq_lload_n, mq_aload, mq_aload_n, mq_istore, mq_istore_n, mq_lstore, mq_lstore_n, mq_astore, mq_astore_n, mq_iinc, mq_iadd, mq_isub, mq_imul, mq_iand, mq_ior, mq_ixor, mq_idiv, mq_irem, mq_ineg, mq_ishl, mq_ishr, mq_iushr, mq_ladd, mq_lsub, mq_land, mq_lor, mq_lxor, mq_lshl, mq_lshr, mq_lushr, mq_i2l, mq_l2i, mq_i2b, mq_i2s, mq_lcmp, mq_dupI, mq_dupR, mq_dup2, mq_ifCond, mq_if_icmp, mq_goto, mq_nnN, mq_nnR, mq_get1, mq_get2, mq_get0, mq_get3, mq_put1, mq_put2, mq_put3, mq_put0, mq_iaload, mq_laload, mq_aald, mq_iastore, mq_lastore, mq_aastore, mq_arraylength, mq_newarray, mq_anewarray, mq_new, mq_cpI, mq_cpL, mq_abs, mq_max, mq_min, mq_is0, mq_is1, mq_iv0, mq_iv3, mq_ob, mq_ii0, mq_ii1, mq_tableswitch, mq_lookupswitch, mq_iret, mq_lret, mq_vret, hq_pI, hq_pL, hq_pR, hq_pA0, hq_pA1, hq_lk0, hq_lk1, hq_gI, hq_gIo, hq_gL, hq_gLo, hq_gA, hq_gAo, hq_rf1, hq_rf0, hq_st0_int, hq_st0_ref, hq_st0_long, hq_st1, hq_st2, hq_c0, hq_c_int, hq_c_ref, hq_c_long, hq_cS_eq, hq_cS_ne, hq_cS_lt, hq_cS_ge, hq_cS_gt, hq_cS_le, hq_isO, hq_isA, hq_inS0, hq_inS1, hq_bzI, hq_bzZ, hq_sw0, hq_sw1, hq_cat0, hq_catI, hq_catR, hq_catL, hq_en0, hq_enL, hq_enI, hq_enR, hq_hp, hq_callW, hq_rep0, hq_rep1, hq_tl1, hq_tl0, sh_all, rf_all, Nat.reduceAdd, Nat.reduceSub, Nat.reduceMul, Nat.reduceBEq, ↓reduceIte, Bool.or_false, Bool.or_true, Bool.false_or, Bool.true_or, Bool.false_eq_true, Nat.reduceLT, Nat.reduceLeDiff, Nat.reduceEqDiff, true_or, true_and, and_true, false_or, or_true, eq_self, bI_d0, bI_d1, bI_o, em_1, Classical.not_not, Nat.add_zero, forall_const, not_true_eq_false, false_implies, one_ne0, ne0_one, not_false_eq_true, tb_Rh_init, nw_zz, nw_cz, nw_up, lO_0, lO_n, lO_v, vO_r, vO_i, sO_0, sO_v, ii_1, ii_2, ii_3, ii_4, ic_0, ic_1, ic_2, ic_3, iv_0, iv_1, iv_2, iv_3, il_0, il_1, il_2, il_3, il_4, not_true_eq_false, not_false_eq_true, false_implies, true_implies, and_true, true_and]
  have g3 : (upR (upR (upR (upR (zR (upR (zR (upR (upR (upR (upR (zR r 0) 0 0 (some 1)) 0 1 (some 36)) 0 2 (some 38)) 0 3 (some 44)) 47) 0 4 (some 47)) 48) 0 5 (some 48)) 47 0 (some 49)) 47 1 (some 51)) 47 2 (some 53)) 0 4 = some 47 := rfl
  refine step [66] 600 _ _ _ _ _ _ ?_
  simp only [wq_s, wp_s, mq_iconst, mq_bipush, mq_sipush, mq_ldc0, mq_ldc1, mq_ldc_w, mq_lconst, mq_ldc2_w, mq_iload, mq_iload_n, mq_lload, mq_lload_n, mq_aload, mq_aload_n, mq_istore, mq_istore_n, mq_lstore, mq_lstore_n, mq_astore, mq_astore_n, mq_iinc, mq_iadd, mq_isub, mq_imul, mq_iand, mq_ior, mq_ixor, mq_idiv, mq_irem, mq_ineg, mq_ishl, mq_ishr, mq_iushr, mq_ladd, mq_lsub, mq_land, mq_lor, mq_lxor, mq_lshl, mq_lshr, mq_lushr, mq_i2l, mq_l2i, mq_i2b, mq_i2s, mq_lcmp, mq_dupI, mq_dupR, mq_dup2, mq_ifCond, mq_if_icmp, mq_goto, mq_nnN, mq_nnR, mq_get1, mq_get2, mq_get0, mq_get3, mq_put1, mq_put2, mq_put3, mq_put0, mq_iaload, mq_laload, mq_aald, mq_iastore, mq_lastore, mq_aastore, mq_arraylength, mq_newarray, mq_anewarray, mq_new, mq_cpI, mq_cpL, mq_abs, mq_max, mq_min, mq_is0, mq_is1, mq_iv0, mq_iv3, mq_ob, mq_ii0, mq_ii1, mq_tableswitch, mq_lookupswitch, mq_iret, mq_lret, mq_vret, hq_pI, hq_pL, hq_pR, hq_pA0, hq_pA1, hq_lk0, hq_lk1, hq_gI, hq_gIo, hq_gL, hq_gLo, hq_gA, hq_gAo, hq_rf1, hq_rf0, hq_st0_int, hq_st0_ref, hq_st0_long, hq_st1, hq_st2, hq_c0, hq_c_int, hq_c_ref, hq_c_long, hq_cS_eq, hq_cS_ne, hq_cS_lt, hq_cS_ge, hq_cS_gt, hq_cS_le, hq_isO, hq_isA, hq_inS0, hq_inS1, hq_bzI, hq_bzZ, hq_sw0, hq_sw1, hq_cat0, hq_catI, hq_catR, hq_catL, hq_en0, hq_enL, hq_enI, hq_enR, hq_hp, hq_callW, hq_rep0, hq_rep1, hq_tl1, hq_tl0, sh_all, rf_all, Nat.reduceAdd, Nat.reduceSub, Nat.reduceMul, Nat.reduceBEq, ↓reduceIte, Bool.or_false, Bool.or_true, Bool.false_or, Bool.true_or, Bool.false_eq_true, Nat.reduceLT, Nat.reduceLeDiff, Nat.reduceEqDiff, true_or, true_and, and_true, false_or, or_true, eq_self, bI_d0, bI_d1, bI_o, em_1, Classical.not_not, Nat.add_zero, forall_const, not_true_eq_false, false_implies, one_ne0, ne0_one, not_false_eq_true, tb_Rh_init, nw_zz, nw_cz, nw_up, lO_0, lO_n, lO_v, vO_r, vO_i, sO_0, sO_v, ii_1, ii_2, ii_3, ii_4, ic_0, ic_1, ic_2, ic_3, iv_0, iv_1, iv_2, iv_3, il_0, il_1, il_2, il_3, il_4, not_true_eq_false, not_false_eq_true, false_implies, true_implies, and_true, true_and, g3]
  refine k_Sh_init3 (r := upR (upR (upR (upR (zR (upR (zR (upR (upR (upR (upR (zR r 0) 0 0 (some 1)) 0 1 (some 36)) 0 2 (some 38)) 0 3 (some 44)) 47) 0 4 (some 47)) 48) 0 5 (some 48)) 47 0 (some 49)) 47 1 (some 51)) 47 2 (some 53)) (fun x h1 h2 => by simp (disch := omega) only [upR_ne, zR_ne]; exact hr x (by omega) (by omega)) ?_
  rw [zc_t (by decide) (by decide) (by decide), zzL_t (by decide) (by decide)]
  refine step [66] 600 _ _ _ _ _ _ ?_
  simp only [wq_s, wp_s, mq_iconst, mq_bipush, mq_sipush, mq_ldc0, mq_ldc1, mq_ldc_w, mq_lconst, mq_ldc2_w, mq_iload, mq_iload_n, mq_lload, mq_lload_n, mq_aload, mq_aload_n, mq_istore, mq_istore_n, mq_lstore, mq_lstore_n, mq_astore, mq_astore_n, mq_iinc, mq_iadd, mq_isub, mq_imul, mq_iand, mq_ior, mq_ixor, mq_idiv, mq_irem, mq_ineg, mq_ishl, mq_ishr, mq_iushr, mq_ladd, mq_lsub, mq_land, mq_lor, mq_lxor, mq_lshl, mq_lshr, mq_lushr, mq_i2l, mq_l2i, mq_i2b, mq_i2s, mq_lcmp, mq_dupI, mq_dupR, mq_dup2, mq_ifCond, mq_if_icmp, mq_goto, mq_nnN, mq_nnR, mq_get1, mq_get2, mq_get0, mq_get3, mq_put1, mq_put2, mq_put3, mq_put0, mq_iaload, mq_laload, mq_aald, mq_iastore, mq_lastore, mq_aastore, mq_arraylength, mq_newarray, mq_anewarray, mq_new, mq_cpI, mq_cpL, mq_abs, mq_max, mq_min, mq_is0, mq_is1, mq_iv0, mq_iv3, mq_ob, mq_ii0, mq_ii1, mq_tableswitch, mq_lookupswitch, mq_iret, mq_lret, mq_vret, hq_pI, hq_pL, hq_pR, hq_pA0, hq_pA1, hq_lk0, hq_lk1, hq_gI, hq_gIo, hq_gL, hq_gLo, hq_gA, hq_gAo, hq_rf1, hq_rf0, hq_st0_int, hq_st0_ref, hq_st0_long, hq_st1, hq_st2, hq_c0, hq_c_int, hq_c_ref, hq_c_long, hq_cS_eq, hq_cS_ne, hq_cS_lt, hq_cS_ge, hq_cS_gt, hq_cS_le, hq_isO, hq_isA, hq_inS0, hq_inS1, hq_bzI, hq_bzZ, hq_sw0, hq_sw1, hq_cat0, hq_catI, hq_catR, hq_catL, hq_en0, hq_enL, hq_enI, hq_enR, hq_hp, hq_callW, hq_rep0, hq_rep1, hq_tl1, hq_tl0, sh_all, rf_all, Nat.reduceAdd, Nat.reduceSub, Nat.reduceMul, Nat.reduceBEq, ↓reduceIte, Bool.or_false, Bool.or_true, Bool.false_or, Bool.true_or, Bool.false_eq_true, Nat.reduceLT, Nat.reduceLeDiff, Nat.reduceEqDiff, true_or, true_and, and_true, false_or, or_true, eq_self, bI_d0, bI_d1, bI_o, em_1, Classical.not_not, Nat.add_zero, forall_const, not_true_eq_false, false_implies, one_ne0, ne0_one, not_false_eq_true, tb_Rh_init, nw_zz, nw_cz, nw_up, lO_0, lO_n, lO_v, vO_r, vO_i, sO_0, sO_v, ii_1, ii_2, ii_3, ii_4, ic_0, ic_1, ic_2, ic_3, iv_0, iv_1, iv_2, iv_3, il_0, il_1, il_2, il_3, il_4, not_true_eq_false, not_false_eq_true, false_implies, true_implies, and_true, true_and]
  refine step [66] 600 _ _ _ _ _ _ ?_
  simp only [wq_s, wp_s, mq_iconst, mq_bipush, mq_sipush, mq_ldc0, mq_ldc1, mq_ldc_w, mq_lconst, mq_ldc2_w, mq_iload, mq_iload_n, mq_lload, mq_lload_n, mq_aload, mq_aload_n, mq_istore, mq_istore_n, mq_lstore, mq_lstore_n, mq_astore, mq_astore_n, mq_iinc, mq_iadd, mq_isub, mq_imul, mq_iand, mq_ior, mq_ixor, mq_idiv, mq_irem, mq_ineg, mq_ishl, mq_ishr, mq_iushr, mq_ladd, mq_lsub, mq_land, mq_lor, mq_lxor, mq_lshl, mq_lshr, mq_lushr, mq_i2l, mq_l2i, mq_i2b, mq_i2s, mq_lcmp, mq_dupI, mq_dupR, mq_dup2, mq_ifCond, mq_if_icmp, mq_goto, mq_nnN, mq_nnR, mq_get1, mq_get2, mq_get0, mq_get3, mq_put1, mq_put2, mq_put3, mq_put0, mq_iaload, mq_laload, mq_aald, mq_iastore, mq_lastore, mq_aastore, mq_arraylength, mq_newarray, mq_anewarray, mq_new, mq_cpI, mq_cpL, mq_abs, mq_max, mq_min, mq_is0, mq_is1, mq_iv0, mq_iv3, mq_ob, mq_ii0, mq_ii1, mq_tableswitch, mq_lookupswitch, mq_iret, mq_lret, mq_vret, hq_pI, hq_pL, hq_pR, hq_pA0, hq_pA1, hq_lk0, hq_lk1, hq_gI, hq_gIo, hq_gL, hq_gLo, hq_gA, hq_gAo, hq_rf1, hq_rf0, hq_st0_int, hq_st0_ref, hq_st0_long, hq_st1, hq_st2, hq_c0, hq_c_int, hq_c_ref, hq_c_long, hq_cS_eq, hq_cS_ne, hq_cS_lt, hq_cS_ge, hq_cS_gt, hq_cS_le, hq_isO, hq_isA, hq_inS0, hq_inS1, hq_bzI, hq_bzZ, hq_sw0, hq_sw1, hq_cat0, hq_catI, hq_catR, hq_catL, hq_en0, hq_enL, hq_enI, hq_enR, hq_hp, hq_callW, hq_rep0, hq_rep1, hq_tl1, hq_tl0, sh_all, rf_all, Nat.reduceAdd, Nat.reduceSub, Nat.reduceMul, Nat.reduceBEq, ↓reduceIte, Bool.or_false, Bool.or_true, Bool.false_or, Bool.true_or, Bool.false_eq_true, Nat.reduceLT, Nat.reduceLeDiff, Nat.reduceEqDiff, true_or, true_and, and_true, false_or, or_true, eq_self, bI_d0, bI_d1, bI_o, em_1, Classical.not_not, Nat.add_zero, forall_const, not_true_eq_false, false_implies, one_ne0, ne0_one, not_false_eq_true, tb_Rh_init, nw_zz, nw_cz, nw_up, lO_0, lO_n, lO_v, vO_r, vO_i, sO_0, sO_v, ii_1, ii_2, ii_3, ii_4, ic_0, ic_1, ic_2, ic_3, iv_0, iv_1, iv_2, iv_3, il_0, il_1, il_2, il_3, il_4, not_true_eq_false, not_false_eq_true, false_implies, true_implies, and_true, true_and]
  exact kR hK (re_Rh hr)
theorem re_Mo {r : Nat → Nat → Option Nat} (hr : ∀ x, 57 ≤ x → x < 71 → r x = rfx false x) : upR (zR (upR (zR (upR (zR (upR (zR (upR (zR (upR (zR (upR (zR (upR (zR (upR (zR (upR (zR (upR (zR (upR (zR (upR (zR (zR r 57) 58) 57 0 (some 58)) 59) 57 1 (some 59)) 60) 57 3 (some 60)) 61) 57 5 (some 61)) 62) 57 6 (some 62)) 63) 57 7 (some 63)) 64) 57 8 (some 64)) 65) 57 14 (some 65)) 66) 57 16 (some 66)) 67) 57 17 (some 67)) 68) 57 18 (some 68)) 69) 57 19 (some 69)) 70) 57 20 (some 70) = r := by
  funext a y
  by_cases h57 : a = 57
  · subst h57
    rw [hr 57 (by decide) (by decide)]
    by_cases y0 : y = 0
    · subst y0; rfl
    by_cases y1 : y = 1
    · subst y1; rfl
    by_cases y3 : y = 3
    · subst y3; rfl
    by_cases y5 : y = 5
    · subst y5; rfl
    by_cases y6 : y = 6
    · subst y6; rfl
    by_cases y7 : y = 7
    · subst y7; rfl
    by_cases y8 : y = 8
    · subst y8; rfl
    by_cases y14 : y = 14
    · subst y14; rfl
    by_cases y16 : y = 16
    · subst y16; rfl
    by_cases y17 : y = 17
    · subst y17; rfl
    by_cases y18 : y = 18
    · subst y18; rfl
    by_cases y19 : y = 19
    · subst y19; rfl
    by_cases y20 : y = 20
    · subst y20; rfl
    rw [rn_57 y y0 y1 y3 y5 y6 y7 y8 y14 y16 y17 y18 y19 y20]
    simp [upR, zR, y0, y1, y3, y5, y6, y7, y8, y14, y16, y17, y18, y19, y20]
  by_cases h58 : a = 58
  · subst h58; rw [hr 58 (by decide) (by decide)]; rfl
  by_cases h59 : a = 59
  · subst h59; rw [hr 59 (by decide) (by decide)]; rfl
  by_cases h60 : a = 60
  · subst h60; rw [hr 60 (by decide) (by decide)]; rfl
  by_cases h61 : a = 61
  · subst h61; rw [hr 61 (by decide) (by decide)]; rfl
  by_cases h62 : a = 62
  · subst h62; rw [hr 62 (by decide) (by decide)]; rfl
  by_cases h63 : a = 63
  · subst h63; rw [hr 63 (by decide) (by decide)]; rfl
  by_cases h64 : a = 64
  · subst h64; rw [hr 64 (by decide) (by decide)]; rfl
  by_cases h65 : a = 65
  · subst h65; rw [hr 65 (by decide) (by decide)]; rfl
  by_cases h66 : a = 66
  · subst h66; rw [hr 66 (by decide) (by decide)]; rfl
  by_cases h67 : a = 67
  · subst h67; rw [hr 67 (by decide) (by decide)]; rfl
  by_cases h68 : a = 68
  · subst h68; rw [hr 68 (by decide) (by decide)]; rfl
  by_cases h69 : a = 69
  · subst h69; rw [hr 69 (by decide) (by decide)]; rfl
  by_cases h70 : a = 70
  · subst h70; rw [hr 70 (by decide) (by decide)]; rfl
  simp [upR, zR, h57, h58, h59, h60, h61, h62, h63, h64, h65, h66, h67, h68, h69, h70]
/-- the model's array at the start, k parties laid -/
def mIn (k : Nat) (I : Nat → Nat → Int32) : Nat → Nat → Int32 := fun x y => if x = 58 ∧ ∃ p, p < k ∧ y = 264 + 5 * p + 3 then -1 else if x = 58 ∧ ∃ p, p < k ∧ y = 264 + 5 * p + 4 then 3599 else I x y

set_option maxRecDepth 100000 in
set_option maxHeartbeats 4000000 in
theorem k_Mo_init {I : Nat → Nat → Int32} {L : Nat → Nat → Int64} {K : KT} (hK : ∀ J : Nat → Nat → Int32, (∀ x, x ≠ 58 → J x = (upI (zzI I 58 71) 57 9 (-1)) x) → (∀ y, (∀ p, p < 5 → y ≠ 264 + 5 * p + 3 ∧ y ≠ 264 + 5 * p + 4) → J 58 y = 0) → (∀ p, p < 5 → J 58 (264 + 5 * p + 3) = -1 ∧ J 58 (264 + 5 * p + 4) = 3599) → K none (J, zzL L 58 71, rfx false, 71)) : Ct m_Mo_init [.ref 57] (I, L, zR (rfx false) 57, 58) K := by
  rw [zz_00 I L (zR (rfx false) 57) 58]
  refine in_Mo_init 58 (Nat.le_refl _) (Nat.le_of_ble_eq_true rfl) rfl (fun P step => ?_)
  refine step [116] 600 _ _ _ _ _ _ ?_
  simp only [wq_s, wp_s, mq_iconst, mq_bipush, mq_sipush, mq_ldc0, mq_ldc1, mq_ldc_w, mq_lconst, mq_ldc2_w, mq_iload, mq_iload_n, mq_lload, mq_lload_n, mq_aload, mq_aload_n, mq_istore, mq_istore_n, mq_lstore, mq_lstore_n, mq_astore, mq_astore_n, mq_iinc, mq_iadd, mq_isub, mq_imul, mq_iand, mq_ior, mq_ixor, mq_idiv, mq_irem, mq_ineg, mq_ishl, mq_ishr, mq_iushr, mq_ladd, mq_lsub, mq_land, mq_lor, mq_lxor, mq_lshl, mq_lshr, mq_lushr, mq_i2l, mq_l2i, mq_i2b, mq_i2s, mq_lcmp, mq_dupI, mq_dupR, mq_dup2, mq_ifCond, mq_if_icmp, mq_goto, mq_nnN, mq_nnR, mq_get1, mq_get2, mq_get0, mq_get3, mq_put1, mq_put2, mq_put3, mq_put0, mq_iaload, mq_laload, mq_aald, mq_iastore, mq_lastore, mq_aastore, mq_arraylength, mq_newarray, mq_anewarray, mq_new, mq_cpI, mq_cpL, mq_abs, mq_max, mq_min, mq_is0, mq_is1, mq_iv0, mq_iv3, mq_ob, mq_ii0, mq_ii1, mq_tableswitch, mq_lookupswitch, mq_iret, mq_lret, mq_vret, hq_pI, hq_pL, hq_pR, hq_pA0, hq_pA1, hq_lk0, hq_lk1, hq_gI, hq_gIo, hq_gL, hq_gLo, hq_gA, hq_gAo, hq_rf1, hq_rf0, hq_st0_int, hq_st0_ref, hq_st0_long, hq_st1, hq_st2, hq_c0, hq_c_int, hq_c_ref, hq_c_long, hq_cS_eq, hq_cS_ne, hq_cS_lt, hq_cS_ge, hq_cS_gt, hq_cS_le, hq_isO, hq_isA, hq_inS0, hq_inS1, hq_bzI, hq_bzZ, hq_sw0, hq_sw1, hq_cat0, hq_catI, hq_catR, hq_catL, hq_en0, hq_enL, hq_enI, hq_enR, hq_hp, hq_callW, hq_rep0, hq_rep1, hq_tl1, hq_tl0, sh_all, rf_all, Nat.reduceAdd, Nat.reduceSub, Nat.reduceMul, Nat.reduceBEq, ↓reduceIte, Bool.or_false, Bool.or_true, Bool.false_or, Bool.true_or, Bool.false_eq_true, Nat.reduceLT, Nat.reduceLeDiff, Nat.reduceEqDiff, true_or, true_and, and_true, false_or, or_true, eq_self, bI_d0, bI_d1, bI_o, em_1, Classical.not_not, Nat.add_zero, forall_const, not_true_eq_false, false_implies, one_ne0, ne0_one, not_false_eq_true, tb_Mo_init, nw_zz, nw_cz, nw_up, lO_0, lO_n, lO_v, vO_r, vO_i, sO_0, sO_v]
  refine pRf (re_Mo (r := rfx false) (fun _ _ _ => rfl)) ?_
  refine loop_up (Q := fun k => ∀ J : Nat → Nat → Int32, (∀ x, x ≠ 58 → J x = (upI (zzI I 58 71) 57 9 (-1)) x) → (∀ y, (∀ p, p < 5 → y ≠ 264 + 5 * p + 3 ∧ y ≠ 264 + 5 * p + 4) → J 58 y = 0) → (∀ p, p < k → J 58 (264 + 5 * p + 3) = -1 ∧ J 58 (264 + 5 * p + 4) = 3599) → P 116 [some (.ref 57), some (.int (nI k))] [] (J, zzL L 58 71, rfx false, 71) 13 3618) 5 (fun k hk ih J j1 j2 j3 => ?_) (fun J j1 j2 j3 => ?_) 0 (Nat.zero_le _) _ (fun x hx => rfl) (fun y hy => ?_) (fun p hp => absurd hp (Nat.not_lt_zero _))
  · refine step [116] 600 _ _ _ _ _ _ ?_
    simp only [wq_s, wp_s, mq_iconst, mq_bipush, mq_sipush, mq_ldc0, mq_ldc1, mq_ldc_w, mq_lconst, mq_ldc2_w, mq_iload, mq_iload_n, mq_lload, mq_lload_n, mq_aload, mq_aload_n, mq_istore, mq_istore_n, mq_lstore, mq_lstore_n, mq_astore, mq_astore_n, mq_iinc, mq_iadd, mq_isub, mq_imul, mq_iand, mq_ior, mq_ixor, mq_idiv, mq_irem, mq_ineg, mq_ishl, mq_ishr, mq_iushr, mq_ladd, mq_lsub, mq_land, mq_lor, mq_lxor, mq_lshl, mq_lshr, mq_lushr, mq_i2l, mq_l2i, mq_i2b, mq_i2s, mq_lcmp, mq_dupI, mq_dupR, mq_dup2, mq_ifCond, mq_if_icmp, mq_goto, mq_nnN, mq_nnR, mq_get1, mq_get2, mq_get0, mq_get3, mq_put1, mq_put2, mq_put3, mq_put0, mq_iaload, mq_laload, mq_aald, mq_iastore, mq_lastore, mq_aastore, mq_arraylength, mq_newarray, mq_anewarray, mq_new, mq_cpI, mq_cpL, mq_abs, mq_max, mq_min, mq_is0, mq_is1, mq_iv0, mq_iv3, mq_ob, mq_ii0, mq_ii1, mq_tableswitch, mq_lookupswitch, mq_iret, mq_lret, mq_vret, hq_pI, hq_pL, hq_pR, hq_pA0, hq_pA1, hq_lk0, hq_lk1, hq_gI, hq_gIo, hq_gL, hq_gLo, hq_gA, hq_gAo, hq_rf1, hq_rf0, hq_st0_int, hq_st0_ref, hq_st0_long, hq_st1, hq_st2, hq_c0, hq_c_int, hq_c_ref, hq_c_long, hq_cS_eq, hq_cS_ne, hq_cS_lt, hq_cS_ge, hq_cS_gt, hq_cS_le, hq_isO, hq_isA, hq_inS0, hq_inS1, hq_bzI, hq_bzZ, hq_sw0, hq_sw1, hq_cat0, hq_catI, hq_catR, hq_catL, hq_en0, hq_enL, hq_enI, hq_enR, hq_hp, hq_callW, hq_rep0, hq_rep1, hq_tl1, hq_tl0, sh_all, rf_all, Nat.reduceAdd, Nat.reduceSub, Nat.reduceMul, Nat.reduceBEq, ↓reduceIte, Bool.or_false, Bool.or_true, Bool.false_or, Bool.true_or, Bool.false_eq_true, Nat.reduceLT, Nat.reduceLeDiff, Nat.reduceEqDiff, true_or, true_and, and_true, false_or, or_true, eq_self, bI_d0, bI_d1, bI_o, em_1, Classical.not_not, Nat.add_zero, forall_const, not_true_eq_false, false_implies, one_ne0, ne0_one, not_false_eq_true, tb_Mo_init]
    simp (disch := omega) only [lit, nI_add, pk_mul, nI_clamp, vp_in_nI, true_and]
    refine ⟨fun h => absurd ((nI_leI (a := 5) (by omega) (by omega)).mp h) (by omega), fun _ => ih _ (fun x hx => by rw [upI_ne hx, upI_ne hx]; exact j1 x hx) (fun y hy => ?_) (fun p hp => ?_)⟩
    · have := hy k hk
      rw [upI_eq, upd_ne (by omega), upI_eq, upd_ne (by omega)]; exact j2 y hy
    · by_cases e : p = k
      · subst e
        refine ⟨?_, ?_⟩
        · rw [upI_eq, upd_ne (by omega), upI_eq, upd_at]; rfl
        · rw [upI_eq, upd_at]; rfl
      · refine ⟨?_, ?_⟩
        · rw [upI_eq, upd_ne (by omega), upI_eq, upd_ne (by omega)]; exact (j3 p (by omega)).1
        · rw [upI_eq, upd_ne (by omega), upI_eq, upd_ne (by omega)]; exact (j3 p (by omega)).2
  · refine step [116] 600 _ _ _ _ _ _ ?_
    simp only [wq_s, wp_s, mq_iconst, mq_bipush, mq_sipush, mq_ldc0, mq_ldc1, mq_ldc_w, mq_lconst, mq_ldc2_w, mq_iload, mq_iload_n, mq_lload, mq_lload_n, mq_aload, mq_aload_n, mq_istore, mq_istore_n, mq_lstore, mq_lstore_n, mq_astore, mq_astore_n, mq_iinc, mq_iadd, mq_isub, mq_imul, mq_iand, mq_ior, mq_ixor, mq_idiv, mq_irem, mq_ineg, mq_ishl, mq_ishr, mq_iushr, mq_ladd, mq_lsub, mq_land, mq_lor, mq_lxor, mq_lshl, mq_lshr, mq_lushr, mq_i2l, mq_l2i, mq_i2b, mq_i2s, mq_lcmp, mq_dupI, mq_dupR, mq_dup2, mq_ifCond, mq_if_icmp, mq_goto, mq_nnN, mq_nnR, mq_get1, mq_get2, mq_get0, mq_get3, mq_put1, mq_put2, mq_put3, mq_put0, mq_iaload, mq_laload, mq_aald, mq_iastore, mq_lastore, mq_aastore, mq_arraylength, mq_newarray, mq_anewarray, mq_new, mq_cpI, mq_cpL, mq_abs, mq_max, mq_min, mq_is0, mq_is1, mq_iv0, mq_iv3, mq_ob, mq_ii0, mq_ii1, mq_tableswitch, mq_lookupswitch, mq_iret, mq_lret, mq_vret, hq_pI, hq_pL, hq_pR, hq_pA0, hq_pA1, hq_lk0, hq_lk1, hq_gI, hq_gIo, hq_gL, hq_gLo, hq_gA, hq_gAo, hq_rf1, hq_rf0, hq_st0_int, hq_st0_ref, hq_st0_long, hq_st1, hq_st2, hq_c0, hq_c_int, hq_c_ref, hq_c_long, hq_cS_eq, hq_cS_ne, hq_cS_lt, hq_cS_ge, hq_cS_gt, hq_cS_le, hq_isO, hq_isA, hq_inS0, hq_inS1, hq_bzI, hq_bzZ, hq_sw0, hq_sw1, hq_cat0, hq_catI, hq_catR, hq_catL, hq_en0, hq_enL, hq_enI, hq_enR, hq_hp, hq_callW, hq_rep0, hq_rep1, hq_tl1, hq_tl0, sh_all, rf_all, Nat.reduceAdd, Nat.reduceSub, Nat.reduceMul, Nat.reduceBEq, ↓reduceIte, Bool.or_false, Bool.or_true, Bool.false_or, Bool.true_or, Bool.false_eq_true, Nat.reduceLT, Nat.reduceLeDiff, Nat.reduceEqDiff, true_or, true_and, and_true, false_or, or_true, eq_self, bI_d0, bI_d1, bI_o, em_1, Classical.not_not, Nat.add_zero, forall_const, not_true_eq_false, false_implies, one_ne0, ne0_one, not_false_eq_true, tb_Mo_init]
    exact ⟨fun _ => hK J j1 j2 j3, fun h => absurd (Int32.le_refl _) h⟩
  · rw [upI_ne (by decide)]; unfold zzI; rw [if_pos (by decide)]
