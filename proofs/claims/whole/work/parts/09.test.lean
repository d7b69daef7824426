abbrev m_La_endOf : MD := (⟨"RiverHead$Land", "endOf", "(I)I"⟩, prog_5_method_6_code, 4, (Option.some FieldType.int), { frames := 0, cells := 0, slots := 0, locals := 0 }, 1, 479, 67, 477, 478)
def r_La_endOf : List Row := [(0, .iload_n 1, 1, 0, 1, 0, 0, 0, 0, [], md0),
  (1, .istore_n 2, 1, 0, 2, 0, 0, 0, 0, [], md0),
  (2, .iconst 0, 1, 0, 0, 0, 0, 0, 0, [], md0),
  (3, .istore_n 3, 1, 0, 3, 0, 0, 0, 0, [], md0),
  (4, .iload_n 3, 1, 0, 3, 0, 0, 0, 0, [], md0),
  (5, .bipush 48, 2, 0, 0, 0, 0, 48, 0, [], md0),
  (7, .if_icmp .ge 26, 3, 0, 33, 0, 0, 0, 0, [], md0),
  (10, .aload_n 0, 1, 0, 0, 0, 0, 0, 0, [], md0),
  (11, .getfield 30, 3, 119, 2, 7, 2, 0, 0, [], md0),
  (14, .iload_n 2, 1, 0, 2, 0, 0, 0, 0, [], md0),
  (15, .iaload, 1, 0, 0, 0, 0, 0, 0, [], md0),
  (16, .iconst (-1), 1, 0, 0, 0, 0, (-1), 0, [], md0),
  (17, .if_icmp .eq 16, 3, 0, 33, 0, 0, 0, 0, [], md0),
  (20, .aload_n 0, 1, 0, 0, 0, 0, 0, 0, [], md0),
  (21, .getfield 30, 3, 119, 2, 7, 2, 0, 0, [], md0),
  (24, .iload_n 2, 1, 0, 2, 0, 0, 0, 0, [], md0),
  (25, .iaload, 1, 0, 0, 0, 0, 0, 0, [], md0),
  (26, .istore_n 2, 1, 0, 2, 0, 0, 0, 0, [], md0),
  (27, .iinc 3 1, 3, 0, 3, 0, 0, 1, 0, [], md0),
  (30, .goto (-26), 3, 0, 4, 0, 0, 0, 0, [], md0),
  (33, .iload_n 2, 1, 0, 2, 0, 0, 0, 0, [], md0),
  (34, .ireturn, 1, 0, 0, 0, 0, 0, 0, [], md0)]
def t_La_endOf : Nat → Row := tabOf r_La_endOf
theorem tb_La_endOf : t_La_endOf 0 = (0, .iload_n 1, 1, 0, 1, 0, 0, 0, 0, [], md0) ∧ t_La_endOf 1 = (1, .istore_n 2, 1, 0, 2, 0, 0, 0, 0, [], md0) ∧ t_La_endOf 2 = (2, .iconst 0, 1, 0, 0, 0, 0, 0, 0, [], md0) ∧ t_La_endOf 3 = (3, .istore_n 3, 1, 0, 3, 0, 0, 0, 0, [], md0) ∧ t_La_endOf 4 = (4, .iload_n 3, 1, 0, 3, 0, 0, 0, 0, [], md0) ∧ t_La_endOf 5 = (5, .bipush 48, 2, 0, 0, 0, 0, 48, 0, [], md0) ∧ t_La_endOf 7 = (7, .if_icmp .ge 26, 3, 0, 33, 0, 0, 0, 0, [], md0) ∧ t_La_endOf 10 = (10, .aload_n 0, 1, 0, 0, 0, 0, 0, 0, [], md0) ∧ t_La_endOf 11 = (11, .getfield 30, 3, 119, 2, 7, 2, 0, 0, [], md0) ∧ t_La_endOf 14 = (14, .iload_n 2, 1, 0, 2, 0, 0, 0, 0, [], md0) ∧ t_La_endOf 15 = (15, .iaload, 1, 0, 0, 0, 0, 0, 0, [], md0) ∧ t_La_endOf 16 = (16, .iconst (-1), 1, 0, 0, 0, 0, (-1), 0, [], md0) ∧ t_La_endOf 17 = (17, .if_icmp .eq 16, 3, 0, 33, 0, 0, 0, 0, [], md0) ∧ t_La_endOf 20 = (20, .aload_n 0, 1, 0, 0, 0, 0, 0, 0, [], md0) ∧ t_La_endOf 21 = (21, .getfield 30, 3, 119, 2, 7, 2, 0, 0, [], md0) ∧ t_La_endOf 24 = (24, .iload_n 2, 1, 0, 2, 0, 0, 0, 0, [], md0) ∧ t_La_endOf 25 = (25, .iaload, 1, 0, 0, 0, 0, 0, 0, [], md0) ∧ t_La_endOf 26 = (26, .istore_n 2, 1, 0, 2, 0, 0, 0, 0, [], md0) ∧ t_La_endOf 27 = (27, .iinc 3 1, 3, 0, 3, 0, 0, 1, 0, [], md0) ∧ t_La_endOf 30 = (30, .goto (-26), 3, 0, 4, 0, 0, 0, 0, [], md0) ∧ t_La_endOf 33 = (33, .iload_n 2, 1, 0, 2, 0, 0, 0, 0, [], md0) ∧ t_La_endOf 34 = (34, .ireturn, 1, 0, 0, 0, 0, 0, 0, [], md0) := ⟨rfl, rfl, rfl, rfl, rfl, rfl, rfl, rfl, rfl, rfl, rfl, rfl, rfl, rfl, rfl, rfl, rfl, rfl, rfl, rfl, rfl, rfl⟩
set_option maxRecDepth 100000 in
set_option maxHeartbeats 4000000 in
theorem zz_test (C : MD → List Value → MH → KT → Prop) (K : KT) (P : PT) (I : Nat → Nat → Int32) (L : Nat → Nat → Int64) (z : Bool) (x : Int32) :
   wq { frames := 0, cells := 0, slots := 0, locals := 0 } (some .int) 71 (0, fun _ => 0) C t_La_endOf K P [4] 100 4 [some (.ref 2), some (.int x), some (.int x), some (.int 3)] [] (hp I L z) 0 0 := by
  simp only [wq, wp, ms, tb_La_endOf, sh_all, rf_all, hp, pI, pL, pR, gI, gL, gA, stL, cS, isO, isA, inS, bz, lk, Nat.reduceAdd, Nat.reduceBEq, ↓reduceIte, Bool.or_false, Bool.or_true, Bool.false_or, Bool.true_or, Bool.false_eq_true, Nat.reduceLT, Nat.reduceLeDiff, Nat.reduceEqDiff, true_or, true_and, and_true, false_or, OfNat.ofNat_ne_ofNat, Nat.reduceSub]
  trace_state
  sorry
