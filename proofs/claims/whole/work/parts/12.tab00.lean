def r_Cp_init : List Row := [(0, .aload_n 0, 1, 0, 0, 0, 0, 0, 0, [], md0),
  (1, .invokespecial 3, 3, 143, 0, 5, 0, 0, 0, [], md0),
  (4, .aload_n 0, 1, 0, 0, 0, 0, 0, 0, [], md0),
  (5, .iconst 5, 1, 0, 0, 0, 0, 5, 0, [], md0),
  (6, .newarray .int, 2, 137, 0, 5, 0, 5, 0, [], md0),
  (8, .putfield 9, 3, 144, 0, 0, 2, 0, 0, [], md0),
  (11, .aload_n 0, 1, 0, 0, 0, 0, 0, 0, [], md0),
  (12, .iconst 5, 1, 0, 0, 0, 0, 5, 0, [], md0),
  (13, .newarray .int, 2, 137, 0, 5, 0, 5, 0, [], md0),
  (15, .putfield 15, 3, 147, 0, 1, 2, 0, 0, [], md0),
  (18, .aload_n 0, 1, 0, 0, 0, 0, 0, 0, [], md0),
  (19, .iconst 5, 1, 0, 0, 0, 0, 5, 0, [], md0),
  (20, .newarray .int, 2, 137, 0, 5, 0, 5, 0, [], md0),
  (22, .putfield 18, 3, 150, 0, 2, 2, 0, 0, [], md0),
  (25, .aload_n 0, 1, 0, 0, 0, 0, 0, 0, [], md0),
  (26, .iconst 5, 1, 0, 0, 0, 0, 5, 0, [], md0),
  (27, .newarray .int, 2, 137, 0, 5, 0, 5, 0, [], md0),
  (29, .putfield 21, 3, 153, 0, 3, 2, 0, 0, [], md0),
  (32, .aload_n 0, 1, 0, 0, 0, 0, 0, 0, [], md0),
  (33, .iconst 5, 1, 0, 0, 0, 0, 5, 0, [], md0),
  (34, .newarray .int, 2, 137, 0, 5, 0, 5, 0, [], md0),
  (36, .putfield 24, 3, 156, 0, 4, 2, 0, 0, [], md0),
  (39, .iconst 0, 1, 0, 0, 0, 0, 0, 0, [], md0),
  (40, .istore_n 1, 1, 0, 1, 0, 0, 0, 0, [], md0),
  (41, .iload_n 1, 1, 0, 1, 0, 0, 0, 0, [], md0),
  (42, .iconst 5, 1, 0, 0, 0, 0, 5, 0, [], md0),
  (43, .if_icmp .ge 25, 3, 0, 68, 0, 0, 0, 0, [], md0),
  (46, .aload_n 0, 1, 0, 0, 0, 0, 0, 0, [], md0),
  (47, .getfield 21, 3, 153, 0, 3, 2, 0, 0, [], md0),
  (50, .iload_n 1, 1, 0, 1, 0, 0, 0, 0, [], md0),
  (51, .iconst (-1), 1, 0, 0, 0, 0, (-1), 0, [], md0),
  (52, .iastore, 1, 0, 0, 0, 0, 0, 0, [], md0),
  (53, .aload_n 0, 1, 0, 0, 0, 0, 0, 0, [], md0),
  (54, .getfield 24, 3, 156, 0, 4, 2, 0, 0, [], md0),
  (57, .iload_n 1, 1, 0, 1, 0, 0, 0, 0, [], md0),
  (58, .sipush 3599, 3, 0, 0, 0, 0, 3599, 0, [], md0),
  (61, .iastore, 1, 0, 0, 0, 0, 0, 0, [], md0),
  (62, .iinc 1 1, 3, 0, 1, 0, 0, 1, 0, [], md0),
  (65, .goto (-24), 3, 0, 41, 0, 0, 0, 0, [], md0),
  (68, .return_, 1, 0, 0, 0, 0, 0, 0, [], md0)]
set_option maxRecDepth 100000 in
theorem tb_Cp_init : tabOf r_Cp_init 0 = (0, .aload_n 0, 1, 0, 0, 0, 0, 0, 0, [], md0) ∧ tabOf r_Cp_init 1 = (1, .invokespecial 3, 3, 143, 0, 5, 0, 0, 0, [], md0) ∧ tabOf r_Cp_init 4 = (4, .aload_n 0, 1, 0, 0, 0, 0, 0, 0, [], md0) ∧ tabOf r_Cp_init 5 = (5, .iconst 5, 1, 0, 0, 0, 0, 5, 0, [], md0) ∧ tabOf r_Cp_init 6 = (6, .newarray .int, 2, 137, 0, 5, 0, 5, 0, [], md0) ∧ tabOf r_Cp_init 8 = (8, .putfield 9, 3, 144, 0, 0, 2, 0, 0, [], md0) ∧ tabOf r_Cp_init 11 = (11, .aload_n 0, 1, 0, 0, 0, 0, 0, 0, [], md0) ∧ tabOf r_Cp_init 12 = (12, .iconst 5, 1, 0, 0, 0, 0, 5, 0, [], md0) ∧ tabOf r_Cp_init 13 = (13, .newarray .int, 2, 137, 0, 5, 0, 5, 0, [], md0) ∧ tabOf r_Cp_init 15 = (15, .putfield 15, 3, 147, 0, 1, 2, 0, 0, [], md0) ∧ tabOf r_Cp_init 18 = (18, .aload_n 0, 1, 0, 0, 0, 0, 0, 0, [], md0) ∧ tabOf r_Cp_init 19 = (19, .iconst 5, 1, 0, 0, 0, 0, 5, 0, [], md0) ∧ tabOf r_Cp_init 20 = (20, .newarray .int, 2, 137, 0, 5, 0, 5, 0, [], md0) ∧ tabOf r_Cp_init 22 = (22, .putfield 18, 3, 150, 0, 2, 2, 0, 0, [], md0) ∧ tabOf r_Cp_init 25 = (25, .aload_n 0, 1, 0, 0, 0, 0, 0, 0, [], md0) ∧ tabOf r_Cp_init 26 = (26, .iconst 5, 1, 0, 0, 0, 0, 5, 0, [], md0) ∧ tabOf r_Cp_init 27 = (27, .newarray .int, 2, 137, 0, 5, 0, 5, 0, [], md0) ∧ tabOf r_Cp_init 29 = (29, .putfield 21, 3, 153, 0, 3, 2, 0, 0, [], md0) ∧ tabOf r_Cp_init 32 = (32, .aload_n 0, 1, 0, 0, 0, 0, 0, 0, [], md0) ∧ tabOf r_Cp_init 33 = (33, .iconst 5, 1, 0, 0, 0, 0, 5, 0, [], md0) ∧ tabOf r_Cp_init 34 = (34, .newarray .int, 2, 137, 0, 5, 0, 5, 0, [], md0) ∧ tabOf r_Cp_init 36 = (36, .putfield 24, 3, 156, 0, 4, 2, 0, 0, [], md0) ∧ tabOf r_Cp_init 39 = (39, .iconst 0, 1, 0, 0, 0, 0, 0, 0, [], md0) ∧ tabOf r_Cp_init 40 = (40, .istore_n 1, 1, 0, 1, 0, 0, 0, 0, [], md0) ∧ tabOf r_Cp_init 41 = (41, .iload_n 1, 1, 0, 1, 0, 0, 0, 0, [], md0) ∧ tabOf r_Cp_init 42 = (42, .iconst 5, 1, 0, 0, 0, 0, 5, 0, [], md0) ∧ tabOf r_Cp_init 43 = (43, .if_icmp .ge 25, 3, 0, 68, 0, 0, 0, 0, [], md0) ∧ tabOf r_Cp_init 46 = (46, .aload_n 0, 1, 0, 0, 0, 0, 0, 0, [], md0) ∧ tabOf r_Cp_init 47 = (47, .getfield 21, 3, 153, 0, 3, 2, 0, 0, [], md0) ∧ tabOf r_Cp_init 50 = (50, .iload_n 1, 1, 0, 1, 0, 0, 0, 0, [], md0) ∧ tabOf r_Cp_init 51 = (51, .iconst (-1), 1, 0, 0, 0, 0, (-1), 0, [], md0) ∧ tabOf r_Cp_init 52 = (52, .iastore, 1, 0, 0, 0, 0, 0, 0, [], md0) ∧ tabOf r_Cp_init 53 = (53, .aload_n 0, 1, 0, 0, 0, 0, 0, 0, [], md0) ∧ tabOf r_Cp_init 54 = (54, .getfield 24, 3, 156, 0, 4, 2, 0, 0, [], md0) ∧ tabOf r_Cp_init 57 = (57, .iload_n 1, 1, 0, 1, 0, 0, 0, 0, [], md0) ∧ tabOf r_Cp_init 58 = (58, .sipush 3599, 3, 0, 0, 0, 0, 3599, 0, [], md0) ∧ tabOf r_Cp_init 61 = (61, .iastore, 1, 0, 0, 0, 0, 0, 0, [], md0) ∧ tabOf r_Cp_init 62 = (62, .iinc 1 1, 3, 0, 1, 0, 0, 1, 0, [], md0) ∧ tabOf r_Cp_init 65 = (65, .goto (-24), 3, 0, 41, 0, 0, 0, 0, [], md0) ∧ tabOf r_Cp_init 68 = (68, .return_, 1, 0, 0, 0, 0, 0, 0, [], md0) ∧ m_Cp_init.2.2.2.2.1.cells = 5 ∧ m_Cp_init.2.2.2.2.1.slots = 25 ∧ m_Cp_init.2.2.2.2.1.locals = 20 ∧ m_Cp_init.2.2.2.1 = none ∧ m_Cp_init.2.2.1 = 2 := ⟨rfl, rfl, rfl, rfl, rfl, rfl, rfl, rfl, rfl, rfl, rfl, rfl, rfl, rfl, rfl, rfl, rfl, rfl, rfl, rfl, rfl, rfl, rfl, rfl, rfl, rfl, rfl, rfl, rfl, rfl, rfl, rfl, rfl, rfl, rfl, rfl, rfl, rfl, rfl, rfl, rfl, rfl, rfl, rfl, rfl⟩
set_option maxRecDepth 100000 in
theorem ok_Cp_init : r_Cp_init.all (okRow m_Cp_init.2.2.2.2.1 m_Cp_init.1.cls m_Cp_init.2.1 m_Cp_init.2.2.1 true) = true := by decide +kernel
set_option maxRecDepth 100000 in
theorem in_Cp_init {args : List Value} {h : MH} {K : KT} (nB : Nat) (hnB : nB ≤ h.2.2.2) (hL : cat2 args ≤ m_Cp_init.2.2.1) (hdb : noD args = true) (H : ∀ P : PT, (∀ stops n pc lv st h cn sn, wq m_Cp_init.2.2.2.2.1 m_Cp_init.2.2.2.1 nB (0, fun _ => 0) Ct (tabOf r_Cp_init) K P stops n pc lv st h cn sn → P pc lv st h cn sn) → P 0 (entL args m_Cp_init.2.2.1) [] h 0 0) : Ct m_Cp_init args h K := Ct.intro r_Cp_init true nB (by decide) (by decide) ok_Cp_init hnB hL hdb H
def r_Cp_takeFrom : List Row := [(0, .aload_n 1, 1, 0, 1, 0, 0, 0, 0, [], md0),
  (1, .getfield 9, 3, 144, 0, 0, 2, 0, 0, [], md0),
  (4, .iconst 0, 1, 0, 0, 0, 0, 0, 0, [], md0),
  (5, .aload_n 0, 1, 0, 0, 0, 0, 0, 0, [], md0),
  (6, .getfield 9, 3, 144, 0, 0, 2, 0, 0, [], md0),
  (9, .iconst 0, 1, 0, 0, 0, 0, 0, 0, [], md0),
  (10, .iconst 5, 1, 0, 0, 0, 0, 5, 0, [], md0),
  (11, .invokestatic 27, 3, 1127, 0, 4, 0, 0, 0, [], md0),
  (14, .aload_n 1, 1, 0, 1, 0, 0, 0, 0, [], md0),
  (15, .getfield 15, 3, 147, 0, 1, 2, 0, 0, [], md0),
  (18, .iconst 0, 1, 0, 0, 0, 0, 0, 0, [], md0),
  (19, .aload_n 0, 1, 0, 0, 0, 0, 0, 0, [], md0),
  (20, .getfield 15, 3, 147, 0, 1, 2, 0, 0, [], md0),
  (23, .iconst 0, 1, 0, 0, 0, 0, 0, 0, [], md0),
  (24, .iconst 5, 1, 0, 0, 0, 0, 5, 0, [], md0),
  (25, .invokestatic 27, 3, 1127, 0, 4, 0, 0, 0, [], md0),
  (28, .aload_n 1, 1, 0, 1, 0, 0, 0, 0, [], md0),
  (29, .getfield 18, 3, 150, 0, 2, 2, 0, 0, [], md0),
  (32, .iconst 0, 1, 0, 0, 0, 0, 0, 0, [], md0),
  (33, .aload_n 0, 1, 0, 0, 0, 0, 0, 0, [], md0),
  (34, .getfield 18, 3, 150, 0, 2, 2, 0, 0, [], md0),
  (37, .iconst 0, 1, 0, 0, 0, 0, 0, 0, [], md0),
  (38, .iconst 5, 1, 0, 0, 0, 0, 5, 0, [], md0),
  (39, .invokestatic 27, 3, 1127, 0, 4, 0, 0, 0, [], md0),
  (42, .aload_n 1, 1, 0, 1, 0, 0, 0, 0, [], md0),
  (43, .getfield 21, 3, 153, 0, 3, 2, 0, 0, [], md0),
  (46, .iconst 0, 1, 0, 0, 0, 0, 0, 0, [], md0),
  (47, .aload_n 0, 1, 0, 0, 0, 0, 0, 0, [], md0),
  (48, .getfield 21, 3, 153, 0, 3, 2, 0, 0, [], md0),
  (51, .iconst 0, 1, 0, 0, 0, 0, 0, 0, [], md0),
  (52, .iconst 5, 1, 0, 0, 0, 0, 5, 0, [], md0),
  (53, .invokestatic 27, 3, 1127, 0, 4, 0, 0, 0, [], md0),
  (56, .aload_n 1, 1, 0, 1, 0, 0, 0, 0, [], md0),
  (57, .getfield 24, 3, 156, 0, 4, 2, 0, 0, [], md0),
  (60, .iconst 0, 1, 0, 0, 0, 0, 0, 0, [], md0),
  (61, .aload_n 0, 1, 0, 0, 0, 0, 0, 0, [], md0),
  (62, .getfield 24, 3, 156, 0, 4, 2, 0, 0, [], md0),
  (65, .iconst 0, 1, 0, 0, 0, 0, 0, 0, [], md0),
  (66, .iconst 5, 1, 0, 0, 0, 0, 5, 0, [], md0),
  (67, .invokestatic 27, 3, 1127, 0, 4, 0, 0, 0, [], md0),
  (70, .return_, 1, 0, 0, 0, 0, 0, 0, [], md0)]
set_option maxRecDepth 100000 in
theorem tb_Cp_takeFrom : tabOf r_Cp_takeFrom 0 = (0, .aload_n 1, 1, 0, 1, 0, 0, 0, 0, [], md0) ∧ tabOf r_Cp_takeFrom 1 = (1, .getfield 9, 3, 144, 0, 0, 2, 0, 0, [], md0) ∧ tabOf r_Cp_takeFrom 4 = (4, .iconst 0, 1, 0, 0, 0, 0, 0, 0, [], md0) ∧ tabOf r_Cp_takeFrom 5 = (5, .aload_n 0, 1, 0, 0, 0, 0, 0, 0, [], md0) ∧ tabOf r_Cp_takeFrom 6 = (6, .getfield 9, 3, 144, 0, 0, 2, 0, 0, [], md0) ∧ tabOf r_Cp_takeFrom 9 = (9, .iconst 0, 1, 0, 0, 0, 0, 0, 0, [], md0) ∧ tabOf r_Cp_takeFrom 10 = (10, .iconst 5, 1, 0, 0, 0, 0, 5, 0, [], md0) ∧ tabOf r_Cp_takeFrom 11 = (11, .invokestatic 27, 3, 1127, 0, 4, 0, 0, 0, [], md0) ∧ tabOf r_Cp_takeFrom 14 = (14, .aload_n 1, 1, 0, 1, 0, 0, 0, 0, [], md0) ∧ tabOf r_Cp_takeFrom 15 = (15, .getfield 15, 3, 147, 0, 1, 2, 0, 0, [], md0) ∧ tabOf r_Cp_takeFrom 18 = (18, .iconst 0, 1, 0, 0, 0, 0, 0, 0, [], md0) ∧ tabOf r_Cp_takeFrom 19 = (19, .aload_n 0, 1, 0, 0, 0, 0, 0, 0, [], md0) ∧ tabOf r_Cp_takeFrom 20 = (20, .getfield 15, 3, 147, 0, 1, 2, 0, 0, [], md0) ∧ tabOf r_Cp_takeFrom 23 = (23, .iconst 0, 1, 0, 0, 0, 0, 0, 0, [], md0) ∧ tabOf r_Cp_takeFrom 24 = (24, .iconst 5, 1, 0, 0, 0, 0, 5, 0, [], md0) ∧ tabOf r_Cp_takeFrom 25 = (25, .invokestatic 27, 3, 1127, 0, 4, 0, 0, 0, [], md0) ∧ tabOf r_Cp_takeFrom 28 = (28, .aload_n 1, 1, 0, 1, 0, 0, 0, 0, [], md0) ∧ tabOf r_Cp_takeFrom 29 = (29, .getfield 18, 3, 150, 0, 2, 2, 0, 0, [], md0) ∧ tabOf r_Cp_takeFrom 32 = (32, .iconst 0, 1, 0, 0, 0, 0, 0, 0, [], md0) ∧ tabOf r_Cp_takeFrom 33 = (33, .aload_n 0, 1, 0, 0, 0, 0, 0, 0, [], md0) ∧ tabOf r_Cp_takeFrom 34 = (34, .getfield 18, 3, 150, 0, 2, 2, 0, 0, [], md0) ∧ tabOf r_Cp_takeFrom 37 = (37, .iconst 0, 1, 0, 0, 0, 0, 0, 0, [], md0) ∧ tabOf r_Cp_takeFrom 38 = (38, .iconst 5, 1, 0, 0, 0, 0, 5, 0, [], md0) ∧ tabOf r_Cp_takeFrom 39 = (39, .invokestatic 27, 3, 1127, 0, 4, 0, 0, 0, [], md0) ∧ tabOf r_Cp_takeFrom 42 = (42, .aload_n 1, 1, 0, 1, 0, 0, 0, 0, [], md0) ∧ tabOf r_Cp_takeFrom 43 = (43, .getfield 21, 3, 153, 0, 3, 2, 0, 0, [], md0) ∧ tabOf r_Cp_takeFrom 46 = (46, .iconst 0, 1, 0, 0, 0, 0, 0, 0, [], md0) ∧ tabOf r_Cp_takeFrom 47 = (47, .aload_n 0, 1, 0, 0, 0, 0, 0, 0, [], md0) ∧ tabOf r_Cp_takeFrom 48 = (48, .getfield 21, 3, 153, 0, 3, 2, 0, 0, [], md0) ∧ tabOf r_Cp_takeFrom 51 = (51, .iconst 0, 1, 0, 0, 0, 0, 0, 0, [], md0) ∧ tabOf r_Cp_takeFrom 52 = (52, .iconst 5, 1, 0, 0, 0, 0, 5, 0, [], md0) ∧ tabOf r_Cp_takeFrom 53 = (53, .invokestatic 27, 3, 1127, 0, 4, 0, 0, 0, [], md0) ∧ tabOf r_Cp_takeFrom 56 = (56, .aload_n 1, 1, 0, 1, 0, 0, 0, 0, [], md0) ∧ tabOf r_Cp_takeFrom 57 = (57, .getfield 24, 3, 156, 0, 4, 2, 0, 0, [], md0) ∧ tabOf r_Cp_takeFrom 60 = (60, .iconst 0, 1, 0, 0, 0, 0, 0, 0, [], md0) ∧ tabOf r_Cp_takeFrom 61 = (61, .aload_n 0, 1, 0, 0, 0, 0, 0, 0, [], md0) ∧ tabOf r_Cp_takeFrom 62 = (62, .getfield 24, 3, 156, 0, 4, 2, 0, 0, [], md0) ∧ tabOf r_Cp_takeFrom 65 = (65, .iconst 0, 1, 0, 0, 0, 0, 0, 0, [], md0) ∧ tabOf r_Cp_takeFrom 66 = (66, .iconst 5, 1, 0, 0, 0, 0, 5, 0, [], md0) ∧ tabOf r_Cp_takeFrom 67 = (67, .invokestatic 27, 3, 1127, 0, 4, 0, 0, 0, [], md0) ∧ tabOf r_Cp_takeFrom 70 = (70, .return_, 1, 0, 0, 0, 0, 0, 0, [], md0) ∧ m_Cp_takeFrom.2.2.2.2.1.cells = 0 ∧ m_Cp_takeFrom.2.2.2.2.1.slots = 0 ∧ m_Cp_takeFrom.2.2.2.2.1.locals = 26 ∧ m_Cp_takeFrom.2.2.2.1 = none ∧ m_Cp_takeFrom.2.2.1 = 2 := ⟨rfl, rfl, rfl, rfl, rfl, rfl, rfl, rfl, rfl, rfl, rfl, rfl, rfl, rfl, rfl, rfl, rfl, rfl, rfl, rfl, rfl, rfl, rfl, rfl, rfl, rfl, rfl, rfl, rfl, rfl, rfl, rfl, rfl, rfl, rfl, rfl, rfl, rfl, rfl, rfl, rfl, rfl, rfl, rfl, rfl, rfl⟩
set_option maxRecDepth 100000 in
theorem ok_Cp_takeFrom : r_Cp_takeFrom.all (okRow m_Cp_takeFrom.2.2.2.2.1 m_Cp_takeFrom.1.cls m_Cp_takeFrom.2.1 m_Cp_takeFrom.2.2.1 false) = true := by decide +kernel
set_option maxRecDepth 100000 in
theorem in_Cp_takeFrom {args : List Value} {h : MH} {K : KT} (nB : Nat) (hnB : nB ≤ h.2.2.2) (hL : cat2 args ≤ m_Cp_takeFrom.2.2.1) (hdb : noD args = true) (H : ∀ P : PT, (∀ stops n pc lv st h cn sn, wq m_Cp_takeFrom.2.2.2.2.1 m_Cp_takeFrom.2.2.2.1 nB (0, fun _ => 0) Ct (tabOf r_Cp_takeFrom) K P stops n pc lv st h cn sn → P pc lv st h cn sn) → P 0 (entL args m_Cp_takeFrom.2.2.1) [] h 0 0) : Ct m_Cp_takeFrom args h K := Ct.intro r_Cp_takeFrom false nB (by decide) (by decide) ok_Cp_takeFrom hnB hL hdb H
def r_Ce_shifted : List Row := [(0, .iload_n 2, 1, 0, 2, 0, 0, 0, 0, [], md0),
  (1, .tableswitch 49 0 2 #[27, 32, 40], 27, 0, 50, 0, 0, 0, 0, [(0, 28), (1, 33), (2, 41)], md0),
  (28, .lload_n 0, 1, 0, 0, 0, 0, 0, 0, [], md0),
  (29, .bipush 8, 2, 0, 0, 0, 0, 8, 0, [], md0),
  (31, .lushr, 1, 0, 0, 0, 0, 0, 0, [], md0),
  (32, .lreturn, 1, 0, 0, 0, 0, 0, 0, [], md0),
  (33, .lload_n 0, 1, 0, 0, 0, 0, 0, 0, [], md0),
  (34, .ldc2_w 21, 3, 707, 0, 0, 0, 0, (-141289400074369), [], md0),
  (37, .land, 1, 0, 0, 0, 0, 0, 0, [], md0),
  (38, .iconst 1, 1, 0, 0, 0, 0, 1, 0, [], md0),
  (39, .lshl, 1, 0, 0, 0, 0, 0, 0, [], md0),
  (40, .lreturn, 1, 0, 0, 0, 0, 0, 0, [], md0),
  (41, .lload_n 0, 1, 0, 0, 0, 0, 0, 0, [], md0),
  (42, .bipush 8, 2, 0, 0, 0, 0, 8, 0, [], md0),
  (44, .lshl, 1, 0, 0, 0, 0, 0, 0, [], md0),
  (45, .ldc2_w 23, 3, 708, 0, 0, 0, 0, 281474976710655, [], md0),
  (48, .land, 1, 0, 0, 0, 0, 0, 0, [], md0),
  (49, .lreturn, 1, 0, 0, 0, 0, 0, 0, [], md0),
  (50, .lload_n 0, 1, 0, 0, 0, 0, 0, 0, [], md0),
  (51, .ldc2_w 25, 3, 709, 0, 0, 0, 0, (-1103823438082), [], md0),
  (54, .land, 1, 0, 0, 0, 0, 0, 0, [], md0),
  (55, .iconst 1, 1, 0, 0, 0, 0, 1, 0, [], md0),
  (56, .lushr, 1, 0, 0, 0, 0, 0, 0, [], md0),
  (57, .lreturn, 1, 0, 0, 0, 0, 0, 0, [], md0)]
set_option maxRecDepth 100000 in
theorem tb_Ce_shifted : tabOf r_Ce_shifted 0 = (0, .iload_n 2, 1, 0, 2, 0, 0, 0, 0, [], md0) ∧ tabOf r_Ce_shifted 1 = (1, .tableswitch 49 0 2 #[27, 32, 40], 27, 0, 50, 0, 0, 0, 0, [(0, 28), (1, 33), (2, 41)], md0) ∧ tabOf r_Ce_shifted 28 = (28, .lload_n 0, 1, 0, 0, 0, 0, 0, 0, [], md0) ∧ tabOf r_Ce_shifted 29 = (29, .bipush 8, 2, 0, 0, 0, 0, 8, 0, [], md0) ∧ tabOf r_Ce_shifted 31 = (31, .lushr, 1, 0, 0, 0, 0, 0, 0, [], md0) ∧ tabOf r_Ce_shifted 32 = (32, .lreturn, 1, 0, 0, 0, 0, 0, 0, [], md0) ∧ tabOf r_Ce_shifted 33 = (33, .lload_n 0, 1, 0, 0, 0, 0, 0, 0, [], md0) ∧ tabOf r_Ce_shifted 34 = (34, .ldc2_w 21, 3, 707, 0, 0, 0, 0, (-141289400074369), [], md0) ∧ tabOf r_Ce_shifted 37 = (37, .land, 1, 0, 0, 0, 0, 0, 0, [], md0) ∧ tabOf r_Ce_shifted 38 = (38, .iconst 1, 1, 0, 0, 0, 0, 1, 0, [], md0) ∧ tabOf r_Ce_shifted 39 = (39, .lshl, 1, 0, 0, 0, 0, 0, 0, [], md0) ∧ tabOf r_Ce_shifted 40 = (40, .lreturn, 1, 0, 0, 0, 0, 0, 0, [], md0) ∧ tabOf r_Ce_shifted 41 = (41, .lload_n 0, 1, 0, 0, 0, 0, 0, 0, [], md0) ∧ tabOf r_Ce_shifted 42 = (42, .bipush 8, 2, 0, 0, 0, 0, 8, 0, [], md0) ∧ tabOf r_Ce_shifted 44 = (44, .lshl, 1, 0, 0, 0, 0, 0, 0, [], md0) ∧ tabOf r_Ce_shifted 45 = (45, .ldc2_w 23, 3, 708, 0, 0, 0, 0, 281474976710655, [], md0) ∧ tabOf r_Ce_shifted 48 = (48, .land, 1, 0, 0, 0, 0, 0, 0, [], md0) ∧ tabOf r_Ce_shifted 49 = (49, .lreturn, 1, 0, 0, 0, 0, 0, 0, [], md0) ∧ tabOf r_Ce_shifted 50 = (50, .lload_n 0, 1, 0, 0, 0, 0, 0, 0, [], md0) ∧ tabOf r_Ce_shifted 51 = (51, .ldc2_w 25, 3, 709, 0, 0, 0, 0, (-1103823438082), [], md0) ∧ tabOf r_Ce_shifted 54 = (54, .land, 1, 0, 0, 0, 0, 0, 0, [], md0) ∧ tabOf r_Ce_shifted 55 = (55, .iconst 1, 1, 0, 0, 0, 0, 1, 0, [], md0) ∧ tabOf r_Ce_shifted 56 = (56, .lushr, 1, 0, 0, 0, 0, 0, 0, [], md0) ∧ tabOf r_Ce_shifted 57 = (57, .lreturn, 1, 0, 0, 0, 0, 0, 0, [], md0) ∧ m_Ce_shifted.2.2.2.2.1.cells = 0 ∧ m_Ce_shifted.2.2.2.2.1.slots = 0 ∧ m_Ce_shifted.2.2.2.2.1.locals = 0 ∧ m_Ce_shifted.2.2.2.1 = some .long ∧ m_Ce_shifted.2.2.1 = 3 := ⟨rfl, rfl, rfl, rfl, rfl, rfl, rfl, rfl, rfl, rfl, rfl, rfl, rfl, rfl, rfl, rfl, rfl, rfl, rfl, rfl, rfl, rfl, rfl, rfl, rfl, rfl, rfl, rfl, rfl⟩
set_option maxRecDepth 100000 in
theorem ok_Ce_shifted : r_Ce_shifted.all (okRow m_Ce_shifted.2.2.2.2.1 m_Ce_shifted.1.cls m_Ce_shifted.2.1 m_Ce_shifted.2.2.1 false) = true := by decide +kernel
set_option maxRecDepth 100000 in
theorem in_Ce_shifted {args : List Value} {h : MH} {K : KT} (nB : Nat) (hnB : nB ≤ h.2.2.2) (hL : cat2 args ≤ m_Ce_shifted.2.2.1) (hdb : noD args = true) (H : ∀ P : PT, (∀ stops n pc lv st h cn sn, wq m_Ce_shifted.2.2.2.2.1 m_Ce_shifted.2.2.2.1 nB (0, fun _ => 0) Ct (tabOf r_Ce_shifted) K P stops n pc lv st h cn sn → P pc lv st h cn sn) → P 0 (entL args m_Ce_shifted.2.2.1) [] h 0 0) : Ct m_Ce_shifted args h K := Ct.intro r_Ce_shifted false nB (by decide) (by decide) ok_Ce_shifted hnB hL hdb H
def r_In_numberOfTrailingZeros : List Row := [(0, .iload_n 0, 1, 0, 0, 0, 0, 0, 0, [], md0),
  (1, .iconst (-1), 1, 0, 0, 0, 0, (-1), 0, [], md0),
  (2, .ixor, 1, 0, 0, 0, 0, 0, 0, [], md0),
  (3, .iload_n 0, 1, 0, 0, 0, 0, 0, 0, [], md0),
  (4, .iconst 1, 1, 0, 0, 0, 0, 1, 0, [], md0),
  (5, .isub, 1, 0, 0, 0, 0, 0, 0, [], md0),
  (6, .iand, 1, 0, 0, 0, 0, 0, 0, [], md0),
  (7, .istore_n 0, 1, 0, 0, 0, 0, 0, 0, [], md0),
  (8, .iload_n 0, 1, 0, 0, 0, 0, 0, 0, [], md0),
  (9, .ifCond .gt 8, 3, 0, 17, 0, 0, 0, 0, [], md0),
  (12, .iload_n 0, 1, 0, 0, 0, 0, 0, 0, [], md0),
  (13, .bipush 32, 2, 0, 0, 0, 0, 32, 0, [], md0),
  (15, .iand, 1, 0, 0, 0, 0, 0, 0, [], md0),
  (16, .ireturn, 1, 0, 0, 0, 0, 0, 0, [], md0),
  (17, .iconst 1, 1, 0, 0, 0, 0, 1, 0, [], md0),
  (18, .istore_n 1, 1, 0, 1, 0, 0, 0, 0, [], md0),
  (19, .iload_n 0, 1, 0, 0, 0, 0, 0, 0, [], md0),
  (20, .ldc_w 264, 3, 891, 0, 0, 0, 65536, 0, [], md0),
  (23, .if_icmp .le 11, 3, 0, 34, 0, 0, 0, 0, [], md0),
  (26, .iinc 1 16, 3, 0, 1, 0, 0, 16, 0, [], md0),
  (29, .iload_n 0, 1, 0, 0, 0, 0, 0, 0, [], md0),
  (30, .bipush 16, 2, 0, 0, 0, 0, 16, 0, [], md0),
  (32, .iushr, 1, 0, 0, 0, 0, 0, 0, [], md0),
  (33, .istore_n 0, 1, 0, 0, 0, 0, 0, 0, [], md0),
  (34, .iload_n 0, 1, 0, 0, 0, 0, 0, 0, [], md0),
  (35, .sipush 256, 3, 0, 0, 0, 0, 256, 0, [], md0),
  (38, .if_icmp .le 11, 3, 0, 49, 0, 0, 0, 0, [], md0),
  (41, .iinc 1 8, 3, 0, 1, 0, 0, 8, 0, [], md0),
  (44, .iload_n 0, 1, 0, 0, 0, 0, 0, 0, [], md0),
  (45, .bipush 8, 2, 0, 0, 0, 0, 8, 0, [], md0),
  (47, .iushr, 1, 0, 0, 0, 0, 0, 0, [], md0),
  (48, .istore_n 0, 1, 0, 0, 0, 0, 0, 0, [], md0),
  (49, .iload_n 0, 1, 0, 0, 0, 0, 0, 0, [], md0),
  (50, .bipush 16, 2, 0, 0, 0, 0, 16, 0, [], md0),
  (52, .if_icmp .le 10, 3, 0, 62, 0, 0, 0, 0, [], md0),
  (55, .iinc 1 4, 3, 0, 1, 0, 0, 4, 0, [], md0),
  (58, .iload_n 0, 1, 0, 0, 0, 0, 0, 0, [], md0),
  (59, .iconst 4, 1, 0, 0, 0, 0, 4, 0, [], md0),
  (60, .iushr, 1, 0, 0, 0, 0, 0, 0, [], md0),
  (61, .istore_n 0, 1, 0, 0, 0, 0, 0, 0, [], md0),
  (62, .iload_n 0, 1, 0, 0, 0, 0, 0, 0, [], md0),
  (63, .iconst 4, 1, 0, 0, 0, 0, 4, 0, [], md0),
  (64, .if_icmp .le 10, 3, 0, 74, 0, 0, 0, 0, [], md0),
  (67, .iinc 1 2, 3, 0, 1, 0, 0, 2, 0, [], md0),
  (70, .iload_n 0, 1, 0, 0, 0, 0, 0, 0, [], md0),
  (71, .iconst 2, 1, 0, 0, 0, 0, 2, 0, [], md0),
  (72, .iushr, 1, 0, 0, 0, 0, 0, 0, [], md0),
  (73, .istore_n 0, 1, 0, 0, 0, 0, 0, 0, [], md0),
  (74, .iload_n 1, 1, 0, 1, 0, 0, 0, 0, [], md0),
  (75, .iload_n 0, 1, 0, 0, 0, 0, 0, 0, [], md0),
  (76, .iconst 1, 1, 0, 0, 0, 0, 1, 0, [], md0),
  (77, .iushr, 1, 0, 0, 0, 0, 0, 0, [], md0),
  (78, .iadd, 1, 0, 0, 0, 0, 0, 0, [], md0),
  (79, .ireturn, 1, 0, 0, 0, 0, 0, 0, [], md0)]
set_option maxRecDepth 100000 in
theorem tb_In_numberOfTrailingZeros : tabOf r_In_numberOfTrailingZeros 0 = (0, .iload_n 0, 1, 0, 0, 0, 0, 0, 0, [], md0) ∧ tabOf r_In_numberOfTrailingZeros 1 = (1, .iconst (-1), 1, 0, 0, 0, 0, (-1), 0, [], md0) ∧ tabOf r_In_numberOfTrailingZeros 2 = (2, .ixor, 1, 0, 0, 0, 0, 0, 0, [], md0) ∧ tabOf r_In_numberOfTrailingZeros 3 = (3, .iload_n 0, 1, 0, 0, 0, 0, 0, 0, [], md0) ∧ tabOf r_In_numberOfTrailingZeros 4 = (4, .iconst 1, 1, 0, 0, 0, 0, 1, 0, [], md0) ∧ tabOf r_In_numberOfTrailingZeros 5 = (5, .isub, 1, 0, 0, 0, 0, 0, 0, [], md0) ∧ tabOf r_In_numberOfTrailingZeros 6 = (6, .iand, 1, 0, 0, 0, 0, 0, 0, [], md0) ∧ tabOf r_In_numberOfTrailingZeros 7 = (7, .istore_n 0, 1, 0, 0, 0, 0, 0, 0, [], md0) ∧ tabOf r_In_numberOfTrailingZeros 8 = (8, .iload_n 0, 1, 0, 0, 0, 0, 0, 0, [], md0) ∧ tabOf r_In_numberOfTrailingZeros 9 = (9, .ifCond .gt 8, 3, 0, 17, 0, 0, 0, 0, [], md0) ∧ tabOf r_In_numberOfTrailingZeros 12 = (12, .iload_n 0, 1, 0, 0, 0, 0, 0, 0, [], md0) ∧ tabOf r_In_numberOfTrailingZeros 13 = (13, .bipush 32, 2, 0, 0, 0, 0, 32, 0, [], md0) ∧ tabOf r_In_numberOfTrailingZeros 15 = (15, .iand, 1, 0, 0, 0, 0, 0, 0, [], md0) ∧ tabOf r_In_numberOfTrailingZeros 16 = (16, .ireturn, 1, 0, 0, 0, 0, 0, 0, [], md0) ∧ tabOf r_In_numberOfTrailingZeros 17 = (17, .iconst 1, 1, 0, 0, 0, 0, 1, 0, [], md0) ∧ tabOf r_In_numberOfTrailingZeros 18 = (18, .istore_n 1, 1, 0, 1, 0, 0, 0, 0, [], md0) ∧ tabOf r_In_numberOfTrailingZeros 19 = (19, .iload_n 0, 1, 0, 0, 0, 0, 0, 0, [], md0) ∧ tabOf r_In_numberOfTrailingZeros 20 = (20, .ldc_w 264, 3, 891, 0, 0, 0, 65536, 0, [], md0) ∧ tabOf r_In_numberOfTrailingZeros 23 = (23, .if_icmp .le 11, 3, 0, 34, 0, 0, 0, 0, [], md0) ∧ tabOf r_In_numberOfTrailingZeros 26 = (26, .iinc 1 16, 3, 0, 1, 0, 0, 16, 0, [], md0) ∧ tabOf r_In_numberOfTrailingZeros 29 = (29, .iload_n 0, 1, 0, 0, 0, 0, 0, 0, [], md0) ∧ tabOf r_In_numberOfTrailingZeros 30 = (30, .bipush 16, 2, 0, 0, 0, 0, 16, 0, [], md0) ∧ tabOf r_In_numberOfTrailingZeros 32 = (32, .iushr, 1, 0, 0, 0, 0, 0, 0, [], md0) ∧ tabOf r_In_numberOfTrailingZeros 33 = (33, .istore_n 0, 1, 0, 0, 0, 0, 0, 0, [], md0) ∧ tabOf r_In_numberOfTrailingZeros 34 = (34, .iload_n 0, 1, 0, 0, 0, 0, 0, 0, [], md0) ∧ tabOf r_In_numberOfTrailingZeros 35 = (35, .sipush 256, 3, 0, 0, 0, 0, 256, 0, [], md0) ∧ tabOf r_In_numberOfTrailingZeros 38 = (38, .if_icmp .le 11, 3, 0, 49, 0, 0, 0, 0, [], md0) ∧ tabOf r_In_numberOfTrailingZeros 41 = (41, .iinc 1 8, 3, 0, 1, 0, 0, 8, 0, [], md0) ∧ tabOf r_In_numberOfTrailingZeros 44 = (44, .iload_n 0, 1, 0, 0, 0, 0, 0, 0, [], md0) ∧ tabOf r_In_numberOfTrailingZeros 45 = (45, .bipush 8, 2, 0, 0, 0, 0, 8, 0, [], md0) ∧ tabOf r_In_numberOfTrailingZeros 47 = (47, .iushr, 1, 0, 0, 0, 0, 0, 0, [], md0) ∧ tabOf r_In_numberOfTrailingZeros 48 = (48, .istore_n 0, 1, 0, 0, 0, 0, 0, 0, [], md0) ∧ tabOf r_In_numberOfTrailingZeros 49 = (49, .iload_n 0, 1, 0, 0, 0, 0, 0, 0, [], md0) ∧ tabOf r_In_numberOfTrailingZeros 50 = (50, .bipush 16, 2, 0, 0, 0, 0, 16, 0, [], md0) ∧ tabOf r_In_numberOfTrailingZeros 52 = (52, .if_icmp .le 10, 3, 0, 62, 0, 0, 0, 0, [], md0) ∧ tabOf r_In_numberOfTrailingZeros 55 = (55, .iinc 1 4, 3, 0, 1, 0, 0, 4, 0, [], md0) ∧ tabOf r_In_numberOfTrailingZeros 58 = (58, .iload_n 0, 1, 0, 0, 0, 0, 0, 0, [], md0) ∧ tabOf r_In_numberOfTrailingZeros 59 = (59, .iconst 4, 1, 0, 0, 0, 0, 4, 0, [], md0) ∧ tabOf r_In_numberOfTrailingZeros 60 = (60, .iushr, 1, 0, 0, 0, 0, 0, 0, [], md0) ∧ tabOf r_In_numberOfTrailingZeros 61 = (61, .istore_n 0, 1, 0, 0, 0, 0, 0, 0, [], md0) ∧ tabOf r_In_numberOfTrailingZeros 62 = (62, .iload_n 0, 1, 0, 0, 0, 0, 0, 0, [], md0) ∧ tabOf r_In_numberOfTrailingZeros 63 = (63, .iconst 4, 1, 0, 0, 0, 0, 4, 0, [], md0) ∧ tabOf r_In_numberOfTrailingZeros 64 = (64, .if_icmp .le 10, 3, 0, 74, 0, 0, 0, 0, [], md0) ∧ tabOf r_In_numberOfTrailingZeros 67 = (67, .iinc 1 2, 3, 0, 1, 0, 0, 2, 0, [], md0) ∧ tabOf r_In_numberOfTrailingZeros 70 = (70, .iload_n 0, 1, 0, 0, 0, 0, 0, 0, [], md0) ∧ tabOf r_In_numberOfTrailingZeros 71 = (71, .iconst 2, 1, 0, 0, 0, 0, 2, 0, [], md0) ∧ tabOf r_In_numberOfTrailingZeros 72 = (72, .iushr, 1, 0, 0, 0, 0, 0, 0, [], md0) ∧ tabOf r_In_numberOfTrailingZeros 73 = (73, .istore_n 0, 1, 0, 0, 0, 0, 0, 0, [], md0) ∧ tabOf r_In_numberOfTrailingZeros 74 = (74, .iload_n 1, 1, 0, 1, 0, 0, 0, 0, [], md0) ∧ tabOf r_In_numberOfTrailingZeros 75 = (75, .iload_n 0, 1, 0, 0, 0, 0, 0, 0, [], md0) ∧ tabOf r_In_numberOfTrailingZeros 76 = (76, .iconst 1, 1, 0, 0, 0, 0, 1, 0, [], md0) ∧ tabOf r_In_numberOfTrailingZeros 77 = (77, .iushr, 1, 0, 0, 0, 0, 0, 0, [], md0) ∧ tabOf r_In_numberOfTrailingZeros 78 = (78, .iadd, 1, 0, 0, 0, 0, 0, 0, [], md0) ∧ tabOf r_In_numberOfTrailingZeros 79 = (79, .ireturn, 1, 0, 0, 0, 0, 0, 0, [], md0) ∧ m_In_numberOfTrailingZeros.2.2.2.2.1.cells = 0 ∧ m_In_numberOfTrailingZeros.2.2.2.2.1.slots = 0 ∧ m_In_numberOfTrailingZeros.2.2.2.2.1.locals = 0 ∧ m_In_numberOfTrailingZeros.2.2.2.1 = some .int ∧ m_In_numberOfTrailingZeros.2.2.1 = 2 := ⟨rfl, rfl, rfl, rfl, rfl, rfl, rfl, rfl, rfl, rfl, rfl, rfl, rfl, rfl, rfl, rfl, rfl, rfl, rfl, rfl, rfl, rfl, rfl, rfl, rfl, rfl, rfl, rfl, rfl, rfl, rfl, rfl, rfl, rfl, rfl, rfl, rfl, rfl, rfl, rfl, rfl, rfl, rfl, rfl, rfl, rfl, rfl, rfl, rfl, rfl, rfl, rfl, rfl, rfl, rfl, rfl, rfl, rfl, rfl⟩
set_option maxRecDepth 100000 in
theorem ok_In_numberOfTrailingZeros : r_In_numberOfTrailingZeros.all (okRow m_In_numberOfTrailingZeros.2.2.2.2.1 m_In_numberOfTrailingZeros.1.cls m_In_numberOfTrailingZeros.2.1 m_In_numberOfTrailingZeros.2.2.1 false) = true := by decide +kernel
set_option maxRecDepth 100000 in
theorem in_In_numberOfTrailingZeros {args : List Value} {h : MH} {K : KT} (nB : Nat) (hnB : nB ≤ h.2.2.2) (hL : cat2 args ≤ m_In_numberOfTrailingZeros.2.2.1) (hdb : noD args = true) (H : ∀ P : PT, (∀ stops n pc lv st h cn sn, wq m_In_numberOfTrailingZeros.2.2.2.2.1 m_In_numberOfTrailingZeros.2.2.2.1 nB (0, fun _ => 0) Ct (tabOf r_In_numberOfTrailingZeros) K P stops n pc lv st h cn sn → P pc lv st h cn sn) → P 0 (entL args m_In_numberOfTrailingZeros.2.2.1) [] h 0 0) : Ct m_In_numberOfTrailingZeros args h K := Ct.intro r_In_numberOfTrailingZeros false nB (by decide) (by decide) ok_In_numberOfTrailingZeros hnB hL hdb H
def r_Lo_numberOfTrailingZeros : List Row := [(0, .lload_n 0, 1, 0, 0, 0, 0, 0, 0, [], md0),
  (1, .l2i, 1, 0, 0, 0, 0, 0, 0, [], md0),
  (2, .istore_n 2, 1, 0, 2, 0, 0, 0, 0, [], md0),
  (3, .iload_n 2, 1, 0, 2, 0, 0, 0, 0, [], md0),
  (4, .ifCond .ne 17, 3, 0, 21, 0, 0, 0, 0, [], md0),
  (7, .bipush 32, 2, 0, 0, 0, 0, 32, 0, [], md0),
  (9, .lload_n 0, 1, 0, 0, 0, 0, 0, 0, [], md0),
  (10, .bipush 32, 2, 0, 0, 0, 0, 32, 0, [], md0),
  (12, .lushr, 1, 0, 0, 0, 0, 0, 0, [], md0),
  (13, .l2i, 1, 0, 0, 0, 0, 0, 0, [], md0),
  (14, .invokestatic 311, 3, 888, 0, 0, 0, 0, 0, [], m_In_numberOfTrailingZeros),
  (17, .iadd, 1, 0, 0, 0, 0, 0, 0, [], md0),
  (18, .goto 7, 3, 0, 25, 0, 0, 0, 0, [], md0),
  (21, .iload_n 2, 1, 0, 2, 0, 0, 0, 0, [], md0),
  (22, .invokestatic 311, 3, 888, 0, 0, 0, 0, 0, [], m_In_numberOfTrailingZeros),
  (25, .ireturn, 1, 0, 0, 0, 0, 0, 0, [], md0)]
set_option maxRecDepth 100000 in
theorem tb_Lo_numberOfTrailingZeros : tabOf r_Lo_numberOfTrailingZeros 0 = (0, .lload_n 0, 1, 0, 0, 0, 0, 0, 0, [], md0) ∧ tabOf r_Lo_numberOfTrailingZeros 1 = (1, .l2i, 1, 0, 0, 0, 0, 0, 0, [], md0) ∧ tabOf r_Lo_numberOfTrailingZeros 2 = (2, .istore_n 2, 1, 0, 2, 0, 0, 0, 0, [], md0) ∧ tabOf r_Lo_numberOfTrailingZeros 3 = (3, .iload_n 2, 1, 0, 2, 0, 0, 0, 0, [], md0) ∧ tabOf r_Lo_numberOfTrailingZeros 4 = (4, .ifCond .ne 17, 3, 0, 21, 0, 0, 0, 0, [], md0) ∧ tabOf r_Lo_numberOfTrailingZeros 7 = (7, .bipush 32, 2, 0, 0, 0, 0, 32, 0, [], md0) ∧ tabOf r_Lo_numberOfTrailingZeros 9 = (9, .lload_n 0, 1, 0, 0, 0, 0, 0, 0, [], md0) ∧ tabOf r_Lo_numberOfTrailingZeros 10 = (10, .bipush 32, 2, 0, 0, 0, 0, 32, 0, [], md0) ∧ tabOf r_Lo_numberOfTrailingZeros 12 = (12, .lushr, 1, 0, 0, 0, 0, 0, 0, [], md0) ∧ tabOf r_Lo_numberOfTrailingZeros 13 = (13, .l2i, 1, 0, 0, 0, 0, 0, 0, [], md0) ∧ tabOf r_Lo_numberOfTrailingZeros 14 = (14, .invokestatic 311, 3, 888, 0, 0, 0, 0, 0, [], m_In_numberOfTrailingZeros) ∧ tabOf r_Lo_numberOfTrailingZeros 17 = (17, .iadd, 1, 0, 0, 0, 0, 0, 0, [], md0) ∧ tabOf r_Lo_numberOfTrailingZeros 18 = (18, .goto 7, 3, 0, 25, 0, 0, 0, 0, [], md0) ∧ tabOf r_Lo_numberOfTrailingZeros 21 = (21, .iload_n 2, 1, 0, 2, 0, 0, 0, 0, [], md0) ∧ tabOf r_Lo_numberOfTrailingZeros 22 = (22, .invokestatic 311, 3, 888, 0, 0, 0, 0, 0, [], m_In_numberOfTrailingZeros) ∧ tabOf r_Lo_numberOfTrailingZeros 25 = (25, .ireturn, 1, 0, 0, 0, 0, 0, 0, [], md0) ∧ m_Lo_numberOfTrailingZeros.2.2.2.2.1.cells = 0 ∧ m_Lo_numberOfTrailingZeros.2.2.2.2.1.slots = 0 ∧ m_Lo_numberOfTrailingZeros.2.2.2.2.1.locals = 21 ∧ m_Lo_numberOfTrailingZeros.2.2.2.1 = some .int ∧ m_Lo_numberOfTrailingZeros.2.2.1 = 3 ∧ m_In_numberOfTrailingZeros.2.2.2.2.1.cells = 0 ∧ m_In_numberOfTrailingZeros.2.2.2.2.1.slots = 0 ∧ m_In_numberOfTrailingZeros.2.2.2.2.2.1 = 1 := ⟨rfl, rfl, rfl, rfl, rfl, rfl, rfl, rfl, rfl, rfl, rfl, rfl, rfl, rfl, rfl, rfl, rfl, rfl, rfl, rfl, rfl, rfl, rfl, rfl⟩
set_option maxRecDepth 100000 in
theorem ok_Lo_numberOfTrailingZeros : r_Lo_numberOfTrailingZeros.all (okRow m_Lo_numberOfTrailingZeros.2.2.2.2.1 m_Lo_numberOfTrailingZeros.1.cls m_Lo_numberOfTrailingZeros.2.1 m_Lo_numberOfTrailingZeros.2.2.1 false) = true := by decide +kernel
set_option maxRecDepth 100000 in
theorem in_Lo_numberOfTrailingZeros {args : List Value} {h : MH} {K : KT} (nB : Nat) (hnB : nB ≤ h.2.2.2) (hL : cat2 args ≤ m_Lo_numberOfTrailingZeros.2.2.1) (hdb : noD args = true) (H : ∀ P : PT, (∀ stops n pc lv st h cn sn, wq m_Lo_numberOfTrailingZeros.2.2.2.2.1 m_Lo_numberOfTrailingZeros.2.2.2.1 nB (0, fun _ => 0) Ct (tabOf r_Lo_numberOfTrailingZeros) K P stops n pc lv st h cn sn → P pc lv st h cn sn) → P 0 (entL args m_Lo_numberOfTrailingZeros.2.2.1) [] h 0 0) : Ct m_Lo_numberOfTrailingZeros args h K := Ct.intro r_Lo_numberOfTrailingZeros false nB (by decide) (by decide) ok_Lo_numberOfTrailingZeros hnB hL hdb H
def r_Ce_neighbour : List Row := [(0, .lconst 1, 1, 0, 0, 0, 0, 0, 1, [], md0),
  (1, .iload_n 0, 1, 0, 0, 0, 0, 0, 0, [], md0),
  (2, .lshl, 1, 0, 0, 0, 0, 0, 0, [], md0),
  (3, .iload_n 1, 1, 0, 1, 0, 0, 0, 0, [], md0),
  (4, .invokestatic 9, 3, 704, 0, 0, 0, 0, 0, [], m_Ce_shifted),
  (7, .lstore_n 2, 1, 0, 2, 0, 0, 0, 0, [], md0),
  (8, .lload_n 2, 1, 0, 2, 0, 0, 0, 0, [], md0),
  (9, .lconst 0, 1, 0, 0, 0, 0, 0, 0, [], md0),
  (10, .lcmp, 1, 0, 0, 0, 0, 0, 0, [], md0),
  (11, .ifCond .ne 7, 3, 0, 18, 0, 0, 0, 0, [], md0),
  (14, .iconst (-1), 1, 0, 0, 0, 0, (-1), 0, [], md0),
  (15, .goto 7, 3, 0, 22, 0, 0, 0, 0, [], md0),
  (18, .lload_n 2, 1, 0, 2, 0, 0, 0, 0, [], md0),
  (19, .invokestatic 15, 3, 885, 0, 0, 0, 0, 0, [], m_Lo_numberOfTrailingZeros),
  (22, .ireturn, 1, 0, 0, 0, 0, 0, 0, [], md0)]
set_option maxRecDepth 100000 in
theorem tb_Ce_neighbour : tabOf r_Ce_neighbour 0 = (0, .lconst 1, 1, 0, 0, 0, 0, 0, 1, [], md0) ∧ tabOf r_Ce_neighbour 1 = (1, .iload_n 0, 1, 0, 0, 0, 0, 0, 0, [], md0) ∧ tabOf r_Ce_neighbour 2 = (2, .lshl, 1, 0, 0, 0, 0, 0, 0, [], md0) ∧ tabOf r_Ce_neighbour 3 = (3, .iload_n 1, 1, 0, 1, 0, 0, 0, 0, [], md0) ∧ tabOf r_Ce_neighbour 4 = (4, .invokestatic 9, 3, 704, 0, 0, 0, 0, 0, [], m_Ce_shifted) ∧ tabOf r_Ce_neighbour 7 = (7, .lstore_n 2, 1, 0, 2, 0, 0, 0, 0, [], md0) ∧ tabOf r_Ce_neighbour 8 = (8, .lload_n 2, 1, 0, 2, 0, 0, 0, 0, [], md0) ∧ tabOf r_Ce_neighbour 9 = (9, .lconst 0, 1, 0, 0, 0, 0, 0, 0, [], md0) ∧ tabOf r_Ce_neighbour 10 = (10, .lcmp, 1, 0, 0, 0, 0, 0, 0, [], md0) ∧ tabOf r_Ce_neighbour 11 = (11, .ifCond .ne 7, 3, 0, 18, 0, 0, 0, 0, [], md0) ∧ tabOf r_Ce_neighbour 14 = (14, .iconst (-1), 1, 0, 0, 0, 0, (-1), 0, [], md0) ∧ tabOf r_Ce_neighbour 15 = (15, .goto 7, 3, 0, 22, 0, 0, 0, 0, [], md0) ∧ tabOf r_Ce_neighbour 18 = (18, .lload_n 2, 1, 0, 2, 0, 0, 0, 0, [], md0) ∧ tabOf r_Ce_neighbour 19 = (19, .invokestatic 15, 3, 885, 0, 0, 0, 0, 0, [], m_Lo_numberOfTrailingZeros) ∧ tabOf r_Ce_neighbour 22 = (22, .ireturn, 1, 0, 0, 0, 0, 0, 0, [], md0) ∧ m_Ce_neighbour.2.2.2.2.1.cells = 0 ∧ m_Ce_neighbour.2.2.2.2.1.slots = 0 ∧ m_Ce_neighbour.2.2.2.2.1.locals = 43 ∧ m_Ce_neighbour.2.2.2.1 = some .int ∧ m_Ce_neighbour.2.2.1 = 4 ∧ m_Ce_shifted.2.2.2.2.1.cells = 0 ∧ m_Ce_shifted.2.2.2.2.1.slots = 0 ∧ m_Ce_shifted.2.2.2.2.2.1 = 2 ∧ m_Lo_numberOfTrailingZeros.2.2.2.2.1.cells = 0 ∧ m_Lo_numberOfTrailingZeros.2.2.2.2.1.slots = 0 ∧ m_Lo_numberOfTrailingZeros.2.2.2.2.2.1 = 1 := ⟨rfl, rfl, rfl, rfl, rfl, rfl, rfl, rfl, rfl, rfl, rfl, rfl, rfl, rfl, rfl, rfl, rfl, rfl, rfl, rfl, rfl, rfl, rfl, rfl, rfl, rfl⟩
set_option maxRecDepth 100000 in
theorem ok_Ce_neighbour : r_Ce_neighbour.all (okRow m_Ce_neighbour.2.2.2.2.1 m_Ce_neighbour.1.cls m_Ce_neighbour.2.1 m_Ce_neighbour.2.2.1 false) = true := by decide +kernel
set_option maxRecDepth 100000 in
theorem in_Ce_neighbour {args : List Value} {h : MH} {K : KT} (nB : Nat) (hnB : nB ≤ h.2.2.2) (hL : cat2 args ≤ m_Ce_neighbour.2.2.1) (hdb : noD args = true) (H : ∀ P : PT, (∀ stops n pc lv st h cn sn, wq m_Ce_neighbour.2.2.2.2.1 m_Ce_neighbour.2.2.2.1 nB (0, fun _ => 0) Ct (tabOf r_Ce_neighbour) K P stops n pc lv st h cn sn → P pc lv st h cn sn) → P 0 (entL args m_Ce_neighbour.2.2.1) [] h 0 0) : Ct m_Ce_neighbour args h K := Ct.intro r_Ce_neighbour false nB (by decide) (by decide) ok_Ce_neighbour hnB hL hdb H
def r_Rh_apart : List Row := [(0, .iload_n 0, 1, 0, 0, 0, 0, 0, 0, [], md0),
  (1, .bipush 8, 2, 0, 0, 0, 0, 8, 0, [], md0),
  (3, .irem, 1, 0, 0, 0, 0, 0, 0, [], md0),
  (4, .iload_n 1, 1, 0, 1, 0, 0, 0, 0, [], md0),
  (5, .bipush 8, 2, 0, 0, 0, 0, 8, 0, [], md0),
  (7, .irem, 1, 0, 0, 0, 0, 0, 0, [], md0),
  (8, .isub, 1, 0, 0, 0, 0, 0, 0, [], md0),
  (9, .invokestatic 422, 3, 453, 0, 6, 0, 0, 0, [], md0),
  (12, .iload_n 0, 1, 0, 0, 0, 0, 0, 0, [], md0),
  (13, .bipush 8, 2, 0, 0, 0, 0, 8, 0, [], md0),
  (15, .idiv, 1, 0, 0, 0, 0, 0, 0, [], md0),
  (16, .iload_n 1, 1, 0, 1, 0, 0, 0, 0, [], md0),
  (17, .bipush 8, 2, 0, 0, 0, 0, 8, 0, [], md0),
  (19, .idiv, 1, 0, 0, 0, 0, 0, 0, [], md0),
  (20, .isub, 1, 0, 0, 0, 0, 0, 0, [], md0),
  (21, .invokestatic 422, 3, 453, 0, 6, 0, 0, 0, [], md0),
  (24, .iadd, 1, 0, 0, 0, 0, 0, 0, [], md0),
  (25, .ireturn, 1, 0, 0, 0, 0, 0, 0, [], md0)]
set_option maxRecDepth 100000 in
theorem tb_Rh_apart : tabOf r_Rh_apart 0 = (0, .iload_n 0, 1, 0, 0, 0, 0, 0, 0, [], md0) ∧ tabOf r_Rh_apart 1 = (1, .bipush 8, 2, 0, 0, 0, 0, 8, 0, [], md0) ∧ tabOf r_Rh_apart 3 = (3, .irem, 1, 0, 0, 0, 0, 0, 0, [], md0) ∧ tabOf r_Rh_apart 4 = (4, .iload_n 1, 1, 0, 1, 0, 0, 0, 0, [], md0) ∧ tabOf r_Rh_apart 5 = (5, .bipush 8, 2, 0, 0, 0, 0, 8, 0, [], md0) ∧ tabOf r_Rh_apart 7 = (7, .irem, 1, 0, 0, 0, 0, 0, 0, [], md0) ∧ tabOf r_Rh_apart 8 = (8, .isub, 1, 0, 0, 0, 0, 0, 0, [], md0) ∧ tabOf r_Rh_apart 9 = (9, .invokestatic 422, 3, 453, 0, 6, 0, 0, 0, [], md0) ∧ tabOf r_Rh_apart 12 = (12, .iload_n 0, 1, 0, 0, 0, 0, 0, 0, [], md0) ∧ tabOf r_Rh_apart 13 = (13, .bipush 8, 2, 0, 0, 0, 0, 8, 0, [], md0) ∧ tabOf r_Rh_apart 15 = (15, .idiv, 1, 0, 0, 0, 0, 0, 0, [], md0) ∧ tabOf r_Rh_apart 16 = (16, .iload_n 1, 1, 0, 1, 0, 0, 0, 0, [], md0) ∧ tabOf r_Rh_apart 17 = (17, .bipush 8, 2, 0, 0, 0, 0, 8, 0, [], md0) ∧ tabOf r_Rh_apart 19 = (19, .idiv, 1, 0, 0, 0, 0, 0, 0, [], md0) ∧ tabOf r_Rh_apart 20 = (20, .isub, 1, 0, 0, 0, 0, 0, 0, [], md0) ∧ tabOf r_Rh_apart 21 = (21, .invokestatic 422, 3, 453, 0, 6, 0, 0, 0, [], md0) ∧ tabOf r_Rh_apart 24 = (24, .iadd, 1, 0, 0, 0, 0, 0, 0, [], md0) ∧ tabOf r_Rh_apart 25 = (25, .ireturn, 1, 0, 0, 0, 0, 0, 0, [], md0) ∧ m_Rh_apart.2.2.2.2.1.cells = 0 ∧ m_Rh_apart.2.2.2.2.1.slots = 0 ∧ m_Rh_apart.2.2.2.2.1.locals = 21 ∧ m_Rh_apart.2.2.2.1 = some .int ∧ m_Rh_apart.2.2.1 = 2 ∧ m_Ma_abs.2.2.2.2.1.cells = 0 ∧ m_Ma_abs.2.2.2.2.1.slots = 0 ∧ m_Ma_abs.2.2.2.2.2.1 = 1 := ⟨rfl, rfl, rfl, rfl, rfl, rfl, rfl, rfl, rfl, rfl, rfl, rfl, rfl, rfl, rfl, rfl, rfl, rfl, rfl, rfl, rfl, rfl, rfl, rfl, rfl, rfl⟩
set_option maxRecDepth 100000 in
theorem ok_Rh_apart : r_Rh_apart.all (okRow m_Rh_apart.2.2.2.2.1 m_Rh_apart.1.cls m_Rh_apart.2.1 m_Rh_apart.2.2.1 false) = true := by decide +kernel
set_option maxRecDepth 100000 in
theorem in_Rh_apart {args : List Value} {h : MH} {K : KT} (nB : Nat) (hnB : nB ≤ h.2.2.2) (hL : cat2 args ≤ m_Rh_apart.2.2.1) (hdb : noD args = true) (H : ∀ P : PT, (∀ stops n pc lv st h cn sn, wq m_Rh_apart.2.2.2.2.1 m_Rh_apart.2.2.2.1 nB (0, fun _ => 0) Ct (tabOf r_Rh_apart) K P stops n pc lv st h cn sn → P pc lv st h cn sn) → P 0 (entL args m_Rh_apart.2.2.1) [] h 0 0) : Ct m_Rh_apart args h K := Ct.intro r_Rh_apart false nB (by decide) (by decide) ok_Rh_apart hnB hL hdb H
def r_Cp_nearestTo : List Row := [(0, .iload_n 1, 1, 0, 1, 0, 0, 0, 0, [], md0),
  (1, .istore_n 2, 1, 0, 2, 0, 0, 0, 0, [], md0),
  (2, .bipush 48, 2, 0, 0, 0, 0, 48, 0, [], md0),
  (4, .istore_n 3, 1, 0, 3, 0, 0, 0, 0, [], md0),
  (5, .iconst 0, 1, 0, 0, 0, 0, 0, 0, [], md0),
  (6, .istore 4, 2, 0, 4, 0, 0, 0, 0, [], md0),
  (8, .iload 4, 2, 0, 4, 0, 0, 0, 0, [], md0),
  (10, .iconst 4, 1, 0, 0, 0, 0, 4, 0, [], md0),
  (11, .if_icmp .ge 43, 3, 0, 54, 0, 0, 0, 0, [], md0),
  (14, .iload_n 1, 1, 0, 1, 0, 0, 0, 0, [], md0),
  (15, .iload 4, 2, 0, 4, 0, 0, 0, 0, [], md0),
  (17, .invokestatic 37, 3, 1049, 0, 0, 0, 0, 0, [], m_Ce_neighbour),
  (20, .istore 5, 2, 0, 5, 0, 0, 0, 0, [], md0),
  (22, .iload 5, 2, 0, 5, 0, 0, 0, 0, [], md0),
  (24, .iconst (-1), 1, 0, 0, 0, 0, (-1), 0, [], md0),
  (25, .if_icmp .eq 23, 3, 0, 48, 0, 0, 0, 0, [], md0),
  (28, .iload 5, 2, 0, 5, 0, 0, 0, 0, [], md0),
  (30, .iload_n 0, 1, 0, 0, 0, 0, 0, 0, [], md0),
  (31, .invokestatic 42, 3, 1050, 0, 1, 0, 0, 0, [], m_Rh_apart),
  (34, .iload_n 3, 1, 0, 3, 0, 0, 0, 0, [], md0),
  (35, .if_icmp .ge 13, 3, 0, 48, 0, 0, 0, 0, [], md0),
  (38, .iload 5, 2, 0, 5, 0, 0, 0, 0, [], md0),
  (40, .iload_n 0, 1, 0, 0, 0, 0, 0, 0, [], md0),
  (41, .invokestatic 42, 3, 1050, 0, 1, 0, 0, 0, [], m_Rh_apart),
  (44, .istore_n 3, 1, 0, 3, 0, 0, 0, 0, [], md0),
  (45, .iload 5, 2, 0, 5, 0, 0, 0, 0, [], md0),
  (47, .istore_n 2, 1, 0, 2, 0, 0, 0, 0, [], md0),
  (48, .iinc 4 1, 3, 0, 4, 0, 0, 1, 0, [], md0),
  (51, .goto (-43), 3, 0, 8, 0, 0, 0, 0, [], md0),
  (54, .iload_n 2, 1, 0, 2, 0, 0, 0, 0, [], md0),
  (55, .ireturn, 1, 0, 0, 0, 0, 0, 0, [], md0)]
set_option maxRecDepth 100000 in
theorem tb_Cp_nearestTo : tabOf r_Cp_nearestTo 0 = (0, .iload_n 1, 1, 0, 1, 0, 0, 0, 0, [], md0) ∧ tabOf r_Cp_nearestTo 1 = (1, .istore_n 2, 1, 0, 2, 0, 0, 0, 0, [], md0) ∧ tabOf r_Cp_nearestTo 2 = (2, .bipush 48, 2, 0, 0, 0, 0, 48, 0, [], md0) ∧ tabOf r_Cp_nearestTo 4 = (4, .istore_n 3, 1, 0, 3, 0, 0, 0, 0, [], md0) ∧ tabOf r_Cp_nearestTo 5 = (5, .iconst 0, 1, 0, 0, 0, 0, 0, 0, [], md0) ∧ tabOf r_Cp_nearestTo 6 = (6, .istore 4, 2, 0, 4, 0, 0, 0, 0, [], md0) ∧ tabOf r_Cp_nearestTo 8 = (8, .iload 4, 2, 0, 4, 0, 0, 0, 0, [], md0) ∧ tabOf r_Cp_nearestTo 10 = (10, .iconst 4, 1, 0, 0, 0, 0, 4, 0, [], md0) ∧ tabOf r_Cp_nearestTo 11 = (11, .if_icmp .ge 43, 3, 0, 54, 0, 0, 0, 0, [], md0) ∧ tabOf r_Cp_nearestTo 14 = (14, .iload_n 1, 1, 0, 1, 0, 0, 0, 0, [], md0) ∧ tabOf r_Cp_nearestTo 15 = (15, .iload 4, 2, 0, 4, 0, 0, 0, 0, [], md0) ∧ tabOf r_Cp_nearestTo 17 = (17, .invokestatic 37, 3, 1049, 0, 0, 0, 0, 0, [], m_Ce_neighbour) ∧ tabOf r_Cp_nearestTo 20 = (20, .istore 5, 2, 0, 5, 0, 0, 0, 0, [], md0) ∧ tabOf r_Cp_nearestTo 22 = (22, .iload 5, 2, 0, 5, 0, 0, 0, 0, [], md0) ∧ tabOf r_Cp_nearestTo 24 = (24, .iconst (-1), 1, 0, 0, 0, 0, (-1), 0, [], md0) ∧ tabOf r_Cp_nearestTo 25 = (25, .if_icmp .eq 23, 3, 0, 48, 0, 0, 0, 0, [], md0) ∧ tabOf r_Cp_nearestTo 28 = (28, .iload 5, 2, 0, 5, 0, 0, 0, 0, [], md0) ∧ tabOf r_Cp_nearestTo 30 = (30, .iload_n 0, 1, 0, 0, 0, 0, 0, 0, [], md0) ∧ tabOf r_Cp_nearestTo 31 = (31, .invokestatic 42, 3, 1050, 0, 1, 0, 0, 0, [], m_Rh_apart) ∧ tabOf r_Cp_nearestTo 34 = (34, .iload_n 3, 1, 0, 3, 0, 0, 0, 0, [], md0) ∧ tabOf r_Cp_nearestTo 35 = (35, .if_icmp .ge 13, 3, 0, 48, 0, 0, 0, 0, [], md0) ∧ tabOf r_Cp_nearestTo 38 = (38, .iload 5, 2, 0, 5, 0, 0, 0, 0, [], md0) ∧ tabOf r_Cp_nearestTo 40 = (40, .iload_n 0, 1, 0, 0, 0, 0, 0, 0, [], md0) ∧ tabOf r_Cp_nearestTo 41 = (41, .invokestatic 42, 3, 1050, 0, 1, 0, 0, 0, [], m_Rh_apart) ∧ tabOf r_Cp_nearestTo 44 = (44, .istore_n 3, 1, 0, 3, 0, 0, 0, 0, [], md0) ∧ tabOf r_Cp_nearestTo 45 = (45, .iload 5, 2, 0, 5, 0, 0, 0, 0, [], md0) ∧ tabOf r_Cp_nearestTo 47 = (47, .istore_n 2, 1, 0, 2, 0, 0, 0, 0, [], md0) ∧ tabOf r_Cp_nearestTo 48 = (48, .iinc 4 1, 3, 0, 4, 0, 0, 1, 0, [], md0) ∧ tabOf r_Cp_nearestTo 51 = (51, .goto (-43), 3, 0, 8, 0, 0, 0, 0, [], md0) ∧ tabOf r_Cp_nearestTo 54 = (54, .iload_n 2, 1, 0, 2, 0, 0, 0, 0, [], md0) ∧ tabOf r_Cp_nearestTo 55 = (55, .ireturn, 1, 0, 0, 0, 0, 0, 0, [], md0) ∧ m_Cp_nearestTo.2.2.2.2.1.cells = 0 ∧ m_Cp_nearestTo.2.2.2.2.1.slots = 0 ∧ m_Cp_nearestTo.2.2.2.2.1.locals = 66 ∧ m_Cp_nearestTo.2.2.2.1 = some .int ∧ m_Cp_nearestTo.2.2.1 = 6 ∧ m_Ce_neighbour.2.2.2.2.1.cells = 0 ∧ m_Ce_neighbour.2.2.2.2.1.slots = 0 ∧ m_Ce_neighbour.2.2.2.2.2.1 = 2 ∧ m_Rh_apart.2.2.2.2.1.cells = 0 ∧ m_Rh_apart.2.2.2.2.1.slots = 0 ∧ m_Rh_apart.2.2.2.2.2.1 = 2 := ⟨rfl, rfl, rfl, rfl, rfl, rfl, rfl, rfl, rfl, rfl, rfl, rfl, rfl, rfl, rfl, rfl, rfl, rfl, rfl, rfl, rfl, rfl, rfl, rfl, rfl, rfl, rfl, rfl, rfl, rfl, rfl, rfl, rfl, rfl, rfl, rfl, rfl, rfl, rfl, rfl, rfl, rfl⟩
set_option maxRecDepth 100000 in
theorem ok_Cp_nearestTo : r_Cp_nearestTo.all (okRow m_Cp_nearestTo.2.2.2.2.1 m_Cp_nearestTo.1.cls m_Cp_nearestTo.2.1 m_Cp_nearestTo.2.2.1 false) = true := by decide +kernel
set_option maxRecDepth 100000 in
theorem in_Cp_nearestTo {args : List Value} {h : MH} {K : KT} (nB : Nat) (hnB : nB ≤ h.2.2.2) (hL : cat2 args ≤ m_Cp_nearestTo.2.2.1) (hdb : noD args = true) (H : ∀ P : PT, (∀ stops n pc lv st h cn sn, wq m_Cp_nearestTo.2.2.2.2.1 m_Cp_nearestTo.2.2.2.1 nB (0, fun _ => 0) Ct (tabOf r_Cp_nearestTo) K P stops n pc lv st h cn sn → P pc lv st h cn sn) → P 0 (entL args m_Cp_nearestTo.2.2.1) [] h 0 0) : Ct m_Cp_nearestTo args h K := Ct.intro r_Cp_nearestTo false nB (by decide) (by decide) ok_Cp_nearestTo hnB hL hdb H
def r_Cp_stepOn : List Row := [(0, .aload_n 0, 1, 0, 0, 0, 0, 0, 0, [], md0),
  (1, .getfield 21, 3, 153, 0, 3, 2, 0, 0, [], md0),
  (4, .iload_n 1, 1, 0, 1, 0, 0, 0, 0, [], md0),
  (5, .iaload, 1, 0, 0, 0, 0, 0, 0, [], md0),
  (6, .iconst (-1), 1, 0, 0, 0, 0, (-1), 0, [], md0),
  (7, .if_icmp .eq 12, 3, 0, 19, 0, 0, 0, 0, [], md0),
  (10, .aload_n 0, 1, 0, 0, 0, 0, 0, 0, [], md0),
  (11, .getfield 15, 3, 147, 0, 1, 2, 0, 0, [], md0),
  (14, .iload_n 1, 1, 0, 1, 0, 0, 0, 0, [], md0),
  (15, .iaload, 1, 0, 0, 0, 0, 0, 0, [], md0),
  (16, .ifCond .ne 4, 3, 0, 20, 0, 0, 0, 0, [], md0),
  (19, .return_, 1, 0, 0, 0, 0, 0, 0, [], md0),
  (20, .aload_n 0, 1, 0, 0, 0, 0, 0, 0, [], md0),
  (21, .getfield 9, 3, 144, 0, 0, 2, 0, 0, [], md0),
  (24, .iload_n 1, 1, 0, 1, 0, 0, 0, 0, [], md0),
  (25, .aload_n 0, 1, 0, 0, 0, 0, 0, 0, [], md0),
  (26, .getfield 21, 3, 153, 0, 3, 2, 0, 0, [], md0),
  (29, .iload_n 1, 1, 0, 1, 0, 0, 0, 0, [], md0),
  (30, .iaload, 1, 0, 0, 0, 0, 0, 0, [], md0),
  (31, .aload_n 0, 1, 0, 0, 0, 0, 0, 0, [], md0),
  (32, .getfield 9, 3, 144, 0, 0, 2, 0, 0, [], md0),
  (35, .iload_n 1, 1, 0, 1, 0, 0, 0, 0, [], md0),
  (36, .iaload, 1, 0, 0, 0, 0, 0, 0, [], md0),
  (37, .invokestatic 33, 3, 1046, 0, 0, 0, 0, 0, [], m_Cp_nearestTo),
  (40, .iastore, 1, 0, 0, 0, 0, 0, 0, [], md0),
  (41, .aload_n 0, 1, 0, 0, 0, 0, 0, 0, [], md0),
  (42, .getfield 9, 3, 144, 0, 0, 2, 0, 0, [], md0),
  (45, .iload_n 1, 1, 0, 1, 0, 0, 0, 0, [], md0),
  (46, .iaload, 1, 0, 0, 0, 0, 0, 0, [], md0),
  (47, .aload_n 0, 1, 0, 0, 0, 0, 0, 0, [], md0),
  (48, .getfield 21, 3, 153, 0, 3, 2, 0, 0, [], md0),
  (51, .iload_n 1, 1, 0, 1, 0, 0, 0, 0, [], md0),
  (52, .iaload, 1, 0, 0, 0, 0, 0, 0, [], md0),
  (53, .if_icmp .ne 10, 3, 0, 63, 0, 0, 0, 0, [], md0),
  (56, .aload_n 0, 1, 0, 0, 0, 0, 0, 0, [], md0),
  (57, .getfield 21, 3, 153, 0, 3, 2, 0, 0, [], md0),
  (60, .iload_n 1, 1, 0, 1, 0, 0, 0, 0, [], md0),
  (61, .iconst (-1), 1, 0, 0, 0, 0, (-1), 0, [], md0),
  (62, .iastore, 1, 0, 0, 0, 0, 0, 0, [], md0),
  (63, .return_, 1, 0, 0, 0, 0, 0, 0, [], md0)]
set_option maxRecDepth 100000 in
theorem tb_Cp_stepOn : tabOf r_Cp_stepOn 0 = (0, .aload_n 0, 1, 0, 0, 0, 0, 0, 0, [], md0) ∧ tabOf r_Cp_stepOn 1 = (1, .getfield 21, 3, 153, 0, 3, 2, 0, 0, [], md0) ∧ tabOf r_Cp_stepOn 4 = (4, .iload_n 1, 1, 0, 1, 0, 0, 0, 0, [], md0) ∧ tabOf r_Cp_stepOn 5 = (5, .iaload, 1, 0, 0, 0, 0, 0, 0, [], md0) ∧ tabOf r_Cp_stepOn 6 = (6, .iconst (-1), 1, 0, 0, 0, 0, (-1), 0, [], md0) ∧ tabOf r_Cp_stepOn 7 = (7, .if_icmp .eq 12, 3, 0, 19, 0, 0, 0, 0, [], md0) ∧ tabOf r_Cp_stepOn 10 = (10, .aload_n 0, 1, 0, 0, 0, 0, 0, 0, [], md0) ∧ tabOf r_Cp_stepOn 11 = (11, .getfield 15, 3, 147, 0, 1, 2, 0, 0, [], md0) ∧ tabOf r_Cp_stepOn 14 = (14, .iload_n 1, 1, 0, 1, 0, 0, 0, 0, [], md0) ∧ tabOf r_Cp_stepOn 15 = (15, .iaload, 1, 0, 0, 0, 0, 0, 0, [], md0) ∧ tabOf r_Cp_stepOn 16 = (16, .ifCond .ne 4, 3, 0, 20, 0, 0, 0, 0, [], md0) ∧ tabOf r_Cp_stepOn 19 = (19, .return_, 1, 0, 0, 0, 0, 0, 0, [], md0) ∧ tabOf r_Cp_stepOn 20 = (20, .aload_n 0, 1, 0, 0, 0, 0, 0, 0, [], md0) ∧ tabOf r_Cp_stepOn 21 = (21, .getfield 9, 3, 144, 0, 0, 2, 0, 0, [], md0) ∧ tabOf r_Cp_stepOn 24 = (24, .iload_n 1, 1, 0, 1, 0, 0, 0, 0, [], md0) ∧ tabOf r_Cp_stepOn 25 = (25, .aload_n 0, 1, 0, 0, 0, 0, 0, 0, [], md0) ∧ tabOf r_Cp_stepOn 26 = (26, .getfield 21, 3, 153, 0, 3, 2, 0, 0, [], md0) ∧ tabOf r_Cp_stepOn 29 = (29, .iload_n 1, 1, 0, 1, 0, 0, 0, 0, [], md0) ∧ tabOf r_Cp_stepOn 30 = (30, .iaload, 1, 0, 0, 0, 0, 0, 0, [], md0) ∧ tabOf r_Cp_stepOn 31 = (31, .aload_n 0, 1, 0, 0, 0, 0, 0, 0, [], md0) ∧ tabOf r_Cp_stepOn 32 = (32, .getfield 9, 3, 144, 0, 0, 2, 0, 0, [], md0) ∧ tabOf r_Cp_stepOn 35 = (35, .iload_n 1, 1, 0, 1, 0, 0, 0, 0, [], md0) ∧ tabOf r_Cp_stepOn 36 = (36, .iaload, 1, 0, 0, 0, 0, 0, 0, [], md0) ∧ tabOf r_Cp_stepOn 37 = (37, .invokestatic 33, 3, 1046, 0, 0, 0, 0, 0, [], m_Cp_nearestTo) ∧ tabOf r_Cp_stepOn 40 = (40, .iastore, 1, 0, 0, 0, 0, 0, 0, [], md0) ∧ tabOf r_Cp_stepOn 41 = (41, .aload_n 0, 1, 0, 0, 0, 0, 0, 0, [], md0) ∧ tabOf r_Cp_stepOn 42 = (42, .getfield 9, 3, 144, 0, 0, 2, 0, 0, [], md0) ∧ tabOf r_Cp_stepOn 45 = (45, .iload_n 1, 1, 0, 1, 0, 0, 0, 0, [], md0) ∧ tabOf r_Cp_stepOn 46 = (46, .iaload, 1, 0, 0, 0, 0, 0, 0, [], md0) ∧ tabOf r_Cp_stepOn 47 = (47, .aload_n 0, 1, 0, 0, 0, 0, 0, 0, [], md0) ∧ tabOf r_Cp_stepOn 48 = (48, .getfield 21, 3, 153, 0, 3, 2, 0, 0, [], md0) ∧ tabOf r_Cp_stepOn 51 = (51, .iload_n 1, 1, 0, 1, 0, 0, 0, 0, [], md0) ∧ tabOf r_Cp_stepOn 52 = (52, .iaload, 1, 0, 0, 0, 0, 0, 0, [], md0) ∧ tabOf r_Cp_stepOn 53 = (53, .if_icmp .ne 10, 3, 0, 63, 0, 0, 0, 0, [], md0) ∧ tabOf r_Cp_stepOn 56 = (56, .aload_n 0, 1, 0, 0, 0, 0, 0, 0, [], md0) ∧ tabOf r_Cp_stepOn 57 = (57, .getfield 21, 3, 153, 0, 3, 2, 0, 0, [], md0) ∧ tabOf r_Cp_stepOn 60 = (60, .iload_n 1, 1, 0, 1, 0, 0, 0, 0, [], md0) ∧ tabOf r_Cp_stepOn 61 = (61, .iconst (-1), 1, 0, 0, 0, 0, (-1), 0, [], md0) ∧ tabOf r_Cp_stepOn 62 = (62, .iastore, 1, 0, 0, 0, 0, 0, 0, [], md0) ∧ tabOf r_Cp_stepOn 63 = (63, .return_, 1, 0, 0, 0, 0, 0, 0, [], md0) ∧ m_Cp_stepOn.2.2.2.2.1.cells = 0 ∧ m_Cp_stepOn.2.2.2.2.1.slots = 0 ∧ m_Cp_stepOn.2.2.2.2.1.locals = 91 ∧ m_Cp_stepOn.2.2.2.1 = none ∧ m_Cp_stepOn.2.2.1 = 2 ∧ m_Cp_nearestTo.2.2.2.2.1.cells = 0 ∧ m_Cp_nearestTo.2.2.2.2.1.slots = 0 ∧ m_Cp_nearestTo.2.2.2.2.2.1 = 2 := ⟨rfl, rfl, rfl, rfl, rfl, rfl, rfl, rfl, rfl, rfl, rfl, rfl, rfl, rfl, rfl, rfl, rfl, rfl, rfl, rfl, rfl, rfl, rfl, rfl, rfl, rfl, rfl, rfl, rfl, rfl, rfl, rfl, rfl, rfl, rfl, rfl, rfl, rfl, rfl, rfl, rfl, rfl, rfl, rfl, rfl, rfl, rfl, rfl⟩
set_option maxRecDepth 100000 in
theorem ok_Cp_stepOn : r_Cp_stepOn.all (okRow m_Cp_stepOn.2.2.2.2.1 m_Cp_stepOn.1.cls m_Cp_stepOn.2.1 m_Cp_stepOn.2.2.1 false) = true := by decide +kernel
set_option maxRecDepth 100000 in
theorem in_Cp_stepOn {args : List Value} {h : MH} {K : KT} (nB : Nat) (hnB : nB ≤ h.2.2.2) (hL : cat2 args ≤ m_Cp_stepOn.2.2.1) (hdb : noD args = true) (H : ∀ P : PT, (∀ stops n pc lv st h cn sn, wq m_Cp_stepOn.2.2.2.2.1 m_Cp_stepOn.2.2.2.1 nB (0, fun _ => 0) Ct (tabOf r_Cp_stepOn) K P stops n pc lv st h cn sn → P pc lv st h cn sn) → P 0 (entL args m_Cp_stepOn.2.2.1) [] h 0 0) : Ct m_Cp_stepOn args h K := Ct.intro r_Cp_stepOn false nB (by decide) (by decide) ok_Cp_stepOn hnB hL hdb H
def r_Cp_isRightOn : List Row := [(0, .aload_n 0, 1, 0, 0, 0, 0, 0, 0, [], md0),
  (1, .getfield 24, 3, 156, 0, 4, 2, 0, 0, [], md0),
  (4, .iload_n 1, 1, 0, 1, 0, 0, 0, 0, [], md0),
  (5, .iaload, 1, 0, 0, 0, 0, 0, 0, [], md0),
  (6, .iload_n 2, 1, 0, 2, 0, 0, 0, 0, [], md0),
  (7, .if_icmp .lt 7, 3, 0, 14, 0, 0, 0, 0, [], md0),
  (10, .iconst 1, 1, 0, 0, 0, 0, 1, 0, [], md0),
  (11, .goto 4, 3, 0, 15, 0, 0, 0, 0, [], md0),
  (14, .iconst 0, 1, 0, 0, 0, 0, 0, 0, [], md0),
  (15, .ireturn, 1, 0, 0, 0, 0, 0, 0, [], md0)]
set_option maxRecDepth 100000 in
theorem tb_Cp_isRightOn : tabOf r_Cp_isRightOn 0 = (0, .aload_n 0, 1, 0, 0, 0, 0, 0, 0, [], md0) ∧ tabOf r_Cp_isRightOn 1 = (1, .getfield 24, 3, 156, 0, 4, 2, 0, 0, [], md0) ∧ tabOf r_Cp_isRightOn 4 = (4, .iload_n 1, 1, 0, 1, 0, 0, 0, 0, [], md0) ∧ tabOf r_Cp_isRightOn 5 = (5, .iaload, 1, 0, 0, 0, 0, 0, 0, [], md0) ∧ tabOf r_Cp_isRightOn 6 = (6, .iload_n 2, 1, 0, 2, 0, 0, 0, 0, [], md0) ∧ tabOf r_Cp_isRightOn 7 = (7, .if_icmp .lt 7, 3, 0, 14, 0, 0, 0, 0, [], md0) ∧ tabOf r_Cp_isRightOn 10 = (10, .iconst 1, 1, 0, 0, 0, 0, 1, 0, [], md0) ∧ tabOf r_Cp_isRightOn 11 = (11, .goto 4, 3, 0, 15, 0, 0, 0, 0, [], md0) ∧ tabOf r_Cp_isRightOn 14 = (14, .iconst 0, 1, 0, 0, 0, 0, 0, 0, [], md0) ∧ tabOf r_Cp_isRightOn 15 = (15, .ireturn, 1, 0, 0, 0, 0, 0, 0, [], md0) ∧ m_Cp_isRightOn.2.2.2.2.1.cells = 0 ∧ m_Cp_isRightOn.2.2.2.2.1.slots = 0 ∧ m_Cp_isRightOn.2.2.2.2.1.locals = 0 ∧ m_Cp_isRightOn.2.2.2.1 = some .boolean ∧ m_Cp_isRightOn.2.2.1 = 3 := ⟨rfl, rfl, rfl, rfl, rfl, rfl, rfl, rfl, rfl, rfl, rfl, rfl, rfl, rfl, rfl⟩
set_option maxRecDepth 100000 in
theorem ok_Cp_isRightOn : r_Cp_isRightOn.all (okRow m_Cp_isRightOn.2.2.2.2.1 m_Cp_isRightOn.1.cls m_Cp_isRightOn.2.1 m_Cp_isRightOn.2.2.1 false) = true := by decide +kernel
set_option maxRecDepth 100000 in
theorem in_Cp_isRightOn {args : List Value} {h : MH} {K : KT} (nB : Nat) (hnB : nB ≤ h.2.2.2) (hL : cat2 args ≤ m_Cp_isRightOn.2.2.1) (hdb : noD args = true) (H : ∀ P : PT, (∀ stops n pc lv st h cn sn, wq m_Cp_isRightOn.2.2.2.2.1 m_Cp_isRightOn.2.2.2.1 nB (0, fun _ => 0) Ct (tabOf r_Cp_isRightOn) K P stops n pc lv st h cn sn → P pc lv st h cn sn) → P 0 (entL args m_Cp_isRightOn.2.2.1) [] h 0 0) : Ct m_Cp_isRightOn args h K := Ct.intro r_Cp_isRightOn false nB (by decide) (by decide) ok_Cp_isRightOn hnB hL hdb H
def r_Cp_haltWatch : List Row := [(0, .aload_n 0, 1, 0, 0, 0, 0, 0, 0, [], md0),
  (1, .getfield 24, 3, 156, 0, 4, 2, 0, 0, [], md0),
  (4, .iload_n 1, 1, 0, 1, 0, 0, 0, 0, [], md0),
  (5, .iload_n 2, 1, 0, 2, 0, 0, 0, 0, [], md0),
  (6, .iconst 1, 1, 0, 0, 0, 0, 1, 0, [], md0),
  (7, .isub, 1, 0, 0, 0, 0, 0, 0, [], md0),
  (8, .iastore, 1, 0, 0, 0, 0, 0, 0, [], md0),
  (9, .return_, 1, 0, 0, 0, 0, 0, 0, [], md0)]
set_option maxRecDepth 100000 in
theorem tb_Cp_haltWatch : tabOf r_Cp_haltWatch 0 = (0, .aload_n 0, 1, 0, 0, 0, 0, 0, 0, [], md0) ∧ tabOf r_Cp_haltWatch 1 = (1, .getfield 24, 3, 156, 0, 4, 2, 0, 0, [], md0) ∧ tabOf r_Cp_haltWatch 4 = (4, .iload_n 1, 1, 0, 1, 0, 0, 0, 0, [], md0) ∧ tabOf r_Cp_haltWatch 5 = (5, .iload_n 2, 1, 0, 2, 0, 0, 0, 0, [], md0) ∧ tabOf r_Cp_haltWatch 6 = (6, .iconst 1, 1, 0, 0, 0, 0, 1, 0, [], md0) ∧ tabOf r_Cp_haltWatch 7 = (7, .isub, 1, 0, 0, 0, 0, 0, 0, [], md0) ∧ tabOf r_Cp_haltWatch 8 = (8, .iastore, 1, 0, 0, 0, 0, 0, 0, [], md0) ∧ tabOf r_Cp_haltWatch 9 = (9, .return_, 1, 0, 0, 0, 0, 0, 0, [], md0) ∧ m_Cp_haltWatch.2.2.2.2.1.cells = 0 ∧ m_Cp_haltWatch.2.2.2.2.1.slots = 0 ∧ m_Cp_haltWatch.2.2.2.2.1.locals = 0 ∧ m_Cp_haltWatch.2.2.2.1 = none ∧ m_Cp_haltWatch.2.2.1 = 3 := ⟨rfl, rfl, rfl, rfl, rfl, rfl, rfl, rfl, rfl, rfl, rfl, rfl, rfl⟩
set_option maxRecDepth 100000 in
theorem ok_Cp_haltWatch : r_Cp_haltWatch.all (okRow m_Cp_haltWatch.2.2.2.2.1 m_Cp_haltWatch.1.cls m_Cp_haltWatch.2.1 m_Cp_haltWatch.2.2.1 false) = true := by decide +kernel
set_option maxRecDepth 100000 in
theorem in_Cp_haltWatch {args : List Value} {h : MH} {K : KT} (nB : Nat) (hnB : nB ≤ h.2.2.2) (hL : cat2 args ≤ m_Cp_haltWatch.2.2.1) (hdb : noD args = true) (H : ∀ P : PT, (∀ stops n pc lv st h cn sn, wq m_Cp_haltWatch.2.2.2.2.1 m_Cp_haltWatch.2.2.2.1 nB (0, fun _ => 0) Ct (tabOf r_Cp_haltWatch) K P stops n pc lv st h cn sn → P pc lv st h cn sn) → P 0 (entL args m_Cp_haltWatch.2.2.1) [] h 0 0) : Ct m_Cp_haltWatch args h K := Ct.intro r_Cp_haltWatch false nB (by decide) (by decide) ok_Cp_haltWatch hnB hL hdb H
def r_Cp_wear : List Row := [(0, .aload_n 0, 1, 0, 0, 0, 0, 0, 0, [], md0),
  (1, .getfield 15, 3, 147, 0, 1, 2, 0, 0, [], md0),
  (4, .iload_n 1, 1, 0, 1, 0, 0, 0, 0, [], md0),
  (5, .iaload, 1, 0, 0, 0, 0, 0, 0, [], md0),
  (6, .ifCond .le 13, 3, 0, 19, 0, 0, 0, 0, [], md0),
  (9, .aload_n 0, 1, 0, 0, 0, 0, 0, 0, [], md0),
  (10, .getfield 15, 3, 147, 0, 1, 2, 0, 0, [], md0),
  (13, .iload_n 1, 1, 0, 1, 0, 0, 0, 0, [], md0),
  (14, .dup2, 1, 0, 0, 0, 0, 0, 0, [], md0),
  (15, .iaload, 1, 0, 0, 0, 0, 0, 0, [], md0),
  (16, .iconst 1, 1, 0, 0, 0, 0, 1, 0, [], md0),
  (17, .isub, 1, 0, 0, 0, 0, 0, 0, [], md0),
  (18, .iastore, 1, 0, 0, 0, 0, 0, 0, [], md0),
  (19, .iload_n 2, 1, 0, 2, 0, 0, 0, 0, [], md0),
  (20, .ifCond .ne 4, 3, 0, 24, 0, 0, 0, 0, [], md0),
  (23, .return_, 1, 0, 0, 0, 0, 0, 0, [], md0),
  (24, .aload_n 0, 1, 0, 0, 0, 0, 0, 0, [], md0),
  (25, .getfield 18, 3, 150, 0, 2, 2, 0, 0, [], md0),
  (28, .iload_n 1, 1, 0, 1, 0, 0, 0, 0, [], md0),
  (29, .dup2, 1, 0, 0, 0, 0, 0, 0, [], md0),
  (30, .iaload, 1, 0, 0, 0, 0, 0, 0, [], md0),
  (31, .iconst 1, 1, 0, 0, 0, 0, 1, 0, [], md0),
  (32, .iadd, 1, 0, 0, 0, 0, 0, 0, [], md0),
  (33, .iastore, 1, 0, 0, 0, 0, 0, 0, [], md0),
  (34, .aload_n 0, 1, 0, 0, 0, 0, 0, 0, [], md0),
  (35, .getfield 18, 3, 150, 0, 2, 2, 0, 0, [], md0),
  (38, .iload_n 1, 1, 0, 1, 0, 0, 0, 0, [], md0),
  (39, .iaload, 1, 0, 0, 0, 0, 0, 0, [], md0),
  (40, .bipush 20, 2, 0, 0, 0, 0, 20, 0, [], md0),
  (42, .if_icmp .lt 25, 3, 0, 67, 0, 0, 0, 0, [], md0),
  (45, .aload_n 0, 1, 0, 0, 0, 0, 0, 0, [], md0),
  (46, .getfield 18, 3, 150, 0, 2, 2, 0, 0, [], md0),
  (49, .iload_n 1, 1, 0, 1, 0, 0, 0, 0, [], md0),
  (50, .iconst 0, 1, 0, 0, 0, 0, 0, 0, [], md0),
  (51, .iastore, 1, 0, 0, 0, 0, 0, 0, [], md0),
  (52, .aload_n 0, 1, 0, 0, 0, 0, 0, 0, [], md0),
  (53, .iload_n 1, 1, 0, 1, 0, 0, 0, 0, [], md0),
  (54, .iload_n 3, 1, 0, 3, 0, 0, 0, 0, [], md0),
  (55, .invokevirtual 45, 3, 1056, 0, 0, 0, 0, 0, [], m_Cp_isRightOn),
  (58, .ifCond .eq 9, 3, 0, 67, 0, 0, 0, 0, [], md0),
  (61, .aload_n 0, 1, 0, 0, 0, 0, 0, 0, [], md0),
  (62, .iload_n 1, 1, 0, 1, 0, 0, 0, 0, [], md0),
  (63, .iload_n 3, 1, 0, 3, 0, 0, 0, 0, [], md0),
  (64, .invokevirtual 49, 3, 1057, 0, 0, 0, 0, 0, [], m_Cp_haltWatch),
  (67, .return_, 1, 0, 0, 0, 0, 0, 0, [], md0)]
set_option maxRecDepth 100000 in
theorem tb_Cp_wear : tabOf r_Cp_wear 0 = (0, .aload_n 0, 1, 0, 0, 0, 0, 0, 0, [], md0) ∧ tabOf r_Cp_wear 1 = (1, .getfield 15, 3, 147, 0, 1, 2, 0, 0, [], md0) ∧ tabOf r_Cp_wear 4 = (4, .iload_n 1, 1, 0, 1, 0, 0, 0, 0, [], md0) ∧ tabOf r_Cp_wear 5 = (5, .iaload, 1, 0, 0, 0, 0, 0, 0, [], md0) ∧ tabOf r_Cp_wear 6 = (6, .ifCond .le 13, 3, 0, 19, 0, 0, 0, 0, [], md0) ∧ tabOf r_Cp_wear 9 = (9, .aload_n 0, 1, 0, 0, 0, 0, 0, 0, [], md0) ∧ tabOf r_Cp_wear 10 = (10, .getfield 15, 3, 147, 0, 1, 2, 0, 0, [], md0) ∧ tabOf r_Cp_wear 13 = (13, .iload_n 1, 1, 0, 1, 0, 0, 0, 0, [], md0) ∧ tabOf r_Cp_wear 14 = (14, .dup2, 1, 0, 0, 0, 0, 0, 0, [], md0) ∧ tabOf r_Cp_wear 15 = (15, .iaload, 1, 0, 0, 0, 0, 0, 0, [], md0) ∧ tabOf r_Cp_wear 16 = (16, .iconst 1, 1, 0, 0, 0, 0, 1, 0, [], md0) ∧ tabOf r_Cp_wear 17 = (17, .isub, 1, 0, 0, 0, 0, 0, 0, [], md0) ∧ tabOf r_Cp_wear 18 = (18, .iastore, 1, 0, 0, 0, 0, 0, 0, [], md0) ∧ tabOf r_Cp_wear 19 = (19, .iload_n 2, 1, 0, 2, 0, 0, 0, 0, [], md0) ∧ tabOf r_Cp_wear 20 = (20, .ifCond .ne 4, 3, 0, 24, 0, 0, 0, 0, [], md0) ∧ tabOf r_Cp_wear 23 = (23, .return_, 1, 0, 0, 0, 0, 0, 0, [], md0) ∧ tabOf r_Cp_wear 24 = (24, .aload_n 0, 1, 0, 0, 0, 0, 0, 0, [], md0) ∧ tabOf r_Cp_wear 25 = (25, .getfield 18, 3, 150, 0, 2, 2, 0, 0, [], md0) ∧ tabOf r_Cp_wear 28 = (28, .iload_n 1, 1, 0, 1, 0, 0, 0, 0, [], md0) ∧ tabOf r_Cp_wear 29 = (29, .dup2, 1, 0, 0, 0, 0, 0, 0, [], md0) ∧ tabOf r_Cp_wear 30 = (30, .iaload, 1, 0, 0, 0, 0, 0, 0, [], md0) ∧ tabOf r_Cp_wear 31 = (31, .iconst 1, 1, 0, 0, 0, 0, 1, 0, [], md0) ∧ tabOf r_Cp_wear 32 = (32, .iadd, 1, 0, 0, 0, 0, 0, 0, [], md0) ∧ tabOf r_Cp_wear 33 = (33, .iastore, 1, 0, 0, 0, 0, 0, 0, [], md0) ∧ tabOf r_Cp_wear 34 = (34, .aload_n 0, 1, 0, 0, 0, 0, 0, 0, [], md0) ∧ tabOf r_Cp_wear 35 = (35, .getfield 18, 3, 150, 0, 2, 2, 0, 0, [], md0) ∧ tabOf r_Cp_wear 38 = (38, .iload_n 1, 1, 0, 1, 0, 0, 0, 0, [], md0) ∧ tabOf r_Cp_wear 39 = (39, .iaload, 1, 0, 0, 0, 0, 0, 0, [], md0) ∧ tabOf r_Cp_wear 40 = (40, .bipush 20, 2, 0, 0, 0, 0, 20, 0, [], md0) ∧ tabOf r_Cp_wear 42 = (42, .if_icmp .lt 25, 3, 0, 67, 0, 0, 0, 0, [], md0) ∧ tabOf r_Cp_wear 45 = (45, .aload_n 0, 1, 0, 0, 0, 0, 0, 0, [], md0) ∧ tabOf r_Cp_wear 46 = (46, .getfield 18, 3, 150, 0, 2, 2, 0, 0, [], md0) ∧ tabOf r_Cp_wear 49 = (49, .iload_n 1, 1, 0, 1, 0, 0, 0, 0, [], md0) ∧ tabOf r_Cp_wear 50 = (50, .iconst 0, 1, 0, 0, 0, 0, 0, 0, [], md0) ∧ tabOf r_Cp_wear 51 = (51, .iastore, 1, 0, 0, 0, 0, 0, 0, [], md0) ∧ tabOf r_Cp_wear 52 = (52, .aload_n 0, 1, 0, 0, 0, 0, 0, 0, [], md0) ∧ tabOf r_Cp_wear 53 = (53, .iload_n 1, 1, 0, 1, 0, 0, 0, 0, [], md0) ∧ tabOf r_Cp_wear 54 = (54, .iload_n 3, 1, 0, 3, 0, 0, 0, 0, [], md0) ∧ tabOf r_Cp_wear 55 = (55, .invokevirtual 45, 3, 1056, 0, 0, 0, 0, 0, [], m_Cp_isRightOn) ∧ tabOf r_Cp_wear 58 = (58, .ifCond .eq 9, 3, 0, 67, 0, 0, 0, 0, [], md0) ∧ tabOf r_Cp_wear 61 = (61, .aload_n 0, 1, 0, 0, 0, 0, 0, 0, [], md0) ∧ tabOf r_Cp_wear 62 = (62, .iload_n 1, 1, 0, 1, 0, 0, 0, 0, [], md0) ∧ tabOf r_Cp_wear 63 = (63, .iload_n 3, 1, 0, 3, 0, 0, 0, 0, [], md0) ∧ tabOf r_Cp_wear 64 = (64, .invokevirtual 49, 3, 1057, 0, 0, 0, 0, 0, [], m_Cp_haltWatch) ∧ tabOf r_Cp_wear 67 = (67, .return_, 1, 0, 0, 0, 0, 0, 0, [], md0) ∧ m_Cp_wear.2.2.2.2.1.cells = 0 ∧ m_Cp_wear.2.2.2.2.1.slots = 0 ∧ m_Cp_wear.2.2.2.2.1.locals = 22 ∧ m_Cp_wear.2.2.2.1 = none ∧ m_Cp_wear.2.2.1 = 4 ∧ m_Cp_isRightOn.2.2.2.2.1.cells = 0 ∧ m_Cp_isRightOn.2.2.2.2.1.slots = 0 ∧ m_Cp_isRightOn.2.2.2.2.2.1 = 2 ∧ m_Cp_haltWatch.2.2.2.2.1.cells = 0 ∧ m_Cp_haltWatch.2.2.2.2.1.slots = 0 ∧ m_Cp_haltWatch.2.2.2.2.2.1 = 2 := ⟨rfl, rfl, rfl, rfl, rfl, rfl, rfl, rfl, rfl, rfl, rfl, rfl, rfl, rfl, rfl, rfl, rfl, rfl, rfl, rfl, rfl, rfl, rfl, rfl, rfl, rfl, rfl, rfl, rfl, rfl, rfl, rfl, rfl, rfl, rfl, rfl, rfl, rfl, rfl, rfl, rfl, rfl, rfl, rfl, rfl, rfl, rfl, rfl, rfl, rfl, rfl, rfl, rfl, rfl, rfl, rfl⟩
set_option maxRecDepth 100000 in
theorem ok_Cp_wear : r_Cp_wear.all (okRow m_Cp_wear.2.2.2.2.1 m_Cp_wear.1.cls m_Cp_wear.2.1 m_Cp_wear.2.2.1 false) = true := by decide +kernel
set_option maxRecDepth 100000 in
theorem in_Cp_wear {args : List Value} {h : MH} {K : KT} (nB : Nat) (hnB : nB ≤ h.2.2.2) (hL : cat2 args ≤ m_Cp_wear.2.2.1) (hdb : noD args = true) (H : ∀ P : PT, (∀ stops n pc lv st h cn sn, wq m_Cp_wear.2.2.2.2.1 m_Cp_wear.2.2.2.1 nB (0, fun _ => 0) Ct (tabOf r_Cp_wear) K P stops n pc lv st h cn sn → P pc lv st h cn sn) → P 0 (entL args m_Cp_wear.2.2.1) [] h 0 0) : Ct m_Cp_wear args h K := Ct.intro r_Cp_wear false nB (by decide) (by decide) ok_Cp_wear hnB hL hdb H
def r_Ce_spreadOnce : List Row := [(0, .lload_n 0, 1, 0, 0, 0, 0, 0, 0, [], md0),
  (1, .lload_n 0, 1, 0, 0, 0, 0, 0, 0, [], md0),
  (2, .iconst 0, 1, 0, 0, 0, 0, 0, 0, [], md0),
  (3, .invokestatic 9, 3, 704, 0, 0, 0, 0, 0, [], m_Ce_shifted),
  (6, .lor, 1, 0, 0, 0, 0, 0, 0, [], md0),
  (7, .lload_n 0, 1, 0, 0, 0, 0, 0, 0, [], md0),
  (8, .iconst 1, 1, 0, 0, 0, 0, 1, 0, [], md0),
  (9, .invokestatic 9, 3, 704, 0, 0, 0, 0, 0, [], m_Ce_shifted),
  (12, .lor, 1, 0, 0, 0, 0, 0, 0, [], md0),
  (13, .lload_n 0, 1, 0, 0, 0, 0, 0, 0, [], md0),
  (14, .iconst 2, 1, 0, 0, 0, 0, 2, 0, [], md0),
  (15, .invokestatic 9, 3, 704, 0, 0, 0, 0, 0, [], m_Ce_shifted),
  (18, .lor, 1, 0, 0, 0, 0, 0, 0, [], md0),
  (19, .lload_n 0, 1, 0, 0, 0, 0, 0, 0, [], md0),
  (20, .iconst 3, 1, 0, 0, 0, 0, 3, 0, [], md0),
  (21, .invokestatic 9, 3, 704, 0, 0, 0, 0, 0, [], m_Ce_shifted),
  (24, .lor, 1, 0, 0, 0, 0, 0, 0, [], md0),
  (25, .lreturn, 1, 0, 0, 0, 0, 0, 0, [], md0)]
set_option maxRecDepth 100000 in
theorem tb_Ce_spreadOnce : tabOf r_Ce_spreadOnce 0 = (0, .lload_n 0, 1, 0, 0, 0, 0, 0, 0, [], md0) ∧ tabOf r_Ce_spreadOnce 1 = (1, .lload_n 0, 1, 0, 0, 0, 0, 0, 0, [], md0) ∧ tabOf r_Ce_spreadOnce 2 = (2, .iconst 0, 1, 0, 0, 0, 0, 0, 0, [], md0) ∧ tabOf r_Ce_spreadOnce 3 = (3, .invokestatic 9, 3, 704, 0, 0, 0, 0, 0, [], m_Ce_shifted) ∧ tabOf r_Ce_spreadOnce 6 = (6, .lor, 1, 0, 0, 0, 0, 0, 0, [], md0) ∧ tabOf r_Ce_spreadOnce 7 = (7, .lload_n 0, 1, 0, 0, 0, 0, 0, 0, [], md0) ∧ tabOf r_Ce_spreadOnce 8 = (8, .iconst 1, 1, 0, 0, 0, 0, 1, 0, [], md0) ∧ tabOf r_Ce_spreadOnce 9 = (9, .invokestatic 9, 3, 704, 0, 0, 0, 0, 0, [], m_Ce_shifted) ∧ tabOf r_Ce_spreadOnce 12 = (12, .lor, 1, 0, 0, 0, 0, 0, 0, [], md0) ∧ tabOf r_Ce_spreadOnce 13 = (13, .lload_n 0, 1, 0, 0, 0, 0, 0, 0, [], md0) ∧ tabOf r_Ce_spreadOnce 14 = (14, .iconst 2, 1, 0, 0, 0, 0, 2, 0, [], md0) ∧ tabOf r_Ce_spreadOnce 15 = (15, .invokestatic 9, 3, 704, 0, 0, 0, 0, 0, [], m_Ce_shifted) ∧ tabOf r_Ce_spreadOnce 18 = (18, .lor, 1, 0, 0, 0, 0, 0, 0, [], md0) ∧ tabOf r_Ce_spreadOnce 19 = (19, .lload_n 0, 1, 0, 0, 0, 0, 0, 0, [], md0) ∧ tabOf r_Ce_spreadOnce 20 = (20, .iconst 3, 1, 0, 0, 0, 0, 3, 0, [], md0) ∧ tabOf r_Ce_spreadOnce 21 = (21, .invokestatic 9, 3, 704, 0, 0, 0, 0, 0, [], m_Ce_shifted) ∧ tabOf r_Ce_spreadOnce 24 = (24, .lor, 1, 0, 0, 0, 0, 0, 0, [], md0) ∧ tabOf r_Ce_spreadOnce 25 = (25, .lreturn, 1, 0, 0, 0, 0, 0, 0, [], md0) ∧ m_Ce_spreadOnce.2.2.2.2.1.cells = 0 ∧ m_Ce_spreadOnce.2.2.2.2.1.slots = 0 ∧ m_Ce_spreadOnce.2.2.2.2.1.locals = 22 ∧ m_Ce_spreadOnce.2.2.2.1 = some .long ∧ m_Ce_spreadOnce.2.2.1 = 2 ∧ m_Ce_shifted.2.2.2.2.1.cells = 0 ∧ m_Ce_shifted.2.2.2.2.1.slots = 0 ∧ m_Ce_shifted.2.2.2.2.2.1 = 2 := ⟨rfl, rfl, rfl, rfl, rfl, rfl, rfl, rfl, rfl, rfl, rfl, rfl, rfl, rfl, rfl, rfl, rfl, rfl, rfl, rfl, rfl, rfl, rfl, rfl, rfl, rfl⟩
set_option maxRecDepth 100000 in
theorem ok_Ce_spreadOnce : r_Ce_spreadOnce.all (okRow m_Ce_spreadOnce.2.2.2.2.1 m_Ce_spreadOnce.1.cls m_Ce_spreadOnce.2.1 m_Ce_spreadOnce.2.2.1 false) = true := by decide +kernel
set_option maxRecDepth 100000 in
theorem in_Ce_spreadOnce {args : List Value} {h : MH} {K : KT} (nB : Nat) (hnB : nB ≤ h.2.2.2) (hL : cat2 args ≤ m_Ce_spreadOnce.2.2.1) (hdb : noD args = true) (H : ∀ P : PT, (∀ stops n pc lv st h cn sn, wq m_Ce_spreadOnce.2.2.2.2.1 m_Ce_spreadOnce.2.2.2.1 nB (0, fun _ => 0) Ct (tabOf r_Ce_spreadOnce) K P stops n pc lv st h cn sn → P pc lv st h cn sn) → P 0 (entL args m_Ce_spreadOnce.2.2.1) [] h 0 0) : Ct m_Ce_spreadOnce args h K := Ct.intro r_Ce_spreadOnce false nB (by decide) (by decide) ok_Ce_spreadOnce hnB hL hdb H
def r_Ce_marched : List Row := [(0, .lload_n 0, 1, 0, 0, 0, 0, 0, 0, [], md0),
  (1, .lstore 4, 2, 0, 4, 0, 0, 0, 0, [], md0),
  (3, .iconst 0, 1, 0, 0, 0, 0, 0, 0, [], md0),
  (4, .istore 6, 2, 0, 6, 0, 0, 0, 0, [], md0),
  (6, .iload 6, 2, 0, 6, 0, 0, 0, 0, [], md0),
  (8, .iload_n 3, 1, 0, 3, 0, 0, 0, 0, [], md0),
  (9, .if_icmp .ge 30, 3, 0, 39, 0, 0, 0, 0, [], md0),
  (12, .iload_n 2, 1, 0, 2, 0, 0, 0, 0, [], md0),
  (13, .iconst 4, 1, 0, 0, 0, 0, 4, 0, [], md0),
  (14, .if_icmp .ne 11, 3, 0, 25, 0, 0, 0, 0, [], md0),
  (17, .lload 4, 2, 0, 4, 0, 0, 0, 0, [], md0),
  (19, .invokestatic 27, 3, 701, 0, 0, 0, 0, 0, [], m_Ce_spreadOnce),
  (22, .goto 9, 3, 0, 31, 0, 0, 0, 0, [], md0),
  (25, .lload 4, 2, 0, 4, 0, 0, 0, 0, [], md0),
  (27, .iload_n 2, 1, 0, 2, 0, 0, 0, 0, [], md0),
  (28, .invokestatic 9, 3, 704, 0, 0, 0, 0, 0, [], m_Ce_shifted),
  (31, .lstore 4, 2, 0, 4, 0, 0, 0, 0, [], md0),
  (33, .iinc 6 1, 3, 0, 6, 0, 0, 1, 0, [], md0),
  (36, .goto (-30), 3, 0, 6, 0, 0, 0, 0, [], md0),
  (39, .lload 4, 2, 0, 4, 0, 0, 0, 0, [], md0),
  (41, .lreturn, 1, 0, 0, 0, 0, 0, 0, [], md0)]
set_option maxRecDepth 100000 in
theorem tb_Ce_marched : tabOf r_Ce_marched 0 = (0, .lload_n 0, 1, 0, 0, 0, 0, 0, 0, [], md0) ∧ tabOf r_Ce_marched 1 = (1, .lstore 4, 2, 0, 4, 0, 0, 0, 0, [], md0) ∧ tabOf r_Ce_marched 3 = (3, .iconst 0, 1, 0, 0, 0, 0, 0, 0, [], md0) ∧ tabOf r_Ce_marched 4 = (4, .istore 6, 2, 0, 6, 0, 0, 0, 0, [], md0) ∧ tabOf r_Ce_marched 6 = (6, .iload 6, 2, 0, 6, 0, 0, 0, 0, [], md0) ∧ tabOf r_Ce_marched 8 = (8, .iload_n 3, 1, 0, 3, 0, 0, 0, 0, [], md0) ∧ tabOf r_Ce_marched 9 = (9, .if_icmp .ge 30, 3, 0, 39, 0, 0, 0, 0, [], md0) ∧ tabOf r_Ce_marched 12 = (12, .iload_n 2, 1, 0, 2, 0, 0, 0, 0, [], md0) ∧ tabOf r_Ce_marched 13 = (13, .iconst 4, 1, 0, 0, 0, 0, 4, 0, [], md0) ∧ tabOf r_Ce_marched 14 = (14, .if_icmp .ne 11, 3, 0, 25, 0, 0, 0, 0, [], md0) ∧ tabOf r_Ce_marched 17 = (17, .lload 4, 2, 0, 4, 0, 0, 0, 0, [], md0) ∧ tabOf r_Ce_marched 19 = (19, .invokestatic 27, 3, 701, 0, 0, 0, 0, 0, [], m_Ce_spreadOnce) ∧ tabOf r_Ce_marched 22 = (22, .goto 9, 3, 0, 31, 0, 0, 0, 0, [], md0) ∧ tabOf r_Ce_marched 25 = (25, .lload 4, 2, 0, 4, 0, 0, 0, 0, [], md0) ∧ tabOf r_Ce_marched 27 = (27, .iload_n 2, 1, 0, 2, 0, 0, 0, 0, [], md0) ∧ tabOf r_Ce_marched 28 = (28, .invokestatic 9, 3, 704, 0, 0, 0, 0, 0, [], m_Ce_shifted) ∧ tabOf r_Ce_marched 31 = (31, .lstore 4, 2, 0, 4, 0, 0, 0, 0, [], md0) ∧ tabOf r_Ce_marched 33 = (33, .iinc 6 1, 3, 0, 6, 0, 0, 1, 0, [], md0) ∧ tabOf r_Ce_marched 36 = (36, .goto (-30), 3, 0, 6, 0, 0, 0, 0, [], md0) ∧ tabOf r_Ce_marched 39 = (39, .lload 4, 2, 0, 4, 0, 0, 0, 0, [], md0) ∧ tabOf r_Ce_marched 41 = (41, .lreturn, 1, 0, 0, 0, 0, 0, 0, [], md0) ∧ m_Ce_marched.2.2.2.2.1.cells = 0 ∧ m_Ce_marched.2.2.2.2.1.slots = 0 ∧ m_Ce_marched.2.2.2.2.1.locals = 43 ∧ m_Ce_marched.2.2.2.1 = some .long ∧ m_Ce_marched.2.2.1 = 7 ∧ m_Ce_spreadOnce.2.2.2.2.1.cells = 0 ∧ m_Ce_spreadOnce.2.2.2.2.1.slots = 0 ∧ m_Ce_spreadOnce.2.2.2.2.2.1 = 1 ∧ m_Ce_shifted.2.2.2.2.1.cells = 0 ∧ m_Ce_shifted.2.2.2.2.1.slots = 0 ∧ m_Ce_shifted.2.2.2.2.2.1 = 2 := ⟨rfl, rfl, rfl, rfl, rfl, rfl, rfl, rfl, rfl, rfl, rfl, rfl, rfl, rfl, rfl, rfl, rfl, rfl, rfl, rfl, rfl, rfl, rfl, rfl, rfl, rfl, rfl, rfl, rfl, rfl, rfl, rfl⟩
set_option maxRecDepth 100000 in
theorem ok_Ce_marched : r_Ce_marched.all (okRow m_Ce_marched.2.2.2.2.1 m_Ce_marched.1.cls m_Ce_marched.2.1 m_Ce_marched.2.2.1 false) = true := by decide +kernel
set_option maxRecDepth 100000 in
theorem in_Ce_marched {args : List Value} {h : MH} {K : KT} (nB : Nat) (hnB : nB ≤ h.2.2.2) (hL : cat2 args ≤ m_Ce_marched.2.2.1) (hdb : noD args = true) (H : ∀ P : PT, (∀ stops n pc lv st h cn sn, wq m_Ce_marched.2.2.2.2.1 m_Ce_marched.2.2.2.1 nB (0, fun _ => 0) Ct (tabOf r_Ce_marched) K P stops n pc lv st h cn sn → P pc lv st h cn sn) → P 0 (entL args m_Ce_marched.2.2.1) [] h 0 0) : Ct m_Ce_marched args h K := Ct.intro r_Ce_marched false nB (by decide) (by decide) ok_Ce_marched hnB hL hdb H
def r_Ce_wayBack : List Row := [(0, .iload_n 0, 1, 0, 0, 0, 0, 0, 0, [], md0),
  (1, .iconst 4, 1, 0, 0, 0, 0, 4, 0, [], md0),
  (2, .if_icmp .ne 7, 3, 0, 9, 0, 0, 0, 0, [], md0),
  (5, .iconst 4, 1, 0, 0, 0, 0, 4, 0, [], md0),
  (6, .goto 8, 3, 0, 14, 0, 0, 0, 0, [], md0),
  (9, .iload_n 0, 1, 0, 0, 0, 0, 0, 0, [], md0),
  (10, .iconst 2, 1, 0, 0, 0, 0, 2, 0, [], md0),
  (11, .iadd, 1, 0, 0, 0, 0, 0, 0, [], md0),
  (12, .iconst 4, 1, 0, 0, 0, 0, 4, 0, [], md0),
  (13, .irem, 1, 0, 0, 0, 0, 0, 0, [], md0),
  (14, .ireturn, 1, 0, 0, 0, 0, 0, 0, [], md0)]
set_option maxRecDepth 100000 in
theorem tb_Ce_wayBack : tabOf r_Ce_wayBack 0 = (0, .iload_n 0, 1, 0, 0, 0, 0, 0, 0, [], md0) ∧ tabOf r_Ce_wayBack 1 = (1, .iconst 4, 1, 0, 0, 0, 0, 4, 0, [], md0) ∧ tabOf r_Ce_wayBack 2 = (2, .if_icmp .ne 7, 3, 0, 9, 0, 0, 0, 0, [], md0) ∧ tabOf r_Ce_wayBack 5 = (5, .iconst 4, 1, 0, 0, 0, 0, 4, 0, [], md0) ∧ tabOf r_Ce_wayBack 6 = (6, .goto 8, 3, 0, 14, 0, 0, 0, 0, [], md0) ∧ tabOf r_Ce_wayBack 9 = (9, .iload_n 0, 1, 0, 0, 0, 0, 0, 0, [], md0) ∧ tabOf r_Ce_wayBack 10 = (10, .iconst 2, 1, 0, 0, 0, 0, 2, 0, [], md0) ∧ tabOf r_Ce_wayBack 11 = (11, .iadd, 1, 0, 0, 0, 0, 0, 0, [], md0) ∧ tabOf r_Ce_wayBack 12 = (12, .iconst 4, 1, 0, 0, 0, 0, 4, 0, [], md0) ∧ tabOf r_Ce_wayBack 13 = (13, .irem, 1, 0, 0, 0, 0, 0, 0, [], md0) ∧ tabOf r_Ce_wayBack 14 = (14, .ireturn, 1, 0, 0, 0, 0, 0, 0, [], md0) ∧ m_Ce_wayBack.2.2.2.2.1.cells = 0 ∧ m_Ce_wayBack.2.2.2.2.1.slots = 0 ∧ m_Ce_wayBack.2.2.2.2.1.locals = 0 ∧ m_Ce_wayBack.2.2.2.1 = some .int ∧ m_Ce_wayBack.2.2.1 = 1 := ⟨rfl, rfl, rfl, rfl, rfl, rfl, rfl, rfl, rfl, rfl, rfl, rfl, rfl, rfl, rfl, rfl⟩
set_option maxRecDepth 100000 in
theorem ok_Ce_wayBack : r_Ce_wayBack.all (okRow m_Ce_wayBack.2.2.2.2.1 m_Ce_wayBack.1.cls m_Ce_wayBack.2.1 m_Ce_wayBack.2.2.1 false) = true := by decide +kernel
set_option maxRecDepth 100000 in
theorem in_Ce_wayBack {args : List Value} {h : MH} {K : KT} (nB : Nat) (hnB : nB ≤ h.2.2.2) (hL : cat2 args ≤ m_Ce_wayBack.2.2.1) (hdb : noD args = true) (H : ∀ P : PT, (∀ stops n pc lv st h cn sn, wq m_Ce_wayBack.2.2.2.2.1 m_Ce_wayBack.2.2.2.1 nB (0, fun _ => 0) Ct (tabOf r_Ce_wayBack) K P stops n pc lv st h cn sn → P pc lv st h cn sn) → P 0 (entL args m_Ce_wayBack.2.2.1) [] h 0 0) : Ct m_Ce_wayBack args h K := Ct.intro r_Ce_wayBack false nB (by decide) (by decide) ok_Ce_wayBack hnB hL hdb H
def r_Cm_init : List Row := [(0, .aload_n 0, 1, 0, 0, 0, 0, 0, 0, [], md0),
  (1, .invokespecial 3, 3, 264, 0, 5, 0, 0, 0, [], md0),
  (4, .aload_n 0, 1, 0, 0, 0, 0, 0, 0, [], md0),
  (5, .bipush 20, 2, 0, 0, 0, 0, 20, 0, [], md0),
  (7, .newarray .int, 2, 137, 0, 20, 0, 20, 0, [], md0),
  (9, .putfield 9, 3, 265, 1, 0, 2, 0, 0, [], md0),
  (12, .aload_n 0, 1, 0, 0, 0, 0, 0, 0, [], md0),
  (13, .bipush 20, 2, 0, 0, 0, 0, 20, 0, [], md0),
  (15, .newarray .int, 2, 137, 0, 20, 0, 20, 0, [], md0),
  (17, .putfield 15, 3, 267, 1, 1, 2, 0, 0, [], md0),
  (20, .return_, 1, 0, 0, 0, 0, 0, 0, [], md0)]
set_option maxRecDepth 100000 in
theorem tb_Cm_init : tabOf r_Cm_init 0 = (0, .aload_n 0, 1, 0, 0, 0, 0, 0, 0, [], md0) ∧ tabOf r_Cm_init 1 = (1, .invokespecial 3, 3, 264, 0, 5, 0, 0, 0, [], md0) ∧ tabOf r_Cm_init 4 = (4, .aload_n 0, 1, 0, 0, 0, 0, 0, 0, [], md0) ∧ tabOf r_Cm_init 5 = (5, .bipush 20, 2, 0, 0, 0, 0, 20, 0, [], md0) ∧ tabOf r_Cm_init 7 = (7, .newarray .int, 2, 137, 0, 20, 0, 20, 0, [], md0) ∧ tabOf r_Cm_init 9 = (9, .putfield 9, 3, 265, 1, 0, 2, 0, 0, [], md0) ∧ tabOf r_Cm_init 12 = (12, .aload_n 0, 1, 0, 0, 0, 0, 0, 0, [], md0) ∧ tabOf r_Cm_init 13 = (13, .bipush 20, 2, 0, 0, 0, 0, 20, 0, [], md0) ∧ tabOf r_Cm_init 15 = (15, .newarray .int, 2, 137, 0, 20, 0, 20, 0, [], md0) ∧ tabOf r_Cm_init 17 = (17, .putfield 15, 3, 267, 1, 1, 2, 0, 0, [], md0) ∧ tabOf r_Cm_init 20 = (20, .return_, 1, 0, 0, 0, 0, 0, 0, [], md0) ∧ m_Cm_init.2.2.2.2.1.cells = 2 ∧ m_Cm_init.2.2.2.2.1.slots = 40 ∧ m_Cm_init.2.2.2.2.1.locals = 20 ∧ m_Cm_init.2.2.2.1 = none ∧ m_Cm_init.2.2.1 = 1 := ⟨rfl, rfl, rfl, rfl, rfl, rfl, rfl, rfl, rfl, rfl, rfl, rfl, rfl, rfl, rfl, rfl⟩
set_option maxRecDepth 100000 in
theorem ok_Cm_init : r_Cm_init.all (okRow m_Cm_init.2.2.2.2.1 m_Cm_init.1.cls m_Cm_init.2.1 m_Cm_init.2.2.1 true) = true := by decide +kernel
set_option maxRecDepth 100000 in
theorem in_Cm_init {args : List Value} {h : MH} {K : KT} (nB : Nat) (hnB : nB ≤ h.2.2.2) (hL : cat2 args ≤ m_Cm_init.2.2.1) (hdb : noD args = true) (H : ∀ P : PT, (∀ stops n pc lv st h cn sn, wq m_Cm_init.2.2.2.2.1 m_Cm_init.2.2.2.1 nB (0, fun _ => 0) Ct (tabOf r_Cm_init) K P stops n pc lv st h cn sn → P pc lv st h cn sn) → P 0 (entL args m_Cm_init.2.2.1) [] h 0 0) : Ct m_Cm_init args h K := Ct.intro r_Cm_init true nB (by decide) (by decide) ok_Cm_init hnB hL hdb H
def r_Cm_takeFrom : List Row := [(0, .aload_n 1, 1, 0, 1, 0, 0, 0, 0, [], md0),
  (1, .getfield 9, 3, 265, 1, 0, 2, 0, 0, [], md0),
  (4, .iconst 0, 1, 0, 0, 0, 0, 0, 0, [], md0),
  (5, .aload_n 0, 1, 0, 0, 0, 0, 0, 0, [], md0),
  (6, .getfield 9, 3, 265, 1, 0, 2, 0, 0, [], md0),
  (9, .iconst 0, 1, 0, 0, 0, 0, 0, 0, [], md0),
  (10, .bipush 20, 2, 0, 0, 0, 0, 20, 0, [], md0),
  (12, .invokestatic 18, 3, 1142, 0, 4, 0, 0, 0, [], md0),
  (15, .aload_n 1, 1, 0, 1, 0, 0, 0, 0, [], md0),
  (16, .getfield 15, 3, 267, 1, 1, 2, 0, 0, [], md0),
  (19, .iconst 0, 1, 0, 0, 0, 0, 0, 0, [], md0),
  (20, .aload_n 0, 1, 0, 0, 0, 0, 0, 0, [], md0),
  (21, .getfield 15, 3, 267, 1, 1, 2, 0, 0, [], md0),
  (24, .iconst 0, 1, 0, 0, 0, 0, 0, 0, [], md0),
  (25, .bipush 20, 2, 0, 0, 0, 0, 20, 0, [], md0),
  (27, .invokestatic 18, 3, 1142, 0, 4, 0, 0, 0, [], md0),
  (30, .aload_n 0, 1, 0, 0, 0, 0, 0, 0, [], md0),
  (31, .aload_n 1, 1, 0, 1, 0, 0, 0, 0, [], md0),
  (32, .getfield 24, 3, 268, 1, 2, 0, 0, 0, [], md0),
  (35, .putfield 24, 3, 268, 1, 2, 0, 0, 0, [], md0),
  (38, .return_, 1, 0, 0, 0, 0, 0, 0, [], md0)]
set_option maxRecDepth 100000 in
theorem tb_Cm_takeFrom : tabOf r_Cm_takeFrom 0 = (0, .aload_n 1, 1, 0, 1, 0, 0, 0, 0, [], md0) ∧ tabOf r_Cm_takeFrom 1 = (1, .getfield 9, 3, 265, 1, 0, 2, 0, 0, [], md0) ∧ tabOf r_Cm_takeFrom 4 = (4, .iconst 0, 1, 0, 0, 0, 0, 0, 0, [], md0) ∧ tabOf r_Cm_takeFrom 5 = (5, .aload_n 0, 1, 0, 0, 0, 0, 0, 0, [], md0) ∧ tabOf r_Cm_takeFrom 6 = (6, .getfield 9, 3, 265, 1, 0, 2, 0, 0, [], md0) ∧ tabOf r_Cm_takeFrom 9 = (9, .iconst 0, 1, 0, 0, 0, 0, 0, 0, [], md0) ∧ tabOf r_Cm_takeFrom 10 = (10, .bipush 20, 2, 0, 0, 0, 0, 20, 0, [], md0) ∧ tabOf r_Cm_takeFrom 12 = (12, .invokestatic 18, 3, 1142, 0, 4, 0, 0, 0, [], md0) ∧ tabOf r_Cm_takeFrom 15 = (15, .aload_n 1, 1, 0, 1, 0, 0, 0, 0, [], md0) ∧ tabOf r_Cm_takeFrom 16 = (16, .getfield 15, 3, 267, 1, 1, 2, 0, 0, [], md0) ∧ tabOf r_Cm_takeFrom 19 = (19, .iconst 0, 1, 0, 0, 0, 0, 0, 0, [], md0) ∧ tabOf r_Cm_takeFrom 20 = (20, .aload_n 0, 1, 0, 0, 0, 0, 0, 0, [], md0) ∧ tabOf r_Cm_takeFrom 21 = (21, .getfield 15, 3, 267, 1, 1, 2, 0, 0, [], md0) ∧ tabOf r_Cm_takeFrom 24 = (24, .iconst 0, 1, 0, 0, 0, 0, 0, 0, [], md0) ∧ tabOf r_Cm_takeFrom 25 = (25, .bipush 20, 2, 0, 0, 0, 0, 20, 0, [], md0) ∧ tabOf r_Cm_takeFrom 27 = (27, .invokestatic 18, 3, 1142, 0, 4, 0, 0, 0, [], md0) ∧ tabOf r_Cm_takeFrom 30 = (30, .aload_n 0, 1, 0, 0, 0, 0, 0, 0, [], md0) ∧ tabOf r_Cm_takeFrom 31 = (31, .aload_n 1, 1, 0, 1, 0, 0, 0, 0, [], md0) ∧ tabOf r_Cm_takeFrom 32 = (32, .getfield 24, 3, 268, 1, 2, 0, 0, 0, [], md0) ∧ tabOf r_Cm_takeFrom 35 = (35, .putfield 24, 3, 268, 1, 2, 0, 0, 0, [], md0) ∧ tabOf r_Cm_takeFrom 38 = (38, .return_, 1, 0, 0, 0, 0, 0, 0, [], md0) ∧ m_Cm_takeFrom.2.2.2.2.1.cells = 0 ∧ m_Cm_takeFrom.2.2.2.2.1.slots = 0 ∧ m_Cm_takeFrom.2.2.2.2.1.locals = 26 ∧ m_Cm_takeFrom.2.2.2.1 = none ∧ m_Cm_takeFrom.2.2.1 = 2 := ⟨rfl, rfl, rfl, rfl, rfl, rfl, rfl, rfl, rfl, rfl, rfl, rfl, rfl, rfl, rfl, rfl, rfl, rfl, rfl, rfl, rfl, rfl, rfl, rfl, rfl, rfl⟩
set_option maxRecDepth 100000 in
theorem ok_Cm_takeFrom : r_Cm_takeFrom.all (okRow m_Cm_takeFrom.2.2.2.2.1 m_Cm_takeFrom.1.cls m_Cm_takeFrom.2.1 m_Cm_takeFrom.2.2.1 false) = true := by decide +kernel
set_option maxRecDepth 100000 in
theorem in_Cm_takeFrom {args : List Value} {h : MH} {K : KT} (nB : Nat) (hnB : nB ≤ h.2.2.2) (hL : cat2 args ≤ m_Cm_takeFrom.2.2.1) (hdb : noD args = true) (H : ∀ P : PT, (∀ stops n pc lv st h cn sn, wq m_Cm_takeFrom.2.2.2.2.1 m_Cm_takeFrom.2.2.2.1 nB (0, fun _ => 0) Ct (tabOf r_Cm_takeFrom) K P stops n pc lv st h cn sn → P pc lv st h cn sn) → P 0 (entL args m_Cm_takeFrom.2.2.1) [] h 0 0) : Ct m_Cm_takeFrom args h K := Ct.intro r_Cm_takeFrom false nB (by decide) (by decide) ok_Cm_takeFrom hnB hL hdb H
def r_Cm_addClaim : List Row := [(0, .aload_n 0, 1, 0, 0, 0, 0, 0, 0, [], md0),
  (1, .getfield 9, 3, 265, 1, 0, 2, 0, 0, [], md0),
  (4, .aload_n 0, 1, 0, 0, 0, 0, 0, 0, [], md0),
  (5, .getfield 24, 3, 268, 1, 2, 0, 0, 0, [], md0),
  (8, .iload_n 1, 1, 0, 1, 0, 0, 0, 0, [], md0),
  (9, .iastore, 1, 0, 0, 0, 0, 0, 0, [], md0),
  (10, .aload_n 0, 1, 0, 0, 0, 0, 0, 0, [], md0),
  (11, .getfield 15, 3, 267, 1, 1, 2, 0, 0, [], md0),
  (14, .aload_n 0, 1, 0, 0, 0, 0, 0, 0, [], md0),
  (15, .getfield 24, 3, 268, 1, 2, 0, 0, 0, [], md0),
  (18, .iload_n 2, 1, 0, 2, 0, 0, 0, 0, [], md0),
  (19, .iastore, 1, 0, 0, 0, 0, 0, 0, [], md0),
  (20, .aload_n 0, 1, 0, 0, 0, 0, 0, 0, [], md0),
  (21, .dup, 1, 0, 0, 0, 0, 0, 0, [], md0),
  (22, .getfield 24, 3, 268, 1, 2, 0, 0, 0, [], md0),
  (25, .iconst 1, 1, 0, 0, 0, 0, 1, 0, [], md0),
  (26, .iadd, 1, 0, 0, 0, 0, 0, 0, [], md0),
  (27, .putfield 24, 3, 268, 1, 2, 0, 0, 0, [], md0),
  (30, .aload_n 0, 1, 0, 0, 0, 0, 0, 0, [], md0),
  (31, .getfield 24, 3, 268, 1, 2, 0, 0, 0, [], md0),
  (34, .iconst 1, 1, 0, 0, 0, 0, 1, 0, [], md0),
  (35, .isub, 1, 0, 0, 0, 0, 0, 0, [], md0),
  (36, .ireturn, 1, 0, 0, 0, 0, 0, 0, [], md0)]
set_option maxRecDepth 100000 in
theorem tb_Cm_addClaim : tabOf r_Cm_addClaim 0 = (0, .aload_n 0, 1, 0, 0, 0, 0, 0, 0, [], md0) ∧ tabOf r_Cm_addClaim 1 = (1, .getfield 9, 3, 265, 1, 0, 2, 0, 0, [], md0) ∧ tabOf r_Cm_addClaim 4 = (4, .aload_n 0, 1, 0, 0, 0, 0, 0, 0, [], md0) ∧ tabOf r_Cm_addClaim 5 = (5, .getfield 24, 3, 268, 1, 2, 0, 0, 0, [], md0) ∧ tabOf r_Cm_addClaim 8 = (8, .iload_n 1, 1, 0, 1, 0, 0, 0, 0, [], md0) ∧ tabOf r_Cm_addClaim 9 = (9, .iastore, 1, 0, 0, 0, 0, 0, 0, [], md0) ∧ tabOf r_Cm_addClaim 10 = (10, .aload_n 0, 1, 0, 0, 0, 0, 0, 0, [], md0) ∧ tabOf r_Cm_addClaim 11 = (11, .getfield 15, 3, 267, 1, 1, 2, 0, 0, [], md0) ∧ tabOf r_Cm_addClaim 14 = (14, .aload_n 0, 1, 0, 0, 0, 0, 0, 0, [], md0) ∧ tabOf r_Cm_addClaim 15 = (15, .getfield 24, 3, 268, 1, 2, 0, 0, 0, [], md0) ∧ tabOf r_Cm_addClaim 18 = (18, .iload_n 2, 1, 0, 2, 0, 0, 0, 0, [], md0) ∧ tabOf r_Cm_addClaim 19 = (19, .iastore, 1, 0, 0, 0, 0, 0, 0, [], md0) ∧ tabOf r_Cm_addClaim 20 = (20, .aload_n 0, 1, 0, 0, 0, 0, 0, 0, [], md0) ∧ tabOf r_Cm_addClaim 21 = (21, .dup, 1, 0, 0, 0, 0, 0, 0, [], md0) ∧ tabOf r_Cm_addClaim 22 = (22, .getfield 24, 3, 268, 1, 2, 0, 0, 0, [], md0) ∧ tabOf r_Cm_addClaim 25 = (25, .iconst 1, 1, 0, 0, 0, 0, 1, 0, [], md0) ∧ tabOf r_Cm_addClaim 26 = (26, .iadd, 1, 0, 0, 0, 0, 0, 0, [], md0) ∧ tabOf r_Cm_addClaim 27 = (27, .putfield 24, 3, 268, 1, 2, 0, 0, 0, [], md0) ∧ tabOf r_Cm_addClaim 30 = (30, .aload_n 0, 1, 0, 0, 0, 0, 0, 0, [], md0) ∧ tabOf r_Cm_addClaim 31 = (31, .getfield 24, 3, 268, 1, 2, 0, 0, 0, [], md0) ∧ tabOf r_Cm_addClaim 34 = (34, .iconst 1, 1, 0, 0, 0, 0, 1, 0, [], md0) ∧ tabOf r_Cm_addClaim 35 = (35, .isub, 1, 0, 0, 0, 0, 0, 0, [], md0) ∧ tabOf r_Cm_addClaim 36 = (36, .ireturn, 1, 0, 0, 0, 0, 0, 0, [], md0) ∧ m_Cm_addClaim.2.2.2.2.1.cells = 0 ∧ m_Cm_addClaim.2.2.2.2.1.slots = 0 ∧ m_Cm_addClaim.2.2.2.2.1.locals = 0 ∧ m_Cm_addClaim.2.2.2.1 = some .int ∧ m_Cm_addClaim.2.2.1 = 3 := ⟨rfl, rfl, rfl, rfl, rfl, rfl, rfl, rfl, rfl, rfl, rfl, rfl, rfl, rfl, rfl, rfl, rfl, rfl, rfl, rfl, rfl, rfl, rfl, rfl, rfl, rfl, rfl, rfl⟩
set_option maxRecDepth 100000 in
theorem ok_Cm_addClaim : r_Cm_addClaim.all (okRow m_Cm_addClaim.2.2.2.2.1 m_Cm_addClaim.1.cls m_Cm_addClaim.2.1 m_Cm_addClaim.2.2.1 false) = true := by decide +kernel
set_option maxRecDepth 100000 in
theorem in_Cm_addClaim {args : List Value} {h : MH} {K : KT} (nB : Nat) (hnB : nB ≤ h.2.2.2) (hL : cat2 args ≤ m_Cm_addClaim.2.2.1) (hdb : noD args = true) (H : ∀ P : PT, (∀ stops n pc lv st h cn sn, wq m_Cm_addClaim.2.2.2.2.1 m_Cm_addClaim.2.2.2.1 nB (0, fun _ => 0) Ct (tabOf r_Cm_addClaim) K P stops n pc lv st h cn sn → P pc lv st h cn sn) → P 0 (entL args m_Cm_addClaim.2.2.1) [] h 0 0) : Ct m_Cm_addClaim args h K := Ct.intro r_Cm_addClaim false nB (by decide) (by decide) ok_Cm_addClaim hnB hL hdb H
def r_Rh_hasBit : List Row := [(0, .lload_n 0, 1, 0, 0, 0, 0, 0, 0, [], md0),
  (1, .iload_n 2, 1, 0, 2, 0, 0, 0, 0, [], md0),
  (2, .lushr, 1, 0, 0, 0, 0, 0, 0, [], md0),
  (3, .lconst 1, 1, 0, 0, 0, 0, 0, 1, [], md0),
  (4, .land, 1, 0, 0, 0, 0, 0, 0, [], md0),
  (5, .lconst 0, 1, 0, 0, 0, 0, 0, 0, [], md0),
  (6, .lcmp, 1, 0, 0, 0, 0, 0, 0, [], md0),
  (7, .ifCond .eq 7, 3, 0, 14, 0, 0, 0, 0, [], md0),
  (10, .iconst 1, 1, 0, 0, 0, 0, 1, 0, [], md0),
  (11, .goto 4, 3, 0, 15, 0, 0, 0, 0, [], md0),
  (14, .iconst 0, 1, 0, 0, 0, 0, 0, 0, [], md0),
  (15, .ireturn, 1, 0, 0, 0, 0, 0, 0, [], md0)]
set_option maxRecDepth 100000 in
theorem tb_Rh_hasBit : tabOf r_Rh_hasBit 0 = (0, .lload_n 0, 1, 0, 0, 0, 0, 0, 0, [], md0) ∧ tabOf r_Rh_hasBit 1 = (1, .iload_n 2, 1, 0, 2, 0, 0, 0, 0, [], md0) ∧ tabOf r_Rh_hasBit 2 = (2, .lushr, 1, 0, 0, 0, 0, 0, 0, [], md0) ∧ tabOf r_Rh_hasBit 3 = (3, .lconst 1, 1, 0, 0, 0, 0, 0, 1, [], md0) ∧ tabOf r_Rh_hasBit 4 = (4, .land, 1, 0, 0, 0, 0, 0, 0, [], md0) ∧ tabOf r_Rh_hasBit 5 = (5, .lconst 0, 1, 0, 0, 0, 0, 0, 0, [], md0) ∧ tabOf r_Rh_hasBit 6 = (6, .lcmp, 1, 0, 0, 0, 0, 0, 0, [], md0) ∧ tabOf r_Rh_hasBit 7 = (7, .ifCond .eq 7, 3, 0, 14, 0, 0, 0, 0, [], md0) ∧ tabOf r_Rh_hasBit 10 = (10, .iconst 1, 1, 0, 0, 0, 0, 1, 0, [], md0) ∧ tabOf r_Rh_hasBit 11 = (11, .goto 4, 3, 0, 15, 0, 0, 0, 0, [], md0) ∧ tabOf r_Rh_hasBit 14 = (14, .iconst 0, 1, 0, 0, 0, 0, 0, 0, [], md0) ∧ tabOf r_Rh_hasBit 15 = (15, .ireturn, 1, 0, 0, 0, 0, 0, 0, [], md0) ∧ m_Rh_hasBit.2.2.2.2.1.cells = 0 ∧ m_Rh_hasBit.2.2.2.2.1.slots = 0 ∧ m_Rh_hasBit.2.2.2.2.1.locals = 0 ∧ m_Rh_hasBit.2.2.2.1 = some .boolean ∧ m_Rh_hasBit.2.2.1 = 3 := ⟨rfl, rfl, rfl, rfl, rfl, rfl, rfl, rfl, rfl, rfl, rfl, rfl, rfl, rfl, rfl, rfl, rfl⟩
set_option maxRecDepth 100000 in
theorem ok_Rh_hasBit : r_Rh_hasBit.all (okRow m_Rh_hasBit.2.2.2.2.1 m_Rh_hasBit.1.cls m_Rh_hasBit.2.1 m_Rh_hasBit.2.2.1 false) = true := by decide +kernel
set_option maxRecDepth 100000 in
theorem in_Rh_hasBit {args : List Value} {h : MH} {K : KT} (nB : Nat) (hnB : nB ≤ h.2.2.2) (hL : cat2 args ≤ m_Rh_hasBit.2.2.1) (hdb : noD args = true) (H : ∀ P : PT, (∀ stops n pc lv st h cn sn, wq m_Rh_hasBit.2.2.2.2.1 m_Rh_hasBit.2.2.2.1 nB (0, fun _ => 0) Ct (tabOf r_Rh_hasBit) K P stops n pc lv st h cn sn → P pc lv st h cn sn) → P 0 (entL args m_Rh_hasBit.2.2.1) [] h 0 0) : Ct m_Rh_hasBit args h K := Ct.intro r_Rh_hasBit false nB (by decide) (by decide) ok_Rh_hasBit hnB hL hdb H
def r_Cm_verdict : List Row := [(0, .lload_n 2, 1, 0, 2, 0, 0, 0, 0, [], md0),
  (1, .aload_n 0, 1, 0, 0, 0, 0, 0, 0, [], md0),
  (2, .getfield 15, 3, 267, 1, 1, 2, 0, 0, [], md0),
  (5, .iload_n 1, 1, 0, 1, 0, 0, 0, 0, [], md0),
  (6, .iaload, 1, 0, 0, 0, 0, 0, 0, [], md0),
  (7, .invokestatic 28, 3, 966, 0, 1, 0, 0, 0, [], m_Rh_hasBit),
  (10, .ifCond .ne 5, 3, 0, 15, 0, 0, 0, 0, [], md0),
  (13, .iconst 0, 1, 0, 0, 0, 0, 0, 0, [], md0),
  (14, .ireturn, 1, 0, 0, 0, 0, 0, 0, [], md0),
  (15, .lload_n 2, 1, 0, 2, 0, 0, 0, 0, [], md0),
  (16, .lconst 1, 1, 0, 0, 0, 0, 0, 1, [], md0),
  (17, .aload_n 0, 1, 0, 0, 0, 0, 0, 0, [], md0),
  (18, .getfield 15, 3, 267, 1, 1, 2, 0, 0, [], md0),
  (21, .iload_n 1, 1, 0, 1, 0, 0, 0, 0, [], md0),
  (22, .iaload, 1, 0, 0, 0, 0, 0, 0, [], md0),
  (23, .lshl, 1, 0, 0, 0, 0, 0, 0, [], md0),
  (24, .lcmp, 1, 0, 0, 0, 0, 0, 0, [], md0),
  (25, .ifCond .ne 7, 3, 0, 32, 0, 0, 0, 0, [], md0),
  (28, .iconst 2, 1, 0, 0, 0, 0, 2, 0, [], md0),
  (29, .goto 4, 3, 0, 33, 0, 0, 0, 0, [], md0),
  (32, .iconst 1, 1, 0, 0, 0, 0, 1, 0, [], md0),
  (33, .ireturn, 1, 0, 0, 0, 0, 0, 0, [], md0)]
set_option maxRecDepth 100000 in
theorem tb_Cm_verdict : tabOf r_Cm_verdict 0 = (0, .lload_n 2, 1, 0, 2, 0, 0, 0, 0, [], md0) ∧ tabOf r_Cm_verdict 1 = (1, .aload_n 0, 1, 0, 0, 0, 0, 0, 0, [], md0) ∧ tabOf r_Cm_verdict 2 = (2, .getfield 15, 3, 267, 1, 1, 2, 0, 0, [], md0) ∧ tabOf r_Cm_verdict 5 = (5, .iload_n 1, 1, 0, 1, 0, 0, 0, 0, [], md0) ∧ tabOf r_Cm_verdict 6 = (6, .iaload, 1, 0, 0, 0, 0, 0, 0, [], md0) ∧ tabOf r_Cm_verdict 7 = (7, .invokestatic 28, 3, 966, 0, 1, 0, 0, 0, [], m_Rh_hasBit) ∧ tabOf r_Cm_verdict 10 = (10, .ifCond .ne 5, 3, 0, 15, 0, 0, 0, 0, [], md0) ∧ tabOf r_Cm_verdict 13 = (13, .iconst 0, 1, 0, 0, 0, 0, 0, 0, [], md0) ∧ tabOf r_Cm_verdict 14 = (14, .ireturn, 1, 0, 0, 0, 0, 0, 0, [], md0) ∧ tabOf r_Cm_verdict 15 = (15, .lload_n 2, 1, 0, 2, 0, 0, 0, 0, [], md0) ∧ tabOf r_Cm_verdict 16 = (16, .lconst 1, 1, 0, 0, 0, 0, 0, 1, [], md0) ∧ tabOf r_Cm_verdict 17 = (17, .aload_n 0, 1, 0, 0, 0, 0, 0, 0, [], md0) ∧ tabOf r_Cm_verdict 18 = (18, .getfield 15, 3, 267, 1, 1, 2, 0, 0, [], md0) ∧ tabOf r_Cm_verdict 21 = (21, .iload_n 1, 1, 0, 1, 0, 0, 0, 0, [], md0) ∧ tabOf r_Cm_verdict 22 = (22, .iaload, 1, 0, 0, 0, 0, 0, 0, [], md0) ∧ tabOf r_Cm_verdict 23 = (23, .lshl, 1, 0, 0, 0, 0, 0, 0, [], md0) ∧ tabOf r_Cm_verdict 24 = (24, .lcmp, 1, 0, 0, 0, 0, 0, 0, [], md0) ∧ tabOf r_Cm_verdict 25 = (25, .ifCond .ne 7, 3, 0, 32, 0, 0, 0, 0, [], md0) ∧ tabOf r_Cm_verdict 28 = (28, .iconst 2, 1, 0, 0, 0, 0, 2, 0, [], md0) ∧ tabOf r_Cm_verdict 29 = (29, .goto 4, 3, 0, 33, 0, 0, 0, 0, [], md0) ∧ tabOf r_Cm_verdict 32 = (32, .iconst 1, 1, 0, 0, 0, 0, 1, 0, [], md0) ∧ tabOf r_Cm_verdict 33 = (33, .ireturn, 1, 0, 0, 0, 0, 0, 0, [], md0) ∧ m_Cm_verdict.2.2.2.2.1.cells = 0 ∧ m_Cm_verdict.2.2.2.2.1.slots = 0 ∧ m_Cm_verdict.2.2.2.2.1.locals = 22 ∧ m_Cm_verdict.2.2.2.1 = some .int ∧ m_Cm_verdict.2.2.1 = 4 ∧ m_Rh_hasBit.2.2.2.2.1.cells = 0 ∧ m_Rh_hasBit.2.2.2.2.1.slots = 0 ∧ m_Rh_hasBit.2.2.2.2.2.1 = 2 := ⟨rfl, rfl, rfl, rfl, rfl, rfl, rfl, rfl, rfl, rfl, rfl, rfl, rfl, rfl, rfl, rfl, rfl, rfl, rfl, rfl, rfl, rfl, rfl, rfl, rfl, rfl, rfl, rfl, rfl, rfl⟩
set_option maxRecDepth 100000 in
theorem ok_Cm_verdict : r_Cm_verdict.all (okRow m_Cm_verdict.2.2.2.2.1 m_Cm_verdict.1.cls m_Cm_verdict.2.1 m_Cm_verdict.2.2.1 false) = true := by decide +kernel
set_option maxRecDepth 100000 in
theorem in_Cm_verdict {args : List Value} {h : MH} {K : KT} (nB : Nat) (hnB : nB ≤ h.2.2.2) (hL : cat2 args ≤ m_Cm_verdict.2.2.1) (hdb : noD args = true) (H : ∀ P : PT, (∀ stops n pc lv st h cn sn, wq m_Cm_verdict.2.2.2.2.1 m_Cm_verdict.2.2.2.1 nB (0, fun _ => 0) Ct (tabOf r_Cm_verdict) K P stops n pc lv st h cn sn → P pc lv st h cn sn) → P 0 (entL args m_Cm_verdict.2.2.1) [] h 0 0) : Ct m_Cm_verdict args h K := Ct.intro r_Cm_verdict false nB (by decide) (by decide) ok_Cm_verdict hnB hL hdb H
def r_Cm_holding : List Row := [(0, .iconst 0, 1, 0, 0, 0, 0, 0, 0, [], md0),
  (1, .istore_n 3, 1, 0, 3, 0, 0, 0, 0, [], md0),
  (2, .iconst 0, 1, 0, 0, 0, 0, 0, 0, [], md0),
  (3, .istore 4, 2, 0, 4, 0, 0, 0, 0, [], md0),
  (5, .iload 4, 2, 0, 4, 0, 0, 0, 0, [], md0),
  (7, .aload_n 0, 1, 0, 0, 0, 0, 0, 0, [], md0),
  (8, .getfield 24, 3, 268, 1, 2, 0, 0, 0, [], md0),
  (11, .if_icmp .ge 51, 3, 0, 62, 0, 0, 0, 0, [], md0),
  (14, .aload_n 1, 1, 0, 1, 0, 0, 0, 0, [], md0),
  (15, .getfield 32, 3, 335, 8, 0, 2, 0, 0, [], md0),
  (18, .aload_n 0, 1, 0, 0, 0, 0, 0, 0, [], md0),
  (19, .getfield 9, 3, 265, 1, 0, 2, 0, 0, [], md0),
  (22, .iload 4, 2, 0, 4, 0, 0, 0, 0, [], md0),
  (24, .iaload, 1, 0, 0, 0, 0, 0, 0, [], md0),
  (25, .laload, 1, 0, 0, 0, 0, 0, 0, [], md0),
  (26, .lstore 5, 2, 0, 5, 0, 0, 0, 0, [], md0),
  (28, .aload_n 0, 1, 0, 0, 0, 0, 0, 0, [], md0),
  (29, .iload 4, 2, 0, 4, 0, 0, 0, 0, [], md0),
  (31, .lload 5, 2, 0, 5, 0, 0, 0, 0, [], md0),
  (33, .invokevirtual 38, 3, 984, 1, 0, 0, 0, 0, [], m_Cm_verdict),
  (36, .ifCond .le 20, 3, 0, 56, 0, 0, 0, 0, [], md0),
  (39, .iload_n 2, 1, 0, 2, 0, 0, 0, 0, [], md0),
  (40, .iconst (-1), 1, 0, 0, 0, 0, (-1), 0, [], md0),
  (41, .if_icmp .eq 12, 3, 0, 53, 0, 0, 0, 0, [], md0),
  (44, .lload 5, 2, 0, 5, 0, 0, 0, 0, [], md0),
  (46, .iload_n 2, 1, 0, 2, 0, 0, 0, 0, [], md0),
  (47, .invokestatic 28, 3, 966, 0, 1, 0, 0, 0, [], m_Rh_hasBit),
  (50, .ifCond .eq 6, 3, 0, 56, 0, 0, 0, 0, [], md0),
  (53, .iinc 3 1, 3, 0, 3, 0, 0, 1, 0, [], md0),
  (56, .iinc 4 1, 3, 0, 4, 0, 0, 1, 0, [], md0),
  (59, .goto (-54), 3, 0, 5, 0, 0, 0, 0, [], md0),
  (62, .iload_n 3, 1, 0, 3, 0, 0, 0, 0, [], md0),
  (63, .ireturn, 1, 0, 0, 0, 0, 0, 0, [], md0)]
set_option maxRecDepth 100000 in
theorem tb_Cm_holding : tabOf r_Cm_holding 0 = (0, .iconst 0, 1, 0, 0, 0, 0, 0, 0, [], md0) ∧ tabOf r_Cm_holding 1 = (1, .istore_n 3, 1, 0, 3, 0, 0, 0, 0, [], md0) ∧ tabOf r_Cm_holding 2 = (2, .iconst 0, 1, 0, 0, 0, 0, 0, 0, [], md0) ∧ tabOf r_Cm_holding 3 = (3, .istore 4, 2, 0, 4, 0, 0, 0, 0, [], md0) ∧ tabOf r_Cm_holding 5 = (5, .iload 4, 2, 0, 4, 0, 0, 0, 0, [], md0) ∧ tabOf r_Cm_holding 7 = (7, .aload_n 0, 1, 0, 0, 0, 0, 0, 0, [], md0) ∧ tabOf r_Cm_holding 8 = (8, .getfield 24, 3, 268, 1, 2, 0, 0, 0, [], md0) ∧ tabOf r_Cm_holding 11 = (11, .if_icmp .ge 51, 3, 0, 62, 0, 0, 0, 0, [], md0) ∧ tabOf r_Cm_holding 14 = (14, .aload_n 1, 1, 0, 1, 0, 0, 0, 0, [], md0) ∧ tabOf r_Cm_holding 15 = (15, .getfield 32, 3, 335, 8, 0, 2, 0, 0, [], md0) ∧ tabOf r_Cm_holding 18 = (18, .aload_n 0, 1, 0, 0, 0, 0, 0, 0, [], md0) ∧ tabOf r_Cm_holding 19 = (19, .getfield 9, 3, 265, 1, 0, 2, 0, 0, [], md0) ∧ tabOf r_Cm_holding 22 = (22, .iload 4, 2, 0, 4, 0, 0, 0, 0, [], md0) ∧ tabOf r_Cm_holding 24 = (24, .iaload, 1, 0, 0, 0, 0, 0, 0, [], md0) ∧ tabOf r_Cm_holding 25 = (25, .laload, 1, 0, 0, 0, 0, 0, 0, [], md0) ∧ tabOf r_Cm_holding 26 = (26, .lstore 5, 2, 0, 5, 0, 0, 0, 0, [], md0) ∧ tabOf r_Cm_holding 28 = (28, .aload_n 0, 1, 0, 0, 0, 0, 0, 0, [], md0) ∧ tabOf r_Cm_holding 29 = (29, .iload 4, 2, 0, 4, 0, 0, 0, 0, [], md0) ∧ tabOf r_Cm_holding 31 = (31, .lload 5, 2, 0, 5, 0, 0, 0, 0, [], md0) ∧ tabOf r_Cm_holding 33 = (33, .invokevirtual 38, 3, 984, 1, 0, 0, 0, 0, [], m_Cm_verdict) ∧ tabOf r_Cm_holding 36 = (36, .ifCond .le 20, 3, 0, 56, 0, 0, 0, 0, [], md0) ∧ tabOf r_Cm_holding 39 = (39, .iload_n 2, 1, 0, 2, 0, 0, 0, 0, [], md0) ∧ tabOf r_Cm_holding 40 = (40, .iconst (-1), 1, 0, 0, 0, 0, (-1), 0, [], md0) ∧ tabOf r_Cm_holding 41 = (41, .if_icmp .eq 12, 3, 0, 53, 0, 0, 0, 0, [], md0) ∧ tabOf r_Cm_holding 44 = (44, .lload 5, 2, 0, 5, 0, 0, 0, 0, [], md0) ∧ tabOf r_Cm_holding 46 = (46, .iload_n 2, 1, 0, 2, 0, 0, 0, 0, [], md0) ∧ tabOf r_Cm_holding 47 = (47, .invokestatic 28, 3, 966, 0, 1, 0, 0, 0, [], m_Rh_hasBit) ∧ tabOf r_Cm_holding 50 = (50, .ifCond .eq 6, 3, 0, 56, 0, 0, 0, 0, [], md0) ∧ tabOf r_Cm_holding 53 = (53, .iinc 3 1, 3, 0, 3, 0, 0, 1, 0, [], md0) ∧ tabOf r_Cm_holding 56 = (56, .iinc 4 1, 3, 0, 4, 0, 0, 1, 0, [], md0) ∧ tabOf r_Cm_holding 59 = (59, .goto (-54), 3, 0, 5, 0, 0, 0, 0, [], md0) ∧ tabOf r_Cm_holding 62 = (62, .iload_n 3, 1, 0, 3, 0, 0, 0, 0, [], md0) ∧ tabOf r_Cm_holding 63 = (63, .ireturn, 1, 0, 0, 0, 0, 0, 0, [], md0) ∧ m_Cm_holding.2.2.2.2.1.cells = 0 ∧ m_Cm_holding.2.2.2.2.1.slots = 0 ∧ m_Cm_holding.2.2.2.2.1.locals = 45 ∧ m_Cm_holding.2.2.2.1 = some .int ∧ m_Cm_holding.2.2.1 = 7 ∧ m_Cm_verdict.2.2.2.2.1.cells = 0 ∧ m_Cm_verdict.2.2.2.2.1.slots = 0 ∧ m_Cm_verdict.2.2.2.2.2.1 = 2 ∧ m_Rh_hasBit.2.2.2.2.1.cells = 0 ∧ m_Rh_hasBit.2.2.2.2.1.slots = 0 ∧ m_Rh_hasBit.2.2.2.2.2.1 = 2 := ⟨rfl, rfl, rfl, rfl, rfl, rfl, rfl, rfl, rfl, rfl, rfl, rfl, rfl, rfl, rfl, rfl, rfl, rfl, rfl, rfl, rfl, rfl, rfl, rfl, rfl, rfl, rfl, rfl, rfl, rfl, rfl, rfl, rfl, rfl, rfl, rfl, rfl, rfl, rfl, rfl, rfl, rfl, rfl, rfl⟩
set_option maxRecDepth 100000 in
theorem ok_Cm_holding : r_Cm_holding.all (okRow m_Cm_holding.2.2.2.2.1 m_Cm_holding.1.cls m_Cm_holding.2.1 m_Cm_holding.2.2.1 false) = true := by decide +kernel
set_option maxRecDepth 100000 in
theorem in_Cm_holding {args : List Value} {h : MH} {K : KT} (nB : Nat) (hnB : nB ≤ h.2.2.2) (hL : cat2 args ≤ m_Cm_holding.2.2.1) (hdb : noD args = true) (H : ∀ P : PT, (∀ stops n pc lv st h cn sn, wq m_Cm_holding.2.2.2.2.1 m_Cm_holding.2.2.2.1 nB (0, fun _ => 0) Ct (tabOf r_Cm_holding) K P stops n pc lv st h cn sn → P pc lv st h cn sn) → P 0 (entL args m_Cm_holding.2.2.1) [] h 0 0) : Ct m_Cm_holding args h K := Ct.intro r_Cm_holding false nB (by decide) (by decide) ok_Cm_holding hnB hL hdb H
def r_La_init : List Row := [(0, .aload_n 0, 1, 0, 0, 0, 0, 0, 0, [], md0),
  (1, .invokespecial 3, 3, 105, 0, 5, 0, 0, 0, [], md0),
  (4, .aload_n 0, 1, 0, 0, 0, 0, 0, 0, [], md0),
  (5, .bipush 48, 2, 0, 0, 0, 0, 48, 0, [], md0),
  (7, .newarray .int, 2, 137, 0, 48, 0, 48, 0, [], md0),
  (9, .putfield 9, 3, 106, 2, 0, 2, 0, 0, [], md0),
  (12, .aload_n 0, 1, 0, 0, 0, 0, 0, 0, [], md0),
  (13, .bipush 48, 2, 0, 0, 0, 0, 48, 0, [], md0),
  (15, .newarray .int, 2, 137, 0, 48, 0, 48, 0, [], md0),
  (17, .putfield 15, 3, 109, 2, 1, 2, 0, 0, [], md0),
  (20, .aload_n 0, 1, 0, 0, 0, 0, 0, 0, [], md0),
  (21, .bipush 48, 2, 0, 0, 0, 0, 48, 0, [], md0),
  (23, .newarray .int, 2, 137, 0, 48, 0, 48, 0, [], md0),
  (25, .putfield 18, 3, 111, 2, 2, 2, 0, 0, [], md0),
  (28, .aload_n 0, 1, 0, 0, 0, 0, 0, 0, [], md0),
  (29, .bipush 40, 2, 0, 0, 0, 0, 40, 0, [], md0),
  (31, .newarray .int, 2, 137, 0, 40, 0, 40, 0, [], md0),
  (33, .putfield 21, 3, 114, 2, 3, 2, 0, 0, [], md0),
  (36, .aload_n 0, 1, 0, 0, 0, 0, 0, 0, [], md0),
  (37, .bipush 40, 2, 0, 0, 0, 0, 40, 0, [], md0),
  (39, .newarray .int, 2, 137, 0, 40, 0, 40, 0, [], md0),
  (41, .putfield 24, 3, 115, 2, 4, 2, 0, 0, [], md0),
  (44, .aload_n 0, 1, 0, 0, 0, 0, 0, 0, [], md0),
  (45, .bipush 40, 2, 0, 0, 0, 0, 40, 0, [], md0),
  (47, .newarray .int, 2, 137, 0, 40, 0, 40, 0, [], md0),
  (49, .putfield 27, 3, 116, 2, 5, 2, 0, 0, [], md0),
  (52, .aload_n 0, 1, 0, 0, 0, 0, 0, 0, [], md0),
  (53, .bipush 48, 2, 0, 0, 0, 0, 48, 0, [], md0),
  (55, .newarray .int, 2, 137, 0, 48, 0, 48, 0, [], md0),
  (57, .putfield 30, 3, 119, 2, 7, 2, 0, 0, [], md0),
  (60, .return_, 1, 0, 0, 0, 0, 0, 0, [], md0)]
set_option maxRecDepth 100000 in
theorem tb_La_init : tabOf r_La_init 0 = (0, .aload_n 0, 1, 0, 0, 0, 0, 0, 0, [], md0) ∧ tabOf r_La_init 1 = (1, .invokespecial 3, 3, 105, 0, 5, 0, 0, 0, [], md0) ∧ tabOf r_La_init 4 = (4, .aload_n 0, 1, 0, 0, 0, 0, 0, 0, [], md0) ∧ tabOf r_La_init 5 = (5, .bipush 48, 2, 0, 0, 0, 0, 48, 0, [], md0) ∧ tabOf r_La_init 7 = (7, .newarray .int, 2, 137, 0, 48, 0, 48, 0, [], md0) ∧ tabOf r_La_init 9 = (9, .putfield 9, 3, 106, 2, 0, 2, 0, 0, [], md0) ∧ tabOf r_La_init 12 = (12, .aload_n 0, 1, 0, 0, 0, 0, 0, 0, [], md0) ∧ tabOf r_La_init 13 = (13, .bipush 48, 2, 0, 0, 0, 0, 48, 0, [], md0) ∧ tabOf r_La_init 15 = (15, .newarray .int, 2, 137, 0, 48, 0, 48, 0, [], md0) ∧ tabOf r_La_init 17 = (17, .putfield 15, 3, 109, 2, 1, 2, 0, 0, [], md0) ∧ tabOf r_La_init 20 = (20, .aload_n 0, 1, 0, 0, 0, 0, 0, 0, [], md0) ∧ tabOf r_La_init 21 = (21, .bipush 48, 2, 0, 0, 0, 0, 48, 0, [], md0) ∧ tabOf r_La_init 23 = (23, .newarray .int, 2, 137, 0, 48, 0, 48, 0, [], md0) ∧ tabOf r_La_init 25 = (25, .putfield 18, 3, 111, 2, 2, 2, 0, 0, [], md0) ∧ tabOf r_La_init 28 = (28, .aload_n 0, 1, 0, 0, 0, 0, 0, 0, [], md0) ∧ tabOf r_La_init 29 = (29, .bipush 40, 2, 0, 0, 0, 0, 40, 0, [], md0) ∧ tabOf r_La_init 31 = (31, .newarray .int, 2, 137, 0, 40, 0, 40, 0, [], md0) ∧ tabOf r_La_init 33 = (33, .putfield 21, 3, 114, 2, 3, 2, 0, 0, [], md0) ∧ tabOf r_La_init 36 = (36, .aload_n 0, 1, 0, 0, 0, 0, 0, 0, [], md0) ∧ tabOf r_La_init 37 = (37, .bipush 40, 2, 0, 0, 0, 0, 40, 0, [], md0) ∧ tabOf r_La_init 39 = (39, .newarray .int, 2, 137, 0, 40, 0, 40, 0, [], md0) ∧ tabOf r_La_init 41 = (41, .putfield 24, 3, 115, 2, 4, 2, 0, 0, [], md0) ∧ tabOf r_La_init 44 = (44, .aload_n 0, 1, 0, 0, 0, 0, 0, 0, [], md0) ∧ tabOf r_La_init 45 = (45, .bipush 40, 2, 0, 0, 0, 0, 40, 0, [], md0) ∧ tabOf r_La_init 47 = (47, .newarray .int, 2, 137, 0, 40, 0, 40, 0, [], md0) ∧ tabOf r_La_init 49 = (49, .putfield 27, 3, 116, 2, 5, 2, 0, 0, [], md0) ∧ tabOf r_La_init 52 = (52, .aload_n 0, 1, 0, 0, 0, 0, 0, 0, [], md0) ∧ tabOf r_La_init 53 = (53, .bipush 48, 2, 0, 0, 0, 0, 48, 0, [], md0) ∧ tabOf r_La_init 55 = (55, .newarray .int, 2, 137, 0, 48, 0, 48, 0, [], md0) ∧ tabOf r_La_init 57 = (57, .putfield 30, 3, 119, 2, 7, 2, 0, 0, [], md0) ∧ tabOf r_La_init 60 = (60, .return_, 1, 0, 0, 0, 0, 0, 0, [], md0) ∧ m_La_init.2.2.2.2.1.cells = 7 ∧ m_La_init.2.2.2.2.1.slots = 312 ∧ m_La_init.2.2.2.2.1.locals = 20 ∧ m_La_init.2.2.2.1 = none ∧ m_La_init.2.2.1 = 1 := ⟨rfl, rfl, rfl, rfl, rfl, rfl, rfl, rfl, rfl, rfl, rfl, rfl, rfl, rfl, rfl, rfl, rfl, rfl, rfl, rfl, rfl, rfl, rfl, rfl, rfl, rfl, rfl, rfl, rfl, rfl, rfl, rfl, rfl, rfl, rfl, rfl⟩
set_option maxRecDepth 100000 in
theorem ok_La_init : r_La_init.all (okRow m_La_init.2.2.2.2.1 m_La_init.1.cls m_La_init.2.1 m_La_init.2.2.1 true) = true := by decide +kernel
set_option maxRecDepth 100000 in
theorem in_La_init {args : List Value} {h : MH} {K : KT} (nB : Nat) (hnB : nB ≤ h.2.2.2) (hL : cat2 args ≤ m_La_init.2.2.1) (hdb : noD args = true) (H : ∀ P : PT, (∀ stops n pc lv st h cn sn, wq m_La_init.2.2.2.2.1 m_La_init.2.2.2.1 nB (0, fun _ => 0) Ct (tabOf r_La_init) K P stops n pc lv st h cn sn → P pc lv st h cn sn) → P 0 (entL args m_La_init.2.2.1) [] h 0 0) : Ct m_La_init args h K := Ct.intro r_La_init true nB (by decide) (by decide) ok_La_init hnB hL hdb H
def r_La_takeFrom : List Row := [(0, .aload_n 1, 1, 0, 1, 0, 0, 0, 0, [], md0),
  (1, .getfield 9, 3, 106, 2, 0, 2, 0, 0, [], md0),
  (4, .iconst 0, 1, 0, 0, 0, 0, 0, 0, [], md0),
  (5, .aload_n 0, 1, 0, 0, 0, 0, 0, 0, [], md0),
  (6, .getfield 9, 3, 106, 2, 0, 2, 0, 0, [], md0),
  (9, .iconst 0, 1, 0, 0, 0, 0, 0, 0, [], md0),
  (10, .bipush 48, 2, 0, 0, 0, 0, 48, 0, [], md0),
  (12, .invokestatic 33, 3, 1122, 0, 4, 0, 0, 0, [], md0),
  (15, .aload_n 1, 1, 0, 1, 0, 0, 0, 0, [], md0),
  (16, .getfield 15, 3, 109, 2, 1, 2, 0, 0, [], md0),
  (19, .iconst 0, 1, 0, 0, 0, 0, 0, 0, [], md0),
  (20, .aload_n 0, 1, 0, 0, 0, 0, 0, 0, [], md0),
  (21, .getfield 15, 3, 109, 2, 1, 2, 0, 0, [], md0),
  (24, .iconst 0, 1, 0, 0, 0, 0, 0, 0, [], md0),
  (25, .bipush 48, 2, 0, 0, 0, 0, 48, 0, [], md0),
  (27, .invokestatic 33, 3, 1122, 0, 4, 0, 0, 0, [], md0),
  (30, .aload_n 1, 1, 0, 1, 0, 0, 0, 0, [], md0),
  (31, .getfield 18, 3, 111, 2, 2, 2, 0, 0, [], md0),
  (34, .iconst 0, 1, 0, 0, 0, 0, 0, 0, [], md0),
  (35, .aload_n 0, 1, 0, 0, 0, 0, 0, 0, [], md0),
  (36, .getfield 18, 3, 111, 2, 2, 2, 0, 0, [], md0),
  (39, .iconst 0, 1, 0, 0, 0, 0, 0, 0, [], md0),
  (40, .bipush 48, 2, 0, 0, 0, 0, 48, 0, [], md0),
  (42, .invokestatic 33, 3, 1122, 0, 4, 0, 0, 0, [], md0),
  (45, .aload_n 1, 1, 0, 1, 0, 0, 0, 0, [], md0),
  (46, .getfield 21, 3, 114, 2, 3, 2, 0, 0, [], md0),
  (49, .iconst 0, 1, 0, 0, 0, 0, 0, 0, [], md0),
  (50, .aload_n 0, 1, 0, 0, 0, 0, 0, 0, [], md0),
  (51, .getfield 21, 3, 114, 2, 3, 2, 0, 0, [], md0),
  (54, .iconst 0, 1, 0, 0, 0, 0, 0, 0, [], md0),
  (55, .bipush 40, 2, 0, 0, 0, 0, 40, 0, [], md0),
  (57, .invokestatic 33, 3, 1122, 0, 4, 0, 0, 0, [], md0),
  (60, .aload_n 1, 1, 0, 1, 0, 0, 0, 0, [], md0),
  (61, .getfield 24, 3, 115, 2, 4, 2, 0, 0, [], md0),
  (64, .iconst 0, 1, 0, 0, 0, 0, 0, 0, [], md0),
  (65, .aload_n 0, 1, 0, 0, 0, 0, 0, 0, [], md0),
  (66, .getfield 24, 3, 115, 2, 4, 2, 0, 0, [], md0),
  (69, .iconst 0, 1, 0, 0, 0, 0, 0, 0, [], md0),
  (70, .bipush 40, 2, 0, 0, 0, 0, 40, 0, [], md0),
  (72, .invokestatic 33, 3, 1122, 0, 4, 0, 0, 0, [], md0),
  (75, .aload_n 1, 1, 0, 1, 0, 0, 0, 0, [], md0),
  (76, .getfield 27, 3, 116, 2, 5, 2, 0, 0, [], md0),
  (79, .iconst 0, 1, 0, 0, 0, 0, 0, 0, [], md0),
  (80, .aload_n 0, 1, 0, 0, 0, 0, 0, 0, [], md0),
  (81, .getfield 27, 3, 116, 2, 5, 2, 0, 0, [], md0),
  (84, .iconst 0, 1, 0, 0, 0, 0, 0, 0, [], md0),
  (85, .bipush 40, 2, 0, 0, 0, 0, 40, 0, [], md0),
  (87, .invokestatic 33, 3, 1122, 0, 4, 0, 0, 0, [], md0),
  (90, .aload_n 0, 1, 0, 0, 0, 0, 0, 0, [], md0),
  (91, .aload_n 1, 1, 0, 1, 0, 0, 0, 0, [], md0),
  (92, .getfield 39, 3, 117, 2, 6, 0, 0, 0, [], md0),
  (95, .putfield 39, 3, 117, 2, 6, 0, 0, 0, [], md0),
  (98, .return_, 1, 0, 0, 0, 0, 0, 0, [], md0)]
set_option maxRecDepth 100000 in
theorem tb_La_takeFrom : tabOf r_La_takeFrom 0 = (0, .aload_n 1, 1, 0, 1, 0, 0, 0, 0, [], md0) ∧ tabOf r_La_takeFrom 1 = (1, .getfield 9, 3, 106, 2, 0, 2, 0, 0, [], md0) ∧ tabOf r_La_takeFrom 4 = (4, .iconst 0, 1, 0, 0, 0, 0, 0, 0, [], md0) ∧ tabOf r_La_takeFrom 5 = (5, .aload_n 0, 1, 0, 0, 0, 0, 0, 0, [], md0) ∧ tabOf r_La_takeFrom 6 = (6, .getfield 9, 3, 106, 2, 0, 2, 0, 0, [], md0) ∧ tabOf r_La_takeFrom 9 = (9, .iconst 0, 1, 0, 0, 0, 0, 0, 0, [], md0) ∧ tabOf r_La_takeFrom 10 = (10, .bipush 48, 2, 0, 0, 0, 0, 48, 0, [], md0) ∧ tabOf r_La_takeFrom 12 = (12, .invokestatic 33, 3, 1122, 0, 4, 0, 0, 0, [], md0) ∧ tabOf r_La_takeFrom 15 = (15, .aload_n 1, 1, 0, 1, 0, 0, 0, 0, [], md0) ∧ tabOf r_La_takeFrom 16 = (16, .getfield 15, 3, 109, 2, 1, 2, 0, 0, [], md0) ∧ tabOf r_La_takeFrom 19 = (19, .iconst 0, 1, 0, 0, 0, 0, 0, 0, [], md0) ∧ tabOf r_La_takeFrom 20 = (20, .aload_n 0, 1, 0, 0, 0, 0, 0, 0, [], md0) ∧ tabOf r_La_takeFrom 21 = (21, .getfield 15, 3, 109, 2, 1, 2, 0, 0, [], md0) ∧ tabOf r_La_takeFrom 24 = (24, .iconst 0, 1, 0, 0, 0, 0, 0, 0, [], md0) ∧ tabOf r_La_takeFrom 25 = (25, .bipush 48, 2, 0, 0, 0, 0, 48, 0, [], md0) ∧ tabOf r_La_takeFrom 27 = (27, .invokestatic 33, 3, 1122, 0, 4, 0, 0, 0, [], md0) ∧ tabOf r_La_takeFrom 30 = (30, .aload_n 1, 1, 0, 1, 0, 0, 0, 0, [], md0) ∧ tabOf r_La_takeFrom 31 = (31, .getfield 18, 3, 111, 2, 2, 2, 0, 0, [], md0) ∧ tabOf r_La_takeFrom 34 = (34, .iconst 0, 1, 0, 0, 0, 0, 0, 0, [], md0) ∧ tabOf r_La_takeFrom 35 = (35, .aload_n 0, 1, 0, 0, 0, 0, 0, 0, [], md0) ∧ tabOf r_La_takeFrom 36 = (36, .getfield 18, 3, 111, 2, 2, 2, 0, 0, [], md0) ∧ tabOf r_La_takeFrom 39 = (39, .iconst 0, 1, 0, 0, 0, 0, 0, 0, [], md0) ∧ tabOf r_La_takeFrom 40 = (40, .bipush 48, 2, 0, 0, 0, 0, 48, 0, [], md0) ∧ tabOf r_La_takeFrom 42 = (42, .invokestatic 33, 3, 1122, 0, 4, 0, 0, 0, [], md0) ∧ tabOf r_La_takeFrom 45 = (45, .aload_n 1, 1, 0, 1, 0, 0, 0, 0, [], md0) ∧ tabOf r_La_takeFrom 46 = (46, .getfield 21, 3, 114, 2, 3, 2, 0, 0, [], md0) ∧ tabOf r_La_takeFrom 49 = (49, .iconst 0, 1, 0, 0, 0, 0, 0, 0, [], md0) ∧ tabOf r_La_takeFrom 50 = (50, .aload_n 0, 1, 0, 0, 0, 0, 0, 0, [], md0) ∧ tabOf r_La_takeFrom 51 = (51, .getfield 21, 3, 114, 2, 3, 2, 0, 0, [], md0) ∧ tabOf r_La_takeFrom 54 = (54, .iconst 0, 1, 0, 0, 0, 0, 0, 0, [], md0) ∧ tabOf r_La_takeFrom 55 = (55, .bipush 40, 2, 0, 0, 0, 0, 40, 0, [], md0) ∧ tabOf r_La_takeFrom 57 = (57, .invokestatic 33, 3, 1122, 0, 4, 0, 0, 0, [], md0) ∧ tabOf r_La_takeFrom 60 = (60, .aload_n 1, 1, 0, 1, 0, 0, 0, 0, [], md0) ∧ tabOf r_La_takeFrom 61 = (61, .getfield 24, 3, 115, 2, 4, 2, 0, 0, [], md0) ∧ tabOf r_La_takeFrom 64 = (64, .iconst 0, 1, 0, 0, 0, 0, 0, 0, [], md0) ∧ tabOf r_La_takeFrom 65 = (65, .aload_n 0, 1, 0, 0, 0, 0, 0, 0, [], md0) ∧ tabOf r_La_takeFrom 66 = (66, .getfield 24, 3, 115, 2, 4, 2, 0, 0, [], md0) ∧ tabOf r_La_takeFrom 69 = (69, .iconst 0, 1, 0, 0, 0, 0, 0, 0, [], md0) ∧ tabOf r_La_takeFrom 70 = (70, .bipush 40, 2, 0, 0, 0, 0, 40, 0, [], md0) ∧ tabOf r_La_takeFrom 72 = (72, .invokestatic 33, 3, 1122, 0, 4, 0, 0, 0, [], md0) ∧ tabOf r_La_takeFrom 75 = (75, .aload_n 1, 1, 0, 1, 0, 0, 0, 0, [], md0) ∧ tabOf r_La_takeFrom 76 = (76, .getfield 27, 3, 116, 2, 5, 2, 0, 0, [], md0) ∧ tabOf r_La_takeFrom 79 = (79, .iconst 0, 1, 0, 0, 0, 0, 0, 0, [], md0) ∧ tabOf r_La_takeFrom 80 = (80, .aload_n 0, 1, 0, 0, 0, 0, 0, 0, [], md0) ∧ tabOf r_La_takeFrom 81 = (81, .getfield 27, 3, 116, 2, 5, 2, 0, 0, [], md0) ∧ tabOf r_La_takeFrom 84 = (84, .iconst 0, 1, 0, 0, 0, 0, 0, 0, [], md0) ∧ tabOf r_La_takeFrom 85 = (85, .bipush 40, 2, 0, 0, 0, 0, 40, 0, [], md0) ∧ tabOf r_La_takeFrom 87 = (87, .invokestatic 33, 3, 1122, 0, 4, 0, 0, 0, [], md0) ∧ tabOf r_La_takeFrom 90 = (90, .aload_n 0, 1, 0, 0, 0, 0, 0, 0, [], md0) ∧ tabOf r_La_takeFrom 91 = (91, .aload_n 1, 1, 0, 1, 0, 0, 0, 0, [], md0) ∧ tabOf r_La_takeFrom 92 = (92, .getfield 39, 3, 117, 2, 6, 0, 0, 0, [], md0) ∧ tabOf r_La_takeFrom 95 = (95, .putfield 39, 3, 117, 2, 6, 0, 0, 0, [], md0) ∧ tabOf r_La_takeFrom 98 = (98, .return_, 1, 0, 0, 0, 0, 0, 0, [], md0) ∧ m_La_takeFrom.2.2.2.2.1.cells = 0 ∧ m_La_takeFrom.2.2.2.2.1.slots = 0 ∧ m_La_takeFrom.2.2.2.2.1.locals = 26 ∧ m_La_takeFrom.2.2.2.1 = none ∧ m_La_takeFrom.2.2.1 = 2 := ⟨rfl, rfl, rfl, rfl, rfl, rfl, rfl, rfl, rfl, rfl, rfl, rfl, rfl, rfl, rfl, rfl, rfl, rfl, rfl, rfl, rfl, rfl, rfl, rfl, rfl, rfl, rfl, rfl, rfl, rfl, rfl, rfl, rfl, rfl, rfl, rfl, rfl, rfl, rfl, rfl, rfl, rfl, rfl, rfl, rfl, rfl, rfl, rfl, rfl, rfl, rfl, rfl, rfl, rfl, rfl, rfl, rfl, rfl⟩
set_option maxRecDepth 100000 in
theorem ok_La_takeFrom : r_La_takeFrom.all (okRow m_La_takeFrom.2.2.2.2.1 m_La_takeFrom.1.cls m_La_takeFrom.2.1 m_La_takeFrom.2.2.1 false) = true := by decide +kernel
set_option maxRecDepth 100000 in
theorem in_La_takeFrom {args : List Value} {h : MH} {K : KT} (nB : Nat) (hnB : nB ≤ h.2.2.2) (hL : cat2 args ≤ m_La_takeFrom.2.2.1) (hdb : noD args = true) (H : ∀ P : PT, (∀ stops n pc lv st h cn sn, wq m_La_takeFrom.2.2.2.2.1 m_La_takeFrom.2.2.2.1 nB (0, fun _ => 0) Ct (tabOf r_La_takeFrom) K P stops n pc lv st h cn sn → P pc lv st h cn sn) → P 0 (entL args m_La_takeFrom.2.2.1) [] h 0 0) : Ct m_La_takeFrom args h K := Ct.intro r_La_takeFrom false nB (by decide) (by decide) ok_La_takeFrom hnB hL hdb H
def r_La_leadsDownWith : List Row := [(0, .iconst 0, 1, 0, 0, 0, 0, 0, 0, [], md0),
  (1, .istore_n 3, 1, 0, 3, 0, 0, 0, 0, [], md0),
  (2, .iload_n 3, 1, 0, 3, 0, 0, 0, 0, [], md0),
  (3, .aload_n 0, 1, 0, 0, 0, 0, 0, 0, [], md0),
  (4, .getfield 39, 3, 117, 2, 6, 0, 0, 0, [], md0),
  (7, .if_icmp .ge 63, 3, 0, 70, 0, 0, 0, 0, [], md0),
  (10, .aload_n 0, 1, 0, 0, 0, 0, 0, 0, [], md0),
  (11, .getfield 21, 3, 114, 2, 3, 2, 0, 0, [], md0),
  (14, .iload_n 3, 1, 0, 3, 0, 0, 0, 0, [], md0),
  (15, .iaload, 1, 0, 0, 0, 0, 0, 0, [], md0),
  (16, .iload_n 1, 1, 0, 1, 0, 0, 0, 0, [], md0),
  (17, .if_icmp .ne 20, 3, 0, 37, 0, 0, 0, 0, [], md0),
  (20, .iload_n 2, 1, 0, 2, 0, 0, 0, 0, [], md0),
  (21, .aload_n 0, 1, 0, 0, 0, 0, 0, 0, [], md0),
  (22, .getfield 9, 3, 106, 2, 0, 2, 0, 0, [], md0),
  (25, .aload_n 0, 1, 0, 0, 0, 0, 0, 0, [], md0),
  (26, .getfield 24, 3, 115, 2, 4, 2, 0, 0, [], md0),
  (29, .iload_n 3, 1, 0, 3, 0, 0, 0, 0, [], md0),
  (30, .iaload, 1, 0, 0, 0, 0, 0, 0, [], md0),
  (31, .iaload, 1, 0, 0, 0, 0, 0, 0, [], md0),
  (32, .if_icmp .gt 5, 3, 0, 37, 0, 0, 0, 0, [], md0),
  (35, .iconst 0, 1, 0, 0, 0, 0, 0, 0, [], md0),
  (36, .ireturn, 1, 0, 0, 0, 0, 0, 0, [], md0),
  (37, .aload_n 0, 1, 0, 0, 0, 0, 0, 0, [], md0),
  (38, .getfield 24, 3, 115, 2, 4, 2, 0, 0, [], md0),
  (41, .iload_n 3, 1, 0, 3, 0, 0, 0, 0, [], md0),
  (42, .iaload, 1, 0, 0, 0, 0, 0, 0, [], md0),
  (43, .iload_n 1, 1, 0, 1, 0, 0, 0, 0, [], md0),
  (44, .if_icmp .ne 20, 3, 0, 64, 0, 0, 0, 0, [], md0),
  (47, .aload_n 0, 1, 0, 0, 0, 0, 0, 0, [], md0),
  (48, .getfield 9, 3, 106, 2, 0, 2, 0, 0, [], md0),
  (51, .aload_n 0, 1, 0, 0, 0, 0, 0, 0, [], md0),
  (52, .getfield 21, 3, 114, 2, 3, 2, 0, 0, [], md0),
  (55, .iload_n 3, 1, 0, 3, 0, 0, 0, 0, [], md0),
  (56, .iaload, 1, 0, 0, 0, 0, 0, 0, [], md0),
  (57, .iaload, 1, 0, 0, 0, 0, 0, 0, [], md0),
  (58, .iload_n 2, 1, 0, 2, 0, 0, 0, 0, [], md0),
  (59, .if_icmp .gt 5, 3, 0, 64, 0, 0, 0, 0, [], md0),
  (62, .iconst 0, 1, 0, 0, 0, 0, 0, 0, [], md0),
  (63, .ireturn, 1, 0, 0, 0, 0, 0, 0, [], md0),
  (64, .iinc 3 1, 3, 0, 3, 0, 0, 1, 0, [], md0),
  (67, .goto (-65), 3, 0, 2, 0, 0, 0, 0, [], md0),
  (70, .iconst 1, 1, 0, 0, 0, 0, 1, 0, [], md0),
  (71, .ireturn, 1, 0, 0, 0, 0, 0, 0, [], md0)]
set_option maxRecDepth 100000 in
theorem tb_La_leadsDownWith : tabOf r_La_leadsDownWith 0 = (0, .iconst 0, 1, 0, 0, 0, 0, 0, 0, [], md0) ∧ tabOf r_La_leadsDownWith 1 = (1, .istore_n 3, 1, 0, 3, 0, 0, 0, 0, [], md0) ∧ tabOf r_La_leadsDownWith 2 = (2, .iload_n 3, 1, 0, 3, 0, 0, 0, 0, [], md0) ∧ tabOf r_La_leadsDownWith 3 = (3, .aload_n 0, 1, 0, 0, 0, 0, 0, 0, [], md0) ∧ tabOf r_La_leadsDownWith 4 = (4, .getfield 39, 3, 117, 2, 6, 0, 0, 0, [], md0) ∧ tabOf r_La_leadsDownWith 7 = (7, .if_icmp .ge 63, 3, 0, 70, 0, 0, 0, 0, [], md0) ∧ tabOf r_La_leadsDownWith 10 = (10, .aload_n 0, 1, 0, 0, 0, 0, 0, 0, [], md0) ∧ tabOf r_La_leadsDownWith 11 = (11, .getfield 21, 3, 114, 2, 3, 2, 0, 0, [], md0) ∧ tabOf r_La_leadsDownWith 14 = (14, .iload_n 3, 1, 0, 3, 0, 0, 0, 0, [], md0) ∧ tabOf r_La_leadsDownWith 15 = (15, .iaload, 1, 0, 0, 0, 0, 0, 0, [], md0) ∧ tabOf r_La_leadsDownWith 16 = (16, .iload_n 1, 1, 0, 1, 0, 0, 0, 0, [], md0) ∧ tabOf r_La_leadsDownWith 17 = (17, .if_icmp .ne 20, 3, 0, 37, 0, 0, 0, 0, [], md0) ∧ tabOf r_La_leadsDownWith 20 = (20, .iload_n 2, 1, 0, 2, 0, 0, 0, 0, [], md0) ∧ tabOf r_La_leadsDownWith 21 = (21, .aload_n 0, 1, 0, 0, 0, 0, 0, 0, [], md0) ∧ tabOf r_La_leadsDownWith 22 = (22, .getfield 9, 3, 106, 2, 0, 2, 0, 0, [], md0) ∧ tabOf r_La_leadsDownWith 25 = (25, .aload_n 0, 1, 0, 0, 0, 0, 0, 0, [], md0) ∧ tabOf r_La_leadsDownWith 26 = (26, .getfield 24, 3, 115, 2, 4, 2, 0, 0, [], md0) ∧ tabOf r_La_leadsDownWith 29 = (29, .iload_n 3, 1, 0, 3, 0, 0, 0, 0, [], md0) ∧ tabOf r_La_leadsDownWith 30 = (30, .iaload, 1, 0, 0, 0, 0, 0, 0, [], md0) ∧ tabOf r_La_leadsDownWith 31 = (31, .iaload, 1, 0, 0, 0, 0, 0, 0, [], md0) ∧ tabOf r_La_leadsDownWith 32 = (32, .if_icmp .gt 5, 3, 0, 37, 0, 0, 0, 0, [], md0) ∧ tabOf r_La_leadsDownWith 35 = (35, .iconst 0, 1, 0, 0, 0, 0, 0, 0, [], md0) ∧ tabOf r_La_leadsDownWith 36 = (36, .ireturn, 1, 0, 0, 0, 0, 0, 0, [], md0) ∧ tabOf r_La_leadsDownWith 37 = (37, .aload_n 0, 1, 0, 0, 0, 0, 0, 0, [], md0) ∧ tabOf r_La_leadsDownWith 38 = (38, .getfield 24, 3, 115, 2, 4, 2, 0, 0, [], md0) ∧ tabOf r_La_leadsDownWith 41 = (41, .iload_n 3, 1, 0, 3, 0, 0, 0, 0, [], md0) ∧ tabOf r_La_leadsDownWith 42 = (42, .iaload, 1, 0, 0, 0, 0, 0, 0, [], md0) ∧ tabOf r_La_leadsDownWith 43 = (43, .iload_n 1, 1, 0, 1, 0, 0, 0, 0, [], md0) ∧ tabOf r_La_leadsDownWith 44 = (44, .if_icmp .ne 20, 3, 0, 64, 0, 0, 0, 0, [], md0) ∧ tabOf r_La_leadsDownWith 47 = (47, .aload_n 0, 1, 0, 0, 0, 0, 0, 0, [], md0) ∧ tabOf r_La_leadsDownWith 48 = (48, .getfield 9, 3, 106, 2, 0, 2, 0, 0, [], md0) ∧ tabOf r_La_leadsDownWith 51 = (51, .aload_n 0, 1, 0, 0, 0, 0, 0, 0, [], md0) ∧ tabOf r_La_leadsDownWith 52 = (52, .getfield 21, 3, 114, 2, 3, 2, 0, 0, [], md0) ∧ tabOf r_La_leadsDownWith 55 = (55, .iload_n 3, 1, 0, 3, 0, 0, 0, 0, [], md0) ∧ tabOf r_La_leadsDownWith 56 = (56, .iaload, 1, 0, 0, 0, 0, 0, 0, [], md0) ∧ tabOf r_La_leadsDownWith 57 = (57, .iaload, 1, 0, 0, 0, 0, 0, 0, [], md0) ∧ tabOf r_La_leadsDownWith 58 = (58, .iload_n 2, 1, 0, 2, 0, 0, 0, 0, [], md0) ∧ tabOf r_La_leadsDownWith 59 = (59, .if_icmp .gt 5, 3, 0, 64, 0, 0, 0, 0, [], md0) ∧ tabOf r_La_leadsDownWith 62 = (62, .iconst 0, 1, 0, 0, 0, 0, 0, 0, [], md0) ∧ tabOf r_La_leadsDownWith 63 = (63, .ireturn, 1, 0, 0, 0, 0, 0, 0, [], md0) ∧ tabOf r_La_leadsDownWith 64 = (64, .iinc 3 1, 3, 0, 3, 0, 0, 1, 0, [], md0) ∧ tabOf r_La_leadsDownWith 67 = (67, .goto (-65), 3, 0, 2, 0, 0, 0, 0, [], md0) ∧ tabOf r_La_leadsDownWith 70 = (70, .iconst 1, 1, 0, 0, 0, 0, 1, 0, [], md0) ∧ tabOf r_La_leadsDownWith 71 = (71, .ireturn, 1, 0, 0, 0, 0, 0, 0, [], md0) ∧ m_La_leadsDownWith.2.2.2.2.1.cells = 0 ∧ m_La_leadsDownWith.2.2.2.2.1.slots = 0 ∧ m_La_leadsDownWith.2.2.2.2.1.locals = 0 ∧ m_La_leadsDownWith.2.2.2.1 = some .boolean ∧ m_La_leadsDownWith.2.2.1 = 4 := ⟨rfl, rfl, rfl, rfl, rfl, rfl, rfl, rfl, rfl, rfl, rfl, rfl, rfl, rfl, rfl, rfl, rfl, rfl, rfl, rfl, rfl, rfl, rfl, rfl, rfl, rfl, rfl, rfl, rfl, rfl, rfl, rfl, rfl, rfl, rfl, rfl, rfl, rfl, rfl, rfl, rfl, rfl, rfl, rfl, rfl, rfl, rfl, rfl, rfl⟩
set_option maxRecDepth 100000 in
theorem ok_La_leadsDownWith : r_La_leadsDownWith.all (okRow m_La_leadsDownWith.2.2.2.2.1 m_La_leadsDownWith.1.cls m_La_leadsDownWith.2.1 m_La_leadsDownWith.2.2.1 false) = true := by decide +kernel
set_option maxRecDepth 100000 in
theorem in_La_leadsDownWith {args : List Value} {h : MH} {K : KT} (nB : Nat) (hnB : nB ≤ h.2.2.2) (hL : cat2 args ≤ m_La_leadsDownWith.2.2.1) (hdb : noD args = true) (H : ∀ P : PT, (∀ stops n pc lv st h cn sn, wq m_La_leadsDownWith.2.2.2.2.1 m_La_leadsDownWith.2.2.2.1 nB (0, fun _ => 0) Ct (tabOf r_La_leadsDownWith) K P stops n pc lv st h cn sn → P pc lv st h cn sn) → P 0 (entL args m_La_leadsDownWith.2.2.1) [] h 0 0) : Ct m_La_leadsDownWith args h K := Ct.intro r_La_leadsDownWith false nB (by decide) (by decide) ok_La_leadsDownWith hnB hL hdb H
def r_La_addLink : List Row := [(0, .aload_n 0, 1, 0, 0, 0, 0, 0, 0, [], md0),
  (1, .getfield 21, 3, 114, 2, 3, 2, 0, 0, [], md0),
  (4, .aload_n 0, 1, 0, 0, 0, 0, 0, 0, [], md0),
  (5, .getfield 39, 3, 117, 2, 6, 0, 0, 0, [], md0),
  (8, .iload_n 1, 1, 0, 1, 0, 0, 0, 0, [], md0),
  (9, .iastore, 1, 0, 0, 0, 0, 0, 0, [], md0),
  (10, .aload_n 0, 1, 0, 0, 0, 0, 0, 0, [], md0),
  (11, .getfield 24, 3, 115, 2, 4, 2, 0, 0, [], md0),
  (14, .aload_n 0, 1, 0, 0, 0, 0, 0, 0, [], md0),
  (15, .getfield 39, 3, 117, 2, 6, 0, 0, 0, [], md0),
  (18, .iload_n 2, 1, 0, 2, 0, 0, 0, 0, [], md0),
  (19, .iastore, 1, 0, 0, 0, 0, 0, 0, [], md0),
  (20, .aload_n 0, 1, 0, 0, 0, 0, 0, 0, [], md0),
  (21, .getfield 27, 3, 116, 2, 5, 2, 0, 0, [], md0),
  (24, .aload_n 0, 1, 0, 0, 0, 0, 0, 0, [], md0),
  (25, .getfield 39, 3, 117, 2, 6, 0, 0, 0, [], md0),
  (28, .iload_n 3, 1, 0, 3, 0, 0, 0, 0, [], md0),
  (29, .iastore, 1, 0, 0, 0, 0, 0, 0, [], md0),
  (30, .aload_n 0, 1, 0, 0, 0, 0, 0, 0, [], md0),
  (31, .dup, 1, 0, 0, 0, 0, 0, 0, [], md0),
  (32, .getfield 39, 3, 117, 2, 6, 0, 0, 0, [], md0),
  (35, .iconst 1, 1, 0, 0, 0, 0, 1, 0, [], md0),
  (36, .iadd, 1, 0, 0, 0, 0, 0, 0, [], md0),
  (37, .putfield 39, 3, 117, 2, 6, 0, 0, 0, [], md0),
  (40, .aload_n 0, 1, 0, 0, 0, 0, 0, 0, [], md0),
  (41, .getfield 39, 3, 117, 2, 6, 0, 0, 0, [], md0),
  (44, .iconst 1, 1, 0, 0, 0, 0, 1, 0, [], md0),
  (45, .isub, 1, 0, 0, 0, 0, 0, 0, [], md0),
  (46, .ireturn, 1, 0, 0, 0, 0, 0, 0, [], md0)]
set_option maxRecDepth 100000 in
theorem tb_La_addLink : tabOf r_La_addLink 0 = (0, .aload_n 0, 1, 0, 0, 0, 0, 0, 0, [], md0) ∧ tabOf r_La_addLink 1 = (1, .getfield 21, 3, 114, 2, 3, 2, 0, 0, [], md0) ∧ tabOf r_La_addLink 4 = (4, .aload_n 0, 1, 0, 0, 0, 0, 0, 0, [], md0) ∧ tabOf r_La_addLink 5 = (5, .getfield 39, 3, 117, 2, 6, 0, 0, 0, [], md0) ∧ tabOf r_La_addLink 8 = (8, .iload_n 1, 1, 0, 1, 0, 0, 0, 0, [], md0) ∧ tabOf r_La_addLink 9 = (9, .iastore, 1, 0, 0, 0, 0, 0, 0, [], md0) ∧ tabOf r_La_addLink 10 = (10, .aload_n 0, 1, 0, 0, 0, 0, 0, 0, [], md0) ∧ tabOf r_La_addLink 11 = (11, .getfield 24, 3, 115, 2, 4, 2, 0, 0, [], md0) ∧ tabOf r_La_addLink 14 = (14, .aload_n 0, 1, 0, 0, 0, 0, 0, 0, [], md0) ∧ tabOf r_La_addLink 15 = (15, .getfield 39, 3, 117, 2, 6, 0, 0, 0, [], md0) ∧ tabOf r_La_addLink 18 = (18, .iload_n 2, 1, 0, 2, 0, 0, 0, 0, [], md0) ∧ tabOf r_La_addLink 19 = (19, .iastore, 1, 0, 0, 0, 0, 0, 0, [], md0) ∧ tabOf r_La_addLink 20 = (20, .aload_n 0, 1, 0, 0, 0, 0, 0, 0, [], md0) ∧ tabOf r_La_addLink 21 = (21, .getfield 27, 3, 116, 2, 5, 2, 0, 0, [], md0) ∧ tabOf r_La_addLink 24 = (24, .aload_n 0, 1, 0, 0, 0, 0, 0, 0, [], md0) ∧ tabOf r_La_addLink 25 = (25, .getfield 39, 3, 117, 2, 6, 0, 0, 0, [], md0) ∧ tabOf r_La_addLink 28 = (28, .iload_n 3, 1, 0, 3, 0, 0, 0, 0, [], md0) ∧ tabOf r_La_addLink 29 = (29, .iastore, 1, 0, 0, 0, 0, 0, 0, [], md0) ∧ tabOf r_La_addLink 30 = (30, .aload_n 0, 1, 0, 0, 0, 0, 0, 0, [], md0) ∧ tabOf r_La_addLink 31 = (31, .dup, 1, 0, 0, 0, 0, 0, 0, [], md0) ∧ tabOf r_La_addLink 32 = (32, .getfield 39, 3, 117, 2, 6, 0, 0, 0, [], md0) ∧ tabOf r_La_addLink 35 = (35, .iconst 1, 1, 0, 0, 0, 0, 1, 0, [], md0) ∧ tabOf r_La_addLink 36 = (36, .iadd, 1, 0, 0, 0, 0, 0, 0, [], md0) ∧ tabOf r_La_addLink 37 = (37, .putfield 39, 3, 117, 2, 6, 0, 0, 0, [], md0) ∧ tabOf r_La_addLink 40 = (40, .aload_n 0, 1, 0, 0, 0, 0, 0, 0, [], md0) ∧ tabOf r_La_addLink 41 = (41, .getfield 39, 3, 117, 2, 6, 0, 0, 0, [], md0) ∧ tabOf r_La_addLink 44 = (44, .iconst 1, 1, 0, 0, 0, 0, 1, 0, [], md0) ∧ tabOf r_La_addLink 45 = (45, .isub, 1, 0, 0, 0, 0, 0, 0, [], md0) ∧ tabOf r_La_addLink 46 = (46, .ireturn, 1, 0, 0, 0, 0, 0, 0, [], md0) ∧ m_La_addLink.2.2.2.2.1.cells = 0 ∧ m_La_addLink.2.2.2.2.1.slots = 0 ∧ m_La_addLink.2.2.2.2.1.locals = 0 ∧ m_La_addLink.2.2.2.1 = some .int ∧ m_La_addLink.2.2.1 = 4 := ⟨rfl, rfl, rfl, rfl, rfl, rfl, rfl, rfl, rfl, rfl, rfl, rfl, rfl, rfl, rfl, rfl, rfl, rfl, rfl, rfl, rfl, rfl, rfl, rfl, rfl, rfl, rfl, rfl, rfl, rfl, rfl, rfl, rfl, rfl⟩
set_option maxRecDepth 100000 in
theorem ok_La_addLink : r_La_addLink.all (okRow m_La_addLink.2.2.2.2.1 m_La_addLink.1.cls m_La_addLink.2.1 m_La_addLink.2.2.1 false) = true := by decide +kernel
set_option maxRecDepth 100000 in
theorem in_La_addLink {args : List Value} {h : MH} {K : KT} (nB : Nat) (hnB : nB ≤ h.2.2.2) (hL : cat2 args ≤ m_La_addLink.2.2.1) (hdb : noD args = true) (H : ∀ P : PT, (∀ stops n pc lv st h cn sn, wq m_La_addLink.2.2.2.2.1 m_La_addLink.2.2.2.1 nB (0, fun _ => 0) Ct (tabOf r_La_addLink) K P stops n pc lv st h cn sn → P pc lv st h cn sn) → P 0 (entL args m_La_addLink.2.2.1) [] h 0 0) : Ct m_La_addLink args h K := Ct.intro r_La_addLink false nB (by decide) (by decide) ok_La_addLink hnB hL hdb H
def r_La_turnTo : List Row := [(0, .iconst 0, 1, 0, 0, 0, 0, 0, 0, [], md0),
  (1, .istore_n 2, 1, 0, 2, 0, 0, 0, 0, [], md0),
  (2, .iload_n 2, 1, 0, 2, 0, 0, 0, 0, [], md0),
  (3, .bipush 48, 2, 0, 0, 0, 0, 48, 0, [], md0),
  (5, .if_icmp .ge 16, 3, 0, 21, 0, 0, 0, 0, [], md0),
  (8, .aload_n 0, 1, 0, 0, 0, 0, 0, 0, [], md0),
  (9, .getfield 30, 3, 119, 2, 7, 2, 0, 0, [], md0),
  (12, .iload_n 2, 1, 0, 2, 0, 0, 0, 0, [], md0),
  (13, .iconst (-1), 1, 0, 0, 0, 0, (-1), 0, [], md0),
  (14, .iastore, 1, 0, 0, 0, 0, 0, 0, [], md0),
  (15, .iinc 2 1, 3, 0, 2, 0, 0, 1, 0, [], md0),
  (18, .goto (-16), 3, 0, 2, 0, 0, 0, 0, [], md0),
  (21, .aload_n 0, 1, 0, 0, 0, 0, 0, 0, [], md0),
  (22, .getfield 39, 3, 117, 2, 6, 0, 0, 0, [], md0),
  (25, .iconst 1, 1, 0, 0, 0, 0, 1, 0, [], md0),
  (26, .isub, 1, 0, 0, 0, 0, 0, 0, [], md0),
  (27, .istore_n 2, 1, 0, 2, 0, 0, 0, 0, [], md0),
  (28, .iload_n 2, 1, 0, 2, 0, 0, 0, 0, [], md0),
  (29, .ifCond .lt 40, 3, 0, 69, 0, 0, 0, 0, [], md0),
  (32, .aload_n 0, 1, 0, 0, 0, 0, 0, 0, [], md0),
  (33, .getfield 27, 3, 116, 2, 5, 2, 0, 0, [], md0),
  (36, .iload_n 2, 1, 0, 2, 0, 0, 0, 0, [], md0),
  (37, .iaload, 1, 0, 0, 0, 0, 0, 0, [], md0),
  (38, .i2l, 1, 0, 0, 0, 0, 0, 0, [], md0),
  (39, .iload_n 1, 1, 0, 1, 0, 0, 0, 0, [], md0),
  (40, .invokestatic 43, 3, 473, 0, 1, 0, 0, 0, [], m_Rh_hasBit),
  (43, .ifCond .eq 20, 3, 0, 63, 0, 0, 0, 0, [], md0),
  (46, .aload_n 0, 1, 0, 0, 0, 0, 0, 0, [], md0),
  (47, .getfield 30, 3, 119, 2, 7, 2, 0, 0, [], md0),
  (50, .aload_n 0, 1, 0, 0, 0, 0, 0, 0, [], md0),
  (51, .getfield 21, 3, 114, 2, 3, 2, 0, 0, [], md0),
  (54, .iload_n 2, 1, 0, 2, 0, 0, 0, 0, [], md0),
  (55, .iaload, 1, 0, 0, 0, 0, 0, 0, [], md0),
  (56, .aload_n 0, 1, 0, 0, 0, 0, 0, 0, [], md0),
  (57, .getfield 24, 3, 115, 2, 4, 2, 0, 0, [], md0),
  (60, .iload_n 2, 1, 0, 2, 0, 0, 0, 0, [], md0),
  (61, .iaload, 1, 0, 0, 0, 0, 0, 0, [], md0),
  (62, .iastore, 1, 0, 0, 0, 0, 0, 0, [], md0),
  (63, .iinc 2 (-1), 3, 0, 2, 0, 0, (-1), 0, [], md0),
  (66, .goto (-38), 3, 0, 28, 0, 0, 0, 0, [], md0),
  (69, .return_, 1, 0, 0, 0, 0, 0, 0, [], md0)]
set_option maxRecDepth 100000 in
theorem tb_La_turnTo : tabOf r_La_turnTo 0 = (0, .iconst 0, 1, 0, 0, 0, 0, 0, 0, [], md0) ∧ tabOf r_La_turnTo 1 = (1, .istore_n 2, 1, 0, 2, 0, 0, 0, 0, [], md0) ∧ tabOf r_La_turnTo 2 = (2, .iload_n 2, 1, 0, 2, 0, 0, 0, 0, [], md0) ∧ tabOf r_La_turnTo 3 = (3, .bipush 48, 2, 0, 0, 0, 0, 48, 0, [], md0) ∧ tabOf r_La_turnTo 5 = (5, .if_icmp .ge 16, 3, 0, 21, 0, 0, 0, 0, [], md0) ∧ tabOf r_La_turnTo 8 = (8, .aload_n 0, 1, 0, 0, 0, 0, 0, 0, [], md0) ∧ tabOf r_La_turnTo 9 = (9, .getfield 30, 3, 119, 2, 7, 2, 0, 0, [], md0) ∧ tabOf r_La_turnTo 12 = (12, .iload_n 2, 1, 0, 2, 0, 0, 0, 0, [], md0) ∧ tabOf r_La_turnTo 13 = (13, .iconst (-1), 1, 0, 0, 0, 0, (-1), 0, [], md0) ∧ tabOf r_La_turnTo 14 = (14, .iastore, 1, 0, 0, 0, 0, 0, 0, [], md0) ∧ tabOf r_La_turnTo 15 = (15, .iinc 2 1, 3, 0, 2, 0, 0, 1, 0, [], md0) ∧ tabOf r_La_turnTo 18 = (18, .goto (-16), 3, 0, 2, 0, 0, 0, 0, [], md0) ∧ tabOf r_La_turnTo 21 = (21, .aload_n 0, 1, 0, 0, 0, 0, 0, 0, [], md0) ∧ tabOf r_La_turnTo 22 = (22, .getfield 39, 3, 117, 2, 6, 0, 0, 0, [], md0) ∧ tabOf r_La_turnTo 25 = (25, .iconst 1, 1, 0, 0, 0, 0, 1, 0, [], md0) ∧ tabOf r_La_turnTo 26 = (26, .isub, 1, 0, 0, 0, 0, 0, 0, [], md0) ∧ tabOf r_La_turnTo 27 = (27, .istore_n 2, 1, 0, 2, 0, 0, 0, 0, [], md0) ∧ tabOf r_La_turnTo 28 = (28, .iload_n 2, 1, 0, 2, 0, 0, 0, 0, [], md0) ∧ tabOf r_La_turnTo 29 = (29, .ifCond .lt 40, 3, 0, 69, 0, 0, 0, 0, [], md0) ∧ tabOf r_La_turnTo 32 = (32, .aload_n 0, 1, 0, 0, 0, 0, 0, 0, [], md0) ∧ tabOf r_La_turnTo 33 = (33, .getfield 27, 3, 116, 2, 5, 2, 0, 0, [], md0) ∧ tabOf r_La_turnTo 36 = (36, .iload_n 2, 1, 0, 2, 0, 0, 0, 0, [], md0) ∧ tabOf r_La_turnTo 37 = (37, .iaload, 1, 0, 0, 0, 0, 0, 0, [], md0) ∧ tabOf r_La_turnTo 38 = (38, .i2l, 1, 0, 0, 0, 0, 0, 0, [], md0) ∧ tabOf r_La_turnTo 39 = (39, .iload_n 1, 1, 0, 1, 0, 0, 0, 0, [], md0) ∧ tabOf r_La_turnTo 40 = (40, .invokestatic 43, 3, 473, 0, 1, 0, 0, 0, [], m_Rh_hasBit) ∧ tabOf r_La_turnTo 43 = (43, .ifCond .eq 20, 3, 0, 63, 0, 0, 0, 0, [], md0) ∧ tabOf r_La_turnTo 46 = (46, .aload_n 0, 1, 0, 0, 0, 0, 0, 0, [], md0) ∧ tabOf r_La_turnTo 47 = (47, .getfield 30, 3, 119, 2, 7, 2, 0, 0, [], md0) ∧ tabOf r_La_turnTo 50 = (50, .aload_n 0, 1, 0, 0, 0, 0, 0, 0, [], md0) ∧ tabOf r_La_turnTo 51 = (51, .getfield 21, 3, 114, 2, 3, 2, 0, 0, [], md0) ∧ tabOf r_La_turnTo 54 = (54, .iload_n 2, 1, 0, 2, 0, 0, 0, 0, [], md0) ∧ tabOf r_La_turnTo 55 = (55, .iaload, 1, 0, 0, 0, 0, 0, 0, [], md0) ∧ tabOf r_La_turnTo 56 = (56, .aload_n 0, 1, 0, 0, 0, 0, 0, 0, [], md0) ∧ tabOf r_La_turnTo 57 = (57, .getfield 24, 3, 115, 2, 4, 2, 0, 0, [], md0) ∧ tabOf r_La_turnTo 60 = (60, .iload_n 2, 1, 0, 2, 0, 0, 0, 0, [], md0) ∧ tabOf r_La_turnTo 61 = (61, .iaload, 1, 0, 0, 0, 0, 0, 0, [], md0) ∧ tabOf r_La_turnTo 62 = (62, .iastore, 1, 0, 0, 0, 0, 0, 0, [], md0) ∧ tabOf r_La_turnTo 63 = (63, .iinc 2 (-1), 3, 0, 2, 0, 0, (-1), 0, [], md0) ∧ tabOf r_La_turnTo 66 = (66, .goto (-38), 3, 0, 28, 0, 0, 0, 0, [], md0) ∧ tabOf r_La_turnTo 69 = (69, .return_, 1, 0, 0, 0, 0, 0, 0, [], md0) ∧ m_La_turnTo.2.2.2.2.1.cells = 0 ∧ m_La_turnTo.2.2.2.2.1.slots = 0 ∧ m_La_turnTo.2.2.2.2.1.locals = 22 ∧ m_La_turnTo.2.2.2.1 = none ∧ m_La_turnTo.2.2.1 = 3 ∧ m_Rh_hasBit.2.2.2.2.1.cells = 0 ∧ m_Rh_hasBit.2.2.2.2.1.slots = 0 ∧ m_Rh_hasBit.2.2.2.2.2.1 = 2 := ⟨rfl, rfl, rfl, rfl, rfl, rfl, rfl, rfl, rfl, rfl, rfl, rfl, rfl, rfl, rfl, rfl, rfl, rfl, rfl, rfl, rfl, rfl, rfl, rfl, rfl, rfl, rfl, rfl, rfl, rfl, rfl, rfl, rfl, rfl, rfl, rfl, rfl, rfl, rfl, rfl, rfl, rfl, rfl, rfl, rfl, rfl, rfl, rfl, rfl⟩
set_option maxRecDepth 100000 in
theorem ok_La_turnTo : r_La_turnTo.all (okRow m_La_turnTo.2.2.2.2.1 m_La_turnTo.1.cls m_La_turnTo.2.1 m_La_turnTo.2.2.1 false) = true := by decide +kernel
set_option maxRecDepth 100000 in
theorem in_La_turnTo {args : List Value} {h : MH} {K : KT} (nB : Nat) (hnB : nB ≤ h.2.2.2) (hL : cat2 args ≤ m_La_turnTo.2.2.1) (hdb : noD args = true) (H : ∀ P : PT, (∀ stops n pc lv st h cn sn, wq m_La_turnTo.2.2.2.2.1 m_La_turnTo.2.2.2.1 nB (0, fun _ => 0) Ct (tabOf r_La_turnTo) K P stops n pc lv st h cn sn → P pc lv st h cn sn) → P 0 (entL args m_La_turnTo.2.2.1) [] h 0 0) : Ct m_La_turnTo args h K := Ct.intro r_La_turnTo false nB (by decide) (by decide) ok_La_turnTo hnB hL hdb H
def r_La_endOf : List Row := [(0, .iload_n 1, 1, 0, 1, 0, 0, 0, 0, [], md0),
  (1, .istore_n 2, 1, 0, 2, 0, 0, 0, 0, [], md0),
  (2, .iconst 0, 1, 0, 0, 0, 0, 0, 0, [], md0),
  (3, .istore_n 3, 1, 0, 3, 0, 0, 0, 0, [], md0),
  (4, .iload_n 3, 1, 0, 3, 0, 0, 0, 0, [], md0),
  (5, .bipush 48, 2, 0, 0, 0, 0, 48, 0, [], md0),
  (7, .if_icmp .ge 26, 3, 0, 33, 0, 0, 0, 0, [], md0),
  (10, .aload_n 0, 1, 0, 0, 0, 0, 0, 0, [], md0),
  (11, .getfield 30, 3, 119, 2, 7, 2, 0, 0, [], md0),
  (14, .iload_n 2, 1, 0, 2, 0, 0, 0, 0, [], md0),
  (15, .iaload, 1, 0, 0, 0, 0, 0, 0, [], md0),
  (16, .iconst (-1), 1, 0, 0, 0, 0, (-1), 0, [], md0),
  (17, .if_icmp .eq 16, 3, 0, 33, 0, 0, 0, 0, [], md0),
  (20, .aload_n 0, 1, 0, 0, 0, 0, 0, 0, [], md0),
  (21, .getfield 30, 3, 119, 2, 7, 2, 0, 0, [], md0),
  (24, .iload_n 2, 1, 0, 2, 0, 0, 0, 0, [], md0),
  (25, .iaload, 1, 0, 0, 0, 0, 0, 0, [], md0),
  (26, .istore_n 2, 1, 0, 2, 0, 0, 0, 0, [], md0),
  (27, .iinc 3 1, 3, 0, 3, 0, 0, 1, 0, [], md0),
  (30, .goto (-26), 3, 0, 4, 0, 0, 0, 0, [], md0),
  (33, .iload_n 2, 1, 0, 2, 0, 0, 0, 0, [], md0),
  (34, .ireturn, 1, 0, 0, 0, 0, 0, 0, [], md0)]
set_option maxRecDepth 100000 in
theorem tb_La_endOf : tabOf r_La_endOf 0 = (0, .iload_n 1, 1, 0, 1, 0, 0, 0, 0, [], md0) ∧ tabOf r_La_endOf 1 = (1, .istore_n 2, 1, 0, 2, 0, 0, 0, 0, [], md0) ∧ tabOf r_La_endOf 2 = (2, .iconst 0, 1, 0, 0, 0, 0, 0, 0, [], md0) ∧ tabOf r_La_endOf 3 = (3, .istore_n 3, 1, 0, 3, 0, 0, 0, 0, [], md0) ∧ tabOf r_La_endOf 4 = (4, .iload_n 3, 1, 0, 3, 0, 0, 0, 0, [], md0) ∧ tabOf r_La_endOf 5 = (5, .bipush 48, 2, 0, 0, 0, 0, 48, 0, [], md0) ∧ tabOf r_La_endOf 7 = (7, .if_icmp .ge 26, 3, 0, 33, 0, 0, 0, 0, [], md0) ∧ tabOf r_La_endOf 10 = (10, .aload_n 0, 1, 0, 0, 0, 0, 0, 0, [], md0) ∧ tabOf r_La_endOf 11 = (11, .getfield 30, 3, 119, 2, 7, 2, 0, 0, [], md0) ∧ tabOf r_La_endOf 14 = (14, .iload_n 2, 1, 0, 2, 0, 0, 0, 0, [], md0) ∧ tabOf r_La_endOf 15 = (15, .iaload, 1, 0, 0, 0, 0, 0, 0, [], md0) ∧ tabOf r_La_endOf 16 = (16, .iconst (-1), 1, 0, 0, 0, 0, (-1), 0, [], md0) ∧ tabOf r_La_endOf 17 = (17, .if_icmp .eq 16, 3, 0, 33, 0, 0, 0, 0, [], md0) ∧ tabOf r_La_endOf 20 = (20, .aload_n 0, 1, 0, 0, 0, 0, 0, 0, [], md0) ∧ tabOf r_La_endOf 21 = (21, .getfield 30, 3, 119, 2, 7, 2, 0, 0, [], md0) ∧ tabOf r_La_endOf 24 = (24, .iload_n 2, 1, 0, 2, 0, 0, 0, 0, [], md0) ∧ tabOf r_La_endOf 25 = (25, .iaload, 1, 0, 0, 0, 0, 0, 0, [], md0) ∧ tabOf r_La_endOf 26 = (26, .istore_n 2, 1, 0, 2, 0, 0, 0, 0, [], md0) ∧ tabOf r_La_endOf 27 = (27, .iinc 3 1, 3, 0, 3, 0, 0, 1, 0, [], md0) ∧ tabOf r_La_endOf 30 = (30, .goto (-26), 3, 0, 4, 0, 0, 0, 0, [], md0) ∧ tabOf r_La_endOf 33 = (33, .iload_n 2, 1, 0, 2, 0, 0, 0, 0, [], md0) ∧ tabOf r_La_endOf 34 = (34, .ireturn, 1, 0, 0, 0, 0, 0, 0, [], md0) ∧ m_La_endOf.2.2.2.2.1.cells = 0 ∧ m_La_endOf.2.2.2.2.1.slots = 0 ∧ m_La_endOf.2.2.2.2.1.locals = 0 ∧ m_La_endOf.2.2.2.1 = some .int ∧ m_La_endOf.2.2.1 = 4 := ⟨rfl, rfl, rfl, rfl, rfl, rfl, rfl, rfl, rfl, rfl, rfl, rfl, rfl, rfl, rfl, rfl, rfl, rfl, rfl, rfl, rfl, rfl, rfl, rfl, rfl, rfl, rfl⟩
set_option maxRecDepth 100000 in
theorem ok_La_endOf : r_La_endOf.all (okRow m_La_endOf.2.2.2.2.1 m_La_endOf.1.cls m_La_endOf.2.1 m_La_endOf.2.2.1 false) = true := by decide +kernel
set_option maxRecDepth 100000 in
theorem in_La_endOf {args : List Value} {h : MH} {K : KT} (nB : Nat) (hnB : nB ≤ h.2.2.2) (hL : cat2 args ≤ m_La_endOf.2.2.1) (hdb : noD args = true) (H : ∀ P : PT, (∀ stops n pc lv st h cn sn, wq m_La_endOf.2.2.2.2.1 m_La_endOf.2.2.2.1 nB (0, fun _ => 0) Ct (tabOf r_La_endOf) K P stops n pc lv st h cn sn → P pc lv st h cn sn) → P 0 (entL args m_La_endOf.2.2.1) [] h 0 0) : Ct m_La_endOf args h K := Ct.intro r_La_endOf false nB (by decide) (by decide) ok_La_endOf hnB hL hdb H
def r_La_linksBetween : List Row := [(0, .iload_n 1, 1, 0, 1, 0, 0, 0, 0, [], md0),
  (1, .istore_n 3, 1, 0, 3, 0, 0, 0, 0, [], md0),
  (2, .iconst 0, 1, 0, 0, 0, 0, 0, 0, [], md0),
  (3, .istore 4, 2, 0, 4, 0, 0, 0, 0, [], md0),
  (5, .iload 4, 2, 0, 4, 0, 0, 0, 0, [], md0),
  (7, .bipush 48, 2, 0, 0, 0, 0, 48, 0, [], md0),
  (9, .if_icmp .ge 36, 3, 0, 45, 0, 0, 0, 0, [], md0),
  (12, .iload_n 3, 1, 0, 3, 0, 0, 0, 0, [], md0),
  (13, .iload_n 2, 1, 0, 2, 0, 0, 0, 0, [], md0),
  (14, .if_icmp .ne 6, 3, 0, 20, 0, 0, 0, 0, [], md0),
  (17, .iload 4, 2, 0, 4, 0, 0, 0, 0, [], md0),
  (19, .ireturn, 1, 0, 0, 0, 0, 0, 0, [], md0),
  (20, .aload_n 0, 1, 0, 0, 0, 0, 0, 0, [], md0),
  (21, .getfield 30, 3, 119, 2, 7, 2, 0, 0, [], md0),
  (24, .iload_n 3, 1, 0, 3, 0, 0, 0, 0, [], md0),
  (25, .iaload, 1, 0, 0, 0, 0, 0, 0, [], md0),
  (26, .iconst (-1), 1, 0, 0, 0, 0, (-1), 0, [], md0),
  (27, .if_icmp .ne 5, 3, 0, 32, 0, 0, 0, 0, [], md0),
  (30, .iconst (-1), 1, 0, 0, 0, 0, (-1), 0, [], md0),
  (31, .ireturn, 1, 0, 0, 0, 0, 0, 0, [], md0),
  (32, .aload_n 0, 1, 0, 0, 0, 0, 0, 0, [], md0),
  (33, .getfield 30, 3, 119, 2, 7, 2, 0, 0, [], md0),
  (36, .iload_n 3, 1, 0, 3, 0, 0, 0, 0, [], md0),
  (37, .iaload, 1, 0, 0, 0, 0, 0, 0, [], md0),
  (38, .istore_n 3, 1, 0, 3, 0, 0, 0, 0, [], md0),
  (39, .iinc 4 1, 3, 0, 4, 0, 0, 1, 0, [], md0),
  (42, .goto (-37), 3, 0, 5, 0, 0, 0, 0, [], md0),
  (45, .iconst (-1), 1, 0, 0, 0, 0, (-1), 0, [], md0),
  (46, .ireturn, 1, 0, 0, 0, 0, 0, 0, [], md0)]
set_option maxRecDepth 100000 in
theorem tb_La_linksBetween : tabOf r_La_linksBetween 0 = (0, .iload_n 1, 1, 0, 1, 0, 0, 0, 0, [], md0) ∧ tabOf r_La_linksBetween 1 = (1, .istore_n 3, 1, 0, 3, 0, 0, 0, 0, [], md0) ∧ tabOf r_La_linksBetween 2 = (2, .iconst 0, 1, 0, 0, 0, 0, 0, 0, [], md0) ∧ tabOf r_La_linksBetween 3 = (3, .istore 4, 2, 0, 4, 0, 0, 0, 0, [], md0) ∧ tabOf r_La_linksBetween 5 = (5, .iload 4, 2, 0, 4, 0, 0, 0, 0, [], md0) ∧ tabOf r_La_linksBetween 7 = (7, .bipush 48, 2, 0, 0, 0, 0, 48, 0, [], md0) ∧ tabOf r_La_linksBetween 9 = (9, .if_icmp .ge 36, 3, 0, 45, 0, 0, 0, 0, [], md0) ∧ tabOf r_La_linksBetween 12 = (12, .iload_n 3, 1, 0, 3, 0, 0, 0, 0, [], md0) ∧ tabOf r_La_linksBetween 13 = (13, .iload_n 2, 1, 0, 2, 0, 0, 0, 0, [], md0) ∧ tabOf r_La_linksBetween 14 = (14, .if_icmp .ne 6, 3, 0, 20, 0, 0, 0, 0, [], md0) ∧ tabOf r_La_linksBetween 17 = (17, .iload 4, 2, 0, 4, 0, 0, 0, 0, [], md0) ∧ tabOf r_La_linksBetween 19 = (19, .ireturn, 1, 0, 0, 0, 0, 0, 0, [], md0) ∧ tabOf r_La_linksBetween 20 = (20, .aload_n 0, 1, 0, 0, 0, 0, 0, 0, [], md0) ∧ tabOf r_La_linksBetween 21 = (21, .getfield 30, 3, 119, 2, 7, 2, 0, 0, [], md0) ∧ tabOf r_La_linksBetween 24 = (24, .iload_n 3, 1, 0, 3, 0, 0, 0, 0, [], md0) ∧ tabOf r_La_linksBetween 25 = (25, .iaload, 1, 0, 0, 0, 0, 0, 0, [], md0) ∧ tabOf r_La_linksBetween 26 = (26, .iconst (-1), 1, 0, 0, 0, 0, (-1), 0, [], md0) ∧ tabOf r_La_linksBetween 27 = (27, .if_icmp .ne 5, 3, 0, 32, 0, 0, 0, 0, [], md0) ∧ tabOf r_La_linksBetween 30 = (30, .iconst (-1), 1, 0, 0, 0, 0, (-1), 0, [], md0) ∧ tabOf r_La_linksBetween 31 = (31, .ireturn, 1, 0, 0, 0, 0, 0, 0, [], md0) ∧ tabOf r_La_linksBetween 32 = (32, .aload_n 0, 1, 0, 0, 0, 0, 0, 0, [], md0) ∧ tabOf r_La_linksBetween 33 = (33, .getfield 30, 3, 119, 2, 7, 2, 0, 0, [], md0) ∧ tabOf r_La_linksBetween 36 = (36, .iload_n 3, 1, 0, 3, 0, 0, 0, 0, [], md0) ∧ tabOf r_La_linksBetween 37 = (37, .iaload, 1, 0, 0, 0, 0, 0, 0, [], md0) ∧ tabOf r_La_linksBetween 38 = (38, .istore_n 3, 1, 0, 3, 0, 0, 0, 0, [], md0) ∧ tabOf r_La_linksBetween 39 = (39, .iinc 4 1, 3, 0, 4, 0, 0, 1, 0, [], md0) ∧ tabOf r_La_linksBetween 42 = (42, .goto (-37), 3, 0, 5, 0, 0, 0, 0, [], md0) ∧ tabOf r_La_linksBetween 45 = (45, .iconst (-1), 1, 0, 0, 0, 0, (-1), 0, [], md0) ∧ tabOf r_La_linksBetween 46 = (46, .ireturn, 1, 0, 0, 0, 0, 0, 0, [], md0) ∧ m_La_linksBetween.2.2.2.2.1.cells = 0 ∧ m_La_linksBetween.2.2.2.2.1.slots = 0 ∧ m_La_linksBetween.2.2.2.2.1.locals = 0 ∧ m_La_linksBetween.2.2.2.1 = some .int ∧ m_La_linksBetween.2.2.1 = 5 := ⟨rfl, rfl, rfl, rfl, rfl, rfl, rfl, rfl, rfl, rfl, rfl, rfl, rfl, rfl, rfl, rfl, rfl, rfl, rfl, rfl, rfl, rfl, rfl, rfl, rfl, rfl, rfl, rfl, rfl, rfl, rfl, rfl, rfl, rfl⟩
set_option maxRecDepth 100000 in
theorem ok_La_linksBetween : r_La_linksBetween.all (okRow m_La_linksBetween.2.2.2.2.1 m_La_linksBetween.1.cls m_La_linksBetween.2.1 m_La_linksBetween.2.2.1 false) = true := by decide +kernel
set_option maxRecDepth 100000 in
theorem in_La_linksBetween {args : List Value} {h : MH} {K : KT} (nB : Nat) (hnB : nB ≤ h.2.2.2) (hL : cat2 args ≤ m_La_linksBetween.2.2.1) (hdb : noD args = true) (H : ∀ P : PT, (∀ stops n pc lv st h cn sn, wq m_La_linksBetween.2.2.2.2.1 m_La_linksBetween.2.2.2.1 nB (0, fun _ => 0) Ct (tabOf r_La_linksBetween) K P stops n pc lv st h cn sn → P pc lv st h cn sn) → P 0 (entL args m_La_linksBetween.2.2.1) [] h 0 0) : Ct m_La_linksBetween args h K := Ct.intro r_La_linksBetween false nB (by decide) (by decide) ok_La_linksBetween hnB hL hdb H
def r_La_leadingTo : List Row := [(0, .lconst 0, 1, 0, 0, 0, 0, 0, 0, [], md0),
  (1, .lstore_n 2, 1, 0, 2, 0, 0, 0, 0, [], md0),
  (2, .iconst 0, 1, 0, 0, 0, 0, 0, 0, [], md0),
  (3, .istore 4, 2, 0, 4, 0, 0, 0, 0, [], md0),
  (5, .iload 4, 2, 0, 4, 0, 0, 0, 0, [], md0),
  (7, .bipush 48, 2, 0, 0, 0, 0, 48, 0, [], md0),
  (9, .if_icmp .ge 26, 3, 0, 35, 0, 0, 0, 0, [], md0),
  (12, .aload_n 0, 1, 0, 0, 0, 0, 0, 0, [], md0),
  (13, .iload 4, 2, 0, 4, 0, 0, 0, 0, [], md0),
  (15, .iload_n 1, 1, 0, 1, 0, 0, 0, 0, [], md0),
  (16, .invokevirtual 47, 3, 496, 2, 0, 0, 0, 0, [], m_La_linksBetween),
  (19, .ifCond .lt 10, 3, 0, 29, 0, 0, 0, 0, [], md0),
  (22, .lload_n 2, 1, 0, 2, 0, 0, 0, 0, [], md0),
  (23, .lconst 1, 1, 0, 0, 0, 0, 0, 1, [], md0),
  (24, .iload 4, 2, 0, 4, 0, 0, 0, 0, [], md0),
  (26, .lshl, 1, 0, 0, 0, 0, 0, 0, [], md0),
  (27, .lor, 1, 0, 0, 0, 0, 0, 0, [], md0),
  (28, .lstore_n 2, 1, 0, 2, 0, 0, 0, 0, [], md0),
  (29, .iinc 4 1, 3, 0, 4, 0, 0, 1, 0, [], md0),
  (32, .goto (-27), 3, 0, 5, 0, 0, 0, 0, [], md0),
  (35, .lload_n 2, 1, 0, 2, 0, 0, 0, 0, [], md0),
  (36, .lreturn, 1, 0, 0, 0, 0, 0, 0, [], md0)]
set_option maxRecDepth 100000 in
theorem tb_La_leadingTo : tabOf r_La_leadingTo 0 = (0, .lconst 0, 1, 0, 0, 0, 0, 0, 0, [], md0) ∧ tabOf r_La_leadingTo 1 = (1, .lstore_n 2, 1, 0, 2, 0, 0, 0, 0, [], md0) ∧ tabOf r_La_leadingTo 2 = (2, .iconst 0, 1, 0, 0, 0, 0, 0, 0, [], md0) ∧ tabOf r_La_leadingTo 3 = (3, .istore 4, 2, 0, 4, 0, 0, 0, 0, [], md0) ∧ tabOf r_La_leadingTo 5 = (5, .iload 4, 2, 0, 4, 0, 0, 0, 0, [], md0) ∧ tabOf r_La_leadingTo 7 = (7, .bipush 48, 2, 0, 0, 0, 0, 48, 0, [], md0) ∧ tabOf r_La_leadingTo 9 = (9, .if_icmp .ge 26, 3, 0, 35, 0, 0, 0, 0, [], md0) ∧ tabOf r_La_leadingTo 12 = (12, .aload_n 0, 1, 0, 0, 0, 0, 0, 0, [], md0) ∧ tabOf r_La_leadingTo 13 = (13, .iload 4, 2, 0, 4, 0, 0, 0, 0, [], md0) ∧ tabOf r_La_leadingTo 15 = (15, .iload_n 1, 1, 0, 1, 0, 0, 0, 0, [], md0) ∧ tabOf r_La_leadingTo 16 = (16, .invokevirtual 47, 3, 496, 2, 0, 0, 0, 0, [], m_La_linksBetween) ∧ tabOf r_La_leadingTo 19 = (19, .ifCond .lt 10, 3, 0, 29, 0, 0, 0, 0, [], md0) ∧ tabOf r_La_leadingTo 22 = (22, .lload_n 2, 1, 0, 2, 0, 0, 0, 0, [], md0) ∧ tabOf r_La_leadingTo 23 = (23, .lconst 1, 1, 0, 0, 0, 0, 0, 1, [], md0) ∧ tabOf r_La_leadingTo 24 = (24, .iload 4, 2, 0, 4, 0, 0, 0, 0, [], md0) ∧ tabOf r_La_leadingTo 26 = (26, .lshl, 1, 0, 0, 0, 0, 0, 0, [], md0) ∧ tabOf r_La_leadingTo 27 = (27, .lor, 1, 0, 0, 0, 0, 0, 0, [], md0) ∧ tabOf r_La_leadingTo 28 = (28, .lstore_n 2, 1, 0, 2, 0, 0, 0, 0, [], md0) ∧ tabOf r_La_leadingTo 29 = (29, .iinc 4 1, 3, 0, 4, 0, 0, 1, 0, [], md0) ∧ tabOf r_La_leadingTo 32 = (32, .goto (-27), 3, 0, 5, 0, 0, 0, 0, [], md0) ∧ tabOf r_La_leadingTo 35 = (35, .lload_n 2, 1, 0, 2, 0, 0, 0, 0, [], md0) ∧ tabOf r_La_leadingTo 36 = (36, .lreturn, 1, 0, 0, 0, 0, 0, 0, [], md0) ∧ m_La_leadingTo.2.2.2.2.1.cells = 0 ∧ m_La_leadingTo.2.2.2.2.1.slots = 0 ∧ m_La_leadingTo.2.2.2.2.1.locals = 24 ∧ m_La_leadingTo.2.2.2.1 = some .long ∧ m_La_leadingTo.2.2.1 = 5 ∧ m_La_linksBetween.2.2.2.2.1.cells = 0 ∧ m_La_linksBetween.2.2.2.2.1.slots = 0 ∧ m_La_linksBetween.2.2.2.2.2.1 = 2 := ⟨rfl, rfl, rfl, rfl, rfl, rfl, rfl, rfl, rfl, rfl, rfl, rfl, rfl, rfl, rfl, rfl, rfl, rfl, rfl, rfl, rfl, rfl, rfl, rfl, rfl, rfl, rfl, rfl, rfl, rfl⟩
set_option maxRecDepth 100000 in
theorem ok_La_leadingTo : r_La_leadingTo.all (okRow m_La_leadingTo.2.2.2.2.1 m_La_leadingTo.1.cls m_La_leadingTo.2.1 m_La_leadingTo.2.2.1 false) = true := by decide +kernel
set_option maxRecDepth 100000 in
theorem in_La_leadingTo {args : List Value} {h : MH} {K : KT} (nB : Nat) (hnB : nB ≤ h.2.2.2) (hL : cat2 args ≤ m_La_leadingTo.2.2.1) (hdb : noD args = true) (H : ∀ P : PT, (∀ stops n pc lv st h cn sn, wq m_La_leadingTo.2.2.2.2.1 m_La_leadingTo.2.2.2.1 nB (0, fun _ => 0) Ct (tabOf r_La_leadingTo) K P stops n pc lv st h cn sn → P pc lv st h cn sn) → P 0 (entL args m_La_leadingTo.2.2.1) [] h 0 0) : Ct m_La_leadingTo args h K := Ct.intro r_La_leadingTo false nB (by decide) (by decide) ok_La_leadingTo hnB hL hdb H
def r_La_headOf : List Row := [(0, .iload_n 1, 1, 0, 1, 0, 0, 0, 0, [], md0),
  (1, .istore_n 3, 1, 0, 3, 0, 0, 0, 0, [], md0),
  (2, .iconst (-1), 1, 0, 0, 0, 0, (-1), 0, [], md0),
  (3, .istore 4, 2, 0, 4, 0, 0, 0, 0, [], md0),
  (5, .iconst 0, 1, 0, 0, 0, 0, 0, 0, [], md0),
  (6, .istore 5, 2, 0, 5, 0, 0, 0, 0, [], md0),
  (8, .iload 5, 2, 0, 5, 0, 0, 0, 0, [], md0),
  (10, .bipush 48, 2, 0, 0, 0, 0, 48, 0, [], md0),
  (12, .if_icmp .ge 71, 3, 0, 83, 0, 0, 0, 0, [], md0),
  (15, .aload_n 0, 1, 0, 0, 0, 0, 0, 0, [], md0),
  (16, .iload 5, 2, 0, 5, 0, 0, 0, 0, [], md0),
  (18, .iload_n 1, 1, 0, 1, 0, 0, 0, 0, [], md0),
  (19, .invokevirtual 47, 3, 496, 2, 0, 0, 0, 0, [], m_La_linksBetween),
  (22, .istore 6, 2, 0, 6, 0, 0, 0, 0, [], md0),
  (24, .iload_n 2, 1, 0, 2, 0, 0, 0, 0, [], md0),
  (25, .iconst 1, 1, 0, 0, 0, 0, 1, 0, [], md0),
  (26, .if_icmp .ne 13, 3, 0, 39, 0, 0, 0, 0, [], md0),
  (29, .aload_n 0, 1, 0, 0, 0, 0, 0, 0, [], md0),
  (30, .getfield 15, 3, 109, 2, 1, 2, 0, 0, [], md0),
  (33, .iload 5, 2, 0, 5, 0, 0, 0, 0, [], md0),
  (35, .iaload, 1, 0, 0, 0, 0, 0, 0, [], md0),
  (36, .goto 20, 3, 0, 56, 0, 0, 0, 0, [], md0),
  (39, .iload_n 2, 1, 0, 2, 0, 0, 0, 0, [], md0),
  (40, .iconst 2, 1, 0, 0, 0, 0, 2, 0, [], md0),
  (41, .if_icmp .ne 13, 3, 0, 54, 0, 0, 0, 0, [], md0),
  (44, .aload_n 0, 1, 0, 0, 0, 0, 0, 0, [], md0),
  (45, .getfield 9, 3, 106, 2, 0, 2, 0, 0, [], md0),
  (48, .iload 5, 2, 0, 5, 0, 0, 0, 0, [], md0),
  (50, .iaload, 1, 0, 0, 0, 0, 0, 0, [], md0),
  (51, .goto 5, 3, 0, 56, 0, 0, 0, 0, [], md0),
  (54, .iload 6, 2, 0, 6, 0, 0, 0, 0, [], md0),
  (56, .istore 7, 2, 0, 7, 0, 0, 0, 0, [], md0),
  (58, .iload 6, 2, 0, 6, 0, 0, 0, 0, [], md0),
  (60, .ifCond .lt 17, 3, 0, 77, 0, 0, 0, 0, [], md0),
  (63, .iload 7, 2, 0, 7, 0, 0, 0, 0, [], md0),
  (65, .iload 4, 2, 0, 4, 0, 0, 0, 0, [], md0),
  (67, .if_icmp .le 10, 3, 0, 77, 0, 0, 0, 0, [], md0),
  (70, .iload 7, 2, 0, 7, 0, 0, 0, 0, [], md0),
  (72, .istore 4, 2, 0, 4, 0, 0, 0, 0, [], md0),
  (74, .iload 5, 2, 0, 5, 0, 0, 0, 0, [], md0),
  (76, .istore_n 3, 1, 0, 3, 0, 0, 0, 0, [], md0),
  (77, .iinc 5 1, 3, 0, 5, 0, 0, 1, 0, [], md0),
  (80, .goto (-72), 3, 0, 8, 0, 0, 0, 0, [], md0),
  (83, .iload_n 3, 1, 0, 3, 0, 0, 0, 0, [], md0),
  (84, .ireturn, 1, 0, 0, 0, 0, 0, 0, [], md0)]
set_option maxRecDepth 100000 in
theorem tb_La_headOf : tabOf r_La_headOf 0 = (0, .iload_n 1, 1, 0, 1, 0, 0, 0, 0, [], md0) ∧ tabOf r_La_headOf 1 = (1, .istore_n 3, 1, 0, 3, 0, 0, 0, 0, [], md0) ∧ tabOf r_La_headOf 2 = (2, .iconst (-1), 1, 0, 0, 0, 0, (-1), 0, [], md0) ∧ tabOf r_La_headOf 3 = (3, .istore 4, 2, 0, 4, 0, 0, 0, 0, [], md0) ∧ tabOf r_La_headOf 5 = (5, .iconst 0, 1, 0, 0, 0, 0, 0, 0, [], md0) ∧ tabOf r_La_headOf 6 = (6, .istore 5, 2, 0, 5, 0, 0, 0, 0, [], md0) ∧ tabOf r_La_headOf 8 = (8, .iload 5, 2, 0, 5, 0, 0, 0, 0, [], md0) ∧ tabOf r_La_headOf 10 = (10, .bipush 48, 2, 0, 0, 0, 0, 48, 0, [], md0) ∧ tabOf r_La_headOf 12 = (12, .if_icmp .ge 71, 3, 0, 83, 0, 0, 0, 0, [], md0) ∧ tabOf r_La_headOf 15 = (15, .aload_n 0, 1, 0, 0, 0, 0, 0, 0, [], md0) ∧ tabOf r_La_headOf 16 = (16, .iload 5, 2, 0, 5, 0, 0, 0, 0, [], md0) ∧ tabOf r_La_headOf 18 = (18, .iload_n 1, 1, 0, 1, 0, 0, 0, 0, [], md0) ∧ tabOf r_La_headOf 19 = (19, .invokevirtual 47, 3, 496, 2, 0, 0, 0, 0, [], m_La_linksBetween) ∧ tabOf r_La_headOf 22 = (22, .istore 6, 2, 0, 6, 0, 0, 0, 0, [], md0) ∧ tabOf r_La_headOf 24 = (24, .iload_n 2, 1, 0, 2, 0, 0, 0, 0, [], md0) ∧ tabOf r_La_headOf 25 = (25, .iconst 1, 1, 0, 0, 0, 0, 1, 0, [], md0) ∧ tabOf r_La_headOf 26 = (26, .if_icmp .ne 13, 3, 0, 39, 0, 0, 0, 0, [], md0) ∧ tabOf r_La_headOf 29 = (29, .aload_n 0, 1, 0, 0, 0, 0, 0, 0, [], md0) ∧ tabOf r_La_headOf 30 = (30, .getfield 15, 3, 109, 2, 1, 2, 0, 0, [], md0) ∧ tabOf r_La_headOf 33 = (33, .iload 5, 2, 0, 5, 0, 0, 0, 0, [], md0) ∧ tabOf r_La_headOf 35 = (35, .iaload, 1, 0, 0, 0, 0, 0, 0, [], md0) ∧ tabOf r_La_headOf 36 = (36, .goto 20, 3, 0, 56, 0, 0, 0, 0, [], md0) ∧ tabOf r_La_headOf 39 = (39, .iload_n 2, 1, 0, 2, 0, 0, 0, 0, [], md0) ∧ tabOf r_La_headOf 40 = (40, .iconst 2, 1, 0, 0, 0, 0, 2, 0, [], md0) ∧ tabOf r_La_headOf 41 = (41, .if_icmp .ne 13, 3, 0, 54, 0, 0, 0, 0, [], md0) ∧ tabOf r_La_headOf 44 = (44, .aload_n 0, 1, 0, 0, 0, 0, 0, 0, [], md0) ∧ tabOf r_La_headOf 45 = (45, .getfield 9, 3, 106, 2, 0, 2, 0, 0, [], md0) ∧ tabOf r_La_headOf 48 = (48, .iload 5, 2, 0, 5, 0, 0, 0, 0, [], md0) ∧ tabOf r_La_headOf 50 = (50, .iaload, 1, 0, 0, 0, 0, 0, 0, [], md0) ∧ tabOf r_La_headOf 51 = (51, .goto 5, 3, 0, 56, 0, 0, 0, 0, [], md0) ∧ tabOf r_La_headOf 54 = (54, .iload 6, 2, 0, 6, 0, 0, 0, 0, [], md0) ∧ tabOf r_La_headOf 56 = (56, .istore 7, 2, 0, 7, 0, 0, 0, 0, [], md0) ∧ tabOf r_La_headOf 58 = (58, .iload 6, 2, 0, 6, 0, 0, 0, 0, [], md0) ∧ tabOf r_La_headOf 60 = (60, .ifCond .lt 17, 3, 0, 77, 0, 0, 0, 0, [], md0) ∧ tabOf r_La_headOf 63 = (63, .iload 7, 2, 0, 7, 0, 0, 0, 0, [], md0) ∧ tabOf r_La_headOf 65 = (65, .iload 4, 2, 0, 4, 0, 0, 0, 0, [], md0) ∧ tabOf r_La_headOf 67 = (67, .if_icmp .le 10, 3, 0, 77, 0, 0, 0, 0, [], md0) ∧ tabOf r_La_headOf 70 = (70, .iload 7, 2, 0, 7, 0, 0, 0, 0, [], md0) ∧ tabOf r_La_headOf 72 = (72, .istore 4, 2, 0, 4, 0, 0, 0, 0, [], md0) ∧ tabOf r_La_headOf 74 = (74, .iload 5, 2, 0, 5, 0, 0, 0, 0, [], md0) ∧ tabOf r_La_headOf 76 = (76, .istore_n 3, 1, 0, 3, 0, 0, 0, 0, [], md0) ∧ tabOf r_La_headOf 77 = (77, .iinc 5 1, 3, 0, 5, 0, 0, 1, 0, [], md0) ∧ tabOf r_La_headOf 80 = (80, .goto (-72), 3, 0, 8, 0, 0, 0, 0, [], md0) ∧ tabOf r_La_headOf 83 = (83, .iload_n 3, 1, 0, 3, 0, 0, 0, 0, [], md0) ∧ tabOf r_La_headOf 84 = (84, .ireturn, 1, 0, 0, 0, 0, 0, 0, [], md0) ∧ m_La_headOf.2.2.2.2.1.cells = 0 ∧ m_La_headOf.2.2.2.2.1.slots = 0 ∧ m_La_headOf.2.2.2.2.1.locals = 24 ∧ m_La_headOf.2.2.2.1 = some .int ∧ m_La_headOf.2.2.1 = 8 ∧ m_La_linksBetween.2.2.2.2.1.cells = 0 ∧ m_La_linksBetween.2.2.2.2.1.slots = 0 ∧ m_La_linksBetween.2.2.2.2.2.1 = 2 := ⟨rfl, rfl, rfl, rfl, rfl, rfl, rfl, rfl, rfl, rfl, rfl, rfl, rfl, rfl, rfl, rfl, rfl, rfl, rfl, rfl, rfl, rfl, rfl, rfl, rfl, rfl, rfl, rfl, rfl, rfl, rfl, rfl, rfl, rfl, rfl, rfl, rfl, rfl, rfl, rfl, rfl, rfl, rfl, rfl, rfl, rfl, rfl, rfl, rfl, rfl, rfl, rfl, rfl⟩
set_option maxRecDepth 100000 in
theorem ok_La_headOf : r_La_headOf.all (okRow m_La_headOf.2.2.2.2.1 m_La_headOf.1.cls m_La_headOf.2.1 m_La_headOf.2.2.1 false) = true := by decide +kernel
set_option maxRecDepth 100000 in
theorem in_La_headOf {args : List Value} {h : MH} {K : KT} (nB : Nat) (hnB : nB ≤ h.2.2.2) (hL : cat2 args ≤ m_La_headOf.2.2.1) (hdb : noD args = true) (H : ∀ P : PT, (∀ stops n pc lv st h cn sn, wq m_La_headOf.2.2.2.2.1 m_La_headOf.2.2.2.1 nB (0, fun _ => 0) Ct (tabOf r_La_headOf) K P stops n pc lv st h cn sn → P pc lv st h cn sn) → P 0 (entL args m_La_headOf.2.2.1) [] h 0 0) : Ct m_La_headOf args h K := Ct.intro r_La_headOf false nB (by decide) (by decide) ok_La_headOf hnB hL hdb H
def r_La_withLinks : List Row := [(0, .lconst 0, 1, 0, 0, 0, 0, 0, 0, [], md0),
  (1, .lstore_n 1, 1, 0, 1, 0, 0, 0, 0, [], md0),
  (2, .iconst 0, 1, 0, 0, 0, 0, 0, 0, [], md0),
  (3, .istore_n 3, 1, 0, 3, 0, 0, 0, 0, [], md0),
  (4, .iload_n 3, 1, 0, 3, 0, 0, 0, 0, [], md0),
  (5, .aload_n 0, 1, 0, 0, 0, 0, 0, 0, [], md0),
  (6, .getfield 39, 3, 117, 2, 6, 0, 0, 0, [], md0),
  (9, .if_icmp .ge 20, 3, 0, 29, 0, 0, 0, 0, [], md0),
  (12, .lload_n 1, 1, 0, 1, 0, 0, 0, 0, [], md0),
  (13, .lconst 1, 1, 0, 0, 0, 0, 0, 1, [], md0),
  (14, .aload_n 0, 1, 0, 0, 0, 0, 0, 0, [], md0),
  (15, .getfield 21, 3, 114, 2, 3, 2, 0, 0, [], md0),
  (18, .iload_n 3, 1, 0, 3, 0, 0, 0, 0, [], md0),
  (19, .iaload, 1, 0, 0, 0, 0, 0, 0, [], md0),
  (20, .lshl, 1, 0, 0, 0, 0, 0, 0, [], md0),
  (21, .lor, 1, 0, 0, 0, 0, 0, 0, [], md0),
  (22, .lstore_n 1, 1, 0, 1, 0, 0, 0, 0, [], md0),
  (23, .iinc 3 1, 3, 0, 3, 0, 0, 1, 0, [], md0),
  (26, .goto (-22), 3, 0, 4, 0, 0, 0, 0, [], md0),
  (29, .lload_n 1, 1, 0, 1, 0, 0, 0, 0, [], md0),
  (30, .lreturn, 1, 0, 0, 0, 0, 0, 0, [], md0)]
set_option maxRecDepth 100000 in
theorem tb_La_withLinks : tabOf r_La_withLinks 0 = (0, .lconst 0, 1, 0, 0, 0, 0, 0, 0, [], md0) ∧ tabOf r_La_withLinks 1 = (1, .lstore_n 1, 1, 0, 1, 0, 0, 0, 0, [], md0) ∧ tabOf r_La_withLinks 2 = (2, .iconst 0, 1, 0, 0, 0, 0, 0, 0, [], md0) ∧ tabOf r_La_withLinks 3 = (3, .istore_n 3, 1, 0, 3, 0, 0, 0, 0, [], md0) ∧ tabOf r_La_withLinks 4 = (4, .iload_n 3, 1, 0, 3, 0, 0, 0, 0, [], md0) ∧ tabOf r_La_withLinks 5 = (5, .aload_n 0, 1, 0, 0, 0, 0, 0, 0, [], md0) ∧ tabOf r_La_withLinks 6 = (6, .getfield 39, 3, 117, 2, 6, 0, 0, 0, [], md0) ∧ tabOf r_La_withLinks 9 = (9, .if_icmp .ge 20, 3, 0, 29, 0, 0, 0, 0, [], md0) ∧ tabOf r_La_withLinks 12 = (12, .lload_n 1, 1, 0, 1, 0, 0, 0, 0, [], md0) ∧ tabOf r_La_withLinks 13 = (13, .lconst 1, 1, 0, 0, 0, 0, 0, 1, [], md0) ∧ tabOf r_La_withLinks 14 = (14, .aload_n 0, 1, 0, 0, 0, 0, 0, 0, [], md0) ∧ tabOf r_La_withLinks 15 = (15, .getfield 21, 3, 114, 2, 3, 2, 0, 0, [], md0) ∧ tabOf r_La_withLinks 18 = (18, .iload_n 3, 1, 0, 3, 0, 0, 0, 0, [], md0) ∧ tabOf r_La_withLinks 19 = (19, .iaload, 1, 0, 0, 0, 0, 0, 0, [], md0) ∧ tabOf r_La_withLinks 20 = (20, .lshl, 1, 0, 0, 0, 0, 0, 0, [], md0) ∧ tabOf r_La_withLinks 21 = (21, .lor, 1, 0, 0, 0, 0, 0, 0, [], md0) ∧ tabOf r_La_withLinks 22 = (22, .lstore_n 1, 1, 0, 1, 0, 0, 0, 0, [], md0) ∧ tabOf r_La_withLinks 23 = (23, .iinc 3 1, 3, 0, 3, 0, 0, 1, 0, [], md0) ∧ tabOf r_La_withLinks 26 = (26, .goto (-22), 3, 0, 4, 0, 0, 0, 0, [], md0) ∧ tabOf r_La_withLinks 29 = (29, .lload_n 1, 1, 0, 1, 0, 0, 0, 0, [], md0) ∧ tabOf r_La_withLinks 30 = (30, .lreturn, 1, 0, 0, 0, 0, 0, 0, [], md0) ∧ m_La_withLinks.2.2.2.2.1.cells = 0 ∧ m_La_withLinks.2.2.2.2.1.slots = 0 ∧ m_La_withLinks.2.2.2.2.1.locals = 0 ∧ m_La_withLinks.2.2.2.1 = some .long ∧ m_La_withLinks.2.2.1 = 4 := ⟨rfl, rfl, rfl, rfl, rfl, rfl, rfl, rfl, rfl, rfl, rfl, rfl, rfl, rfl, rfl, rfl, rfl, rfl, rfl, rfl, rfl, rfl, rfl, rfl, rfl, rfl⟩
set_option maxRecDepth 100000 in
theorem ok_La_withLinks : r_La_withLinks.all (okRow m_La_withLinks.2.2.2.2.1 m_La_withLinks.1.cls m_La_withLinks.2.1 m_La_withLinks.2.2.1 false) = true := by decide +kernel
set_option maxRecDepth 100000 in
theorem in_La_withLinks {args : List Value} {h : MH} {K : KT} (nB : Nat) (hnB : nB ≤ h.2.2.2) (hL : cat2 args ≤ m_La_withLinks.2.2.1) (hdb : noD args = true) (H : ∀ P : PT, (∀ stops n pc lv st h cn sn, wq m_La_withLinks.2.2.2.2.1 m_La_withLinks.2.2.2.1 nB (0, fun _ => 0) Ct (tabOf r_La_withLinks) K P stops n pc lv st h cn sn → P pc lv st h cn sn) → P 0 (entL args m_La_withLinks.2.2.1) [] h 0 0) : Ct m_La_withLinks args h K := Ct.intro r_La_withLinks false nB (by decide) (by decide) ok_La_withLinks hnB hL hdb H
def r_La_isLake : List Row := [(0, .aload_n 0, 1, 0, 0, 0, 0, 0, 0, [], md0),
  (1, .getfield 15, 3, 109, 2, 1, 2, 0, 0, [], md0),
  (4, .iload_n 1, 1, 0, 1, 0, 0, 0, 0, [], md0),
  (5, .iaload, 1, 0, 0, 0, 0, 0, 0, [], md0),
  (6, .bipush 50, 2, 0, 0, 0, 0, 50, 0, [], md0),
  (8, .if_icmp .lt 7, 3, 0, 15, 0, 0, 0, 0, [], md0),
  (11, .iconst 1, 1, 0, 0, 0, 0, 1, 0, [], md0),
  (12, .goto 4, 3, 0, 16, 0, 0, 0, 0, [], md0),
  (15, .iconst 0, 1, 0, 0, 0, 0, 0, 0, [], md0),
  (16, .ireturn, 1, 0, 0, 0, 0, 0, 0, [], md0)]
set_option maxRecDepth 100000 in
theorem tb_La_isLake : tabOf r_La_isLake 0 = (0, .aload_n 0, 1, 0, 0, 0, 0, 0, 0, [], md0) ∧ tabOf r_La_isLake 1 = (1, .getfield 15, 3, 109, 2, 1, 2, 0, 0, [], md0) ∧ tabOf r_La_isLake 4 = (4, .iload_n 1, 1, 0, 1, 0, 0, 0, 0, [], md0) ∧ tabOf r_La_isLake 5 = (5, .iaload, 1, 0, 0, 0, 0, 0, 0, [], md0) ∧ tabOf r_La_isLake 6 = (6, .bipush 50, 2, 0, 0, 0, 0, 50, 0, [], md0) ∧ tabOf r_La_isLake 8 = (8, .if_icmp .lt 7, 3, 0, 15, 0, 0, 0, 0, [], md0) ∧ tabOf r_La_isLake 11 = (11, .iconst 1, 1, 0, 0, 0, 0, 1, 0, [], md0) ∧ tabOf r_La_isLake 12 = (12, .goto 4, 3, 0, 16, 0, 0, 0, 0, [], md0) ∧ tabOf r_La_isLake 15 = (15, .iconst 0, 1, 0, 0, 0, 0, 0, 0, [], md0) ∧ tabOf r_La_isLake 16 = (16, .ireturn, 1, 0, 0, 0, 0, 0, 0, [], md0) ∧ m_La_isLake.2.2.2.2.1.cells = 0 ∧ m_La_isLake.2.2.2.2.1.slots = 0 ∧ m_La_isLake.2.2.2.2.1.locals = 0 ∧ m_La_isLake.2.2.2.1 = some .boolean ∧ m_La_isLake.2.2.1 = 2 := ⟨rfl, rfl, rfl, rfl, rfl, rfl, rfl, rfl, rfl, rfl, rfl, rfl, rfl, rfl, rfl⟩
set_option maxRecDepth 100000 in
theorem ok_La_isLake : r_La_isLake.all (okRow m_La_isLake.2.2.2.2.1 m_La_isLake.1.cls m_La_isLake.2.1 m_La_isLake.2.2.1 false) = true := by decide +kernel
set_option maxRecDepth 100000 in
theorem in_La_isLake {args : List Value} {h : MH} {K : KT} (nB : Nat) (hnB : nB ≤ h.2.2.2) (hL : cat2 args ≤ m_La_isLake.2.2.1) (hdb : noD args = true) (H : ∀ P : PT, (∀ stops n pc lv st h cn sn, wq m_La_isLake.2.2.2.2.1 m_La_isLake.2.2.2.1 nB (0, fun _ => 0) Ct (tabOf r_La_isLake) K P stops n pc lv st h cn sn → P pc lv st h cn sn) → P 0 (entL args m_La_isLake.2.2.1) [] h 0 0) : Ct m_La_isLake args h K := Ct.intro r_La_isLake false nB (by decide) (by decide) ok_La_isLake hnB hL hdb H
def r_La_lakes : List Row := [(0, .lconst 0, 1, 0, 0, 0, 0, 0, 0, [], md0),
  (1, .lstore_n 1, 1, 0, 1, 0, 0, 0, 0, [], md0),
  (2, .iconst 0, 1, 0, 0, 0, 0, 0, 0, [], md0),
  (3, .istore_n 3, 1, 0, 3, 0, 0, 0, 0, [], md0),
  (4, .iload_n 3, 1, 0, 3, 0, 0, 0, 0, [], md0),
  (5, .bipush 48, 2, 0, 0, 0, 0, 48, 0, [], md0),
  (7, .if_icmp .ge 23, 3, 0, 30, 0, 0, 0, 0, [], md0),
  (10, .aload_n 0, 1, 0, 0, 0, 0, 0, 0, [], md0),
  (11, .iload_n 3, 1, 0, 3, 0, 0, 0, 0, [], md0),
  (12, .invokevirtual 51, 3, 663, 2, 0, 0, 0, 0, [], m_La_isLake),
  (15, .ifCond .eq 9, 3, 0, 24, 0, 0, 0, 0, [], md0),
  (18, .lload_n 1, 1, 0, 1, 0, 0, 0, 0, [], md0),
  (19, .lconst 1, 1, 0, 0, 0, 0, 0, 1, [], md0),
  (20, .iload_n 3, 1, 0, 3, 0, 0, 0, 0, [], md0),
  (21, .lshl, 1, 0, 0, 0, 0, 0, 0, [], md0),
  (22, .lor, 1, 0, 0, 0, 0, 0, 0, [], md0),
  (23, .lstore_n 1, 1, 0, 1, 0, 0, 0, 0, [], md0),
  (24, .iinc 3 1, 3, 0, 3, 0, 0, 1, 0, [], md0),
  (27, .goto (-23), 3, 0, 4, 0, 0, 0, 0, [], md0),
  (30, .lload_n 1, 1, 0, 1, 0, 0, 0, 0, [], md0),
  (31, .lreturn, 1, 0, 0, 0, 0, 0, 0, [], md0)]
set_option maxRecDepth 100000 in
theorem tb_La_lakes : tabOf r_La_lakes 0 = (0, .lconst 0, 1, 0, 0, 0, 0, 0, 0, [], md0) ∧ tabOf r_La_lakes 1 = (1, .lstore_n 1, 1, 0, 1, 0, 0, 0, 0, [], md0) ∧ tabOf r_La_lakes 2 = (2, .iconst 0, 1, 0, 0, 0, 0, 0, 0, [], md0) ∧ tabOf r_La_lakes 3 = (3, .istore_n 3, 1, 0, 3, 0, 0, 0, 0, [], md0) ∧ tabOf r_La_lakes 4 = (4, .iload_n 3, 1, 0, 3, 0, 0, 0, 0, [], md0) ∧ tabOf r_La_lakes 5 = (5, .bipush 48, 2, 0, 0, 0, 0, 48, 0, [], md0) ∧ tabOf r_La_lakes 7 = (7, .if_icmp .ge 23, 3, 0, 30, 0, 0, 0, 0, [], md0) ∧ tabOf r_La_lakes 10 = (10, .aload_n 0, 1, 0, 0, 0, 0, 0, 0, [], md0) ∧ tabOf r_La_lakes 11 = (11, .iload_n 3, 1, 0, 3, 0, 0, 0, 0, [], md0) ∧ tabOf r_La_lakes 12 = (12, .invokevirtual 51, 3, 663, 2, 0, 0, 0, 0, [], m_La_isLake) ∧ tabOf r_La_lakes 15 = (15, .ifCond .eq 9, 3, 0, 24, 0, 0, 0, 0, [], md0) ∧ tabOf r_La_lakes 18 = (18, .lload_n 1, 1, 0, 1, 0, 0, 0, 0, [], md0) ∧ tabOf r_La_lakes 19 = (19, .lconst 1, 1, 0, 0, 0, 0, 0, 1, [], md0) ∧ tabOf r_La_lakes 20 = (20, .iload_n 3, 1, 0, 3, 0, 0, 0, 0, [], md0) ∧ tabOf r_La_lakes 21 = (21, .lshl, 1, 0, 0, 0, 0, 0, 0, [], md0) ∧ tabOf r_La_lakes 22 = (22, .lor, 1, 0, 0, 0, 0, 0, 0, [], md0) ∧ tabOf r_La_lakes 23 = (23, .lstore_n 1, 1, 0, 1, 0, 0, 0, 0, [], md0) ∧ tabOf r_La_lakes 24 = (24, .iinc 3 1, 3, 0, 3, 0, 0, 1, 0, [], md0) ∧ tabOf r_La_lakes 27 = (27, .goto (-23), 3, 0, 4, 0, 0, 0, 0, [], md0) ∧ tabOf r_La_lakes 30 = (30, .lload_n 1, 1, 0, 1, 0, 0, 0, 0, [], md0) ∧ tabOf r_La_lakes 31 = (31, .lreturn, 1, 0, 0, 0, 0, 0, 0, [], md0) ∧ m_La_lakes.2.2.2.2.1.cells = 0 ∧ m_La_lakes.2.2.2.2.1.slots = 0 ∧ m_La_lakes.2.2.2.2.1.locals = 21 ∧ m_La_lakes.2.2.2.1 = some .long ∧ m_La_lakes.2.2.1 = 4 ∧ m_La_isLake.2.2.2.2.1.cells = 0 ∧ m_La_isLake.2.2.2.2.1.slots = 0 ∧ m_La_isLake.2.2.2.2.2.1 = 1 := ⟨rfl, rfl, rfl, rfl, rfl, rfl, rfl, rfl, rfl, rfl, rfl, rfl, rfl, rfl, rfl, rfl, rfl, rfl, rfl, rfl, rfl, rfl, rfl, rfl, rfl, rfl, rfl, rfl, rfl⟩
set_option maxRecDepth 100000 in
theorem ok_La_lakes : r_La_lakes.all (okRow m_La_lakes.2.2.2.2.1 m_La_lakes.1.cls m_La_lakes.2.1 m_La_lakes.2.2.1 false) = true := by decide +kernel
set_option maxRecDepth 100000 in
theorem in_La_lakes {args : List Value} {h : MH} {K : KT} (nB : Nat) (hnB : nB ≤ h.2.2.2) (hL : cat2 args ≤ m_La_lakes.2.2.1) (hdb : noD args = true) (H : ∀ P : PT, (∀ stops n pc lv st h cn sn, wq m_La_lakes.2.2.2.2.1 m_La_lakes.2.2.2.1 nB (0, fun _ => 0) Ct (tabOf r_La_lakes) K P stops n pc lv st h cn sn → P pc lv st h cn sn) → P 0 (entL args m_La_lakes.2.2.1) [] h 0 0) : Ct m_La_lakes args h K := Ct.intro r_La_lakes false nB (by decide) (by decide) ok_La_lakes hnB hL hdb H
def r_Lw_init : List Row := [(0, .aload_n 0, 1, 0, 0, 0, 0, 0, 0, [], md0),
  (1, .invokespecial 3, 3, 225, 0, 5, 0, 0, 0, [], md0),
  (4, .aload_n 0, 1, 0, 0, 0, 0, 0, 0, [], md0),
  (5, .bipush 8, 2, 0, 0, 0, 0, 8, 0, [], md0),
  (7, .newarray .int, 2, 137, 0, 8, 0, 8, 0, [], md0),
  (9, .putfield 9, 3, 226, 3, 0, 2, 0, 0, [], md0),
  (12, .aload_n 0, 1, 0, 0, 0, 0, 0, 0, [], md0),
  (13, .bipush 8, 2, 0, 0, 0, 0, 8, 0, [], md0),
  (15, .newarray .int, 2, 137, 0, 8, 0, 8, 0, [], md0),
  (17, .putfield 15, 3, 227, 3, 1, 2, 0, 0, [], md0),
  (20, .aload_n 0, 1, 0, 0, 0, 0, 0, 0, [], md0),
  (21, .bipush 8, 2, 0, 0, 0, 0, 8, 0, [], md0),
  (23, .newarray .int, 2, 137, 0, 8, 0, 8, 0, [], md0),
  (25, .putfield 18, 3, 228, 3, 2, 2, 0, 0, [], md0),
  (28, .aload_n 0, 1, 0, 0, 0, 0, 0, 0, [], md0),
  (29, .bipush 40, 2, 0, 0, 0, 0, 40, 0, [], md0),
  (31, .newarray .int, 2, 137, 0, 40, 0, 40, 0, [], md0),
  (33, .putfield 21, 3, 230, 3, 3, 2, 0, 0, [], md0),
  (36, .aload_n 0, 1, 0, 0, 0, 0, 0, 0, [], md0),
  (37, .bipush 40, 2, 0, 0, 0, 0, 40, 0, [], md0),
  (39, .newarray .int, 2, 137, 0, 40, 0, 40, 0, [], md0),
  (41, .putfield 24, 3, 232, 3, 4, 2, 0, 0, [], md0),
  (44, .aload_n 0, 1, 0, 0, 0, 0, 0, 0, [], md0),
  (45, .bipush 40, 2, 0, 0, 0, 0, 40, 0, [], md0),
  (47, .newarray .int, 2, 137, 0, 40, 0, 40, 0, [], md0),
  (49, .putfield 27, 3, 235, 3, 5, 2, 0, 0, [], md0),
  (52, .aload_n 0, 1, 0, 0, 0, 0, 0, 0, [], md0),
  (53, .bipush 40, 2, 0, 0, 0, 0, 40, 0, [], md0),
  (55, .newarray .int, 2, 137, 0, 40, 0, 40, 0, [], md0),
  (57, .putfield 30, 3, 237, 3, 6, 2, 0, 0, [], md0),
  (60, .return_, 1, 0, 0, 0, 0, 0, 0, [], md0)]
set_option maxRecDepth 100000 in
theorem tb_Lw_init : tabOf r_Lw_init 0 = (0, .aload_n 0, 1, 0, 0, 0, 0, 0, 0, [], md0) ∧ tabOf r_Lw_init 1 = (1, .invokespecial 3, 3, 225, 0, 5, 0, 0, 0, [], md0) ∧ tabOf r_Lw_init 4 = (4, .aload_n 0, 1, 0, 0, 0, 0, 0, 0, [], md0) ∧ tabOf r_Lw_init 5 = (5, .bipush 8, 2, 0, 0, 0, 0, 8, 0, [], md0) ∧ tabOf r_Lw_init 7 = (7, .newarray .int, 2, 137, 0, 8, 0, 8, 0, [], md0) ∧ tabOf r_Lw_init 9 = (9, .putfield 9, 3, 226, 3, 0, 2, 0, 0, [], md0) ∧ tabOf r_Lw_init 12 = (12, .aload_n 0, 1, 0, 0, 0, 0, 0, 0, [], md0) ∧ tabOf r_Lw_init 13 = (13, .bipush 8, 2, 0, 0, 0, 0, 8, 0, [], md0) ∧ tabOf r_Lw_init 15 = (15, .newarray .int, 2, 137, 0, 8, 0, 8, 0, [], md0) ∧ tabOf r_Lw_init 17 = (17, .putfield 15, 3, 227, 3, 1, 2, 0, 0, [], md0) ∧ tabOf r_Lw_init 20 = (20, .aload_n 0, 1, 0, 0, 0, 0, 0, 0, [], md0) ∧ tabOf r_Lw_init 21 = (21, .bipush 8, 2, 0, 0, 0, 0, 8, 0, [], md0) ∧ tabOf r_Lw_init 23 = (23, .newarray .int, 2, 137, 0, 8, 0, 8, 0, [], md0) ∧ tabOf r_Lw_init 25 = (25, .putfield 18, 3, 228, 3, 2, 2, 0, 0, [], md0) ∧ tabOf r_Lw_init 28 = (28, .aload_n 0, 1, 0, 0, 0, 0, 0, 0, [], md0) ∧ tabOf r_Lw_init 29 = (29, .bipush 40, 2, 0, 0, 0, 0, 40, 0, [], md0) ∧ tabOf r_Lw_init 31 = (31, .newarray .int, 2, 137, 0, 40, 0, 40, 0, [], md0) ∧ tabOf r_Lw_init 33 = (33, .putfield 21, 3, 230, 3, 3, 2, 0, 0, [], md0) ∧ tabOf r_Lw_init 36 = (36, .aload_n 0, 1, 0, 0, 0, 0, 0, 0, [], md0) ∧ tabOf r_Lw_init 37 = (37, .bipush 40, 2, 0, 0, 0, 0, 40, 0, [], md0) ∧ tabOf r_Lw_init 39 = (39, .newarray .int, 2, 137, 0, 40, 0, 40, 0, [], md0) ∧ tabOf r_Lw_init 41 = (41, .putfield 24, 3, 232, 3, 4, 2, 0, 0, [], md0) ∧ tabOf r_Lw_init 44 = (44, .aload_n 0, 1, 0, 0, 0, 0, 0, 0, [], md0) ∧ tabOf r_Lw_init 45 = (45, .bipush 40, 2, 0, 0, 0, 0, 40, 0, [], md0) ∧ tabOf r_Lw_init 47 = (47, .newarray .int, 2, 137, 0, 40, 0, 40, 0, [], md0) ∧ tabOf r_Lw_init 49 = (49, .putfield 27, 3, 235, 3, 5, 2, 0, 0, [], md0) ∧ tabOf r_Lw_init 52 = (52, .aload_n 0, 1, 0, 0, 0, 0, 0, 0, [], md0) ∧ tabOf r_Lw_init 53 = (53, .bipush 40, 2, 0, 0, 0, 0, 40, 0, [], md0) ∧ tabOf r_Lw_init 55 = (55, .newarray .int, 2, 137, 0, 40, 0, 40, 0, [], md0) ∧ tabOf r_Lw_init 57 = (57, .putfield 30, 3, 237, 3, 6, 2, 0, 0, [], md0) ∧ tabOf r_Lw_init 60 = (60, .return_, 1, 0, 0, 0, 0, 0, 0, [], md0) ∧ m_Lw_init.2.2.2.2.1.cells = 7 ∧ m_Lw_init.2.2.2.2.1.slots = 184 ∧ m_Lw_init.2.2.2.2.1.locals = 20 ∧ m_Lw_init.2.2.2.1 = none ∧ m_Lw_init.2.2.1 = 1 := ⟨rfl, rfl, rfl, rfl, rfl, rfl, rfl, rfl, rfl, rfl, rfl, rfl, rfl, rfl, rfl, rfl, rfl, rfl, rfl, rfl, rfl, rfl, rfl, rfl, rfl, rfl, rfl, rfl, rfl, rfl, rfl, rfl, rfl, rfl, rfl, rfl⟩
set_option maxRecDepth 100000 in
theorem ok_Lw_init : r_Lw_init.all (okRow m_Lw_init.2.2.2.2.1 m_Lw_init.1.cls m_Lw_init.2.1 m_Lw_init.2.2.1 true) = true := by decide +kernel
set_option maxRecDepth 100000 in
theorem in_Lw_init {args : List Value} {h : MH} {K : KT} (nB : Nat) (hnB : nB ≤ h.2.2.2) (hL : cat2 args ≤ m_Lw_init.2.2.1) (hdb : noD args = true) (H : ∀ P : PT, (∀ stops n pc lv st h cn sn, wq m_Lw_init.2.2.2.2.1 m_Lw_init.2.2.2.1 nB (0, fun _ => 0) Ct (tabOf r_Lw_init) K P stops n pc lv st h cn sn → P pc lv st h cn sn) → P 0 (entL args m_Lw_init.2.2.1) [] h 0 0) : Ct m_Lw_init args h K := Ct.intro r_Lw_init true nB (by decide) (by decide) ok_Lw_init hnB hL hdb H
def r_Lw_takeFrom : List Row := [(0, .aload_n 1, 1, 0, 1, 0, 0, 0, 0, [], md0),
  (1, .getfield 9, 3, 226, 3, 0, 2, 0, 0, [], md0),
  (4, .iconst 0, 1, 0, 0, 0, 0, 0, 0, [], md0),
  (5, .aload_n 0, 1, 0, 0, 0, 0, 0, 0, [], md0),
  (6, .getfield 9, 3, 226, 3, 0, 2, 0, 0, [], md0),
  (9, .iconst 0, 1, 0, 0, 0, 0, 0, 0, [], md0),
  (10, .bipush 8, 2, 0, 0, 0, 0, 8, 0, [], md0),
  (12, .invokestatic 33, 3, 1137, 0, 4, 0, 0, 0, [], md0),
  (15, .aload_n 1, 1, 0, 1, 0, 0, 0, 0, [], md0),
  (16, .getfield 15, 3, 227, 3, 1, 2, 0, 0, [], md0),
  (19, .iconst 0, 1, 0, 0, 0, 0, 0, 0, [], md0),
  (20, .aload_n 0, 1, 0, 0, 0, 0, 0, 0, [], md0),
  (21, .getfield 15, 3, 227, 3, 1, 2, 0, 0, [], md0),
  (24, .iconst 0, 1, 0, 0, 0, 0, 0, 0, [], md0),
  (25, .bipush 8, 2, 0, 0, 0, 0, 8, 0, [], md0),
  (27, .invokestatic 33, 3, 1137, 0, 4, 0, 0, 0, [], md0),
  (30, .aload_n 1, 1, 0, 1, 0, 0, 0, 0, [], md0),
  (31, .getfield 18, 3, 228, 3, 2, 2, 0, 0, [], md0),
  (34, .iconst 0, 1, 0, 0, 0, 0, 0, 0, [], md0),
  (35, .aload_n 0, 1, 0, 0, 0, 0, 0, 0, [], md0),
  (36, .getfield 18, 3, 228, 3, 2, 2, 0, 0, [], md0),
  (39, .iconst 0, 1, 0, 0, 0, 0, 0, 0, [], md0),
  (40, .bipush 8, 2, 0, 0, 0, 0, 8, 0, [], md0),
  (42, .invokestatic 33, 3, 1137, 0, 4, 0, 0, 0, [], md0),
  (45, .aload_n 1, 1, 0, 1, 0, 0, 0, 0, [], md0),
  (46, .getfield 21, 3, 230, 3, 3, 2, 0, 0, [], md0),
  (49, .iconst 0, 1, 0, 0, 0, 0, 0, 0, [], md0),
  (50, .aload_n 0, 1, 0, 0, 0, 0, 0, 0, [], md0),
  (51, .getfield 21, 3, 230, 3, 3, 2, 0, 0, [], md0),
  (54, .iconst 0, 1, 0, 0, 0, 0, 0, 0, [], md0),
  (55, .bipush 40, 2, 0, 0, 0, 0, 40, 0, [], md0),
  (57, .invokestatic 33, 3, 1137, 0, 4, 0, 0, 0, [], md0),
  (60, .aload_n 1, 1, 0, 1, 0, 0, 0, 0, [], md0),
  (61, .getfield 24, 3, 232, 3, 4, 2, 0, 0, [], md0),
  (64, .iconst 0, 1, 0, 0, 0, 0, 0, 0, [], md0),
  (65, .aload_n 0, 1, 0, 0, 0, 0, 0, 0, [], md0),
  (66, .getfield 24, 3, 232, 3, 4, 2, 0, 0, [], md0),
  (69, .iconst 0, 1, 0, 0, 0, 0, 0, 0, [], md0),
  (70, .bipush 40, 2, 0, 0, 0, 0, 40, 0, [], md0),
  (72, .invokestatic 33, 3, 1137, 0, 4, 0, 0, 0, [], md0),
  (75, .aload_n 1, 1, 0, 1, 0, 0, 0, 0, [], md0),
  (76, .getfield 27, 3, 235, 3, 5, 2, 0, 0, [], md0),
  (79, .iconst 0, 1, 0, 0, 0, 0, 0, 0, [], md0),
  (80, .aload_n 0, 1, 0, 0, 0, 0, 0, 0, [], md0),
  (81, .getfield 27, 3, 235, 3, 5, 2, 0, 0, [], md0),
  (84, .iconst 0, 1, 0, 0, 0, 0, 0, 0, [], md0),
  (85, .bipush 40, 2, 0, 0, 0, 0, 40, 0, [], md0),
  (87, .invokestatic 33, 3, 1137, 0, 4, 0, 0, 0, [], md0),
  (90, .aload_n 1, 1, 0, 1, 0, 0, 0, 0, [], md0),
  (91, .getfield 30, 3, 237, 3, 6, 2, 0, 0, [], md0),
  (94, .iconst 0, 1, 0, 0, 0, 0, 0, 0, [], md0),
  (95, .aload_n 0, 1, 0, 0, 0, 0, 0, 0, [], md0),
  (96, .getfield 30, 3, 237, 3, 6, 2, 0, 0, [], md0),
  (99, .iconst 0, 1, 0, 0, 0, 0, 0, 0, [], md0),
  (100, .bipush 40, 2, 0, 0, 0, 0, 40, 0, [], md0),
  (102, .invokestatic 33, 3, 1137, 0, 4, 0, 0, 0, [], md0),
  (105, .aload_n 0, 1, 0, 0, 0, 0, 0, 0, [], md0),
  (106, .aload_n 1, 1, 0, 1, 0, 0, 0, 0, [], md0),
  (107, .getfield 39, 3, 239, 3, 7, 0, 0, 0, [], md0),
  (110, .putfield 39, 3, 239, 3, 7, 0, 0, 0, [], md0),
  (113, .return_, 1, 0, 0, 0, 0, 0, 0, [], md0)]
set_option maxRecDepth 100000 in
theorem tb_Lw_takeFrom : tabOf r_Lw_takeFrom 0 = (0, .aload_n 1, 1, 0, 1, 0, 0, 0, 0, [], md0) ∧ tabOf r_Lw_takeFrom 1 = (1, .getfield 9, 3, 226, 3, 0, 2, 0, 0, [], md0) ∧ tabOf r_Lw_takeFrom 4 = (4, .iconst 0, 1, 0, 0, 0, 0, 0, 0, [], md0) ∧ tabOf r_Lw_takeFrom 5 = (5, .aload_n 0, 1, 0, 0, 0, 0, 0, 0, [], md0) ∧ tabOf r_Lw_takeFrom 6 = (6, .getfield 9, 3, 226, 3, 0, 2, 0, 0, [], md0) ∧ tabOf r_Lw_takeFrom 9 = (9, .iconst 0, 1, 0, 0, 0, 0, 0, 0, [], md0) ∧ tabOf r_Lw_takeFrom 10 = (10, .bipush 8, 2, 0, 0, 0, 0, 8, 0, [], md0) ∧ tabOf r_Lw_takeFrom 12 = (12, .invokestatic 33, 3, 1137, 0, 4, 0, 0, 0, [], md0) ∧ tabOf r_Lw_takeFrom 15 = (15, .aload_n 1, 1, 0, 1, 0, 0, 0, 0, [], md0) ∧ tabOf r_Lw_takeFrom 16 = (16, .getfield 15, 3, 227, 3, 1, 2, 0, 0, [], md0) ∧ tabOf r_Lw_takeFrom 19 = (19, .iconst 0, 1, 0, 0, 0, 0, 0, 0, [], md0) ∧ tabOf r_Lw_takeFrom 20 = (20, .aload_n 0, 1, 0, 0, 0, 0, 0, 0, [], md0) ∧ tabOf r_Lw_takeFrom 21 = (21, .getfield 15, 3, 227, 3, 1, 2, 0, 0, [], md0) ∧ tabOf r_Lw_takeFrom 24 = (24, .iconst 0, 1, 0, 0, 0, 0, 0, 0, [], md0) ∧ tabOf r_Lw_takeFrom 25 = (25, .bipush 8, 2, 0, 0, 0, 0, 8, 0, [], md0) ∧ tabOf r_Lw_takeFrom 27 = (27, .invokestatic 33, 3, 1137, 0, 4, 0, 0, 0, [], md0) ∧ tabOf r_Lw_takeFrom 30 = (30, .aload_n 1, 1, 0, 1, 0, 0, 0, 0, [], md0) ∧ tabOf r_Lw_takeFrom 31 = (31, .getfield 18, 3, 228, 3, 2, 2, 0, 0, [], md0) ∧ tabOf r_Lw_takeFrom 34 = (34, .iconst 0, 1, 0, 0, 0, 0, 0, 0, [], md0) ∧ tabOf r_Lw_takeFrom 35 = (35, .aload_n 0, 1, 0, 0, 0, 0, 0, 0, [], md0) ∧ tabOf r_Lw_takeFrom 36 = (36, .getfield 18, 3, 228, 3, 2, 2, 0, 0, [], md0) ∧ tabOf r_Lw_takeFrom 39 = (39, .iconst 0, 1, 0, 0, 0, 0, 0, 0, [], md0) ∧ tabOf r_Lw_takeFrom 40 = (40, .bipush 8, 2, 0, 0, 0, 0, 8, 0, [], md0) ∧ tabOf r_Lw_takeFrom 42 = (42, .invokestatic 33, 3, 1137, 0, 4, 0, 0, 0, [], md0) ∧ tabOf r_Lw_takeFrom 45 = (45, .aload_n 1, 1, 0, 1, 0, 0, 0, 0, [], md0) ∧ tabOf r_Lw_takeFrom 46 = (46, .getfield 21, 3, 230, 3, 3, 2, 0, 0, [], md0) ∧ tabOf r_Lw_takeFrom 49 = (49, .iconst 0, 1, 0, 0, 0, 0, 0, 0, [], md0) ∧ tabOf r_Lw_takeFrom 50 = (50, .aload_n 0, 1, 0, 0, 0, 0, 0, 0, [], md0) ∧ tabOf r_Lw_takeFrom 51 = (51, .getfield 21, 3, 230, 3, 3, 2, 0, 0, [], md0) ∧ tabOf r_Lw_takeFrom 54 = (54, .iconst 0, 1, 0, 0, 0, 0, 0, 0, [], md0) ∧ tabOf r_Lw_takeFrom 55 = (55, .bipush 40, 2, 0, 0, 0, 0, 40, 0, [], md0) ∧ tabOf r_Lw_takeFrom 57 = (57, .invokestatic 33, 3, 1137, 0, 4, 0, 0, 0, [], md0) ∧ tabOf r_Lw_takeFrom 60 = (60, .aload_n 1, 1, 0, 1, 0, 0, 0, 0, [], md0) ∧ tabOf r_Lw_takeFrom 61 = (61, .getfield 24, 3, 232, 3, 4, 2, 0, 0, [], md0) ∧ tabOf r_Lw_takeFrom 64 = (64, .iconst 0, 1, 0, 0, 0, 0, 0, 0, [], md0) ∧ tabOf r_Lw_takeFrom 65 = (65, .aload_n 0, 1, 0, 0, 0, 0, 0, 0, [], md0) ∧ tabOf r_Lw_takeFrom 66 = (66, .getfield 24, 3, 232, 3, 4, 2, 0, 0, [], md0) ∧ tabOf r_Lw_takeFrom 69 = (69, .iconst 0, 1, 0, 0, 0, 0, 0, 0, [], md0) ∧ tabOf r_Lw_takeFrom 70 = (70, .bipush 40, 2, 0, 0, 0, 0, 40, 0, [], md0) ∧ tabOf r_Lw_takeFrom 72 = (72, .invokestatic 33, 3, 1137, 0, 4, 0, 0, 0, [], md0) ∧ tabOf r_Lw_takeFrom 75 = (75, .aload_n 1, 1, 0, 1, 0, 0, 0, 0, [], md0) ∧ tabOf r_Lw_takeFrom 76 = (76, .getfield 27, 3, 235, 3, 5, 2, 0, 0, [], md0) ∧ tabOf r_Lw_takeFrom 79 = (79, .iconst 0, 1, 0, 0, 0, 0, 0, 0, [], md0) ∧ tabOf r_Lw_takeFrom 80 = (80, .aload_n 0, 1, 0, 0, 0, 0, 0, 0, [], md0) ∧ tabOf r_Lw_takeFrom 81 = (81, .getfield 27, 3, 235, 3, 5, 2, 0, 0, [], md0) ∧ tabOf r_Lw_takeFrom 84 = (84, .iconst 0, 1, 0, 0, 0, 0, 0, 0, [], md0) ∧ tabOf r_Lw_takeFrom 85 = (85, .bipush 40, 2, 0, 0, 0, 0, 40, 0, [], md0) ∧ tabOf r_Lw_takeFrom 87 = (87, .invokestatic 33, 3, 1137, 0, 4, 0, 0, 0, [], md0) ∧ tabOf r_Lw_takeFrom 90 = (90, .aload_n 1, 1, 0, 1, 0, 0, 0, 0, [], md0) ∧ tabOf r_Lw_takeFrom 91 = (91, .getfield 30, 3, 237, 3, 6, 2, 0, 0, [], md0) ∧ tabOf r_Lw_takeFrom 94 = (94, .iconst 0, 1, 0, 0, 0, 0, 0, 0, [], md0) ∧ tabOf r_Lw_takeFrom 95 = (95, .aload_n 0, 1, 0, 0, 0, 0, 0, 0, [], md0) ∧ tabOf r_Lw_takeFrom 96 = (96, .getfield 30, 3, 237, 3, 6, 2, 0, 0, [], md0) ∧ tabOf r_Lw_takeFrom 99 = (99, .iconst 0, 1, 0, 0, 0, 0, 0, 0, [], md0) ∧ tabOf r_Lw_takeFrom 100 = (100, .bipush 40, 2, 0, 0, 0, 0, 40, 0, [], md0) ∧ tabOf r_Lw_takeFrom 102 = (102, .invokestatic 33, 3, 1137, 0, 4, 0, 0, 0, [], md0) ∧ tabOf r_Lw_takeFrom 105 = (105, .aload_n 0, 1, 0, 0, 0, 0, 0, 0, [], md0) ∧ tabOf r_Lw_takeFrom 106 = (106, .aload_n 1, 1, 0, 1, 0, 0, 0, 0, [], md0) ∧ tabOf r_Lw_takeFrom 107 = (107, .getfield 39, 3, 239, 3, 7, 0, 0, 0, [], md0) ∧ tabOf r_Lw_takeFrom 110 = (110, .putfield 39, 3, 239, 3, 7, 0, 0, 0, [], md0) ∧ tabOf r_Lw_takeFrom 113 = (113, .return_, 1, 0, 0, 0, 0, 0, 0, [], md0) ∧ m_Lw_takeFrom.2.2.2.2.1.cells = 0 ∧ m_Lw_takeFrom.2.2.2.2.1.slots = 0 ∧ m_Lw_takeFrom.2.2.2.2.1.locals = 26 ∧ m_Lw_takeFrom.2.2.2.1 = none ∧ m_Lw_takeFrom.2.2.1 = 2 := ⟨rfl, rfl, rfl, rfl, rfl, rfl, rfl, rfl, rfl, rfl, rfl, rfl, rfl, rfl, rfl, rfl, rfl, rfl, rfl, rfl, rfl, rfl, rfl, rfl, rfl, rfl, rfl, rfl, rfl, rfl, rfl, rfl, rfl, rfl, rfl, rfl, rfl, rfl, rfl, rfl, rfl, rfl, rfl, rfl, rfl, rfl, rfl, rfl, rfl, rfl, rfl, rfl, rfl, rfl, rfl, rfl, rfl, rfl, rfl, rfl, rfl, rfl, rfl, rfl, rfl, rfl⟩
set_option maxRecDepth 100000 in
theorem ok_Lw_takeFrom : r_Lw_takeFrom.all (okRow m_Lw_takeFrom.2.2.2.2.1 m_Lw_takeFrom.1.cls m_Lw_takeFrom.2.1 m_Lw_takeFrom.2.2.1 false) = true := by decide +kernel
set_option maxRecDepth 100000 in
theorem in_Lw_takeFrom {args : List Value} {h : MH} {K : KT} (nB : Nat) (hnB : nB ≤ h.2.2.2) (hL : cat2 args ≤ m_Lw_takeFrom.2.2.1) (hdb : noD args = true) (H : ∀ P : PT, (∀ stops n pc lv st h cn sn, wq m_Lw_takeFrom.2.2.2.2.1 m_Lw_takeFrom.2.2.2.1 nB (0, fun _ => 0) Ct (tabOf r_Lw_takeFrom) K P stops n pc lv st h cn sn → P pc lv st h cn sn) → P 0 (entL args m_Lw_takeFrom.2.2.1) [] h 0 0) : Ct m_Lw_takeFrom args h K := Ct.intro r_Lw_takeFrom false nB (by decide) (by decide) ok_Lw_takeFrom hnB hL hdb H
def r_Lw_enact : List Row := [(0, .aload_n 0, 1, 0, 0, 0, 0, 0, 0, [], md0),
  (1, .getfield 9, 3, 226, 3, 0, 2, 0, 0, [], md0),
  (4, .aload_n 0, 1, 0, 0, 0, 0, 0, 0, [], md0),
  (5, .getfield 39, 3, 239, 3, 7, 0, 0, 0, [], md0),
  (8, .iload_n 1, 1, 0, 1, 0, 0, 0, 0, [], md0),
  (9, .iastore, 1, 0, 0, 0, 0, 0, 0, [], md0),
  (10, .aload_n 0, 1, 0, 0, 0, 0, 0, 0, [], md0),
  (11, .getfield 15, 3, 227, 3, 1, 2, 0, 0, [], md0),
  (14, .aload_n 0, 1, 0, 0, 0, 0, 0, 0, [], md0),
  (15, .getfield 39, 3, 239, 3, 7, 0, 0, 0, [], md0),
  (18, .iload_n 2, 1, 0, 2, 0, 0, 0, 0, [], md0),
  (19, .iastore, 1, 0, 0, 0, 0, 0, 0, [], md0),
  (20, .aload_n 0, 1, 0, 0, 0, 0, 0, 0, [], md0),
  (21, .dup, 1, 0, 0, 0, 0, 0, 0, [], md0),
  (22, .getfield 39, 3, 239, 3, 7, 0, 0, 0, [], md0),
  (25, .iconst 1, 1, 0, 0, 0, 0, 1, 0, [], md0),
  (26, .iadd, 1, 0, 0, 0, 0, 0, 0, [], md0),
  (27, .putfield 39, 3, 239, 3, 7, 0, 0, 0, [], md0),
  (30, .aload_n 0, 1, 0, 0, 0, 0, 0, 0, [], md0),
  (31, .getfield 39, 3, 239, 3, 7, 0, 0, 0, [], md0),
  (34, .iconst 1, 1, 0, 0, 0, 0, 1, 0, [], md0),
  (35, .isub, 1, 0, 0, 0, 0, 0, 0, [], md0),
  (36, .ireturn, 1, 0, 0, 0, 0, 0, 0, [], md0)]
set_option maxRecDepth 100000 in
theorem tb_Lw_enact : tabOf r_Lw_enact 0 = (0, .aload_n 0, 1, 0, 0, 0, 0, 0, 0, [], md0) ∧ tabOf r_Lw_enact 1 = (1, .getfield 9, 3, 226, 3, 0, 2, 0, 0, [], md0) ∧ tabOf r_Lw_enact 4 = (4, .aload_n 0, 1, 0, 0, 0, 0, 0, 0, [], md0) ∧ tabOf r_Lw_enact 5 = (5, .getfield 39, 3, 239, 3, 7, 0, 0, 0, [], md0) ∧ tabOf r_Lw_enact 8 = (8, .iload_n 1, 1, 0, 1, 0, 0, 0, 0, [], md0) ∧ tabOf r_Lw_enact 9 = (9, .iastore, 1, 0, 0, 0, 0, 0, 0, [], md0) ∧ tabOf r_Lw_enact 10 = (10, .aload_n 0, 1, 0, 0, 0, 0, 0, 0, [], md0) ∧ tabOf r_Lw_enact 11 = (11, .getfield 15, 3, 227, 3, 1, 2, 0, 0, [], md0) ∧ tabOf r_Lw_enact 14 = (14, .aload_n 0, 1, 0, 0, 0, 0, 0, 0, [], md0) ∧ tabOf r_Lw_enact 15 = (15, .getfield 39, 3, 239, 3, 7, 0, 0, 0, [], md0) ∧ tabOf r_Lw_enact 18 = (18, .iload_n 2, 1, 0, 2, 0, 0, 0, 0, [], md0) ∧ tabOf r_Lw_enact 19 = (19, .iastore, 1, 0, 0, 0, 0, 0, 0, [], md0) ∧ tabOf r_Lw_enact 20 = (20, .aload_n 0, 1, 0, 0, 0, 0, 0, 0, [], md0) ∧ tabOf r_Lw_enact 21 = (21, .dup, 1, 0, 0, 0, 0, 0, 0, [], md0) ∧ tabOf r_Lw_enact 22 = (22, .getfield 39, 3, 239, 3, 7, 0, 0, 0, [], md0) ∧ tabOf r_Lw_enact 25 = (25, .iconst 1, 1, 0, 0, 0, 0, 1, 0, [], md0) ∧ tabOf r_Lw_enact 26 = (26, .iadd, 1, 0, 0, 0, 0, 0, 0, [], md0) ∧ tabOf r_Lw_enact 27 = (27, .putfield 39, 3, 239, 3, 7, 0, 0, 0, [], md0) ∧ tabOf r_Lw_enact 30 = (30, .aload_n 0, 1, 0, 0, 0, 0, 0, 0, [], md0) ∧ tabOf r_Lw_enact 31 = (31, .getfield 39, 3, 239, 3, 7, 0, 0, 0, [], md0) ∧ tabOf r_Lw_enact 34 = (34, .iconst 1, 1, 0, 0, 0, 0, 1, 0, [], md0) ∧ tabOf r_Lw_enact 35 = (35, .isub, 1, 0, 0, 0, 0, 0, 0, [], md0) ∧ tabOf r_Lw_enact 36 = (36, .ireturn, 1, 0, 0, 0, 0, 0, 0, [], md0) ∧ m_Lw_enact.2.2.2.2.1.cells = 0 ∧ m_Lw_enact.2.2.2.2.1.slots = 0 ∧ m_Lw_enact.2.2.2.2.1.locals = 0 ∧ m_Lw_enact.2.2.2.1 = some .int ∧ m_Lw_enact.2.2.1 = 3 := ⟨rfl, rfl, rfl, rfl, rfl, rfl, rfl, rfl, rfl, rfl, rfl, rfl, rfl, rfl, rfl, rfl, rfl, rfl, rfl, rfl, rfl, rfl, rfl, rfl, rfl, rfl, rfl, rfl⟩
set_option maxRecDepth 100000 in
theorem ok_Lw_enact : r_Lw_enact.all (okRow m_Lw_enact.2.2.2.2.1 m_Lw_enact.1.cls m_Lw_enact.2.1 m_Lw_enact.2.2.1 false) = true := by decide +kernel
set_option maxRecDepth 100000 in
theorem in_Lw_enact {args : List Value} {h : MH} {K : KT} (nB : Nat) (hnB : nB ≤ h.2.2.2) (hL : cat2 args ≤ m_Lw_enact.2.2.1) (hdb : noD args = true) (H : ∀ P : PT, (∀ stops n pc lv st h cn sn, wq m_Lw_enact.2.2.2.2.1 m_Lw_enact.2.2.2.1 nB (0, fun _ => 0) Ct (tabOf r_Lw_enact) K P stops n pc lv st h cn sn → P pc lv st h cn sn) → P 0 (entL args m_Lw_enact.2.2.1) [] h 0 0) : Ct m_Lw_enact args h K := Ct.intro r_Lw_enact false nB (by decide) (by decide) ok_Lw_enact hnB hL hdb H
def r_Lw_isInForce : List Row := [(0, .aload_n 0, 1, 0, 0, 0, 0, 0, 0, [], md0),
  (1, .getfield 9, 3, 226, 3, 0, 2, 0, 0, [], md0),
  (4, .iload_n 1, 1, 0, 1, 0, 0, 0, 0, [], md0),
  (5, .iaload, 1, 0, 0, 0, 0, 0, 0, [], md0),
  (6, .iload_n 2, 1, 0, 2, 0, 0, 0, 0, [], md0),
  (7, .if_icmp .gt 17, 3, 0, 24, 0, 0, 0, 0, [], md0),
  (10, .iload_n 2, 1, 0, 2, 0, 0, 0, 0, [], md0),
  (11, .aload_n 0, 1, 0, 0, 0, 0, 0, 0, [], md0),
  (12, .getfield 15, 3, 227, 3, 1, 2, 0, 0, [], md0),
  (15, .iload_n 1, 1, 0, 1, 0, 0, 0, 0, [], md0),
  (16, .iaload, 1, 0, 0, 0, 0, 0, 0, [], md0),
  (17, .if_icmp .gt 7, 3, 0, 24, 0, 0, 0, 0, [], md0),
  (20, .iconst 1, 1, 0, 0, 0, 0, 1, 0, [], md0),
  (21, .goto 4, 3, 0, 25, 0, 0, 0, 0, [], md0),
  (24, .iconst 0, 1, 0, 0, 0, 0, 0, 0, [], md0),
  (25, .ireturn, 1, 0, 0, 0, 0, 0, 0, [], md0)]
set_option maxRecDepth 100000 in
theorem tb_Lw_isInForce : tabOf r_Lw_isInForce 0 = (0, .aload_n 0, 1, 0, 0, 0, 0, 0, 0, [], md0) ∧ tabOf r_Lw_isInForce 1 = (1, .getfield 9, 3, 226, 3, 0, 2, 0, 0, [], md0) ∧ tabOf r_Lw_isInForce 4 = (4, .iload_n 1, 1, 0, 1, 0, 0, 0, 0, [], md0) ∧ tabOf r_Lw_isInForce 5 = (5, .iaload, 1, 0, 0, 0, 0, 0, 0, [], md0) ∧ tabOf r_Lw_isInForce 6 = (6, .iload_n 2, 1, 0, 2, 0, 0, 0, 0, [], md0) ∧ tabOf r_Lw_isInForce 7 = (7, .if_icmp .gt 17, 3, 0, 24, 0, 0, 0, 0, [], md0) ∧ tabOf r_Lw_isInForce 10 = (10, .iload_n 2, 1, 0, 2, 0, 0, 0, 0, [], md0) ∧ tabOf r_Lw_isInForce 11 = (11, .aload_n 0, 1, 0, 0, 0, 0, 0, 0, [], md0) ∧ tabOf r_Lw_isInForce 12 = (12, .getfield 15, 3, 227, 3, 1, 2, 0, 0, [], md0) ∧ tabOf r_Lw_isInForce 15 = (15, .iload_n 1, 1, 0, 1, 0, 0, 0, 0, [], md0) ∧ tabOf r_Lw_isInForce 16 = (16, .iaload, 1, 0, 0, 0, 0, 0, 0, [], md0) ∧ tabOf r_Lw_isInForce 17 = (17, .if_icmp .gt 7, 3, 0, 24, 0, 0, 0, 0, [], md0) ∧ tabOf r_Lw_isInForce 20 = (20, .iconst 1, 1, 0, 0, 0, 0, 1, 0, [], md0) ∧ tabOf r_Lw_isInForce 21 = (21, .goto 4, 3, 0, 25, 0, 0, 0, 0, [], md0) ∧ tabOf r_Lw_isInForce 24 = (24, .iconst 0, 1, 0, 0, 0, 0, 0, 0, [], md0) ∧ tabOf r_Lw_isInForce 25 = (25, .ireturn, 1, 0, 0, 0, 0, 0, 0, [], md0) ∧ m_Lw_isInForce.2.2.2.2.1.cells = 0 ∧ m_Lw_isInForce.2.2.2.2.1.slots = 0 ∧ m_Lw_isInForce.2.2.2.2.1.locals = 0 ∧ m_Lw_isInForce.2.2.2.1 = some .boolean ∧ m_Lw_isInForce.2.2.1 = 3 := ⟨rfl, rfl, rfl, rfl, rfl, rfl, rfl, rfl, rfl, rfl, rfl, rfl, rfl, rfl, rfl, rfl, rfl, rfl, rfl, rfl, rfl⟩
set_option maxRecDepth 100000 in
theorem ok_Lw_isInForce : r_Lw_isInForce.all (okRow m_Lw_isInForce.2.2.2.2.1 m_Lw_isInForce.1.cls m_Lw_isInForce.2.1 m_Lw_isInForce.2.2.1 false) = true := by decide +kernel
set_option maxRecDepth 100000 in
theorem in_Lw_isInForce {args : List Value} {h : MH} {K : KT} (nB : Nat) (hnB : nB ≤ h.2.2.2) (hL : cat2 args ≤ m_Lw_isInForce.2.2.1) (hdb : noD args = true) (H : ∀ P : PT, (∀ stops n pc lv st h cn sn, wq m_Lw_isInForce.2.2.2.2.1 m_Lw_isInForce.2.2.2.1 nB (0, fun _ => 0) Ct (tabOf r_Lw_isInForce) K P stops n pc lv st h cn sn → P pc lv st h cn sn) → P 0 (entL args m_Lw_isInForce.2.2.1) [] h 0 0) : Ct m_Lw_isInForce args h K := Ct.intro r_Lw_isInForce false nB (by decide) (by decide) ok_Lw_isInForce hnB hL hdb H
def r_Lw_inForce : List Row := [(0, .iconst 0, 1, 0, 0, 0, 0, 0, 0, [], md0),
  (1, .istore_n 2, 1, 0, 2, 0, 0, 0, 0, [], md0),
  (2, .iconst 0, 1, 0, 0, 0, 0, 0, 0, [], md0),
  (3, .istore_n 3, 1, 0, 3, 0, 0, 0, 0, [], md0),
  (4, .iload_n 3, 1, 0, 3, 0, 0, 0, 0, [], md0),
  (5, .aload_n 0, 1, 0, 0, 0, 0, 0, 0, [], md0),
  (6, .getfield 39, 3, 239, 3, 7, 0, 0, 0, [], md0),
  (9, .if_icmp .ge 21, 3, 0, 30, 0, 0, 0, 0, [], md0),
  (12, .aload_n 0, 1, 0, 0, 0, 0, 0, 0, [], md0),
  (13, .iload_n 3, 1, 0, 3, 0, 0, 0, 0, [], md0),
  (14, .iload_n 1, 1, 0, 1, 0, 0, 0, 0, [], md0),
  (15, .invokevirtual 43, 3, 525, 3, 0, 0, 0, 0, [], m_Lw_isInForce),
  (18, .ifCond .eq 6, 3, 0, 24, 0, 0, 0, 0, [], md0),
  (21, .iinc 2 1, 3, 0, 2, 0, 0, 1, 0, [], md0),
  (24, .iinc 3 1, 3, 0, 3, 0, 0, 1, 0, [], md0),
  (27, .goto (-23), 3, 0, 4, 0, 0, 0, 0, [], md0),
  (30, .iload_n 2, 1, 0, 2, 0, 0, 0, 0, [], md0),
  (31, .ireturn, 1, 0, 0, 0, 0, 0, 0, [], md0)]
set_option maxRecDepth 100000 in
theorem tb_Lw_inForce : tabOf r_Lw_inForce 0 = (0, .iconst 0, 1, 0, 0, 0, 0, 0, 0, [], md0) ∧ tabOf r_Lw_inForce 1 = (1, .istore_n 2, 1, 0, 2, 0, 0, 0, 0, [], md0) ∧ tabOf r_Lw_inForce 2 = (2, .iconst 0, 1, 0, 0, 0, 0, 0, 0, [], md0) ∧ tabOf r_Lw_inForce 3 = (3, .istore_n 3, 1, 0, 3, 0, 0, 0, 0, [], md0) ∧ tabOf r_Lw_inForce 4 = (4, .iload_n 3, 1, 0, 3, 0, 0, 0, 0, [], md0) ∧ tabOf r_Lw_inForce 5 = (5, .aload_n 0, 1, 0, 0, 0, 0, 0, 0, [], md0) ∧ tabOf r_Lw_inForce 6 = (6, .getfield 39, 3, 239, 3, 7, 0, 0, 0, [], md0) ∧ tabOf r_Lw_inForce 9 = (9, .if_icmp .ge 21, 3, 0, 30, 0, 0, 0, 0, [], md0) ∧ tabOf r_Lw_inForce 12 = (12, .aload_n 0, 1, 0, 0, 0, 0, 0, 0, [], md0) ∧ tabOf r_Lw_inForce 13 = (13, .iload_n 3, 1, 0, 3, 0, 0, 0, 0, [], md0) ∧ tabOf r_Lw_inForce 14 = (14, .iload_n 1, 1, 0, 1, 0, 0, 0, 0, [], md0) ∧ tabOf r_Lw_inForce 15 = (15, .invokevirtual 43, 3, 525, 3, 0, 0, 0, 0, [], m_Lw_isInForce) ∧ tabOf r_Lw_inForce 18 = (18, .ifCond .eq 6, 3, 0, 24, 0, 0, 0, 0, [], md0) ∧ tabOf r_Lw_inForce 21 = (21, .iinc 2 1, 3, 0, 2, 0, 0, 1, 0, [], md0) ∧ tabOf r_Lw_inForce 24 = (24, .iinc 3 1, 3, 0, 3, 0, 0, 1, 0, [], md0) ∧ tabOf r_Lw_inForce 27 = (27, .goto (-23), 3, 0, 4, 0, 0, 0, 0, [], md0) ∧ tabOf r_Lw_inForce 30 = (30, .iload_n 2, 1, 0, 2, 0, 0, 0, 0, [], md0) ∧ tabOf r_Lw_inForce 31 = (31, .ireturn, 1, 0, 0, 0, 0, 0, 0, [], md0) ∧ m_Lw_inForce.2.2.2.2.1.cells = 0 ∧ m_Lw_inForce.2.2.2.2.1.slots = 0 ∧ m_Lw_inForce.2.2.2.2.1.locals = 22 ∧ m_Lw_inForce.2.2.2.1 = some .int ∧ m_Lw_inForce.2.2.1 = 4 ∧ m_Lw_isInForce.2.2.2.2.1.cells = 0 ∧ m_Lw_isInForce.2.2.2.2.1.slots = 0 ∧ m_Lw_isInForce.2.2.2.2.2.1 = 2 := ⟨rfl, rfl, rfl, rfl, rfl, rfl, rfl, rfl, rfl, rfl, rfl, rfl, rfl, rfl, rfl, rfl, rfl, rfl, rfl, rfl, rfl, rfl, rfl, rfl, rfl, rfl⟩
set_option maxRecDepth 100000 in
theorem ok_Lw_inForce : r_Lw_inForce.all (okRow m_Lw_inForce.2.2.2.2.1 m_Lw_inForce.1.cls m_Lw_inForce.2.1 m_Lw_inForce.2.2.1 false) = true := by decide +kernel
set_option maxRecDepth 100000 in
theorem in_Lw_inForce {args : List Value} {h : MH} {K : KT} (nB : Nat) (hnB : nB ≤ h.2.2.2) (hL : cat2 args ≤ m_Lw_inForce.2.2.1) (hdb : noD args = true) (H : ∀ P : PT, (∀ stops n pc lv st h cn sn, wq m_Lw_inForce.2.2.2.2.1 m_Lw_inForce.2.2.2.1 nB (0, fun _ => 0) Ct (tabOf r_Lw_inForce) K P stops n pc lv st h cn sn → P pc lv st h cn sn) → P 0 (entL args m_Lw_inForce.2.2.1) [] h 0 0) : Ct m_Lw_inForce args h K := Ct.intro r_Lw_inForce false nB (by decide) (by decide) ok_Lw_inForce hnB hL hdb H
def r_Lw_slotIn : List Row := [(0, .iconst 0, 1, 0, 0, 0, 0, 0, 0, [], md0),
  (1, .istore 4, 2, 0, 4, 0, 0, 0, 0, [], md0),
  (3, .iload 4, 2, 0, 4, 0, 0, 0, 0, [], md0),
  (5, .aload_n 0, 1, 0, 0, 0, 0, 0, 0, [], md0),
  (6, .getfield 18, 3, 228, 3, 2, 2, 0, 0, [], md0),
  (9, .iload_n 1, 1, 0, 1, 0, 0, 0, 0, [], md0),
  (10, .iaload, 1, 0, 0, 0, 0, 0, 0, [], md0),
  (11, .if_icmp .ge 53, 3, 0, 64, 0, 0, 0, 0, [], md0),
  (14, .iload_n 1, 1, 0, 1, 0, 0, 0, 0, [], md0),
  (15, .iconst 5, 1, 0, 0, 0, 0, 5, 0, [], md0),
  (16, .imul, 1, 0, 0, 0, 0, 0, 0, [], md0),
  (17, .iload 4, 2, 0, 4, 0, 0, 0, 0, [], md0),
  (19, .iadd, 1, 0, 0, 0, 0, 0, 0, [], md0),
  (20, .istore 5, 2, 0, 5, 0, 0, 0, 0, [], md0),
  (22, .aload_n 0, 1, 0, 0, 0, 0, 0, 0, [], md0),
  (23, .getfield 21, 3, 230, 3, 3, 2, 0, 0, [], md0),
  (26, .iload 5, 2, 0, 5, 0, 0, 0, 0, [], md0),
  (28, .iaload, 1, 0, 0, 0, 0, 0, 0, [], md0),
  (29, .iload_n 2, 1, 0, 2, 0, 0, 0, 0, [], md0),
  (30, .if_icmp .ne 28, 3, 0, 58, 0, 0, 0, 0, [], md0),
  (33, .aload_n 0, 1, 0, 0, 0, 0, 0, 0, [], md0),
  (34, .getfield 27, 3, 235, 3, 5, 2, 0, 0, [], md0),
  (37, .iload 5, 2, 0, 5, 0, 0, 0, 0, [], md0),
  (39, .iaload, 1, 0, 0, 0, 0, 0, 0, [], md0),
  (40, .iload_n 3, 1, 0, 3, 0, 0, 0, 0, [], md0),
  (41, .if_icmp .gt 17, 3, 0, 58, 0, 0, 0, 0, [], md0),
  (44, .iload_n 3, 1, 0, 3, 0, 0, 0, 0, [], md0),
  (45, .aload_n 0, 1, 0, 0, 0, 0, 0, 0, [], md0),
  (46, .getfield 30, 3, 237, 3, 6, 2, 0, 0, [], md0),
  (49, .iload 5, 2, 0, 5, 0, 0, 0, 0, [], md0),
  (51, .iaload, 1, 0, 0, 0, 0, 0, 0, [], md0),
  (52, .if_icmp .gt 6, 3, 0, 58, 0, 0, 0, 0, [], md0),
  (55, .iload 5, 2, 0, 5, 0, 0, 0, 0, [], md0),
  (57, .ireturn, 1, 0, 0, 0, 0, 0, 0, [], md0),
  (58, .iinc 4 1, 3, 0, 4, 0, 0, 1, 0, [], md0),
  (61, .goto (-58), 3, 0, 3, 0, 0, 0, 0, [], md0),
  (64, .iconst (-1), 1, 0, 0, 0, 0, (-1), 0, [], md0),
  (65, .ireturn, 1, 0, 0, 0, 0, 0, 0, [], md0)]
set_option maxRecDepth 100000 in
theorem tb_Lw_slotIn : tabOf r_Lw_slotIn 0 = (0, .iconst 0, 1, 0, 0, 0, 0, 0, 0, [], md0) ∧ tabOf r_Lw_slotIn 1 = (1, .istore 4, 2, 0, 4, 0, 0, 0, 0, [], md0) ∧ tabOf r_Lw_slotIn 3 = (3, .iload 4, 2, 0, 4, 0, 0, 0, 0, [], md0) ∧ tabOf r_Lw_slotIn 5 = (5, .aload_n 0, 1, 0, 0, 0, 0, 0, 0, [], md0) ∧ tabOf r_Lw_slotIn 6 = (6, .getfield 18, 3, 228, 3, 2, 2, 0, 0, [], md0) ∧ tabOf r_Lw_slotIn 9 = (9, .iload_n 1, 1, 0, 1, 0, 0, 0, 0, [], md0) ∧ tabOf r_Lw_slotIn 10 = (10, .iaload, 1, 0, 0, 0, 0, 0, 0, [], md0) ∧ tabOf r_Lw_slotIn 11 = (11, .if_icmp .ge 53, 3, 0, 64, 0, 0, 0, 0, [], md0) ∧ tabOf r_Lw_slotIn 14 = (14, .iload_n 1, 1, 0, 1, 0, 0, 0, 0, [], md0) ∧ tabOf r_Lw_slotIn 15 = (15, .iconst 5, 1, 0, 0, 0, 0, 5, 0, [], md0) ∧ tabOf r_Lw_slotIn 16 = (16, .imul, 1, 0, 0, 0, 0, 0, 0, [], md0) ∧ tabOf r_Lw_slotIn 17 = (17, .iload 4, 2, 0, 4, 0, 0, 0, 0, [], md0) ∧ tabOf r_Lw_slotIn 19 = (19, .iadd, 1, 0, 0, 0, 0, 0, 0, [], md0) ∧ tabOf r_Lw_slotIn 20 = (20, .istore 5, 2, 0, 5, 0, 0, 0, 0, [], md0) ∧ tabOf r_Lw_slotIn 22 = (22, .aload_n 0, 1, 0, 0, 0, 0, 0, 0, [], md0) ∧ tabOf r_Lw_slotIn 23 = (23, .getfield 21, 3, 230, 3, 3, 2, 0, 0, [], md0) ∧ tabOf r_Lw_slotIn 26 = (26, .iload 5, 2, 0, 5, 0, 0, 0, 0, [], md0) ∧ tabOf r_Lw_slotIn 28 = (28, .iaload, 1, 0, 0, 0, 0, 0, 0, [], md0) ∧ tabOf r_Lw_slotIn 29 = (29, .iload_n 2, 1, 0, 2, 0, 0, 0, 0, [], md0) ∧ tabOf r_Lw_slotIn 30 = (30, .if_icmp .ne 28, 3, 0, 58, 0, 0, 0, 0, [], md0) ∧ tabOf r_Lw_slotIn 33 = (33, .aload_n 0, 1, 0, 0, 0, 0, 0, 0, [], md0) ∧ tabOf r_Lw_slotIn 34 = (34, .getfield 27, 3, 235, 3, 5, 2, 0, 0, [], md0) ∧ tabOf r_Lw_slotIn 37 = (37, .iload 5, 2, 0, 5, 0, 0, 0, 0, [], md0) ∧ tabOf r_Lw_slotIn 39 = (39, .iaload, 1, 0, 0, 0, 0, 0, 0, [], md0) ∧ tabOf r_Lw_slotIn 40 = (40, .iload_n 3, 1, 0, 3, 0, 0, 0, 0, [], md0) ∧ tabOf r_Lw_slotIn 41 = (41, .if_icmp .gt 17, 3, 0, 58, 0, 0, 0, 0, [], md0) ∧ tabOf r_Lw_slotIn 44 = (44, .iload_n 3, 1, 0, 3, 0, 0, 0, 0, [], md0) ∧ tabOf r_Lw_slotIn 45 = (45, .aload_n 0, 1, 0, 0, 0, 0, 0, 0, [], md0) ∧ tabOf r_Lw_slotIn 46 = (46, .getfield 30, 3, 237, 3, 6, 2, 0, 0, [], md0) ∧ tabOf r_Lw_slotIn 49 = (49, .iload 5, 2, 0, 5, 0, 0, 0, 0, [], md0) ∧ tabOf r_Lw_slotIn 51 = (51, .iaload, 1, 0, 0, 0, 0, 0, 0, [], md0) ∧ tabOf r_Lw_slotIn 52 = (52, .if_icmp .gt 6, 3, 0, 58, 0, 0, 0, 0, [], md0) ∧ tabOf r_Lw_slotIn 55 = (55, .iload 5, 2, 0, 5, 0, 0, 0, 0, [], md0) ∧ tabOf r_Lw_slotIn 57 = (57, .ireturn, 1, 0, 0, 0, 0, 0, 0, [], md0) ∧ tabOf r_Lw_slotIn 58 = (58, .iinc 4 1, 3, 0, 4, 0, 0, 1, 0, [], md0) ∧ tabOf r_Lw_slotIn 61 = (61, .goto (-58), 3, 0, 3, 0, 0, 0, 0, [], md0) ∧ tabOf r_Lw_slotIn 64 = (64, .iconst (-1), 1, 0, 0, 0, 0, (-1), 0, [], md0) ∧ tabOf r_Lw_slotIn 65 = (65, .ireturn, 1, 0, 0, 0, 0, 0, 0, [], md0) ∧ m_Lw_slotIn.2.2.2.2.1.cells = 0 ∧ m_Lw_slotIn.2.2.2.2.1.slots = 0 ∧ m_Lw_slotIn.2.2.2.2.1.locals = 0 ∧ m_Lw_slotIn.2.2.2.1 = some .int ∧ m_Lw_slotIn.2.2.1 = 6 := ⟨rfl, rfl, rfl, rfl, rfl, rfl, rfl, rfl, rfl, rfl, rfl, rfl, rfl, rfl, rfl, rfl, rfl, rfl, rfl, rfl, rfl, rfl, rfl, rfl, rfl, rfl, rfl, rfl, rfl, rfl, rfl, rfl, rfl, rfl, rfl, rfl, rfl, rfl, rfl, rfl, rfl, rfl, rfl⟩
set_option maxRecDepth 100000 in
theorem ok_Lw_slotIn : r_Lw_slotIn.all (okRow m_Lw_slotIn.2.2.2.2.1 m_Lw_slotIn.1.cls m_Lw_slotIn.2.1 m_Lw_slotIn.2.2.1 false) = true := by decide +kernel
set_option maxRecDepth 100000 in
theorem in_Lw_slotIn {args : List Value} {h : MH} {K : KT} (nB : Nat) (hnB : nB ≤ h.2.2.2) (hL : cat2 args ≤ m_Lw_slotIn.2.2.1) (hdb : noD args = true) (H : ∀ P : PT, (∀ stops n pc lv st h cn sn, wq m_Lw_slotIn.2.2.2.2.1 m_Lw_slotIn.2.2.2.1 nB (0, fun _ => 0) Ct (tabOf r_Lw_slotIn) K P stops n pc lv st h cn sn → P pc lv st h cn sn) → P 0 (entL args m_Lw_slotIn.2.2.1) [] h 0 0) : Ct m_Lw_slotIn args h K := Ct.intro r_Lw_slotIn false nB (by decide) (by decide) ok_Lw_slotIn hnB hL hdb H
def r_Lw_slotAbout : List Row := [(0, .aload_n 0, 1, 0, 0, 0, 0, 0, 0, [], md0),
  (1, .getfield 39, 3, 239, 3, 7, 0, 0, 0, [], md0),
  (4, .iconst 1, 1, 0, 0, 0, 0, 1, 0, [], md0),
  (5, .isub, 1, 0, 0, 0, 0, 0, 0, [], md0),
  (6, .istore 4, 2, 0, 4, 0, 0, 0, 0, [], md0),
  (8, .iload 4, 2, 0, 4, 0, 0, 0, 0, [], md0),
  (10, .ifCond .lt 37, 3, 0, 47, 0, 0, 0, 0, [], md0),
  (13, .aload_n 0, 1, 0, 0, 0, 0, 0, 0, [], md0),
  (14, .iload 4, 2, 0, 4, 0, 0, 0, 0, [], md0),
  (16, .iload_n 2, 1, 0, 2, 0, 0, 0, 0, [], md0),
  (17, .invokevirtual 43, 3, 525, 3, 0, 0, 0, 0, [], m_Lw_isInForce),
  (20, .ifCond .eq 21, 3, 0, 41, 0, 0, 0, 0, [], md0),
  (23, .aload_n 0, 1, 0, 0, 0, 0, 0, 0, [], md0),
  (24, .iload 4, 2, 0, 4, 0, 0, 0, 0, [], md0),
  (26, .iload_n 1, 1, 0, 1, 0, 0, 0, 0, [], md0),
  (27, .iload_n 3, 1, 0, 3, 0, 0, 0, 0, [], md0),
  (28, .invokevirtual 47, 3, 529, 3, 0, 0, 0, 0, [], m_Lw_slotIn),
  (31, .istore 5, 2, 0, 5, 0, 0, 0, 0, [], md0),
  (33, .iload 5, 2, 0, 5, 0, 0, 0, 0, [], md0),
  (35, .ifCond .lt 6, 3, 0, 41, 0, 0, 0, 0, [], md0),
  (38, .iload 5, 2, 0, 5, 0, 0, 0, 0, [], md0),
  (40, .ireturn, 1, 0, 0, 0, 0, 0, 0, [], md0),
  (41, .iinc 4 (-1), 3, 0, 4, 0, 0, (-1), 0, [], md0),
  (44, .goto (-36), 3, 0, 8, 0, 0, 0, 0, [], md0),
  (47, .iconst (-1), 1, 0, 0, 0, 0, (-1), 0, [], md0),
  (48, .ireturn, 1, 0, 0, 0, 0, 0, 0, [], md0)]
set_option maxRecDepth 100000 in
theorem tb_Lw_slotAbout : tabOf r_Lw_slotAbout 0 = (0, .aload_n 0, 1, 0, 0, 0, 0, 0, 0, [], md0) ∧ tabOf r_Lw_slotAbout 1 = (1, .getfield 39, 3, 239, 3, 7, 0, 0, 0, [], md0) ∧ tabOf r_Lw_slotAbout 4 = (4, .iconst 1, 1, 0, 0, 0, 0, 1, 0, [], md0) ∧ tabOf r_Lw_slotAbout 5 = (5, .isub, 1, 0, 0, 0, 0, 0, 0, [], md0) ∧ tabOf r_Lw_slotAbout 6 = (6, .istore 4, 2, 0, 4, 0, 0, 0, 0, [], md0) ∧ tabOf r_Lw_slotAbout 8 = (8, .iload 4, 2, 0, 4, 0, 0, 0, 0, [], md0) ∧ tabOf r_Lw_slotAbout 10 = (10, .ifCond .lt 37, 3, 0, 47, 0, 0, 0, 0, [], md0) ∧ tabOf r_Lw_slotAbout 13 = (13, .aload_n 0, 1, 0, 0, 0, 0, 0, 0, [], md0) ∧ tabOf r_Lw_slotAbout 14 = (14, .iload 4, 2, 0, 4, 0, 0, 0, 0, [], md0) ∧ tabOf r_Lw_slotAbout 16 = (16, .iload_n 2, 1, 0, 2, 0, 0, 0, 0, [], md0) ∧ tabOf r_Lw_slotAbout 17 = (17, .invokevirtual 43, 3, 525, 3, 0, 0, 0, 0, [], m_Lw_isInForce) ∧ tabOf r_Lw_slotAbout 20 = (20, .ifCond .eq 21, 3, 0, 41, 0, 0, 0, 0, [], md0) ∧ tabOf r_Lw_slotAbout 23 = (23, .aload_n 0, 1, 0, 0, 0, 0, 0, 0, [], md0) ∧ tabOf r_Lw_slotAbout 24 = (24, .iload 4, 2, 0, 4, 0, 0, 0, 0, [], md0) ∧ tabOf r_Lw_slotAbout 26 = (26, .iload_n 1, 1, 0, 1, 0, 0, 0, 0, [], md0) ∧ tabOf r_Lw_slotAbout 27 = (27, .iload_n 3, 1, 0, 3, 0, 0, 0, 0, [], md0) ∧ tabOf r_Lw_slotAbout 28 = (28, .invokevirtual 47, 3, 529, 3, 0, 0, 0, 0, [], m_Lw_slotIn) ∧ tabOf r_Lw_slotAbout 31 = (31, .istore 5, 2, 0, 5, 0, 0, 0, 0, [], md0) ∧ tabOf r_Lw_slotAbout 33 = (33, .iload 5, 2, 0, 5, 0, 0, 0, 0, [], md0) ∧ tabOf r_Lw_slotAbout 35 = (35, .ifCond .lt 6, 3, 0, 41, 0, 0, 0, 0, [], md0) ∧ tabOf r_Lw_slotAbout 38 = (38, .iload 5, 2, 0, 5, 0, 0, 0, 0, [], md0) ∧ tabOf r_Lw_slotAbout 40 = (40, .ireturn, 1, 0, 0, 0, 0, 0, 0, [], md0) ∧ tabOf r_Lw_slotAbout 41 = (41, .iinc 4 (-1), 3, 0, 4, 0, 0, (-1), 0, [], md0) ∧ tabOf r_Lw_slotAbout 44 = (44, .goto (-36), 3, 0, 8, 0, 0, 0, 0, [], md0) ∧ tabOf r_Lw_slotAbout 47 = (47, .iconst (-1), 1, 0, 0, 0, 0, (-1), 0, [], md0) ∧ tabOf r_Lw_slotAbout 48 = (48, .ireturn, 1, 0, 0, 0, 0, 0, 0, [], md0) ∧ m_Lw_slotAbout.2.2.2.2.1.cells = 0 ∧ m_Lw_slotAbout.2.2.2.2.1.slots = 0 ∧ m_Lw_slotAbout.2.2.2.2.1.locals = 25 ∧ m_Lw_slotAbout.2.2.2.1 = some .int ∧ m_Lw_slotAbout.2.2.1 = 6 ∧ m_Lw_isInForce.2.2.2.2.1.cells = 0 ∧ m_Lw_isInForce.2.2.2.2.1.slots = 0 ∧ m_Lw_isInForce.2.2.2.2.2.1 = 2 ∧ m_Lw_slotIn.2.2.2.2.1.cells = 0 ∧ m_Lw_slotIn.2.2.2.2.1.slots = 0 ∧ m_Lw_slotIn.2.2.2.2.2.1 = 3 := ⟨rfl, rfl, rfl, rfl, rfl, rfl, rfl, rfl, rfl, rfl, rfl, rfl, rfl, rfl, rfl, rfl, rfl, rfl, rfl, rfl, rfl, rfl, rfl, rfl, rfl, rfl, rfl, rfl, rfl, rfl, rfl, rfl, rfl, rfl, rfl, rfl, rfl⟩
set_option maxRecDepth 100000 in
theorem ok_Lw_slotAbout : r_Lw_slotAbout.all (okRow m_Lw_slotAbout.2.2.2.2.1 m_Lw_slotAbout.1.cls m_Lw_slotAbout.2.1 m_Lw_slotAbout.2.2.1 false) = true := by decide +kernel
set_option maxRecDepth 100000 in
theorem in_Lw_slotAbout {args : List Value} {h : MH} {K : KT} (nB : Nat) (hnB : nB ≤ h.2.2.2) (hL : cat2 args ≤ m_Lw_slotAbout.2.2.1) (hdb : noD args = true) (H : ∀ P : PT, (∀ stops n pc lv st h cn sn, wq m_Lw_slotAbout.2.2.2.2.1 m_Lw_slotAbout.2.2.2.1 nB (0, fun _ => 0) Ct (tabOf r_Lw_slotAbout) K P stops n pc lv st h cn sn → P pc lv st h cn sn) → P 0 (entL args m_Lw_slotAbout.2.2.1) [] h 0 0) : Ct m_Lw_slotAbout args h K := Ct.intro r_Lw_slotAbout false nB (by decide) (by decide) ok_Lw_slotAbout hnB hL hdb H
def r_Rd_init : List Row := [(0, .aload_n 0, 1, 0, 0, 0, 0, 0, 0, [], md0),
  (1, .invokespecial 3, 3, 316, 0, 5, 0, 0, 0, [], md0),
  (4, .aload_n 0, 1, 0, 0, 0, 0, 0, 0, [], md0),
  (5, .bipush 100, 2, 0, 0, 0, 0, 100, 0, [], md0),
  (7, .newarray .int, 2, 137, 0, 100, 0, 100, 0, [], md0),
  (9, .putfield 11, 3, 317, 4, 0, 2, 0, 0, [], md0),
  (12, .return_, 1, 0, 0, 0, 0, 0, 0, [], md0)]
set_option maxRecDepth 100000 in
theorem tb_Rd_init : tabOf r_Rd_init 0 = (0, .aload_n 0, 1, 0, 0, 0, 0, 0, 0, [], md0) ∧ tabOf r_Rd_init 1 = (1, .invokespecial 3, 3, 316, 0, 5, 0, 0, 0, [], md0) ∧ tabOf r_Rd_init 4 = (4, .aload_n 0, 1, 0, 0, 0, 0, 0, 0, [], md0) ∧ tabOf r_Rd_init 5 = (5, .bipush 100, 2, 0, 0, 0, 0, 100, 0, [], md0) ∧ tabOf r_Rd_init 7 = (7, .newarray .int, 2, 137, 0, 100, 0, 100, 0, [], md0) ∧ tabOf r_Rd_init 9 = (9, .putfield 11, 3, 317, 4, 0, 2, 0, 0, [], md0) ∧ tabOf r_Rd_init 12 = (12, .return_, 1, 0, 0, 0, 0, 0, 0, [], md0) ∧ m_Rd_init.2.2.2.2.1.cells = 1 ∧ m_Rd_init.2.2.2.2.1.slots = 100 ∧ m_Rd_init.2.2.2.2.1.locals = 20 ∧ m_Rd_init.2.2.2.1 = none ∧ m_Rd_init.2.2.1 = 1 := ⟨rfl, rfl, rfl, rfl, rfl, rfl, rfl, rfl, rfl, rfl, rfl, rfl⟩
set_option maxRecDepth 100000 in
theorem ok_Rd_init : r_Rd_init.all (okRow m_Rd_init.2.2.2.2.1 m_Rd_init.1.cls m_Rd_init.2.1 m_Rd_init.2.2.1 true) = true := by decide +kernel
set_option maxRecDepth 100000 in
theorem in_Rd_init {args : List Value} {h : MH} {K : KT} (nB : Nat) (hnB : nB ≤ h.2.2.2) (hL : cat2 args ≤ m_Rd_init.2.2.1) (hdb : noD args = true) (H : ∀ P : PT, (∀ stops n pc lv st h cn sn, wq m_Rd_init.2.2.2.2.1 m_Rd_init.2.2.2.1 nB (0, fun _ => 0) Ct (tabOf r_Rd_init) K P stops n pc lv st h cn sn → P pc lv st h cn sn) → P 0 (entL args m_Rd_init.2.2.1) [] h 0 0) : Ct m_Rd_init args h K := Ct.intro r_Rd_init true nB (by decide) (by decide) ok_Rd_init hnB hL hdb H
def r_Rd_append : List Row := [(0, .iload_n 2, 1, 0, 2, 0, 0, 0, 0, [], md0),
  (1, .iconst 1, 1, 0, 0, 0, 0, 1, 0, [], md0),
  (2, .isub, 1, 0, 0, 0, 0, 0, 0, [], md0),
  (3, .istore_n 3, 1, 0, 3, 0, 0, 0, 0, [], md0),
  (4, .iload_n 3, 1, 0, 3, 0, 0, 0, 0, [], md0),
  (5, .ifCond .lt 38, 3, 0, 43, 0, 0, 0, 0, [], md0),
  (8, .aload_n 0, 1, 0, 0, 0, 0, 0, 0, [], md0),
  (9, .getfield 11, 3, 317, 4, 0, 2, 0, 0, [], md0),
  (12, .aload_n 0, 1, 0, 0, 0, 0, 0, 0, [], md0),
  (13, .getfield 15, 3, 318, 4, 1, 0, 0, 0, [], md0),
  (16, .iload_n 1, 1, 0, 1, 0, 0, 0, 0, [], md0),
  (17, .bipush 8, 2, 0, 0, 0, 0, 8, 0, [], md0),
  (19, .iload_n 3, 1, 0, 3, 0, 0, 0, 0, [], md0),
  (20, .imul, 1, 0, 0, 0, 0, 0, 0, [], md0),
  (21, .iushr, 1, 0, 0, 0, 0, 0, 0, [], md0),
  (22, .sipush 255, 3, 0, 0, 0, 0, 255, 0, [], md0),
  (25, .iand, 1, 0, 0, 0, 0, 0, 0, [], md0),
  (26, .iastore, 1, 0, 0, 0, 0, 0, 0, [], md0),
  (27, .aload_n 0, 1, 0, 0, 0, 0, 0, 0, [], md0),
  (28, .dup, 1, 0, 0, 0, 0, 0, 0, [], md0),
  (29, .getfield 15, 3, 318, 4, 1, 0, 0, 0, [], md0),
  (32, .iconst 1, 1, 0, 0, 0, 0, 1, 0, [], md0),
  (33, .iadd, 1, 0, 0, 0, 0, 0, 0, [], md0),
  (34, .putfield 15, 3, 318, 4, 1, 0, 0, 0, [], md0),
  (37, .iinc 3 (-1), 3, 0, 3, 0, 0, (-1), 0, [], md0),
  (40, .goto (-36), 3, 0, 4, 0, 0, 0, 0, [], md0),
  (43, .aload_n 0, 1, 0, 0, 0, 0, 0, 0, [], md0),
  (44, .getfield 15, 3, 318, 4, 1, 0, 0, 0, [], md0),
  (47, .ireturn, 1, 0, 0, 0, 0, 0, 0, [], md0)]
set_option maxRecDepth 100000 in
theorem tb_Rd_append : tabOf r_Rd_append 0 = (0, .iload_n 2, 1, 0, 2, 0, 0, 0, 0, [], md0) ∧ tabOf r_Rd_append 1 = (1, .iconst 1, 1, 0, 0, 0, 0, 1, 0, [], md0) ∧ tabOf r_Rd_append 2 = (2, .isub, 1, 0, 0, 0, 0, 0, 0, [], md0) ∧ tabOf r_Rd_append 3 = (3, .istore_n 3, 1, 0, 3, 0, 0, 0, 0, [], md0) ∧ tabOf r_Rd_append 4 = (4, .iload_n 3, 1, 0, 3, 0, 0, 0, 0, [], md0) ∧ tabOf r_Rd_append 5 = (5, .ifCond .lt 38, 3, 0, 43, 0, 0, 0, 0, [], md0) ∧ tabOf r_Rd_append 8 = (8, .aload_n 0, 1, 0, 0, 0, 0, 0, 0, [], md0) ∧ tabOf r_Rd_append 9 = (9, .getfield 11, 3, 317, 4, 0, 2, 0, 0, [], md0) ∧ tabOf r_Rd_append 12 = (12, .aload_n 0, 1, 0, 0, 0, 0, 0, 0, [], md0) ∧ tabOf r_Rd_append 13 = (13, .getfield 15, 3, 318, 4, 1, 0, 0, 0, [], md0) ∧ tabOf r_Rd_append 16 = (16, .iload_n 1, 1, 0, 1, 0, 0, 0, 0, [], md0) ∧ tabOf r_Rd_append 17 = (17, .bipush 8, 2, 0, 0, 0, 0, 8, 0, [], md0) ∧ tabOf r_Rd_append 19 = (19, .iload_n 3, 1, 0, 3, 0, 0, 0, 0, [], md0) ∧ tabOf r_Rd_append 20 = (20, .imul, 1, 0, 0, 0, 0, 0, 0, [], md0) ∧ tabOf r_Rd_append 21 = (21, .iushr, 1, 0, 0, 0, 0, 0, 0, [], md0) ∧ tabOf r_Rd_append 22 = (22, .sipush 255, 3, 0, 0, 0, 0, 255, 0, [], md0) ∧ tabOf r_Rd_append 25 = (25, .iand, 1, 0, 0, 0, 0, 0, 0, [], md0) ∧ tabOf r_Rd_append 26 = (26, .iastore, 1, 0, 0, 0, 0, 0, 0, [], md0) ∧ tabOf r_Rd_append 27 = (27, .aload_n 0, 1, 0, 0, 0, 0, 0, 0, [], md0) ∧ tabOf r_Rd_append 28 = (28, .dup, 1, 0, 0, 0, 0, 0, 0, [], md0) ∧ tabOf r_Rd_append 29 = (29, .getfield 15, 3, 318, 4, 1, 0, 0, 0, [], md0) ∧ tabOf r_Rd_append 32 = (32, .iconst 1, 1, 0, 0, 0, 0, 1, 0, [], md0) ∧ tabOf r_Rd_append 33 = (33, .iadd, 1, 0, 0, 0, 0, 0, 0, [], md0) ∧ tabOf r_Rd_append 34 = (34, .putfield 15, 3, 318, 4, 1, 0, 0, 0, [], md0) ∧ tabOf r_Rd_append 37 = (37, .iinc 3 (-1), 3, 0, 3, 0, 0, (-1), 0, [], md0) ∧ tabOf r_Rd_append 40 = (40, .goto (-36), 3, 0, 4, 0, 0, 0, 0, [], md0) ∧ tabOf r_Rd_append 43 = (43, .aload_n 0, 1, 0, 0, 0, 0, 0, 0, [], md0) ∧ tabOf r_Rd_append 44 = (44, .getfield 15, 3, 318, 4, 1, 0, 0, 0, [], md0) ∧ tabOf r_Rd_append 47 = (47, .ireturn, 1, 0, 0, 0, 0, 0, 0, [], md0) ∧ m_Rd_append.2.2.2.2.1.cells = 0 ∧ m_Rd_append.2.2.2.2.1.slots = 0 ∧ m_Rd_append.2.2.2.2.1.locals = 0 ∧ m_Rd_append.2.2.2.1 = some .int ∧ m_Rd_append.2.2.1 = 4 := ⟨rfl, rfl, rfl, rfl, rfl, rfl, rfl, rfl, rfl, rfl, rfl, rfl, rfl, rfl, rfl, rfl, rfl, rfl, rfl, rfl, rfl, rfl, rfl, rfl, rfl, rfl, rfl, rfl, rfl, rfl, rfl, rfl, rfl, rfl⟩
set_option maxRecDepth 100000 in
theorem ok_Rd_append : r_Rd_append.all (okRow m_Rd_append.2.2.2.2.1 m_Rd_append.1.cls m_Rd_append.2.1 m_Rd_append.2.2.1 false) = true := by decide +kernel
set_option maxRecDepth 100000 in
theorem in_Rd_append {args : List Value} {h : MH} {K : KT} (nB : Nat) (hnB : nB ≤ h.2.2.2) (hL : cat2 args ≤ m_Rd_append.2.2.1) (hdb : noD args = true) (H : ∀ P : PT, (∀ stops n pc lv st h cn sn, wq m_Rd_append.2.2.2.2.1 m_Rd_append.2.2.2.1 nB (0, fun _ => 0) Ct (tabOf r_Rd_append) K P stops n pc lv st h cn sn → P pc lv st h cn sn) → P 0 (entL args m_Rd_append.2.2.1) [] h 0 0) : Ct m_Rd_append args h K := Ct.intro r_Rd_append false nB (by decide) (by decide) ok_Rd_append hnB hL hdb H
def r_Rd_sign : List Row := [(0, .aload_n 0, 1, 0, 0, 0, 0, 0, 0, [], md0),
  (1, .getfield 19, 3, 320, 4, 2, 0, 0, 0, [], md0),
  (4, .aload_n 0, 1, 0, 0, 0, 0, 0, 0, [], md0),
  (5, .getfield 15, 3, 318, 4, 1, 0, 0, 0, [], md0),
  (8, .if_icmp .ge 15, 3, 0, 23, 0, 0, 0, 0, [], md0),
  (11, .aload_n 0, 1, 0, 0, 0, 0, 0, 0, [], md0),
  (12, .getfield 11, 3, 317, 4, 0, 2, 0, 0, [], md0),
  (15, .aload_n 0, 1, 0, 0, 0, 0, 0, 0, [], md0),
  (16, .getfield 19, 3, 320, 4, 2, 0, 0, 0, [], md0),
  (19, .iaload, 1, 0, 0, 0, 0, 0, 0, [], md0),
  (20, .goto 4, 3, 0, 24, 0, 0, 0, 0, [], md0),
  (23, .iconst (-1), 1, 0, 0, 0, 0, (-1), 0, [], md0),
  (24, .ireturn, 1, 0, 0, 0, 0, 0, 0, [], md0)]
set_option maxRecDepth 100000 in
theorem tb_Rd_sign : tabOf r_Rd_sign 0 = (0, .aload_n 0, 1, 0, 0, 0, 0, 0, 0, [], md0) ∧ tabOf r_Rd_sign 1 = (1, .getfield 19, 3, 320, 4, 2, 0, 0, 0, [], md0) ∧ tabOf r_Rd_sign 4 = (4, .aload_n 0, 1, 0, 0, 0, 0, 0, 0, [], md0) ∧ tabOf r_Rd_sign 5 = (5, .getfield 15, 3, 318, 4, 1, 0, 0, 0, [], md0) ∧ tabOf r_Rd_sign 8 = (8, .if_icmp .ge 15, 3, 0, 23, 0, 0, 0, 0, [], md0) ∧ tabOf r_Rd_sign 11 = (11, .aload_n 0, 1, 0, 0, 0, 0, 0, 0, [], md0) ∧ tabOf r_Rd_sign 12 = (12, .getfield 11, 3, 317, 4, 0, 2, 0, 0, [], md0) ∧ tabOf r_Rd_sign 15 = (15, .aload_n 0, 1, 0, 0, 0, 0, 0, 0, [], md0) ∧ tabOf r_Rd_sign 16 = (16, .getfield 19, 3, 320, 4, 2, 0, 0, 0, [], md0) ∧ tabOf r_Rd_sign 19 = (19, .iaload, 1, 0, 0, 0, 0, 0, 0, [], md0) ∧ tabOf r_Rd_sign 20 = (20, .goto 4, 3, 0, 24, 0, 0, 0, 0, [], md0) ∧ tabOf r_Rd_sign 23 = (23, .iconst (-1), 1, 0, 0, 0, 0, (-1), 0, [], md0) ∧ tabOf r_Rd_sign 24 = (24, .ireturn, 1, 0, 0, 0, 0, 0, 0, [], md0) ∧ m_Rd_sign.2.2.2.2.1.cells = 0 ∧ m_Rd_sign.2.2.2.2.1.slots = 0 ∧ m_Rd_sign.2.2.2.2.1.locals = 0 ∧ m_Rd_sign.2.2.2.1 = some .int ∧ m_Rd_sign.2.2.1 = 1 := ⟨rfl, rfl, rfl, rfl, rfl, rfl, rfl, rfl, rfl, rfl, rfl, rfl, rfl, rfl, rfl, rfl, rfl, rfl⟩
set_option maxRecDepth 100000 in
theorem ok_Rd_sign : r_Rd_sign.all (okRow m_Rd_sign.2.2.2.2.1 m_Rd_sign.1.cls m_Rd_sign.2.1 m_Rd_sign.2.2.1 false) = true := by decide +kernel
set_option maxRecDepth 100000 in
theorem in_Rd_sign {args : List Value} {h : MH} {K : KT} (nB : Nat) (hnB : nB ≤ h.2.2.2) (hL : cat2 args ≤ m_Rd_sign.2.2.1) (hdb : noD args = true) (H : ∀ P : PT, (∀ stops n pc lv st h cn sn, wq m_Rd_sign.2.2.2.2.1 m_Rd_sign.2.2.2.1 nB (0, fun _ => 0) Ct (tabOf r_Rd_sign) K P stops n pc lv st h cn sn → P pc lv st h cn sn) → P 0 (entL args m_Rd_sign.2.2.1) [] h 0 0) : Ct m_Rd_sign args h K := Ct.intro r_Rd_sign false nB (by decide) (by decide) ok_Rd_sign hnB hL hdb H
def r_Rd_readWord : List Row := [(0, .iconst 0, 1, 0, 0, 0, 0, 0, 0, [], md0),
  (1, .istore_n 2, 1, 0, 2, 0, 0, 0, 0, [], md0),
  (2, .iload_n 2, 1, 0, 2, 0, 0, 0, 0, [], md0),
  (3, .aload_n 1, 1, 0, 1, 0, 0, 0, 0, [], md0),
  (4, .invokevirtual 98, 3, 760, 0, 3, 0, 0, 0, [], m_St_length),
  (7, .if_icmp .ge 33, 3, 0, 40, 0, 0, 0, 0, [], md0),
  (10, .aload_n 0, 1, 0, 0, 0, 0, 0, 0, [], md0),
  (11, .invokevirtual 34, 3, 747, 4, 0, 0, 0, 0, [], m_Rd_sign),
  (14, .aload_n 1, 1, 0, 1, 0, 0, 0, 0, [], md0),
  (15, .iload_n 2, 1, 0, 2, 0, 0, 0, 0, [], md0),
  (16, .invokevirtual 102, 3, 770, 0, 3, 0, 0, 0, [], m_St_charAt),
  (19, .if_icmp .eq 5, 3, 0, 24, 0, 0, 0, 0, [], md0),
  (22, .iconst 0, 1, 0, 0, 0, 0, 0, 0, [], md0),
  (23, .ireturn, 1, 0, 0, 0, 0, 0, 0, [], md0),
  (24, .aload_n 0, 1, 0, 0, 0, 0, 0, 0, [], md0),
  (25, .dup, 1, 0, 0, 0, 0, 0, 0, [], md0),
  (26, .getfield 19, 3, 320, 4, 2, 0, 0, 0, [], md0),
  (29, .iconst 1, 1, 0, 0, 0, 0, 1, 0, [], md0),
  (30, .iadd, 1, 0, 0, 0, 0, 0, 0, [], md0),
  (31, .putfield 19, 3, 320, 4, 2, 0, 0, 0, [], md0),
  (34, .iinc 2 1, 3, 0, 2, 0, 0, 1, 0, [], md0),
  (37, .goto (-35), 3, 0, 2, 0, 0, 0, 0, [], md0),
  (40, .iconst 1, 1, 0, 0, 0, 0, 1, 0, [], md0),
  (41, .ireturn, 1, 0, 0, 0, 0, 0, 0, [], md0)]
set_option maxRecDepth 100000 in
theorem tb_Rd_readWord : tabOf r_Rd_readWord 0 = (0, .iconst 0, 1, 0, 0, 0, 0, 0, 0, [], md0) ∧ tabOf r_Rd_readWord 1 = (1, .istore_n 2, 1, 0, 2, 0, 0, 0, 0, [], md0) ∧ tabOf r_Rd_readWord 2 = (2, .iload_n 2, 1, 0, 2, 0, 0, 0, 0, [], md0) ∧ tabOf r_Rd_readWord 3 = (3, .aload_n 1, 1, 0, 1, 0, 0, 0, 0, [], md0) ∧ tabOf r_Rd_readWord 4 = (4, .invokevirtual 98, 3, 760, 0, 3, 0, 0, 0, [], m_St_length) ∧ tabOf r_Rd_readWord 7 = (7, .if_icmp .ge 33, 3, 0, 40, 0, 0, 0, 0, [], md0) ∧ tabOf r_Rd_readWord 10 = (10, .aload_n 0, 1, 0, 0, 0, 0, 0, 0, [], md0) ∧ tabOf r_Rd_readWord 11 = (11, .invokevirtual 34, 3, 747, 4, 0, 0, 0, 0, [], m_Rd_sign) ∧ tabOf r_Rd_readWord 14 = (14, .aload_n 1, 1, 0, 1, 0, 0, 0, 0, [], md0) ∧ tabOf r_Rd_readWord 15 = (15, .iload_n 2, 1, 0, 2, 0, 0, 0, 0, [], md0) ∧ tabOf r_Rd_readWord 16 = (16, .invokevirtual 102, 3, 770, 0, 3, 0, 0, 0, [], m_St_charAt) ∧ tabOf r_Rd_readWord 19 = (19, .if_icmp .eq 5, 3, 0, 24, 0, 0, 0, 0, [], md0) ∧ tabOf r_Rd_readWord 22 = (22, .iconst 0, 1, 0, 0, 0, 0, 0, 0, [], md0) ∧ tabOf r_Rd_readWord 23 = (23, .ireturn, 1, 0, 0, 0, 0, 0, 0, [], md0) ∧ tabOf r_Rd_readWord 24 = (24, .aload_n 0, 1, 0, 0, 0, 0, 0, 0, [], md0) ∧ tabOf r_Rd_readWord 25 = (25, .dup, 1, 0, 0, 0, 0, 0, 0, [], md0) ∧ tabOf r_Rd_readWord 26 = (26, .getfield 19, 3, 320, 4, 2, 0, 0, 0, [], md0) ∧ tabOf r_Rd_readWord 29 = (29, .iconst 1, 1, 0, 0, 0, 0, 1, 0, [], md0) ∧ tabOf r_Rd_readWord 30 = (30, .iadd, 1, 0, 0, 0, 0, 0, 0, [], md0) ∧ tabOf r_Rd_readWord 31 = (31, .putfield 19, 3, 320, 4, 2, 0, 0, 0, [], md0) ∧ tabOf r_Rd_readWord 34 = (34, .iinc 2 1, 3, 0, 2, 0, 0, 1, 0, [], md0) ∧ tabOf r_Rd_readWord 37 = (37, .goto (-35), 3, 0, 2, 0, 0, 0, 0, [], md0) ∧ tabOf r_Rd_readWord 40 = (40, .iconst 1, 1, 0, 0, 0, 0, 1, 0, [], md0) ∧ tabOf r_Rd_readWord 41 = (41, .ireturn, 1, 0, 0, 0, 0, 0, 0, [], md0) ∧ m_Rd_readWord.2.2.2.2.1.cells = 0 ∧ m_Rd_readWord.2.2.2.2.1.slots = 0 ∧ m_Rd_readWord.2.2.2.2.1.locals = 106 ∧ m_Rd_readWord.2.2.2.1 = some .boolean ∧ m_Rd_readWord.2.2.1 = 3 ∧ m_St_length.2.2.2.2.1.cells = 0 ∧ m_St_length.2.2.2.2.1.slots = 0 ∧ m_St_length.2.2.2.2.2.1 = 0 ∧ m_Rd_sign.2.2.2.2.1.cells = 0 ∧ m_Rd_sign.2.2.2.2.1.slots = 0 ∧ m_Rd_sign.2.2.2.2.2.1 = 0 ∧ m_St_charAt.2.2.2.2.1.cells = 0 ∧ m_St_charAt.2.2.2.2.1.slots = 0 ∧ m_St_charAt.2.2.2.2.2.1 = 1 := ⟨rfl, rfl, rfl, rfl, rfl, rfl, rfl, rfl, rfl, rfl, rfl, rfl, rfl, rfl, rfl, rfl, rfl, rfl, rfl, rfl, rfl, rfl, rfl, rfl, rfl, rfl, rfl, rfl, rfl, rfl, rfl, rfl, rfl, rfl, rfl, rfl, rfl, rfl⟩
set_option maxRecDepth 100000 in
theorem ok_Rd_readWord : r_Rd_readWord.all (okRow m_Rd_readWord.2.2.2.2.1 m_Rd_readWord.1.cls m_Rd_readWord.2.1 m_Rd_readWord.2.2.1 false) = true := by decide +kernel
set_option maxRecDepth 100000 in
theorem in_Rd_readWord {args : List Value} {h : MH} {K : KT} (nB : Nat) (hnB : nB ≤ h.2.2.2) (hL : cat2 args ≤ m_Rd_readWord.2.2.1) (hdb : noD args = true) (H : ∀ P : PT, (∀ stops n pc lv st h cn sn, wq m_Rd_readWord.2.2.2.2.1 m_Rd_readWord.2.2.2.1 nB (0, fun _ => 0) Ct (tabOf r_Rd_readWord) K P stops n pc lv st h cn sn → P pc lv st h cn sn) → P 0 (entL args m_Rd_readWord.2.2.1) [] h 0 0) : Ct m_Rd_readWord args h K := Ct.intro r_Rd_readWord false nB (by decide) (by decide) ok_Rd_readWord hnB hL hdb H
def r_Rd_readSource : List Row := [(0, .aload_n 0, 1, 0, 0, 0, 0, 0, 0, [], md0),
  (1, .ldc 50, 2, 755, 0, 1, 0, 0, 0, [], md0),
  (3, .invokevirtual 52, 3, 756, 4, 0, 0, 0, 0, [], m_Rd_readWord),
  (6, .ifCond .ne 5, 3, 0, 11, 0, 0, 0, 0, [], md0),
  (9, .iconst 0, 1, 0, 0, 0, 0, 0, 0, [], md0),
  (10, .ireturn, 1, 0, 0, 0, 0, 0, 0, [], md0),
  (11, .aload_n 1, 1, 0, 1, 0, 0, 0, 0, [], md0),
  (12, .getfield 56, 3, 231, 3, 3, 2, 0, 0, [], md0),
  (15, .iload_n 2, 1, 0, 2, 0, 0, 0, 0, [], md0),
  (16, .iconst (-1), 1, 0, 0, 0, 0, (-1), 0, [], md0),
  (17, .iastore, 1, 0, 0, 0, 0, 0, 0, [], md0),
  (18, .aload_n 0, 1, 0, 0, 0, 0, 0, 0, [], md0),
  (19, .invokevirtual 34, 3, 747, 4, 0, 0, 0, 0, [], m_Rd_sign),
  (22, .lookupswitch 76 #[(104, 62), (108, 34), (109, 48)], 34, 0, 98, 0, 0, 0, 0, [(104, 84), (108, 56), (109, 70)], md0),
  (56, .aload_n 1, 1, 0, 1, 0, 0, 0, 0, [], md0),
  (57, .getfield 59, 3, 233, 3, 4, 2, 0, 0, [], md0),
  (60, .iload_n 2, 1, 0, 2, 0, 0, 0, 0, [], md0),
  (61, .iconst 0, 1, 0, 0, 0, 0, 0, 0, [], md0),
  (62, .iastore, 1, 0, 0, 0, 0, 0, 0, [], md0),
  (63, .aload_n 0, 1, 0, 0, 0, 0, 0, 0, [], md0),
  (64, .ldc 62, 2, 808, 1, 1, 0, 0, 0, [], md0),
  (66, .invokevirtual 52, 3, 756, 4, 0, 0, 0, 0, [], m_Rd_readWord),
  (69, .ireturn, 1, 0, 0, 0, 0, 0, 0, [], md0),
  (70, .aload_n 1, 1, 0, 1, 0, 0, 0, 0, [], md0),
  (71, .getfield 59, 3, 233, 3, 4, 2, 0, 0, [], md0),
  (74, .iload_n 2, 1, 0, 2, 0, 0, 0, 0, [], md0),
  (75, .iconst 1, 1, 0, 0, 0, 0, 1, 0, [], md0),
  (76, .iastore, 1, 0, 0, 0, 0, 0, 0, [], md0),
  (77, .aload_n 0, 1, 0, 0, 0, 0, 0, 0, [], md0),
  (78, .ldc 64, 2, 809, 2, 1, 0, 0, 0, [], md0),
  (80, .invokevirtual 52, 3, 756, 4, 0, 0, 0, 0, [], m_Rd_readWord),
  (83, .ireturn, 1, 0, 0, 0, 0, 0, 0, [], md0),
  (84, .aload_n 1, 1, 0, 1, 0, 0, 0, 0, [], md0),
  (85, .getfield 59, 3, 233, 3, 4, 2, 0, 0, [], md0),
  (88, .iload_n 2, 1, 0, 2, 0, 0, 0, 0, [], md0),
  (89, .iconst 2, 1, 0, 0, 0, 0, 2, 0, [], md0),
  (90, .iastore, 1, 0, 0, 0, 0, 0, 0, [], md0),
  (91, .aload_n 0, 1, 0, 0, 0, 0, 0, 0, [], md0),
  (92, .ldc 66, 2, 810, 3, 1, 0, 0, 0, [], md0),
  (94, .invokevirtual 52, 3, 756, 4, 0, 0, 0, 0, [], m_Rd_readWord),
  (97, .ireturn, 1, 0, 0, 0, 0, 0, 0, [], md0),
  (98, .iconst 0, 1, 0, 0, 0, 0, 0, 0, [], md0),
  (99, .ireturn, 1, 0, 0, 0, 0, 0, 0, [], md0)]
set_option maxRecDepth 100000 in
theorem tb_Rd_readSource : tabOf r_Rd_readSource 0 = (0, .aload_n 0, 1, 0, 0, 0, 0, 0, 0, [], md0) ∧ tabOf r_Rd_readSource 1 = (1, .ldc 50, 2, 755, 0, 1, 0, 0, 0, [], md0) ∧ tabOf r_Rd_readSource 3 = (3, .invokevirtual 52, 3, 756, 4, 0, 0, 0, 0, [], m_Rd_readWord) ∧ tabOf r_Rd_readSource 6 = (6, .ifCond .ne 5, 3, 0, 11, 0, 0, 0, 0, [], md0) ∧ tabOf r_Rd_readSource 9 = (9, .iconst 0, 1, 0, 0, 0, 0, 0, 0, [], md0) ∧ tabOf r_Rd_readSource 10 = (10, .ireturn, 1, 0, 0, 0, 0, 0, 0, [], md0) ∧ tabOf r_Rd_readSource 11 = (11, .aload_n 1, 1, 0, 1, 0, 0, 0, 0, [], md0) ∧ tabOf r_Rd_readSource 12 = (12, .getfield 56, 3, 231, 3, 3, 2, 0, 0, [], md0) ∧ tabOf r_Rd_readSource 15 = (15, .iload_n 2, 1, 0, 2, 0, 0, 0, 0, [], md0) ∧ tabOf r_Rd_readSource 16 = (16, .iconst (-1), 1, 0, 0, 0, 0, (-1), 0, [], md0) ∧ tabOf r_Rd_readSource 17 = (17, .iastore, 1, 0, 0, 0, 0, 0, 0, [], md0) ∧ tabOf r_Rd_readSource 18 = (18, .aload_n 0, 1, 0, 0, 0, 0, 0, 0, [], md0) ∧ tabOf r_Rd_readSource 19 = (19, .invokevirtual 34, 3, 747, 4, 0, 0, 0, 0, [], m_Rd_sign) ∧ tabOf r_Rd_readSource 22 = (22, .lookupswitch 76 #[(104, 62), (108, 34), (109, 48)], 34, 0, 98, 0, 0, 0, 0, [(104, 84), (108, 56), (109, 70)], md0) ∧ tabOf r_Rd_readSource 56 = (56, .aload_n 1, 1, 0, 1, 0, 0, 0, 0, [], md0) ∧ tabOf r_Rd_readSource 57 = (57, .getfield 59, 3, 233, 3, 4, 2, 0, 0, [], md0) ∧ tabOf r_Rd_readSource 60 = (60, .iload_n 2, 1, 0, 2, 0, 0, 0, 0, [], md0) ∧ tabOf r_Rd_readSource 61 = (61, .iconst 0, 1, 0, 0, 0, 0, 0, 0, [], md0) ∧ tabOf r_Rd_readSource 62 = (62, .iastore, 1, 0, 0, 0, 0, 0, 0, [], md0) ∧ tabOf r_Rd_readSource 63 = (63, .aload_n 0, 1, 0, 0, 0, 0, 0, 0, [], md0) ∧ tabOf r_Rd_readSource 64 = (64, .ldc 62, 2, 808, 1, 1, 0, 0, 0, [], md0) ∧ tabOf r_Rd_readSource 66 = (66, .invokevirtual 52, 3, 756, 4, 0, 0, 0, 0, [], m_Rd_readWord) ∧ tabOf r_Rd_readSource 69 = (69, .ireturn, 1, 0, 0, 0, 0, 0, 0, [], md0) ∧ tabOf r_Rd_readSource 70 = (70, .aload_n 1, 1, 0, 1, 0, 0, 0, 0, [], md0) ∧ tabOf r_Rd_readSource 71 = (71, .getfield 59, 3, 233, 3, 4, 2, 0, 0, [], md0) ∧ tabOf r_Rd_readSource 74 = (74, .iload_n 2, 1, 0, 2, 0, 0, 0, 0, [], md0) ∧ tabOf r_Rd_readSource 75 = (75, .iconst 1, 1, 0, 0, 0, 0, 1, 0, [], md0) ∧ tabOf r_Rd_readSource 76 = (76, .iastore, 1, 0, 0, 0, 0, 0, 0, [], md0) ∧ tabOf r_Rd_readSource 77 = (77, .aload_n 0, 1, 0, 0, 0, 0, 0, 0, [], md0) ∧ tabOf r_Rd_readSource 78 = (78, .ldc 64, 2, 809, 2, 1, 0, 0, 0, [], md0) ∧ tabOf r_Rd_readSource 80 = (80, .invokevirtual 52, 3, 756, 4, 0, 0, 0, 0, [], m_Rd_readWord) ∧ tabOf r_Rd_readSource 83 = (83, .ireturn, 1, 0, 0, 0, 0, 0, 0, [], md0) ∧ tabOf r_Rd_readSource 84 = (84, .aload_n 1, 1, 0, 1, 0, 0, 0, 0, [], md0) ∧ tabOf r_Rd_readSource 85 = (85, .getfield 59, 3, 233, 3, 4, 2, 0, 0, [], md0) ∧ tabOf r_Rd_readSource 88 = (88, .iload_n 2, 1, 0, 2, 0, 0, 0, 0, [], md0) ∧ tabOf r_Rd_readSource 89 = (89, .iconst 2, 1, 0, 0, 0, 0, 2, 0, [], md0) ∧ tabOf r_Rd_readSource 90 = (90, .iastore, 1, 0, 0, 0, 0, 0, 0, [], md0) ∧ tabOf r_Rd_readSource 91 = (91, .aload_n 0, 1, 0, 0, 0, 0, 0, 0, [], md0) ∧ tabOf r_Rd_readSource 92 = (92, .ldc 66, 2, 810, 3, 1, 0, 0, 0, [], md0) ∧ tabOf r_Rd_readSource 94 = (94, .invokevirtual 52, 3, 756, 4, 0, 0, 0, 0, [], m_Rd_readWord) ∧ tabOf r_Rd_readSource 97 = (97, .ireturn, 1, 0, 0, 0, 0, 0, 0, [], md0) ∧ tabOf r_Rd_readSource 98 = (98, .iconst 0, 1, 0, 0, 0, 0, 0, 0, [], md0) ∧ tabOf r_Rd_readSource 99 = (99, .ireturn, 1, 0, 0, 0, 0, 0, 0, [], md0) ∧ m_Rd_readSource.2.2.2.2.1.cells = 0 ∧ m_Rd_readSource.2.2.2.2.1.slots = 0 ∧ m_Rd_readSource.2.2.2.2.1.locals = 128 ∧ m_Rd_readSource.2.2.2.1 = some .boolean ∧ m_Rd_readSource.2.2.1 = 3 ∧ m_Rd_readWord.2.2.2.2.1.cells = 0 ∧ m_Rd_readWord.2.2.2.2.1.slots = 0 ∧ m_Rd_readWord.2.2.2.2.2.1 = 1 ∧ m_Rd_sign.2.2.2.2.1.cells = 0 ∧ m_Rd_sign.2.2.2.2.1.slots = 0 ∧ m_Rd_sign.2.2.2.2.2.1 = 0 := ⟨rfl, rfl, rfl, rfl, rfl, rfl, rfl, rfl, rfl, rfl, rfl, rfl, rfl, rfl, rfl, rfl, rfl, rfl, rfl, rfl, rfl, rfl, rfl, rfl, rfl, rfl, rfl, rfl, rfl, rfl, rfl, rfl, rfl, rfl, rfl, rfl, rfl, rfl, rfl, rfl, rfl, rfl, rfl, rfl, rfl, rfl, rfl, rfl, rfl, rfl, rfl, rfl, rfl, rfl⟩
set_option maxRecDepth 100000 in
theorem ok_Rd_readSource : r_Rd_readSource.all (okRow m_Rd_readSource.2.2.2.2.1 m_Rd_readSource.1.cls m_Rd_readSource.2.1 m_Rd_readSource.2.2.1 false) = true := by decide +kernel
set_option maxRecDepth 100000 in
theorem in_Rd_readSource {args : List Value} {h : MH} {K : KT} (nB : Nat) (hnB : nB ≤ h.2.2.2) (hL : cat2 args ≤ m_Rd_readSource.2.2.1) (hdb : noD args = true) (H : ∀ P : PT, (∀ stops n pc lv st h cn sn, wq m_Rd_readSource.2.2.2.2.1 m_Rd_readSource.2.2.2.1 nB (0, fun _ => 0) Ct (tabOf r_Rd_readSource) K P stops n pc lv st h cn sn → P pc lv st h cn sn) → P 0 (entL args m_Rd_readSource.2.2.1) [] h 0 0) : Ct m_Rd_readSource args h K := Ct.intro r_Rd_readSource false nB (by decide) (by decide) ok_Rd_readSource hnB hL hdb H
def r_Rh_within : List Row := [(0, .iload_n 0, 1, 0, 0, 0, 0, 0, 0, [], md0),
  (1, .ifCond .lt 12, 3, 0, 13, 0, 0, 0, 0, [], md0),
  (4, .iload_n 0, 1, 0, 0, 0, 0, 0, 0, [], md0),
  (5, .iload_n 1, 1, 0, 1, 0, 0, 0, 0, [], md0),
  (6, .if_icmp .gt 7, 3, 0, 13, 0, 0, 0, 0, [], md0),
  (9, .iconst 1, 1, 0, 0, 0, 0, 1, 0, [], md0),
  (10, .goto 4, 3, 0, 14, 0, 0, 0, 0, [], md0),
  (13, .iconst 0, 1, 0, 0, 0, 0, 0, 0, [], md0),
  (14, .ireturn, 1, 0, 0, 0, 0, 0, 0, [], md0)]
set_option maxRecDepth 100000 in
theorem tb_Rh_within : tabOf r_Rh_within 0 = (0, .iload_n 0, 1, 0, 0, 0, 0, 0, 0, [], md0) ∧ tabOf r_Rh_within 1 = (1, .ifCond .lt 12, 3, 0, 13, 0, 0, 0, 0, [], md0) ∧ tabOf r_Rh_within 4 = (4, .iload_n 0, 1, 0, 0, 0, 0, 0, 0, [], md0) ∧ tabOf r_Rh_within 5 = (5, .iload_n 1, 1, 0, 1, 0, 0, 0, 0, [], md0) ∧ tabOf r_Rh_within 6 = (6, .if_icmp .gt 7, 3, 0, 13, 0, 0, 0, 0, [], md0) ∧ tabOf r_Rh_within 9 = (9, .iconst 1, 1, 0, 0, 0, 0, 1, 0, [], md0) ∧ tabOf r_Rh_within 10 = (10, .goto 4, 3, 0, 14, 0, 0, 0, 0, [], md0) ∧ tabOf r_Rh_within 13 = (13, .iconst 0, 1, 0, 0, 0, 0, 0, 0, [], md0) ∧ tabOf r_Rh_within 14 = (14, .ireturn, 1, 0, 0, 0, 0, 0, 0, [], md0) ∧ m_Rh_within.2.2.2.2.1.cells = 0 ∧ m_Rh_within.2.2.2.2.1.slots = 0 ∧ m_Rh_within.2.2.2.2.1.locals = 0 ∧ m_Rh_within.2.2.2.1 = some .boolean ∧ m_Rh_within.2.2.1 = 2 := ⟨rfl, rfl, rfl, rfl, rfl, rfl, rfl, rfl, rfl, rfl, rfl, rfl, rfl, rfl⟩
set_option maxRecDepth 100000 in
theorem ok_Rh_within : r_Rh_within.all (okRow m_Rh_within.2.2.2.2.1 m_Rh_within.1.cls m_Rh_within.2.1 m_Rh_within.2.2.1 false) = true := by decide +kernel
set_option maxRecDepth 100000 in
theorem in_Rh_within {args : List Value} {h : MH} {K : KT} (nB : Nat) (hnB : nB ≤ h.2.2.2) (hL : cat2 args ≤ m_Rh_within.2.2.1) (hdb : noD args = true) (H : ∀ P : PT, (∀ stops n pc lv st h cn sn, wq m_Rh_within.2.2.2.2.1 m_Rh_within.2.2.2.1 nB (0, fun _ => 0) Ct (tabOf r_Rh_within) K P stops n pc lv st h cn sn → P pc lv st h cn sn) → P 0 (entL args m_Rh_within.2.2.1) [] h 0 0) : Ct m_Rh_within args h K := Ct.intro r_Rh_within false nB (by decide) (by decide) ok_Rh_within hnB hL hdb H
def r_Rd_readKing : List Row := [(0, .aload_n 0, 1, 0, 0, 0, 0, 0, 0, [], md0),
  (1, .invokevirtual 34, 3, 747, 4, 0, 0, 0, 0, [], m_Rd_sign),
  (4, .bipush 48, 2, 0, 0, 0, 0, 48, 0, [], md0),
  (6, .isub, 1, 0, 0, 0, 0, 0, 0, [], md0),
  (7, .istore_n 3, 1, 0, 3, 0, 0, 0, 0, [], md0),
  (8, .iload_n 3, 1, 0, 3, 0, 0, 0, 0, [], md0),
  (9, .iconst 5, 1, 0, 0, 0, 0, 5, 0, [], md0),
  (10, .invokestatic 80, 3, 820, 0, 1, 0, 0, 0, [], m_Rh_within),
  (13, .ifCond .ne 5, 3, 0, 18, 0, 0, 0, 0, [], md0),
  (16, .iconst 0, 1, 0, 0, 0, 0, 0, 0, [], md0),
  (17, .ireturn, 1, 0, 0, 0, 0, 0, 0, [], md0),
  (18, .aload_n 1, 1, 0, 1, 0, 0, 0, 0, [], md0),
  (19, .getfield 56, 3, 231, 3, 3, 2, 0, 0, [], md0),
  (22, .iload_n 2, 1, 0, 2, 0, 0, 0, 0, [], md0),
  (23, .iload_n 3, 1, 0, 3, 0, 0, 0, 0, [], md0),
  (24, .iastore, 1, 0, 0, 0, 0, 0, 0, [], md0),
  (25, .aload_n 0, 1, 0, 0, 0, 0, 0, 0, [], md0),
  (26, .dup, 1, 0, 0, 0, 0, 0, 0, [], md0),
  (27, .getfield 19, 3, 320, 4, 2, 0, 0, 0, [], md0),
  (30, .iconst 1, 1, 0, 0, 0, 0, 1, 0, [], md0),
  (31, .iadd, 1, 0, 0, 0, 0, 0, 0, [], md0),
  (32, .putfield 19, 3, 320, 4, 2, 0, 0, 0, [], md0),
  (35, .iconst 1, 1, 0, 0, 0, 0, 1, 0, [], md0),
  (36, .ireturn, 1, 0, 0, 0, 0, 0, 0, [], md0)]
set_option maxRecDepth 100000 in
theorem tb_Rd_readKing : tabOf r_Rd_readKing 0 = (0, .aload_n 0, 1, 0, 0, 0, 0, 0, 0, [], md0) ∧ tabOf r_Rd_readKing 1 = (1, .invokevirtual 34, 3, 747, 4, 0, 0, 0, 0, [], m_Rd_sign) ∧ tabOf r_Rd_readKing 4 = (4, .bipush 48, 2, 0, 0, 0, 0, 48, 0, [], md0) ∧ tabOf r_Rd_readKing 6 = (6, .isub, 1, 0, 0, 0, 0, 0, 0, [], md0) ∧ tabOf r_Rd_readKing 7 = (7, .istore_n 3, 1, 0, 3, 0, 0, 0, 0, [], md0) ∧ tabOf r_Rd_readKing 8 = (8, .iload_n 3, 1, 0, 3, 0, 0, 0, 0, [], md0) ∧ tabOf r_Rd_readKing 9 = (9, .iconst 5, 1, 0, 0, 0, 0, 5, 0, [], md0) ∧ tabOf r_Rd_readKing 10 = (10, .invokestatic 80, 3, 820, 0, 1, 0, 0, 0, [], m_Rh_within) ∧ tabOf r_Rd_readKing 13 = (13, .ifCond .ne 5, 3, 0, 18, 0, 0, 0, 0, [], md0) ∧ tabOf r_Rd_readKing 16 = (16, .iconst 0, 1, 0, 0, 0, 0, 0, 0, [], md0) ∧ tabOf r_Rd_readKing 17 = (17, .ireturn, 1, 0, 0, 0, 0, 0, 0, [], md0) ∧ tabOf r_Rd_readKing 18 = (18, .aload_n 1, 1, 0, 1, 0, 0, 0, 0, [], md0) ∧ tabOf r_Rd_readKing 19 = (19, .getfield 56, 3, 231, 3, 3, 2, 0, 0, [], md0) ∧ tabOf r_Rd_readKing 22 = (22, .iload_n 2, 1, 0, 2, 0, 0, 0, 0, [], md0) ∧ tabOf r_Rd_readKing 23 = (23, .iload_n 3, 1, 0, 3, 0, 0, 0, 0, [], md0) ∧ tabOf r_Rd_readKing 24 = (24, .iastore, 1, 0, 0, 0, 0, 0, 0, [], md0) ∧ tabOf r_Rd_readKing 25 = (25, .aload_n 0, 1, 0, 0, 0, 0, 0, 0, [], md0) ∧ tabOf r_Rd_readKing 26 = (26, .dup, 1, 0, 0, 0, 0, 0, 0, [], md0) ∧ tabOf r_Rd_readKing 27 = (27, .getfield 19, 3, 320, 4, 2, 0, 0, 0, [], md0) ∧ tabOf r_Rd_readKing 30 = (30, .iconst 1, 1, 0, 0, 0, 0, 1, 0, [], md0) ∧ tabOf r_Rd_readKing 31 = (31, .iadd, 1, 0, 0, 0, 0, 0, 0, [], md0) ∧ tabOf r_Rd_readKing 32 = (32, .putfield 19, 3, 320, 4, 2, 0, 0, 0, [], md0) ∧ tabOf r_Rd_readKing 35 = (35, .iconst 1, 1, 0, 0, 0, 0, 1, 0, [], md0) ∧ tabOf r_Rd_readKing 36 = (36, .ireturn, 1, 0, 0, 0, 0, 0, 0, [], md0) ∧ m_Rd_readKing.2.2.2.2.1.cells = 0 ∧ m_Rd_readKing.2.2.2.2.1.slots = 0 ∧ m_Rd_readKing.2.2.2.2.1.locals = 21 ∧ m_Rd_readKing.2.2.2.1 = some .boolean ∧ m_Rd_readKing.2.2.1 = 4 ∧ m_Rd_sign.2.2.2.2.1.cells = 0 ∧ m_Rd_sign.2.2.2.2.1.slots = 0 ∧ m_Rd_sign.2.2.2.2.2.1 = 0 ∧ m_Rh_within.2.2.2.2.1.cells = 0 ∧ m_Rh_within.2.2.2.2.1.slots = 0 ∧ m_Rh_within.2.2.2.2.2.1 = 2 := ⟨rfl, rfl, rfl, rfl, rfl, rfl, rfl, rfl, rfl, rfl, rfl, rfl, rfl, rfl, rfl, rfl, rfl, rfl, rfl, rfl, rfl, rfl, rfl, rfl, rfl, rfl, rfl, rfl, rfl, rfl, rfl, rfl, rfl, rfl, rfl⟩
set_option maxRecDepth 100000 in
theorem ok_Rd_readKing : r_Rd_readKing.all (okRow m_Rd_readKing.2.2.2.2.1 m_Rd_readKing.1.cls m_Rd_readKing.2.1 m_Rd_readKing.2.2.1 false) = true := by decide +kernel
set_option maxRecDepth 100000 in
theorem in_Rd_readKing {args : List Value} {h : MH} {K : KT} (nB : Nat) (hnB : nB ≤ h.2.2.2) (hL : cat2 args ≤ m_Rd_readKing.2.2.1) (hdb : noD args = true) (H : ∀ P : PT, (∀ stops n pc lv st h cn sn, wq m_Rd_readKing.2.2.2.2.1 m_Rd_readKing.2.2.2.1 nB (0, fun _ => 0) Ct (tabOf r_Rd_readKing) K P stops n pc lv st h cn sn → P pc lv st h cn sn) → P 0 (entL args m_Rd_readKing.2.2.1) [] h 0 0) : Ct m_Rd_readKing args h K := Ct.intro r_Rd_readKing false nB (by decide) (by decide) ok_Rd_readKing hnB hL hdb H
def r_Rd_readNumber : List Row := [(0, .iconst (-1), 1, 0, 0, 0, 0, (-1), 0, [], md0),
  (1, .istore_n 1, 1, 0, 1, 0, 0, 0, 0, [], md0),
  (2, .iconst 0, 1, 0, 0, 0, 0, 0, 0, [], md0),
  (3, .istore_n 2, 1, 0, 2, 0, 0, 0, 0, [], md0),
  (4, .iload_n 2, 1, 0, 2, 0, 0, 0, 0, [], md0),
  (5, .iconst 3, 1, 0, 0, 0, 0, 3, 0, [], md0),
  (6, .if_icmp .ge 49, 3, 0, 55, 0, 0, 0, 0, [], md0),
  (9, .aload_n 0, 1, 0, 0, 0, 0, 0, 0, [], md0),
  (10, .invokevirtual 34, 3, 747, 4, 0, 0, 0, 0, [], m_Rd_sign),
  (13, .bipush 48, 2, 0, 0, 0, 0, 48, 0, [], md0),
  (15, .isub, 1, 0, 0, 0, 0, 0, 0, [], md0),
  (16, .istore_n 3, 1, 0, 3, 0, 0, 0, 0, [], md0),
  (17, .iload_n 3, 1, 0, 3, 0, 0, 0, 0, [], md0),
  (18, .bipush 9, 2, 0, 0, 0, 0, 9, 0, [], md0),
  (20, .invokestatic 80, 3, 820, 0, 1, 0, 0, 0, [], m_Rh_within),
  (23, .ifCond .ne 5, 3, 0, 28, 0, 0, 0, 0, [], md0),
  (26, .iload_n 1, 1, 0, 1, 0, 0, 0, 0, [], md0),
  (27, .ireturn, 1, 0, 0, 0, 0, 0, 0, [], md0),
  (28, .iload_n 1, 1, 0, 1, 0, 0, 0, 0, [], md0),
  (29, .iconst 0, 1, 0, 0, 0, 0, 0, 0, [], md0),
  (30, .invokestatic 106, 3, 826, 0, 7, 0, 0, 0, [], md0),
  (33, .bipush 10, 2, 0, 0, 0, 0, 10, 0, [], md0),
  (35, .imul, 1, 0, 0, 0, 0, 0, 0, [], md0),
  (36, .iload_n 3, 1, 0, 3, 0, 0, 0, 0, [], md0),
  (37, .iadd, 1, 0, 0, 0, 0, 0, 0, [], md0),
  (38, .istore_n 1, 1, 0, 1, 0, 0, 0, 0, [], md0),
  (39, .aload_n 0, 1, 0, 0, 0, 0, 0, 0, [], md0),
  (40, .dup, 1, 0, 0, 0, 0, 0, 0, [], md0),
  (41, .getfield 19, 3, 320, 4, 2, 0, 0, 0, [], md0),
  (44, .iconst 1, 1, 0, 0, 0, 0, 1, 0, [], md0),
  (45, .iadd, 1, 0, 0, 0, 0, 0, 0, [], md0),
  (46, .putfield 19, 3, 320, 4, 2, 0, 0, 0, [], md0),
  (49, .iinc 2 1, 3, 0, 2, 0, 0, 1, 0, [], md0),
  (52, .goto (-48), 3, 0, 4, 0, 0, 0, 0, [], md0),
  (55, .iload_n 1, 1, 0, 1, 0, 0, 0, 0, [], md0),
  (56, .ireturn, 1, 0, 0, 0, 0, 0, 0, [], md0)]
set_option maxRecDepth 100000 in
theorem tb_Rd_readNumber : tabOf r_Rd_readNumber 0 = (0, .iconst (-1), 1, 0, 0, 0, 0, (-1), 0, [], md0) ∧ tabOf r_Rd_readNumber 1 = (1, .istore_n 1, 1, 0, 1, 0, 0, 0, 0, [], md0) ∧ tabOf r_Rd_readNumber 2 = (2, .iconst 0, 1, 0, 0, 0, 0, 0, 0, [], md0) ∧ tabOf r_Rd_readNumber 3 = (3, .istore_n 2, 1, 0, 2, 0, 0, 0, 0, [], md0) ∧ tabOf r_Rd_readNumber 4 = (4, .iload_n 2, 1, 0, 2, 0, 0, 0, 0, [], md0) ∧ tabOf r_Rd_readNumber 5 = (5, .iconst 3, 1, 0, 0, 0, 0, 3, 0, [], md0) ∧ tabOf r_Rd_readNumber 6 = (6, .if_icmp .ge 49, 3, 0, 55, 0, 0, 0, 0, [], md0) ∧ tabOf r_Rd_readNumber 9 = (9, .aload_n 0, 1, 0, 0, 0, 0, 0, 0, [], md0) ∧ tabOf r_Rd_readNumber 10 = (10, .invokevirtual 34, 3, 747, 4, 0, 0, 0, 0, [], m_Rd_sign) ∧ tabOf r_Rd_readNumber 13 = (13, .bipush 48, 2, 0, 0, 0, 0, 48, 0, [], md0) ∧ tabOf r_Rd_readNumber 15 = (15, .isub, 1, 0, 0, 0, 0, 0, 0, [], md0) ∧ tabOf r_Rd_readNumber 16 = (16, .istore_n 3, 1, 0, 3, 0, 0, 0, 0, [], md0) ∧ tabOf r_Rd_readNumber 17 = (17, .iload_n 3, 1, 0, 3, 0, 0, 0, 0, [], md0) ∧ tabOf r_Rd_readNumber 18 = (18, .bipush 9, 2, 0, 0, 0, 0, 9, 0, [], md0) ∧ tabOf r_Rd_readNumber 20 = (20, .invokestatic 80, 3, 820, 0, 1, 0, 0, 0, [], m_Rh_within) ∧ tabOf r_Rd_readNumber 23 = (23, .ifCond .ne 5, 3, 0, 28, 0, 0, 0, 0, [], md0) ∧ tabOf r_Rd_readNumber 26 = (26, .iload_n 1, 1, 0, 1, 0, 0, 0, 0, [], md0) ∧ tabOf r_Rd_readNumber 27 = (27, .ireturn, 1, 0, 0, 0, 0, 0, 0, [], md0) ∧ tabOf r_Rd_readNumber 28 = (28, .iload_n 1, 1, 0, 1, 0, 0, 0, 0, [], md0) ∧ tabOf r_Rd_readNumber 29 = (29, .iconst 0, 1, 0, 0, 0, 0, 0, 0, [], md0) ∧ tabOf r_Rd_readNumber 30 = (30, .invokestatic 106, 3, 826, 0, 7, 0, 0, 0, [], md0) ∧ tabOf r_Rd_readNumber 33 = (33, .bipush 10, 2, 0, 0, 0, 0, 10, 0, [], md0) ∧ tabOf r_Rd_readNumber 35 = (35, .imul, 1, 0, 0, 0, 0, 0, 0, [], md0) ∧ tabOf r_Rd_readNumber 36 = (36, .iload_n 3, 1, 0, 3, 0, 0, 0, 0, [], md0) ∧ tabOf r_Rd_readNumber 37 = (37, .iadd, 1, 0, 0, 0, 0, 0, 0, [], md0) ∧ tabOf r_Rd_readNumber 38 = (38, .istore_n 1, 1, 0, 1, 0, 0, 0, 0, [], md0) ∧ tabOf r_Rd_readNumber 39 = (39, .aload_n 0, 1, 0, 0, 0, 0, 0, 0, [], md0) ∧ tabOf r_Rd_readNumber 40 = (40, .dup, 1, 0, 0, 0, 0, 0, 0, [], md0) ∧ tabOf r_Rd_readNumber 41 = (41, .getfield 19, 3, 320, 4, 2, 0, 0, 0, [], md0) ∧ tabOf r_Rd_readNumber 44 = (44, .iconst 1, 1, 0, 0, 0, 0, 1, 0, [], md0) ∧ tabOf r_Rd_readNumber 45 = (45, .iadd, 1, 0, 0, 0, 0, 0, 0, [], md0) ∧ tabOf r_Rd_readNumber 46 = (46, .putfield 19, 3, 320, 4, 2, 0, 0, 0, [], md0) ∧ tabOf r_Rd_readNumber 49 = (49, .iinc 2 1, 3, 0, 2, 0, 0, 1, 0, [], md0) ∧ tabOf r_Rd_readNumber 52 = (52, .goto (-48), 3, 0, 4, 0, 0, 0, 0, [], md0) ∧ tabOf r_Rd_readNumber 55 = (55, .iload_n 1, 1, 0, 1, 0, 0, 0, 0, [], md0) ∧ tabOf r_Rd_readNumber 56 = (56, .ireturn, 1, 0, 0, 0, 0, 0, 0, [], md0) ∧ m_Rd_readNumber.2.2.2.2.1.cells = 0 ∧ m_Rd_readNumber.2.2.2.2.1.slots = 0 ∧ m_Rd_readNumber.2.2.2.2.1.locals = 21 ∧ m_Rd_readNumber.2.2.2.1 = some .int ∧ m_Rd_readNumber.2.2.1 = 4 ∧ m_Rd_sign.2.2.2.2.1.cells = 0 ∧ m_Rd_sign.2.2.2.2.1.slots = 0 ∧ m_Rd_sign.2.2.2.2.2.1 = 0 ∧ m_Rh_within.2.2.2.2.1.cells = 0 ∧ m_Rh_within.2.2.2.2.1.slots = 0 ∧ m_Rh_within.2.2.2.2.2.1 = 2 ∧ m_Ma_max.2.2.2.2.1.cells = 0 ∧ m_Ma_max.2.2.2.2.1.slots = 0 ∧ m_Ma_max.2.2.2.2.2.1 = 2 := ⟨rfl, rfl, rfl, rfl, rfl, rfl, rfl, rfl, rfl, rfl, rfl, rfl, rfl, rfl, rfl, rfl, rfl, rfl, rfl, rfl, rfl, rfl, rfl, rfl, rfl, rfl, rfl, rfl, rfl, rfl, rfl, rfl, rfl, rfl, rfl, rfl, rfl, rfl, rfl, rfl, rfl, rfl, rfl, rfl, rfl, rfl, rfl, rfl, rfl, rfl⟩
set_option maxRecDepth 100000 in
theorem ok_Rd_readNumber : r_Rd_readNumber.all (okRow m_Rd_readNumber.2.2.2.2.1 m_Rd_readNumber.1.cls m_Rd_readNumber.2.1 m_Rd_readNumber.2.2.1 false) = true := by decide +kernel
set_option maxRecDepth 100000 in
theorem in_Rd_readNumber {args : List Value} {h : MH} {K : KT} (nB : Nat) (hnB : nB ≤ h.2.2.2) (hL : cat2 args ≤ m_Rd_readNumber.2.2.1) (hdb : noD args = true) (H : ∀ P : PT, (∀ stops n pc lv st h cn sn, wq m_Rd_readNumber.2.2.2.2.1 m_Rd_readNumber.2.2.2.1 nB (0, fun _ => 0) Ct (tabOf r_Rd_readNumber) K P stops n pc lv st h cn sn → P pc lv st h cn sn) → P 0 (entL args m_Rd_readNumber.2.2.1) [] h 0 0) : Ct m_Rd_readNumber args h K := Ct.intro r_Rd_readNumber false nB (by decide) (by decide) ok_Rd_readNumber hnB hL hdb H
def r_Rd_readPass : List Row := [(0, .aload_n 0, 1, 0, 0, 0, 0, 0, 0, [], md0),
  (1, .ldc 68, 2, 815, 4, 1, 0, 0, 0, [], md0),
  (3, .invokevirtual 52, 3, 756, 4, 0, 0, 0, 0, [], m_Rd_readWord),
  (6, .ifCond .eq 21, 3, 0, 27, 0, 0, 0, 0, [], md0),
  (9, .aload_n 0, 1, 0, 0, 0, 0, 0, 0, [], md0),
  (10, .aload_n 1, 1, 0, 1, 0, 0, 0, 0, [], md0),
  (11, .iload_n 2, 1, 0, 2, 0, 0, 0, 0, [], md0),
  (12, .invokevirtual 70, 3, 816, 4, 0, 0, 0, 0, [], m_Rd_readKing),
  (15, .ifCond .eq 12, 3, 0, 27, 0, 0, 0, 0, [], md0),
  (18, .aload_n 0, 1, 0, 0, 0, 0, 0, 0, [], md0),
  (19, .ldc 73, 2, 821, 5, 1, 0, 0, 0, [], md0),
  (21, .invokevirtual 52, 3, 756, 4, 0, 0, 0, 0, [], m_Rd_readWord),
  (24, .ifCond .ne 5, 3, 0, 29, 0, 0, 0, 0, [], md0),
  (27, .iconst 0, 1, 0, 0, 0, 0, 0, 0, [], md0),
  (28, .ireturn, 1, 0, 0, 0, 0, 0, 0, [], md0),
  (29, .aload_n 1, 1, 0, 1, 0, 0, 0, 0, [], md0),
  (30, .getfield 59, 3, 233, 3, 4, 2, 0, 0, [], md0),
  (33, .iload_n 2, 1, 0, 2, 0, 0, 0, 0, [], md0),
  (34, .aload_n 0, 1, 0, 0, 0, 0, 0, 0, [], md0),
  (35, .invokevirtual 75, 3, 822, 4, 0, 0, 0, 0, [], m_Rd_readNumber),
  (38, .iastore, 1, 0, 0, 0, 0, 0, 0, [], md0),
  (39, .aload_n 1, 1, 0, 1, 0, 0, 0, 0, [], md0),
  (40, .getfield 59, 3, 233, 3, 4, 2, 0, 0, [], md0),
  (43, .iload_n 2, 1, 0, 2, 0, 0, 0, 0, [], md0),
  (44, .iaload, 1, 0, 0, 0, 0, 0, 0, [], md0),
  (45, .ifCond .lt 7, 3, 0, 52, 0, 0, 0, 0, [], md0),
  (48, .iconst 1, 1, 0, 0, 0, 0, 1, 0, [], md0),
  (49, .goto 4, 3, 0, 53, 0, 0, 0, 0, [], md0),
  (52, .iconst 0, 1, 0, 0, 0, 0, 0, 0, [], md0),
  (53, .ireturn, 1, 0, 0, 0, 0, 0, 0, [], md0)]
set_option maxRecDepth 100000 in
theorem tb_Rd_readPass : tabOf r_Rd_readPass 0 = (0, .aload_n 0, 1, 0, 0, 0, 0, 0, 0, [], md0) ∧ tabOf r_Rd_readPass 1 = (1, .ldc 68, 2, 815, 4, 1, 0, 0, 0, [], md0) ∧ tabOf r_Rd_readPass 3 = (3, .invokevirtual 52, 3, 756, 4, 0, 0, 0, 0, [], m_Rd_readWord) ∧ tabOf r_Rd_readPass 6 = (6, .ifCond .eq 21, 3, 0, 27, 0, 0, 0, 0, [], md0) ∧ tabOf r_Rd_readPass 9 = (9, .aload_n 0, 1, 0, 0, 0, 0, 0, 0, [], md0) ∧ tabOf r_Rd_readPass 10 = (10, .aload_n 1, 1, 0, 1, 0, 0, 0, 0, [], md0) ∧ tabOf r_Rd_readPass 11 = (11, .iload_n 2, 1, 0, 2, 0, 0, 0, 0, [], md0) ∧ tabOf r_Rd_readPass 12 = (12, .invokevirtual 70, 3, 816, 4, 0, 0, 0, 0, [], m_Rd_readKing) ∧ tabOf r_Rd_readPass 15 = (15, .ifCond .eq 12, 3, 0, 27, 0, 0, 0, 0, [], md0) ∧ tabOf r_Rd_readPass 18 = (18, .aload_n 0, 1, 0, 0, 0, 0, 0, 0, [], md0) ∧ tabOf r_Rd_readPass 19 = (19, .ldc 73, 2, 821, 5, 1, 0, 0, 0, [], md0) ∧ tabOf r_Rd_readPass 21 = (21, .invokevirtual 52, 3, 756, 4, 0, 0, 0, 0, [], m_Rd_readWord) ∧ tabOf r_Rd_readPass 24 = (24, .ifCond .ne 5, 3, 0, 29, 0, 0, 0, 0, [], md0) ∧ tabOf r_Rd_readPass 27 = (27, .iconst 0, 1, 0, 0, 0, 0, 0, 0, [], md0) ∧ tabOf r_Rd_readPass 28 = (28, .ireturn, 1, 0, 0, 0, 0, 0, 0, [], md0) ∧ tabOf r_Rd_readPass 29 = (29, .aload_n 1, 1, 0, 1, 0, 0, 0, 0, [], md0) ∧ tabOf r_Rd_readPass 30 = (30, .getfield 59, 3, 233, 3, 4, 2, 0, 0, [], md0) ∧ tabOf r_Rd_readPass 33 = (33, .iload_n 2, 1, 0, 2, 0, 0, 0, 0, [], md0) ∧ tabOf r_Rd_readPass 34 = (34, .aload_n 0, 1, 0, 0, 0, 0, 0, 0, [], md0) ∧ tabOf r_Rd_readPass 35 = (35, .invokevirtual 75, 3, 822, 4, 0, 0, 0, 0, [], m_Rd_readNumber) ∧ tabOf r_Rd_readPass 38 = (38, .iastore, 1, 0, 0, 0, 0, 0, 0, [], md0) ∧ tabOf r_Rd_readPass 39 = (39, .aload_n 1, 1, 0, 1, 0, 0, 0, 0, [], md0) ∧ tabOf r_Rd_readPass 40 = (40, .getfield 59, 3, 233, 3, 4, 2, 0, 0, [], md0) ∧ tabOf r_Rd_readPass 43 = (43, .iload_n 2, 1, 0, 2, 0, 0, 0, 0, [], md0) ∧ tabOf r_Rd_readPass 44 = (44, .iaload, 1, 0, 0, 0, 0, 0, 0, [], md0) ∧ tabOf r_Rd_readPass 45 = (45, .ifCond .lt 7, 3, 0, 52, 0, 0, 0, 0, [], md0) ∧ tabOf r_Rd_readPass 48 = (48, .iconst 1, 1, 0, 0, 0, 0, 1, 0, [], md0) ∧ tabOf r_Rd_readPass 49 = (49, .goto 4, 3, 0, 53, 0, 0, 0, 0, [], md0) ∧ tabOf r_Rd_readPass 52 = (52, .iconst 0, 1, 0, 0, 0, 0, 0, 0, [], md0) ∧ tabOf r_Rd_readPass 53 = (53, .ireturn, 1, 0, 0, 0, 0, 0, 0, [], md0) ∧ m_Rd_readPass.2.2.2.2.1.cells = 0 ∧ m_Rd_readPass.2.2.2.2.1.slots = 0 ∧ m_Rd_readPass.2.2.2.2.1.locals = 128 ∧ m_Rd_readPass.2.2.2.1 = some .boolean ∧ m_Rd_readPass.2.2.1 = 3 ∧ m_Rd_readWord.2.2.2.2.1.cells = 0 ∧ m_Rd_readWord.2.2.2.2.1.slots = 0 ∧ m_Rd_readWord.2.2.2.2.2.1 = 1 ∧ m_Rd_readKing.2.2.2.2.1.cells = 0 ∧ m_Rd_readKing.2.2.2.2.1.slots = 0 ∧ m_Rd_readKing.2.2.2.2.2.1 = 2 ∧ m_Rd_readNumber.2.2.2.2.1.cells = 0 ∧ m_Rd_readNumber.2.2.2.2.1.slots = 0 ∧ m_Rd_readNumber.2.2.2.2.2.1 = 0 := ⟨rfl, rfl, rfl, rfl, rfl, rfl, rfl, rfl, rfl, rfl, rfl, rfl, rfl, rfl, rfl, rfl, rfl, rfl, rfl, rfl, rfl, rfl, rfl, rfl, rfl, rfl, rfl, rfl, rfl, rfl, rfl, rfl, rfl, rfl, rfl, rfl, rfl, rfl, rfl, rfl, rfl, rfl, rfl, rfl⟩
set_option maxRecDepth 100000 in
theorem ok_Rd_readPass : r_Rd_readPass.all (okRow m_Rd_readPass.2.2.2.2.1 m_Rd_readPass.1.cls m_Rd_readPass.2.1 m_Rd_readPass.2.2.1 false) = true := by decide +kernel
set_option maxRecDepth 100000 in
theorem in_Rd_readPass {args : List Value} {h : MH} {K : KT} (nB : Nat) (hnB : nB ≤ h.2.2.2) (hL : cat2 args ≤ m_Rd_readPass.2.2.1) (hdb : noD args = true) (H : ∀ P : PT, (∀ stops n pc lv st h cn sn, wq m_Rd_readPass.2.2.2.2.1 m_Rd_readPass.2.2.2.1 nB (0, fun _ => 0) Ct (tabOf r_Rd_readPass) K P stops n pc lv st h cn sn → P pc lv st h cn sn) → P 0 (entL args m_Rd_readPass.2.2.1) [] h 0 0) : Ct m_Rd_readPass args h K := Ct.intro r_Rd_readPass false nB (by decide) (by decide) ok_Rd_readPass hnB hL hdb H
def r_Rd_readBar : List Row := [(0, .aload_n 1, 1, 0, 1, 0, 0, 0, 0, [], md0),
  (1, .getfield 59, 3, 233, 3, 4, 2, 0, 0, [], md0),
  (4, .iload_n 2, 1, 0, 2, 0, 0, 0, 0, [], md0),
  (5, .iconst (-1), 1, 0, 0, 0, 0, (-1), 0, [], md0),
  (6, .iastore, 1, 0, 0, 0, 0, 0, 0, [], md0),
  (7, .aload_n 0, 1, 0, 0, 0, 0, 0, 0, [], md0),
  (8, .ldc 78, 2, 833, 6, 1, 0, 0, 0, [], md0),
  (10, .invokevirtual 52, 3, 756, 4, 0, 0, 0, 0, [], m_Rd_readWord),
  (13, .ifCond .eq 16, 3, 0, 29, 0, 0, 0, 0, [], md0),
  (16, .aload_n 0, 1, 0, 0, 0, 0, 0, 0, [], md0),
  (17, .aload_n 1, 1, 0, 1, 0, 0, 0, 0, [], md0),
  (18, .iload_n 2, 1, 0, 2, 0, 0, 0, 0, [], md0),
  (19, .invokevirtual 70, 3, 816, 4, 0, 0, 0, 0, [], m_Rd_readKing),
  (22, .ifCond .eq 7, 3, 0, 29, 0, 0, 0, 0, [], md0),
  (25, .iconst 1, 1, 0, 0, 0, 0, 1, 0, [], md0),
  (26, .goto 4, 3, 0, 30, 0, 0, 0, 0, [], md0),
  (29, .iconst 0, 1, 0, 0, 0, 0, 0, 0, [], md0),
  (30, .ireturn, 1, 0, 0, 0, 0, 0, 0, [], md0)]
set_option maxRecDepth 100000 in
theorem tb_Rd_readBar : tabOf r_Rd_readBar 0 = (0, .aload_n 1, 1, 0, 1, 0, 0, 0, 0, [], md0) ∧ tabOf r_Rd_readBar 1 = (1, .getfield 59, 3, 233, 3, 4, 2, 0, 0, [], md0) ∧ tabOf r_Rd_readBar 4 = (4, .iload_n 2, 1, 0, 2, 0, 0, 0, 0, [], md0) ∧ tabOf r_Rd_readBar 5 = (5, .iconst (-1), 1, 0, 0, 0, 0, (-1), 0, [], md0) ∧ tabOf r_Rd_readBar 6 = (6, .iastore, 1, 0, 0, 0, 0, 0, 0, [], md0) ∧ tabOf r_Rd_readBar 7 = (7, .aload_n 0, 1, 0, 0, 0, 0, 0, 0, [], md0) ∧ tabOf r_Rd_readBar 8 = (8, .ldc 78, 2, 833, 6, 1, 0, 0, 0, [], md0) ∧ tabOf r_Rd_readBar 10 = (10, .invokevirtual 52, 3, 756, 4, 0, 0, 0, 0, [], m_Rd_readWord) ∧ tabOf r_Rd_readBar 13 = (13, .ifCond .eq 16, 3, 0, 29, 0, 0, 0, 0, [], md0) ∧ tabOf r_Rd_readBar 16 = (16, .aload_n 0, 1, 0, 0, 0, 0, 0, 0, [], md0) ∧ tabOf r_Rd_readBar 17 = (17, .aload_n 1, 1, 0, 1, 0, 0, 0, 0, [], md0) ∧ tabOf r_Rd_readBar 18 = (18, .iload_n 2, 1, 0, 2, 0, 0, 0, 0, [], md0) ∧ tabOf r_Rd_readBar 19 = (19, .invokevirtual 70, 3, 816, 4, 0, 0, 0, 0, [], m_Rd_readKing) ∧ tabOf r_Rd_readBar 22 = (22, .ifCond .eq 7, 3, 0, 29, 0, 0, 0, 0, [], md0) ∧ tabOf r_Rd_readBar 25 = (25, .iconst 1, 1, 0, 0, 0, 0, 1, 0, [], md0) ∧ tabOf r_Rd_readBar 26 = (26, .goto 4, 3, 0, 30, 0, 0, 0, 0, [], md0) ∧ tabOf r_Rd_readBar 29 = (29, .iconst 0, 1, 0, 0, 0, 0, 0, 0, [], md0) ∧ tabOf r_Rd_readBar 30 = (30, .ireturn, 1, 0, 0, 0, 0, 0, 0, [], md0) ∧ m_Rd_readBar.2.2.2.2.1.cells = 0 ∧ m_Rd_readBar.2.2.2.2.1.slots = 0 ∧ m_Rd_readBar.2.2.2.2.1.locals = 128 ∧ m_Rd_readBar.2.2.2.1 = some .boolean ∧ m_Rd_readBar.2.2.1 = 3 ∧ m_Rd_readWord.2.2.2.2.1.cells = 0 ∧ m_Rd_readWord.2.2.2.2.1.slots = 0 ∧ m_Rd_readWord.2.2.2.2.2.1 = 1 ∧ m_Rd_readKing.2.2.2.2.1.cells = 0 ∧ m_Rd_readKing.2.2.2.2.1.slots = 0 ∧ m_Rd_readKing.2.2.2.2.2.1 = 2 := ⟨rfl, rfl, rfl, rfl, rfl, rfl, rfl, rfl, rfl, rfl, rfl, rfl, rfl, rfl, rfl, rfl, rfl, rfl, rfl, rfl, rfl, rfl, rfl, rfl, rfl, rfl, rfl, rfl, rfl⟩
set_option maxRecDepth 100000 in
theorem ok_Rd_readBar : r_Rd_readBar.all (okRow m_Rd_readBar.2.2.2.2.1 m_Rd_readBar.1.cls m_Rd_readBar.2.1 m_Rd_readBar.2.2.1 false) = true := by decide +kernel
set_option maxRecDepth 100000 in
theorem in_Rd_readBar {args : List Value} {h : MH} {K : KT} (nB : Nat) (hnB : nB ≤ h.2.2.2) (hL : cat2 args ≤ m_Rd_readBar.2.2.1) (hdb : noD args = true) (H : ∀ P : PT, (∀ stops n pc lv st h cn sn, wq m_Rd_readBar.2.2.2.2.1 m_Rd_readBar.2.2.2.1 nB (0, fun _ => 0) Ct (tabOf r_Rd_readBar) K P stops n pc lv st h cn sn → P pc lv st h cn sn) → P 0 (entL args m_Rd_readBar.2.2.1) [] h 0 0) : Ct m_Rd_readBar args h K := Ct.intro r_Rd_readBar false nB (by decide) (by decide) ok_Rd_readBar hnB hL hdb H
def r_Rh_isMonth : List Row := [(0, .iload_n 0, 1, 0, 0, 0, 0, 0, 0, [], md0),
  (1, .bipush 11, 2, 0, 0, 0, 0, 11, 0, [], md0),
  (3, .invokestatic 52, 3, 425, 0, 0, 0, 0, 0, [], m_Rh_within),
  (6, .ireturn, 1, 0, 0, 0, 0, 0, 0, [], md0)]
set_option maxRecDepth 100000 in
theorem tb_Rh_isMonth : tabOf r_Rh_isMonth 0 = (0, .iload_n 0, 1, 0, 0, 0, 0, 0, 0, [], md0) ∧ tabOf r_Rh_isMonth 1 = (1, .bipush 11, 2, 0, 0, 0, 0, 11, 0, [], md0) ∧ tabOf r_Rh_isMonth 3 = (3, .invokestatic 52, 3, 425, 0, 0, 0, 0, 0, [], m_Rh_within) ∧ tabOf r_Rh_isMonth 6 = (6, .ireturn, 1, 0, 0, 0, 0, 0, 0, [], md0) ∧ m_Rh_isMonth.2.2.2.2.1.cells = 0 ∧ m_Rh_isMonth.2.2.2.2.1.slots = 0 ∧ m_Rh_isMonth.2.2.2.2.1.locals = 21 ∧ m_Rh_isMonth.2.2.2.1 = some .boolean ∧ m_Rh_isMonth.2.2.1 = 1 ∧ m_Rh_within.2.2.2.2.1.cells = 0 ∧ m_Rh_within.2.2.2.2.1.slots = 0 ∧ m_Rh_within.2.2.2.2.2.1 = 2 := ⟨rfl, rfl, rfl, rfl, rfl, rfl, rfl, rfl, rfl, rfl, rfl, rfl⟩
set_option maxRecDepth 100000 in
theorem ok_Rh_isMonth : r_Rh_isMonth.all (okRow m_Rh_isMonth.2.2.2.2.1 m_Rh_isMonth.1.cls m_Rh_isMonth.2.1 m_Rh_isMonth.2.2.1 false) = true := by decide +kernel
set_option maxRecDepth 100000 in
theorem in_Rh_isMonth {args : List Value} {h : MH} {K : KT} (nB : Nat) (hnB : nB ≤ h.2.2.2) (hL : cat2 args ≤ m_Rh_isMonth.2.2.1) (hdb : noD args = true) (H : ∀ P : PT, (∀ stops n pc lv st h cn sn, wq m_Rh_isMonth.2.2.2.2.1 m_Rh_isMonth.2.2.2.1 nB (0, fun _ => 0) Ct (tabOf r_Rh_isMonth) K P stops n pc lv st h cn sn → P pc lv st h cn sn) → P 0 (entL args m_Rh_isMonth.2.2.1) [] h 0 0) : Ct m_Rh_isMonth args h K := Ct.intro r_Rh_isMonth false nB (by decide) (by decide) ok_Rh_isMonth hnB hL hdb H
def r_Rd_readMonths : List Row := [(0, .aload_n 1, 1, 0, 1, 0, 0, 0, 0, [], md0),
  (1, .getfield 84, 3, 236, 3, 5, 2, 0, 0, [], md0),
  (4, .iload_n 2, 1, 0, 2, 0, 0, 0, 0, [], md0),
  (5, .iconst 0, 1, 0, 0, 0, 0, 0, 0, [], md0),
  (6, .iastore, 1, 0, 0, 0, 0, 0, 0, [], md0),
  (7, .aload_n 1, 1, 0, 1, 0, 0, 0, 0, [], md0),
  (8, .getfield 87, 3, 238, 3, 6, 2, 0, 0, [], md0),
  (11, .iload_n 2, 1, 0, 2, 0, 0, 0, 0, [], md0),
  (12, .bipush 11, 2, 0, 0, 0, 0, 11, 0, [], md0),
  (14, .iastore, 1, 0, 0, 0, 0, 0, 0, [], md0),
  (15, .aload_n 0, 1, 0, 0, 0, 0, 0, 0, [], md0),
  (16, .invokevirtual 34, 3, 747, 4, 0, 0, 0, 0, [], m_Rd_sign),
  (19, .bipush 32, 2, 0, 0, 0, 0, 32, 0, [], md0),
  (21, .if_icmp .eq 5, 3, 0, 26, 0, 0, 0, 0, [], md0),
  (24, .iconst 1, 1, 0, 0, 0, 0, 1, 0, [], md0),
  (25, .ireturn, 1, 0, 0, 0, 0, 0, 0, [], md0),
  (26, .aload_n 0, 1, 0, 0, 0, 0, 0, 0, [], md0),
  (27, .ldc 90, 2, 838, 7, 1, 0, 0, 0, [], md0),
  (29, .invokevirtual 52, 3, 756, 4, 0, 0, 0, 0, [], m_Rd_readWord),
  (32, .ifCond .ne 5, 3, 0, 37, 0, 0, 0, 0, [], md0),
  (35, .iconst 0, 1, 0, 0, 0, 0, 0, 0, [], md0),
  (36, .ireturn, 1, 0, 0, 0, 0, 0, 0, [], md0),
  (37, .aload_n 0, 1, 0, 0, 0, 0, 0, 0, [], md0),
  (38, .invokevirtual 75, 3, 822, 4, 0, 0, 0, 0, [], m_Rd_readNumber),
  (41, .istore_n 3, 1, 0, 3, 0, 0, 0, 0, [], md0),
  (42, .iload_n 3, 1, 0, 3, 0, 0, 0, 0, [], md0),
  (43, .invokestatic 92, 3, 839, 0, 1, 0, 0, 0, [], m_Rh_isMonth),
  (46, .ifCond .eq 12, 3, 0, 58, 0, 0, 0, 0, [], md0),
  (49, .aload_n 0, 1, 0, 0, 0, 0, 0, 0, [], md0),
  (50, .ldc 96, 2, 840, 8, 1, 0, 0, 0, [], md0),
  (52, .invokevirtual 52, 3, 756, 4, 0, 0, 0, 0, [], m_Rd_readWord),
  (55, .ifCond .ne 5, 3, 0, 60, 0, 0, 0, 0, [], md0),
  (58, .iconst 0, 1, 0, 0, 0, 0, 0, 0, [], md0),
  (59, .ireturn, 1, 0, 0, 0, 0, 0, 0, [], md0),
  (60, .aload_n 0, 1, 0, 0, 0, 0, 0, 0, [], md0),
  (61, .invokevirtual 75, 3, 822, 4, 0, 0, 0, 0, [], m_Rd_readNumber),
  (64, .istore 4, 2, 0, 4, 0, 0, 0, 0, [], md0),
  (66, .aload_n 1, 1, 0, 1, 0, 0, 0, 0, [], md0),
  (67, .getfield 84, 3, 236, 3, 5, 2, 0, 0, [], md0),
  (70, .iload_n 2, 1, 0, 2, 0, 0, 0, 0, [], md0),
  (71, .iload_n 3, 1, 0, 3, 0, 0, 0, 0, [], md0),
  (72, .iastore, 1, 0, 0, 0, 0, 0, 0, [], md0),
  (73, .aload_n 1, 1, 0, 1, 0, 0, 0, 0, [], md0),
  (74, .getfield 87, 3, 238, 3, 6, 2, 0, 0, [], md0),
  (77, .iload_n 2, 1, 0, 2, 0, 0, 0, 0, [], md0),
  (78, .iload 4, 2, 0, 4, 0, 0, 0, 0, [], md0),
  (80, .iastore, 1, 0, 0, 0, 0, 0, 0, [], md0),
  (81, .iload 4, 2, 0, 4, 0, 0, 0, 0, [], md0),
  (83, .invokestatic 92, 3, 839, 0, 1, 0, 0, 0, [], m_Rh_isMonth),
  (86, .ifCond .eq 13, 3, 0, 99, 0, 0, 0, 0, [], md0),
  (89, .iload 4, 2, 0, 4, 0, 0, 0, 0, [], md0),
  (91, .iload_n 3, 1, 0, 3, 0, 0, 0, 0, [], md0),
  (92, .if_icmp .lt 7, 3, 0, 99, 0, 0, 0, 0, [], md0),
  (95, .iconst 1, 1, 0, 0, 0, 0, 1, 0, [], md0),
  (96, .goto 4, 3, 0, 100, 0, 0, 0, 0, [], md0),
  (99, .iconst 0, 1, 0, 0, 0, 0, 0, 0, [], md0),
  (100, .ireturn, 1, 0, 0, 0, 0, 0, 0, [], md0)]
set_option maxRecDepth 100000 in
theorem tb_Rd_readMonths : tabOf r_Rd_readMonths 0 = (0, .aload_n 1, 1, 0, 1, 0, 0, 0, 0, [], md0) ∧ tabOf r_Rd_readMonths 1 = (1, .getfield 84, 3, 236, 3, 5, 2, 0, 0, [], md0) ∧ tabOf r_Rd_readMonths 4 = (4, .iload_n 2, 1, 0, 2, 0, 0, 0, 0, [], md0) ∧ tabOf r_Rd_readMonths 5 = (5, .iconst 0, 1, 0, 0, 0, 0, 0, 0, [], md0) ∧ tabOf r_Rd_readMonths 6 = (6, .iastore, 1, 0, 0, 0, 0, 0, 0, [], md0) ∧ tabOf r_Rd_readMonths 7 = (7, .aload_n 1, 1, 0, 1, 0, 0, 0, 0, [], md0) ∧ tabOf r_Rd_readMonths 8 = (8, .getfield 87, 3, 238, 3, 6, 2, 0, 0, [], md0) ∧ tabOf r_Rd_readMonths 11 = (11, .iload_n 2, 1, 0, 2, 0, 0, 0, 0, [], md0) ∧ tabOf r_Rd_readMonths 12 = (12, .bipush 11, 2, 0, 0, 0, 0, 11, 0, [], md0) ∧ tabOf r_Rd_readMonths 14 = (14, .iastore, 1, 0, 0, 0, 0, 0, 0, [], md0) ∧ tabOf r_Rd_readMonths 15 = (15, .aload_n 0, 1, 0, 0, 0, 0, 0, 0, [], md0) ∧ tabOf r_Rd_readMonths 16 = (16, .invokevirtual 34, 3, 747, 4, 0, 0, 0, 0, [], m_Rd_sign) ∧ tabOf r_Rd_readMonths 19 = (19, .bipush 32, 2, 0, 0, 0, 0, 32, 0, [], md0) ∧ tabOf r_Rd_readMonths 21 = (21, .if_icmp .eq 5, 3, 0, 26, 0, 0, 0, 0, [], md0) ∧ tabOf r_Rd_readMonths 24 = (24, .iconst 1, 1, 0, 0, 0, 0, 1, 0, [], md0) ∧ tabOf r_Rd_readMonths 25 = (25, .ireturn, 1, 0, 0, 0, 0, 0, 0, [], md0) ∧ tabOf r_Rd_readMonths 26 = (26, .aload_n 0, 1, 0, 0, 0, 0, 0, 0, [], md0) ∧ tabOf r_Rd_readMonths 27 = (27, .ldc 90, 2, 838, 7, 1, 0, 0, 0, [], md0) ∧ tabOf r_Rd_readMonths 29 = (29, .invokevirtual 52, 3, 756, 4, 0, 0, 0, 0, [], m_Rd_readWord) ∧ tabOf r_Rd_readMonths 32 = (32, .ifCond .ne 5, 3, 0, 37, 0, 0, 0, 0, [], md0) ∧ tabOf r_Rd_readMonths 35 = (35, .iconst 0, 1, 0, 0, 0, 0, 0, 0, [], md0) ∧ tabOf r_Rd_readMonths 36 = (36, .ireturn, 1, 0, 0, 0, 0, 0, 0, [], md0) ∧ tabOf r_Rd_readMonths 37 = (37, .aload_n 0, 1, 0, 0, 0, 0, 0, 0, [], md0) ∧ tabOf r_Rd_readMonths 38 = (38, .invokevirtual 75, 3, 822, 4, 0, 0, 0, 0, [], m_Rd_readNumber) ∧ tabOf r_Rd_readMonths 41 = (41, .istore_n 3, 1, 0, 3, 0, 0, 0, 0, [], md0) ∧ tabOf r_Rd_readMonths 42 = (42, .iload_n 3, 1, 0, 3, 0, 0, 0, 0, [], md0) ∧ tabOf r_Rd_readMonths 43 = (43, .invokestatic 92, 3, 839, 0, 1, 0, 0, 0, [], m_Rh_isMonth) ∧ tabOf r_Rd_readMonths 46 = (46, .ifCond .eq 12, 3, 0, 58, 0, 0, 0, 0, [], md0) ∧ tabOf r_Rd_readMonths 49 = (49, .aload_n 0, 1, 0, 0, 0, 0, 0, 0, [], md0) ∧ tabOf r_Rd_readMonths 50 = (50, .ldc 96, 2, 840, 8, 1, 0, 0, 0, [], md0) ∧ tabOf r_Rd_readMonths 52 = (52, .invokevirtual 52, 3, 756, 4, 0, 0, 0, 0, [], m_Rd_readWord) ∧ tabOf r_Rd_readMonths 55 = (55, .ifCond .ne 5, 3, 0, 60, 0, 0, 0, 0, [], md0) ∧ tabOf r_Rd_readMonths 58 = (58, .iconst 0, 1, 0, 0, 0, 0, 0, 0, [], md0) ∧ tabOf r_Rd_readMonths 59 = (59, .ireturn, 1, 0, 0, 0, 0, 0, 0, [], md0) ∧ tabOf r_Rd_readMonths 60 = (60, .aload_n 0, 1, 0, 0, 0, 0, 0, 0, [], md0) ∧ tabOf r_Rd_readMonths 61 = (61, .invokevirtual 75, 3, 822, 4, 0, 0, 0, 0, [], m_Rd_readNumber) ∧ tabOf r_Rd_readMonths 64 = (64, .istore 4, 2, 0, 4, 0, 0, 0, 0, [], md0) ∧ tabOf r_Rd_readMonths 66 = (66, .aload_n 1, 1, 0, 1, 0, 0, 0, 0, [], md0) ∧ tabOf r_Rd_readMonths 67 = (67, .getfield 84, 3, 236, 3, 5, 2, 0, 0, [], md0) ∧ tabOf r_Rd_readMonths 70 = (70, .iload_n 2, 1, 0, 2, 0, 0, 0, 0, [], md0) ∧ tabOf r_Rd_readMonths 71 = (71, .iload_n 3, 1, 0, 3, 0, 0, 0, 0, [], md0) ∧ tabOf r_Rd_readMonths 72 = (72, .iastore, 1, 0, 0, 0, 0, 0, 0, [], md0) ∧ tabOf r_Rd_readMonths 73 = (73, .aload_n 1, 1, 0, 1, 0, 0, 0, 0, [], md0) ∧ tabOf r_Rd_readMonths 74 = (74, .getfield 87, 3, 238, 3, 6, 2, 0, 0, [], md0) ∧ tabOf r_Rd_readMonths 77 = (77, .iload_n 2, 1, 0, 2, 0, 0, 0, 0, [], md0) ∧ tabOf r_Rd_readMonths 78 = (78, .iload 4, 2, 0, 4, 0, 0, 0, 0, [], md0) ∧ tabOf r_Rd_readMonths 80 = (80, .iastore, 1, 0, 0, 0, 0, 0, 0, [], md0) ∧ tabOf r_Rd_readMonths 81 = (81, .iload 4, 2, 0, 4, 0, 0, 0, 0, [], md0) ∧ tabOf r_Rd_readMonths 83 = (83, .invokestatic 92, 3, 839, 0, 1, 0, 0, 0, [], m_Rh_isMonth) ∧ tabOf r_Rd_readMonths 86 = (86, .ifCond .eq 13, 3, 0, 99, 0, 0, 0, 0, [], md0) ∧ tabOf r_Rd_readMonths 89 = (89, .iload 4, 2, 0, 4, 0, 0, 0, 0, [], md0) ∧ tabOf r_Rd_readMonths 91 = (91, .iload_n 3, 1, 0, 3, 0, 0, 0, 0, [], md0) ∧ tabOf r_Rd_readMonths 92 = (92, .if_icmp .lt 7, 3, 0, 99, 0, 0, 0, 0, [], md0) ∧ tabOf r_Rd_readMonths 95 = (95, .iconst 1, 1, 0, 0, 0, 0, 1, 0, [], md0) ∧ tabOf r_Rd_readMonths 96 = (96, .goto 4, 3, 0, 100, 0, 0, 0, 0, [], md0) ∧ tabOf r_Rd_readMonths 99 = (99, .iconst 0, 1, 0, 0, 0, 0, 0, 0, [], md0) ∧ tabOf r_Rd_readMonths 100 = (100, .ireturn, 1, 0, 0, 0, 0, 0, 0, [], md0) ∧ m_Rd_readMonths.2.2.2.2.1.cells = 0 ∧ m_Rd_readMonths.2.2.2.2.1.slots = 0 ∧ m_Rd_readMonths.2.2.2.2.1.locals = 128 ∧ m_Rd_readMonths.2.2.2.1 = some .boolean ∧ m_Rd_readMonths.2.2.1 = 5 ∧ m_Rd_sign.2.2.2.2.1.cells = 0 ∧ m_Rd_sign.2.2.2.2.1.slots = 0 ∧ m_Rd_sign.2.2.2.2.2.1 = 0 ∧ m_Rd_readWord.2.2.2.2.1.cells = 0 ∧ m_Rd_readWord.2.2.2.2.1.slots = 0 ∧ m_Rd_readWord.2.2.2.2.2.1 = 1 ∧ m_Rd_readNumber.2.2.2.2.1.cells = 0 ∧ m_Rd_readNumber.2.2.2.2.1.slots = 0 ∧ m_Rd_readNumber.2.2.2.2.2.1 = 0 ∧ m_Rh_isMonth.2.2.2.2.1.cells = 0 ∧ m_Rh_isMonth.2.2.2.2.1.slots = 0 ∧ m_Rh_isMonth.2.2.2.2.2.1 = 1 := ⟨rfl, rfl, rfl, rfl, rfl, rfl, rfl, rfl, rfl, rfl, rfl, rfl, rfl, rfl, rfl, rfl, rfl, rfl, rfl, rfl, rfl, rfl, rfl, rfl, rfl, rfl, rfl, rfl, rfl, rfl, rfl, rfl, rfl, rfl, rfl, rfl, rfl, rfl, rfl, rfl, rfl, rfl, rfl, rfl, rfl, rfl, rfl, rfl, rfl, rfl, rfl, rfl, rfl, rfl, rfl, rfl, rfl, rfl, rfl, rfl, rfl, rfl, rfl, rfl, rfl, rfl, rfl, rfl, rfl, rfl, rfl, rfl, rfl, rfl⟩
set_option maxRecDepth 100000 in
theorem ok_Rd_readMonths : r_Rd_readMonths.all (okRow m_Rd_readMonths.2.2.2.2.1 m_Rd_readMonths.1.cls m_Rd_readMonths.2.1 m_Rd_readMonths.2.2.1 false) = true := by decide +kernel
set_option maxRecDepth 100000 in
theorem in_Rd_readMonths {args : List Value} {h : MH} {K : KT} (nB : Nat) (hnB : nB ≤ h.2.2.2) (hL : cat2 args ≤ m_Rd_readMonths.2.2.1) (hdb : noD args = true) (H : ∀ P : PT, (∀ stops n pc lv st h cn sn, wq m_Rd_readMonths.2.2.2.2.1 m_Rd_readMonths.2.2.2.1 nB (0, fun _ => 0) Ct (tabOf r_Rd_readMonths) K P stops n pc lv st h cn sn → P pc lv st h cn sn) → P 0 (entL args m_Rd_readMonths.2.2.1) [] h 0 0) : Ct m_Rd_readMonths args h K := Ct.intro r_Rd_readMonths false nB (by decide) (by decide) ok_Rd_readMonths hnB hL hdb H
def r_Rd_readClause : List Row := [(0, .iconst 0, 1, 0, 0, 0, 0, 0, 0, [], md0),
  (1, .istore_n 3, 1, 0, 3, 0, 0, 0, 0, [], md0),
  (2, .aload_n 0, 1, 0, 0, 0, 0, 0, 0, [], md0),
  (3, .invokevirtual 34, 3, 747, 4, 0, 0, 0, 0, [], m_Rd_sign),
  (6, .lookupswitch 64 #[(98, 54), (112, 44), (115, 34)], 34, 0, 70, 0, 0, 0, 0, [(98, 60), (112, 50), (115, 40)], md0),
  (40, .aload_n 0, 1, 0, 0, 0, 0, 0, 0, [], md0),
  (41, .aload_n 1, 1, 0, 1, 0, 0, 0, 0, [], md0),
  (42, .iload_n 2, 1, 0, 2, 0, 0, 0, 0, [], md0),
  (43, .invokevirtual 38, 3, 751, 4, 0, 0, 0, 0, [], m_Rd_readSource),
  (46, .istore_n 3, 1, 0, 3, 0, 0, 0, 0, [], md0),
  (47, .goto 23, 3, 0, 70, 0, 0, 0, 0, [], md0),
  (50, .aload_n 0, 1, 0, 0, 0, 0, 0, 0, [], md0),
  (51, .aload_n 1, 1, 0, 1, 0, 0, 0, 0, [], md0),
  (52, .iload_n 2, 1, 0, 2, 0, 0, 0, 0, [], md0),
  (53, .invokevirtual 41, 3, 811, 4, 0, 0, 0, 0, [], m_Rd_readPass),
  (56, .istore_n 3, 1, 0, 3, 0, 0, 0, 0, [], md0),
  (57, .goto 13, 3, 0, 70, 0, 0, 0, 0, [], md0),
  (60, .aload_n 0, 1, 0, 0, 0, 0, 0, 0, [], md0),
  (61, .aload_n 1, 1, 0, 1, 0, 0, 0, 0, [], md0),
  (62, .iload_n 2, 1, 0, 2, 0, 0, 0, 0, [], md0),
  (63, .invokevirtual 44, 3, 829, 4, 0, 0, 0, 0, [], m_Rd_readBar),
  (66, .istore_n 3, 1, 0, 3, 0, 0, 0, 0, [], md0),
  (67, .goto 3, 3, 0, 70, 0, 0, 0, 0, [], md0),
  (70, .iload_n 3, 1, 0, 3, 0, 0, 0, 0, [], md0),
  (71, .ifCond .eq 16, 3, 0, 87, 0, 0, 0, 0, [], md0),
  (74, .aload_n 0, 1, 0, 0, 0, 0, 0, 0, [], md0),
  (75, .aload_n 1, 1, 0, 1, 0, 0, 0, 0, [], md0),
  (76, .iload_n 2, 1, 0, 2, 0, 0, 0, 0, [], md0),
  (77, .invokevirtual 47, 3, 834, 4, 0, 0, 0, 0, [], m_Rd_readMonths),
  (80, .ifCond .eq 7, 3, 0, 87, 0, 0, 0, 0, [], md0),
  (83, .iconst 1, 1, 0, 0, 0, 0, 1, 0, [], md0),
  (84, .goto 4, 3, 0, 88, 0, 0, 0, 0, [], md0),
  (87, .iconst 0, 1, 0, 0, 0, 0, 0, 0, [], md0),
  (88, .ireturn, 1, 0, 0, 0, 0, 0, 0, [], md0)]
set_option maxRecDepth 100000 in
theorem tb_Rd_readClause : tabOf r_Rd_readClause 0 = (0, .iconst 0, 1, 0, 0, 0, 0, 0, 0, [], md0) ∧ tabOf r_Rd_readClause 1 = (1, .istore_n 3, 1, 0, 3, 0, 0, 0, 0, [], md0) ∧ tabOf r_Rd_readClause 2 = (2, .aload_n 0, 1, 0, 0, 0, 0, 0, 0, [], md0) ∧ tabOf r_Rd_readClause 3 = (3, .invokevirtual 34, 3, 747, 4, 0, 0, 0, 0, [], m_Rd_sign) ∧ tabOf r_Rd_readClause 6 = (6, .lookupswitch 64 #[(98, 54), (112, 44), (115, 34)], 34, 0, 70, 0, 0, 0, 0, [(98, 60), (112, 50), (115, 40)], md0) ∧ tabOf r_Rd_readClause 40 = (40, .aload_n 0, 1, 0, 0, 0, 0, 0, 0, [], md0) ∧ tabOf r_Rd_readClause 41 = (41, .aload_n 1, 1, 0, 1, 0, 0, 0, 0, [], md0) ∧ tabOf r_Rd_readClause 42 = (42, .iload_n 2, 1, 0, 2, 0, 0, 0, 0, [], md0) ∧ tabOf r_Rd_readClause 43 = (43, .invokevirtual 38, 3, 751, 4, 0, 0, 0, 0, [], m_Rd_readSource) ∧ tabOf r_Rd_readClause 46 = (46, .istore_n 3, 1, 0, 3, 0, 0, 0, 0, [], md0) ∧ tabOf r_Rd_readClause 47 = (47, .goto 23, 3, 0, 70, 0, 0, 0, 0, [], md0) ∧ tabOf r_Rd_readClause 50 = (50, .aload_n 0, 1, 0, 0, 0, 0, 0, 0, [], md0) ∧ tabOf r_Rd_readClause 51 = (51, .aload_n 1, 1, 0, 1, 0, 0, 0, 0, [], md0) ∧ tabOf r_Rd_readClause 52 = (52, .iload_n 2, 1, 0, 2, 0, 0, 0, 0, [], md0) ∧ tabOf r_Rd_readClause 53 = (53, .invokevirtual 41, 3, 811, 4, 0, 0, 0, 0, [], m_Rd_readPass) ∧ tabOf r_Rd_readClause 56 = (56, .istore_n 3, 1, 0, 3, 0, 0, 0, 0, [], md0) ∧ tabOf r_Rd_readClause 57 = (57, .goto 13, 3, 0, 70, 0, 0, 0, 0, [], md0) ∧ tabOf r_Rd_readClause 60 = (60, .aload_n 0, 1, 0, 0, 0, 0, 0, 0, [], md0) ∧ tabOf r_Rd_readClause 61 = (61, .aload_n 1, 1, 0, 1, 0, 0, 0, 0, [], md0) ∧ tabOf r_Rd_readClause 62 = (62, .iload_n 2, 1, 0, 2, 0, 0, 0, 0, [], md0) ∧ tabOf r_Rd_readClause 63 = (63, .invokevirtual 44, 3, 829, 4, 0, 0, 0, 0, [], m_Rd_readBar) ∧ tabOf r_Rd_readClause 66 = (66, .istore_n 3, 1, 0, 3, 0, 0, 0, 0, [], md0) ∧ tabOf r_Rd_readClause 67 = (67, .goto 3, 3, 0, 70, 0, 0, 0, 0, [], md0) ∧ tabOf r_Rd_readClause 70 = (70, .iload_n 3, 1, 0, 3, 0, 0, 0, 0, [], md0) ∧ tabOf r_Rd_readClause 71 = (71, .ifCond .eq 16, 3, 0, 87, 0, 0, 0, 0, [], md0) ∧ tabOf r_Rd_readClause 74 = (74, .aload_n 0, 1, 0, 0, 0, 0, 0, 0, [], md0) ∧ tabOf r_Rd_readClause 75 = (75, .aload_n 1, 1, 0, 1, 0, 0, 0, 0, [], md0) ∧ tabOf r_Rd_readClause 76 = (76, .iload_n 2, 1, 0, 2, 0, 0, 0, 0, [], md0) ∧ tabOf r_Rd_readClause 77 = (77, .invokevirtual 47, 3, 834, 4, 0, 0, 0, 0, [], m_Rd_readMonths) ∧ tabOf r_Rd_readClause 80 = (80, .ifCond .eq 7, 3, 0, 87, 0, 0, 0, 0, [], md0) ∧ tabOf r_Rd_readClause 83 = (83, .iconst 1, 1, 0, 0, 0, 0, 1, 0, [], md0) ∧ tabOf r_Rd_readClause 84 = (84, .goto 4, 3, 0, 88, 0, 0, 0, 0, [], md0) ∧ tabOf r_Rd_readClause 87 = (87, .iconst 0, 1, 0, 0, 0, 0, 0, 0, [], md0) ∧ tabOf r_Rd_readClause 88 = (88, .ireturn, 1, 0, 0, 0, 0, 0, 0, [], md0) ∧ m_Rd_readClause.2.2.2.2.1.cells = 0 ∧ m_Rd_readClause.2.2.2.2.1.slots = 0 ∧ m_Rd_readClause.2.2.2.2.1.locals = 152 ∧ m_Rd_readClause.2.2.2.1 = some .boolean ∧ m_Rd_readClause.2.2.1 = 4 ∧ m_Rd_sign.2.2.2.2.1.cells = 0 ∧ m_Rd_sign.2.2.2.2.1.slots = 0 ∧ m_Rd_sign.2.2.2.2.2.1 = 0 ∧ m_Rd_readSource.2.2.2.2.1.cells = 0 ∧ m_Rd_readSource.2.2.2.2.1.slots = 0 ∧ m_Rd_readSource.2.2.2.2.2.1 = 2 ∧ m_Rd_readPass.2.2.2.2.1.cells = 0 ∧ m_Rd_readPass.2.2.2.2.1.slots = 0 ∧ m_Rd_readPass.2.2.2.2.2.1 = 2 ∧ m_Rd_readBar.2.2.2.2.1.cells = 0 ∧ m_Rd_readBar.2.2.2.2.1.slots = 0 ∧ m_Rd_readBar.2.2.2.2.2.1 = 2 ∧ m_Rd_readMonths.2.2.2.2.1.cells = 0 ∧ m_Rd_readMonths.2.2.2.2.1.slots = 0 ∧ m_Rd_readMonths.2.2.2.2.2.1 = 2 := ⟨rfl, rfl, rfl, rfl, rfl, rfl, rfl, rfl, rfl, rfl, rfl, rfl, rfl, rfl, rfl, rfl, rfl, rfl, rfl, rfl, rfl, rfl, rfl, rfl, rfl, rfl, rfl, rfl, rfl, rfl, rfl, rfl, rfl, rfl, rfl, rfl, rfl, rfl, rfl, rfl, rfl, rfl, rfl, rfl, rfl, rfl, rfl, rfl, rfl, rfl, rfl, rfl, rfl, rfl⟩
set_option maxRecDepth 100000 in
theorem ok_Rd_readClause : r_Rd_readClause.all (okRow m_Rd_readClause.2.2.2.2.1 m_Rd_readClause.1.cls m_Rd_readClause.2.1 m_Rd_readClause.2.2.1 false) = true := by decide +kernel
set_option maxRecDepth 100000 in
theorem in_Rd_readClause {args : List Value} {h : MH} {K : KT} (nB : Nat) (hnB : nB ≤ h.2.2.2) (hL : cat2 args ≤ m_Rd_readClause.2.2.1) (hdb : noD args = true) (H : ∀ P : PT, (∀ stops n pc lv st h cn sn, wq m_Rd_readClause.2.2.2.2.1 m_Rd_readClause.2.2.2.1 nB (0, fun _ => 0) Ct (tabOf r_Rd_readClause) K P stops n pc lv st h cn sn → P pc lv st h cn sn) → P 0 (entL args m_Rd_readClause.2.2.1) [] h 0 0) : Ct m_Rd_readClause args h K := Ct.intro r_Rd_readClause false nB (by decide) (by decide) ok_Rd_readClause hnB hL hdb H
def r_Rd_readInto : List Row := [(0, .aload_n 0, 1, 0, 0, 0, 0, 0, 0, [], md0),
  (1, .iconst 0, 1, 0, 0, 0, 0, 0, 0, [], md0),
  (2, .putfield 19, 3, 320, 4, 2, 0, 0, 0, [], md0),
  (5, .iconst 0, 1, 0, 0, 0, 0, 0, 0, [], md0),
  (6, .istore_n 2, 1, 0, 2, 0, 0, 0, 0, [], md0),
  (7, .iload_n 2, 1, 0, 2, 0, 0, 0, 0, [], md0),
  (8, .iconst 5, 1, 0, 0, 0, 0, 5, 0, [], md0),
  (9, .if_icmp .ge 89, 3, 0, 98, 0, 0, 0, 0, [], md0),
  (12, .aload_n 0, 1, 0, 0, 0, 0, 0, 0, [], md0),
  (13, .aload_n 1, 1, 0, 1, 0, 0, 0, 0, [], md0),
  (14, .aload_n 1, 1, 0, 1, 0, 0, 0, 0, [], md0),
  (15, .getfield 22, 3, 240, 3, 7, 0, 0, 0, [], md0),
  (18, .iconst 5, 1, 0, 0, 0, 0, 5, 0, [], md0),
  (19, .imul, 1, 0, 0, 0, 0, 0, 0, [], md0),
  (20, .iload_n 2, 1, 0, 2, 0, 0, 0, 0, [], md0),
  (21, .iadd, 1, 0, 0, 0, 0, 0, 0, [], md0),
  (22, .invokevirtual 27, 3, 743, 4, 0, 0, 0, 0, [], m_Rd_readClause),
  (25, .ifCond .ne 8, 3, 0, 33, 0, 0, 0, 0, [], md0),
  (28, .aload_n 0, 1, 0, 0, 0, 0, 0, 0, [], md0),
  (29, .getfield 19, 3, 320, 4, 2, 0, 0, 0, [], md0),
  (32, .ireturn, 1, 0, 0, 0, 0, 0, 0, [], md0),
  (33, .aload_n 0, 1, 0, 0, 0, 0, 0, 0, [], md0),
  (34, .getfield 19, 3, 320, 4, 2, 0, 0, 0, [], md0),
  (37, .aload_n 0, 1, 0, 0, 0, 0, 0, 0, [], md0),
  (38, .getfield 15, 3, 318, 4, 1, 0, 0, 0, [], md0),
  (41, .if_icmp .ne 17, 3, 0, 58, 0, 0, 0, 0, [], md0),
  (44, .aload_n 1, 1, 0, 1, 0, 0, 0, 0, [], md0),
  (45, .getfield 31, 3, 229, 3, 2, 2, 0, 0, [], md0),
  (48, .aload_n 1, 1, 0, 1, 0, 0, 0, 0, [], md0),
  (49, .getfield 22, 3, 240, 3, 7, 0, 0, 0, [], md0),
  (52, .iload_n 2, 1, 0, 2, 0, 0, 0, 0, [], md0),
  (53, .iconst 1, 1, 0, 0, 0, 0, 1, 0, [], md0),
  (54, .iadd, 1, 0, 0, 0, 0, 0, 0, [], md0),
  (55, .iastore, 1, 0, 0, 0, 0, 0, 0, [], md0),
  (56, .iconst (-1), 1, 0, 0, 0, 0, (-1), 0, [], md0),
  (57, .ireturn, 1, 0, 0, 0, 0, 0, 0, [], md0),
  (58, .aload_n 0, 1, 0, 0, 0, 0, 0, 0, [], md0),
  (59, .getfield 11, 3, 317, 4, 0, 2, 0, 0, [], md0),
  (62, .aload_n 0, 1, 0, 0, 0, 0, 0, 0, [], md0),
  (63, .getfield 19, 3, 320, 4, 2, 0, 0, 0, [], md0),
  (66, .iaload, 1, 0, 0, 0, 0, 0, 0, [], md0),
  (67, .bipush 59, 2, 0, 0, 0, 0, 59, 0, [], md0),
  (69, .if_icmp .ne 8, 3, 0, 77, 0, 0, 0, 0, [], md0),
  (72, .iload_n 2, 1, 0, 2, 0, 0, 0, 0, [], md0),
  (73, .iconst 4, 1, 0, 0, 0, 0, 4, 0, [], md0),
  (74, .if_icmp .ne 8, 3, 0, 82, 0, 0, 0, 0, [], md0),
  (77, .aload_n 0, 1, 0, 0, 0, 0, 0, 0, [], md0),
  (78, .getfield 19, 3, 320, 4, 2, 0, 0, 0, [], md0),
  (81, .ireturn, 1, 0, 0, 0, 0, 0, 0, [], md0),
  (82, .aload_n 0, 1, 0, 0, 0, 0, 0, 0, [], md0),
  (83, .dup, 1, 0, 0, 0, 0, 0, 0, [], md0),
  (84, .getfield 19, 3, 320, 4, 2, 0, 0, 0, [], md0),
  (87, .iconst 1, 1, 0, 0, 0, 0, 1, 0, [], md0),
  (88, .iadd, 1, 0, 0, 0, 0, 0, 0, [], md0),
  (89, .putfield 19, 3, 320, 4, 2, 0, 0, 0, [], md0),
  (92, .iinc 2 1, 3, 0, 2, 0, 0, 1, 0, [], md0),
  (95, .goto (-88), 3, 0, 7, 0, 0, 0, 0, [], md0),
  (98, .aload_n 0, 1, 0, 0, 0, 0, 0, 0, [], md0),
  (99, .getfield 19, 3, 320, 4, 2, 0, 0, 0, [], md0),
  (102, .ireturn, 1, 0, 0, 0, 0, 0, 0, [], md0)]
set_option maxRecDepth 100000 in
theorem tb_Rd_readInto : tabOf r_Rd_readInto 0 = (0, .aload_n 0, 1, 0, 0, 0, 0, 0, 0, [], md0) ∧ tabOf r_Rd_readInto 1 = (1, .iconst 0, 1, 0, 0, 0, 0, 0, 0, [], md0) ∧ tabOf r_Rd_readInto 2 = (2, .putfield 19, 3, 320, 4, 2, 0, 0, 0, [], md0) ∧ tabOf r_Rd_readInto 5 = (5, .iconst 0, 1, 0, 0, 0, 0, 0, 0, [], md0) ∧ tabOf r_Rd_readInto 6 = (6, .istore_n 2, 1, 0, 2, 0, 0, 0, 0, [], md0) ∧ tabOf r_Rd_readInto 7 = (7, .iload_n 2, 1, 0, 2, 0, 0, 0, 0, [], md0) ∧ tabOf r_Rd_readInto 8 = (8, .iconst 5, 1, 0, 0, 0, 0, 5, 0, [], md0) ∧ tabOf r_Rd_readInto 9 = (9, .if_icmp .ge 89, 3, 0, 98, 0, 0, 0, 0, [], md0) ∧ tabOf r_Rd_readInto 12 = (12, .aload_n 0, 1, 0, 0, 0, 0, 0, 0, [], md0) ∧ tabOf r_Rd_readInto 13 = (13, .aload_n 1, 1, 0, 1, 0, 0, 0, 0, [], md0) ∧ tabOf r_Rd_readInto 14 = (14, .aload_n 1, 1, 0, 1, 0, 0, 0, 0, [], md0) ∧ tabOf r_Rd_readInto 15 = (15, .getfield 22, 3, 240, 3, 7, 0, 0, 0, [], md0) ∧ tabOf r_Rd_readInto 18 = (18, .iconst 5, 1, 0, 0, 0, 0, 5, 0, [], md0) ∧ tabOf r_Rd_readInto 19 = (19, .imul, 1, 0, 0, 0, 0, 0, 0, [], md0) ∧ tabOf r_Rd_readInto 20 = (20, .iload_n 2, 1, 0, 2, 0, 0, 0, 0, [], md0) ∧ tabOf r_Rd_readInto 21 = (21, .iadd, 1, 0, 0, 0, 0, 0, 0, [], md0) ∧ tabOf r_Rd_readInto 22 = (22, .invokevirtual 27, 3, 743, 4, 0, 0, 0, 0, [], m_Rd_readClause) ∧ tabOf r_Rd_readInto 25 = (25, .ifCond .ne 8, 3, 0, 33, 0, 0, 0, 0, [], md0) ∧ tabOf r_Rd_readInto 28 = (28, .aload_n 0, 1, 0, 0, 0, 0, 0, 0, [], md0) ∧ tabOf r_Rd_readInto 29 = (29, .getfield 19, 3, 320, 4, 2, 0, 0, 0, [], md0) ∧ tabOf r_Rd_readInto 32 = (32, .ireturn, 1, 0, 0, 0, 0, 0, 0, [], md0) ∧ tabOf r_Rd_readInto 33 = (33, .aload_n 0, 1, 0, 0, 0, 0, 0, 0, [], md0) ∧ tabOf r_Rd_readInto 34 = (34, .getfield 19, 3, 320, 4, 2, 0, 0, 0, [], md0) ∧ tabOf r_Rd_readInto 37 = (37, .aload_n 0, 1, 0, 0, 0, 0, 0, 0, [], md0) ∧ tabOf r_Rd_readInto 38 = (38, .getfield 15, 3, 318, 4, 1, 0, 0, 0, [], md0) ∧ tabOf r_Rd_readInto 41 = (41, .if_icmp .ne 17, 3, 0, 58, 0, 0, 0, 0, [], md0) ∧ tabOf r_Rd_readInto 44 = (44, .aload_n 1, 1, 0, 1, 0, 0, 0, 0, [], md0) ∧ tabOf r_Rd_readInto 45 = (45, .getfield 31, 3, 229, 3, 2, 2, 0, 0, [], md0) ∧ tabOf r_Rd_readInto 48 = (48, .aload_n 1, 1, 0, 1, 0, 0, 0, 0, [], md0) ∧ tabOf r_Rd_readInto 49 = (49, .getfield 22, 3, 240, 3, 7, 0, 0, 0, [], md0) ∧ tabOf r_Rd_readInto 52 = (52, .iload_n 2, 1, 0, 2, 0, 0, 0, 0, [], md0) ∧ tabOf r_Rd_readInto 53 = (53, .iconst 1, 1, 0, 0, 0, 0, 1, 0, [], md0) ∧ tabOf r_Rd_readInto 54 = (54, .iadd, 1, 0, 0, 0, 0, 0, 0, [], md0) ∧ tabOf r_Rd_readInto 55 = (55, .iastore, 1, 0, 0, 0, 0, 0, 0, [], md0) ∧ tabOf r_Rd_readInto 56 = (56, .iconst (-1), 1, 0, 0, 0, 0, (-1), 0, [], md0) ∧ tabOf r_Rd_readInto 57 = (57, .ireturn, 1, 0, 0, 0, 0, 0, 0, [], md0) ∧ tabOf r_Rd_readInto 58 = (58, .aload_n 0, 1, 0, 0, 0, 0, 0, 0, [], md0) ∧ tabOf r_Rd_readInto 59 = (59, .getfield 11, 3, 317, 4, 0, 2, 0, 0, [], md0) ∧ tabOf r_Rd_readInto 62 = (62, .aload_n 0, 1, 0, 0, 0, 0, 0, 0, [], md0) ∧ tabOf r_Rd_readInto 63 = (63, .getfield 19, 3, 320, 4, 2, 0, 0, 0, [], md0) ∧ tabOf r_Rd_readInto 66 = (66, .iaload, 1, 0, 0, 0, 0, 0, 0, [], md0) ∧ tabOf r_Rd_readInto 67 = (67, .bipush 59, 2, 0, 0, 0, 0, 59, 0, [], md0) ∧ tabOf r_Rd_readInto 69 = (69, .if_icmp .ne 8, 3, 0, 77, 0, 0, 0, 0, [], md0) ∧ tabOf r_Rd_readInto 72 = (72, .iload_n 2, 1, 0, 2, 0, 0, 0, 0, [], md0) ∧ tabOf r_Rd_readInto 73 = (73, .iconst 4, 1, 0, 0, 0, 0, 4, 0, [], md0) ∧ tabOf r_Rd_readInto 74 = (74, .if_icmp .ne 8, 3, 0, 82, 0, 0, 0, 0, [], md0) ∧ tabOf r_Rd_readInto 77 = (77, .aload_n 0, 1, 0, 0, 0, 0, 0, 0, [], md0) ∧ tabOf r_Rd_readInto 78 = (78, .getfield 19, 3, 320, 4, 2, 0, 0, 0, [], md0) ∧ tabOf r_Rd_readInto 81 = (81, .ireturn, 1, 0, 0, 0, 0, 0, 0, [], md0) ∧ tabOf r_Rd_readInto 82 = (82, .aload_n 0, 1, 0, 0, 0, 0, 0, 0, [], md0) ∧ tabOf r_Rd_readInto 83 = (83, .dup, 1, 0, 0, 0, 0, 0, 0, [], md0) ∧ tabOf r_Rd_readInto 84 = (84, .getfield 19, 3, 320, 4, 2, 0, 0, 0, [], md0) ∧ tabOf r_Rd_readInto 87 = (87, .iconst 1, 1, 0, 0, 0, 0, 1, 0, [], md0) ∧ tabOf r_Rd_readInto 88 = (88, .iadd, 1, 0, 0, 0, 0, 0, 0, [], md0) ∧ tabOf r_Rd_readInto 89 = (89, .putfield 19, 3, 320, 4, 2, 0, 0, 0, [], md0) ∧ tabOf r_Rd_readInto 92 = (92, .iinc 2 1, 3, 0, 2, 0, 0, 1, 0, [], md0) ∧ tabOf r_Rd_readInto 95 = (95, .goto (-88), 3, 0, 7, 0, 0, 0, 0, [], md0) ∧ tabOf r_Rd_readInto 98 = (98, .aload_n 0, 1, 0, 0, 0, 0, 0, 0, [], md0) ∧ tabOf r_Rd_readInto 99 = (99, .getfield 19, 3, 320, 4, 2, 0, 0, 0, [], md0) ∧ tabOf r_Rd_readInto 102 = (102, .ireturn, 1, 0, 0, 0, 0, 0, 0, [], md0) ∧ m_Rd_readInto.2.2.2.2.1.cells = 0 ∧ m_Rd_readInto.2.2.2.2.1.slots = 0 ∧ m_Rd_readInto.2.2.2.2.1.locals = 175 ∧ m_Rd_readInto.2.2.2.1 = some .int ∧ m_Rd_readInto.2.2.1 = 3 ∧ m_Rd_readClause.2.2.2.2.1.cells = 0 ∧ m_Rd_readClause.2.2.2.2.1.slots = 0 ∧ m_Rd_readClause.2.2.2.2.2.1 = 2 := ⟨rfl, rfl, rfl, rfl, rfl, rfl, rfl, rfl, rfl, rfl, rfl, rfl, rfl, rfl, rfl, rfl, rfl, rfl, rfl, rfl, rfl, rfl, rfl, rfl, rfl, rfl, rfl, rfl, rfl, rfl, rfl, rfl, rfl, rfl, rfl, rfl, rfl, rfl, rfl, rfl, rfl, rfl, rfl, rfl, rfl, rfl, rfl, rfl, rfl, rfl, rfl, rfl, rfl, rfl, rfl, rfl, rfl, rfl, rfl, rfl, rfl, rfl, rfl, rfl, rfl, rfl, rfl, rfl⟩
set_option maxRecDepth 100000 in
theorem ok_Rd_readInto : r_Rd_readInto.all (okRow m_Rd_readInto.2.2.2.2.1 m_Rd_readInto.1.cls m_Rd_readInto.2.1 m_Rd_readInto.2.2.1 false) = true := by decide +kernel
set_option maxRecDepth 100000 in
theorem in_Rd_readInto {args : List Value} {h : MH} {K : KT} (nB : Nat) (hnB : nB ≤ h.2.2.2) (hL : cat2 args ≤ m_Rd_readInto.2.2.1) (hdb : noD args = true) (H : ∀ P : PT, (∀ stops n pc lv st h cn sn, wq m_Rd_readInto.2.2.2.2.1 m_Rd_readInto.2.2.2.1 nB (0, fun _ => 0) Ct (tabOf r_Rd_readInto) K P stops n pc lv st h cn sn → P pc lv st h cn sn) → P 0 (entL args m_Rd_readInto.2.2.1) [] h 0 0) : Ct m_Rd_readInto args h K := Ct.intro r_Rd_readInto false nB (by decide) (by decide) ok_Rd_readInto hnB hL hdb H
def r_Ro_init : List Row := [(0, .aload_n 0, 1, 0, 0, 0, 0, 0, 0, [], md0),
  (1, .invokespecial 3, 3, 176, 0, 5, 0, 0, 0, [], md0),
  (4, .aload_n 0, 1, 0, 0, 0, 0, 0, 0, [], md0),
  (5, .bipush 40, 2, 0, 0, 0, 0, 40, 0, [], md0),
  (7, .newarray .int, 2, 137, 0, 40, 0, 40, 0, [], md0),
  (9, .putfield 9, 3, 177, 5, 0, 2, 0, 0, [], md0),
  (12, .aload_n 0, 1, 0, 0, 0, 0, 0, 0, [], md0),
  (13, .bipush 40, 2, 0, 0, 0, 0, 40, 0, [], md0),
  (15, .newarray .int, 2, 137, 0, 40, 0, 40, 0, [], md0),
  (17, .putfield 15, 3, 180, 5, 1, 2, 0, 0, [], md0),
  (20, .aload_n 0, 1, 0, 0, 0, 0, 0, 0, [], md0),
  (21, .bipush 40, 2, 0, 0, 0, 0, 40, 0, [], md0),
  (23, .newarray .int, 2, 137, 0, 40, 0, 40, 0, [], md0),
  (25, .putfield 18, 3, 183, 5, 2, 2, 0, 0, [], md0),
  (28, .aload_n 0, 1, 0, 0, 0, 0, 0, 0, [], md0),
  (29, .bipush 40, 2, 0, 0, 0, 0, 40, 0, [], md0),
  (31, .newarray .int, 2, 137, 0, 40, 0, 40, 0, [], md0),
  (33, .putfield 21, 3, 186, 5, 3, 2, 0, 0, [], md0),
  (36, .aload_n 0, 1, 0, 0, 0, 0, 0, 0, [], md0),
  (37, .bipush 40, 2, 0, 0, 0, 0, 40, 0, [], md0),
  (39, .newarray .int, 2, 137, 0, 40, 0, 40, 0, [], md0),
  (41, .putfield 24, 3, 190, 5, 4, 2, 0, 0, [], md0),
  (44, .aload_n 0, 1, 0, 0, 0, 0, 0, 0, [], md0),
  (45, .bipush 40, 2, 0, 0, 0, 0, 40, 0, [], md0),
  (47, .newarray .int, 2, 137, 0, 40, 0, 40, 0, [], md0),
  (49, .putfield 27, 3, 192, 5, 5, 2, 0, 0, [], md0),
  (52, .aload_n 0, 1, 0, 0, 0, 0, 0, 0, [], md0),
  (53, .bipush 40, 2, 0, 0, 0, 0, 40, 0, [], md0),
  (55, .newarray .int, 2, 137, 0, 40, 0, 40, 0, [], md0),
  (57, .putfield 30, 3, 199, 5, 8, 2, 0, 0, [], md0),
  (60, .return_, 1, 0, 0, 0, 0, 0, 0, [], md0)]
set_option maxRecDepth 100000 in
theorem tb_Ro_init : tabOf r_Ro_init 0 = (0, .aload_n 0, 1, 0, 0, 0, 0, 0, 0, [], md0) ∧ tabOf r_Ro_init 1 = (1, .invokespecial 3, 3, 176, 0, 5, 0, 0, 0, [], md0) ∧ tabOf r_Ro_init 4 = (4, .aload_n 0, 1, 0, 0, 0, 0, 0, 0, [], md0) ∧ tabOf r_Ro_init 5 = (5, .bipush 40, 2, 0, 0, 0, 0, 40, 0, [], md0) ∧ tabOf r_Ro_init 7 = (7, .newarray .int, 2, 137, 0, 40, 0, 40, 0, [], md0) ∧ tabOf r_Ro_init 9 = (9, .putfield 9, 3, 177, 5, 0, 2, 0, 0, [], md0) ∧ tabOf r_Ro_init 12 = (12, .aload_n 0, 1, 0, 0, 0, 0, 0, 0, [], md0) ∧ tabOf r_Ro_init 13 = (13, .bipush 40, 2, 0, 0, 0, 0, 40, 0, [], md0) ∧ tabOf r_Ro_init 15 = (15, .newarray .int, 2, 137, 0, 40, 0, 40, 0, [], md0) ∧ tabOf r_Ro_init 17 = (17, .putfield 15, 3, 180, 5, 1, 2, 0, 0, [], md0) ∧ tabOf r_Ro_init 20 = (20, .aload_n 0, 1, 0, 0, 0, 0, 0, 0, [], md0) ∧ tabOf r_Ro_init 21 = (21, .bipush 40, 2, 0, 0, 0, 0, 40, 0, [], md0) ∧ tabOf r_Ro_init 23 = (23, .newarray .int, 2, 137, 0, 40, 0, 40, 0, [], md0) ∧ tabOf r_Ro_init 25 = (25, .putfield 18, 3, 183, 5, 2, 2, 0, 0, [], md0) ∧ tabOf r_Ro_init 28 = (28, .aload_n 0, 1, 0, 0, 0, 0, 0, 0, [], md0) ∧ tabOf r_Ro_init 29 = (29, .bipush 40, 2, 0, 0, 0, 0, 40, 0, [], md0) ∧ tabOf r_Ro_init 31 = (31, .newarray .int, 2, 137, 0, 40, 0, 40, 0, [], md0) ∧ tabOf r_Ro_init 33 = (33, .putfield 21, 3, 186, 5, 3, 2, 0, 0, [], md0) ∧ tabOf r_Ro_init 36 = (36, .aload_n 0, 1, 0, 0, 0, 0, 0, 0, [], md0) ∧ tabOf r_Ro_init 37 = (37, .bipush 40, 2, 0, 0, 0, 0, 40, 0, [], md0) ∧ tabOf r_Ro_init 39 = (39, .newarray .int, 2, 137, 0, 40, 0, 40, 0, [], md0) ∧ tabOf r_Ro_init 41 = (41, .putfield 24, 3, 190, 5, 4, 2, 0, 0, [], md0) ∧ tabOf r_Ro_init 44 = (44, .aload_n 0, 1, 0, 0, 0, 0, 0, 0, [], md0) ∧ tabOf r_Ro_init 45 = (45, .bipush 40, 2, 0, 0, 0, 0, 40, 0, [], md0) ∧ tabOf r_Ro_init 47 = (47, .newarray .int, 2, 137, 0, 40, 0, 40, 0, [], md0) ∧ tabOf r_Ro_init 49 = (49, .putfield 27, 3, 192, 5, 5, 2, 0, 0, [], md0) ∧ tabOf r_Ro_init 52 = (52, .aload_n 0, 1, 0, 0, 0, 0, 0, 0, [], md0) ∧ tabOf r_Ro_init 53 = (53, .bipush 40, 2, 0, 0, 0, 0, 40, 0, [], md0) ∧ tabOf r_Ro_init 55 = (55, .newarray .int, 2, 137, 0, 40, 0, 40, 0, [], md0) ∧ tabOf r_Ro_init 57 = (57, .putfield 30, 3, 199, 5, 8, 2, 0, 0, [], md0) ∧ tabOf r_Ro_init 60 = (60, .return_, 1, 0, 0, 0, 0, 0, 0, [], md0) ∧ m_Ro_init.2.2.2.2.1.cells = 7 ∧ m_Ro_init.2.2.2.2.1.slots = 280 ∧ m_Ro_init.2.2.2.2.1.locals = 20 ∧ m_Ro_init.2.2.2.1 = none ∧ m_Ro_init.2.2.1 = 1 := ⟨rfl, rfl, rfl, rfl, rfl, rfl, rfl, rfl, rfl, rfl, rfl, rfl, rfl, rfl, rfl, rfl, rfl, rfl, rfl, rfl, rfl, rfl, rfl, rfl, rfl, rfl, rfl, rfl, rfl, rfl, rfl, rfl, rfl, rfl, rfl, rfl⟩
set_option maxRecDepth 100000 in
theorem ok_Ro_init : r_Ro_init.all (okRow m_Ro_init.2.2.2.2.1 m_Ro_init.1.cls m_Ro_init.2.1 m_Ro_init.2.2.1 true) = true := by decide +kernel
set_option maxRecDepth 100000 in
theorem in_Ro_init {args : List Value} {h : MH} {K : KT} (nB : Nat) (hnB : nB ≤ h.2.2.2) (hL : cat2 args ≤ m_Ro_init.2.2.1) (hdb : noD args = true) (H : ∀ P : PT, (∀ stops n pc lv st h cn sn, wq m_Ro_init.2.2.2.2.1 m_Ro_init.2.2.2.1 nB (0, fun _ => 0) Ct (tabOf r_Ro_init) K P stops n pc lv st h cn sn → P pc lv st h cn sn) → P 0 (entL args m_Ro_init.2.2.1) [] h 0 0) : Ct m_Ro_init args h K := Ct.intro r_Ro_init true nB (by decide) (by decide) ok_Ro_init hnB hL hdb H
