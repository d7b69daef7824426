def dOKb (R : Room) (d : MD) : Bool := atw d.2.2.2.2.2.2.1 (.code d.1 d.2.1 d.2.2.1 d.2.2.2.1) && atw d.2.2.2.2.2.2.2.1 (.initialized d.1.cls) && decide (d.1.cls ≠ "java/lang/invoke/MethodHandle") && decide (d.1.cls ≠ "java/lang/invoke/VarHandle") && decide ((parseMethodDescriptor d.1.desc).map (fun d => d.parameters.length) = some d.2.2.2.2.2.1) && decide (d.2.2.2.2.1.frames + 1 ≤ R.frames) && decide (8 + (d.2.2.1 + 11) + d.2.2.2.2.1.locals ≤ R.locals)
theorem dOKb_ok {R : Room} {d : MD} (h : dOKb R d = true) : dOK R d := by
  simp only [dOKb, Bool.and_eq_true, decide_eq_true_eq] at h
  obtain ⟨⟨⟨⟨⟨⟨h1, h2⟩, h3⟩, h4⟩, h5⟩, h6⟩, h7⟩ := h
  exact ⟨atw_mem h1, atw_mem h2, ⟨h3, h4, h5⟩, h6, h7⟩
def okL (own : String) (i w b : Nat) (y : MethodName) : Bool := if b = 1 then atn w (.methodLinkNest own i y "RiverHead") else atw w (.methodLink own i y)
theorem okL_ok {own : String} {i w b : Nat} {y : MethodName} (h : okL own i w b y = true) : Cond.methodLink own i y ∈ goodT ∨ Cond.methodLinkNest own i y "RiverHead" ∈ nestT := by
  unfold okL at h
  split at h
  · exact Or.inr (atn_mem h)
  · exact Or.inl (atw_mem h)
def okRow (R : Room) (own : String) (cc : ByteArray) (nL : Nat) (isI : Bool) (q : Row) : Bool :=
  match q with
  | (pc, i, len, w, a, b, t, v, u, sw, d) => decide (decode cc pc = .ok (i, len)) && (match i with
  | .iconst n => decide (len = 1) && decide (Int32.ofInt n = v)
  | .bipush n => decide (len = 2) && decide ((Int8.ofInt n).toInt32 = v)
  | .sipush n => decide (len = 3) && decide ((Int16.ofInt n).toInt32 = v)
  | .ldc n => decide (len = 2) && (if b = 0 then atw w (.constant own n v) else decide (a < 9) && decide ((own, n, (strT.getD (strT.findIdx (fun q => q.1 == own && q.2.1 == n)) ("", 0, "", 0)).2.2.1, a) ∈ strT))
  | .ldc_w n => decide (len = 3) && atw w (.constant own n v)
  | .lconst n => decide (len = 1) && decide (Int64.ofNat (n : Nat) = u)
  | .ldc2_w n => decide (len = 3) && atw w (.constantLong own n u)
  | .iload j => decide (len = 2) && decide (j = a)
  | .iload_n j => decide (len = 1) && decide ((j : Nat) = a)
  | .istore j => decide (len = 2) && decide (j = a) && decide (a < nL)
  | .istore_n j => decide (len = 1) && decide ((j : Nat) = a) && decide (a < nL)
  | .lload j => decide (len = 2) && decide (j = a)
  | .lload_n j => decide (len = 1) && decide ((j : Nat) = a)
  | .lstore j => decide (len = 2) && decide (j = a) && decide (a + 1 < nL)
  | .lstore_n j => decide (len = 1) && decide ((j : Nat) = a) && decide (a + 1 < nL)
  | .aload j => decide (len = 2) && decide (j = a)
  | .aload_n j => decide (len = 1) && decide ((j : Nat) = a)
  | .astore j => decide (len = 2) && decide (j = a) && decide (a < nL)
  | .astore_n j => decide (len = 1) && decide ((j : Nat) = a) && decide (a < nL)
  | .iinc j n => decide (len = 3) && decide (j = a) && decide (Int32.ofInt n = v) && decide (a < nL)
  | .iadd => decide (len = 1)
  | .isub => decide (len = 1)
  | .imul => decide (len = 1)
  | .iand => decide (len = 1)
  | .ior => decide (len = 1)
  | .ixor => decide (len = 1)
  | .ineg => decide (len = 1)
  | .idiv => decide (len = 1)
  | .irem => decide (len = 1)
  | .ishl => decide (len = 1)
  | .ishr => decide (len = 1)
  | .iushr => decide (len = 1)
  | .ladd => decide (len = 1)
  | .lsub => decide (len = 1)
  | .land => decide (len = 1)
  | .lor => decide (len = 1)
  | .lxor => decide (len = 1)
  | .lshl => decide (len = 1)
  | .lshr => decide (len = 1)
  | .lushr => decide (len = 1)
  | .i2l => decide (len = 1)
  | .l2i => decide (len = 1)
  | .i2b => decide (len = 1)
  | .i2s => decide (len = 1)
  | .lcmp => decide (len = 1)
  | .dup => decide (len = 1)
  | .dup2 => decide (len = 1)
  | .iaload => decide (len = 1)
  | .laload => decide (len = 1)
  | .aaload => decide (len = 1)
  | .iastore => decide (len = 1)
  | .lastore => decide (len = 1)
  | .aastore => decide (len = 1)
  | .arraylength => decide (len = 1)
  | .ireturn => decide (len = 1)
  | .lreturn => decide (len = 1)
  | .return_ => decide (len = 1)
  | .ifCond _ off => decide (len = 3) && decide ((pc : Int) + off = (a : Int))
  | .if_icmp _ off => decide (len = 3) && decide ((pc : Int) + off = (a : Int))
  | .goto off => decide (len = 3) && decide ((pc : Int) + off = (a : Int))
  | .ifnonnull off => decide (len = 3) && decide ((pc : Int) + off = (a : Int))
  | .getfield j => decide (len = 3) && (match vwCl[a]? with | some (_, T, N) => decide (b < N) && decide ((FT a)[b]? = some t) && atw w (.fieldLink own j (T b).1 (T b).2.1 (T b).2.2.1) | none => false)
  | .putfield j => decide (len = 3) && (match vwCl[a]? with | some (_, T, N) => decide (b < N) && decide ((FT a)[b]? = some t) && atw w (.fieldLink own j (T b).1 (T b).2.1 (T b).2.2.1) && (decide ((T b).2.2.2 = false) || (isI && decide ((T b).1 = own))) && decide (tyF (clTy a b) = t) && decide (t = 0 → clTy a b = .int) && decide (t = 1 → clTy a b = .long) && decide (t = 3 → clTy a b = .boolean) && decide (t < 4) | none => false)
  | .newarray ty => decide (len = 2) && decide (¬ v < 0) && decide (v.toNatClampNeg = b) && decide (b * 8 ≤ 536870912) && (match ty with | .int => decide (t = 0) && atw w (.arrayClass .int) | .long => decide (t = 1) && atw w (.arrayClass .long) | _ => false)
  | .anewarray j => decide (len = 3) && decide (¬ v < 0) && decide (v.toNatClampNeg = b) && decide (b * 8 ≤ 536870912) && atw w (.classLink own j "RiverHead$Sheet")
  | .new j => decide (len = 3) && (match vwCl[a]? with | some (C, _, N) => decide (N = b) && atw w (.classLink own j C) | none => false)
  | .invokestatic j => decide (len = 3) && (if b = 4 then decide (1 ≤ R.frames) && decide (t < 2) && atw w (.methodLink own j arraycopyName) else if b = 6 then decide (1 ≤ R.frames) && atw w (.methodLink own j Lib.Math.abs.name) else if b = 7 then decide (1 ≤ R.frames) && atw w (.methodLink own j Lib.Math.max.name) else if b = 8 then decide (1 ≤ R.frames) && atw w (.methodLink own j Lib.Math.min.name) else dOKb R d && atw d.2.2.2.2.2.2.2.2.1 (.static d.1) && okL own j w b d.1)
  | .invokevirtual j => decide (len = 3) && dOKb R d && atw d.2.2.2.2.2.2.2.2.1 (.instanceMethod d.1) && atw d.2.2.2.2.2.2.2.2.2 (.selects d.1.cls d.1 d.1) && atw w (.methodLink own j d.1) && (if b = 3 then decide (d.1.cls = "java/lang/String") else (match vwCl[a]? with | some (C, _, _) => decide (C = d.1.cls) | none => false))
  | .invokespecial j => decide (len = 3) && (if b = 5 then decide (1 ≤ R.frames) && atw w (.methodLink own j Lib.objectInit) else dOKb R d && atw d.2.2.2.2.2.2.2.2.1 (.instanceMethod d.1) && decide (d.1.name = "<init>") && decide (d.2.2.2.1 = none) && okL own j w b d.1)
  | .tableswitch df lo hi offs => decide ((pc : Int) + df = (a : Int)) && decide (hi = lo + offs.size - 1) && decide (sw = (List.range offs.size).map (fun (k : Nat) => (Int32.ofInt (lo + (k : Int)), ((pc : Int) + offs.getD k 0).toNat))) && (List.range offs.size).all (fun (k : Nat) => decide (0 ≤ (pc : Int) + offs.getD k 0) && decide ((Int32.ofInt (lo + (k : Int))).toInt = lo + (k : Int)))
  | .lookupswitch df ps => decide ((pc : Int) + df = (a : Int)) && decide ((ps.toList.zip (ps.toList.drop 1)).all (fun (a, next) => a.1 < next.1) = true) && decide (sw = ps.toList.map (fun k => (Int32.ofInt k.1, ((pc : Int) + k.2).toNat))) && ps.toList.all (fun k => decide (0 ≤ (pc : Int) + k.2) && decide ((Int32.ofInt k.1).toInt = k.1))
  | _ => false)
theorem lk_sw (x : Int32) (df : Int) : ∀ (ps : List (Int × Int)) (sw : List (Int32 × Nat)) (pc : Nat), sw = ps.map (fun k => (Int32.ofInt k.1, ((pc : Int) + k.2).toNat)) → (∀ k ∈ ps, 0 ≤ (pc : Int) + k.2 ∧ (Int32.ofInt k.1).toInt = k.1) → (∀ q, sw.find? (fun q => q.1 == x) = some q → (pc : Int) + Op.lookupswitch.offset ps df x.toInt = (q.2 : Int)) ∧ ((∀ q ∈ sw, ¬ x = q.1) → Op.lookupswitch.offset ps df x.toInt = df) := by
  intro ps
  induction ps with
  | nil =>
    intro sw pc hsw hall
    subst hsw
    exact ⟨fun q hq => by simp at hq, fun _ => rfl⟩
  | cons k t ih =>
    intro sw pc hsw hall
    obtain ⟨k1, k2⟩ := k
    have hk := hall (k1, k2) List.mem_cons_self
    obtain ⟨i1, i2⟩ := ih _ pc rfl (fun k hk => hall k (List.mem_cons_of_mem _ hk))
    subst hsw
    by_cases hx : x = Int32.ofInt k1
    · refine ⟨fun q hq => ?_, fun h => absurd hx (h _ List.mem_cons_self)⟩
      simp only [List.map_cons, List.find?_cons, hx, beq_self_eq_true, Option.some.injEq] at hq
      subst hq
      rw [Op.lookupswitch.offset_cons, if_pos (by rw [hx, hk.2])]
      simp only
      omega
    · have hx2 : ¬ (Int32.ofInt k1 = x) := fun z => hx z.symm
      refine ⟨fun q hq => ?_, fun h => ?_⟩
      · simp only [List.map_cons, List.find?_cons, show (Int32.ofInt k1 == x) = false by simpa using hx2] at hq
        rw [lv_osw hx hk.2]
        exact i1 q hq
      · rw [lv_osw hx hk.2]
        exact i2 (fun q hq => h q (List.mem_cons_of_mem _ hq))
section SN4
variable {p : Program} {l : Launch} {e : Env} {R : Room} {s : State} {m : MethodId} {args : Array Value} {below : List Frame} {meth : Method} {c : Code} {Q : State → Prop} {G : GG} {A : Nat → Prop} {ad0 : Nat → Nat} {n0 nB nL : Nat} {own : String} {cc : ByteArray} {isI : Bool} {X : Nat × (Nat → Int32)}
theorem gI_inv {lv : LV} {i : Nat} {F : Int32 → Prop} (h : gI lv i F) : ∃ x, lk lv i = some (.int x) ∧ F x := by
  unfold gI at h; split at h
  · exact ⟨_, by assumption, h⟩
  · exact h.elim
theorem gL_inv {lv : LV} {i : Nat} {F : Int64 → Prop} (h : gL lv i F) : ∃ x, lk lv i = some (.long x) ∧ F x := by
  unfold gL at h; split at h
  · exact ⟨_, by assumption, h⟩
  · exact h.elim
theorem gA_inv {lv : LV} {i : Nat} {F : Nat → Prop} (h : gA lv i F) : ∃ x, lk lv i = some (.ref x) ∧ F x := by
  unfold gA at h; split at h
  · exact ⟨_, by assumption, h⟩
  · exact h.elim
theorem pI_inv {st : List Value} {F : Int32 → List Value → Prop} (h : pI st F) : ∃ x r, st = .int x :: r ∧ F x r := by
  unfold pI at h; split at h
  · exact ⟨_, _, rfl, h⟩
  · exact h.elim
theorem pL_inv {st : List Value} {F : Int64 → List Value → Prop} (h : pL st F) : ∃ x r, st = .long x :: r ∧ F x r := by
  unfold pL at h; split at h
  · exact ⟨_, _, rfl, h⟩
  · exact h.elim
theorem pR_inv {st : List Value} {F : Nat → List Value → Prop} (h : pR st F) : ∃ x r, st = .ref x :: r ∧ F x r := by
  unfold pR at h; split at h
  · exact ⟨_, _, rfl, h⟩
  · exact h.elim
/-- the returns of a method, as its caller wants them -/
def RetOK (R : Room) (rt : Option FieldType) (cc : ByteArray) (K : KT) (P : PT) : Prop :=
  (∀ pc lv h cn sn x, decode cc pc = .ok (.ireturn, 1) → bz rt x → cn ≤ R.cells → sn ≤ R.slots → K (some (.int x)) h → P pc lv [.int x] h cn sn) ∧
  (∀ pc lv h cn sn x, decode cc pc = .ok (.lreturn, 1) → rt = some .long → cn ≤ R.cells → sn ≤ R.slots → K (some (.long x)) h → P pc lv [.long x] h cn sn) ∧
  (∀ pc lv h cn sn, decode cc pc = .ok (.return_, 1) → rt = none → cn ≤ R.cells → sn ≤ R.slots → K none h → P pc lv [] h cn sn)
set_option maxHeartbeats 4000000 in
theorem ms_sound (cx : Cx p R s m args meth c G A ad0 nL own cc isI X) {rt : Option FieldType} {K : KT} {k : PT} (hret : RetOK R rt cc K (AtP p l e R s m args below meth c Q G A ad0 n0 nB nL)) (hk : ∀ pc lv st h cn sn, k pc lv st h cn sn → AtP p l e R s m args below meth c Q G A ad0 n0 nB nL pc lv st h cn sn) (q : Row) (hok : okRow R own cc nL isI q = true) {lv : LV} {st : List Value} {h : MH} {cn sn : Nat} (hm : ms R rt nB X Ct K (AtP p l e R s m args below meth c Q G A ad0 n0 nB nL) k q lv st h cn sn) : AtP p l e R s m args below meth c Q G A ad0 n0 nB nL q.1 lv st h cn sn := by
  obtain ⟨pc, i, len, w, a, b, t, v, u, sw, d⟩ := q
  simp only [okRow, Bool.and_eq_true, decide_eq_true_eq] at hok
  obtain ⟨hdc, hok⟩ := hok
  show AtP p l e R s m args below meth c Q G A ad0 n0 nB nL pc lv st h cn sn
  cases i <;> simp only [ms, Bool.and_eq_true, decide_eq_true_eq, Bool.false_eq_true] at hm hok
  case iconst n => obtain ⟨rfl, h1⟩ := hok; exact so_iconst cx hdc h1 (hk _ _ _ _ _ _ hm)
  case bipush n => obtain ⟨rfl, h1⟩ := hok; exact so_bipush cx hdc h1 (hk _ _ _ _ _ _ hm)
  case sipush n => obtain ⟨rfl, h1⟩ := hok; exact so_sipush cx hdc h1 (hk _ _ _ _ _ _ hm)
  case lconst n => obtain ⟨rfl, h1⟩ := hok; exact so_lconst cx hdc h1 (hk _ _ _ _ _ _ hm)
  case ldc_w n => obtain ⟨rfl, h1⟩ := hok; exact so_ldcw cx hdc (atw_mem h1) (hk _ _ _ _ _ _ hm)
  case ldc2_w n => obtain ⟨rfl, h1⟩ := hok; exact so_ldc2 cx hdc (atw_mem h1) (hk _ _ _ _ _ _ hm)
  case ldc n =>
    obtain ⟨rfl, h1⟩ := hok
    by_cases hb : b = 0
    · rw [if_pos hb] at h1 hm; exact so_ldc cx hdc (atw_mem h1) (hk _ _ _ _ _ _ hm)
    · rw [if_neg hb] at h1 hm
      simp only [Bool.and_eq_true, decide_eq_true_eq] at h1
      exact so_ldcS cx hdc h1.2 h1.1 (hk _ _ _ _ _ _ hm)
  case iload j => obtain ⟨rfl, rfl⟩ := hok; obtain ⟨x, h1, h2⟩ := gI_inv hm; exact so_iload cx hdc h1 (hk _ _ _ _ _ _ h2)
  case iload_n j => obtain ⟨rfl, h0⟩ := hok; obtain ⟨x, h1, h2⟩ := gI_inv hm; exact so_iload_n cx hdc h0 h1 (hk _ _ _ _ _ _ h2)
  case istore j => obtain ⟨⟨rfl, rfl⟩, h0⟩ := hok; obtain ⟨x, r, rfl, h2⟩ := pI_inv hm; exact so_istore cx hdc h0 (hk _ _ _ _ _ _ h2)
  case istore_n j => obtain ⟨⟨rfl, hj⟩, h0⟩ := hok; obtain ⟨x, r, rfl, h2⟩ := pI_inv hm; exact so_istore_n cx hdc hj h0 (hk _ _ _ _ _ _ h2)
  case lload j => obtain ⟨rfl, rfl⟩ := hok; obtain ⟨x, h1, h2⟩ := gL_inv hm; exact so_lload cx hdc h1 (hk _ _ _ _ _ _ h2)
  case lload_n j => obtain ⟨rfl, h0⟩ := hok; obtain ⟨x, h1, h2⟩ := gL_inv hm; exact so_lload_n cx hdc h0 h1 (hk _ _ _ _ _ _ h2)
  case lstore j => obtain ⟨⟨rfl, rfl⟩, h0⟩ := hok; obtain ⟨x, r, rfl, h2⟩ := pL_inv hm; exact so_lstore cx hdc h0 (hk _ _ _ _ _ _ h2)
  case lstore_n j => obtain ⟨⟨rfl, hj⟩, h0⟩ := hok; obtain ⟨x, r, rfl, h2⟩ := pL_inv hm; exact so_lstore_n cx hdc hj h0 (hk _ _ _ _ _ _ h2)
  case aload j => obtain ⟨rfl, rfl⟩ := hok; obtain ⟨x, h1, h2⟩ := gA_inv hm; exact so_aload cx hdc h1 (hk _ _ _ _ _ _ h2)
  case aload_n j => obtain ⟨rfl, h0⟩ := hok; obtain ⟨x, h1, h2⟩ := gA_inv hm; exact so_aload_n cx hdc h0 h1 (hk _ _ _ _ _ _ h2)
  case astore j => obtain ⟨⟨rfl, rfl⟩, h0⟩ := hok; obtain ⟨x, r, rfl, h2⟩ := pR_inv hm; exact so_astore cx hdc h0 (hk _ _ _ _ _ _ h2)
  case astore_n j => obtain ⟨⟨rfl, hj⟩, h0⟩ := hok; obtain ⟨x, r, rfl, h2⟩ := pR_inv hm; exact so_astore_n cx hdc hj h0 (hk _ _ _ _ _ _ h2)
  case iinc j n => obtain ⟨⟨⟨rfl, rfl⟩, h0⟩, h3⟩ := hok; obtain ⟨x, h1, h2⟩ := gI_inv hm; exact so_iinc cx hdc h1 h0 h3 (hk _ _ _ _ _ _ h2)
  case iadd => subst hok; replace hm := pI_inv hm; obtain ⟨y, r, rfl, h1⟩ := hm; obtain ⟨x, r, rfl, h2⟩ := pI_inv h1; exact so_iadd cx hdc (hk _ _ _ _ _ _ h2)
  case isub => subst hok; replace hm := pI_inv hm; obtain ⟨y, r, rfl, h1⟩ := hm; obtain ⟨x, r, rfl, h2⟩ := pI_inv h1; exact so_isub cx hdc (hk _ _ _ _ _ _ h2)
  case imul => subst hok; replace hm := pI_inv hm; obtain ⟨y, r, rfl, h1⟩ := hm; obtain ⟨x, r, rfl, h2⟩ := pI_inv h1; exact so_imul cx hdc (hk _ _ _ _ _ _ h2)
  case iand => subst hok; replace hm := pI_inv hm; obtain ⟨y, r, rfl, h1⟩ := hm; obtain ⟨x, r, rfl, h2⟩ := pI_inv h1; exact so_iand cx hdc (hk _ _ _ _ _ _ h2)
  case ior => subst hok; replace hm := pI_inv hm; obtain ⟨y, r, rfl, h1⟩ := hm; obtain ⟨x, r, rfl, h2⟩ := pI_inv h1; exact so_ior cx hdc (hk _ _ _ _ _ _ h2)
  case ixor => subst hok; replace hm := pI_inv hm; obtain ⟨y, r, rfl, h1⟩ := hm; obtain ⟨x, r, rfl, h2⟩ := pI_inv h1; exact so_ixor cx hdc (hk _ _ _ _ _ _ h2)
  case ishl => subst hok; replace hm := pI_inv hm; obtain ⟨y, r, rfl, h1⟩ := hm; obtain ⟨x, r, rfl, h2⟩ := pI_inv h1; exact so_ishl cx hdc (hk _ _ _ _ _ _ h2)
  case ishr => subst hok; replace hm := pI_inv hm; obtain ⟨y, r, rfl, h1⟩ := hm; obtain ⟨x, r, rfl, h2⟩ := pI_inv h1; exact so_ishr cx hdc (hk _ _ _ _ _ _ h2)
  case iushr => subst hok; replace hm := pI_inv hm; obtain ⟨y, r, rfl, h1⟩ := hm; obtain ⟨x, r, rfl, h2⟩ := pI_inv h1; exact so_iushr cx hdc (hk _ _ _ _ _ _ h2)
  case idiv => subst hok; replace hm := pI_inv hm; obtain ⟨y, r, rfl, h1⟩ := hm; obtain ⟨x, r, rfl, h2⟩ := pI_inv h1; exact so_idiv cx hdc h2.1 (hk _ _ _ _ _ _ h2.2)
  case irem => subst hok; replace hm := pI_inv hm; obtain ⟨y, r, rfl, h1⟩ := hm; obtain ⟨x, r, rfl, h2⟩ := pI_inv h1; exact so_irem cx hdc h2.1 (hk _ _ _ _ _ _ h2.2)
  case ladd => subst hok; replace hm := pL_inv hm; obtain ⟨y, r, rfl, h1⟩ := hm; obtain ⟨x, r, rfl, h2⟩ := pL_inv h1; exact so_ladd cx hdc (hk _ _ _ _ _ _ h2)
  case lsub => subst hok; replace hm := pL_inv hm; obtain ⟨y, r, rfl, h1⟩ := hm; obtain ⟨x, r, rfl, h2⟩ := pL_inv h1; exact so_lsub cx hdc (hk _ _ _ _ _ _ h2)
  case land => subst hok; replace hm := pL_inv hm; obtain ⟨y, r, rfl, h1⟩ := hm; obtain ⟨x, r, rfl, h2⟩ := pL_inv h1; exact so_land cx hdc (hk _ _ _ _ _ _ h2)
  case lor => subst hok; replace hm := pL_inv hm; obtain ⟨y, r, rfl, h1⟩ := hm; obtain ⟨x, r, rfl, h2⟩ := pL_inv h1; exact so_lor cx hdc (hk _ _ _ _ _ _ h2)
  case lxor => subst hok; replace hm := pL_inv hm; obtain ⟨y, r, rfl, h1⟩ := hm; obtain ⟨x, r, rfl, h2⟩ := pL_inv h1; exact so_lxor cx hdc (hk _ _ _ _ _ _ h2)
  case lcmp => subst hok; replace hm := pL_inv hm; obtain ⟨y, r, rfl, h1⟩ := hm; obtain ⟨x, r, rfl, h2⟩ := pL_inv h1; exact so_lcmp cx hdc (hk _ _ _ _ _ _ h2)
  case lshl => subst hok; replace hm := pI_inv hm; obtain ⟨y, r, rfl, h1⟩ := hm; obtain ⟨x, r, rfl, h2⟩ := pL_inv h1; exact so_lshl cx hdc (hk _ _ _ _ _ _ h2)
  case lshr => subst hok; replace hm := pI_inv hm; obtain ⟨y, r, rfl, h1⟩ := hm; obtain ⟨x, r, rfl, h2⟩ := pL_inv h1; exact so_lshr cx hdc (hk _ _ _ _ _ _ h2)
  case lushr => subst hok; replace hm := pI_inv hm; obtain ⟨y, r, rfl, h1⟩ := hm; obtain ⟨x, r, rfl, h2⟩ := pL_inv h1; exact so_lushr cx hdc (hk _ _ _ _ _ _ h2)
  case ineg => subst hok; obtain ⟨x, r, rfl, h2⟩ := pI_inv hm; exact so_ineg cx hdc (hk _ _ _ _ _ _ h2)
  case i2l => subst hok; obtain ⟨x, r, rfl, h2⟩ := pI_inv hm; exact so_i2l cx hdc (hk _ _ _ _ _ _ h2)
  case l2i => subst hok; obtain ⟨x, r, rfl, h2⟩ := pL_inv hm; exact so_l2i cx hdc (hk _ _ _ _ _ _ h2)
  case i2b => subst hok; obtain ⟨x, r, rfl, h2⟩ := pI_inv hm; exact so_i2b cx hdc (hk _ _ _ _ _ _ h2)
  case i2s => subst hok; obtain ⟨x, r, rfl, h2⟩ := pI_inv hm; exact so_i2s cx hdc (hk _ _ _ _ _ _ h2)
  case dup =>
    subst hok
    split at hm
    · exact so_dupI cx hdc (hk _ _ _ _ _ _ hm)
    · exact so_dupR cx hdc (hk _ _ _ _ _ _ hm)
    · exact hm.elim
  case dup2 =>
    subst hok
    split at hm
    · exact so_dup2 cx hdc (hk _ _ _ _ _ _ hm)
    · exact hm.elim
  case ifCond co off => obtain ⟨rfl, h0⟩ := hok; replace hm := pI_inv hm; obtain ⟨x, r, rfl, h1, h2⟩ := hm; exact so_if cx hdc h0 (fun z => hk _ _ _ _ _ _ (h1 z)) (fun z => hk _ _ _ _ _ _ (h2 z))
  case if_icmp co off => obtain ⟨rfl, h0⟩ := hok; replace hm := pI_inv hm; obtain ⟨y, r, rfl, h9⟩ := hm; obtain ⟨x, r, rfl, h1, h2⟩ := pI_inv h9; exact so_icmp cx hdc h0 (fun z => hk _ _ _ _ _ _ (h1 z)) (fun z => hk _ _ _ _ _ _ (h2 z))
  case goto off => obtain ⟨rfl, h0⟩ := hok; exact so_goto cx hdc h0 (hk _ _ _ _ _ _ hm)
  case ifnonnull off =>
    obtain ⟨rfl, h0⟩ := hok
    split at hm
    · exact so_nnN cx hdc (hk _ _ _ _ _ _ hm)
    · exact so_nnR cx hdc h0 (hk _ _ _ _ _ _ hm)
    · exact hm.elim
  case getfield j =>
    obtain ⟨rfl, h0⟩ := hok
    replace hm := pR_inv hm; obtain ⟨o, r, rfl, ho, hm⟩ := hm
    split at h0
    · rename_i C T N hc
      simp only [Bool.and_eq_true, decide_eq_true_eq] at h0
      obtain ⟨⟨h1, h2⟩, h3⟩ := h0
      split at hm
      · exact so_get cx hdc hc h1 (atw_mem h3) ho h2 (fun ad => rfl) (hk _ _ _ _ _ _ hm)
      · split at hm
        · rename_i x hx
          exact so_get cx hdc hc h1 (atw_mem h3) ho h2 (v := .ref x) (fun ad => by simp [fval, hx, va_rf, rv]) (hk _ _ _ _ _ _ hm)
        · rename_i hx
          exact so_get cx hdc hc h1 (atw_mem h3) ho h2 (v := .null) (fun ad => by simp [fval, hx, va_rf, rv]) (hk _ _ _ _ _ _ hm)
      · rename_i t1 t2
        exact so_get cx hdc hc h1 (atw_mem h3) ho h2 (v := .int (h.1 o b)) (fun ad => by unfold fval; split <;> first | contradiction | rfl) (hk _ _ _ _ _ _ hm)
    · exact absurd h0 (by simp)
  case putfield j =>
    obtain ⟨rfl, h0⟩ := hok
    split at h0
    · rename_i C T N hc
      simp only [Bool.and_eq_true, Bool.or_eq_true, decide_eq_true_eq] at h0
      obtain ⟨⟨⟨⟨⟨⟨⟨⟨h1, h2⟩, h3⟩, h4⟩, h5⟩, h6⟩, h7⟩, h8⟩, h9⟩ := h0
      rcases (show t = 1 ∨ t = 2 ∨ t = 3 ∨ t = 0 by omega) with rfl | rfl | rfl | rfl
      · replace hm := pL_inv hm; obtain ⟨x, r, rfl, hm⟩ := hm
        replace hm := pR_inv hm; obtain ⟨o, r, rfl, ho, hm⟩ := hm
        exact so_put (h' := (h.1, upL h.2.1 o b x, h.2.2.1, h.2.2.2)) cx hdc hc h1 (atw_mem h3) h4 ho h2 (fun ad => by rw [h7 rfl]; exact ⟨rfl, rfl⟩) rfl id (fun ad => by simp [fval, upL, rv]) (fun j hj => ⟨rfl, by simp [upL, hj], rfl⟩) (fun x hx => ⟨rfl, by funext y; simp [upL, hx], rfl⟩) (hk _ _ _ _ _ _ hm)
      · replace hm := pR_inv hm; obtain ⟨x, r, rfl, hm⟩ := hm
        replace hm := pR_inv hm; obtain ⟨o, r, rfl, ho, hx, hm⟩ := hm
        refine so_put (h' := (h.1, h.2.1, upR h.2.2.1 o b (some x), h.2.2.2)) cx hdc hc h1 (atw_mem h3) h4 ho h2 (fun ad => ?_) rfl (fun hw => ⟨hw.1, fun a1 j1 k1 g1 g2 => ?_⟩) (fun ad => by simp [fval, upR, rv, va_rf]) (fun j hj => ⟨rfl, rfl, by simp [upR, hj]⟩) (fun x hx => ⟨rfl, rfl, by funext y; simp [upR, hx]⟩) (hk _ _ _ _ _ _ hm)
        · revert h5
          cases clTy a b <;> simp [tyF, narrow, fits, rv]
        · simp only [upR] at g2
          split at g2
          · cases g2; exact hx
          · exact hw.2 a1 j1 k1 g1 g2
      · replace hm := pI_inv hm; obtain ⟨x, r, rfl, hm⟩ := hm
        replace hm := pR_inv hm; obtain ⟨o, r, rfl, ho, hx, hm⟩ := hm
        refine so_put (h' := (upI h.1 o b x, h.2.1, h.2.2.1, h.2.2.2)) cx hdc hc h1 (atw_mem h3) h4 ho h2 (fun ad => ?_) rfl id (fun ad => by simp [fval, upI, rv]) (fun j hj => ⟨by simp [upI, hj], rfl, rfl⟩) (fun x hx => ⟨by funext y; simp [upI, hx], rfl, rfl⟩) (hk _ _ _ _ _ _ hm)
        rw [h8 rfl]
        rcases hx with rfl | rfl <;> exact ⟨rfl, rfl⟩
      · replace hm := pI_inv hm; obtain ⟨x, r, rfl, hm⟩ := hm
        replace hm := pR_inv hm; obtain ⟨o, r, rfl, ho, hm⟩ := hm
        exact so_put (h' := (upI h.1 o b x, h.2.1, h.2.2.1, h.2.2.2)) cx hdc hc h1 (atw_mem h3) h4 ho h2 (fun ad => by rw [h6 rfl]; exact ⟨rfl, rfl⟩) rfl id (fun ad => by simp [fval, upI, rv]) (fun j hj => ⟨by simp [upI, hj], rfl, rfl⟩) (fun x hx => ⟨by funext y; simp [upI, hx], rfl, rfl⟩) (hk _ _ _ _ _ _ hm)
    · exact absurd h0 (by simp)
  case iaload =>
    subst hok
    replace hm := pI_inv hm; obtain ⟨j, r, rfl, hm⟩ := hm
    replace hm := pR_inv hm; obtain ⟨o, r, rfl, hm⟩ := hm
    split at hm
    · rename_i ho; subst ho; exact so_sld cx hdc hm.1 (hk _ _ _ _ _ _ hm.2)
    · exact so_iald cx hdc hm.1 hm.2.1 (hk _ _ _ _ _ _ hm.2.2)
  case laload => subst hok; replace hm := pI_inv hm; obtain ⟨j, r, rfl, hm⟩ := hm; replace hm := pR_inv hm; obtain ⟨o, r, rfl, hm⟩ := hm; exact so_lald cx hdc hm.1 hm.2.1 (hk _ _ _ _ _ _ hm.2.2)
  case aaload =>
    subst hok
    replace hm := pI_inv hm; obtain ⟨j, r, rfl, hm⟩ := hm
    replace hm := pR_inv hm; obtain ⟨o, r, rfl, h1, h2, hm⟩ := hm
    split at hm
    · rename_i x hx; exact so_aald cx hdc h1 h2 (v := .ref x) (fun ad => by simp [hx, va_rf, rv]) (hk _ _ _ _ _ _ hm)
    · rename_i hx; exact so_aald cx hdc h1 h2 (v := .null) (fun ad => by simp [hx, va_rf, rv]) (hk _ _ _ _ _ _ hm)
  case iastore => subst hok; replace hm := pI_inv hm; obtain ⟨x, r, rfl, hm⟩ := hm; replace hm := pI_inv hm; obtain ⟨j, r, rfl, hm⟩ := hm; replace hm := pR_inv hm; obtain ⟨o, r, rfl, hm⟩ := hm; exact so_iast cx hdc hm.1 hm.2.1 (hk _ _ _ _ _ _ hm.2.2)
  case lastore => subst hok; replace hm := pL_inv hm; obtain ⟨x, r, rfl, hm⟩ := hm; replace hm := pI_inv hm; obtain ⟨j, r, rfl, hm⟩ := hm; replace hm := pR_inv hm; obtain ⟨o, r, rfl, hm⟩ := hm; exact so_last cx hdc hm.1 hm.2.1 (hk _ _ _ _ _ _ hm.2.2)
  case aastore => subst hok; replace hm := pR_inv hm; obtain ⟨x, r, rfl, hm⟩ := hm; replace hm := pI_inv hm; obtain ⟨j, r, rfl, hm⟩ := hm; replace hm := pR_inv hm; obtain ⟨o, r, rfl, hm⟩ := hm; exact so_aast cx hdc hm.1 hm.2.1 hm.2.2.1 (hk _ _ _ _ _ _ hm.2.2.2.2)
  case arraylength =>
    subst hok
    replace hm := pR_inv hm; obtain ⟨o, r, rfl, rfl, hx, hm⟩ := hm
    exact so_slen cx hdc hx (hk _ _ _ _ _ _ hm)
  case newarray ty =>
    obtain ⟨⟨⟨⟨rfl, h1⟩, h2⟩, h3⟩, h4⟩ := hok
    replace hm := pI_inv hm; obtain ⟨x, r, rfl, rfl, g1, g2, g3, g4, g5, g6, hm⟩ := hm
    cases ty <;> simp only [Bool.and_eq_true, decide_eq_true_eq, Bool.false_eq_true] at h4
    · obtain ⟨rfl, h4⟩ := h4; exact so_newI cx hdc (atw_mem h4) h1 h2 h3 g1 g2 g3 g4 g5 g6 (hk _ _ _ _ _ _ hm)
    · obtain ⟨rfl, h4⟩ := h4; exact so_newL cx hdc (atw_mem h4) h1 h2 h3 g1 g2 g3 g4 g5 g6 (hk _ _ _ _ _ _ hm)
  case anewarray j =>
    obtain ⟨⟨⟨⟨rfl, h1⟩, h2⟩, h3⟩, h4⟩ := hok
    replace hm := pI_inv hm; obtain ⟨x, r, rfl, rfl, g1, g2, g3, g4, g5, g6, hm⟩ := hm
    exact so_newR cx hdc (atw_mem h4) h1 h2 h3 g1 g2 g3 g4 g5 g6 (hk _ _ _ _ _ _ hm)
  case new j =>
    obtain ⟨rfl, h0⟩ := hok
    split at h0
    · rename_i C T N hc
      simp only [Bool.and_eq_true, decide_eq_true_eq] at h0
      obtain ⟨rfl, h0⟩ := h0
      obtain ⟨g1, g2, g3, g4, g5, g6, hm⟩ := hm
      exact so_new cx hdc hc (atw_mem h0) (cl_inst hc).1 (cl_inst hc).2 g1 g2 g3 g4 g5 g6 (hk _ _ _ _ _ _ hm)
    · exact absurd h0 (by simp)
  case invokestatic j =>
    obtain ⟨rfl, h0⟩ := hok
    split at hm
    · rename_i hb
      rw [if_pos hb] at h0
      simp only [Bool.and_eq_true, decide_eq_true_eq] at h0
      obtain ⟨⟨h1, h2⟩, h3⟩ := h0
      replace hm := pI_inv hm; obtain ⟨n, r, rfl, hm⟩ := hm
      replace hm := pI_inv hm; obtain ⟨dp, r, rfl, hm⟩ := hm
      replace hm := pR_inv hm; obtain ⟨o2, r, rfl, hm⟩ := hm
      replace hm := pI_inv hm; obtain ⟨sp, r, rfl, hm⟩ := hm
      replace hm := pR_inv hm; obtain ⟨o1, r, rfl, g1, g2, g3, g4, g5, g6, g7, g8, hm⟩ := hm
      rcases (show t = 1 ∨ t = 0 by omega) with rfl | rfl
      · exact so_cpyL cx hdc (atw_mem h3) g_native g_static g_sys h1 g1 g2 g3 g4 g5 g6 g7 g8 (hk _ _ _ _ _ _ hm)
      · exact so_cpyI cx hdc (atw_mem h3) g_native g_static g_sys h1 g1 g2 g3 g4 g5 g6 g7 g8 (hk _ _ _ _ _ _ hm)
    · rename_i hb
      rw [if_neg hb] at h0
      by_cases hb6 : b = 6
      · rw [if_pos hb6] at h0 hm
        simp only [Bool.and_eq_true, decide_eq_true_eq] at h0
        replace hm := pI_inv hm; obtain ⟨x, r, rfl, g1, g2, g3, hm⟩ := hm
        exact so_abs cx hdc (atw_mem h0.2) h0.1 g1 g2 g3 (hk _ _ _ _ _ _ hm)
      rw [if_neg hb6] at h0 hm
      by_cases hb7 : b = 7
      · rw [if_pos hb7] at h0 hm
        simp only [Bool.and_eq_true, decide_eq_true_eq] at h0
        replace hm := pI_inv hm; obtain ⟨y, r, rfl, hm⟩ := hm
        replace hm := pI_inv hm; obtain ⟨x, r, rfl, g1, g2, g3, hm⟩ := hm
        exact so_max cx hdc (atw_mem h0.2) h0.1 g1 g2 g3 (hk _ _ _ _ _ _ hm)
      rw [if_neg hb7] at h0 hm
      by_cases hb8 : b = 8
      · rw [if_pos hb8] at h0 hm
        simp only [Bool.and_eq_true, decide_eq_true_eq] at h0
        replace hm := pI_inv hm; obtain ⟨y, r, rfl, hm⟩ := hm
        replace hm := pI_inv hm; obtain ⟨x, r, rfl, g1, g2, g3, hm⟩ := hm
        exact so_min cx hdc (atw_mem h0.2) h0.1 g1 g2 g3 (hk _ _ _ _ _ _ hm)
      rw [if_neg hb8] at h0 hm
      simp only [Bool.and_eq_true] at h0
      replace hm := pA_inv _ _ _ hm; obtain ⟨xs, r, rfl, h4, g1, g2, g3, g4, g5⟩ := hm
      rw [List.append_nil] at g5
      have := so_cs (As := xs.reverse) cx hdc (dOKb_ok h0.1.1) (atw_mem h0.1.2) (okL_ok h0.2) (by simpa using h4) g1 g2 g3 g4 g5
      rw [List.reverse_reverse] at this
      exact this
  case invokevirtual j =>
    obtain ⟨⟨⟨⟨⟨rfl, h1⟩, h2⟩, h3⟩, h4⟩, h5⟩ := hok
    replace hm := pA_inv _ _ _ hm; obtain ⟨xs, r, rfl, h6, hm⟩ := hm
    rw [List.append_nil] at hm
    replace hm := pR_inv hm; obtain ⟨o, r, rfl, hr, g1, g2, g3, g4, g5⟩ := hm
    have hrec : (1000 ≤ o ∧ o < 1009 ∧ d.1.cls = "java/lang/String") ∨ (∃ a T N, isO nB h o (3, a) ∧ vwCl[a]? = some (d.1.cls, T, N)) := by
      by_cases hb : b = 3
      · rw [if_pos hb] at hr h5
        exact Or.inl ⟨hr.1, hr.2, by simpa using h5⟩
      · rw [if_neg hb] at hr h5
        split at h5
        · rename_i C T N hc
          simp only [decide_eq_true_eq] at h5
          subst h5
          exact Or.inr ⟨a, T, N, hr, hc⟩
        · exact absurd h5 (by simp)
    have := so_cv (As := xs.reverse) cx hdc (dOKb_ok h1) (atw_mem h2) (atw_mem h3) (atw_mem h4) (by simpa using h6) g1 g2 g3 g4 hrec g5
    rw [List.reverse_reverse] at this
    exact this
  case invokespecial j =>
    obtain ⟨rfl, h0⟩ := hok
    split at hm
    · rename_i hb
      rw [if_pos hb] at h0
      simp only [Bool.and_eq_true, decide_eq_true_eq] at h0
      replace hm := pR_inv hm; obtain ⟨o, r, rfl, g1, hm⟩ := hm
      exact so_obj cx hdc (atw_mem h0.2) g_oi g_oc h0.1 g1 (hk _ _ _ _ _ _ hm)
    · rename_i hb
      rw [if_neg hb] at h0
      simp only [Bool.and_eq_true, decide_eq_true_eq] at h0
      obtain ⟨⟨⟨⟨h1, h2⟩, h3⟩, h4⟩, h5⟩ := h0
      replace hm := pA_inv _ _ _ hm; obtain ⟨xs, r, rfl, h6, hm⟩ := hm
      rw [List.append_nil] at hm
      replace hm := pR_inv hm; obtain ⟨o, r, rfl, g1, g2, g3, g4, g5⟩ := hm
      have := so_ci (As := xs.reverse) cx hdc (dOKb_ok h1) (atw_mem h2) h3 h4 (okL_ok h5) (by simpa using h6) g1 g2 g3 g4 g5
      rw [List.reverse_reverse] at this
      exact this
  case tableswitch df lo hi offs =>
    obtain ⟨⟨⟨h1, h2⟩, h3⟩, h4⟩ := hok
    replace hm := pI_inv hm; obtain ⟨x, r, rfl, hm⟩ := hm
    have h4 : ∀ k, k < offs.size → 0 ≤ (pc : Int) + offs.getD k 0 ∧ (Int32.ofInt (lo + k)).toInt = lo + k := fun k hk2 => by
      have := List.all_eq_true.mp h4 k (List.mem_range.mpr hk2)
      simpa only [Bool.and_eq_true, decide_eq_true_eq] using this
    refine so_sw cx (sw := sw) (dfl := a) (fun tg htg kk => ?_) (by
      revert hm
      clear h3 h4
      induction sw with
      | nil => exact fun z => hk _ _ _ _ _ _ z
      | cons q2 t2 ih => exact fun z => ⟨fun e => hk _ _ _ _ _ _ (z.1 e), fun e => ih (z.2 e)⟩)
    rcases htg with ⟨q2, hq, rfl, hx, hf⟩ | ⟨rfl, hno⟩
    · subst h3
      obtain ⟨k2, hk2, rfl⟩ := List.mem_map.mp hq
      rw [List.mem_range] at hk2
      obtain ⟨g1, g2⟩ := h4 k2 hk2
      simp only at hx kk
      have hxi : x.toInt = lo + k2 := by rw [hx]; exact g2
      intro ad H locs ls hP hD hS hl hw hn ha
      refine lv_tableIn cx.1 cx.2.1 hdc (by omega) (by omega) (off := offs.getD k2 0) (tgt := ((pc : Int) + offs.getD k2 0).toNat) ?_ (by omega) (kk ad H locs ls hP hD hS hl hw hn ha)
      rw [show (x.toInt - lo).toNat = k2 by omega]
      simp [Array.getD, hk2]
    · subst h3
      intro ad H locs ls hP hD hS hl hw hn ha
      refine lv_tableOut cx.1 cx.2.1 hdc ?_ h1 (kk ad H locs ls hP hD hS hl hw hn ha)
      refine Classical.byContradiction fun hc => ?_
      rw [not_or, Int.not_lt, Int.not_lt] at hc
      have hk2 : (x.toInt - lo).toNat < offs.size := by omega
      refine hno (Int32.ofInt (lo + ((x.toInt - lo).toNat : Nat)), ((pc : Int) + offs.getD (x.toInt - lo).toNat 0).toNat) (List.mem_map.mpr ⟨_, List.mem_range.mpr hk2, rfl⟩) ?_
      have g2 := (h4 _ hk2).2
      exact Int32.toInt_inj.mp (by rw [g2]; omega)
  case lookupswitch df ps =>
    obtain ⟨⟨⟨h1, h2⟩, h3⟩, h4⟩ := hok
    replace hm := pI_inv hm; obtain ⟨x, r, rfl, hm⟩ := hm
    have h4 : ∀ k ∈ ps.toList, 0 ≤ (pc : Int) + k.2 ∧ (Int32.ofInt k.1).toInt = k.1 := fun k hk2 => by
      have := List.all_eq_true.mp h4 k hk2
      simpa only [Bool.and_eq_true, decide_eq_true_eq] using this
    obtain ⟨i1, i2⟩ := lk_sw x df ps.toList sw pc h3 h4
    refine so_sw cx (sw := sw) (dfl := a) (fun tg htg kk => ?_) (by
      revert hm
      clear h3 h4 i1 i2
      induction sw with
      | nil => exact fun z => hk _ _ _ _ _ _ z
      | cons q2 t2 ih => exact fun z => ⟨fun e => hk _ _ _ _ _ _ (z.1 e), fun e => ih (z.2 e)⟩)
    rcases htg with ⟨q2, hq, rfl, hx, hf⟩ | ⟨rfl, hno⟩
    · intro ad H locs ls hP hD hS hl hw hn ha
      exact lv_lookup cx.1 cx.2.1 hdc h2 rfl (i1 q2 hf) (kk ad H locs ls hP hD hS hl hw hn ha)
    · intro ad H locs ls hP hD hS hl hw hn ha
      exact lv_lookup cx.1 cx.2.1 hdc h2 (i2 hno) h1 (kk ad H locs ls hP hD hS hl hw hn ha)
  case ireturn =>
    subst hok
    split at hm
    · exact hret.1 _ _ _ _ _ _ hdc hm.1 hm.2.1 hm.2.2.1 hm.2.2.2
    · exact hm.elim
  case lreturn =>
    subst hok
    split at hm
    · exact hret.2.1 _ _ _ _ _ _ hdc hm.1 hm.2.1 hm.2.2.1 hm.2.2.2
    · exact hm.elim
  case return_ =>
    subst hok
    split at hm
    · exact hret.2.2 _ _ _ _ _ hdc hm.1 hm.2.1 hm.2.2.1 hm.2.2.2
    · exact hm.elim
theorem tab_at (rows : List Row) (pc : Nat) : (tabOf rows pc).1 = pc ∧ (tabOf rows pc ∈ rows ∨ tabOf rows pc = rowD pc) := by
  unfold tabOf
  cases hf : rows.find? (fun q => q.1 == pc) with
  | none => exact ⟨rfl, Or.inr rfl⟩
  | some q => exact ⟨by have := List.find?_some hf; simpa using this, Or.inl (List.mem_of_find?_eq_some hf)⟩
theorem wp_sound (cx : Cx p R s m args meth c G A ad0 nL own cc isI X) {rt : Option FieldType} {K : KT} (hret : RetOK R rt cc K (AtP p l e R s m args below meth c Q G A ad0 n0 nB nL)) (rows : List Row) (hok : rows.all (okRow R own cc nL isI) = true) (stops : List Nat) : ∀ (n pc : Nat) (lv : LV) (st : List Value) (h : MH) (cn sn : Nat), wp R rt nB X Ct (tabOf rows) K (AtP p l e R s m args below meth c Q G A ad0 n0 nB nL) stops n pc lv st h cn sn → AtP p l e R s m args below meth c Q G A ad0 n0 nB nL pc lv st h cn sn := by
  intro n
  induction n with
  | zero => intro pc lv st h cn sn z; exact z
  | succ n ih =>
    intro pc lv st h cn sn z
    simp only [wp] at z
    split at z
    · exact z
    · obtain ⟨h1, h2 | h2⟩ := tab_at rows pc
      · have := ms_sound cx hret (k := wp R rt nB X Ct (tabOf rows) K (AtP p l e R s m args below meth c Q G A ad0 n0 nB nL) stops n) ih _ (List.all_eq_true.mp hok _ h2) z
        rw [h1] at this
        exact this
      · rw [h2] at z
        exact z.elim
theorem wq_sound (cx : Cx p R s m args meth c G A ad0 nL own cc isI X) {rt : Option FieldType} {K : KT} (hret : RetOK R rt cc K (AtP p l e R s m args below meth c Q G A ad0 n0 nB nL)) (rows : List Row) (hok : rows.all (okRow R own cc nL isI) = true) (stops : List Nat) (n pc : Nat) (lv : LV) (st : List Value) (h : MH) (cn sn : Nat) (z : wq R rt nB X Ct (tabOf rows) K (AtP p l e R s m args below meth c Q G A ad0 n0 nB nL) stops n pc lv st h cn sn) : AtP p l e R s m args below meth c Q G A ad0 n0 nB nL pc lv st h cn sn := by
  obtain ⟨h1, h2 | h2⟩ := tab_at rows pc
  · have := ms_sound cx hret (k := wp R rt nB X Ct (tabOf rows) K (AtP p l e R s m args below meth c Q G A ad0 n0 nB nL) stops n) (fun pc lv st h cn sn => wp_sound cx hret rows hok stops n pc lv st h cn sn) _ (List.all_eq_true.mp hok _ h2) z
    rw [h1] at this
    exact this
  · unfold wq at z
    rw [h2] at z
    exact z.elim
end SN4
