/-! THE CLAIM OUT OF ONE WALK OF THE LAW'S BODY. Your part is whole_start (and what it stands on); all else here is the same for every law, but numbers. -/
def R_law : String := "RiverHeadLaw"
def lw_P (b : Addr) (xs : List Int32) (args : Array Value) (s : State) : Prop := args = #[.ref b] ∧ s.IntsAt b xs ∧ xs.length ≤ 3072 ∧ (Jvm.Cond.and given_1 narrow_1).before args s = true
def lw_Q (_ : Array Value) (s : State) (o : Outcome) (t : State) : Prop := o = .returned (some (.int 1)) ∧ Framed s o t [] 600000 7302250
def lw_Z (below : List Frame) (a : Array Value) (s : State) : State → Prop := fun t => ∃ o, t.status = .running ∧ Ended t below o ∧ lw_Q a s o t
/-- the law's own end, with 1 on the stack, nothing written that was there before, its room as the claim has it -/
theorem lw_ret {p : Program} {l : Launch} {e : Env} {s : State} {m : MethodId} {below : List Frame} {meth : Method} {c : Code} {b : Nat} (hx : p.tables.exec = Jvm.exec) (hb : c.code = code) (hr : meth.sig.returnType = ret) (hlocks : meth.locks = false) {pc : Nat} {H : Heap} {ls : Array Slot} (hdg : decode code pc = .ok (.ireturn, 1)) : W p l e room_1 s m #[Value.ref b] below meth c H [] 600000 7302250 (lw_Z below #[Value.ref b] s) (F0 m pc ls [.int 1]) := by
  intro T hT X
  obtain ⟨fs, hret, hrun, hended, hW, hframe⟩ := X.leave (v := some (.int 1)) (hlocks := hlocks) (fun h => by rw [hr] at h; cases h)
  have hmeth' : T.vm.method? m = some meth := X.method'
  refine ⟨T.setFrames fs, ?_, .returned (some (.int 1)), hrun, hended, rfl, ⟨_, rfl⟩, hW, hframe⟩
  jvm_step X.here [X.here.top, hx, hb, hdg, hmeth', hr, ret, narrow_b1]
  (try refine ⟨rfl, ?_⟩); (try refine ⟨rfl, ?_⟩)
  first | (intro acts; rw [hret _ acts rfl rfl rfl]) | rw [hret _ _ rfl rfl rfl]
  exact Steps.refl _
/-- what holds at the law's entry: the machine, the code, the tables' words (any of lw_tbl by 'hts w (by decide +kernel)'), the script of L ints xs at the cell b, what the Statement gives of the start (any of its parts by flat_of_before) -/
def lw_At (p : Program) (s : State) (m : MethodId) (meth : Method) (c : Code) (b L : Nat) (xs : Nat → Int32) : Prop :=
  p.tables.exec = Jvm.exec ∧ c.code = code ∧ meth.sig.returnType = ret ∧ c.maxLocals = 4 ∧ s.vm.findClass R_law = some m.cls ∧ (∀ w ∈ lw_tbl, w.before #[Value.ref b] s = true) ∧ va_X b L xs s s.heap ∧ b < s.heap.size ∧ meth.locks = false ∧ (Jvm.Cond.and given_1 narrow_1).before #[Value.ref b] s = true

def tmS (i : Nat) : Term := .string "RiverHead$Reader" ([50, 62, 64, 66, 68, 73, 78, 90, 96].getD i 0)
theorem st_h : strLen.length = 9 := rfl
set_option maxRecDepth 100000 in
theorem sk_start {s : State} {b : Nat} (hts : ∀ w ∈ lw_tbl, w.before #[Value.ref b] s = true) (hgv : (Jvm.Cond.and given_1 narrow_1).before #[Value.ref b] s = true) {A : Nat → Prop} (hA : ∀ a : Nat, a < s.heap.size → ¬ A a) : ∃ adK adV : Nat → Nat, (∀ w ∈ nestT, va_Nw w s) ∧ (∀ q ∈ strT, vk_R q.1 q.2.1 q.2.2.1 (adK q.2.2.2) s) ∧ vk_S 9 strLen strByt adK adV A s s.heap ∧ (va_Z "java/lang/String" "COMPACT_STRINGS" "Z" (.int 1) A s s.heap ∧ va_Zq "jdk/internal/util/Preconditions" "SIOOBE_FORMATTER" "Ljava/util/function/BiFunction;" A s s.heap) ∧ va_AO "RiverHead$Sheet" s := by
  have hq := flat_of_before _ hgv
  have tb : ∀ (i : Nat) (w : Cond), lw_tbl[i]? = some w → w.before #[Value.ref b] s = true := fun i w h => hts w (List.mem_of_getElem? h)
  have nine : ∀ {Q : Nat → Prop}, Q 0 → Q 1 → Q 2 → Q 3 → Q 4 → Q 5 → Q 6 → Q 7 → Q 8 → ∀ i, i < 9 → Q i := by
    intro Q a0 a1 a2 a3 a4 a5 a6 a7 a8 i hi
    match i, hi with
    | 0, _ => exact a0
    | 1, _ => exact a1
    | 2, _ => exact a2
    | 3, _ => exact a3
    | 4, _ => exact a4
    | 5, _ => exact a5
    | 6, _ => exact a6
    | 7, _ => exact a7
    | 8, _ => exact a8
    | i + 9, h => omega
  have hex : ∀ i, i < 9 → (Cond.exactly (tmS i) "java/lang/String").before #[Value.ref b] s = true := nine (hq _ (by decide +kernel)) (hq _ (by decide +kernel)) (hq _ (by decide +kernel)) (hq _ (by decide +kernel)) (hq _ (by decide +kernel)) (hq _ (by decide +kernel)) (hq _ (by decide +kernel)) (hq _ (by decide +kernel)) (hq _ (by decide +kernel))
  have hco : ∀ i, i < 9 → (Cond.eq (.field (tmS i) "java/lang/String" "coder" "B") (.int 0)).before #[Value.ref b] s = true := nine (hq _ (by decide +kernel)) (hq _ (by decide +kernel)) (hq _ (by decide +kernel)) (hq _ (by decide +kernel)) (hq _ (by decide +kernel)) (hq _ (by decide +kernel)) (hq _ (by decide +kernel)) (hq _ (by decide +kernel)) (hq _ (by decide +kernel))
  have har : ∀ i, i < 9 → (Cond.arrayOf (.field (tmS i) "java/lang/String" "value" "[B") .byte).before #[Value.ref b] s = true := nine (hq _ (by decide +kernel)) (hq _ (by decide +kernel)) (hq _ (by decide +kernel)) (hq _ (by decide +kernel)) (hq _ (by decide +kernel)) (hq _ (by decide +kernel)) (hq _ (by decide +kernel)) (hq _ (by decide +kernel)) (hq _ (by decide +kernel))
  have hle : ∀ i, i < 9 → (Cond.eq (.length (.field (tmS i) "java/lang/String" "value" "[B")) (.int (Int32.ofNat (strLen.getD i 0)))).before #[Value.ref b] s = true := nine (hq _ (by decide +kernel)) (hq _ (by decide +kernel)) (hq _ (by decide +kernel)) (hq _ (by decide +kernel)) (hq _ (by decide +kernel)) (hq _ (by decide +kernel)) (hq _ (by decide +kernel)) (hq _ (by decide +kernel)) (hq _ (by decide +kernel))
  have hmem : ∀ i, i < 9 → ∀ j, j < strLen.getD i 0 → (Cond.eq (.elem (.field (tmS i) "java/lang/String" "value" "[B") (.int (Int32.ofNat j))) (.int ((strByt.getD i []).getD j 0))) ∈ flatC (Jvm.Cond.and given_1 narrow_1) := by decide +kernel
  have hne : ∀ i, i < 9 → ∀ j, j < 9 → i ≠ j → (Cond.not (Cond.eq (tmS i) (tmS j))) ∈ flatC (Jvm.Cond.and given_1 narrow_1) ∨ (Cond.not (Cond.eq (tmS j) (tmS i))) ∈ flatC (Jvm.Cond.and given_1 narrow_1) := by decide +kernel
  obtain ⟨adK, adV, hS, hev⟩ := vk_Sof (N := 9) (tm := tmS) (len := strLen) (byt := strByt) (A := A) (by decide) hex hco har hle (fun i hi j hj => hq _ (hmem i hi j hj)) (fun i j hi hj hij => (hne i hi j hj hij).imp (fun h => hq _ h) (fun h => hq _ h)) hA
  -- the model's constants are the same objects
  have eqr : ∀ {t u : Term} {a : Nat}, (Cond.eq t u).before #[Value.ref b] s = true → t.eval #[Value.ref b] s none [] s = some (.ref a) → u.eval #[Value.ref b] s none [] s = some (.ref a) := by
    intro t u a h ht
    cases hv : u.eval #[Value.ref b] s none [] s with
    | none => simp [Cond.before, Cond.holds, Cond.value, ht, hv] at h
    | some w =>
      simp only [Cond.before, Cond.holds, Cond.value, ht, hv] at h
      cases w <;> simp_all
  refine ⟨adK, adV, fun w hw => ?_, ?_, hS, ⟨?_, ?_⟩, ?_⟩
  · have hw2 := List.mem_filter.mp hw
    obtain ⟨a1, i1, x1, b1, rfl⟩ := nest_is hw
    exact va_Nw.of rfl (hts _ hw2.1)
  · have r : ∀ (own : String) (k : Nat) (tx : String) (i : Nat), (Cond.stringRef own k tx).before #[Value.ref b] s = true → (Term.string own k).eval #[Value.ref b] s none [] s = some (.ref (adK i)) → vk_R own k tx (adK i) s := by
      intro own k tx i h1 h2
      exact vk_R.of h1 h2
    intro q hq9
    simp only [strT, List.mem_cons, List.not_mem_nil, or_false] at hq9
    rcases hq9 with rfl | rfl | rfl | rfl | rfl | rfl | rfl | rfl | rfl | rfl | rfl | rfl | rfl | rfl | rfl | rfl | rfl | rfl
    · exact r _ _ _ 0 (tb 755 _ (by decide +kernel)) (hev 0 (by decide))
    · exact r _ _ _ 1 (tb 808 _ (by decide +kernel)) (hev 1 (by decide))
    · exact r _ _ _ 2 (tb 809 _ (by decide +kernel)) (hev 2 (by decide))
    · exact r _ _ _ 3 (tb 810 _ (by decide +kernel)) (hev 3 (by decide))
    · exact r _ _ _ 4 (tb 815 _ (by decide +kernel)) (hev 4 (by decide))
    · exact r _ _ _ 5 (tb 821 _ (by decide +kernel)) (hev 5 (by decide))
    · exact r _ _ _ 6 (tb 833 _ (by decide +kernel)) (hev 6 (by decide))
    · exact r _ _ _ 7 (tb 838 _ (by decide +kernel)) (hev 7 (by decide))
    · exact r _ _ _ 8 (tb 840 _ (by decide +kernel)) (hev 8 (by decide))
    · exact r _ _ _ 0 (tb 1476 _ (by decide +kernel)) (eqr (hq _ (by decide +kernel)) (hev 0 (by decide)))
    · exact r _ _ _ 1 (tb 1483 _ (by decide +kernel)) (eqr (hq _ (by decide +kernel)) (hev 1 (by decide)))
    · exact r _ _ _ 2 (tb 1484 _ (by decide +kernel)) (eqr (hq _ (by decide +kernel)) (hev 2 (by decide)))
    · exact r _ _ _ 3 (tb 1485 _ (by decide +kernel)) (eqr (hq _ (by decide +kernel)) (hev 3 (by decide)))
    · exact r _ _ _ 4 (tb 1486 _ (by decide +kernel)) (eqr (hq _ (by decide +kernel)) (hev 4 (by decide)))
    · exact r _ _ _ 6 (tb 1487 _ (by decide +kernel)) (eqr (hq _ (by decide +kernel)) (hev 6 (by decide)))
    · exact r _ _ _ 5 (tb 1492 _ (by decide +kernel)) (eqr (hq _ (by decide +kernel)) (hev 5 (by decide)))
    · exact r _ _ _ 7 (tb 1497 _ (by decide +kernel)) (eqr (hq _ (by decide +kernel)) (hev 7 (by decide)))
    · exact r _ _ _ 8 (tb 1498 _ (by decide +kernel)) (eqr (hq _ (by decide +kernel)) (hev 8 (by decide)))
  · exact va_Zof (tb 769 _ (by decide +kernel)) (tb 80 _ (by decide +kernel)) (va_eqi (hq _ (by decide +kernel))) hA
  · exact va_Zqof (tb 785 _ (by decide +kernel)) (tb 82 _ (by decide +kernel)) (hq _ (by decide +kernel)) hA
  · exact va_AO.of (tb 374 _ (by decide +kernel))
set_option maxRecDepth 100000 in
theorem cls_start {s : State} {b : Nat} (hts : ∀ w ∈ lw_tbl, w.before #[Value.ref b] s = true) : ∃ (dC : Nat → ClassId) (dI : Nat → Nat → Nat) (c0 c1 c2 : ClassId), va_K (dC, dI) vwCl [(c0, .int), (c1, .long), (c2, .object "RiverHead$Sheet")] s := by
  have tb : ∀ (i : Nat) (w : Cond), lw_tbl[i]? = some w → w.before #[Value.ref b] s = true := fun i w h => hts w (List.mem_of_getElem? h)
  have key : ∀ (k : Nat), ∃ (cC : ClassId) (iS : Nat → Nat), ∀ q : vw_C, vwCl[k]? = some q → u_Kn s q.1 q.2.1 q.2.2 cC iS := by
    intro k
    cases hk : vwCl[k]? with
    | none => exact ⟨0, fun _ => 0, fun q h => by cases h⟩
    | some q =>
      obtain ⟨C, T, N⟩ := q
      have hin : ∀ w ∈ u_ws C T N, w ∈ lw_tbl := fun w hw => (List.mem_filter.mp ((cl_all hk).1 w hw)).1
      have hi : (Cond.instantiable C N).before #[Value.ref b] s = true := hts _ (List.mem_filter.mp (cl_inst hk).1).1
      obtain ⟨cC, iS, h⟩ := u_known (C := C) (T := T) (N := N) (n := N) hts hin hi
      exact ⟨cC, iS, fun q h9 => by cases h9; exact h⟩
  obtain ⟨dC, h1⟩ := Classical.axiomOfChoice key
  obtain ⟨dI, h2⟩ := Classical.axiomOfChoice h1
  obtain ⟨c0, k0, p0, f0, g0, e0⟩ := Cond.arrayClass_spec (tb 137 (.arrayClass .int) (by decide +kernel))
  obtain ⟨c1, k1, p1, f1, g1, e1⟩ := Cond.arrayClass_spec (tb 355 (.arrayClass .long) (by decide +kernel))
  obtain ⟨p2, c2, k2, f2, _, g2, e2, n2⟩ := Cond.arrayOver_spec (tb 374 (.arrayOver (.object "RiverHead$Sheet")) (by decide +kernel))
  refine ⟨dC, dI, c0, c1, c2, fun k q hq => h2 k q hq, fun k q hq => ?_⟩
  match k, hq with
  | 0, hq => cases hq; exact ⟨fun N z => ⟨(fun k h => by cases h), k0, g0, p0, e0⟩, f0⟩
  | 1, hq => cases hq; exact ⟨fun N z => ⟨(fun k h => by cases h), k1, g1, p1, e1⟩, f1⟩
  | 2, hq => cases hq; exact ⟨fun N z => ⟨(fun k h => by cases h), k2, g2, p2, e2⟩, ⟨k2, p2, g2, e2, f2, n2⟩⟩
  | k + 3, hq => simp at hq
set_option maxHeartbeats 4000000 in
set_option maxRecDepth 100000 in
/-- YOUR PART: from the entry, for every script of at most 3072 ints, the law comes to its end with true -/
theorem whole_start {p : Program} {e : Env} {s : State} {m : MethodId} {below : List Frame} {meth : Method} {c : Code} (l : Launch) {b L : Nat} {xs : Nat → Int32} (hL : L ≤ 3072) (C0 : lw_At p s m meth c b L xs) : W p l e room_1 s m #[Value.ref b] below meth c s.heap [] 0 0 (lw_Z below #[Value.ref b] s) (entryFrame m ([Value.ref b] : List Value).toArray 4) := by
  obtain ⟨hx, hb, hr, hml, hown, hts, hX, hbl, hlocks, hgv⟩ := id C0
  have hA : ∀ q : Nat, q < s.heap.size → ¬ (fun q : Nat => s.heap.size ≤ q) q := fun _ h h2 => absurd h (Nat.not_lt.mpr h2)
  obtain ⟨adK, adV, k1, k2, k3, k4, k5⟩ := sk_start hts hgv hA
  obtain ⟨dC, dI, c0, c1, c2, hK⟩ := cls_start hts
  let G : GG := (dC, dI, c0, c1, c2, adK, adV)
  let ad : Nat → Nat := fun k => if k = 3000 then b else adK (k - 1000)
  have hSK : SK G (fun q : Nat => s.heap.size ≤ q) ad s := ⟨k1, k2, k3, k4, k5, fun i hi => by show (if 1000 + i = 3000 then b else adK (1000 + i - 1000)) = adK i; rw [if_neg (by omega), Nat.add_sub_cancel_left]⟩
  have cx : Cx p room_1 s m #[Value.ref b] meth c G (fun q : Nat => s.heap.size ≤ q) ad 4 "RiverHeadLaw" code false (L + 1, xs) :=
    ⟨hx, hb, hml, hown, fun w hw => hts w (List.mem_filter.mp hw).1, hK, hSK, fun q hq => hq, (fun z => by cases z), Or.inr ⟨hX, hbl, hA b hbl⟩⟩
  have hret : ∀ nB, RetOK room_1 (some .boolean) code (fun r _ => r = some (.int 1)) (AtP p l e room_1 s m #[Value.ref b] below meth c (lw_Z below #[Value.ref b] s) G (fun q : Nat => s.heap.size ≤ q) ad 0 nB 4) := by
    intro nB
    refine ⟨?_, ?_, ?_⟩
    · intro pc lv h cn sn x hdc _ hc1 hc2 hk ad2 H locs ls g1 g2 g3 g4 g5 g6 g7
      have hx1 : x = 1 := by simpa using hk
      subst hx1
      exact va_forget g3.2.2 (W.widen hc1 hc2 (lw_ret hx hb hr hlocks hdc))
    · intro pc lv h cn sn x hdc hrt
      exact absurd hrt (by simp)
    · intro pc lv h cn sn hdc hrt
      exact absurd hrt (by simp)
  have st0 : LStep (AtP p l e room_1 s m #[Value.ref b] below meth c (lw_Z below #[Value.ref b] s) G (fun q : Nat => s.heap.size ≤ q) ad 0 0 4) 0 L xs := fun rows hok stops n pc lv st h cn sn z => wq_sound cx (hret 0) rows hok stops n pc lv st h cn sn z
  have st1 : LStep (AtP p l e room_1 s m #[Value.ref b] below meth c (lw_Z below #[Value.ref b] s) G (fun q : Nat => s.heap.size ≤ q) ad 0 71 4) 71 L xs := fun rows hok stops n pc lv st h cn sn z => wq_sound cx (hret 71) rows hok stops n pc lv st h cn sn z
  have key := law_pre st0 (fun J M hI => fun ad2 H locs ls g1 g2 g3 g4 g5 g6 g7 => law_loop st1 hL 520 0 J M false 71 5797 (by omega) (by omega) hI (by omega) (by omega) ad2 H locs ls g1 g2 g3 g4 g5 (Nat.le_refl _) g7)
  rw [lg_entry_eq]
  have hl := lv_entry ([.ref b]) (n := 4) (Nat.le_of_ble_eq_true rfl)
  have eP : va_P (G.1, G.2.1) vwCl (wsOf G ad h00) s.heap := fun k q h => by simp [wsOf, h00] at h
  have eD : va_D (fun q : Nat => s.heap.size ≤ q) (wsOf G ad h00) := ⟨fun i j p q h => by simp [wsOf, h00] at h, fun k q h => by simp [wsOf, h00] at h⟩
  exact key ad s.heap [] _ eP eD va_S.rf hl ⟨by decide, fun a j k ha => absurd ha (Nat.not_lt_zero _)⟩ (Nat.zero_le _) ⟨Nat.le_refl _, fun _ _ => rfl, fun _ _ => rfl, fun _ => rfl⟩
set_option maxHeartbeats 4000000 in
theorem lw_walk (l : Launch) (b : Addr) (xs : List Int32) : MetFree l x (headSpec (Jvm.Cond.code x code maxLocals ret :: tables_1) room_1) (lw_P b xs) (fun _ _ _ _ _ => True) lw_Q := by
  refine MetFree.of_bodyS (code := code) (maxLocals := maxLocals) (ret := ret) (by decide) ?_ ?_
  · intro args s m h hn
    obtain ⟨meth, c, h1, h2, h3, h4, h5, h6, -, -⟩ := Cond.code_spec hn (atoms_spec (ws := Jvm.Cond.code x code maxLocals ret :: tables_1) h _ List.mem_cons_self)
    exact ⟨meth, c, h1, h2, h3, h4, h5, h6⟩
  · intro p e s m args below meth c s₁ B hml0 hP _
    obtain ⟨rfl, hx, hbd, hgv⟩ := hP
    obtain ⟨scr, harrAt, hlist, hof, hsmall⟩ := hx
    obtain ⟨hcb, hkn, -, -⟩ := State.arrayAt?_spec harrAt
    have hown : s.vm.findClass R_law = some m.cls := findClass_of_methodNamed B.named
    have hts0 : ∀ c ∈ (Jvm.Cond.code x code maxLocals ret :: tables_1), c.before #[Value.ref b] s = true := atoms_spec (ws := Jvm.Cond.code x code maxLocals ret :: tables_1) B.pre
    have hts : ∀ w ∈ lw_tbl, w.before #[Value.ref b] s = true := k2_hts_sels lw_privs (fun w hw => hts0 w (List.mem_cons_of_mem _ hw)) lw_privs_ok
    have hml : c.maxLocals = 4 := B.maxLocals_eq (hts0 _ List.mem_cons_self)
    have X₀ : Stand p l e room_1 s m #[Value.ref b] below meth c s₁ [] 0 0 := Stand.of_body B
    have hh0 : s₁.heap = s.heap := by rw [B.state]; rfl
    have hsz : scr.slots.size = xs.length := by rw [← Array.length_toList, hlist, List.length_map]
    have hval : ∀ j : Nat, j < xs.length → scr.slots[j]? = some (.int (xs.getD j 0)) := fun j hj => by
      rw [← Array.getElem?_toList, hlist]
      simp [hj]
    have hbl : b < s.heap.size := (Array.getElem?_eq_some_iff.mp hcb).1
    have hX : va_X b xs.length (fun j => xs.getD j 0) s s.heap := ⟨scr, hcb, hof, hkn, hsz, hval⟩
    have K : W p l e room_1 s m #[Value.ref b] below meth c s₁.heap [] 0 0 (lw_Z below #[Value.ref b] s) (entryFrame m ([Value.ref b] : List Value).toArray 4) := by
      rw [hh0]
      exact whole_start l hbd ⟨B.exec, B.bytes, B.returns, hml, hown, hts, hX, hbl, B.notSynchronized, hgv⟩
    obtain ⟨t, a1, o, b1, b2, b3⟩ := K s₁ rfl X₀
    exact ⟨t, o, a1, b1, b2, b3⟩
theorem lw_pre_spec {args : Array Value} {s : State} (h : (Jvm.Cond.and given_1 narrow_1).before args s = true) (hr : rest_1_c.before args s = true) : ∃ (b : Addr) (xs : List Int32), lw_P b xs args s := by
  have hs := flat_of_before _ h
  have hq := flat_of_before _ hr
  have hc : (Cond.count 1).before args s = true := hs _ (by decide +kernel)
  have harr : (Cond.arrayOf (.arg 0) .int).before args s = true := hs _ (by decide +kernel)
  have hle : (Cond.le (.length (.arg 0)) (.int 3072)).before args s = true := hs _ (by decide +kernel)
  have hlen : (Cond.isInt (.length (.arg 0))).before args s = true := hq _ (by decide +kernel)
  have hall : (Cond.all (.arg 0) (.isInt (.elem (.arg 0) (.index 0)))).before args s = true := hq _ (by decide +kernel)
  obtain ⟨b, xs, hb, hx⟩ := State.ints_of_pre rfl harr hlen hall
  have hsm : xs.length < 2 ^ 31 := hx.choose_spec.2.2.2
  have hev : (Term.length (.arg 0)).eval args s none [] s = some (.int xs.length.toInt32) := hx.length_eval hb
  have hv := Cond.le_ints hev (show (Term.int 3072).eval args s none [] s = some (.int 3072) from rfl)
  have hd : xs.length.toInt32 ≤ 3072 := by
    simpa [Cond.before, Cond.holds, hv] using hle
  have hN : xs.length ≤ 3072 := (Int32.ofNat_le_ofNat hsm (by decide)).mp (show Int32.ofNat xs.length ≤ Int32.ofNat 3072 from hd)
  exact ⟨b, xs, Cond.one_arg hc (show args[0]? = some (.ref b) from hb), hx, hN, h⟩
theorem lw_comes (l : Launch) : Comes l x (Jvm.Cond.code x code maxLocals ret :: tables_1) room_1 (fun tb e args s => Calls_1 tb e args s ∧ rest_1 tb e args s ∧ Pre_1 tb e args s)
    (fun _ _ args s o t => lw_Q args s o t) := by
  intro p e ha hc hk s m args below hf hfit hheap happ hpre
  obtain ⟨b, xs, hP⟩ := lw_pre_spec hpre.2.2 hpre.2.1
  obtain ⟨k, o, h1, h2, h3, hQ⟩ := lw_walk l b xs p e ha hc hk s m args below hf ((Spec.applies_iff_loose hf).mp happ).1 hP trivial
  exact ⟨k, o, h1, h2, h3, hQ⟩
theorem lw_frame {s t : State} {o : Outcome} {args : Array Value} (h : Framed s o t [] 600000 7302250) :
    Framed s o t (fieldLocs frame_1_writes args s ++ arrayLocs frame_1_arrays args s ++ staticLocs frame_1_statics s) 600000 7302250 := h
theorem lw_limb (L : Cond) (hL : ∀ (args : Array Value) (s t : State), L.after args s (.returned (some (.int 1))) t = true) :
    ArmFor flags0 classFile x code maxLocals ret World_1 tables_1 room_1 Calls_1 rest_1 Pre_1
      (fun tb e a s o t => postC L tb e a s o t ∧ Framed s o t (fieldLocs frame_1_writes a s ++ arrayLocs frame_1_arrays a s ++ staticLocs frame_1_statics s) 600000 7302250) := by
  intro l _ _ _ p e ha hc hk s m args below hf hfit hheap happ hpre
  obtain ⟨k, o, h1, h2, h3, rfl, hF⟩ := lw_comes l p e ha hc hk s m args below hf hfit hheap happ hpre
  exact ⟨k, _, h1, h2, h3, hL args s _, lw_frame hF⟩
theorem i_vc : Claimed_1_1 ∧ Claimed_1_2 := ⟨lw_limb limb_1_1 (fun args s t => by simp [limb_1_1, Cond.after, Cond.holds, Cond.value]), lw_limb limb_1_2 (fun args s t => Cond.after_iff.mpr (by
  first | (rw [show limb_1_2 = Cond.eq .result (.int 1) from rfl, Cond.eq_ints (x := 1) (y := 1) rfl rfl]; simp; done) | (simp [limb_1_2, Cond.value, Term.eval]; done)))⟩

