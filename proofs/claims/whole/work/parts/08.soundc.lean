def atw (i : Nat) (w : Cond) : Bool := decide (lw_tbl[i]? = some w) && goodWord w
theorem atw_mem {i : Nat} {w : Cond} (h : atw i w = true) : w ∈ goodT := by
  simp only [atw, Bool.and_eq_true, decide_eq_true_eq] at h
  exact List.mem_filter.mpr ⟨List.mem_of_getElem? h.1, h.2⟩
def atn (i : Nat) (w : Cond) : Bool := decide (lw_tbl[i]? = some w) && isNestW w
theorem atn_mem {i : Nat} {w : Cond} (h : atn i w = true) : w ∈ nestT := by
  simp only [atn, Bool.and_eq_true, decide_eq_true_eq] at h
  exact List.mem_filter.mpr ⟨List.mem_of_getElem? h.1, h.2⟩
theorem nest_is {w : Cond} (h : w ∈ nestT) : ∃ (a : String) (i : Nat) (x : MethodName) (b : String), w = .methodLinkNest a i x b := by
  have h2 := (List.mem_filter.mp h).2
  cases w <;> simp [isNestW] at h2
  exact ⟨_, _, _, _, rfl⟩
theorem g_native : Cond.native ⟨"java/lang/System", "arraycopy", "(Ljava/lang/Object;ILjava/lang/Object;II)V"⟩ ∈ goodT := atw_mem (i := 1109) (by decide +kernel)
theorem g_static : Cond.static ⟨"java/lang/System", "arraycopy", "(Ljava/lang/Object;ILjava/lang/Object;II)V"⟩ ∈ goodT := atw_mem (i := 1108) (by decide +kernel)
theorem g_sys : Cond.initialized "java/lang/System" ∈ goodT := atw_mem (i := 85) (by decide +kernel)
theorem g_oi : Cond.instanceMethod ⟨"java/lang/Object", "<init>", "()V"⟩ ∈ goodT := atw_mem (i := 92) (by decide +kernel)
theorem g_oc : Cond.code ⟨"java/lang/Object", "<init>", "()V"⟩ object_method_1_code 1 (Option.none : Option FieldType) ∈ goodT := atw_mem (i := 93) (by decide +kernel)
theorem g_mabs_s : Cond.static Lib.Math.abs.name ∈ goodT := atw_mem (i := 454) (by decide +kernel)
theorem g_mabs_c : Cond.code Lib.Math.abs.name Lib.Math.abs.code 1 (some .int) ∈ goodT := atw_mem (i := 455) (by decide +kernel)
theorem g_mmax_s : Cond.static Lib.Math.max.name ∈ goodT := atw_mem (i := 827) (by decide +kernel)
theorem g_mmax_c : Cond.code Lib.Math.max.name Lib.Math.max.code 2 (some .int) ∈ goodT := atw_mem (i := 828) (by decide +kernel)
theorem g_mmin_s : Cond.static Lib.Math.min.name ∈ goodT := atw_mem (i := 986) (by decide +kernel)
theorem g_mmin_c : Cond.code Lib.Math.min.name Lib.Math.min.code 2 (some .int) ∈ goodT := atw_mem (i := 987) (by decide +kernel)
theorem g_mi : Cond.initialized "java/lang/Math" ∈ goodT := atw_mem (i := 77) (by decide +kernel)
theorem cl_inst {k : Nat} {C : String} {T : u_T} {N : Nat} (h : vwCl[k]? = some (C, T, N)) : Cond.instantiable C N ∈ goodT ∧ Cond.initialized C ∈ goodT := by
  have hk := cl_lt h
  match k, hk, h with
  | 0, _, h => cases h; exact ⟨atw_mem (i := 139) (by decide +kernel), atw_mem (i := 68) (by decide +kernel)⟩
  | 1, _, h => cases h; exact ⟨atw_mem (i := 260) (by decide +kernel), atw_mem (i := 71) (by decide +kernel)⟩
  | 2, _, h => cases h; exact ⟨atw_mem (i := 101) (by decide +kernel), atw_mem (i := 67) (by decide +kernel)⟩
  | 3, _, h => cases h; exact ⟨atw_mem (i := 221) (by decide +kernel), atw_mem (i := 70) (by decide +kernel)⟩
  | 4, _, h => cases h; exact ⟨atw_mem (i := 312) (by decide +kernel), atw_mem (i := 72) (by decide +kernel)⟩
  | 5, _, h => cases h; exact ⟨atw_mem (i := 172) (by decide +kernel), atw_mem (i := 69) (by decide +kernel)⟩
  | 6, _, h => cases h; exact ⟨atw_mem (i := 375) (by decide +kernel), atw_mem (i := 75) (by decide +kernel)⟩
  | 7, _, h => cases h; exact ⟨atw_mem (i := 357) (by decide +kernel), atw_mem (i := 74) (by decide +kernel)⟩
  | 8, _, h => cases h; exact ⟨atw_mem (i := 329) (by decide +kernel), atw_mem (i := 73) (by decide +kernel)⟩
  | 9, _, h => cases h; exact ⟨atw_mem (i := 95) (by decide +kernel), atw_mem (i := 66) (by decide +kernel)⟩
  | 10, _, h => cases h; exact ⟨atw_mem (i := 87) (by decide +kernel), atw_mem (i := 65) (by decide +kernel)⟩
  | 11, _, h => cases h; exact ⟨atw_mem (i := 1166) (by decide +kernel), atw_mem (i := 76) (by decide +kernel)⟩
  | k + 12, hk, _ => omega
theorem pA_inv {F : List Value → List Value → Prop} : ∀ (n : Nat) (acc st : List Value), pA n acc st F → ∃ xs rest : List Value, st = xs ++ rest ∧ xs.length = n ∧ F (xs.reverse ++ acc) rest
  | 0, acc, st, h => ⟨[], st, rfl, rfl, h⟩
  | n + 1, acc, [], h => h.elim
  | n + 1, acc, v :: st, h => by
    obtain ⟨xs, rest, h1, h2, h3⟩ := pA_inv n (v :: acc) st h
    exact ⟨v :: xs, rest, by rw [h1]; rfl, by simp [h2], by simpa using h3⟩
def dOK (R : Room) (d : MD) : Prop := Cond.code d.1 d.2.1 d.2.2.1 d.2.2.2.1 ∈ goodT ∧ Cond.initialized d.1.cls ∈ goodT ∧ (d.1.cls ≠ "java/lang/invoke/MethodHandle" ∧ d.1.cls ≠ "java/lang/invoke/VarHandle" ∧ (parseMethodDescriptor d.1.desc).map (fun d => d.parameters.length) = some d.2.2.2.2.2.1) ∧ (d.2.2.2.2.1.frames + 1 ≤ R.frames ∧ 8 + (d.2.2.1 + 11) + d.2.2.2.2.1.locals ≤ R.locals)
theorem mws_good {R : Room} {d : MD} (h : dOK R d) : GoodIn goodT (mws d) := by
  intro w hw
  rcases List.mem_cons.mp hw with rfl | hw
  · exact ⟨h.1, good_of_word (List.mem_filter.mp h.1).2⟩
  · exact ⟨hw, good_of_word (List.mem_filter.mp hw).2⟩
section SN3
variable {p : Program} {l : Launch} {e : Env} {R : Room} {s : State} {m : MethodId} {args : Array Value} {below : List Frame} {meth : Method} {c : Code} {Q : State → Prop} {G : GG} {A : Nat → Prop} {ad0 : Nat → Nat} {n0 nB nL : Nat} {own : String} {cc : ByteArray} {isI : Bool} {X : Nat × (Nat → Int32)}
variable {pc : Nat} {lv : LV} {r : List Value} {h : MH} {cn sn : Nat}
theorem so_abs (cx : Cx p R s m args meth c G A ad0 nL own cc isI X) {i : Nat} {x : Int32} (hd : decode cc pc = .ok (.invokestatic i, 3)) (hlk : Cond.methodLink own i Lib.Math.abs.name ∈ goodT) (hf : 1 ≤ R.frames) (h1 : cat2 r + 13 ≤ R.locals) (h2 : cn ≤ R.cells) (h3 : sn ≤ R.slots) (k : AtP p l e R s m args below meth c Q G A ad0 n0 nB nL (pc + 3) lv (.int (if 0 ≤ x then x else 0 - x) :: r) h cn sn) : AtP p l e R s m args below meth c Q G A ad0 n0 nB nL pc lv (.int x :: r) h cn sn := fun ad H locs ls hP hD hS hl hw hn ha =>
  va_mabs cx.1 cx.2.1 (by rw [cx.2.2.1]; exact hl.1.symm) cx.2.2.2.1 (cx.2.2.2.2.1 _ hlk) (cx.2.2.2.2.1 _ g_mabs_s) (cx.2.2.2.2.1 _ g_mi) (cx.2.2.2.2.1 _ g_mabs_c) hf (by rw [cat2_sum]; exact h1) h2 h3 hd (k ad H locs ls hP hD hS hl hw hn ha)
theorem so_max (cx : Cx p R s m args meth c G A ad0 nL own cc isI X) {i : Nat} {x y : Int32} (hd : decode cc pc = .ok (.invokestatic i, 3)) (hlk : Cond.methodLink own i Lib.Math.max.name ∈ goodT) (hf : 1 ≤ R.frames) (h1 : cat2 r + 13 ≤ R.locals) (h2 : cn ≤ R.cells) (h3 : sn ≤ R.slots) (k : AtP p l e R s m args below meth c Q G A ad0 n0 nB nL (pc + 3) lv (.int (if x < y then y else x) :: r) h cn sn) : AtP p l e R s m args below meth c Q G A ad0 n0 nB nL pc lv (.int y :: .int x :: r) h cn sn := fun ad H locs ls hP hD hS hl hw hn ha =>
  va_mmax cx.1 cx.2.1 (by rw [cx.2.2.1]; exact hl.1.symm) cx.2.2.2.1 (cx.2.2.2.2.1 _ hlk) (cx.2.2.2.2.1 _ g_mmax_s) (cx.2.2.2.2.1 _ g_mi) (cx.2.2.2.2.1 _ g_mmax_c) hf (by rw [cat2_sum]; exact h1) h2 h3 hd (k ad H locs ls hP hD hS hl hw hn ha)
theorem so_min (cx : Cx p R s m args meth c G A ad0 nL own cc isI X) {i : Nat} {x y : Int32} (hd : decode cc pc = .ok (.invokestatic i, 3)) (hlk : Cond.methodLink own i Lib.Math.min.name ∈ goodT) (hf : 1 ≤ R.frames) (h1 : cat2 r + 13 ≤ R.locals) (h2 : cn ≤ R.cells) (h3 : sn ≤ R.slots) (k : AtP p l e R s m args below meth c Q G A ad0 n0 nB nL (pc + 3) lv (.int (if y < x then y else x) :: r) h cn sn) : AtP p l e R s m args below meth c Q G A ad0 n0 nB nL pc lv (.int y :: .int x :: r) h cn sn := fun ad H locs ls hP hD hS hl hw hn ha =>
  va_mmin cx.1 cx.2.1 (by rw [cx.2.2.1]; exact hl.1.symm) cx.2.2.2.1 (cx.2.2.2.2.1 _ hlk) (cx.2.2.2.2.1 _ g_mmin_s) (cx.2.2.2.2.1 _ g_mi) (cx.2.2.2.2.1 _ g_mmin_c) hf (by rw [cat2_sum]; exact h1) h2 h3 hd (k ad H locs ls hP hD hS hl hw hn ha)
theorem sk_blind {A : Nat → Prop} {ad : Nat → Nat} {U : State} (g : JFrame) (mk : MethodId) (a : Array Value) (hq : SK G A ad U) : SK G A ad (U.calling g mk a) := by
  obtain ⟨h1, h2, h3, h4, h5, h6⟩ := hq
  refine ⟨fun w hw => ?_, fun q hq => vk_R.same (u := U) rfl (h2 q hq), vk_S.moved (u := U) (Vm.Alike.refl U.vm) h3, ⟨va_Z.moved (u := U) (Vm.Alike.refl U.vm) h4.1, va_Zq.moved (u := U) (Vm.Alike.refl U.vm) h4.2⟩, va_AO.moved (u := U) (Vm.Alike.refl U.vm) h5, h6⟩
  obtain ⟨a1, i1, x1, b1, rfl⟩ := nest_is hw
  exact va_Nw.same rfl (u := U) rfl (h1 _ hw)
theorem sk_moved {A' : Nat → Prop} {ad : Nat → Nat} {U : State} {H : Heap} {locs : List Loc} (hq : SK G A ad0 s) (hS : va_S A s.heap H locs) (hU : U.heap = H) (hW : s.WarmedH U.vm) (hA : ∀ q, A' q → A q) (ha : ∀ k, 1000 ≤ k → ad k = ad0 k) : SK G A' ad U := by
  obtain ⟨h1, h2, h3, h4, h5, h6⟩ := hq
  refine ⟨fun w hw => ?_, fun q hq => vk_R.warm hW (h2 q hq), ?_, ?_, va_AO.moved hW.alike h5, fun i hi => by rw [ha _ (by omega)]; exact h6 i hi⟩
  · obtain ⟨a1, i1, x1, b1, rfl⟩ := nest_is hw
    exact va_Nw.warmM hW (h1 _ hw)
  · rw [hU]; exact vk_S.narrow (vk_S.moved hW.alike (h3.kept hS.2.1)) hA
  · rw [hU]; exact ⟨va_Z.narrow (va_Z.moved hW.alike (h4.1.kept hS.2.1)) hA, va_Zq.narrow (va_Zq.moved hW.alike (h4.2.kept hS.2.1)) hA⟩
theorem ws_free {ad : Nat → Nat} {H : Heap} {locs : List Loc} (hD : va_D A (wsOf G ad h)) (hS : va_S A s.heap H locs) (hA : ∀ q, s.heap.size ≤ q → A q) : ∀ q, va_A (wsOf G ad h) H.size q → A q := by
  intro q hq
  rcases hq with ⟨k, e, hk⟩ | hq
  · exact hD.2 k _ hk
  · exact hA q (Nat.le_trans hS.1 hq)
theorem so_pre (cx : Cx p R s m args meth c G A ad0 nL own cc isI X) {ad : Nat → Nat} {H : Heap} {locs : List Loc} (As : List Value) (hP : va_P (G.1, G.2.1) vwCl (wsOf G ad h) H) (hD : va_D A (wsOf G ad h)) (hS : va_S A s.heap H locs) (hw : wfH h) (ha : agr R ad0 n0 ad h.2.2.2) : PreS s H (va_Pc (As.map (rv ad)) (Pcx G ad h H.size)) (As.map (rv ad)) := by
  refine ⟨fun a U g mk q => ⟨q.1, q.2.1, q.2.2.1, va_K.moved (u := U) (Vm.Alike.refl U.vm) q.2.2.2.1, q.2.2.2.2.1, sk_blind g mk a q.2.2.2.2.2.1, q.2.2.2.2.2.2⟩, fun U hU hW => ⟨rfl, by rw [hU], by rw [hU]; exact hP, va_K.moved hW.alike cx.2.2.2.2.2.1, hD.weaken (fun _ _ _ _ => trivial), ?_, hw⟩⟩
  exact sk_moved cx.2.2.2.2.2.2.1 hS hU hW (ws_free hD hS cx.2.2.2.2.2.2.2.1) ha.2.2.1
/-- behind a call -/
theorem so_back (cx : Cx p R s m args meth c G A ad0 nL own cc isI X) {rm : Room} {K : KT} {a9 : Array Value} {st0 : List Value} {ad : Nat → Nat} {H : Heap} {locs : List Loc} {ls : Array Slot} (hP : va_P (G.1, G.2.1) vwCl (wsOf G ad h) H) (hD : va_D A (wsOf G ad h)) (hS : va_S A s.heap H locs) (hl : lv_has ls nL (lvA ad 0 lv)) (hn : nB ≤ h.2.2.2) (ha : agr R ad0 n0 ad h.2.2.2) (hc : cn + rm.cells ≤ R.cells) (hok : rm.cells = 0 ∨ (lOK h.2.2.2 lv ∧ sOK h.2.2.2 r))
    (hr : va_Run p l e R s m args below meth c H locs cn sn rm.cells rm.slots (F0 m pc ls st0) (r.map (rv ad)) (Qgx rm G K ad h H.size a9) (va_A (wsOf G ad h) H.size))
    (hK : ∀ o h', K o h' → AtP p l e R s m args below meth c Q G A ad0 n0 nB nL (pc + 3) lv (o.toList ++ r) h' (cn + rm.cells) (sn + rm.slots)) : W p l e R s m args below meth c H locs cn sn Q (F0 m pc ls st0) := by
  have hF := ws_free hD hS cx.2.2.2.2.2.2.2.1
  intro T hT X
  obtain ⟨v, st₀, t, T', L, h0, X', hL, e1, e2, ⟨⟨o, h', ad', hv, hKo, hw', ha', hP', hD'⟩, hz, hk⟩, st⟩ := hr T hT X
  cases hv
  rw [h0] at hz hk
  have hle := ha'.1
  have hl' : lvA ad' 0 lv = lvA ad 0 lv := by
    rcases hok with z | z
    · rw [ha'.2.2.2 z]
    · exact lvA_ad ha'.2.1 ha'.2.2.1 lv z.1 0
  have hr' : r.map (rv ad') = r.map (rv ad) := by
    rcases hok with z | z
    · rw [ha'.2.2.2 z]
    · exact st_ad ha'.2.1 ha'.2.2.1 r z.2
  have hag : agr R ad0 n0 ad' h'.2.2.2 := by
    refine ⟨Nat.le_trans ha.1 hle, fun k hk2 => ?_, fun k hk2 => ?_, fun z => ?_⟩
    · rw [ha'.2.1 k (Nat.lt_of_lt_of_le hk2 ha.1), ha.2.1 k hk2]
    · rw [ha'.2.2.1 k hk2, ha.2.2.1 k hk2]
    · rw [ha'.2.2.2 (by omega), ha.2.2.2 z]
  obtain ⟨t2, a1, b1⟩ := hK o h' hKo ad' T'.heap (locs ++ L) ls (by rw [e1]; exact hP') (hD'.weaken (fun _ q _ z => hF q.1 z))
    ⟨Nat.le_trans hS.1 (by rw [e1]; exact hz), fun q h1 h2 => by rw [e1, hk q (Nat.lt_of_lt_of_le h1 hS.1) (fun z => h2 (hF q z))]; exact hS.2.1 q h1 h2, fun q hq => by
      rcases List.mem_append.mp hq with z | z
      · exact hS.2.2 q z
      · exact hF _ (hL q z)⟩ (by rw [hl']; exact hl) hw' (Nat.le_trans hn hle) hag T' rfl X'
  refine ⟨t2, st t2 ?_, b1⟩
  have e3 : (o.toList ++ r).map (rv ad') = (o.map (rv ad')).toList ++ r.map (rv ad) := by
    rw [List.map_append, hr']
    cases o <;> rfl
  rw [e3] at a1
  exact a1
theorem so_cs (cx : Cx p R s m args meth c G A ad0 nL own cc isI X) {i : Nat} {d : MD} {As : List Value} (hd : decode cc pc = .ok (.invokestatic i, 3)) (hdo : dOK R d) (hst : Cond.static d.1 ∈ goodT) (hlk : Cond.methodLink own i d.1 ∈ goodT ∨ Cond.methodLinkNest own i d.1 "RiverHead" ∈ nestT) (hlen : As.length = d.2.2.2.2.2.1) (h1 : cn + d.2.2.2.2.1.cells ≤ R.cells) (h2 : sn + d.2.2.2.2.1.slots ≤ R.slots) (h3 : cat2 r ≤ 8) (h4 : d.2.2.2.2.1.cells = 0 ∨ (lOK h.2.2.2 lv ∧ sOK h.2.2.2 r))
    (hC : Ct d As h (fun o h' => AtP p l e R s m args below meth c Q G A ad0 n0 nB nL (pc + 3) lv (o.toList ++ r) h' (cn + d.2.2.2.2.1.cells) (sn + d.2.2.2.2.1.slots))) : AtP p l e R s m args below meth c Q G A ad0 n0 nB nL pc lv (As.reverse ++ r) h cn sn := fun ad H locs ls hP hD hS hl hw hn ha => by
  have hpre := so_pre cx As hP hD hS hw ha
  have hM := hC l G ad H.size
  have hW : 2 * (F0 m pc ls ((As.reverse ++ r).map (rv ad))).monitorRoom + ((r.map (rv ad)).map fun v => v.category).sum ≤ 8 := lv_room (by rw [cat2_sum]; exact h3)
  have hstk : (F0 m pc ls ((As.reverse ++ r).map (rv ad))).stack = (As.map (rv ad)).reverse ++ r.map (rv ad) := by simp [F0, List.map_append, List.map_reverse]
  refine so_back (K := KTy d (fun o h' => AtP p l e R s m args below meth c Q G A ad0 n0 nB nL (pc + 3) lv (o.toList ++ r) h' (cn + d.2.2.2.2.1.cells) (sn + d.2.2.2.2.1.slots))) (r := r) (a9 := (As.map (rv ad)).toArray) cx hP hD hS hl hn ha h1 h4 ?_ (fun o h' z => z.1)
  rcases hlk with hlk | hlk
  · exact va_runS (Ts := goodT) ⟨cx.1, cx.2.1, cx.2.2.1, cx.2.2.2.1, cx.2.2.2.2.1⟩ hM ⟨callB_of _ cx.2.2.2.2.1 (mws_good hdo) rfl rfl rfl (cx.2.2.2.2.1 _ hdo.2.1) (cx.2.2.2.2.1 _ hlk) hdo.2.2.1 hdo.2.2.2, cx.2.2.2.2.1 _ hst⟩ hpre rfl (by rw [List.length_map]; exact hlen) hl.1 hstk hW hd ⟨h1, h2⟩
  · exact va_runSN (Ts := goodT) ⟨cx.1, cx.2.1, cx.2.2.1, cx.2.2.2.1, cx.2.2.2.2.1⟩ hM ⟨va_cnB _ cx.2.2.2.2.1 (mws_good hdo) rfl rfl rfl (cx.2.2.2.2.2.2.1.1 _ hlk) (cx.2.2.2.2.1 _ hdo.2.1) hdo.2.2.1 hdo.2.2.2, cx.2.2.2.2.1 _ hst, trivial⟩ hpre rfl (by rw [List.length_map]; exact hlen) hl.1 hstk hW hd ⟨h1, h2⟩
theorem so_ci (cx : Cx p R s m args meth c G A ad0 nL own cc isI X) {i o : Nat} {d : MD} {As : List Value} (hd : decode cc pc = .ok (.invokespecial i, 3)) (hdo : dOK R d) (hins : Cond.instanceMethod d.1 ∈ goodT) (hnm : d.1.name = "<init>") (hrt : d.2.2.2.1 = none) (hlk : Cond.methodLink own i d.1 ∈ goodT ∨ Cond.methodLinkNest own i d.1 "RiverHead" ∈ nestT) (hlen : As.length = d.2.2.2.2.2.1) (h1 : cn + d.2.2.2.2.1.cells ≤ R.cells) (h2 : sn + d.2.2.2.2.1.slots ≤ R.slots) (h3 : cat2 r ≤ 8) (h4 : d.2.2.2.2.1.cells = 0 ∨ (lOK h.2.2.2 lv ∧ sOK h.2.2.2 r))
    (hC : Ct d (.ref o :: As) h (fun o h' => AtP p l e R s m args below meth c Q G A ad0 n0 nB nL (pc + 3) lv (o.toList ++ r) h' (cn + d.2.2.2.2.1.cells) (sn + d.2.2.2.2.1.slots))) : AtP p l e R s m args below meth c Q G A ad0 n0 nB nL pc lv (As.reverse ++ .ref o :: r) h cn sn := fun ad H locs ls hP hD hS hl hw hn ha => by
  have hpre := so_pre cx (.ref o :: As) hP hD hS hw ha
  have hM := hC l G ad H.size
  have hW : 2 * (F0 m pc ls ((As.reverse ++ .ref o :: r).map (rv ad))).monitorRoom + ((r.map (rv ad)).map fun v => v.category).sum ≤ 8 := lv_room (by rw [cat2_sum]; exact h3)
  have hstk : (F0 m pc ls ((As.reverse ++ .ref o :: r).map (rv ad))).stack = (As.map (rv ad)).reverse ++ .ref (ad o) :: r.map (rv ad) := by simp [F0, List.map_append, List.map_reverse, rv]
  refine so_back (K := KTy d (fun o h' => AtP p l e R s m args below meth c Q G A ad0 n0 nB nL (pc + 3) lv (o.toList ++ r) h' (cn + d.2.2.2.2.1.cells) (sn + d.2.2.2.2.1.slots))) (r := r) (a9 := (Value.ref (ad o) :: As.map (rv ad)).toArray) cx hP hD hS hl hn ha h1 h4 ?_ (fun o h' z => z.1)
  have hdo2 := hdo
  rcases hlk with hlk | hlk
  · exact va_runI (Ts := goodT) ⟨cx.1, cx.2.1, cx.2.2.1, cx.2.2.2.1, cx.2.2.2.2.1⟩ hM ⟨callB_of (bytes := d.2.1) (ws' := goodT) _ cx.2.2.2.2.1 (mws_good hdo) (by simp only [mws, hrt]) rfl rfl (cx.2.2.2.2.1 _ hdo.2.1) (cx.2.2.2.2.1 _ hlk) hdo.2.2.1 hdo.2.2.2, hnm, cx.2.2.2.2.1 _ hins⟩ hpre rfl (by rw [List.length_map]; exact hlen) hl.1 hstk hW hd ⟨h1, h2⟩
  · exact va_runIN (Ts := goodT) ⟨cx.1, cx.2.1, cx.2.2.1, cx.2.2.2.1, cx.2.2.2.2.1⟩ hM ⟨va_cnB (bytes := d.2.1) (ws' := goodT) _ cx.2.2.2.2.1 (mws_good hdo) (by simp only [mws, hrt]) rfl rfl (cx.2.2.2.2.2.2.1.1 _ hlk) (cx.2.2.2.2.1 _ hdo.2.1) hdo.2.2.1 hdo.2.2.2, hnm, cx.2.2.2.2.1 _ hins⟩ hpre rfl (by rw [List.length_map]; exact hlen) hl.1 hstk hW hd ⟨h1, h2⟩
theorem so_cv (cx : Cx p R s m args meth c G A ad0 nL own cc isI X) {i o : Nat} {d : MD} {As : List Value} (hd : decode cc pc = .ok (.invokevirtual i, 3)) (hdo : dOK R d) (hins : Cond.instanceMethod d.1 ∈ goodT) (hsel : Cond.selects d.1.cls d.1 d.1 ∈ goodT) (hlk : Cond.methodLink own i d.1 ∈ goodT) (hlen : As.length = d.2.2.2.2.2.1) (h1 : cn + d.2.2.2.2.1.cells ≤ R.cells) (h2 : sn + d.2.2.2.2.1.slots ≤ R.slots) (h3 : cat2 r ≤ 8) (h4 : d.2.2.2.2.1.cells = 0 ∨ (lOK h.2.2.2 lv ∧ sOK h.2.2.2 r))
    (hrec : (1000 ≤ o ∧ o < 1009 ∧ d.1.cls = "java/lang/String") ∨ (∃ a T N, isO nB h o (3, a) ∧ vwCl[a]? = some (d.1.cls, T, N)))
    (hC : Ct d (.ref o :: As) h (fun o h' => AtP p l e R s m args below meth c Q G A ad0 n0 nB nL (pc + 3) lv (o.toList ++ r) h' (cn + d.2.2.2.2.1.cells) (sn + d.2.2.2.2.1.slots))) : AtP p l e R s m args below meth c Q G A ad0 n0 nB nL pc lv (As.reverse ++ .ref o :: r) h cn sn := fun ad H locs ls hP hD hS hl hw hn ha => by
  have hpre := so_pre cx (.ref o :: As) hP hD hS hw ha
  have hM := hC l G ad H.size
  have hW : 2 * (F0 m pc ls ((As.reverse ++ .ref o :: r).map (rv ad))).monitorRoom + ((r.map (rv ad)).map fun v => v.category).sum ≤ 8 := lv_room (by rw [cat2_sum]; exact h3)
  have hstk : (F0 m pc ls ((As.reverse ++ .ref o :: r).map (rv ad))).stack = (As.map (rv ad)).reverse ++ .ref (ad o) :: r.map (rv ad) := by simp [F0, List.map_append, List.map_reverse, rv]
  have hcell : ∃ cellB : Cell, H[ad o]? = some cellB ∧ cellB.vm.isStatics = false ∧ s.vm.findClass d.1.cls = some cellB.cls := by
    rcases hrec with ⟨z1, z2, z3⟩ | ⟨a, T, N, z1, z2⟩
    · have := vk_recv (i := o - 1000) cx.2.2.2.2.2.2.1.2.2.1 (by omega) hS
      rw [← cx.2.2.2.2.2.2.1.2.2.2.2.2 (o - 1000) (by omega), show 1000 + (o - 1000) = o by omega, ← ha.2.2.1 o z1] at this
      rw [z3]; exact this
    · exact va_recv cx.2.2.2.2.2.1 hP z2 (by rw [ws_get (o_lt z1 hn), cellO z1.2])
  refine so_back (K := KTy d (fun o h' => AtP p l e R s m args below meth c Q G A ad0 n0 nB nL (pc + 3) lv (o.toList ++ r) h' (cn + d.2.2.2.2.1.cells) (sn + d.2.2.2.2.1.slots))) (r := r) (a9 := (Value.ref (ad o) :: As.map (rv ad)).toArray) cx hP hD hS hl hn ha h1 h4 ?_ (fun o h' z => z.1)
  exact va_runV (C := d.1.cls) (Ts := goodT) ⟨cx.1, cx.2.1, cx.2.2.1, cx.2.2.2.1, cx.2.2.2.2.1⟩ hM ⟨callB_of _ cx.2.2.2.2.1 (mws_good hdo) rfl rfl rfl (cx.2.2.2.2.1 _ hdo.2.1) (cx.2.2.2.2.1 _ hlk) hdo.2.2.1 hdo.2.2.2, cx.2.2.2.2.1 _ hins, cx.2.2.2.2.1 _ hsel⟩ ⟨hpre.1, hcell, hpre.2⟩ rfl (by rw [List.length_map]; exact hlen) hl.1 hstk hW hd ⟨h1, h2⟩
end SN3
