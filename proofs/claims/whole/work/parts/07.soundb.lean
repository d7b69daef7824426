section SN2
variable {p : Program} {l : Launch} {e : Env} {R : Room} {s : State} {m : MethodId} {args : Array Value} {below : List Frame} {meth : Method} {c : Code} {Q : State → Prop} {G : GG} {A : Nat → Prop} {ad0 : Nat → Nat} {n0 nB nL : Nat} {own : String} {cc : ByteArray} {isI : Bool} {X : Nat × (Nat → Int32)}
variable {pc : Nat} {lv : LV} {r : List Value} {h : MH} {cn sn : Nat}
/-- a new cell stands behind the others -/
def adN (ad : Nat → Nat) (n q : Nat) : Nat → Nat := fun k => if k = n then q else ad k
theorem adN_n (ad : Nat → Nat) (n q : Nat) : adN ad n q n = q := by simp [adN]
theorem adN_o (ad : Nat → Nat) {n q k : Nat} (h : k ≠ n) : adN ad n q k = ad k := by simp [adN, h]
theorem ws_new {ad : Nat → Nat} {q : Nat} {E : va_E} (hw : wfH h) (hE : cellE G (adN ad h.2.2.2 q) (nwH h) h.2.2.2 = E) : wsOf G ad h ++ [(q, E)] = wsOf G (adN ad h.2.2.2 q) (nwH h) := by
  apply List.ext_getElem?
  intro b
  by_cases hb : b < h.2.2.2
  · have hne : b ≠ h.2.2.2 := Nat.ne_of_lt hb
    rw [List.getElem?_append_left (by simpa [wsOf] using hb), ws_get hb, ws_get (show b < (nwH h).2.2.2 by simp only [nwH]; omega), adN_o ad hne]
    congr 2
    have e1 : (nwH h).1 b = h.1 b := by funext y; simp [nwH, hne]
    have e2 : (nwH h).2.1 b = h.2.1 b := by funext y; simp [nwH, hne]
    have e3 : (nwH h).2.2.1 b = h.2.2.1 b := by funext y; simp [nwH, hne]
    have e4 : ∀ j, ((nwH h).2.2.1 b j).map (adN ad h.2.2.2 q) = (h.2.2.1 b j).map ad := by
      intro j
      rw [e3]
      cases hj : h.2.2.1 b j with
      | none => rfl
      | some k => simp only [Option.map_some, adN_o ad (Nat.ne_of_lt (hw.2 b j k hb hj))]
    have e5 : ∀ ts j, fldV (adN ad h.2.2.2 q) (nwH h) b j ts = fldV ad h b j ts := by
      intro ts
      induction ts with
      | nil => intro j; rfl
      | cons t ts ih =>
        intro j
        simp only [fldV, ih]
        congr 1
        unfold fval
        split
        · rw [e2]
        · rw [e4]
        · rw [e1]
    unfold cellE
    split
    · rw [e1]
    · rw [e2]
    · simp only [e4]
    · rw [e5]
  · by_cases hb2 : b = h.2.2.2
    · subst hb2
      rw [List.getElem?_append_right (by simp [wsOf]), ws_get (show h.2.2.2 < (nwH h).2.2.2 by simp only [nwH]; omega), adN_n, hE]
      simp [wsOf]
    · rw [List.getElem?_eq_none (by simp only [wsOf, List.length_append, List.length_map, List.length_range, List.length_cons, List.length_nil]; omega), List.getElem?_eq_none (by simp only [wsOf, List.length_map, List.length_range, nwH]; omega)]
theorem wf_new (hw : wfH h) (hn : h.2.2.2 < 1000) : wfH (nwH h) := by
  refine ⟨by simp only [nwH]; omega, fun a j k h1 h2 => ?_⟩
  simp only [nwH] at h1 h2 ⊢
  by_cases ha : a = h.2.2.2
  · simp [ha] at h2
  · rw [if_neg ha] at h2
    have := hw.2 a j k (by omega) h2
    omega
theorem ag_new {ad : Nat → Nat} {q : Nat} (hn : h.2.2.2 < 1000) (hR : 1 ≤ R.cells) (ha : agr R ad0 n0 ad h.2.2.2) : agr R ad0 n0 (adN ad h.2.2.2 q) (nwH h).2.2.2 := by
  refine ⟨by simp only [nwH]; have := ha.1; omega, fun k hk => ?_, fun k hk => ?_, fun h0 => by omega⟩
  · rw [adN_o ad (by have := ha.1; omega)]; exact ha.2.1 k hk
  · rw [adN_o ad (by omega)]; exact ha.2.2.1 k hk
theorem FT_no9 : ∀ a, a < 12 → 9 ∉ FT a := by decide
theorem so_new (cx : Cx p R s m args meth c G A ad0 nL own cc isI X) {i a N : Nat} {C : String} {T : u_T} (hd : decode cc pc = .ok (.new i, 3)) (hc : vwCl[a]? = some (C, T, N)) (hcl : Cond.classLink own i C ∈ goodT) (hins : Cond.instantiable C N ∈ goodT) (hini : Cond.initialized C ∈ goodT) (hs : SH h.2.2.2 = (3, a)) (hn1 : h.2.2.2 < 1000) (h1 : cn + 1 ≤ R.cells) (h2 : sn + N ≤ R.slots) (h3 : lOK h.2.2.2 lv) (h4 : sOK h.2.2.2 r)
    (k : AtP p l e R s m args below meth c Q G A ad0 n0 nB nL (pc + 3) lv (.ref h.2.2.2 :: r) (nwH h) (cn + 1) (sn + N)) : AtP p l e R s m args below meth c Q G A ad0 n0 nB nL pc lv r h cn sn := fun ad H locs ls hP hD hS hl hw hn ha => by
  obtain ⟨c1, c2, c3, c4, c5⟩ := cl_all hc
  refine va_new (ci := a) (fs := fldV ad (nwH h) h.2.2.2 0 (FT a)) cx.1 cx.2.1 cx.2.2.2.2.1 c1 (clTy a) c2 cx.2.2.2.1 (cx.2.2.2.2.1 _ hcl) (cx.2.2.2.2.1 _ hins) (cx.2.2.2.2.1 _ hini) cx.2.2.2.2.2.1 hP hD hS cx.2.2.2.2.2.2.2.1 hc ?_ h1 h2 hd ?_
  · intro j hj
    simp only [vp_V, List.getD_eq_getElem?_getD, fldV_get, c5 j hj, Option.map_some, Option.getD_some, Nat.zero_add]
    have h9 : ¬ tyF (clTy a j) = 9 := fun z => FT_no9 a (cl_lt hc) (by rw [← z]; exact List.mem_of_getElem? (c5 j hj))
    cases hty : clTy a j <;> first | (rw [hty] at h9; exact absurd rfl h9) | simp [defaultValue, tyF, fval, nwH, va_rf]
  · intro q H1 g1 g2 g3
    have hE : cellE G (adN ad h.2.2.2 q) (nwH h) h.2.2.2 = .inr (a, fldV ad (nwH h) h.2.2.2 0 (FT a)) := by
      rw [cellO hs]
      congr 2
      apply List.ext_getElem?
      intro j
      rw [fldV_get, fldV_get]
      congr 1
      funext t
      unfold fval
      split <;> simp [nwH]
    rw [ws_new hw hE] at g1 g2
    have hl' : lv_has ls nL (lvA (adN ad h.2.2.2 q) 0 lv) := by rw [lvA_ad (fun k hk => adN_o ad (Nat.ne_of_lt hk)) (fun k hk => adN_o ad (by omega)) lv h3]; exact hl
    have := k (adN ad h.2.2.2 q) H1 locs ls g1 g2 g3 hl' (wf_new hw hn1) (by simp only [nwH]; omega) (ag_new hn1 (by omega) ha)
    rw [show ((.ref h.2.2.2 :: r : List Value).map (rv (adN ad h.2.2.2 q))) = .ref q :: r.map (rv ad) by rw [List.map_cons, st_ad (fun k hk => adN_o ad (Nat.ne_of_lt hk)) (fun k hk => adN_o ad (by omega)) r h4]; simp [rv, adN_n]] at this
    exact this
theorem arr_one {U : State} {cA : ClassId} {ty : FieldType} (hty : ty = .int ∨ ty = .long) {D : va_G} {cl : List vw_C} {tys : List (ClassId × FieldType)} {cB : ClassId} (h1 : va_K D cl (tys ++ [(cA, ty)]) U) {t : Nat} (ht : tys[t]? = some (cB, ty)) : cA = cB := by
  have e1 := (h1.2 tys.length (cA, ty) (by simp)).2
  have e2 := (h1.2 t (cB, ty) (by rw [List.getElem?_append_left (List.getElem?_eq_some_iff.mp ht).1]; exact ht)).2
  rcases hty with rfl | rfl
  · exact Option.some.inj (e1.symm.trans e2)
  · exact Option.some.inj (e1.symm.trans e2)
theorem arr_oneO {U : State} {cA : ClassId} {C : String} {D : va_G} {cl : List vw_C} {tys : List (ClassId × FieldType)} {cB : ClassId} (h1 : va_K D cl (tys ++ [(cA, .object C)]) U) {t : Nat} (ht : tys[t]? = some (cB, .object C)) : cA = cB := by
  obtain ⟨_, _, _, _, _, e1⟩ := (h1.2 tys.length (cA, .object C) (by simp)).2
  obtain ⟨_, _, _, _, _, e2⟩ := (h1.2 t (cB, .object C) (by rw [List.getElem?_append_left (List.getElem?_eq_some_iff.mp ht).1]; exact ht)).2
  exact Option.some.inj (e1.symm.trans e2)
theorem so_newE (cx : Cx p R s m args meth c G A ad0 nL own cc isI X) {q N : Nat} {E : va_E} {ad : Nat → Nat} {H1 : Heap} {locs : List Loc} {ls : Array Slot} {pc' : Nat} (hE : cellE G (adN ad h.2.2.2 q) (nwH h) h.2.2.2 = E) (hn1 : h.2.2.2 < 1000) (h1 : cn + 1 ≤ R.cells) (h3 : lOK h.2.2.2 lv) (h4 : sOK h.2.2.2 r) (hl : lv_has ls nL (lvA ad 0 lv)) (hw : wfH h) (hn : nB ≤ h.2.2.2) (ha : agr R ad0 n0 ad h.2.2.2) (g1 : va_P (G.1, G.2.1) vwCl (wsOf G ad h ++ [(q, E)]) H1) (g2 : va_D A (wsOf G ad h ++ [(q, E)])) (g3 : va_S A s.heap H1 locs)
    (k : AtP p l e R s m args below meth c Q G A ad0 n0 nB nL pc' lv (.ref h.2.2.2 :: r) (nwH h) (cn + 1) (sn + N)) : W p l e R s m args below meth c H1 locs (cn + 1) (sn + N) Q (F0 m pc' ls (.ref q :: r.map (rv ad))) := by
  rw [ws_new hw hE] at g1 g2
  have hl' : lv_has ls nL (lvA (adN ad h.2.2.2 q) 0 lv) := by rw [lvA_ad (fun k hk => adN_o ad (Nat.ne_of_lt hk)) (fun k hk => adN_o ad (by omega)) lv h3]; exact hl
  have := k (adN ad h.2.2.2 q) H1 locs ls g1 g2 g3 hl' (wf_new hw hn1) (by simp only [nwH]; omega) (ag_new hn1 (by omega) ha)
  rw [show ((.ref h.2.2.2 :: r : List Value).map (rv (adN ad h.2.2.2 q))) = .ref q :: r.map (rv ad) by rw [List.map_cons, st_ad (fun k hk => adN_o ad (Nat.ne_of_lt hk)) (fun k hk => adN_o ad (by omega)) r h4]; simp [rv, adN_n]] at this
  exact this
theorem so_newI (cx : Cx p R s m args meth c G A ad0 nL own cc isI X) {N : Nat} {v : Int32} (hd : decode cc pc = .ok (.newarray .int, 2)) (har : Cond.arrayClass .int ∈ goodT) (hv : ¬ v < 0) (hvN : v.toNatClampNeg = N) (hby : N * 8 ≤ 536870912) (hs : SH h.2.2.2 = (0, N)) (hn1 : h.2.2.2 < 1000) (h1 : cn + 1 ≤ R.cells) (h2 : sn + N ≤ R.slots) (h3 : lOK h.2.2.2 lv) (h4 : sOK h.2.2.2 r)
    (k : AtP p l e R s m args below meth c Q G A ad0 n0 nB nL (pc + 2) lv (.ref h.2.2.2 :: r) (nwH h) (cn + 1) (sn + N)) : AtP p l e R s m args below meth c Q G A ad0 n0 nB nL pc lv (.int v :: r) h cn sn := fun ad H locs ls hP hD hS hl hw hn ha => by
  refine va_newa (atype := .int) (N' := N) (ty := .int) (a0 := (N, .inl (fun _ => 0))) cx.1 cx.2.1 (cx.2.2.2.2.1 _ har) rfl cx.2.2.2.2.2.1 hP hD hS cx.2.2.2.2.2.2.2.1 (fun _ => rfl) hv hvN (by simp only [componentBytes]; omega) h1 h2 hd ?_
  intro q cA H1 g0 g1 g2 g3
  have hcA : cA = G.2.2.1 := arr_one (t := 0) (Or.inl rfl) g0 rfl
  subst hcA
  refine so_newE cx ?_ hn1 h1 h3 h4 hl hw hn ha g1 g2 g3 k
  rw [cell0 (by rw [hs]), hs]
  simp [nwH]
theorem so_newL (cx : Cx p R s m args meth c G A ad0 nL own cc isI X) {N : Nat} {v : Int32} (hd : decode cc pc = .ok (.newarray .long, 2)) (har : Cond.arrayClass .long ∈ goodT) (hv : ¬ v < 0) (hvN : v.toNatClampNeg = N) (hby : N * 8 ≤ 536870912) (hs : SH h.2.2.2 = (1, N)) (hn1 : h.2.2.2 < 1000) (h1 : cn + 1 ≤ R.cells) (h2 : sn + N ≤ R.slots) (h3 : lOK h.2.2.2 lv) (h4 : sOK h.2.2.2 r)
    (k : AtP p l e R s m args below meth c Q G A ad0 n0 nB nL (pc + 2) lv (.ref h.2.2.2 :: r) (nwH h) (cn + 1) (sn + N)) : AtP p l e R s m args below meth c Q G A ad0 n0 nB nL pc lv (.int v :: r) h cn sn := fun ad H locs ls hP hD hS hl hw hn ha => by
  refine va_newa (atype := .long) (N' := N) (ty := .long) (a0 := (N, .inr (.inl (fun _ => 0)))) cx.1 cx.2.1 (cx.2.2.2.2.1 _ har) rfl cx.2.2.2.2.2.1 hP hD hS cx.2.2.2.2.2.2.2.1 (fun _ => rfl) hv hvN (by simp only [componentBytes]; omega) h1 h2 hd ?_
  intro q cA H1 g0 g1 g2 g3
  have hcA : cA = G.2.2.2.1 := arr_one (t := 1) (Or.inr rfl) g0 rfl
  subst hcA
  refine so_newE cx ?_ hn1 h1 h3 h4 hl hw hn ha g1 g2 g3 k
  rw [cell1 (by rw [hs]), hs]
  simp [nwH]
theorem so_newR (cx : Cx p R s m args meth c G A ad0 nL own cc isI X) {i N : Nat} {v : Int32} (hd : decode cc pc = .ok (.anewarray i, 3)) (hcl : Cond.classLink own i "RiverHead$Sheet" ∈ goodT) (hv : ¬ v < 0) (hvN : v.toNatClampNeg = N) (hby : N * 8 ≤ 536870912) (hs : SH h.2.2.2 = (2, N)) (hn1 : h.2.2.2 < 1000) (h1 : cn + 1 ≤ R.cells) (h2 : sn + N ≤ R.slots) (h3 : lOK h.2.2.2 lv) (h4 : sOK h.2.2.2 r)
    (k : AtP p l e R s m args below meth c Q G A ad0 n0 nB nL (pc + 3) lv (.ref h.2.2.2 :: r) (nwH h) (cn + 1) (sn + N)) : AtP p l e R s m args below meth c Q G A ad0 n0 nB nL pc lv (.int v :: r) h cn sn := fun ad H locs ls hP hD hS hl hw hn ha => by
  refine va_newq (C := "RiverHead$Sheet") cx.1 cx.2.1 cx.2.2.2.1 (cx.2.2.2.2.1 _ hcl) cx.2.2.2.2.2.2.1.2.2.2.2.1 cx.2.2.2.2.2.1 hP hD hS cx.2.2.2.2.2.2.2.1 hv hvN (by omega) h1 h2 hd ?_
  intro q cA H1 g0 g1 g2 g3
  have hcA : cA = G.2.2.2.2.1 := arr_oneO (t := 2) g0 rfl
  subst hcA
  refine so_newE cx ?_ hn1 h1 h3 h4 hl hw hn ha g1 g2 g3 k
  rw [cell2 (by rw [hs]), hs]
  simp [nwH]
theorem so_obj (cx : Cx p R s m args meth c G A ad0 nL own cc isI X) {i o : Nat} (hd : decode cc pc = .ok (.invokespecial i, 3)) (hlk : Cond.methodLink own i Lib.objectInit ∈ goodT) (hins : Cond.instanceMethod Lib.objectInit ∈ goodT) (hco : Cond.code Lib.objectInit ⟨#[0xb1]⟩ 1 none ∈ goodT) (h1 : 1 ≤ R.frames) (h2 : cat2 r + 12 ≤ R.locals) (k : AtP p l e R s m args below meth c Q G A ad0 n0 nB nL (pc + 3) lv r h cn sn) : AtP p l e R s m args below meth c Q G A ad0 n0 nB nL pc lv (.ref o :: r) h cn sn := fun ad H locs ls hP hD hS hl hw hn ha =>
  W.objInit cx.1 cx.2.1 cx.2.2.2.1 (cx.2.2.2.2.1 _ hlk) (cx.2.2.2.2.1 _ hins) (cx.2.2.2.2.1 _ hco) rfl (by rw [cx.2.2.1]; exact hl.1) rfl hd h1 (by rw [cat2_sum]; show 2 * 0 + _ + 12 ≤ _; omega) (k ad H locs ls hP hD hS hl hw hn ha)
theorem so_cpyI (cx : Cx p R s m args meth c G A ad0 nL own cc isI X) {i o1 o2 : Nat} {sp dp n : Int32} (hd : decode cc pc = .ok (.invokestatic i, 3)) (hlk : Cond.methodLink own i arraycopyName ∈ goodT) (hna : Cond.native arraycopyName ∈ goodT) (hst : Cond.static arraycopyName ∈ goodT) (hin : Cond.initialized "java/lang/System" ∈ goodT) (hf : 1 ≤ R.frames) (ho1 : isA nB h o1 0) (ho2 : isA nB h o2 0) (h1 : ¬ sp < 0) (h2 : ¬ dp < 0) (h3 : ¬ n < 0) (h4 : sp.toNatClampNeg + n.toNatClampNeg ≤ (SH o1).2) (h5 : dp.toNatClampNeg + n.toNatClampNeg ≤ (SH o2).2) (h6 : cat2 r + 18 ≤ R.locals)
    (k : AtP p l e R s m args below meth c Q G A ad0 n0 nB nL (pc + 3) lv r (cpI h.1 o1 o2 sp.toNatClampNeg dp.toNatClampNeg n.toNatClampNeg, h.2.1, h.2.2.1, h.2.2.2) cn sn) : AtP p l e R s m args below meth c Q G A ad0 n0 nB nL pc lv (.int n :: .int dp :: .ref o2 :: .int sp :: .ref o1 :: r) h cn sn := fun ad H locs ls hP hD hS hl hw hn ha => by
  refine va_copyi (ty := .int) cx.1 cx.2.1 (by rw [cx.2.2.1]; exact hl.1.symm) cx.2.2.2.1 (cx.2.2.2.2.1 _ hlk) (cx.2.2.2.2.1 _ hna) (cx.2.2.2.2.1 _ hst) (cx.2.2.2.2.1 _ hin) cx.2.2.2.2.2.1 hP hD hS o1 o2 0 0 (by rw [ws_get (a_lt ho1 hn), cell0 ho1.2]) (by rw [ws_get (a_lt ho2 hn), cell0 ho2.2]) rfl rfl rfl h1 h2 h3 h4 h5 (fun _ _ => rfl) hf (by rw [cat2_sum]; exact h6) hd ?_
  rw [ws_set (G := G) (ad := ad) (h := h) (a := o2) (h' := (cpI h.1 o1 o2 sp.toNatClampNeg dp.toNatClampNeg n.toNatClampNeg, h.2.1, h.2.2.1, h.2.2.2)) rfl (by rw [cell0 ho2.2]; congr 3; congr 1; funext y; simp [cpI]) (fun b hb => cell_cg (by funext y; simp [cpI, hb]) rfl rfl)]
  intro H1 locs1 g1 g2 g3
  exact k ad H1 locs1 ls g1 g2 g3 hl hw hn ha
theorem so_cpyL (cx : Cx p R s m args meth c G A ad0 nL own cc isI X) {i o1 o2 : Nat} {sp dp n : Int32} (hd : decode cc pc = .ok (.invokestatic i, 3)) (hlk : Cond.methodLink own i arraycopyName ∈ goodT) (hna : Cond.native arraycopyName ∈ goodT) (hst : Cond.static arraycopyName ∈ goodT) (hin : Cond.initialized "java/lang/System" ∈ goodT) (hf : 1 ≤ R.frames) (ho1 : isA nB h o1 1) (ho2 : isA nB h o2 1) (h1 : ¬ sp < 0) (h2 : ¬ dp < 0) (h3 : ¬ n < 0) (h4 : sp.toNatClampNeg + n.toNatClampNeg ≤ (SH o1).2) (h5 : dp.toNatClampNeg + n.toNatClampNeg ≤ (SH o2).2) (h6 : cat2 r + 18 ≤ R.locals)
    (k : AtP p l e R s m args below meth c Q G A ad0 n0 nB nL (pc + 3) lv r (h.1, cpL h.2.1 o1 o2 sp.toNatClampNeg dp.toNatClampNeg n.toNatClampNeg, h.2.2.1, h.2.2.2) cn sn) : AtP p l e R s m args below meth c Q G A ad0 n0 nB nL pc lv (.int n :: .int dp :: .ref o2 :: .int sp :: .ref o1 :: r) h cn sn := fun ad H locs ls hP hD hS hl hw hn ha => by
  refine va_copyl (ty := .long) cx.1 cx.2.1 (by rw [cx.2.2.1]; exact hl.1.symm) cx.2.2.2.1 (cx.2.2.2.2.1 _ hlk) (cx.2.2.2.2.1 _ hna) (cx.2.2.2.2.1 _ hst) (cx.2.2.2.2.1 _ hin) cx.2.2.2.2.2.1 hP hD hS o1 o2 1 1 (by rw [ws_get (a_lt ho1 hn), cell1 ho1.2]) (by rw [ws_get (a_lt ho2 hn), cell1 ho2.2]) rfl rfl rfl h1 h2 h3 h4 h5 (fun _ _ => rfl) hf (by rw [cat2_sum]; exact h6) hd ?_
  rw [ws_set (G := G) (ad := ad) (h := h) (a := o2) (h' := (h.1, cpL h.2.1 o1 o2 sp.toNatClampNeg dp.toNatClampNeg n.toNatClampNeg, h.2.2.1, h.2.2.2)) rfl (by rw [cell1 ho2.2]; congr 3; congr 2; funext y; simp [cpL]) (fun b hb => cell_cg rfl (by funext y; simp [cpL, hb]) rfl)]
  intro H1 locs1 g1 g2 g3
  exact k ad H1 locs1 ls g1 g2 g3 hl hw hn ha
end SN2
