def strT : List (String × Nat × String × Nat) := [("RiverHead$Reader", 50, "source ", 0), ("RiverHead$Reader", 62, "longest", 1), ("RiverHead$Reader", 64, "most", 2), ("RiverHead$Reader", 66, "highest", 3), ("RiverHead$Reader", 68, "pass ", 4), ("RiverHead$Reader", 73, " ", 5), ("RiverHead$Reader", 78, "bar ", 6), ("RiverHead$Reader", 90, " in ", 7), ("RiverHead$Reader", 96, "-", 8), ("RiverHeadModel", 203, "source ", 0), ("RiverHeadModel", 213, "longest", 1), ("RiverHeadModel", 215, "most", 2), ("RiverHeadModel", 217, "highest", 3), ("RiverHeadModel", 222, "pass ", 4), ("RiverHeadModel", 224, "bar ", 6), ("RiverHeadModel", 229, " ", 5), ("RiverHeadModel", 234, " in ", 7), ("RiverHeadModel", 236, "-", 8)]
def strLen : List Nat := [7, 7, 4, 7, 5, 1, 4, 4, 1]
def strByt : List (List Int32) := [[115, 111, 117, 114, 99, 101, 32], [108, 111, 110, 103, 101, 115, 116], [109, 111, 115, 116], [104, 105, 103, 104, 101, 115, 116], [112, 97, 115, 115, 32], [32], [98, 97, 114, 32], [32, 105, 110, 32], [45]]
def mws (d : MD) : List Cond := .code d.1 d.2.1 d.2.2.1 d.2.2.2.1 :: goodT
/-- what never changes: nest mates' links, String constants, a static, the array class of the sheets -/
def SK (G : GG) (A : Nat → Prop) (ad : Nat → Nat) (U : State) : Prop :=
  (∀ w ∈ nestT, va_Nw w U) ∧ (∀ q ∈ strT, vk_R q.1 q.2.1 q.2.2.1 (G.2.2.2.2.2.1 q.2.2.2) U) ∧ vk_S 9 strLen strByt G.2.2.2.2.2.1 G.2.2.2.2.2.2 A U U.heap ∧ (va_Z "java/lang/String" "COMPACT_STRINGS" "Z" (.int 1) A U U.heap ∧ va_Zq "jdk/internal/util/Preconditions" "SIOOBE_FORMATTER" "Ljava/util/function/BiFunction;" A U U.heap) ∧ va_AO "RiverHead$Sheet" U ∧ ∀ i : Nat, i < 9 → ad (1000 + i) = G.2.2.2.2.2.1 i
def wfH (h : MH) : Prop := h.2.2.2 ≤ 1000 ∧ ∀ a j k : Nat, a < h.2.2.2 → h.2.2.1 a j = some k → k < h.2.2.2
def agr (R : Room) (ad0 : Nat → Nat) (n0 : Nat) (ad : Nat → Nat) (n : Nat) : Prop := n0 ≤ n ∧ (∀ k : Nat, k < n0 → ad k = ad0 k) ∧ (∀ k : Nat, 1000 ≤ k → ad k = ad0 k) ∧ (R.cells = 0 → ad = ad0)
def Pcx (G : GG) (ad : Nat → Nat) (h : MH) (sz : Nat) (U : State) : Prop :=
  U.heap.size = sz ∧ va_P (G.1, G.2.1) vwCl (wsOf G ad h) U.heap ∧ va_K (G.1, G.2.1) vwCl (tysG G) U ∧ va_D (fun _ => True) (wsOf G ad h) ∧ SK G (va_A (wsOf G ad h) sz) ad U ∧ wfH h
def Qgx (R : Room) (G : GG) (K : KT) (ad : Nat → Nat) (h : MH) (sz : Nat) : Array Value → State → Outcome → State → Prop := fun _ st oc t =>
  (∃ (r : Option Value) (h' : MH) (ad' : Nat → Nat), oc = .returned (r.map (rv ad')) ∧ K r h' ∧ wfH h' ∧ agr R ad h.2.2.2 ad' h'.2.2.2 ∧ va_P (G.1, G.2.1) vwCl (wsOf G ad' h') t.heap ∧ va_D (va_A (wsOf G ad h) sz) (wsOf G ad' h')) ∧ va_F (va_A (wsOf G ad h) sz) st t
/-- an answer of the method's type -/
def tyOK (rt : Option FieldType) (r : Option Value) : Prop := match r with
  | some (.int _) => rt ≠ some .long ∧ rt ≠ none
  | some (.long _) => rt = some .long
  | none => rt = none
  | _ => False
def KTy (d : MD) (K : KT) : KT := fun r h => K r h ∧ tyOK d.2.2.2.1 r
/-- A METHOD'S CONTRACT: from the heap h it returns, with an answer and a heap of which K holds -/
def Ct (d : MD) (args : List Value) (h : MH) (K : KT) : Prop := ∀ (l : Launch) (G : GG) (ad : Nat → Nat) (sz : Nat),
  Met l d.1 (mws d) d.2.2.2.2.1 (va_Pc (args.map (rv ad)) (Pcx G ad h sz)) (Qgx d.2.2.2.2.1 G (KTy d K) ad h sz) d.2.2.2.2.1.cells d.2.2.2.2.1.slots (va_A (wsOf G ad h) sz)
-- the classes
theorem wf_mem {ws : List Cond} {ps : List Nat} (h : ws = ps.filterMap (fun i => lw_tbl[i]?) ∧ ws.all goodWord = true) : ∀ w ∈ ws, w ∈ goodT := by
  intro w hw
  refine List.mem_filter.mpr ⟨?_, List.all_eq_true.mp h.2 w hw⟩
  rw [h.1] at hw
  obtain ⟨i, -, hi⟩ := List.mem_filterMap.mp hw
  exact List.mem_of_getElem? hi
def tyF : FieldType → Nat
  | .int => 0
  | .long => 1
  | .boolean => 3
  | .object _ => 2
  | .array _ => 2
  | _ => 9
def clTy (k : Nat) : Nat → FieldType := match k with
  | 0 => tyX0 | 1 => tyX2 | 2 => tyX3 | 3 => tyX4 | 4 => tyX5 | 5 => tyX6 | 6 => tyX7 | 7 => tyX8 | 8 => tyX9 | 9 => tyX10 | 10 => tyX11 | _ => tyX12
theorem cl_lt {k : Nat} {C : String} {T : u_T} {N : Nat} (h : vwCl[k]? = some (C, T, N)) : k < 12 := (List.getElem?_eq_some_iff.mp h).1
theorem cl_all {k : Nat} {C : String} {T : u_T} {N : Nat} (h : vwCl[k]? = some (C, T, N)) : (∀ w ∈ u_ws C T N, w ∈ goodT) ∧ (∀ j, j < N → parseFieldDescriptor (T j).2.2.1 = some (clTy k j)) ∧ (∀ a, a < N → ∀ b, b < N → a ≠ b → (T a).2.1 ≠ (T b).2.1) ∧ (FT k).length = N ∧ ∀ j, j < N → (FT k)[j]? = some (tyF (clTy k j)) := by
  have hk := cl_lt h
  match k, hk, h with
  | 0, _, h => cases h; exact ⟨wf_mem wfX0, tyX0_ok, nmX0, rfl, by decide⟩
  | 1, _, h => cases h; exact ⟨wf_mem wfX2, tyX2_ok, nmX2, rfl, by decide⟩
  | 2, _, h => cases h; exact ⟨wf_mem wfX3, tyX3_ok, nmX3, rfl, by decide⟩
  | 3, _, h => cases h; exact ⟨wf_mem wfX4, tyX4_ok, nmX4, rfl, by decide⟩
  | 4, _, h => cases h; exact ⟨wf_mem wfX5, tyX5_ok, nmX5, rfl, by decide⟩
  | 5, _, h => cases h; exact ⟨wf_mem wfX6, tyX6_ok, nmX6, rfl, by decide⟩
  | 6, _, h => cases h; exact ⟨wf_mem wfX7, tyX7_ok, nmX7, rfl, by decide⟩
  | 7, _, h => cases h; exact ⟨wf_mem wfX8, tyX8_ok, nmX8, rfl, by decide⟩
  | 8, _, h => cases h; exact ⟨wf_mem wfX9, tyX9_ok, nmX9, rfl, by decide⟩
  | 9, _, h => cases h; exact ⟨wf_mem wfX10, tyX10_ok, nmX10, rfl, by decide⟩
  | 10, _, h => cases h; exact ⟨wf_mem wfX11, tyX11_ok, nmX11, rfl, by decide⟩
  | 11, _, h => cases h; exact ⟨wf_mem wfX12, tyX12_ok, nmX12, rfl, by decide⟩
  | k + 12, hk, _ => omega
-- the world's cells
theorem ws_get {G : GG} {ad : Nat → Nat} {h : MH} {a : Nat} (ha : a < h.2.2.2) : (wsOf G ad h)[a]? = some (ad a, cellE G ad h a) := by
  simp [wsOf, ha]
theorem ws_lt {G : GG} {ad : Nat → Nat} {h : MH} {a : Nat} {q : Nat × va_E} (hq : (wsOf G ad h)[a]? = some q) : a < h.2.2.2 ∧ q = (ad a, cellE G ad h a) := by
  have h1 := (List.getElem?_eq_some_iff.mp hq).1
  simp only [wsOf, List.length_map, List.length_range] at h1
  rw [ws_get h1] at hq
  exact ⟨h1, (Option.some.inj hq).symm⟩
theorem fldV_len (ad : Nat → Nat) (h : MH) (a : Nat) (ts : List Nat) : ∀ j, (fldV ad h a j ts).length = ts.length := by
  induction ts with
  | nil => intro j; rfl
  | cons t ts ih => intro j; simp [fldV, ih]
theorem fldV_get (ad : Nat → Nat) (h : MH) (a : Nat) (ts : List Nat) : ∀ j k, (fldV ad h a j ts)[k]? = (ts[k]?).map (fun t => fval ad h a (j + k) t) := by
  induction ts with
  | nil => intro j k; simp [fldV]
  | cons t ts ih =>
    intro j k
    cases k with
    | zero => simp [fldV]
    | succ k => simp only [fldV, List.getElem?_cons_succ, ih]; congr 2; funext t; congr 1; omega
theorem fval_cg {ad : Nat → Nat} {h h' : MH} {a j : Nat} (t : Nat) (e1 : h.1 a j = h'.1 a j) (e2 : h.2.1 a j = h'.2.1 a j) (e3 : h.2.2.1 a j = h'.2.2.1 a j) : fval ad h a j t = fval ad h' a j t := by
  unfold fval
  split <;> simp only [e1, e2, e3]
theorem fldV_cg {ad : Nat → Nat} {h h' : MH} {a : Nat} (ts : List Nat) (e1 : h.1 a = h'.1 a) (e2 : h.2.1 a = h'.2.1 a) (e3 : h.2.2.1 a = h'.2.2.1 a) : ∀ j, fldV ad h a j ts = fldV ad h' a j ts := by
  induction ts with
  | nil => intro j; rfl
  | cons t ts ih => intro j; simp only [fldV, ih, fval_cg t (congrFun e1 j) (congrFun e2 j) (congrFun e3 j)]
theorem cell_cg {G : GG} {ad : Nat → Nat} {h h' : MH} {a : Nat} (e1 : h.1 a = h'.1 a) (e2 : h.2.1 a = h'.2.1 a) (e3 : h.2.2.1 a = h'.2.2.1 a) : cellE G ad h a = cellE G ad h' a := by
  unfold cellE
  split <;> simp only [e1, e2, e3, fldV_cg _ e1 e2 e3]
theorem ws_set {G : GG} {ad : Nat → Nat} {h h' : MH} {a : Nat} {q : va_E} (hn : h'.2.2.2 = h.2.2.2) (hq : q = cellE G ad h' a) (ho : ∀ b, b ≠ a → cellE G ad h b = cellE G ad h' b) : (wsOf G ad h).set a (ad a, q) = wsOf G ad h' := by
  subst hq
  apply List.ext_getElem?
  intro b
  by_cases hb : b < h.2.2.2
  · by_cases hba : b = a
    · subst hba
      rw [List.getElem?_set_self (by simpa [wsOf] using hb), ws_get (by omega)]
    · rw [List.getElem?_set_ne (Ne.symm hba), ws_get hb, ws_get (by omega), ho b hba]
  · rw [List.getElem?_eq_none (by simpa [wsOf] using Nat.not_lt.mp hb), List.getElem?_eq_none (by simp only [wsOf, List.length_map, List.length_range]; omega)]
theorem cellO {G : GG} {ad : Nat → Nat} {h : MH} {a k : Nat} (hs : SH a = (3, k)) : cellE G ad h a = .inr (k, fldV ad h a 0 (FT k)) := by
  unfold cellE; rw [hs]; rfl
theorem cell0 {G : GG} {ad : Nat → Nat} {h : MH} {a : Nat} (hs : (SH a).1 = 0) : cellE G ad h a = .inl (G.2.2.1, (SH a).2, .inl (h.1 a)) := by
  unfold cellE; rw [show SH a = (0, (SH a).2) from Prod.ext hs rfl]; rfl
theorem cell1 {G : GG} {ad : Nat → Nat} {h : MH} {a : Nat} (hs : (SH a).1 = 1) : cellE G ad h a = .inl (G.2.2.2.1, (SH a).2, .inr (.inl (h.2.1 a))) := by
  unfold cellE; rw [show SH a = (1, (SH a).2) from Prod.ext hs rfl]; rfl
theorem cell2 {G : GG} {ad : Nat → Nat} {h : MH} {a : Nat} (hs : (SH a).1 = 2) : cellE G ad h a = .inl (G.2.2.2.2.1, (SH a).2, .inr (.inr (.inr (.inr (fun j => (h.2.2.1 a j).map ad))))) := by
  unfold cellE; rw [show SH a = (2, (SH a).2) from Prod.ext hs rfl]; rfl
-- values, locals
theorem lvA_mem {ad : Nat → Nat} (lv : LV) : ∀ (i : Nat) (q : Nat × Value), q ∈ lvA ad i lv ↔ ∃ (j : Nat) (v : Value), lk lv j = some v ∧ q = (i + j, rv ad v) := by
  induction lv with
  | nil => intro i q; simp [lvA, lk]
  | cons o r ih =>
    intro i q
    have key : (∃ (j : Nat) (v : Value), lk r j = some v ∧ q = (i + 1 + j, rv ad v)) ↔ (∃ (j : Nat) (v : Value), lk (o :: r) (j + 1) = some v ∧ q = (i + (j + 1), rv ad v)) := by
      constructor
      · rintro ⟨j, v, h1, h2⟩; exact ⟨j, v, h1, by rw [h2]; congr 1; omega⟩
      · rintro ⟨j, v, h1, h2⟩; exact ⟨j, v, h1, by rw [h2]; congr 1; omega⟩
    cases o with
    | none =>
      simp only [lvA]
      rw [ih, key]
      constructor
      · rintro ⟨j, v, h⟩; exact ⟨j + 1, v, h⟩
      · rintro ⟨j, v, h1, h2⟩
        cases j with
        | zero => simp [lk] at h1
        | succ j => exact ⟨j, v, h1, h2⟩
    | some w =>
      simp only [lvA, List.mem_cons]
      rw [ih, key]
      constructor
      · rintro (h | ⟨j, v, h⟩)
        · exact ⟨0, w, rfl, h⟩
        · exact ⟨j + 1, v, h⟩
      · rintro ⟨j, v, h1, h2⟩
        cases j with
        | zero => simp only [lk, Option.some.injEq] at h1; subst h1; exact Or.inl h2
        | succ j => exact Or.inr ⟨j, v, h1, h2⟩
theorem lv_mono {ls : Array Slot} {n : Nat} {l l' : List (Nat × Value)} (h : lv_has ls n l) (hs : ∀ q ∈ l', q ∈ l) : lv_has ls n l' := ⟨h.1, h.2.1, fun q hq => h.2.2 q (hs q hq)⟩
theorem lk_at {ls : Array Slot} {n : Nat} {ad : Nat → Nat} {lv : LV} (h : lv_has ls n (lvA ad 0 lv)) {i : Nat} {v : Value} (hv : lk lv i = some v) : ls[i]? = some (.val (rv ad v)) :=
  h.2.2 (i, rv ad v) ((lvA_mem lv 0 _).mpr ⟨i, v, hv, by simp⟩)
theorem lk_idx {ad : Nat → Nat} {lv : LV} {i : Nat} {v : Value} (hv : lk lv i = some v) : ∃ k : Nat, (lvA ad 0 lv)[k]? = some (i, rv ad v) :=
  List.getElem?_of_mem ((lvA_mem lv 0 (i, rv ad v)).mpr ⟨i, v, hv, by simp⟩)
theorem clr1_sm {o : Option Value} {v : Value} (h : clr1 o = some v) : o = some v ∧ v.category = 1 := by
  cases o with
  | none => cases h
  | some w => cases w <;> simp [clr1] at h <;> subst h <;> exact ⟨rfl, rfl⟩
theorem lk_hdN (r : LV) (j : Nat) : lk (hdN r) j = if j = 0 then none else lk r j := by
  cases r with
  | nil => simp [hdN, lk]
  | cons o r => cases j <;> simp [hdN, lk]
/-- what stands in the locals behind a store stood there before, or is the new value; nothing that the store spoils -/
theorem lk_stL (lv : LV) (v : Value) : ∀ (i j : Nat) (w : Value), lk (stL lv i v) j = some w → (j = i ∧ w = v) ∨ (j ≠ i ∧ lk lv j = some w ∧ ¬ (j + 1 = i ∧ w.category = 2) ∧ (∀ x, v = .long x → j ≠ i + 1)) := by
  induction lv with
  | nil => intro i j w h; simp [stL, lk] at h
  | cons o r ih =>
    intro i j w h
    match i, j, h with
    | 0, 0, h => simp [stL, lk] at h; exact Or.inl ⟨rfl, h.symm⟩
    | 0, j + 1, h =>
      simp only [stL, lk] at h
      right
      cases v with
      | long x =>
        simp only [lk_hdN] at h
        by_cases hj : j = 0
        · simp [hj] at h
        · rw [if_neg hj] at h
          exact ⟨by omega, h, by omega, fun _ _ => by omega⟩
      | int x => exact ⟨by omega, h, by omega, fun _ e => by cases e⟩
      | float x => exact ⟨by omega, h, by omega, fun _ e => by cases e⟩
      | double x => exact ⟨by omega, h, by omega, fun _ e => by cases e⟩
      | null => exact ⟨by omega, h, by omega, fun _ e => by cases e⟩
      | ref x => exact ⟨by omega, h, by omega, fun _ e => by cases e⟩
      | retAddr x => exact ⟨by omega, h, by omega, fun _ e => by cases e⟩
    | 1, 0, h =>
      simp only [stL, lk] at h
      obtain ⟨h1, h2⟩ := clr1_sm h
      exact Or.inr ⟨by omega, h1, by omega, fun _ _ => by omega⟩
    | 1, j + 1, h =>
      simp only [stL, lk] at h
      rcases ih 0 j w h with ⟨h1, h2⟩ | ⟨h1, h2, h3, h4⟩
      · exact Or.inl ⟨by omega, h2⟩
      · exact Or.inr ⟨by omega, h2, by omega, fun x e => by have := h4 x e; omega⟩
    | i + 2, 0, h =>
      simp only [stL, lk] at h
      exact Or.inr ⟨by omega, h, by omega, fun _ _ => by omega⟩
    | i + 2, j + 1, h =>
      simp only [stL, lk] at h
      rcases ih (i + 1) j w h with ⟨h1, h2⟩ | ⟨h1, h2, h3, h4⟩
      · exact Or.inl ⟨by omega, h2⟩
      · exact Or.inr ⟨by omega, h2, by omega, fun x e => by have := h4 x e; omega⟩
theorem rv_cat (ad : Nat → Nat) (v : Value) : (rv ad v).category = v.category := by cases v <;> rfl
theorem st1 {ls : Array Slot} {n : Nat} {ad : Nat → Nat} {lv : LV} {i : Nat} {v : Value} {w : Value} (hw : w = rv ad v) (h : lv_has ls n ((i, w) :: (lvA ad 0 lv).filter (fun q => !(q.1 == i) && !(q.1 + 1 == i && q.2.category == 2)))) : lv_has ls n (lvA ad 0 (stL lv i v)) := by
  subst hw
  refine lv_mono h fun q hq => ?_
  obtain ⟨j, u, h1, rfl⟩ := (lvA_mem _ 0 _).mp hq
  rcases lk_stL lv v i j u h1 with ⟨rfl, rfl⟩ | ⟨h2, h3, h4, -⟩
  · simp
  · refine List.mem_cons_of_mem _ (List.mem_filter.mpr ⟨(lvA_mem _ 0 _).mpr ⟨j, u, h3, rfl⟩, ?_⟩)
    simp only [Nat.zero_add, rv_cat]
    simp only [Bool.and_eq_true, Bool.not_eq_true', beq_eq_false_iff_ne, ne_eq, Bool.and_eq_false_iff]
    refine ⟨h2, ?_⟩
    by_cases h5 : j + 1 = i
    · exact Or.inr fun h6 => h4 ⟨h5, h6⟩
    · exact Or.inl h5
theorem st2 {ls : Array Slot} {n : Nat} {ad : Nat → Nat} {lv : LV} {i : Nat} {x : Int64} (h : lv_has ls n ((i, .long x) :: (lvA ad 0 lv).filter (fun q => !(q.1 == i) && (!(q.1 == i + 1) && !(q.1 + 1 == i && q.2.category == 2))))) : lv_has ls n (lvA ad 0 (stL lv i (.long x))) := by
  refine lv_mono h fun q hq => ?_
  obtain ⟨j, u, h1, rfl⟩ := (lvA_mem _ 0 _).mp hq
  rcases lk_stL lv (.long x) i j u h1 with ⟨rfl, rfl⟩ | ⟨h2, h3, h4, h6⟩
  · simp [rv]
  · refine List.mem_cons_of_mem _ (List.mem_filter.mpr ⟨(lvA_mem _ 0 _).mpr ⟨j, u, h3, rfl⟩, ?_⟩)
    simp only [Nat.zero_add, rv_cat]
    simp only [Bool.and_eq_true, Bool.not_eq_true', beq_eq_false_iff_ne, ne_eq, Bool.and_eq_false_iff]
    refine ⟨h2, h6 x rfl, ?_⟩
    by_cases h5 : j + 1 = i
    · exact Or.inr fun h6 => h4 ⟨h5, h6⟩
    · exact Or.inl h5
theorem lvA_ad {ad ad' : Nat → Nat} {n : Nat} (h1 : ∀ k, k < n → ad' k = ad k) (h2 : ∀ k, 1000 ≤ k → ad' k = ad k) (lv : LV) (h : lOK n lv) : ∀ i, lvA ad' i lv = lvA ad i lv := by
  induction lv with
  | nil => intro i; rfl
  | cons o r ih =>
    intro i
    cases o with
    | none => simp only [lvA]; exact ih h _
    | some v =>
      simp only [lvA, ih h.2]
      congr 2
      cases v with
      | ref x => rcases h.1 with q | q <;> simp only [rv, h1 x, h2 x, q]
      | _ => rfl
theorem st_ad {ad ad' : Nat → Nat} {n : Nat} (h1 : ∀ k, k < n → ad' k = ad k) (h2 : ∀ k, 1000 ≤ k → ad' k = ad k) (st : List Value) (h : sOK n st) : st.map (rv ad') = st.map (rv ad) := by
  induction st with
  | nil => rfl
  | cons v r ih =>
    simp only [List.map_cons, ih h.2]
    congr 1
    cases v with
    | ref x => rcases h.1 with q | q <;> simp only [rv, h1 x, h2 x, q]
    | _ => rfl
theorem cat2_sum (ad : Nat → Nat) (st : List Value) : ((st.map (rv ad)).map fun v => v.category).sum = cat2 st := by
  induction st with
  | nil => rfl
  | cons v r ih => simp only [List.map_cons, List.sum_cons, rv_cat, cat2, ih]
