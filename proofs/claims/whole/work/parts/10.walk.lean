def entL : List Value → Nat → LV
  | [], n => List.replicate n none
  | .long x :: vs, n => some (.long x) :: none :: entL vs (n - 2)
  | v :: vs, n => some v :: entL vs (n - 1)
theorem lvA_none (ad : Nat → Nat) : ∀ (n i : Nat), lvA ad i (List.replicate n none) = []
  | 0, i => rfl
  | n + 1, i => by rw [List.replicate_succ]; exact lvA_none ad n (i + 1)
theorem entL_ok (ad : Nat → Nat) : ∀ (vs : List Value) (n i : Nat), (∀ v ∈ vs, ∀ x, v ≠ .double x) → lvA ad i (entL vs n) = lv_args i (vs.map (rv ad)) := by
  intro vs
  induction vs with
  | nil => intro n i _; simp only [entL, lvA_none]; rfl
  | cons v vs ih =>
    intro n i hd
    have ih2 := fun n i => ih n i (fun v hv => hd v (List.mem_cons_of_mem _ hv))
    cases v with
    | double x => exact absurd rfl (hd _ List.mem_cons_self x)
    | long x => simp only [entL, lvA, ih2, List.map_cons, lv_args, rv, Value.category, if_true]
    | int x => simp [entL, lvA, ih2, lv_args, rv, Value.category]
    | float x => simp [entL, lvA, ih2, lv_args, rv, Value.category]
    | null => simp [entL, lvA, ih2, lv_args, rv, Value.category]
    | ref x => simp [entL, lvA, ih2, lv_args, rv, Value.category]
    | retAddr x => simp [entL, lvA, ih2, lv_args, rv, Value.category]
def noD : List Value → Bool
  | [] => true
  | .double _ :: _ => false
  | _ :: r => noD r
theorem noD_ok {vs : List Value} (h : noD vs = true) : ∀ v ∈ vs, ∀ x, v ≠ .double x := by
  induction vs with
  | nil => intro v hv; cases hv
  | cons w vs ih =>
    intro v hv x
    rcases List.mem_cons.mp hv with rfl | hv
    · intro e; subst e; simp [noD] at h
    · refine ih ?_ v hv x
      cases w <;> first | exact h | (simp [noD] at h)
theorem sl_len (ad : Nat → Nat) (vs : List Value) : (lg_sl (vs.map (rv ad))).length = cat2 vs := by
  induction vs with
  | nil => rfl
  | cons v vs ih =>
    have : lg_sl ((v :: vs).map (rv ad)) = (if (rv ad v).category = 2 then [.val (rv ad v), .second] else [.val (rv ad v)]) ++ lg_sl (vs.map (rv ad)) := rfl
    rw [this, List.length_append, ih, rv_cat]
    cases v <;> rfl
/-- A CONTRACT OUT OF A WALK OF THE SMALL MACHINE -/
theorem Ct.intro {d : MD} {args : List Value} {h : MH} {K : KT} (rows : List Row) (isI : Bool) (nB : Nat) (hpn : plainName d.1.cls = true) (hI : isI = true → d.1.name = "<init>") (hok : rows.all (okRow d.2.2.2.2.1 d.1.cls d.2.1 d.2.2.1 isI) = true) (hnB : nB ≤ h.2.2.2) (hL : cat2 args ≤ d.2.2.1) (hdb : noD args = true)
    (H : ∀ P : PT, (∀ stops n pc lv st h cn sn, wq d.2.2.2.2.1 d.2.2.2.1 nB (0, fun _ => 0) Ct (tabOf rows) K P stops n pc lv st h cn sn → P pc lv st h cn sn) → P 0 (entL args d.2.2.1) [] h 0 0) : Ct d args h K := by
  intro l G ad sz
  refine Met.ofW (cc := d.2.1) (maxL := d.2.2.1) (ret := d.2.2.2.1) hpn rfl ?_
  intro p e s m args' below meth c s₁ B hml hv
  obtain ⟨rfl, hsz, hP, hK, hD0, hSK, hw⟩ := hv
  have hts := atoms_spec (ws := mws d) B.pre
  have hown : s.vm.findClass d.1.cls = some m.cls := findClass_of_methodNamed B.named
  have hlocks := B.notSynchronized
  have hnm := (name_of_methodNamed B.named B.method).1
  subst hsz
  have hD := hD0.self (sz := s.heap.size)
  have cx : Cx p (headSpec (mws d) d.2.2.2.2.1).room s m (args.map (rv ad)).toArray meth c G (va_A (wsOf G ad h) s.heap.size) ad d.2.2.1 d.1.cls d.2.1 isI (0, fun _ => 0) :=
    ⟨B.exec, B.bytes, hml, hown, fun w hw => hts w (List.mem_cons_of_mem _ hw), hK, hSK, fun q hq => Or.inr hq, fun z => by rw [hnm]; exact hI z, Or.inl rfl⟩
  have hr := B.returns
  have qq : ∀ (r : Option Value) (h2 : MH) (ad2 : Nat → Nat) (H2 : Heap) (locs : List Loc), KTy d K r h2 → wfH h2 → agr d.2.2.2.2.1 ad h.2.2.2 ad2 h2.2.2.2 → va_P (G.1, G.2.1) vwCl (wsOf G ad2 h2) H2 → va_D (va_A (wsOf G ad h) s.heap.size) (wsOf G ad2 h2) → va_S (va_A (wsOf G ad h) s.heap.size) s.heap H2 locs → ∀ t : State, t.heap = H2 → s.WarmedH t.vm → Qgx d.2.2.2.2.1 G (KTy d K) ad h s.heap.size (args.map (rv ad)).toArray s (.returned (r.map (rv ad2))) t := by
    intro r h2 ad2 H2 locs k1 k2 k3 k4 k5 k6 t ht hW
    exact ⟨⟨r, h2, ad2, rfl, k1, k2, k3, by rw [ht]; exact k4, k5⟩, k6.F ht⟩
  have hret : RetOK (headSpec (mws d) d.2.2.2.2.1).room d.2.2.2.1 d.2.1 K (AtP p l e (headSpec (mws d) d.2.2.2.2.1).room s m (args.map (rv ad)).toArray below meth c (MQ below (Qgx d.2.2.2.2.1 G (KTy d K) ad h s.heap.size) (args.map (rv ad)).toArray s d.2.2.2.2.1.cells d.2.2.2.2.1.slots (va_A (wsOf G ad h) s.heap.size)) G (va_A (wsOf G ad h) s.heap.size) ad h.2.2.2 nB d.2.2.1) := by
    refine ⟨?_, ?_, ?_⟩
    · intro pc lv h2 cn sn x hdc hbz hc1 hc2 k1 ad2 H2 locs ls g1 g2 g3 g4 g5 g6 g7
      refine W.widen hc1 hc2 ?_
      unfold bz at hbz
      split at hbz
      · rename_i hrt
        exact W.zret (ty := .boolean) B.exec B.bytes (by rw [hr, hrt]) (by rcases hbz with rfl | rfl <;> rfl) (qq (some (.int x)) h2 ad2 H2 locs ⟨k1, by rw [hrt]; exact ⟨by simp, by simp⟩⟩ g5 g7 g1 g2 g3) g3.2.2 hdc hlocks
      · rename_i hrt
        exact W.iret B.exec B.bytes (by rw [hr, hrt]) (qq (some (.int x)) h2 ad2 H2 locs ⟨k1, by rw [hrt]; exact ⟨by simp, by simp⟩⟩ g5 g7 g1 g2 g3) g3.2.2 hdc hlocks
      · exact hbz.elim
    · intro pc lv h2 cn sn x hdc hrt hc1 hc2 k1 ad2 H2 locs ls g1 g2 g3 g4 g5 g6 g7
      refine W.widen hc1 hc2 ?_
      exact W.lret B.exec B.bytes (by rw [hr, hrt]) (qq (some (.long x)) h2 ad2 H2 locs ⟨k1, hrt⟩ g5 g7 g1 g2 g3) g3.2.2 hdc hlocks
    · intro pc lv h2 cn sn hdc hrt hc1 hc2 k1 ad2 H2 locs ls g1 g2 g3 g4 g5 g6 g7
      refine W.widen hc1 hc2 ?_
      exact W.vret B.exec B.bytes (by rw [hr, hrt]) (qq none h2 ad2 H2 locs ⟨k1, hrt⟩ g5 g7 g1 g2 g3) g3.2.2 hdc hlocks
  have key := H _ (fun stops n pc lv st h cn sn z => wq_sound cx hret rows hok stops n pc lv st h cn sn z)
  rw [lg_entry_eq]
  refine key ad s.heap [] _ hP hD va_S.rf ?_ hw hnB ⟨Nat.le_refl _, fun _ _ => rfl, fun _ _ => rfl, fun _ => rfl⟩
  rw [entL_ok ad args d.2.2.1 0 (noD_ok hdb)]
  exact lv_entry (args.map (rv ad)) (n := d.2.2.1) (by rw [sl_len]; exact hL)
