-- STRING CONSTANTS: length and charAt, over the kit's rows
theorem cell_ad {G : GG} {ad ad2 : Nat → Nat} {h : MH} {a : Nat} (hw : wfH h) (ha : a < h.2.2.2) (e : ∀ k, k < 1000 → ad2 k = ad k) : cellE G ad2 h a = cellE G ad h a := by
  have key : ∀ j, (h.2.2.1 a j).map ad2 = (h.2.2.1 a j).map ad := fun j => by
    cases q : h.2.2.1 a j with
    | none => rfl
    | some k => simp only [Option.map_some]; rw [e k (Nat.lt_of_lt_of_le (hw.2 a j k ha q) hw.1)]
  have f : ∀ ts j, fldV ad2 h a j ts = fldV ad h a j ts := by
    intro ts
    induction ts with
    | nil => intro j; rfl
    | cons t ts ih =>
      intro j
      simp only [fldV, ih]
      congr 1
      unfold fval
      split <;> simp only [key]
  unfold cellE
  split <;> simp only [key, f]
theorem ws_ad {G : GG} {ad ad2 : Nat → Nat} {h : MH} (hw : wfH h) (e : ∀ k, k < 1000 → ad2 k = ad k) : wsOf G ad2 h = wsOf G ad h := by
  unfold wsOf
  refine List.map_congr_left (fun a ha => ?_)
  have ha : a < h.2.2.2 := List.mem_range.mp ha
  rw [cell_ad hw ha e, e a (Nat.lt_of_lt_of_le ha hw.1)]
theorem met_raw {l : Launch} {G : GG} {ad : Nat → Nat} {sz : Nat} {d : MD} {args : List Value} {h : MH} {K : KT} (hpn : plainName d.1.cls = true) (hL : cat2 args ≤ d.2.2.1) (hdb : noD args = true) (hc0 : d.2.2.2.2.1.cells = 0)
    (H : ∀ (p : Program) (e : Env) (s : State) (m : MethodId) (below : List Frame) (meth : Method) (c : Code), s.heap.size = sz → SK G (va_A (wsOf G ad h) sz) ad s → ∃ ad2 : Nat → Nat, (∀ k, k < 2000 → ad2 k = ad k) ∧ args.map (rv ad2) = args.map (rv ad) ∧
      ∀ Q : State → Prop, Cx p d.2.2.2.2.1 s m (args.map (rv ad)).toArray meth c G (va_A (wsOf G ad h) sz) ad2 d.2.2.1 d.1.cls d.2.1 false (0, fun _ => 0) →
        (∀ pc lv h2 cn sn x ty, decode d.2.1 pc = .ok (.ireturn, 1) → d.2.2.2.1 = some ty → narrow ty (.int x) = .int x → ty ≠ .long → cn ≤ d.2.2.2.2.1.cells → sn ≤ d.2.2.2.2.1.slots → K (some (.int x)) h2 → AtP p l e d.2.2.2.2.1 s m (args.map (rv ad)).toArray below meth c Q G (va_A (wsOf G ad h) sz) ad2 h.2.2.2 h.2.2.2 d.2.2.1 pc lv [.int x] h2 cn sn) →
        (∀ pc lv h2 cn sn, decode d.2.1 pc = .ok (.return_, 1) → d.2.2.2.1 = none → cn ≤ d.2.2.2.2.1.cells → sn ≤ d.2.2.2.2.1.slots → K none h2 → AtP p l e d.2.2.2.2.1 s m (args.map (rv ad)).toArray below meth c Q G (va_A (wsOf G ad h) sz) ad2 h.2.2.2 h.2.2.2 d.2.2.1 pc lv [] h2 cn sn) →
        AtP p l e d.2.2.2.2.1 s m (args.map (rv ad)).toArray below meth c Q G (va_A (wsOf G ad h) sz) ad2 h.2.2.2 h.2.2.2 d.2.2.1 0 (entL args d.2.2.1) [] h 0 0) :
    Met l d.1 (mws d) d.2.2.2.2.1 (va_Pc (args.map (rv ad)) (Pcx G ad h sz)) (Qgx d.2.2.2.2.1 G (KTy d K) ad h sz) d.2.2.2.2.1.cells d.2.2.2.2.1.slots (va_A (wsOf G ad h) sz) := by
  refine Met.ofW (cc := d.2.1) (maxL := d.2.2.1) (ret := d.2.2.2.1) hpn rfl ?_
  intro p e s m args' below meth c s₁ B hml hv
  obtain ⟨rfl, hsz, hP, hK, hD0, hSK, hw⟩ := hv
  have hts := atoms_spec (ws := mws d) B.pre
  have hown : s.vm.findClass d.1.cls = some m.cls := findClass_of_methodNamed B.named
  have hlocks := B.notSynchronized
  have hr := B.returns
  subst hsz
  obtain ⟨ad2, e2, ea, H2⟩ := H p e s m below meth c rfl hSK
  have hD := hD0.self (sz := s.heap.size)
  have ew : ∀ h', wfH h' → wsOf G ad2 h' = wsOf G ad h' := fun h' hw' => ws_ad hw' (fun k hk => e2 k (by omega))
  have hSK2 : SK G (va_A (wsOf G ad h) s.heap.size) ad2 s := ⟨hSK.1, hSK.2.1, hSK.2.2.1, hSK.2.2.2.1, hSK.2.2.2.2.1, fun i hi => by rw [e2 _ (by omega)]; exact hSK.2.2.2.2.2 i hi⟩
  have cx : Cx p (headSpec (mws d) d.2.2.2.2.1).room s m (args.map (rv ad)).toArray meth c G (va_A (wsOf G ad h) s.heap.size) ad2 d.2.2.1 d.1.cls d.2.1 false (0, fun _ => 0) :=
    ⟨B.exec, B.bytes, hml, hown, fun w hw => hts w (List.mem_cons_of_mem _ hw), hK, hSK2, fun q hq => Or.inr hq, (fun z => by cases z), Or.inl rfl⟩
  have qq : ∀ (r : Option Value) (h2 : MH) (H3 : Heap) (locs : List Loc), r.map (rv ad2) = r.map (rv ad) → KTy d K r h2 → wfH h2 → h.2.2.2 ≤ h2.2.2.2 → va_P (G.1, G.2.1) vwCl (wsOf G ad2 h2) H3 → va_D (va_A (wsOf G ad h) s.heap.size) (wsOf G ad2 h2) → va_S (va_A (wsOf G ad h) s.heap.size) s.heap H3 locs → ∀ t : State, t.heap = H3 → s.WarmedH t.vm → Qgx d.2.2.2.2.1 G (KTy d K) ad h s.heap.size (args.map (rv ad)).toArray s (.returned (r.map (rv ad2))) t := by
    intro r h2 H3 locs k0 k1 k2 kn k4 k5 k6 t ht hW
    rw [ew h2 k2] at k4 k5
    exact ⟨⟨r, h2, ad, by rw [k0], k1, k2, ⟨kn, fun _ _ => rfl, fun _ _ => rfl, fun _ => rfl⟩, by rw [ht]; exact k4, k5⟩, k6.F ht⟩
  have key := H2 (MQ below (Qgx d.2.2.2.2.1 G (KTy d K) ad h s.heap.size) (args.map (rv ad)).toArray s d.2.2.2.2.1.cells d.2.2.2.2.1.slots (va_A (wsOf G ad h) s.heap.size)) cx
    (fun pc lv h2 cn sn x ty hdc hrt hnar hty hc1 hc2 k1 ad3 H3 locs ls g1 g2 g3 g4 g5 g6 g7 => by
      obtain rfl : ad3 = ad2 := g7.2.2.2 hc0
      exact W.widen hc1 hc2 (W.zret (ty := ty) B.exec B.bytes (by rw [hr, hrt]) hnar (qq (some (.int x)) h2 H3 locs rfl ⟨k1, by rw [hrt]; exact ⟨fun q => hty (Option.some.inj q), by simp⟩⟩ g5 g7.1 g1 g2 g3) g3.2.2 hdc hlocks))
    (fun pc lv h2 cn sn hdc hrt hc1 hc2 k1 ad3 H3 locs ls g1 g2 g3 g4 g5 g6 g7 => by
      obtain rfl : ad3 = ad2 := g7.2.2.2 hc0
      exact W.widen hc1 hc2 (W.vret B.exec B.bytes (by rw [hr, hrt]) (qq none h2 H3 locs rfl ⟨k1, hrt⟩ g5 g7.1 g1 g2 g3) g3.2.2 hdc hlocks))
  rw [lg_entry_eq]
  refine key ad2 s.heap [] _ (by rw [ew h hw]; exact hP) (by rw [ew h hw]; exact hD) va_S.rf ?_ hw (Nat.le_refl _) ⟨Nat.le_refl _, fun _ _ => rfl, fun _ _ => rfl, fun _ => rfl⟩
  rw [entL_ok ad2 args d.2.2.1 0 (noD_ok hdb), ea]
  exact lv_entry (args.map (rv ad)) (n := d.2.2.1) (by rw [sl_len]; exact hL)
theorem g_cs : Cond.fieldLink "java/lang/String" 38 "java/lang/String" "COMPACT_STRINGS" "Z" ∈ goodT := atw_mem (i := 768) (by decide +kernel)
theorem g_cd : Cond.fieldLink "java/lang/String" 15 "java/lang/String" "coder" "B" ∈ goodT := atw_mem (i := 1686) (by decide +kernel)
theorem g_vl : Cond.fieldLink "java/lang/String" 9 "java/lang/String" "value" "[B" ∈ goodT := atw_mem (i := 1685) (by decide +kernel)
theorem g_fm : Cond.fieldLink "java/lang/String" 1053 "jdk/internal/util/Preconditions" "SIOOBE_FORMATTER" "Ljava/util/function/BiFunction;" ∈ goodT := atw_mem (i := 784) (by decide +kernel)
section STR
variable {p : Program} {l : Launch} {e : Env} {R : Room} {s : State} {m : MethodId} {args : Array Value} {below : List Frame} {meth : Method} {c : Code} {Q : State → Prop} {G : GG} {A : Nat → Prop} {ad0 : Nat → Nat} {n0 nB nL : Nat} {own : String} {cc : ByteArray} {isI : Bool} {X : Nat × (Nat → Int32)}
variable {pc : Nat} {lv : LV} {r : List Value} {h : MH} {cn sn : Nat}
theorem so_compact (cx : Cx p R s m args meth c G A ad0 nL own cc isI X) {i : Nat} (hd : decode cc pc = .ok (.getstatic i, 3)) (hlk : Cond.fieldLink own i "java/lang/String" "COMPACT_STRINGS" "Z" ∈ goodT) (k : AtP p l e R s m args below meth c Q G A ad0 n0 nB nL (pc + 3) lv (.int 1 :: r) h cn sn) : AtP p l e R s m args below meth c Q G A ad0 n0 nB nL pc lv r h cn sn := fun ad H locs ls hP hD hS hl hw hn ha =>
  va_gets cx.1 cx.2.1 (C := "java/lang/String") (n := "COMPACT_STRINGS") (d := "Z") (ref := "java/lang/String") cx.2.2.2.2.2.2.1.2.2.2.1.1 hS cx.2.2.2.1 (cx.2.2.2.2.1 _ hlk) (fun _ h => h) hd (k ad H locs ls hP hD hS hl hw hn ha)
theorem ad_str (cx : Cx p R s m args meth c G A ad0 nL own cc isI X) {ad : Nat → Nat} {n i : Nat} (hi : i < 9) (ha : agr R ad0 n0 ad n) : ad (1000 + i) = G.2.2.2.2.2.1 i := by
  rw [ha.2.2.1 _ (by omega)]; exact cx.2.2.2.2.2.2.1.2.2.2.2.2 i hi
theorem so_coder (cx : Cx p R s m args meth c G A ad0 nL own cc isI X) {ix i : Nat} (hi : i < 9) (hd : decode cc pc = .ok (.getfield ix, 3)) (hlk : Cond.fieldLink own ix "java/lang/String" "coder" "B" ∈ goodT) (k : AtP p l e R s m args below meth c Q G A ad0 n0 nB nL (pc + 3) lv (.int 0 :: r) h cn sn) : AtP p l e R s m args below meth c Q G A ad0 n0 nB nL pc lv (.ref (1000 + i) :: r) h cn sn := fun ad H locs ls hP hD hS hl hw hn ha => by
  have hs := (cx.2.2.2.2.2.2.1.2.2.1).1 i hi
  simp only [List.map_cons, rv, ad_str cx hi ha]
  exact vk_getf cx.1 cx.2.1 hs.2.1 hS cx.2.2.2.1 (ref := "java/lang/String") (cx.2.2.2.2.1 _ hlk) (fun _ h => h) hd (k ad H locs ls hP hD hS hl hw hn ha)
theorem so_vlen (cx : Cx p R s m args meth c G A ad0 nL own cc isI X) {ix i : Nat} (hi : i < 9) (hd : decode cc pc = .ok (.getfield ix, 3)) (hd2 : decode cc (pc + 3) = .ok (.arraylength, 1)) (hlk : Cond.fieldLink own ix "java/lang/String" "value" "[B" ∈ goodT) (k : AtP p l e R s m args below meth c Q G A ad0 n0 nB nL (pc + 3 + 1) lv (.int (nI (strLen.getD i 0)) :: r) h cn sn) : AtP p l e R s m args below meth c Q G A ad0 n0 nB nL pc lv (.ref (1000 + i) :: r) h cn sn := fun ad H locs ls hP hD hS hl hw hn ha => by
  have hs := (cx.2.2.2.2.2.2.1.2.2.1).1 i hi
  simp only [List.map_cons, rv, ad_str cx hi ha]
  exact vk_getf cx.1 cx.2.1 hs.2.2.1 hS cx.2.2.2.1 (ref := "java/lang/String") (cx.2.2.2.2.1 _ hlk) (fun _ h => h) hd (va_tlen cx.1 cx.2.1 hs.2.2.2 hS (v := nI (strLen.getD i 0)) rfl hd2 (k ad H locs ls hP hD hS hl hw hn ha))
theorem so_val (cx : Cx p R s m args meth c G A ad0 nL own cc isI X) {ix i : Nat} (hi : i < 9) (hA : ad0 (2000 + i) = G.2.2.2.2.2.2 i) (hd : decode cc pc = .ok (.getfield ix, 3)) (hlk : Cond.fieldLink own ix "java/lang/String" "value" "[B" ∈ goodT) (k : AtP p l e R s m args below meth c Q G A ad0 n0 nB nL (pc + 3) lv (.ref (2000 + i) :: r) h cn sn) : AtP p l e R s m args below meth c Q G A ad0 n0 nB nL pc lv (.ref (1000 + i) :: r) h cn sn := fun ad H locs ls hP hD hS hl hw hn ha => by
  have hs := (cx.2.2.2.2.2.2.1.2.2.1).1 i hi
  have kk := k ad H locs ls hP hD hS hl hw hn ha
  simp only [List.map_cons, rv, ad_str cx hi ha] at kk ⊢
  rw [ha.2.2.1 (2000 + i) (by omega), hA] at kk
  exact vk_getf cx.1 cx.2.1 hs.2.2.1 hS cx.2.2.2.1 (ref := "java/lang/String") (cx.2.2.2.2.1 _ hlk) (fun _ h => h) hd kk
theorem so_len2 (cx : Cx p R s m args meth c G A ad0 nL own cc isI X) {i : Nat} (hi : i < 9) (hA : ad0 (2000 + i) = G.2.2.2.2.2.2 i) (hd2 : decode cc pc = .ok (.arraylength, 1)) (k : AtP p l e R s m args below meth c Q G A ad0 n0 nB nL (pc + 1) lv (.int (nI (strLen.getD i 0)) :: r) h cn sn) : AtP p l e R s m args below meth c Q G A ad0 n0 nB nL pc lv (.ref (2000 + i) :: r) h cn sn := fun ad H locs ls hP hD hS hl hw hn ha => by
  have hs := (cx.2.2.2.2.2.2.1.2.2.1).1 i hi
  simp only [List.map_cons, rv, ha.2.2.1 (2000 + i) (by omega), hA]
  exact va_tlen cx.1 cx.2.1 hs.2.2.2 hS (v := nI (strLen.getD i 0)) rfl hd2 (k ad H locs ls hP hD hS hl hw hn ha)
theorem so_bald (cx : Cx p R s m args meth c G A ad0 nL own cc isI X) {i j : Nat} (hi : i < 9) (hj : j < strLen.getD i 0) (hj2 : j < 2 ^ 30) (hA : ad0 (2000 + i) = G.2.2.2.2.2.2 i) (hL : strLen.getD i 0 < 2 ^ 31) (hd2 : decode cc pc = .ok (.baload, 1)) (k : AtP p l e R s m args below meth c Q G A ad0 n0 nB nL (pc + 1) lv (.int ((strByt.getD i []).getD j 0) :: r) h cn sn) : AtP p l e R s m args below meth c Q G A ad0 n0 nB nL pc lv (.int (nI j) :: .ref (2000 + i) :: r) h cn sn := fun ad H locs ls hP hD hS hl hw hn ha => by
  have hs := (cx.2.2.2.2.2.2.1.2.2.1).1 i hi
  simp only [List.map_cons, rv, ha.2.2.1 (2000 + i) (by omega), hA]
  exact va_tb cx.1 cx.2.1 hs.2.2.2 hS (vp_in_nI hj hL) (v := .int ((strByt.getD i []).getD j 0)) (by simp only [nI_clamp (show j < 2 ^ 31 by omega)]) hd2 (k ad H locs ls hP hD hS hl hw hn ha)
theorem so_i2c (cx : Cx p R s m args meth c G A ad0 nL own cc isI X) {x v : Int32} (hd : decode cc pc = .ok (.i2c, 1)) (hv : (x.toUInt32 % 65536).toInt32 = v) (k : AtP p l e R s m args below meth c Q G A ad0 n0 nB nL (pc + 1) lv (.int v :: r) h cn sn) : AtP p l e R s m args below meth c Q G A ad0 n0 nB nL pc lv (.int x :: r) h cn sn := fun ad H locs ls hP hD hS hl hw hn ha => lv_i2c cx.1 cx.2.1 hd hv (k ad H locs ls hP hD hS hl hw hn ha)
theorem so_pop (cx : Cx p R s m args meth c G A ad0 nL own cc isI X) {x : Int32} (hd : decode cc pc = .ok (.pop, 1)) (k : AtP p l e R s m args below meth c Q G A ad0 n0 nB nL (pc + 1) lv r h cn sn) : AtP p l e R s m args below meth c Q G A ad0 n0 nB nL pc lv (.int x :: r) h cn sn := fun ad H locs ls hP hD hS hl hw hn ha => lv_pop cx.1 cx.2.1 hd rfl (k ad H locs ls hP hD hS hl hw hn ha)
/-- a static call whose contract is known at these addresses -/
theorem so_csM (cx : Cx p R s m args meth c G A ad0 nL own cc isI X) (hR0 : R.cells = 0) {i : Nat} {d : MD} {As : List Value} (hd : decode cc pc = .ok (.invokestatic i, 3)) (hdo : dOK R d) (hst : Cond.static d.1 ∈ goodT) (hlk : Cond.methodLink own i d.1 ∈ goodT) (hlen : As.length = d.2.2.2.2.2.1) (h1 : cn + d.2.2.2.2.1.cells ≤ R.cells) (h2 : sn + d.2.2.2.2.1.slots ≤ R.slots) (h3 : cat2 r ≤ 8) (h4 : d.2.2.2.2.1.cells = 0)
    (hM : ∀ sz, Met l d.1 (mws d) d.2.2.2.2.1 (va_Pc (As.map (rv ad0)) (Pcx G ad0 h sz)) (Qgx d.2.2.2.2.1 G (KTy d (fun o h' => AtP p l e R s m args below meth c Q G A ad0 n0 nB nL (pc + 3) lv (o.toList ++ r) h' (cn + d.2.2.2.2.1.cells) (sn + d.2.2.2.2.1.slots))) ad0 h sz) d.2.2.2.2.1.cells d.2.2.2.2.1.slots (va_A (wsOf G ad0 h) sz)) : AtP p l e R s m args below meth c Q G A ad0 n0 nB nL pc lv (As.reverse ++ r) h cn sn := fun ad H locs ls hP hD hS hl hw hn ha => by
  obtain rfl : ad = ad0 := ha.2.2.2 hR0
  have hpre := so_pre cx As hP hD hS hw ha
  have hM := hM H.size
  have hW : 2 * (F0 m pc ls ((As.reverse ++ r).map (rv ad))).monitorRoom + ((r.map (rv ad)).map fun v => v.category).sum ≤ 8 := lv_room (by rw [cat2_sum]; exact h3)
  have hstk : (F0 m pc ls ((As.reverse ++ r).map (rv ad))).stack = (As.map (rv ad)).reverse ++ r.map (rv ad) := by simp [F0, List.map_append, List.map_reverse]
  refine so_back (K := KTy d (fun o h' => AtP p l e R s m args below meth c Q G A ad n0 nB nL (pc + 3) lv (o.toList ++ r) h' (cn + d.2.2.2.2.1.cells) (sn + d.2.2.2.2.1.slots))) (r := r) (a9 := (As.map (rv ad)).toArray) cx hP hD hS hl hn ha h1 (Or.inl h4) ?_ (fun o h' z => z.1)
  exact va_runS (Ts := goodT) ⟨cx.1, cx.2.1, cx.2.2.1, cx.2.2.2.1, cx.2.2.2.2.1⟩ hM ⟨callB_of _ cx.2.2.2.2.1 (mws_good hdo) rfl rfl rfl (cx.2.2.2.2.1 _ hdo.2.1) (cx.2.2.2.2.1 _ hlk) hdo.2.2.1 hdo.2.2.2, cx.2.2.2.2.1 _ hst⟩ hpre rfl (by rw [List.length_map]; exact hlen) hl.1 hstk hW hd ⟨h1, h2⟩
end STR
set_option maxRecDepth 100000 in
theorem k_St_coder {h : MH} {K : KT} (i : Nat) (hi : i < 9) (hK : K (some (.int 0)) h) : Ct m_St_coder [.ref (1000 + i)] h K := by
  intro l G ad sz
  refine met_raw (by decide +kernel) (Nat.le_of_ble_eq_true rfl) rfl rfl (fun p e s m below meth c _ _ => ⟨ad, fun _ _ => rfl, rfl, fun Q cx r1 r2 => ?_⟩)
  refine so_compact cx (i := 38) (by decide +kernel) g_cs ?_
  refine so_if cx (co := .eq) (off := 10) (tg := 13) (by decide +kernel) (by decide) (fun q => absurd q (show ¬ (1 : Int32) = 0 by decide)) (fun _ => ?_)
  refine so_aload_n cx (j := 0) (i := 0) (by decide +kernel) rfl rfl ?_
  refine so_coder cx hi (by decide +kernel) g_cd ?_
  refine so_goto cx (off := 4) (tg := 14) (by decide +kernel) (by decide) ?_
  exact r1 14 _ _ _ _ 0 .byte (by decide +kernel) rfl (by decide +kernel) (by decide) (Nat.zero_le _) (Nat.zero_le _) hK
set_option maxRecDepth 100000 in
theorem k_St_isLatin1 {h : MH} {K : KT} (i : Nat) (hi : i < 9) (hK : K (some (.int 1)) h) : Ct m_St_isLatin1 [.ref (1000 + i)] h K := by
  intro l G ad sz
  refine met_raw (by decide +kernel) (Nat.le_of_ble_eq_true rfl) rfl rfl (fun p e s m below meth c _ _ => ⟨ad, fun _ _ => rfl, rfl, fun Q cx r1 r2 => ?_⟩)
  refine so_compact cx (i := 38) (by decide +kernel) g_cs ?_
  refine so_if cx (co := .eq) (off := 14) (tg := 17) (by decide +kernel) (by decide) (fun q => absurd q (show ¬ (1 : Int32) = 0 by decide)) (fun _ => ?_)
  refine so_aload_n cx (j := 0) (i := 0) (by decide +kernel) rfl rfl ?_
  refine so_coder cx hi (by decide +kernel) g_cd ?_
  refine so_if cx (co := .ne) (off := 7) (tg := 17) (by decide +kernel) (by decide) (fun q => absurd q (by simp [cS])) (fun _ => ?_)
  refine so_iconst cx (n := 1) (v := 1) (by decide +kernel) rfl ?_
  refine so_goto cx (off := 4) (tg := 18) (by decide +kernel) (by decide) ?_
  exact r1 18 _ _ _ _ 1 .boolean (by decide +kernel) rfl (by decide +kernel) (by decide) (Nat.zero_le _) (Nat.zero_le _) hK
theorem dok_coder : dOK m_St_length.2.2.2.2.1 m_St_coder := ⟨atw_mem (i := 767) (by decide +kernel), atw_mem (i := 80) (by decide +kernel), ⟨by decide +kernel, by decide +kernel, by decide +kernel⟩, by decide +kernel⟩
theorem dok_latin : dOK m_St_charAt.2.2.2.2.1 m_St_isLatin1 := ⟨atw_mem (i := 777) (by decide +kernel), atw_mem (i := 80) (by decide +kernel), ⟨by decide +kernel, by decide +kernel, by decide +kernel⟩, by decide +kernel⟩
theorem dok_s1 : dOK m_St_charAt.2.2.2.2.1 m_S1_charAt := ⟨atw_mem (i := 780) (by decide +kernel), atw_mem (i := 81) (by decide +kernel), ⟨by decide +kernel, by decide +kernel, by decide +kernel⟩, by decide +kernel⟩
theorem dok_ci : dOK m_S1_charAt.2.2.2.2.1 m_St_checkIndex := ⟨atw_mem (i := 783) (by decide +kernel), atw_mem (i := 80) (by decide +kernel), ⟨by decide +kernel, by decide +kernel, by decide +kernel⟩, by decide +kernel⟩
theorem dok_pr : dOK m_St_checkIndex.2.2.2.2.1 m_Pr_checkIndex := ⟨atw_mem (i := 788) (by decide +kernel), atw_mem (i := 82) (by decide +kernel), ⟨by decide +kernel, by decide +kernel, by decide +kernel⟩, by decide +kernel⟩
theorem st_len0 : ∀ i, i < 9 → nI (strLen.getD i 0) >>> ((0 : Int32) &&& 31) = nI (strLen.getD i 0) := by decide +kernel
set_option maxRecDepth 100000 in
theorem k_St_length {h : MH} {K : KT} (i : Nat) (hi : i < 9) (hK : K (some (.int (nI (strLen.getD i 0)))) h) : Ct m_St_length [.ref (1000 + i)] h K := by
  intro l G ad sz
  refine met_raw (by decide +kernel) (Nat.le_of_ble_eq_true rfl) rfl rfl (fun p e s m below meth c _ _ => ⟨ad, fun _ _ => rfl, rfl, fun Q cx r1 r2 => ?_⟩)
  refine so_aload_n cx (j := 0) (i := 0) (by decide +kernel) rfl rfl ?_
  refine so_vlen cx hi (by decide +kernel) (by decide +kernel) g_vl ?_
  refine so_aload_n cx (j := 0) (i := 0) (by decide +kernel) rfl rfl ?_
  refine so_cv (d := m_St_coder) (As := []) (o := 1000 + i) cx (i := 335) (by decide +kernel) dok_coder (atw_mem (i := 765) (by decide +kernel)) (atw_mem (i := 766) (by decide +kernel)) (atw_mem (i := 764) (by decide +kernel)) rfl (by decide) (by decide) (Nat.le_of_ble_eq_true rfl) (Or.inl rfl) (Or.inl ⟨by omega, by omega, rfl⟩) ?_
  refine k_St_coder i hi ?_
  refine so_ishr cx (by decide +kernel) ?_
  rw [st_len0 i hi]
  exact r1 10 _ _ _ _ _ .int (by decide +kernel) rfl rfl (by decide) (Nat.zero_le _) (Nat.zero_le _) hK
set_option maxRecDepth 100000 in
theorem k_Pr_checkIndex {h : MH} {K : KT} (k n : Nat) (v : Value) (hv : v.category = 1) (hd : noD [v] = true) (hk : k < n) (hn : n < 2 ^ 31) (hK : K (some (.int (nI k))) h) : Ct m_Pr_checkIndex [.int (nI k), .int (nI n), v] h K := by
  intro l G ad sz
  refine met_raw (by decide +kernel) (by show 1 + (1 + (v.category + 0)) ≤ 3; rw [hv]; decide) hd rfl (fun p e s m below meth c _ _ => ⟨ad, fun _ _ => rfl, rfl, fun Q cx r1 r2 => ?_⟩)
  have e0 : lk (entL [.int (nI k), .int (nI n), v] m_Pr_checkIndex.2.2.1) 0 = some (.int (nI k)) := rfl
  have e1 : lk (entL [.int (nI k), .int (nI n), v] m_Pr_checkIndex.2.2.1) 1 = some (.int (nI n)) := rfl
  refine so_iload_n cx (j := 0) (i := 0) (by decide +kernel) rfl e0 ?_
  refine so_if cx (co := .lt) (off := 8) (tg := 9) (by decide +kernel) (by decide) (fun q => absurd q (nI_pos (show k < 2 ^ 31 by omega))) (fun _ => ?_)
  refine so_iload_n cx (j := 0) (i := 0) (by decide +kernel) rfl e0 ?_
  refine so_iload_n cx (j := 1) (i := 1) (by decide +kernel) rfl e1 ?_
  refine so_icmp cx (co := .lt) (off := 10) (tg := 16) (by decide +kernel) (by decide) (fun _ => ?_) (fun q => absurd (nI_lt hk hn) q)
  refine so_iload_n cx (j := 0) (i := 0) (by decide +kernel) rfl e0 ?_
  exact r1 17 _ _ _ _ _ .int (by decide +kernel) rfl rfl (by decide) (Nat.zero_le _) (Nat.zero_le _) hK
set_option maxRecDepth 100000 in
theorem k_St_checkIndex {h : MH} {K : KT} (k n : Nat) (hk : k < n) (hn : n < 2 ^ 31) (hK : K none h) : Ct m_St_checkIndex [.int (nI k), .int (nI n)] h K := by
  intro l G ad sz
  refine met_raw (by decide +kernel) (Nat.le_of_ble_eq_true rfl) rfl rfl (fun p e s m below meth c hsz hSK => ?_)
  subst hsz
  rcases hSK.2.2.2.1.2 with hz | ⟨t, hz⟩
  · refine ⟨ad, fun _ _ => rfl, rfl, fun Q cx r1 r2 => ?_⟩
    refine so_iload_n cx (j := 0) (i := 0) (by decide +kernel) rfl rfl ?_
    refine so_iload_n cx (j := 1) (i := 1) (by decide +kernel) rfl rfl ?_
    have k2 := so_csM (r := []) (d := m_Pr_checkIndex) (As := [.int (nI k), .int (nI n), .null]) (lv := entL [.int (nI k), .int (nI n)] m_St_checkIndex.2.2.1) (pc := 5) (h := h) (cn := 0) (sn := 0) (n0 := h.2.2.2) (nB := h.2.2.2) (l := l) (e := e) (below := below) (Q := Q) cx rfl (i := 1059) (by decide +kernel) dok_pr (atw_mem (i := 787) (by decide +kernel)) (atw_mem (i := 786) (by decide +kernel)) rfl (by decide) (by decide) (by decide) rfl (fun sz => k_Pr_checkIndex k n .null rfl rfl hk hn (so_pop cx (by decide +kernel) (r2 9 _ _ _ _ (by decide +kernel) rfl (Nat.zero_le _) (Nat.zero_le _) hK)) l G ad sz)
    exact fun ad H locs ls hP hD hS hl hw hn ha => va_gets cx.1 cx.2.1 hz hS cx.2.2.2.1 (ref := "jdk/internal/util/Preconditions") (cx.2.2.2.2.1 _ g_fm) (fun _ h => h) (by decide +kernel) (k2 ad H locs ls hP hD hS hl hw hn ha)
  · refine ⟨fun q => if q = 2999 then t else ad q, fun q hq => if_neg (by omega), rfl, fun Q cx r1 r2 => ?_⟩
    refine so_iload_n cx (j := 0) (i := 0) (by decide +kernel) rfl rfl ?_
    refine so_iload_n cx (j := 1) (i := 1) (by decide +kernel) rfl rfl ?_
    have k2 := so_csM (r := []) (d := m_Pr_checkIndex) (As := [.int (nI k), .int (nI n), .ref 2999]) (lv := entL [.int (nI k), .int (nI n)] m_St_checkIndex.2.2.1) (pc := 5) (h := h) (cn := 0) (sn := 0) (n0 := h.2.2.2) (nB := h.2.2.2) (l := l) (e := e) (below := below) (Q := Q) cx rfl (i := 1059) (by decide +kernel) dok_pr (atw_mem (i := 787) (by decide +kernel)) (atw_mem (i := 786) (by decide +kernel)) rfl (by decide) (by decide) (by decide) rfl (fun sz => k_Pr_checkIndex k n (.ref 2999) rfl rfl hk hn (so_pop cx (by decide +kernel) (r2 9 _ _ _ _ (by decide +kernel) rfl (Nat.zero_le _) (Nat.zero_le _) hK)) l G _ sz)
    refine fun ad' H locs ls hP hD hS hl hw hn ha => va_gets cx.1 cx.2.1 hz hS cx.2.2.2.1 (ref := "jdk/internal/util/Preconditions") (cx.2.2.2.2.1 _ g_fm) (fun _ h => h) (by decide +kernel) ?_
    have k3 := k2 ad' H locs ls hP hD hS hl hw hn ha
    have e9 : ad' 2999 = t := by rw [ha.2.2.1 2999 (by decide)]; exact if_pos rfl
    simp only [List.reverse_cons, List.reverse_nil, List.nil_append, List.cons_append, List.append_nil, List.map_cons, List.map_nil, rv, e9] at k3
    exact k3
/-- the char at k of the string i -/
def stC (i k : Nat) : Int32 := (strByt.getD i []).getD k 0
theorem st_all : ∀ i, i < 9 → strLen.getD i 0 ≤ 7 ∧ ∀ k, k < strLen.getD i 0 → (((stC i k &&& 255).toUInt32 % 65536).toInt32 = stC i k ∧ narrow .char (.int (stC i k)) = .int (stC i k)) := by decide +kernel
set_option maxRecDepth 100000 in
theorem k_S1_charAt {l : Launch} {G : GG} {ad : Nat → Nat} {sz : Nat} {h : MH} {K : KT} (i k : Nat) (hi : i < 9) (hk : k < strLen.getD i 0) (hA : ad (2000 + i) = G.2.2.2.2.2.2 i) (hK : K (some (.int (stC i k))) h) : Met l m_S1_charAt.1 (mws m_S1_charAt) m_S1_charAt.2.2.2.2.1 (va_Pc ([.ref (2000 + i), .int (nI k)].map (rv ad)) (Pcx G ad h sz)) (Qgx m_S1_charAt.2.2.2.2.1 G (KTy m_S1_charAt K) ad h sz) m_S1_charAt.2.2.2.2.1.cells m_S1_charAt.2.2.2.2.1.slots (va_A (wsOf G ad h) sz) := by
  obtain ⟨hl7, hch⟩ := st_all i hi
  refine met_raw (by decide +kernel) (Nat.le_of_ble_eq_true rfl) rfl rfl (fun p e s m below meth c _ _ => ⟨ad, fun _ _ => rfl, rfl, fun Q cx r1 r2 => ?_⟩)
  refine so_iload_n cx (j := 1) (i := 1) (by decide +kernel) rfl rfl ?_
  refine so_aload_n cx (j := 0) (i := 0) (by decide +kernel) rfl rfl ?_
  refine so_len2 cx hi hA (by decide +kernel) ?_
  refine so_cs (r := []) (d := m_St_checkIndex) (As := [.int (nI k), .int (nI (strLen.getD i 0))]) cx (i := 9) (by decide +kernel) dok_ci (atw_mem (i := 782) (by decide +kernel)) (Or.inl (atw_mem (i := 781) (by decide +kernel))) rfl (by decide) (by decide) (by decide) (Or.inl rfl) ?_
  refine k_St_checkIndex k (strLen.getD i 0) hk (by omega) ?_
  refine so_aload_n cx (j := 0) (i := 0) (by decide +kernel) rfl rfl ?_
  refine so_iload_n cx (j := 1) (i := 1) (by decide +kernel) rfl rfl ?_
  refine so_bald cx hi hk (by omega) hA (by omega) (by decide +kernel) ?_
  refine so_sipush cx (n := 255) (v := 255) (by decide +kernel) rfl ?_
  refine so_iand cx (by decide +kernel) ?_
  refine so_i2c cx (v := stC i k) (by decide +kernel) (hch k hk).1 ?_
  exact r1 14 _ _ _ _ _ .char (by decide +kernel) rfl (hch k hk).2 (by decide) (Nat.zero_le _) (Nat.zero_le _) hK
set_option maxRecDepth 100000 in
theorem k_St_charAt {h : MH} {K : KT} (i k : Nat) (hi : i < 9) (hk : k < strLen.getD i 0) (hK : K (some (.int (stC i k))) h) : Ct m_St_charAt [.ref (1000 + i), .int (nI k)] h K := by
  intro l G ad sz
  have ne : ¬ 1000 + i = 2000 + i := by omega
  refine met_raw (by decide +kernel) (Nat.le_of_ble_eq_true rfl) rfl rfl (fun p e s m below meth c _ _ => ⟨fun q => if q = 2000 + i then G.2.2.2.2.2.2 i else ad q, fun q hq => if_neg (by omega), by simp only [List.map_cons, List.map_nil, rv, if_neg ne], fun Q cx r1 r2 => ?_⟩)
  have hA : (fun q => if q = 2000 + i then G.2.2.2.2.2.2 i else ad q) (2000 + i) = G.2.2.2.2.2.2 i := if_pos rfl
  refine so_aload_n cx (j := 0) (i := 0) (by decide +kernel) rfl rfl ?_
  refine so_cv (r := []) (d := m_St_isLatin1) (As := []) (o := 1000 + i) cx (i := 492) (by decide +kernel) dok_latin (atw_mem (i := 775) (by decide +kernel)) (atw_mem (i := 776) (by decide +kernel)) (atw_mem (i := 774) (by decide +kernel)) rfl (by decide) (by decide) (by decide) (Or.inl rfl) (Or.inl ⟨by omega, by omega, rfl⟩) ?_
  refine k_St_isLatin1 i hi ?_
  refine so_if cx (co := .eq) (off := 12) (tg := 16) (by decide +kernel) (by decide) (fun q => absurd q (show ¬ (1 : Int32) = 0 by decide)) (fun _ => ?_)
  refine so_aload_n cx (j := 0) (i := 0) (by decide +kernel) rfl rfl ?_
  refine so_val cx hi hA (by decide +kernel) g_vl ?_
  refine so_iload_n cx (j := 1) (i := 1) (by decide +kernel) rfl rfl ?_
  refine so_csM (r := []) (d := m_S1_charAt) (As := [.ref (2000 + i), .int (nI k)]) cx rfl (i := 495) (by decide +kernel) dok_s1 (atw_mem (i := 779) (by decide +kernel)) (atw_mem (i := 778) (by decide +kernel)) rfl (by decide) (by decide) (by decide) rfl (fun sz => k_S1_charAt i k hi hk hA ?_)
  exact r1 15 _ _ _ _ _ .char (by decide +kernel) rfl ((st_all i hi).2 k hk).2 (by decide) (Nat.zero_le _) (Nat.zero_le _) hK
