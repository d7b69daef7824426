-- what an act may learn of the links from the invariant
theorem inv_link {I : Nat → Nat → Int32} {L : Nat → Nat → Int64} {z : Bool} (hI : Inv I L z) : ∃ k, k ≤ 40 ∧ I 2 6 = nI k ∧ I 58 1594 = nI k ∧ linkH I k (fun x => (I 58 x).toInt) ∧ (∀ m, Dn (mDn I k m) (fun x => (I 58 x).toInt)) ∧ ∀ m c, cDn I k m c = mDn I k m c := by
  obtain ⟨⟨a1, a2, a3, a4, a5, a6, a7, a8, a9⟩, b2, b3, b4, b5, b6⟩ := hI
  obtain ⟨k, hk, s1, s2, s4⟩ := a2
  refine ⟨k, hk, s1, s2, fun l hl => ?_, fun m => Dn_of m (fun l hl => ?_), fun m c => ?_⟩
  · obtain ⟨f1, f2, f3, a', b', q', f4, f5, f6, f7, f8, f9, f10⟩ := s4 l hl
    exact ⟨a', b', f4, f5, f1.trans f7, f2.trans f8, f10⟩
  · obtain ⟨f1, f2, f3, a', b', q', f4, f5, f6, f7, f8, f9, f10⟩ := s4 l hl
    exact ⟨a', b', f4, f5, f7, f8, f10⟩
  · refine rnA_cg k 0 (fun i _ hi => ?_)
    obtain ⟨f1, f2, f3, _⟩ := s4 i (by omega)
    unfold lkOk
    exact ⟨by rw [show I 6 i = _ from f1, show I 8 i = _ from f3], f2⟩
theorem inv_9 {I J : Nat → Nat → Int32} {L : Nat → Nat → Int64} {z : Bool} (hI : Inv I L z) (h : ∀ x, x ≠ 9 → J x = I x) : Inv J L z :=
  inv_cg hI (fun a h9 _ _ _ _ _ _ _ _ _ _ _ _ => h a h9) (by rw [h 36 (by decide)]) (fun j _ _ _ => by rw [h 57 (by decide)]) (fun _ _ _ _ _ _ _ => rfl) rfl
theorem mDn_cg {I J : Nat → Nat → Int32} {k m : Nat} (h : J 58 = I 58) : mDn J k m = mDn I k m := by unfold mDn; rw [h]
theorem op_mouth (c v : Int32) : OpOK m_Rh_mouth m_Mo_mouth [.int c, .int v] := by
  intro I L z hI
  obtain ⟨k, hk, s1, s2, hl, hD, he⟩ := inv_link hI
  refine k_Rh_mouth c v k hk s1 hl ?_
  cases hf : cmF c v with
  | some n =>
    refine k_Mo_mouth c v k hk (by rw [upI_ne (by decide)]; exact s2) (fun m => by rw [mDn_cg (upI_ne (by decide))]; exact hD m) ?_
    rw [hf]
    exact ⟨rfl, _, _, _, rfl, inv_find hI n.isLt⟩
  | none =>
    intro a m J ha ea hm em j1
    have e58 : J 58 = I 58 := j1 58 (by decide)
    refine k_Mo_mouth c v k hk (by rw [e58]; exact s2) (fun m => by rw [mDn_cg e58]; exact hD m) ?_
    rw [hf]
    intro a' m' ha' ea' hm' em'
    obtain rfl : a = a' := nI_inj (by omega) (by omega) (ea.symm.trans ea')
    obtain rfl : m = m' := nI_inj (by omega) (by omega) (em.symm.trans em')
    refine ⟨?_, _, _, _, rfl, inv_9 hI j1⟩
    rw [mDn_cg e58, show cDn I k m = mDn I k m from funext (he m)]
theorem op_run (c v : Int32) : OpOK m_Rh_run m_Mo_run [.int c, .int v] := by
  intro I L z hI
  obtain ⟨k, hk, s1, s2, hl, hD, he⟩ := inv_link hI
  refine k_Rh_run c v k hk s1 hl ?_
  cases hf : cmF c v with
  | some n =>
    refine k_Mo_run c v k hk (by rw [upI_ne (by decide)]; exact s2) (fun m => by rw [mDn_cg (upI_ne (by decide))]; exact hD m) ?_
    rw [hf]
    exact ⟨rfl, _, _, _, rfl, inv_find hI n.isLt⟩
  | none =>
    intro a m J ha ea hm em j1
    have e58 : J 58 = I 58 := j1 58 (by decide)
    refine k_Mo_run c v k hk (by rw [e58]; exact s2) (fun m => by rw [mDn_cg e58]; exact hD m) ?_
    rw [hf]
    intro a' m' ha' ea' hm' em'
    obtain rfl : a = a' := nI_inj (by omega) (by omega) (ea.symm.trans ea')
    obtain rfl : m = m' := nI_inj (by omega) (by omega) (em.symm.trans em')
    refine ⟨?_, _, _, _, rfl, inv_9 hI j1⟩
    rw [mDn_cg e58, show cDn I k m = mDn I k m from funext (he m)]
theorem op_above (c v : Int32) : OpOK m_Rh_above m_Mo_above [.int c, .int v] := by
  intro I L z hI
  obtain ⟨k, hk, s1, s2, hl, hD, he⟩ := inv_link hI
  refine k_Rh_above c v k hk s1 hl ?_
  cases hf : cmF c v with
  | some n =>
    refine k_Mo_above c v k hk (by rw [upI_ne (by decide)]; exact s2) (fun m => by rw [mDn_cg (upI_ne (by decide))]; exact hD m) ?_
    rw [hf]
    exact ⟨rfl, _, _, _, rfl, inv_find hI n.isLt⟩
  | none =>
    intro a m J ha ea hm em j1
    have e58 : J 58 = I 58 := j1 58 (by decide)
    refine k_Mo_above c v k hk (by rw [e58]; exact s2) (fun m => by rw [mDn_cg e58]; exact hD m) ?_
    rw [hf]
    intro a' m' ha' ea' hm' em'
    obtain rfl : a = a' := nI_inj (by omega) (by omega) (ea.symm.trans ea')
    obtain rfl : m = m' := nI_inj (by omega) (by omega) (em.symm.trans em')
    refine ⟨?_, _, _, _, rfl, inv_9 hI j1⟩
    rw [mDn_cg e58, show cDn I k m = mDn I k m from funext (he m)]
