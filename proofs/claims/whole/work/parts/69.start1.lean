/-! the law from its entry -/
theorem strs_in : ∀ q ∈ strs, Cond.stringRef RX6 q.1 q.2 ∈ lw_tbl := by decide +kernel
theorem strs_lk : ∀ q ∈ strs, strs.lookup q.1 = some q.2 := by decide +kernel
theorem strs_sa {s : State} (h : ∀ q ∈ strs, ∃ a : Nat, vk_R RX6 q.1 q.2 a s) : ∃ sa : Nat → Nat, ∀ q ∈ strs, vk_R RX6 q.1 q.2 (sa q.1) s := by
  have g : ∀ k : Nat, ∃ a : Nat, ∀ t, (k, t) ∈ strs → vk_R RX6 k t a s := by
    intro k
    rcases Classical.em (∃ t, (k, t) ∈ strs) with ⟨t, ht⟩ | hn
    · obtain ⟨a, ha⟩ := h _ ht
      refine ⟨a, fun t' ht' => ?_⟩
      have e : t' = t := Option.some.inj ((strs_lk _ ht').symm.trans (strs_lk _ ht))
      rw [e]
      exact ha
    · exact ⟨0, fun t ht => absurd ⟨t, ht⟩ hn⟩
  exact ⟨fun k => Classical.choose (g k), fun q hq => Classical.choose_spec (g q.1) q.2 hq⟩
set_option maxHeartbeats 4000000 in
set_option maxRecDepth 100000 in
theorem start_K {s : State} {b : Nat} (hts : ∀ w ∈ lw_tbl, w.before #[Value.ref b] s = true) : ∃ (D : va_G) (cI cJ cT : ClassId), va_K D vwCl (TY cI cJ cT) s := by
  obtain ⟨c0, i0, k0⟩ := u_known (C := RX0) (T := TX0) (N := 2) (n := 2) hts inX0 (hts (.instantiable RX0 2) (by decide +kernel))
  obtain ⟨c1, i1, k1⟩ := u_known (C := RX1) (T := TX1) (N := 3) (n := 3) hts inX1 (hts (.instantiable RX1 3) (by decide +kernel))
  obtain ⟨c2, i2, k2⟩ := u_known (C := RX2) (T := TX2) (N := 4) (n := 4) hts inX2 (hts (.instantiable RX2 4) (by decide +kernel))
  obtain ⟨c3, i3, k3⟩ := u_known (C := RX3) (T := TX3) (N := 9) (n := 9) hts inX3 (hts (.instantiable RX3 9) (by decide +kernel))
  obtain ⟨c4, i4, k4⟩ := u_known (C := RX4) (T := TX4) (N := 1) (n := 1) hts inX4 (hts (.instantiable RX4 1) (by decide +kernel))
  obtain ⟨c5, i5, k5⟩ := u_known (C := RX5) (T := TX5) (N := 3) (n := 3) hts inX5 (hts (.instantiable RX5 3) (by decide +kernel))
  obtain ⟨c6, i6, k6⟩ := u_known (C := RX6) (T := TX6) (N := 5) (n := 5) hts inX6 (hts (.instantiable RX6 5) (by decide +kernel))
  obtain ⟨c7, i7, k7⟩ := u_known (C := RX7) (T := TX7) (N := 24) (n := 24) hts inX7 (hts (.instantiable RX7 24) (by decide +kernel))
  obtain ⟨cI, kI, pI, a1, a2, a3⟩ := Cond.arrayClass_spec (hts (.arrayClass .int) (by decide +kernel))
  obtain ⟨cJ, kJ, pJ, d1, d2, d3⟩ := Cond.arrayClass_spec (hts (.arrayClass .long) (by decide +kernel))
  obtain ⟨comp, cT, kT, t1, t2, t3, t4, t5⟩ := Cond.arrayOver_spec (hts (.arrayOver (.object "DriftLog$Track")) (by decide +kernel))
  refine ⟨(fun k => if k = 0 then c0 else if k = 1 then c1 else if k = 2 then c2 else if k = 3 then c3 else if k = 4 then c4 else if k = 5 then c5 else if k = 6 then c6 else c7, fun k => if k = 0 then i0 else if k = 1 then i1 else if k = 2 then i2 else if k = 3 then i3 else if k = 4 then i4 else if k = 5 then i5 else if k = 6 then i6 else i7), cI, cJ, cT, ?_, ?_⟩
  · intro k q hq
    match k, hq with
    | 0, hq => cases hq; exact k0
    | 1, hq => cases hq; exact k1
    | 2, hq => cases hq; exact k2
    | 3, hq => cases hq; exact k3
    | 4, hq => cases hq; exact k4
    | 5, hq => cases hq; exact k5
    | 6, hq => cases hq; exact k6
    | 7, hq => cases hq; exact k7
    | k + 8, hq => cases hq
  · intro k q hq
    match k, hq with
    | 0, hq => cases hq; exact ⟨fun n z => ⟨fun k h => (by cases h), kI, a2, pI, a3⟩, a1⟩
    | 1, hq => cases hq; exact ⟨fun n z => ⟨fun k h => (by cases h), kJ, d2, pJ, d3⟩, d1⟩
    | 2, hq => cases hq; exact ⟨fun n z => ⟨fun k h => (by cases h), kT, t3, comp, t4⟩, kT, comp, t3, t4, t1, t5⟩
    | k + 3, hq => cases hq
set_option maxHeartbeats 4000000 in
set_option maxRecDepth 100000 in
theorem start_C {p : Program} {s : State} {m : MethodId} {meth : Method} {c : Code} {l : Launch} {b L : Nat} {xs : Nat → Int32} (hLt : l.stackTraces = false) (hL : L ≤ 384) (C0 : lw_At p s m meth c b L xs) : ∃ (sa : Nat → Nat) (D : va_G) (cI cJ cT : ClassId), lwC p l s m c b L xs sa D cI cJ cT (fun q : Nat => s.heap.size ≤ q) ∧ nkV s := by
  obtain ⟨hx, hb, hr, hml, hown, hts, hX, hbl, hlocks, hgv⟩ := id C0
  have hgf := flat_of_before _ hgv
  obtain ⟨D, cI, cJ, cT, hK⟩ := start_K hts
  have h6 : s.vm.findClass RX6 = some (D.1 6) := (hK.1 6 (RX6, TX6, 5) rfl).2.1
  obtain ⟨sa, hsa⟩ := strs_sa (s := s) (fun q hq => by
    have hw : (Cond.stringRef RX6 q.1 q.2).before #[Value.ref b] s = true := hts _ (strs_in q hq)
    obtain ⟨_, _, _, a, _, _, _, _, _, ha⟩ := Cond.stringRef_spec h6 hw
    exact ⟨a, vk_R.of hw ha⟩)
  have hTV : thV sa s := ⟨va_Nw.of rfl (hts (.declares (Bundle.initS "java/lang/RuntimeException")) (by decide +kernel)), va_Nw.of rfl (hts (.declares (Bundle.initS "java/lang/Exception")) (by decide +kernel)), va_Nw.of rfl (hts (.declares (Bundle.initS Bundle.tN)) (by decide +kernel)), va_Nw.of rfl (hts (.castable nIO nIO) (by decide +kernel)), va_Nw.of rfl (hts (.castable nIS nIS) (by decide +kernel)), va_Nw.of rfl (hts (.castable nIA nIA) (by decide +kernel)), hsa⟩
  have hTC : thC s := ⟨va_Nc.of (hgf (.not (.castable nIS nIO)) (by decide +kernel)), va_Nc.of (hgf (.not (.castable nIA nIO)) (by decide +kernel)), va_Nc.of (hgf (.not (.castable nIA nIS)) (by decide +kernel))⟩
  have hTH : thH (fun q : Nat => s.heap.size ≤ q) s s.heap := ⟨vx_Zqof (hts (.laysStatic Bundle.tN "UNASSIGNED_STACK" Bundle.steD) (by decide +kernel)) (hts (.initialized Bundle.tN) (by decide +kernel)) (hgf (.isRef (.static Bundle.tN "UNASSIGNED_STACK" Bundle.steD)) (by decide +kernel)) (fun a h => Nat.not_le.mpr h), vx_Zqof (hts (.laysStatic Bundle.tN "SUPPRESSED_SENTINEL" Bundle.listD) (by decide +kernel)) (hts (.initialized Bundle.tN) (by decide +kernel)) (hgf (.isRef (.static Bundle.tN "SUPPRESSED_SENTINEL" Bundle.listD)) (by decide +kernel)) (fun a h => Nat.not_le.mpr h)⟩
  have hNK : nkV s := ⟨va_Nw.of rfl (hts (.methodLinkNest RX6 17 yX4_init "DriftLog") (by decide +kernel)), va_Nw.of rfl (hts (.methodLinkNest RX6 24 yX0_init "DriftLog") (by decide +kernel)), va_Nw.of rfl (hts (.methodLinkNest RX6 31 yX1_init "DriftLog") (by decide +kernel)), va_Nw.of rfl (hts (.methodLinkNest RX6 38 yX3_init "DriftLog") (by decide +kernel)), va_Nw.of rfl (hts (.methodLinkNest RX6 43 yX5_init "DriftLog") (by decide +kernel)), va_Nw.of rfl (hts (.methodLinkNest RX1 11 yX2_init "DriftLog") (by decide +kernel)), va_Nw.of rfl (hts (.methodLinkNest RX5 11 yX2_init "DriftLog") (by decide +kernel)), va_AO.of (hts (.arrayOver (.object "DriftLog$Track")) (by decide +kernel))⟩
  exact ⟨sa, D, cI, cJ, cT, ⟨hx, hb, hml, hown, fun w h => hts w (wsL_law_in w h), hX, hbl, Nat.not_le.mpr hbl, fun _ h => h, hK, hTV, hTC, hTH, hLt, hL⟩, hNK⟩
