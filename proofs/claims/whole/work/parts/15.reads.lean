/-! samples read out of bytes -/
theorem mostZ_le {v ev od M : Int} (h1 : ev ≤ M) (h2 : od ≤ M) : mostZ v ev od ≤ M := by unfold mostZ; split <;> assumption
def upZ (b : Int) : Int := 2 * (8388608 - b)
def dnZ (b : Int) : Int := 2 * (8388608 + b) - 1
theorem moveZ {v b : Int} (h0 : 0 ≤ v) (h : v ≤ mostZ v (upZ b) (dnZ b)) : -8388608 ≤ b + backZ v ∧ b + backZ v ≤ 8388608 ∨ ¬ (-8388608 ≤ b ∧ b ≤ 8388608) := by
  unfold mostZ upZ dnZ at h
  unfold backZ
  split at h <;> rename_i q
  · rw [if_pos q]; omega
  · rw [if_neg q]; omega
/-- a place is read: (good, the place, where) -/
def rdM (f : Int → Int) (n a b : Int) : Int × Int × Int := ((rdN 5 f n a 1 0 0 (upZ b) (dnZ b)).1, b + backZ (rdN 5 f n a 1 0 0 (upZ b) (dnZ b)).2.1, (rdN 5 f n a 1 0 0 (upZ b) (dnZ b)).2.2)
theorem rdM_r {f : Int → Int} {n a b : Int} (hB : okB f) (h1 : 0 ≤ a) (h2 : a ≤ n) (hb : -8388608 ≤ b ∧ b ≤ 8388608) : (a ≤ (rdM f n a b).2.2 ∧ (rdM f n a b).2.2 ≤ n) ∧ ((rdM f n a b).1 = 0 ∨ (rdM f n a b).1 = 1) ∧ ((rdM f n a b).1 = 1 → -8388608 ≤ (rdM f n a b).2.1 ∧ (rdM f n a b).2.1 ≤ 8388608) := by
  obtain ⟨g1, g2, g3, g4⟩ := rdN_r 5 f n a 1 0 0 (upZ b) (dnZ b) hB h1 h2 (by decide) (by decide)
  refine ⟨g1, g3, fun h => ?_⟩
  rcases moveZ g2 (g4 h).2 with q | q
  · exact q
  · exact absurd hb q
/-- one sample: (good, t, x, y, where) -/
def rdS (f : Int → Int) (n a le room t x y : Int) : Int × Int × Int × Int × Int :=
  if (rdN 5 f n a 1 0 le room room).1 = 1 then
    (if (rdM f n (rdN 5 f n a 1 0 le room room).2.2 x).1 = 1 then
      ((rdM f n (rdM f n (rdN 5 f n a 1 0 le room room).2.2 x).2.2 y).1, t + (rdN 5 f n a 1 0 le room room).2.1, (rdM f n (rdN 5 f n a 1 0 le room room).2.2 x).2.1, (rdM f n (rdM f n (rdN 5 f n a 1 0 le room room).2.2 x).2.2 y).2.1, (rdM f n (rdM f n (rdN 5 f n a 1 0 le room room).2.2 x).2.2 y).2.2)
    else (0, 0, 0, 0, (rdM f n (rdN 5 f n a 1 0 le room room).2.2 x).2.2))
  else (0, 0, 0, 0, (rdN 5 f n a 1 0 le room room).2.2)
section RDS
variable {f : Int → Int} {n a le room t x y : Int} {r rx ry : Int × Int × Int}
theorem rdS_1 (h : rdN 5 f n a 1 0 le room room = r) (h1 : r.1 ≠ 1) : rdS f n a le room t x y = (0, 0, 0, 0, r.2.2) := by unfold rdS; rw [h, if_neg h1]
theorem rdS_2 (h : rdN 5 f n a 1 0 le room room = r) (h1 : r.1 = 1) (hx : rdM f n r.2.2 x = rx) (h2 : rx.1 ≠ 1) : rdS f n a le room t x y = (0, 0, 0, 0, rx.2.2) := by unfold rdS; rw [h, if_pos h1, hx, if_neg h2]
theorem rdS_3 (h : rdN 5 f n a 1 0 le room room = r) (h1 : r.1 = 1) (hx : rdM f n r.2.2 x = rx) (h2 : rx.1 = 1) (hy : rdM f n rx.2.2 y = ry) : rdS f n a le room t x y = (ry.1, t + r.2.1, rx.2.1, ry.2.1, ry.2.2) := by unfold rdS; rw [h, if_pos h1, hx, if_pos h2, hy]
end RDS
/-- i samples of cnt: (good, where, times, xs, ys) -/
def rdL (f : Int → Int) (n cnt a : Int) (ft fx fy : Int → Int) : Nat → Int × Int × (Int → Int) × (Int → Int) × (Int → Int)
  | 0 => (1, a, ft, fx, fy)
  | i + 1 =>
    if (rdL f n cnt a ft fx fy i).1 = 1 then
      (if (rdS f n (rdL f n cnt a ft fx fy i).2.1 (if (i : Int) = 0 then 0 else 1) (2147483647 - (cnt - 1 - i) - pvZ (rdL f n cnt a ft fx fy i).2.2.1 i) (pvZ (rdL f n cnt a ft fx fy i).2.2.1 i) (pvZ (rdL f n cnt a ft fx fy i).2.2.2.1 i) (pvZ (rdL f n cnt a ft fx fy i).2.2.2.2 i)).1 = 1 then
        (1, (rdS f n (rdL f n cnt a ft fx fy i).2.1 (if (i : Int) = 0 then 0 else 1) (2147483647 - (cnt - 1 - i) - pvZ (rdL f n cnt a ft fx fy i).2.2.1 i) (pvZ (rdL f n cnt a ft fx fy i).2.2.1 i) (pvZ (rdL f n cnt a ft fx fy i).2.2.2.1 i) (pvZ (rdL f n cnt a ft fx fy i).2.2.2.2 i)).2.2.2.2,
          uZ (rdL f n cnt a ft fx fy i).2.2.1 i (rdS f n (rdL f n cnt a ft fx fy i).2.1 (if (i : Int) = 0 then 0 else 1) (2147483647 - (cnt - 1 - i) - pvZ (rdL f n cnt a ft fx fy i).2.2.1 i) (pvZ (rdL f n cnt a ft fx fy i).2.2.1 i) (pvZ (rdL f n cnt a ft fx fy i).2.2.2.1 i) (pvZ (rdL f n cnt a ft fx fy i).2.2.2.2 i)).2.1,
          uZ (rdL f n cnt a ft fx fy i).2.2.2.1 i (rdS f n (rdL f n cnt a ft fx fy i).2.1 (if (i : Int) = 0 then 0 else 1) (2147483647 - (cnt - 1 - i) - pvZ (rdL f n cnt a ft fx fy i).2.2.1 i) (pvZ (rdL f n cnt a ft fx fy i).2.2.1 i) (pvZ (rdL f n cnt a ft fx fy i).2.2.2.1 i) (pvZ (rdL f n cnt a ft fx fy i).2.2.2.2 i)).2.2.1,
          uZ (rdL f n cnt a ft fx fy i).2.2.2.2 i (rdS f n (rdL f n cnt a ft fx fy i).2.1 (if (i : Int) = 0 then 0 else 1) (2147483647 - (cnt - 1 - i) - pvZ (rdL f n cnt a ft fx fy i).2.2.1 i) (pvZ (rdL f n cnt a ft fx fy i).2.2.1 i) (pvZ (rdL f n cnt a ft fx fy i).2.2.2.1 i) (pvZ (rdL f n cnt a ft fx fy i).2.2.2.2 i)).2.2.2.1)
      else (0, (rdS f n (rdL f n cnt a ft fx fy i).2.1 (if (i : Int) = 0 then 0 else 1) (2147483647 - (cnt - 1 - i) - pvZ (rdL f n cnt a ft fx fy i).2.2.1 i) (pvZ (rdL f n cnt a ft fx fy i).2.2.1 i) (pvZ (rdL f n cnt a ft fx fy i).2.2.2.1 i) (pvZ (rdL f n cnt a ft fx fy i).2.2.2.2 i)).2.2.2.2, (rdL f n cnt a ft fx fy i).2.2.1, (rdL f n cnt a ft fx fy i).2.2.2.1, (rdL f n cnt a ft fx fy i).2.2.2.2))
    else rdL f n cnt a ft fx fy i
section RDL
variable {f : Int → Int} {n cnt a : Int} {ft fx fy gt gx gy : Int → Int} {i b : Int} {r : Int × Int × Int × Int × Int}
theorem rdL_g (hi : 0 ≤ i) (h : rdL f n cnt a ft fx fy i.toNat = (1, b, gt, gx, gy)) (hr : rdS f n b (if i = 0 then 0 else 1) (2147483647 - (cnt - 1 - i) - pvZ gt i) (pvZ gt i) (pvZ gx i) (pvZ gy i) = r) (h1 : r.1 = 1) : rdL f n cnt a ft fx fy (i + 1).toNat = (1, r.2.2.2.2, uZ gt i r.2.1, uZ gx i r.2.2.1, uZ gy i r.2.2.2.1) := by
  rw [show (i + 1).toNat = i.toNat + 1 by omega]
  unfold rdL
  rw [h, Int.toNat_of_nonneg hi]
  dsimp only
  rw [hr, if_pos rfl, if_pos h1]
theorem rdL_b (hi : 0 ≤ i) (h : rdL f n cnt a ft fx fy i.toNat = (1, b, gt, gx, gy)) (hr : rdS f n b (if i = 0 then 0 else 1) (2147483647 - (cnt - 1 - i) - pvZ gt i) (pvZ gt i) (pvZ gx i) (pvZ gy i) = r) (h1 : r.1 ≠ 1) : rdL f n cnt a ft fx fy (i + 1).toNat = (0, r.2.2.2.2, gt, gx, gy) := by
  rw [show (i + 1).toNat = i.toNat + 1 by omega]
  unfold rdL
  rw [h, Int.toNat_of_nonneg hi]
  dsimp only
  rw [hr, if_pos rfl, if_neg h1]
theorem rdL_0 {k : Nat} (h : (rdL f n cnt a ft fx fy k).1 = 0) (j : Nat) : rdL f n cnt a ft fx fy (k + j) = rdL f n cnt a ft fx fy k := by
  induction j with
  | zero => rfl
  | succ j ih =>
    show rdL f n cnt a ft fx fy (k + j + 1) = _
    conv => lhs; unfold rdL
    rw [ih, h, if_neg (by decide)]
end RDL
/-- what readMove answers -/
def mvP (f : Int → Int) (n a x fa z a2 f2 : Int) : Prop := (fa = -1 → a2 = (rdM f n a x).2.2 ∧ (((rdM f n a x).1 = 1 ∧ x + z = (rdM f n a x).2.1 ∧ f2 = -1) ∨ ((rdM f n a x).1 = 0 ∧ z = 0 ∧ f2 = (rdM f n a x).2.2))) ∧ (fa ≠ -1 → z = 0 ∧ a2 = a ∧ f2 = fa)
/-- what readNumber answers where no fault was -/
def nrP (f : Int → Int) (n a le ev od z a2 f2 : Int) : Prop := a2 = (rdN 5 f n a 1 0 le ev od).2.2 ∧ (((rdN 5 f n a 1 0 le ev od).1 = 1 ∧ z = (rdN 5 f n a 1 0 le ev od).2.1 ∧ f2 = -1) ∨ ((rdN 5 f n a 1 0 le ev od).1 = 0 ∧ z = 0 ∧ f2 = (rdN 5 f n a 1 0 le ev od).2.2))
theorem nrB {f : Int → Int} {n a le ev od z a2 f2 : Int} (hB : okB f) (hn : n ≤ 300) (ha : 0 ≤ a ∧ a ≤ n) (h : nrP f n a le ev od z a2 f2) : (0 ≤ a2 ∧ a2 ≤ n) ∧ rI f2 ∧ -1 ≤ f2 ∧ f2 ≤ n := by
  obtain ⟨g1, g2, g3, g4⟩ := rdN_r 5 f n a 1 0 le ev od hB ha.1 ha.2 (by decide) (by decide)
  obtain ⟨e, h⟩ := h
  rw [e]
  refine ⟨⟨by omega, by omega⟩, ?_⟩
  rcases h with ⟨-, -, q⟩ | ⟨-, -, q⟩ <;> rw [q]
  · exact ⟨by decide, by decide, by omega⟩
  · exact ⟨⟨by omega, by omega⟩, by omega, by omega⟩
theorem mvB {f : Int → Int} {n a x fa z a2 f2 : Int} (hB : okB f) (hn : n ≤ 300) (ha : 0 ≤ a ∧ a ≤ n) (hx : -8388608 ≤ x ∧ x ≤ 8388608) (hf : -1 ≤ fa ∧ fa ≤ n) (h : mvP f n a x fa z a2 f2) : (0 ≤ a2 ∧ a2 ≤ n) ∧ rI f2 ∧ -1 ≤ f2 ∧ f2 ≤ n := by
  obtain ⟨g1, g3, g4⟩ := rdM_r hB ha.1 ha.2 hx
  obtain ⟨h1, h2⟩ := h
  rcases Classical.em (fa = -1) with q | q
  · obtain ⟨e, h⟩ := h1 q
    rw [e]
    refine ⟨⟨by omega, by omega⟩, ?_⟩
    rcases h with ⟨-, -, q⟩ | ⟨-, -, q⟩ <;> rw [q]
    · exact ⟨by decide, by decide, by omega⟩
    · exact ⟨⟨by omega, by omega⟩, by omega, by omega⟩
  · obtain ⟨-, e1, e2⟩ := h2 q
    rw [e1, e2]
    exact ⟨ha, ⟨by omega, by omega⟩, hf⟩
theorem smp {f : Int → Int} {n a le room t x y a1 f1 z1 a2 f2 z2 a3 f3 z3 : Int} (hB : okB f) (hn : n ≤ 300) (ha : 0 ≤ a ∧ a ≤ n) (hx : -8388608 ≤ x ∧ x ≤ 8388608) (hy : -8388608 ≤ y ∧ y ≤ 8388608) (h1 : nrP f n a le room room z1 a1 f1) (h2 : mvP f n a1 x f1 z2 a2 f2) (h3 : mvP f n a2 y f2 z3 a3 f3) : (f3 = -1 → rdS f n a le room t x y = (1, t + z1, x + z2, y + z3, a3)) ∧ (f3 ≠ -1 → (rdS f n a le room t x y).1 = 0 ∧ (rdS f n a le room t x y).2.2.2.2 = f3) := by
  have b1 := nrB hB hn ha h1
  have b2 := mvB hB hn b1.1 hx b1.2.2 h2
  obtain ⟨g1, g3, g4⟩ := rdN_r 5 f n a 1 0 le room room hB ha.1 ha.2 (by decide) (by decide)
  obtain ⟨m1, m2, m3⟩ := rdM_r hB b1.1.1 b1.1.2 hx
  obtain ⟨n1, n2, n3⟩ := rdM_r hB b2.1.1 b2.1.2 hy
  obtain ⟨e1, h1⟩ := h1
  rcases h1 with ⟨c1, c2, c3⟩ | ⟨c1, c2, c3⟩
  · obtain ⟨e2, h2⟩ := h2.1 c3
    rcases h2 with ⟨d1, d2, d3⟩ | ⟨d1, d2, d3⟩
    · obtain ⟨e3, h3⟩ := h3.1 d3
      have hS := rdS_3 (t := t) (y := y) rfl c1 (x := x) rfl (by rw [← e1]; exact d1) rfl
      rw [← e1, ← e2] at hS
      rcases h3 with ⟨w1, w2, w3⟩ | ⟨w1, w2, w3⟩
      · refine ⟨fun _ => ?_, fun q => absurd w3 q⟩
        rw [hS, w1, c2, d2, w2, e3]
      · refine ⟨fun q => ?_, fun q => ?_⟩
        · exfalso; omega
        · rw [hS]
          exact ⟨w1, w3.symm⟩
    · have hS := rdS_2 (t := t) (y := y) rfl c1 (x := x) rfl (by rw [← e1, d1]; decide)
      rw [← e1] at hS
      have k := h3.2 (by omega)
      refine ⟨fun q => ?_, fun q => ?_⟩
      · exfalso; omega
      · rw [hS]
        exact ⟨rfl, by simp only; omega⟩
  · have hS := rdS_1 (t := t) (x := x) (y := y) (room := room) (le := le) (f := f) (n := n) (a := a) rfl (by rw [c1]; decide)
    have k := h2.2 (by omega)
    have k2 := h3.2 (by omega)
    refine ⟨fun q => ?_, fun q => ?_⟩
    · exfalso; omega
    · rw [hS]
      exact ⟨rfl, by simp only; omega⟩
