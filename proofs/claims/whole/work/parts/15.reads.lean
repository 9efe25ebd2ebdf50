/-! samples read out of bytes -/
theorem mostZ_le {v ev od M : Int} (h1 : ev ≤ M) (h2 : od ≤ M) : mostZ v ev od ≤ M := by unfold mostZ; split <;> assumption
def upZ (b : Int) : Int := 2 * (8388608 - b)
def dnZ (b : Int) : Int := 2 * (8388608 + b) - 1
theorem moveZ {v b : Int} (h0 : 0 ≤ v) (h : v ≤ mostZ v (upZ b) (dnZ b)) : -8388608 ≤ b + backZ v ∧ b + backZ v ≤ 8388608 ∨ ¬ (-8388608 ≤ b ∧ b ≤ 8388608) := by
  unfold mostZ upZ dnZ at h
  unfold backZ
  split at h <;> rename_i q
  · rw [if_pos q]; omega
  · rw [if_neg q]; omega
/-- a place is read: (good, the place, where) -/
def rdM (f : Int → Int) (n a b : Int) : Int × Int × Int := ((rdN 5 f n a 1 0 0 (upZ b) (dnZ b)).1, b + backZ (rdN 5 f n a 1 0 0 (upZ b) (dnZ b)).2.1, (rdN 5 f n a 1 0 0 (upZ b) (dnZ b)).2.2)
theorem rdM_r {f : Int → Int} {n a b : Int} (hB : okB f) (h1 : 0 ≤ a) (h2 : a ≤ n) (hb : -8388608 ≤ b ∧ b ≤ 8388608) : (a ≤ (rdM f n a b).2.2 ∧ (rdM f n a b).2.2 ≤ n) ∧ ((rdM f n a b).1 = 0 ∨ (rdM f n a b).1 = 1) ∧ ((rdM f n a b).1 = 1 → -8388608 ≤ (rdM f n a b).2.1 ∧ (rdM f n a b).2.1 ≤ 8388608) := by
  obtain ⟨g1, g2, g3, g4⟩ := rdN_r 5 f n a 1 0 0 (upZ b) (dnZ b) hB h1 h2 (by decide) (by decide)
  refine ⟨g1, g3, fun h => ?_⟩
  rcases moveZ g2 (g4 h).2 with q | q
  · exact q
  · exact absurd hb q
/-- one sample: (good, t, x, y, where) -/
def rdS (f : Int → Int) (n a le room t x y : Int) : Int × Int × Int × Int × Int :=
  if (rdN 5 f n a 1 0 le room room).1 = 1 then
    (if (rdM f n (rdN 5 f n a 1 0 le room room).2.2 x).1 = 1 then
      ((rdM f n (rdM f n (rdN 5 f n a 1 0 le room room).2.2 x).2.2 y).1, t + (rdN 5 f n a 1 0 le room room).2.1, (rdM f n (rdN 5 f n a 1 0 le room room).2.2 x).2.1, (rdM f n (rdM f n (rdN 5 f n a 1 0 le room room).2.2 x).2.2 y).2.1, (rdM f n (rdM f n (rdN 5 f n a 1 0 le room room).2.2 x).2.2 y).2.2)
    else (0, 0, 0, 0, (rdM f n (rdN 5 f n a 1 0 le room room).2.2 x).2.2))
  else (0, 0, 0, 0, (rdN 5 f n a 1 0 le room room).2.2)
section RDS
variable {f : Int → Int} {n a le room t x y : Int} {r rx ry : Int × Int × Int}
theorem rdS_1 (h : rdN 5 f n a 1 0 le room room = r) (h1 : r.1 ≠ 1) : rdS f n a le room t x y = (0, 0, 0, 0, r.2.2) := by unfold rdS; rw [h, if_neg h1]
theorem rdS_2 (h : rdN 5 f n a 1 0 le room room = r) (h1 : r.1 = 1) (hx : rdM f n r.2.2 x = rx) (h2 : rx.1 ≠ 1) : rdS f n a le room t x y = (0, 0, 0, 0, rx.2.2) := by unfold rdS; rw [h, if_pos h1, hx, if_neg h2]
theorem rdS_3 (h : rdN 5 f n a 1 0 le room room = r) (h1 : r.1 = 1) (hx : rdM f n r.2.2 x = rx) (h2 : rx.1 = 1) (hy : rdM f n rx.2.2 y = ry) : rdS f n a le room t x y = (ry.1, t + r.2.1, rx.2.1, ry.2.1, ry.2.2) := by unfold rdS; rw [h, if_pos h1, hx, if_pos h2, hy]
end RDS
/-- i samples of cnt: (good, where, times, xs, ys) -/
def rdL (f : Int → Int) (n cnt a : Int) (ft fx fy : Int → Int) : Nat → Int × Int × (Int → Int) × (Int → Int) × (Int → Int)
  | 0 => (1, a, ft, fx, fy)
  | i + 1 =>
    if (rdL f n cnt a ft fx fy i).1 = 1 then
      (if (rdS f n (rdL f n cnt a ft fx fy i).2.1 (if (i : Int) = 0 then 0 else 1) (2147483647 - (cnt - 1 - i) - pvZ (rdL f n cnt a ft fx fy i).2.2.1 i) (pvZ (rdL f n cnt a ft fx fy i).2.2.1 i) (pvZ (rdL f n cnt a ft fx fy i).2.2.2.1 i) (pvZ (rdL f n cnt a ft fx fy i).2.2.2.2 i)).1 = 1 then
        (1, (rdS f n (rdL f n cnt a ft fx fy i).2.1 (if (i : Int) = 0 then 0 else 1) (2147483647 - (cnt - 1 - i) - pvZ (rdL f n cnt a ft fx fy i).2.2.1 i) (pvZ (rdL f n cnt a ft fx fy i).2.2.1 i) (pvZ (rdL f n cnt a ft fx fy i).2.2.2.1 i) (pvZ (rdL f n cnt a ft fx fy i).2.2.2.2 i)).2.2.2.2,
          uZ (rdL f n cnt a ft fx fy i).2.2.1 i (rdS f n (rdL f n cnt a ft fx fy i).2.1 (if (i : Int) = 0 then 0 else 1) (2147483647 - (cnt - 1 - i) - pvZ (rdL f n cnt a ft fx fy i).2.2.1 i) (pvZ (rdL f n cnt a ft fx fy i).2.2.1 i) (pvZ (rdL f n cnt a ft fx fy i).2.2.2.1 i) (pvZ (rdL f n cnt a ft fx fy i).2.2.2.2 i)).2.1,
          uZ (rdL f n cnt a ft fx fy i).2.2.2.1 i (rdS f n (rdL f n cnt a ft fx fy i).2.1 (if (i : Int) = 0 then 0 else 1) (2147483647 - (cnt - 1 - i) - pvZ (rdL f n cnt a ft fx fy i).2.2.1 i) (pvZ (rdL f n cnt a ft fx fy i).2.2.1 i) (pvZ (rdL f n cnt a ft fx fy i).2.2.2.1 i) (pvZ (rdL f n cnt a ft fx fy i).2.2.2.2 i)).2.2.1,
          uZ (rdL f n cnt a ft fx fy i).2.2.2.2 i (rdS f n (rdL f n cnt a ft fx fy i).2.1 (if (i : Int) = 0 then 0 else 1) (2147483647 - (cnt - 1 - i) - pvZ (rdL f n cnt a ft fx fy i).2.2.1 i) (pvZ (rdL f n cnt a ft fx fy i).2.2.1 i) (pvZ (rdL f n cnt a ft fx fy i).2.2.2.1 i) (pvZ (rdL f n cnt a ft fx fy i).2.2.2.2 i)).2.2.2.1)
      else (0, (rdS f n (rdL f n cnt a ft fx fy i).2.1 (if (i : Int) = 0 then 0 else 1) (2147483647 - (cnt - 1 - i) - pvZ (rdL f n cnt a ft fx fy i).2.2.1 i) (pvZ (rdL f n cnt a ft fx fy i).2.2.1 i) (pvZ (rdL f n cnt a ft fx fy i).2.2.2.1 i) (pvZ (rdL f n cnt a ft fx fy i).2.2.2.2 i)).2.2.2.2, (rdL f n cnt a ft fx fy i).2.2.1, (rdL f n cnt a ft fx fy i).2.2.2.1, (rdL f n cnt a ft fx fy i).2.2.2.2))
    else rdL f n cnt a ft fx fy i
section RDL
variable {f : Int → Int} {n cnt a : Int} {ft fx fy gt gx gy : Int → Int} {i b : Int} {r : Int × Int × Int × Int × Int}
theorem rdL_g (hi : 0 ≤ i) (h : rdL f n cnt a ft fx fy i.toNat = (1, b, gt, gx, gy)) (hr : rdS f n b (if i = 0 then 0 else 1) (2147483647 - (cnt - 1 - i) - pvZ gt i) (pvZ gt i) (pvZ gx i) (pvZ gy i) = r) (h1 : r.1 = 1) : rdL f n cnt a ft fx fy (i + 1).toNat = (1, r.2.2.2.2, uZ gt i r.2.1, uZ gx i r.2.2.1, uZ gy i r.2.2.2.1) := by
  rw [show (i + 1).toNat = i.toNat + 1 by omega]
  unfold rdL
  rw [h, Int.toNat_of_nonneg hi]
  dsimp only
  rw [hr, if_pos rfl, if_pos h1]
theorem rdL_b (hi : 0 ≤ i) (h : rdL f n cnt a ft fx fy i.toNat = (1, b, gt, gx, gy)) (hr : rdS f n b (if i = 0 then 0 else 1) (2147483647 - (cnt - 1 - i) - pvZ gt i) (pvZ gt i) (pvZ gx i) (pvZ gy i) = r) (h1 : r.1 ≠ 1) : rdL f n cnt a ft fx fy (i + 1).toNat = (0, r.2.2.2.2, gt, gx, gy) := by
  rw [show (i + 1).toNat = i.toNat + 1 by omega]
  unfold rdL
  rw [h, Int.toNat_of_nonneg hi]
  dsimp only
  rw [hr, if_pos rfl, if_neg h1]
theorem rdL_0 {k : Nat} (h : (rdL f n cnt a ft fx fy k).1 = 0) (j : Nat) : rdL f n cnt a ft fx fy (k + j) = rdL f n cnt a ft fx fy k := by
  induction j with
  | zero => rfl
  | succ j ih =>
    show rdL f n cnt a ft fx fy (k + j + 1) = _
    conv => lhs; unfold rdL
    rw [ih, h, if_neg (by decide)]
end RDL
/-- what readMove answers -/
def mvP (f : Int → Int) (n a x fa z a2 f2 : Int) : Prop := (fa = -1 → a2 = (rdM f n a x).2.2 ∧ (((rdM f n a x).1 = 1 ∧ x + z = (rdM f n a x).2.1 ∧ f2 = -1) ∨ ((rdM f n a x).1 = 0 ∧ z = 0 ∧ f2 = (rdM f n a x).2.2))) ∧ (fa ≠ -1 → z = 0 ∧ a2 = a ∧ f2 = fa)
/-- what readNumber answers where no fault was -/
def nrP (f : Int → Int) (n a le ev od z a2 f2 : Int) : Prop := a2 = (rdN 5 f n a 1 0 le ev od).2.2 ∧ (((rdN 5 f n a 1 0 le ev od).1 = 1 ∧ z = (rdN 5 f n a 1 0 le ev od).2.1 ∧ f2 = -1) ∨ ((rdN 5 f n a 1 0 le ev od).1 = 0 ∧ z = 0 ∧ f2 = (rdN 5 f n a 1 0 le ev od).2.2))
theorem nrB {f : Int → Int} {n a le ev od z a2 f2 : Int} (hB : okB f) (hn : n ≤ 300) (ha : 0 ≤ a ∧ a ≤ n) (h : nrP f n a le ev od z a2 f2) : (0 ≤ a2 ∧ a2 ≤ n) ∧ rI f2 ∧ -1 ≤ f2 ∧ f2 ≤ n := by
  obtain ⟨g1, g2, g3, g4⟩ := rdN_r 5 f n a 1 0 le ev od hB ha.1 ha.2 (by decide) (by decide)
  obtain ⟨e, h⟩ := h
  rw [e]
  refine ⟨⟨by omega, by omega⟩, ?_⟩
  rcases h with ⟨-, -, q⟩ | ⟨-, -, q⟩ <;> rw [q]
  · exact ⟨by decide, by decide, by omega⟩
  · exact ⟨⟨by omega, by omega⟩, by omega, by omega⟩
theorem mvB {f : Int → Int} {n a x fa z a2 f2 : Int} (hB : okB f) (hn : n ≤ 300) (ha : 0 ≤ a ∧ a ≤ n) (hx : -8388608 ≤ x ∧ x ≤ 8388608) (hf : -1 ≤ fa ∧ fa ≤ n) (h : mvP f n a x fa z a2 f2) : (0 ≤ a2 ∧ a2 ≤ n) ∧ rI f2 ∧ -1 ≤ f2 ∧ f2 ≤ n := by
  obtain ⟨g1, g3, g4⟩ := rdM_r hB ha.1 ha.2 hx
  obtain ⟨h1, h2⟩ := h
  rcases Classical.em (fa = -1) with q | q
  · obtain ⟨e, h⟩ := h1 q
    rw [e]
    refine ⟨⟨by omega, by omega⟩, ?_⟩
    rcases h with ⟨-, -, q⟩ | ⟨-, -, q⟩ <;> rw [q]
    · exact ⟨by decide, by decide, by omega⟩
    · exact ⟨⟨by omega, by omega⟩, by omega, by omega⟩
  · obtain ⟨-, e1, e2⟩ := h2 q
    rw [e1, e2]
    exact ⟨ha, ⟨by omega, by omega⟩, hf⟩
theorem smp {f : Int → Int} {n a le room t x y a1 f1 z1 a2 f2 z2 a3 f3 z3 : Int} (hB : okB f) (hn : n ≤ 300) (ha : 0 ≤ a ∧ a ≤ n) (hx : -8388608 ≤ x ∧ x ≤ 8388608) (hy : -8388608 ≤ y ∧ y ≤ 8388608) (h1 : nrP f n a le room room z1 a1 f1) (h2 : mvP f n a1 x f1 z2 a2 f2) (h3 : mvP f n a2 y f2 z3 a3 f3) : (f3 = -1 → rdS f n a le room t x y = (1, t + z1, x + z2, y + z3, a3)) ∧ (f3 ≠ -1 → (rdS f n a le room t x y).1 = 0 ∧ (rdS f n a le room t x y).2.2.2.2 = f3) := by
  have b1 := nrB hB hn ha h1
  have b2 := mvB hB hn b1.1 hx b1.2.2 h2
  obtain ⟨g1, g3, g4⟩ := rdN_r 5 f n a 1 0 le room room hB ha.1 ha.2 (by decide) (by decide)
  obtain ⟨m1, m2, m3⟩ := rdM_r hB b1.1.1 b1.1.2 hx
  obtain ⟨n1, n2, n3⟩ := rdM_r hB b2.1.1 b2.1.2 hy
  obtain ⟨e1, h1⟩ := h1
  rcases h1 with ⟨c1, c2, c3⟩ | ⟨c1, c2, c3⟩
  · obtain ⟨e2, h2⟩ := h2.1 c3
    rcases h2 with ⟨d1, d2, d3⟩ | ⟨d1, d2, d3⟩
    · obtain ⟨e3, h3⟩ := h3.1 d3
      have hS := rdS_3 (t := t) (y := y) rfl c1 (x := x) rfl (by rw [← e1]; exact d1) rfl
      rw [← e1, ← e2] at hS
      rcases h3 with ⟨w1, w2, w3⟩ | ⟨w1, w2, w3⟩
      · refine ⟨fun _ => ?_, fun q => absurd w3 q⟩
        rw [hS, w1, c2, d2, w2, e3]
      · refine ⟨fun q => ?_, fun q => ?_⟩
        · exfalso; omega
        · rw [hS]
          exact ⟨w1, w3.symm⟩
    · have hS := rdS_2 (t := t) (y := y) rfl c1 (x := x) rfl (by rw [← e1, d1]; decide)
      rw [← e1] at hS
      have k := h3.2 (by omega)
      refine ⟨fun q => ?_, fun q => ?_⟩
      · exfalso; omega
      · rw [hS]
        exact ⟨rfl, by simp only; omega⟩
  · have hS := rdS_1 (t := t) (x := x) (y := y) (room := room) (le := le) (f := f) (n := n) (a := a) rfl (by rw [c1]; decide)
    have k := h2.2 (by omega)
    have k2 := h3.2 (by omega)
    refine ⟨fun q => ?_, fun q => ?_⟩
    · exfalso; omega
    · rw [hS]
      exact ⟨rfl, by simp only; omega⟩
theorem rdS_ok {f : Int → Int} {n a le room t x y : Int} (hB : okB f) (ha : 0 ≤ a ∧ a ≤ n) (hx : -8388608 ≤ x ∧ x ≤ 8388608) (hy : -8388608 ≤ y ∧ y ≤ 8388608) (h : (rdS f n a le room t x y).1 = 1) : (t + le ≤ (rdS f n a le room t x y).2.1 ∧ (rdS f n a le room t x y).2.1 ≤ t + room) ∧ (-8388608 ≤ (rdS f n a le room t x y).2.2.1 ∧ (rdS f n a le room t x y).2.2.1 ≤ 8388608) ∧ (-8388608 ≤ (rdS f n a le room t x y).2.2.2.1 ∧ (rdS f n a le room t x y).2.2.2.1 ≤ 8388608) := by
  obtain ⟨g1, g2, g3, g4⟩ := rdN_r 5 f n a 1 0 le room room hB ha.1 ha.2 (by decide) (by decide)
  rcases Classical.em ((rdN 5 f n a 1 0 le room room).1 = 1) with q | q
  · obtain ⟨m1, m2, m3⟩ := rdM_r (b := x) hB (show 0 ≤ (rdN 5 f n a 1 0 le room room).2.2 by omega) g1.2 hx
    rcases Classical.em ((rdM f n (rdN 5 f n a 1 0 le room room).2.2 x).1 = 1) with q2 | q2
    · obtain ⟨n1, n2, n3⟩ := rdM_r (b := y) hB (show 0 ≤ (rdM f n (rdN 5 f n a 1 0 le room room).2.2 x).2.2 by omega) m1.2 hy
      have hS := rdS_3 (t := t) (y := y) rfl q rfl q2 rfl
      rw [hS] at h ⊢
      have k := g4 q
      have k2 : mostZ (rdN 5 f n a 1 0 le room room).2.1 room room ≤ room := mostZ_le (Int.le_refl _) (Int.le_refl _)
      exact ⟨⟨by simp only; omega, by simp only; omega⟩, m3 q2, n3 h⟩
    · rw [rdS_2 (t := t) (y := y) rfl q rfl q2] at h
      exact absurd h (by simp)
  · rw [rdS_1 (t := t) (x := x) (y := y) rfl q] at h
    exact absurd h (by simp)
/-- what readSample answers -/
def rsP (f : Int → Int) (n a : Int) (ft fx fy : Int → Int) (k bh a2 f2 k2 : Int) (gt gx gy : Int → Int) : Prop :=
  ((f2 = -1 ∧ (rdS f n a (if k = 0 then 0 else 1) (2147483647 - bh - pvZ ft k) (pvZ ft k) (pvZ fx k) (pvZ fy k)).1 = 1 ∧ a2 = (rdS f n a (if k = 0 then 0 else 1) (2147483647 - bh - pvZ ft k) (pvZ ft k) (pvZ fx k) (pvZ fy k)).2.2.2.2 ∧ k2 = k + 1 ∧ gt = uZ ft k (rdS f n a (if k = 0 then 0 else 1) (2147483647 - bh - pvZ ft k) (pvZ ft k) (pvZ fx k) (pvZ fy k)).2.1 ∧ gx = uZ fx k (rdS f n a (if k = 0 then 0 else 1) (2147483647 - bh - pvZ ft k) (pvZ ft k) (pvZ fx k) (pvZ fy k)).2.2.1 ∧ gy = uZ fy k (rdS f n a (if k = 0 then 0 else 1) (2147483647 - bh - pvZ ft k) (pvZ ft k) (pvZ fx k) (pvZ fy k)).2.2.2.1)
   ∨ (f2 ≠ -1 ∧ (rdS f n a (if k = 0 then 0 else 1) (2147483647 - bh - pvZ ft k) (pvZ ft k) (pvZ fx k) (pvZ fy k)).1 = 0 ∧ f2 = (rdS f n a (if k = 0 then 0 else 1) (2147483647 - bh - pvZ ft k) (pvZ ft k) (pvZ fx k) (pvZ fy k)).2.2.2.2 ∧ k2 = k ∧ gt = ft ∧ gx = fx ∧ gy = fy)) ∧ (0 ≤ a2 ∧ a2 ≤ n) ∧ -1 ≤ f2 ∧ f2 ≤ n
/-- where the reading of all stands -/
def rdI (f : Int → Int) (n : Int) (ft fx fy : Int → Int) (c : Int × Int × Int) (cnt i a fa k : Int) (gt gx gy : Int → Int) : Prop :=
  (c.1 = 0 ∧ cnt = 0 ∧ fa = c.2.2 ∧ fa ≠ -1) ∨ (c.1 = 1 ∧ cnt = c.2.1 ∧ ((fa = -1 ∧ rdL f n cnt c.2.2 ft fx fy i.toNat = (1, a, gt, gx, gy) ∧ k = i) ∨ (fa ≠ -1 ∧ (rdL f n cnt c.2.2 ft fx fy i.toNat).1 = 0 ∧ (rdL f n cnt c.2.2 ft fx fy i.toNat).2.1 = fa)))
def rdJ (k i a fa n : Int) (gt gx gy : Int → Int) : Prop := (okT gt ∧ okC gx ∧ okC gy) ∧ (0 ≤ a ∧ a ≤ n) ∧ (-1 ≤ fa ∧ fa ≤ n) ∧ (0 ≤ k ∧ k ≤ i) ∧ incP k gt
theorem incP_u {k v : Int} {f : Int → Int} (h : incP k f) (hv : 0 < k → f (k - 1) < v) : incP (k + 1) (uZ f k v) := by
  intro i h0 h1
  rw [uZ_n _ (by omega)]
  rcases Int.lt_or_eq_of_le (show i + 1 ≤ k by omega) with q | q
  · rw [uZ_n _ (by omega)]
    exact h i h0 q
  · rw [q, uZ_s, show i = k - 1 by omega]
    exact hv (by omega)
theorem rdI_step {f : Int → Int} {n : Int} {ft fx fy : Int → Int} {c : Int × Int × Int} {cnt i a k : Int} {gt gx gy : Int → Int} {a2 f2 k2 : Int} {et ex ey : Int → Int} (hB : okB f) (hc : cnt ≤ 20) (hi : 0 ≤ i ∧ i < cnt) (h : rdI f n ft fx fy c cnt i a (-1) k gt gx gy) (hJ : rdJ k i a (-1) n gt gx gy) (hw : rsP f n a gt gx gy k (cnt - 1 - i) a2 f2 k2 et ex ey) : rdI f n ft fx fy c cnt (i + 1) a2 f2 k2 et ex ey ∧ rdJ k2 (i + 1) a2 f2 n et ex ey := by
  obtain ⟨⟨j1, j2, j3⟩, j4, j5, j6, j7⟩ := hJ
  rcases h with ⟨-, -, -, q⟩ | ⟨c1, c2, ⟨-, hL, hk⟩ | ⟨q, -⟩⟩
  · exact absurd rfl q
  · subst hk
    obtain ⟨hw, w2, w3⟩ := hw
    rcases hw with ⟨v1, v2, v3, v4, v5, v6, v7⟩ | ⟨v1, v2, v3, v4, v5, v6, v7⟩
    · have hr := rdL_g hi.1 hL rfl v2
      have ok := rdS_ok hB j4 (pvZ_C j2 k) (pvZ_C j3 k) v2
      subst v4 v5 v6 v7
      have pt : 0 ≤ pvZ gt k ∧ (0 < k → pvZ gt k = gt (k - 1)) := by
        unfold pvZ
        split
        · exact ⟨by decide, fun q => by omega⟩
        · exact ⟨(j1 _).1, fun _ => rfl⟩
      have lep : (0 : Int) ≤ (if k = 0 then 0 else 1) ∧ (0 < k → (1 : Int) ≤ (if k = 0 then 0 else 1)) := by
        split
        · exact ⟨by decide, fun q => by omega⟩
        · exact ⟨by decide, fun _ => by decide⟩
      refine ⟨Or.inr ⟨c1, c2, Or.inl ⟨v1, ?_, rfl⟩⟩, ⟨okT_u j1 ?_ ?_, okC_u j2 ok.2.1.1 ok.2.1.2, okC_u j3 ok.2.2.1 ok.2.2.2⟩, w2, w3, ⟨by omega, by omega⟩, incP_u j7 (fun q => ?_)⟩
      · rw [hr, ← v3]
      · have := ok.1.1; omega
      · have := ok.1.2; omega
      · have := ok.1.1
        have := pt.2 q
        have := lep.2 q
        omega
    · have hr := rdL_b hi.1 hL rfl (show (rdS f n a (if k = 0 then 0 else 1) (2147483647 - (cnt - 1 - k) - pvZ gt k) (pvZ gt k) (pvZ gx k) (pvZ gy k)).1 ≠ 1 by rw [v2]; decide)
      subst v4 v5 v6 v7
      refine ⟨Or.inr ⟨c1, c2, Or.inr ⟨v1, ?_, ?_⟩⟩, ⟨j1, j2, j3⟩, w2, w3, ⟨by omega, by omega⟩, j7⟩
      · rw [hr]
      · rw [hr]; exact v3.symm
  · exact absurd rfl q
/-- all that there is, read: (the fault or -1, how many, times, xs, ys) -/
def rdA (f : Int → Int) (n : Int) (ft fx fy : Int → Int) : Int × Int × (Int → Int) × (Int → Int) × (Int → Int) :=
  if (rdN 5 f n 0 1 0 1 20 20).1 = 1 then
    (if (rdL f n (rdN 5 f n 0 1 0 1 20 20).2.1 (rdN 5 f n 0 1 0 1 20 20).2.2 ft fx fy (rdN 5 f n 0 1 0 1 20 20).2.1.toNat).1 = 1 then
      (if (rdL f n (rdN 5 f n 0 1 0 1 20 20).2.1 (rdN 5 f n 0 1 0 1 20 20).2.2 ft fx fy (rdN 5 f n 0 1 0 1 20 20).2.1.toNat).2.1 < n then ((rdL f n (rdN 5 f n 0 1 0 1 20 20).2.1 (rdN 5 f n 0 1 0 1 20 20).2.2 ft fx fy (rdN 5 f n 0 1 0 1 20 20).2.1.toNat).2.1, 0, ft, fx, fy)
       else (-1, (rdN 5 f n 0 1 0 1 20 20).2.1, (rdL f n (rdN 5 f n 0 1 0 1 20 20).2.1 (rdN 5 f n 0 1 0 1 20 20).2.2 ft fx fy (rdN 5 f n 0 1 0 1 20 20).2.1.toNat).2.2))
     else ((rdL f n (rdN 5 f n 0 1 0 1 20 20).2.1 (rdN 5 f n 0 1 0 1 20 20).2.2 ft fx fy (rdN 5 f n 0 1 0 1 20 20).2.1.toNat).2.1, 0, ft, fx, fy))
  else ((rdN 5 f n 0 1 0 1 20 20).2.2, 0, ft, fx, fy)
theorem rdA_end {f : Int → Int} {n : Int} {ft fx fy : Int → Int} {cnt i a fa k : Int} {gt gx gy : Int → Int} (hi : 0 ≤ i ∧ i ≤ cnt) (h : rdI f n ft fx fy (rdN 5 f n 0 1 0 1 20 20) cnt i a fa k gt gx gy) (he : fa ≠ -1 ∨ cnt ≤ i) : (fa ≠ -1 → (rdA f n ft fx fy).1 = fa) ∧ (fa = -1 → a < n → (rdA f n ft fx fy).1 = a) ∧ (fa = -1 → n ≤ a → rdA f n ft fx fy = (-1, k, gt, gx, gy) ∧ k = cnt) := by
  unfold rdA
  rcases h with ⟨c1, c2, c3, c4⟩ | ⟨c1, c2, ⟨d1, d2, d3⟩ | ⟨d1, d2, d3⟩⟩
  · rw [if_neg (by rw [c1]; decide)]
    exact ⟨fun _ => c3.symm, fun q => absurd q c4, fun q => absurd q c4⟩
  · rw [if_pos c1, ← c2]
    have e : cnt = i := by
      rcases he with q | q
      · exact absurd d1 q
      · omega
    subst e
    rw [d2]
    refine ⟨fun q => absurd d1 q, fun _ q => ?_, fun _ q => ?_⟩
    · rw [if_pos rfl, if_pos q]
    · rw [if_pos rfl, if_neg (by simp only; omega), d3]
      exact ⟨rfl, rfl⟩
  · rw [if_pos c1, ← c2]
    have e := rdL_0 d2 (cnt.toNat - i.toNat)
    rw [show i.toNat + (cnt.toNat - i.toNat) = cnt.toNat by omega] at e
    rw [e, if_neg (by rw [d2]; decide)]
    exact ⟨fun _ => d3, fun q => absurd q d1, fun q => absurd q d1⟩
theorem rdI_c {f : Int → Int} {n : Int} {ft fx fy : Int → Int} {c : Int × Int × Int} {cnt i a fa k : Int} {gt gx gy : Int → Int} (h : rdI f n ft fx fy c cnt i a fa k gt gx gy) (hf : fa = -1) : c.1 = 1 := by
  rcases h with ⟨-, -, -, q⟩ | ⟨q, -⟩
  · exact absurd hf q
  · exact q
theorem rdI_0 {f : Int → Int} {n : Int} {ft fx fy : Int → Int} {z a2 f2 : Int} (hB : okB f) (hn : 0 ≤ n) (h : nrP f n 0 1 20 20 z a2 f2) : rdI f n ft fx fy (rdN 5 f n 0 1 0 1 20 20) z 0 a2 f2 0 ft fx fy ∧ (0 ≤ z ∧ z ≤ 20) ∧ (f2 = -1 → 1 ≤ z) := by
  obtain ⟨g1, g2, g3, g4⟩ := rdN_r 5 f n 0 1 0 1 20 20 hB (Int.le_refl _) hn (by decide) (by decide)
  obtain ⟨e, h⟩ := h
  rcases h with ⟨h1, h2, h3⟩ | ⟨h1, h2, h3⟩
  · have k := g4 h1
    have k2 : mostZ (rdN 5 f n 0 1 0 1 20 20).2.1 20 20 ≤ 20 := mostZ_le (Int.le_refl _) (Int.le_refl _)
    refine ⟨Or.inr ⟨h1, h2, Or.inl ⟨h3, ?_, rfl⟩⟩, ⟨by omega, by omega⟩, fun _ => by omega⟩
    rw [e]
    rfl
  · exact ⟨Or.inl ⟨h1, h2, h3, by omega⟩, ⟨by omega, by omega⟩, fun q => by omega⟩
