/-! numbers read out of bytes -/
theorem lI_shlk (x : Int) (y : Int64) (k : Nat) (hk : k < 64) (hy : y.toBitVec.smod 64 = BitVec.ofNat 64 k) : lI x <<< y = lI (x * 2 ^ k) := by
  apply Int64.toBitVec_inj.mp
  rw [Int64.toBitVec_shiftLeft, ← lI_mul, Int64.toBitVec_mul, hy]
  apply BitVec.eq_of_toNat_eq
  rw [BitVec.shiftLeft_eq', BitVec.toNat_shiftLeft, BitVec.toNat_mul, BitVec.toNat_ofNat, Nat.mod_eq_of_lt (show k < 2 ^ 64 from Nat.lt_trans hk (by decide)), Nat.shiftLeft_eq]
  have h2 : (lI (2 ^ k)).toBitVec.toNat = 2 ^ k := by
    rw [show ((2 : Int) ^ k) = ((2 ^ k : Nat) : Int) by norm_cast, lI_lN (Int.natCast_nonneg (2 ^ k)), Int.toNat_natCast]
    show (BitVec.ofNat 64 (2 ^ k)).toNat = 2 ^ k
    rw [BitVec.toNat_ofNat, Nat.mod_eq_of_lt (Nat.pow_lt_pow_right (by decide) hk)]
  rw [h2]
theorem lI_shl7 {x g u : Int} (h0 : 0 ≤ g) (h1 : g ≤ 5) (hu : u = 128 ^ g.toNat) : lI x <<< ((iI (7 * g)).toInt64 &&& 63) = lI (x * u) := by
  subst hu
  obtain rfl | rfl | rfl | rfl | rfl | rfl : g = 0 ∨ g = 1 ∨ g = 2 ∨ g = 3 ∨ g = 4 ∨ g = 5 := by omega
  · exact lI_shlk x _ 0 (by decide) (by decide)
  · exact lI_shlk x _ 7 (by decide) (by decide)
  · exact lI_shlk x _ 14 (by decide) (by decide)
  · exact lI_shlk x _ 21 (by decide) (by decide)
  · exact lI_shlk x _ 28 (by decide) (by decide)
  · exact lI_shlk x _ 35 (by decide) (by decide)
theorem p128 {g : Int} (h0 : 0 ≤ g) (h1 : g ≤ 4) : (1 : Int) ≤ 128 ^ g.toNat ∧ (128 : Int) ^ g.toNat ≤ 268435456 ∧ (0 < g → (128 : Int) ≤ 128 ^ g.toNat) ∧ (g = 4 → (128 : Int) ^ g.toNat = 268435456) ∧ (g ≤ 0 → (128 : Int) ^ g.toNat = 1) := by
  obtain rfl | rfl | rfl | rfl | rfl : g = 0 ∨ g = 1 ∨ g = 2 ∨ g = 3 ∨ g = 4 := by omega
  all_goals decide
def mostZ (v ev od : Int) : Int := if v % 2 = 0 then ev else od
def rdN : Nat → (Int → Int) → Int → Int → Int → Int → Int → Int → Int → Int × Int × Int
  | 0, _, _, a, _, num, _, _, _ => (0, num, a)
  | k + 1, f, n, a, unit, num, le, ev, od =>
    if n ≤ a then (0, num, a) else
    if f a < 128 then (if le ≤ num + f a % 128 * unit ∧ num + f a % 128 * unit ≤ mostZ (num + f a % 128 * unit) ev od ∧ (0 < f a ∨ unit = 1) then (1, num + f a % 128 * unit, a + 1) else (0, num + f a % 128 * unit, a))
    else if mostZ (num + f a % 128 * unit) ev od < num + f a % 128 * unit + unit * 128 then (0, num + f a % 128 * unit, a) else rdN k f n (a + 1) (unit * 128) (num + f a % 128 * unit) le ev od
section RD
variable {k : Nat} {f : Int → Int} {n a unit num le ev od v : Int}
theorem rdN_end (h : n ≤ a) : rdN (k + 1) f n a unit num le ev od = (0, num, a) := by unfold rdN; rw [if_pos h]
theorem rdN_good (h : a < n) (hb : f a < 128) (hv : v = num + f a % 128 * unit) (h1 : le ≤ v) (h2 : v ≤ mostZ v ev od) (h3 : 0 < f a ∨ unit = 1) : rdN (k + 1) f n a unit num le ev od = (1, v, a + 1) := by
  unfold rdN
  rw [if_neg (by omega), if_pos hb, ← hv, if_pos ⟨h1, h2, h3⟩]
theorem rdN_bad (h : a < n) (hb : f a < 128) (hv : v = num + f a % 128 * unit) (h1 : ¬ (le ≤ v ∧ v ≤ mostZ v ev od ∧ (0 < f a ∨ unit = 1))) : rdN (k + 1) f n a unit num le ev od = (0, v, a) := by
  unfold rdN
  rw [if_neg (by omega), if_pos hb, ← hv, if_neg h1]
theorem rdN_long (h : a < n) (hb : 128 ≤ f a) (hv : v = num + f a % 128 * unit) (h1 : mostZ v ev od < v + unit * 128) : rdN (k + 1) f n a unit num le ev od = (0, v, a) := by
  unfold rdN
  rw [if_neg (by omega), if_neg (by omega), ← hv, if_pos h1]
theorem rdN_go (h : a < n) (hb : 128 ≤ f a) (hv : v = num + f a % 128 * unit) (h1 : v + unit * 128 ≤ mostZ v ev od) : rdN (k + 1) f n a unit num le ev od = rdN k f n (a + 1) (unit * 128) v le ev od := by
  conv => lhs; unfold rdN
  rw [if_neg (by omega), if_neg (by omega), ← hv, if_neg (by omega)]
theorem mostZ_e (h : v % 2 = 0) : mostZ v ev od = ev := if_pos h
theorem mostZ_o (h : v % 2 ≠ 0) : mostZ v ev od = od := if_neg h
end RD
/-- what a reading tells: bounds -/
theorem rdN_r : ∀ (k : Nat) (f : Int → Int) (n a unit num le ev od : Int), okB f → 0 ≤ a → a ≤ n → 0 ≤ num → 0 ≤ unit → (a ≤ (rdN k f n a unit num le ev od).2.2 ∧ (rdN k f n a unit num le ev od).2.2 ≤ n) ∧ 0 ≤ (rdN k f n a unit num le ev od).2.1 ∧ ((rdN k f n a unit num le ev od).1 = 0 ∨ (rdN k f n a unit num le ev od).1 = 1) ∧ ((rdN k f n a unit num le ev od).1 = 1 → le ≤ (rdN k f n a unit num le ev od).2.1 ∧ (rdN k f n a unit num le ev od).2.1 ≤ mostZ (rdN k f n a unit num le ev od).2.1 ev od) := by
  intro k
  induction k with
  | zero =>
    intro f n a unit num le ev od hB h1 h2 h3 h4
    exact ⟨⟨Int.le_refl _, h2⟩, h3, Or.inl rfl, fun h => absurd h (by simp [rdN])⟩
  | succ k ih =>
    intro f n a unit num le ev od hB h1 h2 h3 h4
    have hb := hB a
    have hm : 0 ≤ f a % 128 * unit := Int.mul_nonneg (by omega) h4
    rcases Int.lt_or_le a n with q | q
    · rcases Int.lt_or_le (f a) 128 with q1 | q1
      · rcases Classical.em (le ≤ num + f a % 128 * unit ∧ num + f a % 128 * unit ≤ mostZ (num + f a % 128 * unit) ev od ∧ (0 < f a ∨ unit = 1)) with q2 | q2
        · rw [rdN_good q q1 rfl q2.1 q2.2.1 q2.2.2]
          exact ⟨⟨by simp only; omega, by simp only; omega⟩, by simp only; omega, Or.inr rfl, fun _ => ⟨q2.1, q2.2.1⟩⟩
        · rw [rdN_bad q q1 rfl q2]
          exact ⟨⟨Int.le_refl _, h2⟩, by simp only; omega, Or.inl rfl, fun h => absurd h (by simp)⟩
      · rcases Int.lt_or_le (mostZ (num + f a % 128 * unit) ev od) (num + f a % 128 * unit + unit * 128) with q2 | q2
        · rw [rdN_long q q1 rfl q2]
          exact ⟨⟨Int.le_refl _, h2⟩, by simp only; omega, Or.inl rfl, fun h => absurd h (by simp)⟩
        · rw [rdN_go q q1 rfl q2]
          obtain ⟨g1, g2, g3, g4⟩ := ih f n (a + 1) (unit * 128) (num + f a % 128 * unit) le ev od hB (by omega) (by omega) (by omega) (by omega)
          exact ⟨⟨by omega, g1.2⟩, g2, g3, g4⟩
    · rw [rdN_end q]
      exact ⟨⟨Int.le_refl _, h2⟩, h3, Or.inl rfl, fun h => absurd h (by simp)⟩
