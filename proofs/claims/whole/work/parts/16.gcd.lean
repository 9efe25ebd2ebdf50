/-! common divisors -/
def gZ (a b : Int) : Int := ((Int.gcd a b : Nat) : Int)
theorem gZ_step {a b : Int} (ha : 0 ≤ a) (hb : 0 < b) : gZ b (a % b) = gZ a b := by
  unfold gZ
  congr 1
  obtain ⟨n, rfl⟩ := Int.eq_ofNat_of_zero_le ha
  obtain ⟨k, rfl⟩ := Int.eq_ofNat_of_zero_le (Int.le_of_lt hb)
  show Nat.gcd k (n % k) = Nat.gcd n k
  rw [Nat.gcd_comm k (n % k), ← Nat.gcd_rec, Nat.gcd_comm]
/-- the pairs grow small -/
def euP (k lg sm : Int) : Prop := 0 ≤ lg ∧ 0 ≤ sm ∧ lg ≤ 9223372036854775807 ∧ sm ≤ 9223372036854775807 ∧ (k = 0 ∨ sm < lg ∧ lg * sm * 2 ^ k.toNat ≤ 2 ^ 128)
theorem euP_next {k lg sm : Int} (hk : 0 ≤ k) (h : euP k lg sm) (hs : sm ≠ 0) : euP (k + 1) sm (lg % sm) := by
  obtain ⟨h1, h2, h3, h4, h5⟩ := h
  have hsm : 0 < sm := by omega
  have hr : 0 ≤ lg % sm := Int.emod_nonneg lg hs
  have hr2 : lg % sm < sm := Int.emod_lt_of_pos lg hsm
  refine ⟨h2, hr, h4, by omega, Or.inr ⟨hr2, ?_⟩⟩
  rw [show (k + 1).toNat = k.toNat + 1 by omega, Int.pow_succ]
  rcases h5 with q | ⟨q1, q2⟩
  · subst q
    have e1 : sm * (lg % sm) ≤ 9223372036854775807 * 9223372036854775807 := Int.mul_le_mul h4 (by omega) hr (by decide)
    have e2 : ((2 : Int) ^ (0 : Int).toNat * 2) = 2 := by decide
    rw [e2]
    omega
  · have hq : 1 ≤ lg / sm := by
      have := Int.le_ediv_of_mul_le hsm (show 1 * sm ≤ lg by omega)
      exact this
    have e0 : sm * (lg / sm) + lg % sm = lg := Int.mul_ediv_add_emod lg sm
    have e1 : sm * 1 ≤ sm * (lg / sm) := Int.mul_le_mul_of_nonneg_left hq h2
    have e2 : 2 * (lg % sm) ≤ lg := by omega
    have e3 : sm * (2 * (lg % sm)) ≤ sm * lg := Int.mul_le_mul_of_nonneg_left e2 h2
    have p0 : (0 : Int) ≤ 2 ^ k.toNat := Int.pow_nonneg (by decide)
    have e4 : sm * (2 * (lg % sm)) * 2 ^ k.toNat ≤ sm * lg * 2 ^ k.toNat := Int.mul_le_mul_of_nonneg_right e3 p0
    have e5 : sm * (lg % sm) * (2 ^ k.toNat * 2) = sm * (2 * (lg % sm)) * 2 ^ k.toNat := by
      rw [Int.mul_comm 2 (lg % sm), ← Int.mul_assoc sm, Int.mul_assoc (sm * (lg % sm)) 2, Int.mul_comm 2 (2 ^ k.toNat)]
    rw [e5]
    rw [Int.mul_comm sm lg] at e4
    omega
theorem euP_end {lg sm : Int} (h : euP 200 lg sm) : sm = 0 := by
  obtain ⟨h1, h2, h3, h4, h5⟩ := h
  rcases h5 with q | ⟨q1, q2⟩
  · exact absurd q (by decide)
  · rcases Classical.em (sm = 0) with q | q
    · exact q
    · exfalso
      have e1 : 1 * 1 ≤ lg * sm := Int.mul_le_mul (show 1 ≤ lg by omega) (show 1 ≤ sm by omega) (by decide) h1
      have e2 : 1 * 2 ^ (200 : Int).toNat ≤ lg * sm * 2 ^ (200 : Int).toNat := Int.mul_le_mul_of_nonneg_right (by omega) (by decide)
      have e3 : ¬ (1 * 2 ^ (200 : Int).toNat : Int) ≤ 2 ^ 128 := by decide
      exact e3 (Int.le_trans e2 q2)
theorem gZ_0 {a : Int} (h : 0 ≤ a) : gZ a 0 = a := by
  unfold gZ
  rw [Int.gcd_zero]
  omega
theorem gZ_neg (a b : Int) : gZ (-a) b = gZ a b := by unfold gZ; rw [Int.neg_gcd]
theorem gZ_comm (a b : Int) : gZ a b = gZ b a := by unfold gZ; rw [Int.gcd_comm]
theorem gZ_pos {a b : Int} (h : 0 < b) : 0 < gZ a b := by
  unfold gZ
  have := Int.gcd_pos_of_ne_zero_right a (show b ≠ 0 by omega)
  omega
theorem gZ_le {a b : Int} (h : 0 < b) : gZ a b ≤ b := by
  unfold gZ
  exact Int.le_of_dvd h (Int.gcd_dvd_right a b)
/-- the first or the second number in lowest terms -/
def loT (f s : Int) (w : Int) : Int := (if w = 0 then f else s).tdiv (gZ f s)
