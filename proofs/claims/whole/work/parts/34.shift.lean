/-! bytes of a long -/
theorem lI_shrk {z : Int} (h : rL z) (y : Int64) (k : Nat) (hy : (y.toBitVec.smod 64).toNat = k) : lI z >>> y = lI (z / 2 ^ k) := by
  apply Int64.toInt_inj.mp
  have e : (lI z >>> y).toInt = (lI z).toInt >>> k := by
    rw [← hy]
    exact BitVec.toInt_sshiftRight ..
  have hp : (1 : Int) ≤ 2 ^ k := by have := Nat.one_le_two_pow (n := k); exact_mod_cast this
  have hr : rL (z / 2 ^ k) := by
    have h1 := h.1
    have h2 := h.2
    constructor
    · rcases Int.lt_or_le z 0 with q | q
      · exact Int.le_trans h1 (Int.le_ediv_of_mul_le (by omega) (by
          have : z * 2 ^ k ≤ z * 1 := Int.mul_le_mul_of_nonpos_left (show z ≤ 0 by omega) hp
          omega))
      · have := Int.ediv_nonneg q (show (0 : Int) ≤ 2 ^ k by omega)
        omega
    · rcases Int.lt_or_le z 0 with q | q
      · have := Int.ediv_neg_of_neg_of_pos q (show (0 : Int) < 2 ^ k by omega)
        omega
      · have := Int.ediv_le_self (2 ^ k) q
        omega
  rw [e, Int.shiftRight_eq_div_pow, lI_toInt h, lI_toInt hr]
  norm_cast
theorem lI_shr7 {z : Int} (h : rL z) : lI z >>> ((iI 7).toInt64 &&& 63) = lI (z / 128) := lI_shrk h _ 7 (by decide)
theorem iI_and255 (q : Int) : iI q &&& iI 255 = iI (q % 256) := by
  apply Int32.toBitVec_inj.mp
  rw [Int32.toBitVec_and]
  apply BitVec.eq_of_toNat_eq
  rw [BitVec.toNat_and, show (iI 255).toBitVec.toNat = 2 ^ 8 - 1 by decide, Nat.and_two_pow_sub_one_eq_mod]
  show (BitVec.ofInt 32 q).toNat % 2 ^ 8 = (BitVec.ofInt 32 (q % 256)).toNat
  rw [BitVec.toNat_ofInt, BitVec.toNat_ofInt]
  omega
def byZ (z k : Int) : Int := z / 2 ^ (8 * k).toNat % 256
theorem k8 {k : Int} (h : 0 ≤ k ∧ k ≤ 7) : k = 0 ∨ k = 1 ∨ k = 2 ∨ k = 3 ∨ k = 4 ∨ k = 5 ∨ k = 6 ∨ k = 7 := by omega
theorem by_s {z k : Int} (hz : rL z) (h : 0 ≤ k ∧ k ≤ 7) : lI z >>> ((iI (8 * k)).toInt64 &&& 63) = lI (z / 2 ^ (8 * k).toNat) := by
  apply lI_shrk hz
  rcases k8 h with rfl | rfl | rfl | rfl | rfl | rfl | rfl | rfl <;> decide
theorem by_u {z k : Int} (hz : rL z) (h : 0 ≤ k ∧ k ≤ 7) : (((lI z).toUInt64 >>> ((iI (8 * k)).toInt64.toUInt64 &&& Int64.toUInt64 63)).toInt64).toInt32 &&& iI 255 = iI (byZ z k) := by
  have key : ∀ (j : Nat), j ≤ 56 → ∀ (s : UInt64), s.toNat % 64 = j → ((z % 2 ^ 64).toNat / 2 ^ j % 2 ^ 32 % 2 ^ 8 = ((z / 2 ^ j % 256) % ((2 ^ 32 : Nat) : Int)).toNat) → (((lI z).toUInt64 >>> s).toInt64).toInt32 &&& iI 255 = iI (z / 2 ^ j % 256) := by
    intro j hj s hs ha
    apply Int32.toBitVec_inj.mp
    rw [Int32.toBitVec_and]
    apply BitVec.eq_of_toNat_eq
    rw [BitVec.toNat_and, show (iI 255).toBitVec.toNat = 2 ^ 8 - 1 by decide, Nat.and_two_pow_sub_one_eq_mod]
    have e1 : (((lI z).toUInt64 >>> s).toInt64).toBitVec.toNat = (lI z).toBitVec.toNat / 2 ^ j := by
      show ((lI z).toUInt64 >>> s).toNat = _
      rw [UInt64.toNat_shiftRight, Nat.shiftRight_eq_div_pow, hs]
      rfl
    have e2 : ((((lI z).toUInt64 >>> s).toInt64).toInt32).toBitVec.toNat = (lI z).toBitVec.toNat / 2 ^ j % 2 ^ 32 := by
      rw [Int64.toBitVec_toInt32, BitVec.signExtend_eq_setWidth_of_le _ (by decide), BitVec.toNat_setWidth, e1]
    rw [e2]
    have e3 : (lI z).toBitVec.toNat = (z % 2 ^ 64).toNat := by
      show (BitVec.ofInt 64 z).toNat = _
      rw [BitVec.toNat_ofInt]
      rfl
    rw [e3]
    show (z % 2 ^ 64).toNat / 2 ^ j % 2 ^ 32 % 2 ^ 8 = (BitVec.ofInt 32 (z / 2 ^ j % 256)).toNat
    rw [BitVec.toNat_ofInt]
    exact ha
  unfold byZ
  rcases k8 h with rfl | rfl | rfl | rfl | rfl | rfl | rfl | rfl
  · exact key 0 (by decide) _ (by decide) (by omega)
  · exact key 8 (by decide) _ (by decide) (by omega)
  · exact key 16 (by decide) _ (by decide) (by omega)
  · exact key 24 (by decide) _ (by decide) (by omega)
  · exact key 32 (by decide) _ (by decide) (by omega)
  · exact key 40 (by decide) _ (by decide) (by omega)
  · exact key 48 (by decide) _ (by decide) (by omega)
  · exact key 56 (by decide) _ (by decide) (by omega)
/-- the k lowest bytes go to the end, the highest of them first -/
def ptN : Nat → (Int → Int) → Int → Int → (Int → Int) × Int
  | 0, f, n, _ => (f, n)
  | k + 1, f, n, z => ptN k (uZ f n (byZ z k)) (n + 1) z
theorem ptN_agree : ∀ (k : Nat) (f g : Int → Int) (n z : Int), (∀ i, 0 ≤ i → i < n → f i = g i) → (ptN k f n z).2 = (ptN k g n z).2 ∧ ∀ i, 0 ≤ i → i < (ptN k f n z).2 → (ptN k f n z).1 i = (ptN k g n z).1 i := by
  intro k
  induction k with
  | zero => intro f g n z h; exact ⟨rfl, h⟩
  | succ k ih =>
    intro f g n z h
    refine ih _ _ _ _ (fun i h0 h1 => ?_)
    rcases Int.lt_or_le i n with q | q
    · rw [uZ_n _ (by omega), uZ_n _ (by omega)]
      exact h i h0 q
    · obtain rfl : i = n := by omega
      rw [uZ_s, uZ_s]
theorem ptN_ok : ∀ (k : Nat) (f : Int → Int) (n z : Int), okB f → okB (ptN k f n z).1 ∧ (ptN k f n z).2 = n + k := by
  intro k
  induction k with
  | zero => intro f n z h; exact ⟨h, by simp [ptN]⟩
  | succ k ih =>
    intro f n z h
    have := ih (uZ f n (byZ z k)) (n + 1) z (okB_u h (by unfold byZ; omega) (by unfold byZ; omega))
    exact ⟨this.1, by show (ptN k _ _ z).2 = _; rw [this.2]; omega⟩
