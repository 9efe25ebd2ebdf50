/-! bits of whole numbers -/
theorem iI_nI {z : Int} (h : 0 ≤ z) : iI z = nI z.toNat := by
  unfold iI nI
  have e : z = ((z.toNat : Nat) : Int) := by omega
  conv => lhs; rw [e]
  first | exact Int32.ofInt_eq_ofNat | rfl
theorem lI_lN {z : Int} (h : 0 ≤ z) : lI z = lN z.toNat := by
  unfold lI lN
  have e : z = ((z.toNat : Nat) : Int) := by omega
  conv => lhs; rw [e]
  first | exact Int64.ofInt_eq_ofNat | rfl
theorem iI_and127 {z : Int} (h : 0 ≤ z) (h2 : z ≤ 2147483647) : iI z &&& iI 127 = iI (z % 128) := by
  rw [iI_nI h, iI_nI (show (0 : Int) ≤ z % 128 by omega), pk_andN (by omega) 7 (by decide)]
  congr 1
  omega
theorem iI_and1 {z : Int} (h : 0 ≤ z) (h2 : z ≤ 2147483647) : iI z &&& iI 1 = iI (z % 2) := by
  rw [iI_nI h, iI_nI (show (0 : Int) ≤ z % 2 by omega), pk_andN (by omega) 1 (by decide)]
  congr 1
  omega
theorem iI_ushr7 {z : Int} (h : 0 ≤ z) (h2 : z ≤ 2147483647) : ((iI z).toUInt32 >>> ((iI 7).toUInt32 &&& Int32.toUInt32 31)).toInt32 = iI (z / 128) := by
  rw [iI_nI h, iI_nI (show (0 : Int) ≤ z / 128 by omega), pk_ushrN (by omega) (iI 7) 7 (by decide)]
  congr 1
  omega
theorem iI_ushr1 {z : Int} (h : 0 ≤ z) (h2 : z ≤ 2147483647) : ((iI z).toUInt32 >>> ((iI 1).toUInt32 &&& Int32.toUInt32 31)).toInt32 = iI (z / 2) := by
  rw [iI_nI h, iI_nI (show (0 : Int) ≤ z / 2 by omega), pk_ushrN (by omega) (iI 1) 1 (by decide)]
  congr 1
  omega
theorem iI_shl1 (z : Int) : iI z <<< (iI 1 &&& 31) = iI (2 * z) := by
  apply Int32.toBitVec_inj.mp
  apply BitVec.eq_of_toNat_eq
  rw [pk_shl (iI z) (iI 1 &&& 31) 1 (by decide)]
  rw [show iI (2 * z) = iI z + iI z by rw [iI_add]; congr 1; omega, Int32.toBitVec_add, BitVec.toNat_add]
  congr 1
  omega
theorem iI_shr31 {z : Int} (h : rI z) : iI z >>> (iI 31 &&& 31) = iI (if z < 0 then -1 else 0) := by
  apply Int32.toInt_inj.mp
  rw [pk_shr (iI z) (iI 31 &&& 31) 31 (by decide), iI_toInt h, iI_toInt (by split <;> decide), Int.shiftRight_eq_div_pow]
  have h1 := h.1
  have h2 := h.2
  split <;> omega
theorem iI_xor0 (x : Int32) : x ^^^ iI 0 = x := by
  apply Int32.toBitVec_inj.mp
  rw [Int32.toBitVec_xor, show (iI 0).toBitVec = 0#32 by decide, BitVec.xor_zero]
theorem iI_xorm (z : Int) : iI z ^^^ iI (-1) = iI (-1 - z) := by
  apply Int32.toBitVec_inj.mp
  rw [Int32.toBitVec_xor, show (iI (-1)).toBitVec = BitVec.allOnes 32 by decide, BitVec.xor_allOnes, show iI (-1 - z) = -(iI z) - iI 1 by rw [iI_neg, iI_sub]; congr 1; omega, Int32.toBitVec_sub, Int32.toBitVec_neg, show (iI 1).toBitVec = 1#32 by decide]
  rw [BitVec.neg_eq_not_add, BitVec.add_sub_cancel]
/-- the packed form of a difference -/
def foldZ (v : Int) : Int := if v < 0 then -1 - 2 * v else 2 * v
theorem iI_fold {z : Int} (h : rI z) : (iI z <<< (iI 1 &&& 31)) ^^^ (iI z >>> (iI 31 &&& 31)) = iI (foldZ z) := by
  rw [iI_shl1, iI_shr31 h]
  unfold foldZ
  split
  · rw [iI_xorm]
  · rw [iI_xor0]
def backZ (v : Int) : Int := if v % 2 = 0 then v / 2 else -1 - v / 2
theorem iI_back {z : Int} (h : 0 ≤ z) (h2 : z ≤ 2147483647) : ((iI z).toUInt32 >>> ((iI 1).toUInt32 &&& Int32.toUInt32 31)).toInt32 ^^^ (-(iI z &&& iI 1)) = iI (backZ z) := by
  rw [iI_ushr1 h h2, iI_and1 h h2, iI_neg]
  unfold backZ
  split
  · rename_i q
    rw [q]
    exact iI_xor0 _
  · rw [show z % 2 = 1 by omega]
    exact iI_xorm _
theorem lI_and127 {z : Int} (h : 0 ≤ z) (h2 : z ≤ 9223372036854775807) : lI z &&& lI 127 = lI (z % 128) := by
  rw [lI_lN h, lI_lN (show (0 : Int) ≤ z % 128 by omega)]
  apply Int64.toBitVec_inj.mp
  rw [Int64.toBitVec_and]
  apply BitVec.eq_of_toNat_eq
  rw [BitVec.toNat_and, show (lI 127).toBitVec.toNat = 2 ^ 7 - 1 by decide, Nat.and_two_pow_sub_one_eq_mod]
  show (BitVec.ofNat 64 z.toNat).toNat % 2 ^ 7 = (BitVec.ofNat 64 (z % 128).toNat).toNat
  rw [BitVec.toNat_ofNat, BitVec.toNat_ofNat]
  omega
theorem lI_and1 {z : Int} (h : 0 ≤ z) (h2 : z ≤ 9223372036854775807) : lI z &&& lI 1 = lI (z % 2) := by
  rw [lI_lN h, lI_lN (show (0 : Int) ≤ z % 2 by omega)]
  apply Int64.toBitVec_inj.mp
  rw [Int64.toBitVec_and]
  apply BitVec.eq_of_toNat_eq
  rw [BitVec.toNat_and, show (lI 1).toBitVec.toNat = 2 ^ 1 - 1 by decide, Nat.and_two_pow_sub_one_eq_mod]
  show (BitVec.ofNat 64 z.toNat).toNat % 2 ^ 1 = (BitVec.ofNat 64 (z % 2).toNat).toNat
  rw [BitVec.toNat_ofNat, BitVec.toNat_ofNat]
  omega
theorem lI_div {a b : Int} (ha : rL a) (hb : rL b) (hn : b ≠ -1 ∨ a ≠ -9223372036854775808) : lI a / lI b = lI (a.tdiv b) := by
  have hq : rL (a.tdiv b) := by
    have h1 := ha.1
    have h2 := ha.2
    have h3 : (a.tdiv b).natAbs = a.natAbs / b.natAbs := Int.natAbs_tdiv a b
    have h4 : a.natAbs / b.natAbs ≤ a.natAbs := Nat.div_le_self _ _
    rcases Classical.em (b = -1) with q | q
    · subst q
      have h5 : a.tdiv (-1) = -a := by rw [Int.tdiv_neg, Int.tdiv_one]
      constructor <;> omega
    · rcases Classical.em (a = -9223372036854775808) with q2 | q2
      · rcases Classical.em (b = 0) with q3 | q3
        · subst q3
          rw [Int.tdiv_zero]
          decide
        rcases Classical.em (b = 1) with q4 | q4
        · subst q4
          rw [Int.tdiv_one]
          exact ha
        have h6 : a.natAbs / b.natAbs ≤ a.natAbs / 2 := Nat.div_le_div_left (by omega) (by omega)
        constructor <;> omega
      · constructor <;> omega
  apply Int64.toInt_inj.mp
  rw [Int64.toInt_div, lI_toInt ha, lI_toInt hb, lI_toInt hq]
  exact Int.bmod_eq_of_le_mul_two (by have := hq.1; omega) (by have := hq.2; omega)
theorem lI_rem {a b : Int} (ha : rL a) (hb : rL b) (hn : b ≠ -1 ∨ a ≠ -9223372036854775808) : lI a - lI a / lI b * lI b = lI (a.tmod b) := by
  rw [lI_div ha hb hn, lI_mul, lI_sub]
  congr 1
  rw [Int.tmod_def, Int.mul_comm]
theorem lI_ne0 {b : Int} (hb : rL b) (h : b ≠ 0) : ¬ lI b = 0 := fun q => h ((lI_eq hb (by decide)).mp q)
