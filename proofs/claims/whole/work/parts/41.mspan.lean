/-! the reference's spans -/
theorem whole_n {a b : Int} (hb : 0 < b) (h : a.tmod b < 0) : a.tdiv b - 1 = a / b := by
  have e : b * a.tdiv b + a.tmod b = a := Int.mul_tdiv_add_tmod a b
  have l : -b < a.tmod b := by
    have h1 := Int.natAbs_tmod a b
    have h2 : a.natAbs % b.natAbs < b.natAbs := Nat.mod_lt _ (by omega)
    omega
  symm
  rw [Int.ediv_eq_iff_of_pos hb]
  have m1 : b * (a.tdiv b - 1) = b * a.tdiv b - b := by rw [Int.mul_sub, Int.mul_one]
  have m2 : (a.tdiv b - 1) * b = b * (a.tdiv b - 1) := Int.mul_comm _ _
  constructor
  · rw [m2, m1]; omega
  · rw [m2, m1]; omega
theorem whole_p {a b : Int} (hb : 0 < b) (h : 0 ≤ a.tmod b) : a.tdiv b = a / b := by
  have e : b * a.tdiv b + a.tmod b = a := Int.mul_tdiv_add_tmod a b
  have l : a.tmod b < b := by
    have h1 := Int.natAbs_tmod a b
    have h2 : a.natAbs % b.natAbs < b.natAbs := Nat.mod_lt _ (by omega)
    omega
  symm
  rw [Int.ediv_eq_iff_of_pos hb]
  have m2 : a.tdiv b * b = b * a.tdiv b := Int.mul_comm _ _
  constructor
  · rw [m2]; omega
  · rw [m2]; omega
theorem below_k {a b c d p q : Int} (hb : 0 < b) (hd : 0 < d) (h1 : p * b ≤ a) (h2 : q * d ≤ c) (h3 : a < p * b + b) (h5 : p < q) : a * d < c * b := by
  have e1 : a * d < (p * b + b) * d := Int.mul_lt_mul_of_pos_right h3 hd
  have e2 : q * d * b ≤ c * b := Int.mul_le_mul_of_nonneg_right h2 (Int.le_of_lt hb)
  have e3 : (p + 1) * (b * d) ≤ q * (b * d) := Int.mul_le_mul_of_nonneg_right h5 (Int.le_of_lt (Int.mul_pos hb hd))
  have e4 : (p * b + b) * d = (p + 1) * (b * d) := by rw [← Int.mul_assoc, Int.add_mul p 1 b, Int.one_mul]
  have e5 : q * d * b = q * (b * d) := by rw [Int.mul_assoc, Int.mul_comm d b]
  omega
theorem fl_b {a b : Int} (hb : 0 < b) : a / b * b ≤ a ∧ a < a / b * b + b := by
  have e : a / b * b + a % b = a := Int.ediv_mul_add_emod a b
  have e1 := Int.emod_nonneg a (show b ≠ 0 by omega)
  have e2 := Int.emod_lt_of_pos a hb
  omega
theorem below_lt {a b c d : Int} (hb : 0 < b) (hd : 0 < d) (h : a / b < c / d) : a * d < c * b := below_k hb hd (fl_b hb).1 (fl_b hd).1 (fl_b hb).2 h
theorem below_ge {a b c d : Int} (hb : 0 < b) (hd : 0 < d) (h : c / d < a / b) : ¬ a * d < c * b := by
  have := below_k hd hb (fl_b hd).1 (fl_b hb).1 (fl_b hd).2 h
  omega
theorem below_eq {a b c d : Int} (h : a / b = c / d) : (a - a / b * b) * d < (c - c / d * d) * b ↔ a * d < c * b := by
  have e1 : (a - a / b * b) * d = a * d - a / b * b * d := Int.sub_mul ..
  have e2 : (c - c / d * d) * b = c * b - c / d * d * b := Int.sub_mul ..
  have e3 : a / b * b * d = c / d * d * b := by rw [h, Int.mul_assoc, Int.mul_assoc, Int.mul_comm b d]
  omega
abbrev r60 (x : Int) : Prop := -1152921504606846976 ≤ x ∧ x ≤ 1152921504606846976
theorem div60 {a b : Int} (ha : r60 a) (hb : 0 < b) : r60 (a / b) := by
  have f := fl_b (a := a) hb
  constructor
  · rcases Int.lt_or_le (a / b) (-1152921504606846976) with q | q
    · exfalso
      have : (a / b + 1) * b ≤ -1152921504606846976 * b := Int.mul_le_mul_of_nonneg_right (by omega) (by omega)
      have e : (a / b + 1) * b = a / b * b + b := by rw [Int.add_mul, Int.one_mul]
      have : -1152921504606846976 * b ≤ -1152921504606846976 * 1 := by omega
      omega
    · exact q
  · rcases Int.lt_or_le 1152921504606846976 (a / b) with q | q
    · exfalso
      have : 1152921504606846977 * b ≤ a / b * b := Int.mul_le_mul_of_nonneg_right (by omega) (by omega)
      omega
    · exact q
def frM (f s : Int) : Prop := r60 f ∧ 0 < s ∧ s ≤ 134217728
theorem rem27 {a b : Int} (hb : 0 < b) (h2 : b ≤ 134217728) : r27 (a - a / b * b) := by
  have f := fl_b (a := a) hb
  constructor <;> omega
def wiZ (va vb t dt le mo : Int) (q : Q4) : Int × Q4 :=
  if vb - va = 0 then (if le ≤ va ∧ va ≤ mo then 1 else 0, q)
  else if 0 < vb - va then (1, (raiseZ q.1 q.2.1 (t * (vb - va) + (le - va) * dt) (vb - va)).1, (raiseZ q.1 q.2.1 (t * (vb - va) + (le - va) * dt) (vb - va)).2, (lowerZ q.2.2.1 q.2.2.2 (t * (vb - va) + (mo - va) * dt) (vb - va)).1, (lowerZ q.2.2.1 q.2.2.2 (t * (vb - va) + (mo - va) * dt) (vb - va)).2)
  else (1, (raiseZ q.1 q.2.1 (-(t * (vb - va) + (mo - va) * dt)) (-(vb - va))).1, (raiseZ q.1 q.2.1 (-(t * (vb - va) + (mo - va) * dt)) (-(vb - va))).2, (lowerZ q.2.2.1 q.2.2.2 (-(t * (vb - va) + (le - va) * dt)) (-(vb - va))).1, (lowerZ q.2.2.1 q.2.2.2 (-(t * (vb - va) + (le - va) * dt)) (-(vb - va))).2)
theorem cutM {t d x dt : Int} (ht : 0 ≤ t ∧ t ≤ 2147483647) (hd : -16777216 ≤ d ∧ d ≤ 16777216) (hx : -67108864 ≤ x ∧ x ≤ 67108864) (hdt : -2147483648 ≤ dt ∧ dt ≤ 2147483648) : r60 (t * d + x * dt) := by
  have h1 := mul31 (x := t) (by constructor <;> omega) (y := d) (by constructor <;> omega)
  have h2 := mul31 (x := dt) hdt (y := x) (by constructor <;> omega)
  rw [Int.mul_comm dt x] at h2
  constructor <;> omega
def noteM (q : Q4) (s : St5) : St5 :=
  if 0 < s.1 ∧ s.2.2.2.1 (s.1 - 1) = loT q.1 q.2.1 0 ∧ s.2.2.2.2 (s.1 - 1) = loT q.1 q.2.1 1 then (s.1, s.2.1, s.2.2.1, uZ s.2.2.2.1 (s.1 - 1) (loT q.2.2.1 q.2.2.2 0), uZ s.2.2.2.2 (s.1 - 1) (loT q.2.2.1 q.2.2.2 1))
  else (s.1 + 1, uZ s.2.1 s.1 (loT q.1 q.2.1 0), uZ s.2.2.1 s.1 (loT q.1 q.2.1 1), uZ s.2.2.2.1 s.1 (loT q.2.2.1 q.2.2.2 0), uZ s.2.2.2.2 s.1 (loT q.2.2.1 q.2.2.2 1))
theorem loT_0 (f s : Int) : loT f s 0 = f.tdiv (gZ f s) := by unfold loT; rw [if_pos rfl]
theorem loT_1 (f s : Int) : loT f s 1 = s.tdiv (gZ f s) := by unfold loT; rw [if_neg (by decide)]
theorem tdiv_r {a b M : Int} (hb : 0 < b) (h : -M ≤ a ∧ a ≤ M) : -M ≤ a.tdiv b ∧ a.tdiv b ≤ M := by
  have h3 : (a.tdiv b).natAbs = a.natAbs / b.natAbs := Int.natAbs_tdiv a b
  have h4 : a.natAbs / b.natAbs ≤ a.natAbs := Nat.div_le_self _ _
  constructor <;> omega
theorem loT_r {f s w : Int} (h : frM f s) : r60 (loT f s w) := by
  unfold loT
  have g := gZ_pos (a := f) h.2.1
  split
  · have := tdiv_r (M := 1152921504606846976) g h.1
    exact this
  · have := tdiv_r (M := 1152921504606846976) g (a := s) (by have := h.2; omega)
    exact this
