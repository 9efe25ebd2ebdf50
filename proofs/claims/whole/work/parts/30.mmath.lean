/-! the reference's thinning -/
def lab (v : Int) : Int := if lI v < lI 0 then -v else v
theorem labs_lab (v : Int) : labs v = lI (lab v) := by unfold labs lab; split <;> rfl
theorem lab_n {v : Int} (h : ¬ lI 0 ≤ lI v) : lab v = -v := if_pos (by rw [Int64.le_iff_toInt_le] at h; rw [Int64.lt_iff_toInt_lt]; omega)
theorem lab_p {v : Int} (h : lI 0 ≤ lI v) : lab v = v := if_neg (by rw [Int64.le_iff_toInt_le] at h; rw [Int64.lt_iff_toInt_lt]; omega)
theorem lab_abs {v : Int} (h : rL v) : lab v = if v < 0 then -v else v := by
  unfold lab
  rcases Int.lt_or_le v 0 with q | q
  · rw [if_pos q, if_pos ((lI_lt h (by decide)).mpr q)]
  · rw [if_neg (show ¬ v < 0 by omega), if_neg (show ¬ lI v < lI 0 from fun w => by have := (lI_lt h (by decide)).mp w; omega)]
abbrev trk (i : Int) : Prop := 0 ≤ i ∧ i < 4
def sh (f : Int → Int) (b : Int) : Int → Int := fun i => f (b + i)
theorem stepP_sh {t x y : Int → Int} {e b i j : Int} : stepP t x y e (b + i) (b + j) ↔ stepP (sh t b) (sh x b) (sh y b) e i j := by
  unfold stepP
  constructor
  · intro h k h1 h2
    exact h (b + k) (by omega) (by omega)
  · intro h k h1 h2
    have q := h (k - b) (by omega) (by omega)
    unfold near sh at q
    rw [show b + (k - b) = k by omega] at q
    exact q
theorem stepP_1 {t x y : Int → Int} {e a b : Int} (h : b ≤ a + 1) : stepP t x y e a b := fun i h1 h2 => by omega
def lwP (n : Int) (st : Int → Int → Prop) (d : Int → Int) (i : Int) : Prop := (1 ≤ d i ∧ d i ≤ n - i) ∧ (i < n - 1 → (∀ j, i < j → j < n → st i j → d i ≤ d j + 1) ∧ ∃ j, i < j ∧ j < n ∧ st i j ∧ d i = d j + 1)
theorem lwP_c {n : Int} {st : Int → Int → Prop} {d d' : Int → Int} {i : Int} (h : ∀ j, i ≤ j → j < n → d' j = d j) (hi : i < n) (hs : lwP n st d i) : lwP n st d' i := by
  obtain ⟨h1, h2⟩ := hs
  unfold lwP
  rw [h i (by omega) hi]
  refine ⟨h1, fun q => ?_⟩
  obtain ⟨h3, j, a, b, c, e⟩ := h2 q
  exact ⟨fun j a b c => by rw [h j (by omega) b]; exact h3 j a b c, j, a, b, c, by rw [h j (by omega) b]; exact e⟩
/-- the value at i while it is looked for: the places behind i up to j are seen -/
def lwI (n : Int) (st : Int → Int → Prop) (d : Int → Int) (i j w : Int) : Prop := (i = n - 1 → w = 1) ∧ (i < n - 1 → j ≤ i + 1 → w = 100) ∧ (i < n - 1 → i + 1 < j → (1 ≤ w ∧ w ≤ n - i) ∧ (∀ k, i < k → k < j → st i k → w ≤ d k + 1) ∧ ∃ k, i < k ∧ k < j ∧ st i k ∧ w = d k + 1)
section LW
variable {n i j : Int} {st : Int → Int → Prop} {d : Int → Int}
theorem lwI_r {w : Int} (hn : n ≤ 20) (hi : 0 ≤ i ∧ i < n) (hj : i < j) (h : lwI n st d i j w) : 1 ≤ w ∧ w ≤ 100 := by
  obtain ⟨h1, h2, h3⟩ := h
  rcases Int.lt_or_eq_of_le (show i ≤ n - 1 by omega) with q | q
  · rcases Int.lt_or_le (i + 1) j with q2 | q2
    · obtain ⟨q3, -⟩ := h3 q q2
      omega
    · rw [h2 q q2]; decide
  · rw [h1 q]; decide
theorem lwI_end (hi : 0 ≤ i ∧ i < n) (hj : n ≤ j) (h : lwI n st d i j (d i)) (hj2 : j ≤ n) : lwP n st d i := by
  obtain rfl : j = n := by omega
  obtain ⟨h1, h2, h3⟩ := h
  rcases Int.lt_or_eq_of_le (show i ≤ j - 1 by omega) with q | q
  · obtain ⟨q3, q4, q5⟩ := h3 q (by omega)
    exact ⟨q3, fun _ => ⟨q4, q5⟩⟩
  · exact ⟨by rw [h1 q]; omega, fun w => by omega⟩
theorem lwI_set (hi : 0 ≤ i ∧ i < j) (hj : j < n) (hd : 1 ≤ d j ∧ d j ≤ n - j) (h : lwI n st d i j (d i)) (hb : d j + 1 < d i) (hs : st i j) : lwI n st (uZ d i (d j + 1)) i (j + 1) (uZ d i (d j + 1) i) := by
  obtain ⟨h1, h2, h3⟩ := h
  rw [uZ_s]
  refine ⟨fun q => by omega, fun _ q => by omega, fun q _ => ⟨by omega, fun k g1 g2 g3 => ?_, j, by omega, by omega, hs, by rw [uZ_n _ (by omega)]⟩⟩
  rw [uZ_n _ (by omega)]
  rcases Int.lt_or_eq_of_le (show k ≤ j by omega) with w | w
  · obtain ⟨-, q4, -⟩ := h3 q (by omega)
    have := q4 k g1 w g3
    omega
  · subst w; omega
theorem lwI_keep (hn : n ≤ 20) (hi : 0 ≤ i ∧ i < j) (hj : j < n) (hd : 1 ≤ d j ∧ d j ≤ n - j) (h : lwI n st d i j (d i)) (hs1 : st i (i + 1)) (hb : ¬ (d j + 1 < d i ∧ st i j)) : lwI n st (uZ d i (d i)) i (j + 1) (uZ d i (d i) i) := by
  obtain ⟨h1, h2, h3⟩ := h
  rw [uZ_s]
  refine ⟨fun q => by omega, fun _ q => by omega, fun q _ => ?_⟩
  rcases Int.lt_or_le (i + 1) j with w | w
  · obtain ⟨q3, q4, k, g1, g2, g3, g4⟩ := h3 q w
    refine ⟨q3, fun k g1 g2 g3 => ?_, k, g1, by omega, g3, by rw [uZ_n _ (by omega)]; exact g4⟩
    rw [uZ_n _ (by omega)]
    rcases Int.lt_or_eq_of_le (show k ≤ j by omega) with v | v
    · exact q4 k g1 v g3
    · subst v
      rcases Int.lt_or_le (d k + 1) (d i) with v | v
      · exact absurd ⟨v, g3⟩ hb
      · exact v
  · exfalso
    obtain rfl : j = i + 1 := by omega
    exact hb ⟨by rw [h2 q (by omega)]; omega, hs1⟩
end LW
/-- what the reference's thinning does to the track that begins at b -/
def mthP (n b e : Int) (fT fX fY gL : Int → Int) (K : Int) (kp gT gX gY : Int → Int) : Prop := (∀ i, 0 ≤ i → i < n → lwP n (stepP (sh fT b) (sh fX b) (sh fY b) e) gL i) ∧ keptP n (stepP (sh fT b) (sh fX b) (sh fY b) e) (fun i => gL i - 1) K kp ∧ K = gL 0 ∧ (okT gT ∧ okC gX ∧ okC gY) ∧ (∀ j, 0 ≤ j → j < K → gT (b + j) = fT (b + kp j) ∧ gX (b + j) = fX (b + kp j) ∧ gY (b + j) = fY (b + kp j)) ∧ ∀ q, (q < b ∨ b + 20 ≤ q) → gT q = fT q ∧ gX q = fX q ∧ gY q = fY q
/-- where the motion is at t, k the sample before it: the first or the second number -/
def plZ (fT fV : Int → Int) (k t w : Int) : Int := if fT k = t then (if w = 0 then fV k else 1) else loT (fV k * (fT (k + 1) - fT k) + (fV (k + 1) - fV k) * (t - fT k)) (fT (k + 1) - fT k) w
theorem plZ_b {fT fV : Int → Int} {k t : Int} (hT : okT fT) (hC : okC fV) (ht : rI t) : -4503599627370496000 ≤ fV k * (fT (k + 1) - fT k) + (fV (k + 1) - fV k) * (t - fT k) ∧ fV k * (fT (k + 1) - fT k) + (fV (k + 1) - fV k) * (t - fT k) ≤ 4503599627370496000 := by
  have a1 := hT k
  have a2 := hT (k + 1)
  have b1 := hC k
  have b2 := hC (k + 1)
  have h1 : (fV k * (fT (k + 1) - fT k)).natAbs ≤ 8388608 * 2147483648 := by
    rw [Int.natAbs_mul]
    exact Nat.mul_le_mul (by omega) (by omega)
  have h2 : ((fV (k + 1) - fV k) * (t - fT k)).natAbs ≤ 16777216 * 4294967296 := by
    rw [Int.natAbs_mul]
    exact Nat.mul_le_mul (by omega) (by omega)
  constructor <;> omega
def trkZ (S M B w : Int) : Int := if w = 0 then S else if w = 1 then M else if w = 2 ∧ S = 2 then B else -1
