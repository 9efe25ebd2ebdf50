/-! thinning -/
def okT (f : Int → Int) : Prop := ∀ i, 0 ≤ f i ∧ f i ≤ 2147483647
def okC (f : Int → Int) : Prop := ∀ i, -8388608 ≤ f i ∧ f i ≤ 8388608
theorem okT_u {f : Int → Int} {k v : Int} (h : okT f) (h1 : 0 ≤ v) (h2 : v ≤ 2147483647) : okT (uZ f k v) := fun i => by unfold uZ; split; exact ⟨h1, h2⟩; exact h i
theorem okC_u {f : Int → Int} {k v : Int} (h : okC f) (h1 : -8388608 ≤ v) (h2 : v ≤ 8388608) : okC (uZ f k v) := fun i => by unfold uZ; split; exact ⟨h1, h2⟩; exact h i
def labs (z : Int) : Int64 := if lI z < lI 0 then lI (-z) else lI z
theorem labs_n {z : Int} (h : ¬ lI 0 ≤ lI z) : labs z = lI (-z) := if_pos (by rw [Int64.le_iff_toInt_le] at h; rw [Int64.lt_iff_toInt_lt]; omega)
theorem labs_p {z : Int} (h : lI 0 ≤ lI z) : labs z = lI z := if_neg (by rw [Int64.le_iff_toInt_le] at h; rw [Int64.lt_iff_toInt_lt]; omega)
/-- sample i of v is within e of the motion from a to b -/
def near (t v : Int → Int) (e a i b : Int) : Prop := ¬ lI (e * (t b - t a)) < labs (((v i - v a) * (t b - t a)) - ((v b - v a) * (t i - t a)))
def stepP (t x y : Int → Int) (e a b : Int) : Prop := ∀ i, a < i → i < b → near t x e a i b ∧ near t y e a i b
theorem near_c {t v t' v' : Int → Int} {e a i b : Int} (h1 : t a = t' a) (h2 : t i = t' i) (h3 : t b = t' b) (h4 : v a = v' a) (h5 : v i = v' i) (h6 : v b = v' b) : near t v e a i b ↔ near t' v' e a i b := by
  unfold near
  rw [h1, h2, h3, h4, h5, h6]
theorem stepP_c {t x y t' x' y' : Int → Int} {e a b : Int} (hab : a < b) (h1 : ∀ i, a ≤ i → i ≤ b → t i = t' i) (h2 : ∀ i, a ≤ i → i ≤ b → x i = x' i) (h3 : ∀ i, a ≤ i → i ≤ b → y i = y' i) : stepP t x y e a b ↔ stepP t' x' y' e a b := by
  unfold stepP
  constructor <;> intro h i hi hj <;> obtain ⟨q1, q2⟩ := h i hi hj
  · exact ⟨(near_c (h1 a (by omega) (by omega)) (h1 i (by omega) (by omega)) (h1 b (by omega) (by omega)) (h2 a (by omega) (by omega)) (h2 i (by omega) (by omega)) (h2 b (by omega) (by omega))).mp q1, (near_c (h1 a (by omega) (by omega)) (h1 i (by omega) (by omega)) (h1 b (by omega) (by omega)) (h3 a (by omega) (by omega)) (h3 i (by omega) (by omega)) (h3 b (by omega) (by omega))).mp q2⟩
  · exact ⟨(near_c (h1 a (by omega) (by omega)) (h1 i (by omega) (by omega)) (h1 b (by omega) (by omega)) (h2 a (by omega) (by omega)) (h2 i (by omega) (by omega)) (h2 b (by omega) (by omega))).mpr q1, (near_c (h1 a (by omega) (by omega)) (h1 i (by omega) (by omega)) (h1 b (by omega) (by omega)) (h3 a (by omega) (by omega)) (h3 i (by omega) (by omega)) (h3 b (by omega) (by omega))).mpr q2⟩
/-- how many steps it takes at least, as the class counts -/
def swP (n : Int) (st : Int → Int → Prop) (d : Int → Int) (i : Int) : Prop := 0 ≤ d i ∧ d i ≤ n - 1 - i ∧ (∀ j, i < j → j < n → st i j → d i ≤ d j + 1) ∧ (d i = n - 1 - i ∨ ∃ j, i < j ∧ j < n ∧ st i j ∧ d i = d j + 1)
theorem swP_c {n : Int} {st : Int → Int → Prop} {d d' : Int → Int} {i : Int} (h : ∀ j, i ≤ j → j < n → d' j = d j) (hi : i < n) (hs : swP n st d i) : swP n st d' i := by
  obtain ⟨h1, h2, h3, h4⟩ := hs
  unfold swP
  rw [h i (by omega) hi]
  refine ⟨h1, h2, fun j a b c => by rw [h j (by omega) b]; exact h3 j a b c, ?_⟩
  rcases h4 with q | ⟨j, a, b, c, q⟩
  · exact Or.inl q
  · exact Or.inr ⟨j, a, b, c, by rw [h j (by omega) b]; exact q⟩
/-- the next one that is kept behind a -/
def nextP (n : Int) (st : Int → Int → Prop) (d : Int → Int) (a b : Int) : Prop := a < b ∧ b < n ∧ d b = d a - 1 ∧ st a b ∧ ∀ t, a < t → t < b → ¬ (d t = d a - 1 ∧ st a t)
theorem nextP_u {n : Int} {st : Int → Int → Prop} {d : Int → Int} {a b b' : Int} (h : nextP n st d a b) (h' : nextP n st d a b') : b = b' := by
  obtain ⟨h1, h2, h3, h4, h5⟩ := h
  obtain ⟨g1, g2, g3, g4, g5⟩ := h'
  rcases Int.lt_trichotomy b b' with q | q | q
  · exact absurd ⟨h3, h4⟩ (g5 b h1 q)
  · exact q
  · exact absurd ⟨g3, g4⟩ (h5 b' g1 q)
/-- what is kept: k samples at the places kp -/
def keptP (n : Int) (st : Int → Int → Prop) (d : Int → Int) (k : Int) (kp : Int → Int) : Prop := 1 ≤ k ∧ k ≤ n ∧ kp 0 = 0 ∧ (∀ j, 0 ≤ j → j < k - 1 → nextP n st d (kp j) (kp (j + 1))) ∧ (∀ t, kp (k - 1) < t → t < n → ¬ (d t = d (kp (k - 1)) - 1 ∧ st (kp (k - 1)) t))
