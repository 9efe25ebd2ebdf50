/-! numbers written as bytes -/
def wrN : Nat → (Int → Int) → Int → Int → (Int → Int) × Int
  | 0, f, sz, v => (uZ f sz v, sz + 1)
  | k + 1, f, sz, v => if v ≤ 127 then (uZ f sz v, sz + 1) else wrN k (uZ f sz (v % 128 + 128)) (sz + 1) (v / 128)
theorem wrN_s {k : Nat} {f : Int → Int} {sz v : Int} (h : v ≤ 127) : wrN k f sz v = (uZ f sz v, sz + 1) := by
  cases k with
  | zero => rfl
  | succ k => unfold wrN; rw [if_pos h]
theorem wrN_b {k : Nat} {f : Int → Int} {sz v : Int} (h : 127 < v) : wrN (k + 1) f sz v = wrN k (uZ f sz (v % 128 + 128)) (sz + 1) (v / 128) := by
  conv => lhs; unfold wrN
  rw [if_neg (by omega)]
/-- j + 1 groups are enough for v -/
theorem wrN_len (j : Nat) : ∀ (k : Nat) (f : Int → Int) (sz v : Int), 0 ≤ v → v < 128 ^ (j + 1) → sz + 1 ≤ (wrN k f sz v).2 ∧ (wrN k f sz v).2 ≤ sz + j + 1 := by
  induction j with
  | zero =>
    intro k f sz v h0 h1
    rw [wrN_s (by omega)]
    constructor <;> simp
  | succ j ih =>
    intro k f sz v h0 h1
    rcases Int.lt_or_le 127 v with q | q
    · cases k with
      | zero => unfold wrN; constructor <;> simp <;> omega
      | succ k =>
        rw [wrN_b q]
        have h2 := ih k (uZ f sz (v % 128 + 128)) (sz + 1) (v / 128) (by omega) (by rw [Int.pow_succ] at h1; omega)
        constructor <;> omega
    · rw [wrN_s q]
      constructor <;> simp <;> omega
/-- bytes stay bytes -/
def okB (f : Int → Int) : Prop := ∀ i, 0 ≤ f i ∧ f i ≤ 255
theorem okB_u {f : Int → Int} {k v : Int} (h : okB f) (h1 : 0 ≤ v) (h2 : v ≤ 255) : okB (uZ f k v) := fun i => by unfold uZ; split; exact ⟨h1, h2⟩; exact h i
theorem wrN_ok : ∀ (k : Nat) (f : Int → Int) (sz v : Int), okB f → 0 ≤ v → v < 128 ^ (k + 1) → okB (wrN k f sz v).1 := by
  intro k
  induction k with
  | zero =>
    intro f sz v h h0 h1
    exact okB_u h h0 (by omega)
  | succ k ih =>
    intro f sz v h h0 h1
    rcases Int.lt_or_le 127 v with q | q
    · rw [wrN_b q]
      exact ih _ _ _ (okB_u h (by omega) (by omega)) (by omega) (by rw [Int.pow_succ] at h1; omega)
    · rw [wrN_s q]
      exact okB_u h h0 (by omega)
/-- two rows that agree so far agree behind it -/
theorem wrN_agree : ∀ (k : Nat) (f g : Int → Int) (sz v : Int), (∀ i, 0 ≤ i → i < sz → f i = g i) → (wrN k f sz v).2 = (wrN k g sz v).2 ∧ ∀ i, 0 ≤ i → i < (wrN k f sz v).2 → (wrN k f sz v).1 i = (wrN k g sz v).1 i := by
  have key : ∀ (f g : Int → Int) (sz v : Int), (∀ i, 0 ≤ i → i < sz → f i = g i) → ∀ i, 0 ≤ i → i < sz + 1 → uZ f sz v i = uZ g sz v i := by
    intro f g sz v h i h0 h1
    rcases Int.lt_or_le i sz with q | q
    · rw [uZ_n _ (by omega), uZ_n _ (by omega)]
      exact h i h0 q
    · obtain rfl : i = sz := by omega
      rw [uZ_s, uZ_s]
  intro k
  induction k with
  | zero =>
    intro f g sz v h
    exact ⟨rfl, key f g sz v h⟩
  | succ k ih =>
    intro f g sz v h
    rcases Int.lt_or_le 127 v with q | q
    · rw [wrN_b q, wrN_b q]
      exact ih _ _ _ _ (key f g sz _ h)
    · rw [wrN_s q, wrN_s q]
      exact ⟨rfl, key f g sz v h⟩
def pvZ (f : Int → Int) (i : Int) : Int := if i = 0 then 0 else f (i - 1)
/-- i samples written behind what there is -/
def pkR (ft fx fy : Int → Int) : Nat → (Int → Int) × Int → (Int → Int) × Int
  | 0, s => s
  | i + 1, s =>
    let s0 := pkR ft fx fy i s
    let s1 := wrN 4 s0.1 s0.2 (ft i - pvZ ft i)
    let s2 := wrN 4 s1.1 s1.2 (foldZ (fx i - pvZ fx i))
    wrN 4 s2.1 s2.2 (foldZ (fy i - pvZ fy i))
theorem pkR_s {ft fx fy : Int → Int} {i : Int} {s s0 s1 s2 s3 : (Int → Int) × Int} (hi : 0 ≤ i) (h0 : pkR ft fx fy i.toNat s = s0) (h1 : wrN 4 s0.1 s0.2 (ft i - pvZ ft i) = s1) (h2 : wrN 4 s1.1 s1.2 (foldZ (fx i - pvZ fx i)) = s2) (h3 : wrN 4 s2.1 s2.2 (foldZ (fy i - pvZ fy i)) = s3) : pkR ft fx fy (i + 1).toNat s = s3 := by
  rw [show (i + 1).toNat = i.toNat + 1 by omega]
  simp only [pkR]
  rw [h0, Int.toNat_of_nonneg hi, h1, h2, h3]
theorem wrN_5 {f g : Int → Int} {sz v k : Int} (h : wrN 4 f sz v = (g, k)) (h0 : 0 ≤ v) (h1 : v ≤ 2147483647) : sz + 1 ≤ k ∧ k ≤ sz + 5 := by
  have := wrN_len 4 4 f sz v h0 (by omega)
  rw [h] at this
  exact ⟨this.1, by have := this.2; omega⟩
theorem wrN_4 {f g : Int → Int} {sz v k : Int} (h : wrN 4 f sz v = (g, k)) (h0 : 0 ≤ v) (h1 : v ≤ 268435455) : sz + 1 ≤ k ∧ k ≤ sz + 4 := by
  have := wrN_len 3 4 f sz v h0 (by omega)
  rw [h] at this
  exact ⟨this.1, by have := this.2; omega⟩
theorem wrN_1 {f g : Int → Int} {sz v k : Int} (h : wrN 4 f sz v = (g, k)) (h1 : v ≤ 127) : k = sz + 1 := by
  rw [wrN_s h1] at h
  exact (congrArg Prod.snd h).symm
theorem wrN_B {f g : Int → Int} {sz v k : Int} (h : wrN 4 f sz v = (g, k)) (hf : okB f) (h0 : 0 ≤ v) (h1 : v ≤ 2147483647) : okB g := by
  have := wrN_ok 4 f sz v hf h0 (by omega)
  rw [h] at this
  exact this
theorem foldZ_r {v : Int} (h : -16777216 ≤ v ∧ v ≤ 16777216) : 0 ≤ foldZ v ∧ foldZ v ≤ 33554432 := by
  unfold foldZ
  split <;> constructor <;> omega
theorem pvZ_C {f : Int → Int} (h : okC f) (i : Int) : -8388608 ≤ pvZ f i ∧ pvZ f i ≤ 8388608 := by
  unfold pvZ
  split
  · decide
  · exact h _
theorem pvZ_s (f : Int → Int) {i : Int} (h : 0 ≤ i) : pvZ f (i + 1) = f i := by
  unfold pvZ
  rw [if_neg (by omega), show i + 1 - 1 = i by omega]
/-- the times rise -/
def incP (n : Int) (f : Int → Int) : Prop := ∀ i, 0 ≤ i → i + 1 < n → f i < f (i + 1)
theorem pvZ_T {f : Int → Int} {n i : Int} (h : okT f) (hn : incP n f) (h0 : 0 ≤ i) (h1 : i < n) : 0 ≤ f i - pvZ f i ∧ f i - pvZ f i ≤ 2147483647 := by
  have a := h i
  unfold pvZ
  split
  · constructor <;> omega
  · have b := h (i - 1)
    have c := hn (i - 1) (by omega) (by omega)
    rw [show i - 1 + 1 = i by omega] at c
    constructor <;> omega
