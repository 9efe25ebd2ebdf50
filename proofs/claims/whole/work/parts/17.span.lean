/-! spans -/
def raiseZ (ff fs a b : Int) : Int × Int := if ff * b < a * fs then (a, b) else (ff, fs)
def lowerZ (tf ts a b : Int) : Int × Int := if a * ts < tf * b then (a, b) else (tf, ts)
abbrev r27 (x : Int) : Prop := -134217728 ≤ x ∧ x ≤ 134217728
def frR (f s : Int) : Prop := r27 f ∧ 0 < s ∧ s ≤ 134217728
theorem mul27 {x y : Int} (hx : r27 x) (hy : r27 y) : -18014398509481984 ≤ x * y ∧ x * y ≤ 18014398509481984 := by
  have h : (x * y).natAbs ≤ 134217728 * 134217728 := by
    rw [Int.natAbs_mul]
    exact Nat.mul_le_mul (by omega) (by omega)
  constructor <;> omega
theorem mul31 {x y : Int} (hx : -2147483648 ≤ x ∧ x ≤ 2147483648) (hy : r27 y) : -288230376151711744 ≤ x * y ∧ x * y ≤ 288230376151711744 := by
  have h : (x * y).natAbs ≤ 2147483648 * 134217728 := by
    rw [Int.natAbs_mul]
    exact Nat.mul_le_mul (by omega) (by omega)
  constructor <;> omega
theorem frR_27 {f s : Int} (h : frR f s) : r27 s := ⟨by have := h.2.1; omega, h.2.2⟩
abbrev Q4 : Type := Int × Int × Int × Int
def nwZ (a b lo hi : Int) (q : Q4) : Q4 :=
  if a < b then ((raiseZ q.1 q.2.1 (lo - a) (b - a)).1, (raiseZ q.1 q.2.1 (lo - a) (b - a)).2, (lowerZ q.2.2.1 q.2.2.2 (hi - a) (b - a)).1, (lowerZ q.2.2.1 q.2.2.2 (hi - a) (b - a)).2)
  else if b < a then ((raiseZ q.1 q.2.1 (a - hi) (a - b)).1, (raiseZ q.1 q.2.1 (a - hi) (a - b)).2, (lowerZ q.2.2.1 q.2.2.2 (a - lo) (a - b)).1, (lowerZ q.2.2.1 q.2.2.2 (a - lo) (a - b)).2)
  else if a < lo ∨ hi < a then ((raiseZ q.1 q.2.1 2 1).1, (raiseZ q.1 q.2.1 2 1).2, q.2.2)
  else q
abbrev St5 : Type := Int × (Int → Int) × (Int → Int) × (Int → Int) × (Int → Int)
def noteZ (ta tb : Int) (q : Q4) (s : St5) : St5 :=
  if 0 < s.1 ∧ s.2.2.2.1 (s.1 - 1) = ta * s.2.2.2.2 (s.1 - 1) then (s.1, s.2.1, s.2.2.1, uZ s.2.2.2.1 (s.1 - 1) (ta * q.2.2.2 + q.2.2.1 * (tb - ta)), uZ s.2.2.2.2 (s.1 - 1) q.2.2.2)
  else (s.1 + 1, uZ s.2.1 s.1 (ta * q.2.1 + q.1 * (tb - ta)), uZ s.2.2.1 s.1 q.2.1, uZ s.2.2.2.1 s.1 (ta * q.2.2.2 + q.2.2.1 * (tb - ta)), uZ s.2.2.2.2 s.1 q.2.2.2)
theorem noteZ_g {ta tb ff fs tf ts n : Int} {bF bS eF eS : Int → Int} (h : 0 < n) (h2 : eF (n - 1) = ta * eS (n - 1)) : noteZ ta tb (ff, fs, tf, ts) (n, bF, bS, eF, eS) = (n, bF, bS, uZ eF (n - 1) (ta * ts + tf * (tb - ta)), uZ eS (n - 1) ts) := if_pos ⟨h, h2⟩
theorem noteZ_n {ta tb ff fs tf ts n : Int} {bF bS eF eS : Int → Int} (h : ¬ (0 < n ∧ eF (n - 1) = ta * eS (n - 1))) : noteZ ta tb (ff, fs, tf, ts) (n, bF, bS, eF, eS) = (n + 1, uZ bF n (ta * fs + ff * (tb - ta)), uZ bS n fs, uZ eF n (ta * ts + tf * (tb - ta)), uZ eS n ts) := if_neg h
/-- what the rows of spans keep -/
def okE (f : Int → Int) : Prop := ∀ i, -1152921504606846976 ≤ f i ∧ f i ≤ 1152921504606846976
def okS (f : Int → Int) : Prop := ∀ i, 0 ≤ f i ∧ f i ≤ 134217728
def posN (n : Int) (f : Int → Int) : Prop := ∀ i, 0 ≤ i → i < n → 0 < f i
theorem okE_u {f : Int → Int} {k v : Int} (h : okE f) (h1 : -1152921504606846976 ≤ v ∧ v ≤ 1152921504606846976) : okE (uZ f k v) := fun i => by unfold uZ; split; exact h1; exact h i
theorem okS_u {f : Int → Int} {k v : Int} (h : okS f) (h1 : 0 ≤ v ∧ v ≤ 134217728) : okS (uZ f k v) := fun i => by unfold uZ; split; exact h1; exact h i
def okSp (s : St5) : Prop := (0 ≤ s.1 ∧ s.1 ≤ 20) ∧ (okE s.2.1 ∧ okS s.2.2.1) ∧ (okE s.2.2.2.1 ∧ okS s.2.2.2.2) ∧ posN s.1 s.2.2.1 ∧ posN s.1 s.2.2.2.2
theorem posN_u {n k v : Int} {f : Int → Int} (h : posN n f) (hv : 0 < v) : posN n (uZ f k v) := fun i h0 h1 => by unfold uZ; split; exact hv; exact h i h0 h1
theorem posN_s {n v : Int} {f : Int → Int} (h : posN n f) (hv : 0 < v) : posN (n + 1) (uZ f n v) := fun i h0 h1 => by
  unfold uZ
  split
  · exact hv
  · exact h i h0 (by omega)
theorem cut60 {ta tb f s : Int} (ha : 0 ≤ ta ∧ ta ≤ 2147483647) (hb : 0 ≤ tb ∧ tb ≤ 2147483647) (h : frR f s) : -1152921504606846976 ≤ ta * s + f * (tb - ta) ∧ ta * s + f * (tb - ta) ≤ 1152921504606846976 := by
  have h1 := mul31 (x := ta) (by constructor <;> omega) (frR_27 h)
  have h2 := mul31 (x := tb - ta) (by constructor <;> omega) h.1
  rw [Int.mul_comm (tb - ta) f] at h2
  constructor <;> omega
theorem noteZ_ok {ta tb : Int} {q : Q4} {s : St5} (ha : 0 ≤ ta ∧ ta ≤ 2147483647) (hb : 0 ≤ tb ∧ tb ≤ 2147483647) (h1 : frR q.1 q.2.1) (h2 : frR q.2.2.1 q.2.2.2) (hs : okSp s) (hn : s.1 < 20) : okSp (noteZ ta tb q s) ∧ s.1 ≤ (noteZ ta tb q s).1 ∧ (noteZ ta tb q s).1 ≤ s.1 + 1 := by
  obtain ⟨ff, fs, tf, ts⟩ := q
  obtain ⟨n, bF, bS, eF, eS⟩ := s
  obtain ⟨g1, ⟨g2, g3⟩, ⟨g4, g5⟩, g6, g7⟩ := hs
  have c1 := cut60 ha hb h1
  have c2 := cut60 ha hb h2
  have p1 := h1.2
  have p2 := h2.2
  dsimp only at *
  rcases Classical.em (0 < n ∧ eF (n - 1) = ta * eS (n - 1)) with q | q
  · rw [noteZ_g q.1 q.2]
    exact ⟨⟨g1, ⟨g2, g3⟩, ⟨okE_u g4 c2, okS_u g5 ⟨by omega, p2.2⟩⟩, g6, posN_u g7 p2.1⟩, Int.le_refl _, by simp only; omega⟩
  · rw [noteZ_n q]
    exact ⟨⟨⟨by simp only; omega, by simp only; omega⟩, ⟨okE_u g2 c1, okS_u g3 ⟨by omega, p1.2⟩⟩, ⟨okE_u g4 c2, okS_u g5 ⟨by omega, p2.2⟩⟩, posN_s g6 p1.1, posN_s g7 p2.1⟩, by simp only; omega, Int.le_refl _⟩
theorem raiseZ_ok {ff fs a b : Int} (h : frR ff fs) (h2 : frR a b) : frR (raiseZ ff fs a b).1 (raiseZ ff fs a b).2 := by unfold raiseZ; split; exact h2; exact h
theorem lowerZ_ok {ff fs a b : Int} (h : frR ff fs) (h2 : frR a b) : frR (lowerZ ff fs a b).1 (lowerZ ff fs a b).2 := by unfold lowerZ; split; exact h2; exact h
def stpZ (ft fx fy : Int → Int) (xl xh yl yh a b : Int) (s : St5) : St5 :=
  if (nwZ (fy a) (fy b) yl yh (nwZ (fx a) (fx b) xl xh (0, 1, 1, 1))).1 * (nwZ (fy a) (fy b) yl yh (nwZ (fx a) (fx b) xl xh (0, 1, 1, 1))).2.2.2 ≤ (nwZ (fy a) (fy b) yl yh (nwZ (fx a) (fx b) xl xh (0, 1, 1, 1))).2.2.1 * (nwZ (fy a) (fy b) yl yh (nwZ (fx a) (fx b) xl xh (0, 1, 1, 1))).2.1
  then noteZ (ft a) (ft b) (nwZ (fy a) (fy b) yl yh (nwZ (fx a) (fx b) xl xh (0, 1, 1, 1))) s else s
theorem stpZ_y {ft fx fy : Int → Int} {xl xh yl yh a b : Int} {s : St5} {q : Q4} (h : nwZ (fy a) (fy b) yl yh (nwZ (fx a) (fx b) xl xh (0, 1, 1, 1)) = q) (h2 : q.1 * q.2.2.2 ≤ q.2.2.1 * q.2.1) : stpZ ft fx fy xl xh yl yh a b s = noteZ (ft a) (ft b) q s := by unfold stpZ; rw [h, if_pos h2]
theorem stpZ_n {ft fx fy : Int → Int} {xl xh yl yh a b : Int} {s : St5} {q : Q4} (h : nwZ (fy a) (fy b) yl yh (nwZ (fx a) (fx b) xl xh (0, 1, 1, 1)) = q) (h2 : ¬ q.1 * q.2.2.2 ≤ q.2.2.1 * q.2.1) : stpZ ft fx fy xl xh yl yh a b s = s := by unfold stpZ; rw [h, if_neg h2]
def spI (ft fx fy : Int → Int) (xl xh yl yh : Int) : Nat → St5 → St5
  | 0, s => s
  | k + 1, s => stpZ ft fx fy xl xh yl yh k (k + 1) (spI ft fx fy xl xh yl yh k s)
/-- behind the stretches that end before b -/
def spX (ft fx fy : Int → Int) (xl xh yl yh n b : Int) (s : St5) : St5 := if n = 1 then (if b ≤ 0 then s else stpZ ft fx fy xl xh yl yh 0 0 s) else spI ft fx fy xl xh yl yh (b - 1).toNat s
theorem spX_1 {ft fx fy : Int → Int} {xl xh yl yh : Int} {s : St5} : spX ft fx fy xl xh yl yh 1 1 s = stpZ ft fx fy xl xh yl yh 0 0 s := by unfold spX; rw [if_pos rfl, if_neg (by decide)]
theorem spX_s {ft fx fy : Int → Int} {xl xh yl yh n b : Int} {s : St5} (hn : n ≠ 1) (hb : 1 ≤ b) : spX ft fx fy xl xh yl yh n (b + 1) s = stpZ ft fx fy xl xh yl yh (b - 1) b (spX ft fx fy xl xh yl yh n b s) := by
  unfold spX
  rw [if_neg hn, if_neg hn, show (b + 1 - 1).toNat = (b - 1).toNat + 1 by omega]
  show stpZ ft fx fy xl xh yl yh ((b - 1).toNat : Int) (((b - 1).toNat : Int) + 1) _ = _
  rw [show (((b - 1).toNat : Nat) : Int) = b - 1 by omega, show b - 1 + 1 = b by omega]
theorem spX_z {ft fx fy : Int → Int} {xl xh yl yh n b : Int} {s s' : St5} (hn : n = 1) (hb : b = 0) (h : spX ft fx fy xl xh yl yh n b s = s') : spX ft fx fy xl xh yl yh n (b + 1) s = stpZ ft fx fy xl xh yl yh 0 b s' := by
  subst hn hb
  unfold spX at h
  rw [if_pos rfl, if_pos (Int.le_refl 0)] at h
  show spX ft fx fy xl xh yl yh 1 1 s = _
  rw [spX_1, h]
