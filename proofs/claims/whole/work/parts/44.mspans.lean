def stM (fT fX fY : Int → Int) (xl xh yl yh k : Int) (s : St5) : St5 :=
  if (wiZ (fX k) (fX (k + 1)) (fT k) (fT (k + 1) - fT k) xl xh (fT k, 1, fT (k + 1), 1)).1 = 1 then
    (if (wiZ (fY k) (fY (k + 1)) (fT k) (fT (k + 1) - fT k) yl yh (wiZ (fX k) (fX (k + 1)) (fT k) (fT (k + 1) - fT k) xl xh (fT k, 1, fT (k + 1), 1)).2).1 = 1 ∧ ¬ (wiZ (fY k) (fY (k + 1)) (fT k) (fT (k + 1) - fT k) yl yh (wiZ (fX k) (fX (k + 1)) (fT k) (fT (k + 1) - fT k) xl xh (fT k, 1, fT (k + 1), 1)).2).2.2.2.1 * (wiZ (fY k) (fY (k + 1)) (fT k) (fT (k + 1) - fT k) yl yh (wiZ (fX k) (fX (k + 1)) (fT k) (fT (k + 1) - fT k) xl xh (fT k, 1, fT (k + 1), 1)).2).2.2.1 < (wiZ (fY k) (fY (k + 1)) (fT k) (fT (k + 1) - fT k) yl yh (wiZ (fX k) (fX (k + 1)) (fT k) (fT (k + 1) - fT k) xl xh (fT k, 1, fT (k + 1), 1)).2).2.1 * (wiZ (fY k) (fY (k + 1)) (fT k) (fT (k + 1) - fT k) yl yh (wiZ (fX k) (fX (k + 1)) (fT k) (fT (k + 1) - fT k) xl xh (fT k, 1, fT (k + 1), 1)).2).2.2.2.2
     then noteM (wiZ (fY k) (fY (k + 1)) (fT k) (fT (k + 1) - fT k) yl yh (wiZ (fX k) (fX (k + 1)) (fT k) (fT (k + 1) - fT k) xl xh (fT k, 1, fT (k + 1), 1)).2).2 s else s)
  else s
section STM
variable {fT fX fY : Int → Int} {xl xh yl yh k : Int} {s : St5} {z1 z2 : Int} {q1 q2 : Q4}
theorem stM_1 (h : wiZ (fX k) (fX (k + 1)) (fT k) (fT (k + 1) - fT k) xl xh (fT k, 1, fT (k + 1), 1) = (z1, q1)) (h1 : z1 ≠ 1) : stM fT fX fY xl xh yl yh k s = s := by unfold stM; rw [h, if_neg h1]
theorem stM_2 (h : wiZ (fX k) (fX (k + 1)) (fT k) (fT (k + 1) - fT k) xl xh (fT k, 1, fT (k + 1), 1) = (z1, q1)) (h1 : z1 = 1) (h' : wiZ (fY k) (fY (k + 1)) (fT k) (fT (k + 1) - fT k) yl yh q1 = (z2, q2)) (h2 : ¬ (z2 = 1 ∧ ¬ q2.2.2.1 * q2.2.1 < q2.1 * q2.2.2.2)) : stM fT fX fY xl xh yl yh k s = s := by unfold stM; rw [h, if_pos h1]; dsimp only; rw [h', if_neg h2]
theorem stM_3 (h : wiZ (fX k) (fX (k + 1)) (fT k) (fT (k + 1) - fT k) xl xh (fT k, 1, fT (k + 1), 1) = (z1, q1)) (h1 : z1 = 1) (h' : wiZ (fY k) (fY (k + 1)) (fT k) (fT (k + 1) - fT k) yl yh q1 = (z2, q2)) (h2 : z2 = 1 ∧ ¬ q2.2.2.1 * q2.2.1 < q2.1 * q2.2.2.2) : stM fT fX fY xl xh yl yh k s = noteM q2 s := by unfold stM; rw [h, if_pos h1]; dsimp only; rw [h', if_pos h2]
end STM
def spMI (fT fX fY : Int → Int) (xl xh yl yh b : Int) : Nat → St5 → St5
  | 0, s => s
  | i + 1, s => stM fT fX fY xl xh yl yh (b + i) (spMI fT fX fY xl xh yl yh b i s)
def oneM (fT fX fY : Int → Int) (xl xh yl yh b : Int) (s : St5) : St5 := if xl ≤ fX b ∧ fX b ≤ xh ∧ yl ≤ fY b ∧ fY b ≤ yh then noteM (fT b, 1, fT b, 1) s else s
/-- behind the stretches that begin before k -/
def spMX (fT fX fY : Int → Int) (xl xh yl yh b n k : Int) (s : St5) : St5 := if n = 1 then oneM fT fX fY xl xh yl yh b s else spMI fT fX fY xl xh yl yh b (k - b).toNat s
theorem spMX_s {fT fX fY : Int → Int} {xl xh yl yh b n k : Int} {s s' : St5} (hn : n ≠ 1) (hk : b ≤ k) (h : spMX fT fX fY xl xh yl yh b n k s = s') : spMX fT fX fY xl xh yl yh b n (k + 1) s = stM fT fX fY xl xh yl yh k s' := by
  subst h
  unfold spMX
  rw [if_neg hn, if_neg hn, show (k + 1 - b).toNat = (k - b).toNat + 1 by omega]
  show stM fT fX fY xl xh yl yh (b + ((k - b).toNat : Int)) _ = _
  rw [show b + (((k - b).toNat : Nat) : Int) = k by omega]
def okM (s : St5) : Prop := (0 ≤ s.1 ∧ s.1 ≤ 20) ∧ (okE s.2.1 ∧ okE s.2.2.1) ∧ okE s.2.2.2.1 ∧ okE s.2.2.2.2
theorem noteM_ok {q : Q4} {s : St5} (h1 : frM q.1 q.2.1) (h2 : frM q.2.2.1 q.2.2.2) (hs : okM s) (hn : s.1 < 20) : okM (noteM q s) ∧ (noteM q s).1 ≤ s.1 + 1 := by
  obtain ⟨lo, lB, hi, hB⟩ := q
  obtain ⟨n, a, b, c, d⟩ := s
  obtain ⟨g1, ⟨g2, g3⟩, g4, g5⟩ := hs
  have r1 := loT_r (w := 0) h1
  have r2 := loT_r (w := 1) h1
  have r3 := loT_r (w := 0) h2
  have r4 := loT_r (w := 1) h2
  unfold noteM
  dsimp only at *
  split
  · exact ⟨⟨g1, ⟨g2, g3⟩, okE_u g4 r3, okE_u g5 r4⟩, by simp only; omega⟩
  · exact ⟨⟨⟨by simp only; omega, by simp only; omega⟩, ⟨okE_u g2 r1, okE_u g3 r2⟩, okE_u g4 r3, okE_u g5 r4⟩, Int.le_refl _⟩
theorem spMX_1 {fT fX fY : Int → Int} {xl xh yl yh b k : Int} {s : St5} : spMX fT fX fY xl xh yl yh b 1 k s = oneM fT fX fY xl xh yl yh b s := if_pos rfl
theorem wiZ_01 {va vb t dt le mo z : Int} {q q' : Q4} (h : wiZ va vb t dt le mo q = (z, q')) : z = 0 ∨ z = 1 := by
  have e : (wiZ va vb t dt le mo q).1 = z := by rw [h]
  rw [← e]
  unfold wiZ
  split
  · dsimp only; split
    · exact Or.inr rfl
    · exact Or.inl rfl
  · split <;> exact Or.inr rfl
