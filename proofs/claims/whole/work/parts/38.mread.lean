section MRD
variable {f : Int → Int} {n : Int} {ft fx fy : Int → Int}
/-- the reading fails in the sample i -/
theorem mrF {c : Int × Int × Int} {i b : Int} {gt gx gy : Int → Int} {r : Int × Int × Int × Int × Int} (hc : rdN 5 f n 0 1 0 1 20 20 = c) (c1 : c.1 = 1) (hi : 0 ≤ i ∧ i < c.2.1) (hL : rdL f n c.2.1 c.2.2 ft fx fy i.toNat = (1, b, gt, gx, gy)) (hr : rdS f n b (if i = 0 then 0 else 1) (2147483647 - (c.2.1 - 1 - i) - pvZ gt i) (pvZ gt i) (pvZ gx i) (pvZ gy i) = r) (h1 : r.1 ≠ 1) (h2 : 0 ≤ r.2.2.2.2) : (rdA f n ft fx fy).1 = r.2.2.2.2 := by
  subst hc
  have e := rdL_b hi.1 hL hr h1
  have ne : r.2.2.2.2 ≠ -1 := by omega
  have hI : rdI f n ft fx fy (rdN 5 f n 0 1 0 1 20 20) (rdN 5 f n 0 1 0 1 20 20).2.1 (i + 1) 0 r.2.2.2.2 0 gt gx gy := Or.inr ⟨c1, rfl, Or.inr ⟨ne, by rw [e], by rw [e]⟩⟩
  exact (rdA_end ⟨by omega, by omega⟩ hI (Or.inl ne)).1 ne
theorem mrF0 {c : Int × Int × Int} (hc : rdN 5 f n 0 1 0 1 20 20 = c) (c1 : c.1 ≠ 1) : (rdA f n ft fx fy).1 = c.2.2 := by
  unfold rdA
  rw [hc, if_neg c1]
theorem mrE {c : Int × Int × Int} {b : Int} {gt gx gy : Int → Int} (hc : rdN 5 f n 0 1 0 1 20 20 = c) (c1 : c.1 = 1) (h0 : 0 ≤ c.2.1) (hL : rdL f n c.2.1 c.2.2 ft fx fy c.2.1.toNat = (1, b, gt, gx, gy)) : (b < n → (rdA f n ft fx fy).1 = b) ∧ (n ≤ b → rdA f n ft fx fy = (-1, c.2.1, gt, gx, gy)) := by
  subst hc
  have hI : rdI f n ft fx fy (rdN 5 f n 0 1 0 1 20 20) (rdN 5 f n 0 1 0 1 20 20).2.1 (rdN 5 f n 0 1 0 1 20 20).2.1 b (-1) (rdN 5 f n 0 1 0 1 20 20).2.1 gt gx gy := Or.inr ⟨c1, rfl, Or.inl ⟨rfl, hL, rfl⟩⟩
  have q := rdA_end ⟨h0, Int.le_refl _⟩ hI (Or.inr (Int.le_refl _))
  exact ⟨fun w => q.2.1 rfl w, fun w => (q.2.2 rfl w).1⟩
theorem mrG {c : Int × Int × Int} {i b : Int} {gt gx gy : Int → Int} {nt a1 x' a2 y' a3 : Int} (hi : 0 ≤ i) (hL : rdL f n c.2.1 c.2.2 ft fx fy i.toNat = (1, b, gt, gx, gy)) (h1 : rdN 5 f n b 1 0 (if i = 0 then 0 else 1) (2147483647 - (c.2.1 - 1 - i) - pvZ gt i) (2147483647 - (c.2.1 - 1 - i) - pvZ gt i) = (1, nt, a1)) (h2 : rdM f n a1 (pvZ gx i) = (1, x', a2)) (h3 : rdM f n a2 (pvZ gy i) = (1, y', a3)) : rdL f n c.2.1 c.2.2 ft fx fy (i + 1).toNat = (1, a3, uZ gt i (pvZ gt i + nt), uZ gx i x', uZ gy i y') := by
  rw [rdL_g hi hL (rdS_3 h1 rfl h2 rfl h3) rfl]
end MRD
