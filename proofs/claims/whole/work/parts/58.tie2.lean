/-! the class and the reference tell the same: spans -/
theorem mc_lt {x y c : Int} (hc : 0 < c) : x * c < y * c ↔ x < y := ⟨fun h => Int.lt_of_mul_lt_mul_right h (Int.le_of_lt hc), fun h => Int.mul_lt_mul_of_pos_right h hc⟩
theorem mc_le {x y c : Int} (hc : 0 < c) : x * c ≤ y * c ↔ x ≤ y := ⟨fun h => Int.le_of_mul_le_mul_right h hc, fun h => Int.mul_le_mul_of_nonneg_right h (Int.le_of_lt hc)⟩
theorem cv_e (ta fs ff dt b : Int) : (ta * fs + ff * dt) * b = ta * (fs * b) + ff * b * dt := by
  rw [Int.add_mul, Int.mul_assoc, Int.mul_assoc ff dt b, Int.mul_comm dt b, ← Int.mul_assoc ff b dt]
theorem cv_lt {ta dt f s a b : Int} (hd : 0 < dt) : (ta * s + f * dt) * b < (ta * b + a * dt) * s ↔ f * b < a * s := by
  rw [cv_e, cv_e, Int.mul_comm b s, ← mc_lt (x := f * b) hd]
  omega
theorem cv_le {ta dt f s a b : Int} (hd : 0 < dt) : (ta * s + f * dt) * b ≤ (ta * b + a * dt) * s ↔ f * b ≤ a * s := by
  rw [cv_e, cv_e, Int.mul_comm b s, ← mc_le (x := f * b) hd]
  omega
theorem raise_cv {ta dt ff fs a b : Int} (hd : 0 < dt) : raiseZ (ta * fs + ff * dt) fs (ta * b + a * dt) b = (ta * (raiseZ ff fs a b).2 + (raiseZ ff fs a b).1 * dt, (raiseZ ff fs a b).2) := by
  unfold raiseZ
  rcases Classical.em (ff * b < a * fs) with q | q
  · rw [if_pos q, if_pos ((cv_lt hd).mpr q)]
  · rw [if_neg q, if_neg (fun w => q ((cv_lt hd).mp w))]
theorem lower_cv {ta dt tf ts a b : Int} (hd : 0 < dt) : lowerZ (ta * ts + tf * dt) ts (ta * b + a * dt) b = (ta * (lowerZ tf ts a b).2 + (lowerZ tf ts a b).1 * dt, (lowerZ tf ts a b).2) := by
  unfold lowerZ
  rcases Classical.em (a * ts < tf * b) with q | q
  · rw [if_pos q, if_pos ((cv_lt hd).mpr q)]
  · rw [if_neg q, if_neg (fun w => q ((cv_lt hd).mp w))]
def cnv (ta dt : Int) (q : Q4) : Q4 := (ta * q.2.1 + q.1 * dt, q.2.1, ta * q.2.2.2 + q.2.2.1 * dt, q.2.2.2)
theorem nw_wi {va vb ta dt le mo : Int} {q : Q4} (hd : 0 < dt) (h : vb - va ≠ 0 ∨ (le ≤ va ∧ va ≤ mo)) : wiZ va vb ta dt le mo (cnv ta dt q) = (1, cnv ta dt (nwZ va vb le mo q)) := by
  obtain ⟨ff, fs, tf, ts⟩ := q
  unfold wiZ cnv nwZ
  dsimp only
  rcases Int.lt_trichotomy va vb with q | q | q
  · rw [if_neg (show ¬ vb - va = 0 by omega), if_pos (show 0 < vb - va by omega), if_pos q, raise_cv hd, lower_cv hd]
  · subst q
    obtain ⟨h1, h2⟩ : le ≤ va ∧ va ≤ mo := by rcases h with w | w <;> omega
    rw [if_pos (show va - va = 0 by omega), if_pos ⟨h1, h2⟩, if_neg (Int.lt_irrefl va), if_neg (Int.lt_irrefl va), if_neg (show ¬ (va < le ∨ mo < va) by omega)]
  · have e1 : ∀ z : Int, -(ta * (vb - va) + (z - va) * dt) = ta * (va - vb) + (va - z) * dt := fun z => by
      rw [Int.neg_add, ← Int.mul_neg, ← Int.neg_mul, show -(vb - va) = va - vb by omega, show -(z - va) = va - z by omega]
    rw [if_neg (show ¬ vb - va = 0 by omega), if_neg (show ¬ 0 < vb - va by omega), if_neg (show ¬ va < vb by omega), if_pos q, e1, e1, show -(vb - va) = va - vb by omega, raise_cv hd, lower_cv hd]
theorem wi_out {va ta dt le mo : Int} {q : Q4} (h : ¬ (le ≤ va ∧ va ≤ mo)) : (wiZ va va ta dt le mo q).1 = 0 := by
  unfold wiZ
  rw [if_pos (show va - va = 0 by omega), if_neg h]
theorem wi_q {va ta dt le mo : Int} {q : Q4} : (wiZ va va ta dt le mo q).2 = q := by
  unfold wiZ
  rw [if_pos (show va - va = 0 by omega)]
section RL9
variable {ff fs tf ts a b : Int}
theorem raise_f (h1 : 0 < fs) (h2 : 0 < b) : 0 < (raiseZ ff fs a b).2 ∧ a * (raiseZ ff fs a b).2 ≤ (raiseZ ff fs a b).1 * b ∧ ff * (raiseZ ff fs a b).2 ≤ (raiseZ ff fs a b).1 * fs := by
  unfold raiseZ
  rcases Int.lt_or_le (ff * b) (a * fs) with q | q
  · rw [if_pos q]
    exact ⟨h2, Int.le_refl _, Int.le_of_lt q⟩
  · rw [if_neg (show ¬ ff * b < a * fs by omega)]
    exact ⟨h1, q, Int.le_refl _⟩
theorem lower_f (h1 : 0 < ts) (h2 : 0 < b) : 0 < (lowerZ tf ts a b).2 ∧ (lowerZ tf ts a b).1 * b ≤ a * (lowerZ tf ts a b).2 ∧ (lowerZ tf ts a b).1 * ts ≤ tf * (lowerZ tf ts a b).2 := by
  unfold lowerZ
  rcases Int.lt_or_le (a * ts) (tf * b) with q | q
  · rw [if_pos q]
    exact ⟨h2, Int.le_refl _, Int.le_of_lt q⟩
  · rw [if_neg (show ¬ a * ts < tf * b by omega)]
    exact ⟨h1, q, Int.le_refl _⟩
end RL9
abbrev posQ (q : Q4) : Prop := 0 < q.2.1 ∧ 0 < q.2.2.2
/-- what narrowing does -/
theorem nw_f {va vb lo hi : Int} {q : Q4} (hq : posQ q) : posQ (nwZ va vb lo hi q) ∧ q.1 * (nwZ va vb lo hi q).2.1 ≤ (nwZ va vb lo hi q).1 * q.2.1 ∧ (nwZ va vb lo hi q).2.2.1 * q.2.2.2 ≤ q.2.2.1 * (nwZ va vb lo hi q).2.2.2 ∧ ((nwZ va vb lo hi q).1 ≤ (nwZ va vb lo hi q).2.1 → (nwZ va vb lo hi q).2.2.2 ≤ (nwZ va vb lo hi q).2.2.1 → lo ≤ vb ∧ vb ≤ hi) ∧ (lo ≤ va → va ≤ hi → q.1 = 0 → (nwZ va vb lo hi q).1 = 0 ∧ (nwZ va vb lo hi q).2.1 = q.2.1) ∧ (va = vb → ¬ (lo ≤ va ∧ va ≤ hi) → 2 * (nwZ va vb lo hi q).2.1 ≤ (nwZ va vb lo hi q).1) := by
  obtain ⟨ff, fs, tf, ts⟩ := q
  obtain ⟨p1, p2⟩ := hq
  dsimp only at p1 p2
  unfold nwZ
  dsimp only
  have keep : ∀ {a b : Int}, a ≤ 0 → ff = 0 → raiseZ ff fs a b = (ff, fs) := fun {a b} h1 h2 => by
    unfold raiseZ
    rw [if_neg]
    subst h2
    have := Int.mul_nonneg (show 0 ≤ -a by omega) (Int.le_of_lt p1)
    rw [Int.neg_mul] at this
    omega
  rcases Int.lt_trichotomy va vb with q | q | q
  · rw [if_pos q]
    have r := raise_f (ff := ff) (a := lo - va) (b := vb - va) p1 (by omega)
    have w := lower_f (tf := tf) (a := hi - va) (b := vb - va) p2 (by omega)
    dsimp only
    refine ⟨⟨r.1, w.1⟩, r.2.2, w.2.2, fun h1 h2 => ⟨?_, ?_⟩, fun h1 h2 h3 => ?_, fun h => by omega⟩
    · have x := (mc_le (x := (raiseZ ff fs (lo - va) (vb - va)).1) (show 0 < vb - va by omega)).mpr h1
      have y := r.2.1
      rw [Int.mul_comm (raiseZ ff fs (lo - va) (vb - va)).2 (vb - va)] at x
      have z := (mc_le r.1).mp (Int.le_trans y x)
      omega
    · have x := (mc_le (x := (lowerZ tf ts (hi - va) (vb - va)).2) (show 0 < vb - va by omega)).mpr h2
      have y := w.2.1
      rw [Int.mul_comm (lowerZ tf ts (hi - va) (vb - va)).2 (vb - va)] at x
      have z := (mc_le w.1).mp (Int.le_trans x y)
      omega
    · rw [keep (by omega) h3]
      exact ⟨h3, rfl⟩
  · subst q
    rw [if_neg (Int.lt_irrefl va), if_neg (Int.lt_irrefl va)]
    rcases Classical.em (va < lo ∨ hi < va) with q | q
    · rw [if_pos q]
      have r := raise_f (ff := ff) (a := 2) (b := 1) p1 (by omega)
      dsimp only
      refine ⟨⟨r.1, p2⟩, r.2.2, Int.le_refl _, fun h1 h2 => ?_, fun h1 h2 h3 => by omega, fun _ _ => by have := r.2.1; omega⟩
      exfalso
      have := r.2.1
      have := r.1
      omega
    · rw [if_neg q]
      dsimp only
      exact ⟨⟨p1, p2⟩, Int.le_refl _, Int.le_refl _, fun _ _ => ⟨by omega, by omega⟩, fun _ _ h3 => ⟨h3, rfl⟩, fun _ h => by omega⟩
  · rw [if_neg (show ¬ va < vb by omega), if_pos q]
    have r := raise_f (ff := ff) (a := va - hi) (b := va - vb) p1 (by omega)
    have w := lower_f (tf := tf) (a := va - lo) (b := va - vb) p2 (by omega)
    dsimp only
    refine ⟨⟨r.1, w.1⟩, r.2.2, w.2.2, fun h1 h2 => ⟨?_, ?_⟩, fun h1 h2 h3 => ?_, fun h => by omega⟩
    · have x := (mc_le (x := (lowerZ tf ts (va - lo) (va - vb)).2) (show 0 < va - vb by omega)).mpr h2
      have y := w.2.1
      rw [Int.mul_comm (lowerZ tf ts (va - lo) (va - vb)).2 (va - vb)] at x
      have z := (mc_le w.1).mp (Int.le_trans x y)
      omega
    · have x := (mc_le (x := (raiseZ ff fs (va - hi) (va - vb)).1) (show 0 < va - vb by omega)).mpr h1
      have y := r.2.1
      rw [Int.mul_comm (raiseZ ff fs (va - hi) (va - vb)).2 (va - vb)] at x
      have z := (mc_le r.1).mp (Int.le_trans y x)
      omega
    · rw [keep (by omega) h3]
      exact ⟨h3, rfl⟩
/-- from at least 0, to at most 1 -/
def unQ (q : Q4) : Prop := posQ q ∧ 0 ≤ q.1 ∧ q.2.2.1 ≤ q.2.2.2
theorem nw_un {va vb lo hi : Int} {q : Q4} (hq : unQ q) : unQ (nwZ va vb lo hi q) := by
  obtain ⟨h1, h2, h3⟩ := hq
  obtain ⟨n1, n2, n3, -⟩ := nw_f (va := va) (vb := vb) (lo := lo) (hi := hi) h1
  refine ⟨n1, ?_, ?_⟩
  · have a := Int.mul_nonneg h2 (Int.le_of_lt n1.1)
    have b : 0 * q.2.1 ≤ (nwZ va vb lo hi q).1 * q.2.1 := by rw [Int.zero_mul]; omega
    exact (mc_le h1.1).mp b
  · have a := (mc_le n1.2).mpr h3
    have b : (nwZ va vb lo hi q).2.2.1 * q.2.2.2 ≤ (nwZ va vb lo hi q).2.2.2 * q.2.2.2 := by
      rw [Int.mul_comm (nwZ va vb lo hi q).2.2.2 q.2.2.2]; omega
    exact (mc_le h1.2).mp b
theorem nw_2 {va vb lo hi : Int} {q : Q4} (hq : posQ q) (h : 2 * q.2.1 ≤ q.1) : 2 * (nwZ va vb lo hi q).2.1 ≤ (nwZ va vb lo hi q).1 := by
  obtain ⟨n1, n2, -⟩ := nw_f (va := va) (vb := vb) (lo := lo) (hi := hi) hq
  have a := (mc_le n1.1).mpr h
  have e : 2 * q.2.1 * (nwZ va vb lo hi q).2.1 = 2 * (nwZ va vb lo hi q).2.1 * q.2.1 := by rw [Int.mul_assoc, Int.mul_comm q.2.1, ← Int.mul_assoc]
  rw [e] at a
  exact (mc_le hq.1).mp (Int.le_trans a n2)
theorem un_bad {q : Q4} (hq : unQ q) (h : 2 * q.2.1 ≤ q.1) : ¬ q.1 * q.2.2.2 ≤ q.2.2.1 * q.2.1 := by
  obtain ⟨⟨h1, h2⟩, h3, h4⟩ := hq
  intro w
  have a := (mc_le h2).mpr h
  have b := (mc_le h1).mpr h4
  have c := Int.mul_pos h1 h2
  have e1 : 2 * q.2.1 * q.2.2.2 = 2 * (q.2.1 * q.2.2.2) := Int.mul_assoc ..
  have e2 : q.2.2.2 * q.2.1 = q.2.1 * q.2.2.2 := Int.mul_comm ..
  omega
theorem loT_whole {t s : Int} (hs : 0 < s) : loT (t * s) s 0 = t ∧ loT (t * s) s 1 = 1 := by
  have e : gZ (t * s) s = s := by
    unfold gZ
    rw [Int.gcd_mul_left_left]
    omega
  rw [loT_0, loT_1, e]
  exact ⟨Int.mul_tdiv_cancel _ (by omega), Int.tdiv_self (by omega)⟩
theorem loT_x {f s f' s' : Int} (hs : 0 < s) (hs' : 0 < s') (h0 : loT f s 0 = loT f' s' 0) (h1 : loT f s 1 = loT f' s' 1) : f * s' = f' * s := by
  rw [loT_0, loT_0] at h0
  rw [loT_1, loT_1] at h1
  have d1 : f.tdiv (gZ f s) * gZ f s = f := Int.tdiv_mul_cancel (Int.gcd_dvd_left f s)
  have d2 : s.tdiv (gZ f s) * gZ f s = s := Int.tdiv_mul_cancel (Int.gcd_dvd_right f s)
  have d3 : f'.tdiv (gZ f' s') * gZ f' s' = f' := Int.tdiv_mul_cancel (Int.gcd_dvd_left f' s')
  have d4 : s'.tdiv (gZ f' s') * gZ f' s' = s' := Int.tdiv_mul_cancel (Int.gcd_dvd_right f' s')
  rw [h0] at d1
  rw [h1] at d2
  generalize gZ f s = g at *
  generalize gZ f' s' = g' at *
  generalize f'.tdiv g' = u at *
  generalize s'.tdiv g' = v at *
  rw [← d1, ← d2, ← d3, ← d4]
  grind
/-- the rows of spans of both -/
def RS (s s' : St5) : Prop := s'.1 = s.1 ∧ 0 ≤ s.1 ∧ posN s.1 s.2.2.2.2 ∧ ∀ i, 0 ≤ i → i < s.1 → (s'.2.1 i = loT (s.2.1 i) (s.2.2.1 i) 0 ∧ s'.2.2.1 i = loT (s.2.1 i) (s.2.2.1 i) 1) ∧ s'.2.2.2.1 i = loT (s.2.2.2.1 i) (s.2.2.2.2 i) 0 ∧ s'.2.2.2.2 i = loT (s.2.2.2.1 i) (s.2.2.2.2 i) 1
/-- the last span so far ends at t or ahead of it; at t only inside the frame -/
def PE (t : Int) (inn : Prop) (s : St5) : Prop := 0 < s.1 → s.2.2.2.1 (s.1 - 1) ≤ t * s.2.2.2.2 (s.1 - 1) ∧ (s.2.2.2.1 (s.1 - 1) = t * s.2.2.2.2 (s.1 - 1) → inn)
theorem note_tie {ta tb : Int} {q : Q4} {s s' : St5} {inn : Prop} (hd : ta < tb) (hq : unQ q) (hRS : RS s s') (hPE : PE ta inn s) (hin : inn → q.1 = 0 ∧ q.2.1 = 1) : RS (noteZ ta tb q s) (noteM (cnv ta (tb - ta) q) s') ∧ ∀ inn' : Prop, (q.2.2.1 = q.2.2.2 → inn') → PE tb inn' (noteZ ta tb q s) := by
  obtain ⟨ff, fs, tf, ts⟩ := q
  obtain ⟨n, bF, bS, eF, eS⟩ := s
  obtain ⟨n', fF, fG, fU, fV⟩ := s'
  obtain ⟨⟨u1, u2⟩, u3, u4⟩ := hq
  obtain ⟨r1, r2, r3, r4⟩ := hRS
  dsimp only at *
  subst r1
  have hend : ∀ inn' : Prop, (tf = ts → inn') → ta * ts + tf * (tb - ta) ≤ tb * ts ∧ (ta * ts + tf * (tb - ta) = tb * ts → inn') := fun inn' h => by
    have e : tb * ts = ta * ts + ts * (tb - ta) := by rw [Int.mul_sub, Int.mul_comm ts tb, Int.mul_comm ts ta]; omega
    rw [e]
    have hp : 0 < tb - ta := by omega
    refine ⟨by have := (mc_le hp).mpr u4; omega, fun w => h ?_⟩
    have w2 : tf * (tb - ta) = ts * (tb - ta) := by omega
    exact Int.eq_of_mul_eq_mul_right (by omega) w2
  rcases Classical.em (0 < n' ∧ eF (n' - 1) = ta * eS (n' - 1)) with c | c
  · obtain ⟨i1, i2⟩ := hin ((hPE c.1).2 c.2)
    subst i1; subst i2
    have hp := r3 (n' - 1) (by omega) (by omega)
    have hl := loT_whole (t := ta) hp
    obtain ⟨-, q3, q4⟩ := r4 (n' - 1) (by omega) (by omega)
    have hw := loT_whole (t := ta) (s := 1) (by decide)
    rw [Int.mul_one] at hw
    have e0 : ta * 1 + 0 * (tb - ta) = ta := by omega
    rw [noteZ_g c.1 c.2]
    unfold noteM cnv
    dsimp only
    rw [e0, if_pos ⟨c.1, by rw [q3, c.2, hl.1, hw.1], by rw [q4, c.2, hl.2, hw.2]⟩]
    refine ⟨⟨rfl, r2, fun i a b => ?_, fun i a b => ⟨(r4 i a b).1, ?_⟩⟩, fun inn' h => fun _ => ?_⟩
    · dsimp only; unfold uZ; split
      · exact u2
      · exact r3 i a b
    · dsimp only; unfold uZ; split
      · exact ⟨rfl, rfl⟩
      · exact (r4 i a b).2
    · dsimp only
      rw [uZ_s, uZ_s]
      exact hend inn' h
  · rw [noteZ_n c]
    have c' : ¬ (0 < n' ∧ fU (n' - 1) = loT (ta * fs + ff * (tb - ta)) fs 0 ∧ fV (n' - 1) = loT (ta * fs + ff * (tb - ta)) fs 1) := by
      intro ⟨w1, w2, w3⟩
      apply c
      refine ⟨w1, ?_⟩
      have hp := r3 (n' - 1) (by omega) (by omega)
      obtain ⟨-, q3, q4⟩ := r4 (n' - 1) (by omega) (by omega)
      have x := loT_x hp u1 (q3.symm.trans w2) (q4.symm.trans w3)
      have le := (hPE w1).1
      have a := (mc_le u1).mpr le
      have b : 0 ≤ ff * (tb - ta) * eS (n' - 1) := Int.mul_nonneg (Int.mul_nonneg u3 (by omega)) (Int.le_of_lt hp)
      have e1 : (ta * fs + ff * (tb - ta)) * eS (n' - 1) = ta * eS (n' - 1) * fs + ff * (tb - ta) * eS (n' - 1) := by rw [Int.add_mul, Int.mul_assoc, Int.mul_comm fs, ← Int.mul_assoc]
      have e2 : eF (n' - 1) * fs = ta * eS (n' - 1) * fs := by
        rw [e1] at x
        generalize eF (n' - 1) * fs = X at *
        generalize ta * eS (n' - 1) * fs = Y at *
        generalize ff * (tb - ta) * eS (n' - 1) = Z at *
        omega
      exact Int.eq_of_mul_eq_mul_right (by omega) e2
    unfold noteM cnv
    dsimp only
    rw [if_neg c']
    refine ⟨⟨rfl, by dsimp only; omega, fun i a b => ?_, fun i a b => ⟨?_, ?_⟩⟩, fun inn' h => fun _ => ?_⟩
    · dsimp only at b ⊢; unfold uZ; split
      · exact u2
      · exact r3 i a (by omega)
    · dsimp only at b ⊢; unfold uZ; split
      · exact ⟨rfl, rfl⟩
      · exact (r4 i a (by omega)).1
    · dsimp only at b ⊢; unfold uZ; split
      · exact ⟨rfl, rfl⟩
      · exact (r4 i a (by omega)).2
    · dsimp only
      rw [show n' + 1 - 1 = n' by omega, uZ_s, uZ_s]
      exact hend inn' h
theorem PE_skip {ta tb : Int} {s : St5} {inn inn' : Prop} (hd : ta < tb) (hp : posN s.1 s.2.2.2.2) (h : PE ta inn s) : PE tb inn' s := fun w => by
  have a := (h w).1
  have p := hp (s.1 - 1) (by omega) (by omega)
  have b := (mc_lt p).mpr hd
  exact ⟨by omega, fun e => by omega⟩
theorem stp_tie {xl xh yl yh : Int} {ft fx fy fT fX fY : Int → Int} {k : Int} {j : Int} {s s' : St5} (hd : ft k < ft (k + 1)) (ht : ft k = fT j ∧ ft (k + 1) = fT (j + 1)) (hx : fx k = fX j ∧ fx (k + 1) = fX (j + 1)) (hy : fy k = fY j ∧ fy (k + 1) = fY (j + 1)) (hRS : RS s s') (hPE : PE (ft k) ((xl ≤ fx k ∧ fx k ≤ xh) ∧ yl ≤ fy k ∧ fy k ≤ yh) s) : RS (stpZ ft fx fy xl xh yl yh k (k + 1) s) (stM fT fX fY xl xh yl yh j s') ∧ PE (ft (k + 1)) ((xl ≤ fx (k + 1) ∧ fx (k + 1) ≤ xh) ∧ yl ≤ fy (k + 1) ∧ fy (k + 1) ≤ yh) (stpZ ft fx fy xl xh yl yh k (k + 1) s) := by
  have skip : RS s s' ∧ PE (ft (k + 1)) ((xl ≤ fx (k + 1) ∧ fx (k + 1) ≤ xh) ∧ yl ≤ fy (k + 1) ∧ fy (k + 1) ≤ yh) s := ⟨hRS, PE_skip hd hRS.2.2.1 hPE⟩
  have u0 : unQ (0, 1, 1, 1) := ⟨⟨by decide, by decide⟩, by decide, by decide⟩
  obtain ⟨q1, hq1⟩ : ∃ q, nwZ (fx k) (fx (k + 1)) xl xh (0, 1, 1, 1) = q := ⟨_, rfl⟩
  obtain ⟨q2, hq2⟩ : ∃ q, nwZ (fy k) (fy (k + 1)) yl yh q1 = q := ⟨_, rfl⟩
  have hq : nwZ (fy k) (fy (k + 1)) yl yh (nwZ (fx k) (fx (k + 1)) xl xh (0, 1, 1, 1)) = q2 := by rw [hq1, hq2]
  have u1 : unQ q1 := by rw [← hq1]; exact nw_un u0
  have u2 : unQ q2 := by rw [← hq2]; exact nw_un u1
  have f1 := nw_f (va := fx k) (vb := fx (k + 1)) (lo := xl) (hi := xh) u0.1
  have f2 := nw_f (va := fy k) (vb := fy (k + 1)) (lo := yl) (hi := yh) u1.1
  have b1 : 2 * q1.2.1 ≤ q1.1 → 2 * q2.2.1 ≤ q2.1 := fun h => by rw [← hq2]; exact nw_2 u1.1 h
  rw [hq1] at f1
  rw [hq2] at f2
  obtain ⟨f11, f12, f13, f14, f15, f16⟩ := f1
  obtain ⟨f21, f22, f23, f24, f25, f26⟩ := f2
  have hdt : 0 < fT (j + 1) - fT j := by rw [← ht.1, ← ht.2]; omega
  have c0 : ((fT j, 1, fT (j + 1), 1) : Q4) = cnv (fT j) (fT (j + 1) - fT j) (0, 1, 1, 1) := by
    unfold cnv
    dsimp only
    rw [show fT j * 1 + 0 * (fT (j + 1) - fT j) = fT j by omega, show fT j * 1 + 1 * (fT (j + 1) - fT j) = fT (j + 1) by omega]
  rcases Classical.em (fx (k + 1) - fx k ≠ 0 ∨ (xl ≤ fx k ∧ fx k ≤ xh)) with qx | qx
  · have w1 : wiZ (fX j) (fX (j + 1)) (fT j) (fT (j + 1) - fT j) xl xh (fT j, 1, fT (j + 1), 1) = (1, cnv (fT j) (fT (j + 1) - fT j) q1) := by
      rw [← hq1, c0, hx.1, hx.2]
      rw [hx.1, hx.2] at qx
      exact nw_wi hdt qx
    rcases Classical.em (fy (k + 1) - fy k ≠ 0 ∨ (yl ≤ fy k ∧ fy k ≤ yh)) with qy | qy
    · have w2 : wiZ (fY j) (fY (j + 1)) (fT j) (fT (j + 1) - fT j) yl yh (cnv (fT j) (fT (j + 1) - fT j) q1) = (1, cnv (fT j) (fT (j + 1) - fT j) q2) := by
        rw [← hq2, hy.1, hy.2]
        rw [hy.1, hy.2] at qy
        exact nw_wi hdt qy
      have hc : (¬ (cnv (fT j) (fT (j + 1) - fT j) q2).2.2.1 * (cnv (fT j) (fT (j + 1) - fT j) q2).2.1 < (cnv (fT j) (fT (j + 1) - fT j) q2).1 * (cnv (fT j) (fT (j + 1) - fT j) q2).2.2.2) ↔ q2.1 * q2.2.2.2 ≤ q2.2.2.1 * q2.2.1 := by
        unfold cnv
        dsimp only
        rw [← cv_le (ta := fT j) hdt, Int.not_lt]
      rcases Int.lt_or_le (q2.2.2.1 * q2.2.1) (q2.1 * q2.2.2.2) with g | g
      · rw [stM_2 w1 rfl w2 (fun h => by have := hc.mp h.2; omega), stpZ_n hq (by omega)]
        exact skip
      · rw [stM_3 w1 rfl w2 ⟨rfl, hc.mpr g⟩, stpZ_y hq g]
        have nt := note_tie (q := q2) (s := s) (s' := s') hd u2 hRS hPE (fun h => by
          have a := f15 h.1.1 h.1.2 rfl
          have b := f25 h.2.1 h.2.2 a.1
          exact ⟨b.1, by rw [b.2, a.2]⟩)
        rw [ht.1, ht.2] at nt
        rw [ht.1, ht.2]
        refine ⟨nt.1, nt.2 _ (fun h => ?_)⟩
        have p2 : q2.1 ≤ q2.2.1 := by
          rw [h, Int.mul_comm q2.2.2.2 q2.2.1] at g
          exact (mc_le u2.1.2).mp g
        have y := f24 p2 (by omega)
        have p1 : q1.1 ≤ q1.2.1 := by
          have a := (mc_le u1.1.1).mpr p2
          rw [Int.mul_comm q2.2.1 q1.2.1] at a
          exact (mc_le u2.1.1).mp (Int.le_trans f22 a)
        have t1 : q1.2.2.2 ≤ q1.2.2.1 := by
          rw [h, Int.mul_comm q2.2.2.2 q1.2.2.2] at f23
          exact (mc_le u2.1.2).mp f23
        exact ⟨f14 p1 t1, y⟩
    · obtain ⟨e1, e2⟩ : fy k = fy (k + 1) ∧ ¬ (yl ≤ fy k ∧ fy k ≤ yh) := by constructor <;> omega
      have bad := f26 e1 e2
      have w2 : (wiZ (fY j) (fY (j + 1)) (fT j) (fT (j + 1) - fT j) yl yh (cnv (fT j) (fT (j + 1) - fT j) q1)).1 = 0 := by
        rw [← hy.1, ← hy.2, ← e1]
        exact wi_out e2
      generalize hw : wiZ (fY j) (fY (j + 1)) (fT j) (fT (j + 1) - fT j) yl yh (cnv (fT j) (fT (j + 1) - fT j) q1) = Z at w2
      obtain ⟨z2, q9⟩ := Z
      dsimp only at w2
      rw [stM_2 w1 rfl hw (fun h => by omega), stpZ_n hq (un_bad u2 bad)]
      exact skip
  · obtain ⟨e1, e2⟩ : fx k = fx (k + 1) ∧ ¬ (xl ≤ fx k ∧ fx k ≤ xh) := by constructor <;> omega
    have bad := b1 (f16 e1 e2)
    have w1 : (wiZ (fX j) (fX (j + 1)) (fT j) (fT (j + 1) - fT j) xl xh (fT j, 1, fT (j + 1), 1)).1 = 0 := by
      rw [← hx.1, ← hx.2, ← e1]
      exact wi_out e2
    generalize hw : wiZ (fX j) (fX (j + 1)) (fT j) (fT (j + 1) - fT j) xl xh (fT j, 1, fT (j + 1), 1) = Z at w1
    obtain ⟨z1, q9⟩ := Z
    dsimp only at w1
    rw [stM_1 hw (by omega), stpZ_n hq (un_bad u2 bad)]
    exact skip
theorem spI_tie {n b xl xh yl yh : Int} {ft fx fy fT fX fY : Int → Int} {s s' : St5} (hag : ∀ j, 0 ≤ j → j < n → ft j = fT (b + j) ∧ fx j = fX (b + j) ∧ fy j = fY (b + j)) (hinc : incP n ft) (hRS : RS s s') (hPE : PE (ft 0) ((xl ≤ fx 0 ∧ fx 0 ≤ xh) ∧ yl ≤ fy 0 ∧ fy 0 ≤ yh) s) : ∀ k : Nat, (k : Int) < n → RS (spI ft fx fy xl xh yl yh k s) (spMI fT fX fY xl xh yl yh b k s') ∧ PE (ft k) ((xl ≤ fx k ∧ fx k ≤ xh) ∧ yl ≤ fy k ∧ fy k ≤ yh) (spI ft fx fy xl xh yl yh k s) := by
  intro k
  induction k with
  | zero => intro _; exact ⟨hRS, hPE⟩
  | succ k ih =>
    intro hk
    obtain ⟨i1, i2⟩ := ih (by omega)
    have e : ((k + 1 : Nat) : Int) = (k : Int) + 1 := by omega
    rw [e] at hk ⊢
    obtain ⟨a1, a2, a3⟩ := hag k (by omega) (by omega)
    obtain ⟨b1, b2, b3⟩ := hag (k + 1) (by omega) hk
    rw [← Int.add_assoc] at b1 b2 b3
    exact stp_tie (hinc k (by omega) hk) ⟨a1, b1⟩ ⟨a2, b2⟩ ⟨a3, b3⟩ i1 i2
theorem tie_spans {n b xl xh yl yh : Int} {ft fx fy fT fX fY : Int → Int} {bF bS eF eS fF fG fU fV : Int → Int} {S1 S2 : St5} (hn : 1 ≤ n) (hag : ∀ j, 0 ≤ j → j < n → ft j = fT (b + j) ∧ fx j = fX (b + j) ∧ fy j = fY (b + j)) (hinc : incP n ft) (h1 : spX ft fx fy xl xh yl yh n n (0, bF, bS, eF, eS) = S1) (h2 : spMX fT fX fY xl xh yl yh b n (b + n - 1) (0, fF, fG, fU, fV) = S2) : RS S1 S2 := by
  subst h1; subst h2
  have hR0 : RS (0, bF, bS, eF, eS) (0, fF, fG, fU, fV) := ⟨rfl, Int.le_refl 0, fun i a b => by dsimp only at b; omega, fun i a b => by dsimp only at b; omega⟩
  unfold spX spMX
  rcases Classical.em (n = 1) with q | q
  · subst q
    rw [if_pos rfl, if_pos rfl, if_neg (by decide)]
    obtain ⟨a1, a2, a3⟩ := hag 0 (by decide) (by decide)
    rw [Int.add_zero] at a1 a2 a3
    unfold oneM
    rw [← a1, ← a2, ← a3]
    have hN : ∀ v lo hi : Int, ∀ q : Q4, q.2.2 = (1, 1) → nwZ v v lo hi q = if v < lo ∨ hi < v then ((raiseZ q.1 q.2.1 2 1).1, (raiseZ q.1 q.2.1 2 1).2, 1, 1) else q := fun v lo hi q hq => by
      unfold nwZ
      rw [if_neg (Int.lt_irrefl v), if_neg (Int.lt_irrefl v)]
      split
      · rw [hq]
      · rfl
    rcases Classical.em (fx 0 < xl ∨ xh < fx 0) with qx | qx
    · have e : nwZ (fx 0) (fx 0) xl xh (0, 1, 1, 1) = (2, 1, 1, 1) := by rw [hN _ _ _ _ rfl, if_pos qx]; rfl
      have e2 : nwZ (fy 0) (fy 0) yl yh (nwZ (fx 0) (fx 0) xl xh (0, 1, 1, 1)) = (2, 1, 1, 1) := by
        rw [e, hN _ _ _ _ rfl]
        split <;> rfl
      rw [stpZ_n e2 (by decide), if_neg (by omega)]
      exact hR0
    · have e : nwZ (fx 0) (fx 0) xl xh (0, 1, 1, 1) = (0, 1, 1, 1) := by rw [hN _ _ _ _ rfl, if_neg qx]
      rcases Classical.em (fy 0 < yl ∨ yh < fy 0) with qy | qy
      · have e2 : nwZ (fy 0) (fy 0) yl yh (nwZ (fx 0) (fx 0) xl xh (0, 1, 1, 1)) = (2, 1, 1, 1) := by rw [e, hN _ _ _ _ rfl, if_pos qy]; rfl
        rw [stpZ_n e2 (by decide), if_neg (by omega)]
        exact hR0
      · have e2 : nwZ (fy 0) (fy 0) yl yh (nwZ (fx 0) (fx 0) xl xh (0, 1, 1, 1)) = (0, 1, 1, 1) := by rw [e, hN _ _ _ _ rfl, if_neg qy]
        rw [stpZ_y e2 (by decide), if_pos (by omega), noteZ_n (by omega)]
        have e3 : noteM (ft 0, 1, ft 0, 1) (0, fF, fG, fU, fV) = (0 + 1, uZ fF 0 (loT (ft 0) 1 0), uZ fG 0 (loT (ft 0) 1 1), uZ fU 0 (loT (ft 0) 1 0), uZ fV 0 (loT (ft 0) 1 1)) := if_neg (by dsimp only; omega)
        rw [e3, show ft 0 * 1 + 0 * (ft 0 - ft 0) = ft 0 by omega, show ft 0 * 1 + 1 * (ft 0 - ft 0) = ft 0 by omega]
        refine ⟨rfl, by dsimp only; omega, fun i a b => ?_, fun i a b => ?_⟩
        · dsimp only at b ⊢; obtain rfl : i = 0 := by omega
          rw [uZ_s]; decide
        · dsimp only at b ⊢; obtain rfl : i = 0 := by omega
          rw [uZ_s, uZ_s, uZ_s, uZ_s, uZ_s, uZ_s, uZ_s, uZ_s]
          exact ⟨⟨rfl, rfl⟩, rfl, rfl⟩
  · rw [if_neg q, if_neg q, show (b + n - 1 - b).toNat = (n - 1).toNat by omega]
    exact (spI_tie (s := (0, bF, bS, eF, eS)) (s' := (0, fF, fG, fU, fV)) hag hinc hR0 (fun w => absurd w (by dsimp only; decide)) (n - 1).toNat (by omega)).1
