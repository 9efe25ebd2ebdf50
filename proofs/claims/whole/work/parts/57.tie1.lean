/-! the class and the reference tell the same: thinning, places, packing, reading -/
theorem incP_lt {n : Int} {f : Int → Int} (h : incP n f) {i j : Int} (h0 : 0 ≤ i) (hij : i < j) (hj : j < n) : f i < f j := by
  obtain ⟨k, rfl⟩ : ∃ k : Nat, j = i + 1 + (k : Int) := ⟨(j - i - 1).toNat, by omega⟩
  clear hij
  induction k with
  | zero => rw [show i + 1 + ((0 : Nat) : Int) = i + 1 by omega]; exact h i h0 (by omega)
  | succ k ih =>
    have h1 := ih (by omega)
    have h2 := h (i + 1 + (k : Int)) (by omega) (by omega)
    rw [show i + 1 + ((k + 1 : Nat) : Int) = i + 1 + (k : Int) + 1 by omega]
    omega
theorem incP_c {n : Int} {f g : Int → Int} (h : incP n f) (e : ∀ j, 0 ≤ j → j < n → f j = g j) : incP n g := fun i h0 h1 => by
  rw [← e i h0 (by omega), ← e (i + 1) (by omega) h1]
  exact h i h0 h1
theorem incP_0 {n : Int} {f : Int → Int} (h : n ≤ 1) : incP n f := fun i h0 h1 => by omega
section TH
variable {n : Int} {st st' : Int → Int → Prop} {d d' : Int → Int} {k k' : Int} {kp kp' : Int → Int}
theorem kp_r (h : keptP n st d k kp) (hn : 1 ≤ n) : ∀ j : Nat, (j : Int) < k → 0 ≤ kp j ∧ kp j < n := by
  obtain ⟨h1, h2, h3, h4, h5⟩ := h
  intro j
  induction j with
  | zero => intro _; rw [show ((0 : Nat) : Int) = 0 from rfl, h3]; omega
  | succ j ih =>
    intro q
    have a := ih (by omega)
    have b := h4 j (by omega) (by omega)
    rw [show ((j + 1 : Nat) : Int) = (j : Int) + 1 by omega]
    exact ⟨by have := b.1; omega, b.2.1⟩
theorem kp_R (h : keptP n st d k kp) (hn : 1 ≤ n) {j : Int} (h0 : 0 ≤ j) (h1 : j < k) : 0 ≤ kp j ∧ kp j < n := by
  have := kp_r h hn j.toNat (by omega)
  rw [show ((j.toNat : Nat) : Int) = j by omega] at this
  exact this
theorem nextP_c (hs : ∀ i j, 0 ≤ i → i < j → j < n → (st i j ↔ st' i j)) (hd : ∀ i, 0 ≤ i → i < n → d i = d' i) {a b : Int} (ha : 0 ≤ a) (h : nextP n st d a b) : nextP n st' d' a b := by
  obtain ⟨h1, h2, h3, h4, h5⟩ := h
  refine ⟨h1, h2, by rw [← hd b (by omega) h2, ← hd a ha (by omega)]; exact h3, (hs a b ha h1 h2).mp h4, fun t q1 q2 q3 => h5 t q1 q2 ⟨?_, (hs a t ha q1 (by omega)).mpr q3.2⟩⟩
  rw [hd t (by omega) (by omega), hd a ha (by omega)]
  exact q3.1
theorem keptP_c (hs : ∀ i j, 0 ≤ i → i < j → j < n → (st i j ↔ st' i j)) (hd : ∀ i, 0 ≤ i → i < n → d i = d' i) (hn : 1 ≤ n) (h : keptP n st d k kp) : keptP n st' d' k kp := by
  have hR := fun j (h0 : 0 ≤ j) h1 => kp_R (j := j) h hn h0 h1
  obtain ⟨h1, h2, h3, h4, h5⟩ := h
  refine ⟨h1, h2, h3, fun j q1 q2 => nextP_c hs hd (hR j q1 (by omega)).1 (h4 j q1 q2), fun t q1 q2 q3 => h5 t q1 q2 ⟨?_, ?_⟩⟩
  · have := hR (k - 1) (by omega) (by omega)
    rw [hd t (by omega) q2, hd _ this.1 this.2]
    exact q3.1
  · have := hR (k - 1) (by omega) (by omega)
    exact (hs _ t this.1 q1 q2).mpr q3.2
theorem kept_u (h : keptP n st d k kp) (h' : keptP n st d k' kp') : k = k' ∧ ∀ j, 0 ≤ j → j < k → kp j = kp' j := by
  obtain ⟨h1, h2, h3, h4, h5⟩ := h
  obtain ⟨g1, g2, g3, g4, g5⟩ := h'
  have key : ∀ j : Nat, (j : Int) < k → (j : Int) < k' → kp j = kp' j := by
    intro j
    induction j with
    | zero => intro _ _; show kp 0 = kp' 0; rw [h3, g3]
    | succ j ih =>
      intro q1 q2
      have e := ih (by omega) (by omega)
      have a := h4 j (by omega) (by omega)
      have b := g4 j (by omega) (by omega)
      rw [e] at a
      rw [show ((j + 1 : Nat) : Int) = (j : Int) + 1 by omega]
      exact nextP_u a b
  have key2 : ∀ j : Int, 0 ≤ j → j < k → j < k' → kp j = kp' j := fun j a b c => by
    have := key j.toNat (by omega) (by omega)
    rw [show ((j.toNat : Nat) : Int) = j by omega] at this
    exact this
  have e : k = k' := by
    rcases Int.lt_trichotomy k k' with q | q | q
    · exfalso
      have a := g4 (k - 1) (by omega) (by omega)
      rw [← key2 (k - 1) (by omega) (by omega) (by omega), show k - 1 + 1 = k by omega] at a
      exact h5 (kp' k) a.1 a.2.1 ⟨a.2.2.1, a.2.2.2.1⟩
    · exact q
    · exfalso
      have a := h4 (k' - 1) (by omega) (by omega)
      rw [key2 (k' - 1) (by omega) (by omega) (by omega), show k' - 1 + 1 = k' by omega] at a
      exact g5 (kp k') a.1 a.2.1 ⟨a.2.2.1, a.2.2.2.1⟩
  exact ⟨e, fun j a b => key2 j a b (by omega)⟩
theorem sw_lw {g : Int → Int} (hs : ∀ i j, 0 ≤ i → i < j → j < n → (st i j ↔ st' i j)) (h : ∀ i, 0 ≤ i → i < n → swP n st d i) (h' : ∀ i, 0 ≤ i → i < n → lwP n st' g i) : ∀ i, 0 ≤ i → i < n → d i = g i - 1 := by
  have key : ∀ (m : Nat) (i : Int), 0 ≤ i → i < n → n - 1 - i ≤ (m : Int) → d i = g i - 1 := by
    intro m
    induction m with
    | zero =>
      intro i h0 h1 h2
      obtain ⟨a1, a2, -, -⟩ := h i h0 h1
      obtain ⟨b1, -⟩ := h' i h0 h1
      omega
    | succ m ih =>
      intro i h0 h1 h2
      obtain ⟨a1, a2, a3, a4⟩ := h i h0 h1
      obtain ⟨b1, b2⟩ := h' i h0 h1
      rcases Int.lt_or_le i (n - 1) with q | q
      · obtain ⟨b3, j, c1, c2, c3, c4⟩ := b2 q
        have e := ih j (by omega) c2 (by omega)
        have x := a3 j c1 c2 ((hs i j h0 c1 c2).mpr c3)
        rcases a4 with w | ⟨j', d1, d2, d3, d4⟩
        · omega
        · have e' := ih j' (by omega) d2 (by omega)
          have y := b3 j' d1 d2 ((hs i j' h0 d1 d2).mp d3)
          omega
      · omega
  exact fun i h0 h1 => key (n - 1 - i).toNat i h0 h1 (by omega)
end TH
/-- both thin alike -/
theorem tie_thin {n b e : Int} {ft fx fy fT fX fY d kp gt gx gy gL kp' gT gX gY : Int → Int} {k K : Int} (hn : 1 ≤ n) (hag : ∀ j, 0 ≤ j → j < n → ft j = fT (b + j) ∧ fx j = fX (b + j) ∧ fy j = fY (b + j)) (hinc : incP n ft)
    (h1 : ∀ i, 0 ≤ i → i < n → swP n (stepP ft fx fy e) d i) (h2 : keptP n (stepP ft fx fy e) d k kp) (h3 : ∀ j, 0 ≤ j → j < k → gt j = ft (kp j) ∧ gx j = fx (kp j) ∧ gy j = fy (kp j)) (hm : mthP n b e fT fX fY gL K kp' gT gX gY) :
    (1 ≤ k ∧ k ≤ n) ∧ K = k ∧ incP k gt ∧ ∀ j, 0 ≤ j → j < k → gt j = gT (b + j) ∧ gx j = gX (b + j) ∧ gy j = gY (b + j) := by
  obtain ⟨m1, m2, m3, m4, m5, m6⟩ := hm
  have hs : ∀ i j, 0 ≤ i → i < j → j < n → (stepP ft fx fy e i j ↔ stepP (sh fT b) (sh fX b) (sh fY b) e i j) := fun i j a1 a2 a3 =>
    stepP_c a2 (fun q w1 w2 => (hag q (by omega) (by omega)).1) (fun q w1 w2 => (hag q (by omega) (by omega)).2.1) (fun q w1 w2 => (hag q (by omega) (by omega)).2.2)
  have hd := sw_lw (g := gL) hs h1 m1
  have h2' := keptP_c hs (d' := fun i => gL i - 1) hd hn h2
  obtain ⟨e1, e2⟩ := kept_u h2' m2
  refine ⟨⟨h2.1, h2.2.1⟩, e1.symm, fun i a1 a2 => ?_, fun j a1 a2 => ?_⟩
  · rw [(h3 i a1 (by omega)).1, (h3 (i + 1) (by omega) a2).1]
    have r0 := kp_R h2 hn a1 (by omega)
    have q := h2.2.2.2.1 i a1 (by omega)
    exact incP_lt hinc r0.1 q.1 q.2.1
  · have r0 := kp_R h2 hn a1 a2
    obtain ⟨c1, c2, c3⟩ := m5 j a1 (by omega)
    obtain ⟨g1, g2, g3⟩ := h3 j a1 a2
    obtain ⟨w1, w2, w3⟩ := hag (kp j) r0.1 r0.2
    rw [g1, g2, g3, w1, w2, w3, c1, c2, c3, e2 j a1 a2]
    exact ⟨rfl, rfl, rfl⟩
/-- both find the same place -/
theorem tie_place {n b t w k u : Int} {ft fv fT fV : Int → Int} (hag : ∀ j, 0 ≤ j → j < n → ft j = fT (b + j) ∧ fv j = fV (b + j)) (hinc : incP n ft) (htn : t ≤ ft (n - 1)) (hk : 0 ≤ k ∧ k ≤ n - 1) (h1 : ft k ≤ t) (h2 : k < n - 1 → t < ft (k + 1)) (hu : b ≤ u ∧ u ≤ b + n - 1) (g1 : fT u ≤ t) (g2 : u < b + n - 1 → t < fT (u + 1)) : plZ ft fv k t w = plZ fT fV u t w := by
  obtain ⟨v, rfl⟩ : ∃ v, u = b + v := ⟨u - b, by omega⟩
  have e : k = v := by
    have a1 := (hag v (by omega) (by omega)).1
    rcases Int.lt_trichotomy k v with q | q | q
    · exfalso
      have c := h2 (by omega)
      rcases Int.lt_or_eq_of_le (show k + 1 ≤ v by omega) with z | z
      · have := incP_lt hinc (by omega) z (show v < n by omega); omega
      · rw [z] at c; omega
    · exact q
    · exfalso
      have c := g2 (by omega)
      have a2 := (hag (v + 1) (by omega) (by omega)).1
      rw [show b + (v + 1) = b + v + 1 by omega] at a2
      rcases Int.lt_or_eq_of_le (show v + 1 ≤ k by omega) with z | z
      · have := incP_lt hinc (by omega) z (show k < n by omega); omega
      · rw [← z] at h1; omega
  subst e
  have a := hag k hk.1 (by omega)
  unfold plZ
  rw [a.1, a.2]
  rcases Classical.em (fT (b + k) = t) with q | q
  · rw [if_pos q, if_pos q]
  · rw [if_neg q, if_neg q]
    have z : k < n - 1 := by
      rcases Int.lt_or_eq_of_le hk.2 with z | z
      · exact z
      · rw [← z, a.1] at htn; omega
    have a2 := hag (k + 1) (by omega) (by omega)
    rw [show b + (k + 1) = b + k + 1 by omega] at a2
    rw [a2.1, a2.2]
def agN (n : Int) (f g : Int → Int) : Prop := ∀ i, 0 ≤ i → i < n → f i = g i
theorem pv_ag {n : Int} {f g : Int → Int} (h : agN n f g) {i : Int} (h0 : 0 ≤ i) (h1 : i ≤ n) : pvZ f i = pvZ g i := by
  unfold pvZ
  rcases Classical.em (i = 0) with q | q
  · rw [if_pos q, if_pos q]
  · rw [if_neg q, if_neg q]
    exact h (i - 1) (by omega) (by omega)
theorem pkR_agree {n : Int} {ft fx fy gt gx gy : Int → Int} (ht : agN n ft gt) (hx : agN n fx gx) (hy : agN n fy gy) (s s' : (Int → Int) × Int) (hs : s.2 = s'.2 ∧ ∀ i, 0 ≤ i → i < s.2 → s.1 i = s'.1 i) : ∀ k : Nat, (k : Int) ≤ n → (pkR ft fx fy k s).2 = (pkR gt gx gy k s').2 ∧ ∀ i, 0 ≤ i → i < (pkR ft fx fy k s).2 → (pkR ft fx fy k s).1 i = (pkR gt gx gy k s').1 i := by
  intro k
  induction k with
  | zero => intro _; exact hs
  | succ k ih =>
    intro hk
    have a := ih (by omega)
    simp only [pkR]
    rw [ht k (by omega) (by omega), hx k (by omega) (by omega), hy k (by omega) (by omega), pv_ag ht (show (0 : Int) ≤ k by omega) (by omega), pv_ag hx (show (0 : Int) ≤ k by omega) (by omega), pv_ag hy (show (0 : Int) ≤ k by omega) (by omega)]
    generalize pkR ft fx fy k s = A at *
    generalize pkR gt gx gy k s' = B at *
    obtain ⟨A1, A2⟩ := A
    obtain ⟨B1, B2⟩ := B
    obtain ⟨a1, a2⟩ := a
    dsimp only at *
    subst a1
    have c1 := wrN_agree 4 A1 B1 A2 (gt k - pvZ gt k) a2
    have c2 := wrN_agree 4 _ _ _ (foldZ (gx k - pvZ gx k)) c1.2
    rw [← c1.1]
    have c3 := wrN_agree 4 _ _ _ (foldZ (gy k - pvZ gy k)) c2.2
    rw [← c2.1]
    exact c3
theorem tie_pack {n b : Int} {ft fx fy fT fX fY fb fR gb gR : Int → Int} {gn gm : Int} (hn : 0 ≤ n) (hag : ∀ j, 0 ≤ j → j < n → ft j = fT (b + j) ∧ fx j = fX (b + j) ∧ fy j = fY (b + j)) (h1 : pkR ft fx fy n.toNat (wrN 4 fb 0 n) = (gb, gn)) (h2 : pkR (sh fT b) (sh fX b) (sh fY b) n.toNat (wrN 4 fR 0 n) = (gR, gm)) : gn = gm ∧ agN gn gb gR := by
  have a := pkR_agree (n := n) (ft := ft) (fx := fx) (fy := fy) (gt := sh fT b) (gx := sh fX b) (gy := sh fY b) (fun i a b => (hag i a b).1) (fun i a b => (hag i a b).2.1) (fun i a b => (hag i a b).2.2) _ _ (wrN_agree 4 fb fR 0 n (fun i a b => by omega)) n.toNat (by omega)
  rw [h1, h2] at a
  exact a
section RA
variable {f g : Int → Int} {n : Int}
theorem rdN_ag (h : agN n f g) : ∀ (k : Nat) (a unit num le ev od : Int), 0 ≤ a → rdN k f n a unit num le ev od = rdN k g n a unit num le ev od := by
  intro k
  induction k with
  | zero => intro a unit num le ev od ha; rfl
  | succ k ih =>
    intro a unit num le ev od ha
    unfold rdN
    rcases Int.lt_or_le a n with q | q
    · rw [h a ha q, ih (a + 1) (unit * 128) (num + g a % 128 * unit) le ev od (by omega)]
    · rw [if_pos q, if_pos q]
theorem rdN_ge : ∀ (k : Nat) (a unit num le ev od : Int), 0 ≤ a → 0 ≤ (rdN k f n a unit num le ev od).2.2 := by
  intro k
  induction k with
  | zero => intro a unit num le ev od ha; exact ha
  | succ k ih =>
    intro a unit num le ev od ha
    unfold rdN
    split
    · exact ha
    · split
      · split
        · show 0 ≤ a + 1; omega
        · exact ha
      · split
        · exact ha
        · exact ih _ _ _ _ _ _ (by omega)
theorem rdM_ag (h : agN n f g) {a b : Int} (ha : 0 ≤ a) : rdM f n a b = rdM g n a b := by
  unfold rdM
  rw [rdN_ag h 5 a 1 0 0 (upZ b) (dnZ b) ha]
theorem rdM_ge {a b : Int} (ha : 0 ≤ a) : 0 ≤ (rdM f n a b).2.2 := rdN_ge 5 a 1 0 0 (upZ b) (dnZ b) ha
theorem rdS_ag (h : agN n f g) {a le room t x y : Int} (ha : 0 ≤ a) : rdS f n a le room t x y = rdS g n a le room t x y := by
  unfold rdS
  have e1 := rdN_ge (f := g) (n := n) 5 a 1 0 le room room ha
  rw [rdN_ag h 5 a 1 0 le room room ha, rdM_ag h (b := x) e1]
  have e2 := rdM_ge (f := g) (n := n) (b := x) e1
  rw [rdM_ag h (b := y) e2]
theorem rdS_ge {a le room t x y : Int} (ha : 0 ≤ a) : 0 ≤ (rdS f n a le room t x y).2.2.2.2 := by
  unfold rdS
  have e1 := rdN_ge (f := f) (n := n) 5 a 1 0 le room room ha
  have e2 := rdM_ge (f := f) (n := n) (b := x) e1
  have e3 := rdM_ge (f := f) (n := n) (b := y) e2
  split
  · split
    · exact e3
    · exact e2
  · exact e1
theorem uZ_ag {k v : Int} {f g : Int → Int} (h : agN k f g) : agN (k + 1) (uZ f k v) (uZ g k v) := fun i h0 h1 => by
  unfold uZ
  split
  · rfl
  · exact h i h0 (by omega)
theorem rdL_ag (h : agN n f g) {cnt a : Int} (ha : 0 ≤ a) (ft fx fy gt gx gy : Int → Int) : ∀ k : Nat, (rdL f n cnt a ft fx fy k).1 = (rdL g n cnt a gt gx gy k).1 ∧ (rdL f n cnt a ft fx fy k).2.1 = (rdL g n cnt a gt gx gy k).2.1 ∧ 0 ≤ (rdL f n cnt a ft fx fy k).2.1 ∧ ((rdL f n cnt a ft fx fy k).1 = 1 → agN k (rdL f n cnt a ft fx fy k).2.2.1 (rdL g n cnt a gt gx gy k).2.2.1 ∧ agN k (rdL f n cnt a ft fx fy k).2.2.2.1 (rdL g n cnt a gt gx gy k).2.2.2.1 ∧ agN k (rdL f n cnt a ft fx fy k).2.2.2.2 (rdL g n cnt a gt gx gy k).2.2.2.2) := by
  intro k
  induction k with
  | zero => exact ⟨rfl, rfl, ha, fun _ => ⟨fun i a b => by omega, fun i a b => by omega, fun i a b => by omega⟩⟩
  | succ k ih =>
    obtain ⟨i1, i2, i3, i4⟩ := ih
    unfold rdL
    generalize rdL f n cnt a ft fx fy k = A at *
    generalize rdL g n cnt a gt gx gy k = B at *
    obtain ⟨A1, A2, A3, A4, A5⟩ := A
    obtain ⟨B1, B2, B3, B4, B5⟩ := B
    dsimp only at *
    subst i1; subst i2
    rcases Classical.em (A1 = 1) with q | q
    · obtain ⟨j1, j2, j3⟩ := i4 q
      rw [if_pos q, if_pos q, pv_ag j1 (show (0 : Int) ≤ k by omega) (Int.le_refl _), pv_ag j2 (show (0 : Int) ≤ k by omega) (Int.le_refl _), pv_ag j3 (show (0 : Int) ≤ k by omega) (Int.le_refl _), rdS_ag h i3]
      have e := rdS_ge (f := g) (n := n) (a := A2) (le := if (k : Int) = 0 then 0 else 1) (room := 2147483647 - (cnt - 1 - k) - pvZ B3 k) (t := pvZ B3 k) (x := pvZ B4 k) (y := pvZ B5 k) i3
      generalize rdS g n A2 (if (k : Int) = 0 then 0 else 1) (2147483647 - (cnt - 1 - k) - pvZ B3 k) (pvZ B3 k) (pvZ B4 k) (pvZ B5 k) = r at *
      rcases Classical.em (r.1 = 1) with q2 | q2
      · rw [if_pos q2, if_pos q2]
        have c : ((k + 1 : Nat) : Int) = (k : Int) + 1 := by omega
        rw [c]
        exact ⟨rfl, rfl, e, fun _ => ⟨uZ_ag j1, uZ_ag j2, uZ_ag j3⟩⟩
      · rw [if_neg q2, if_neg q2]
        exact ⟨rfl, rfl, e, fun w => absurd w (by dsimp only; decide)⟩
    · rw [if_neg q, if_neg q]
      exact ⟨rfl, rfl, i3, fun w => absurd w q⟩
theorem tie_read (h : agN n f g) (ft fx fy gt gx gy : Int → Int) : (rdA f n ft fx fy).1 = (rdA g n gt gx gy).1 ∧ ((rdA f n ft fx fy).1 = -1 → (rdA f n ft fx fy).2.1 = (rdA g n gt gx gy).2.1 ∧ agN (rdA f n ft fx fy).2.1 (rdA f n ft fx fy).2.2.1 (rdA g n gt gx gy).2.2.1 ∧ agN (rdA f n ft fx fy).2.1 (rdA f n ft fx fy).2.2.2.1 (rdA g n gt gx gy).2.2.2.1 ∧ agN (rdA f n ft fx fy).2.1 (rdA f n ft fx fy).2.2.2.2 (rdA g n gt gx gy).2.2.2.2) := by
  unfold rdA
  rw [rdN_ag h 5 0 1 0 1 20 20 (Int.le_refl 0)]
  have hge := rdN_ge (f := g) (n := n) 5 0 1 0 1 20 20 (Int.le_refl 0)
  generalize rdN 5 g n 0 1 0 1 20 20 = c at *
  obtain ⟨i1, i2, i3, i4⟩ := rdL_ag h (cnt := c.2.1) hge ft fx fy gt gx gy c.2.1.toNat
  generalize rdL f n c.2.1 c.2.2 ft fx fy c.2.1.toNat = A at *
  generalize rdL g n c.2.1 c.2.2 gt gx gy c.2.1.toNat = B at *
  obtain ⟨A1, A2, A3, A4, A5⟩ := A
  obtain ⟨B1, B2, B3, B4, B5⟩ := B
  dsimp only at *
  subst i1; subst i2
  rcases Classical.em (c.1 = 1) with q | q
  · rw [if_pos q, if_pos q]
    rcases Classical.em (A1 = 1) with q2 | q2
    · rw [if_pos q2, if_pos q2]
      obtain ⟨j1, j2, j3⟩ := i4 q2
      rcases Int.lt_or_le A2 n with q3 | q3
      · rw [if_pos q3, if_pos q3]
        exact ⟨rfl, fun w => by dsimp only at w; omega⟩
      · rw [if_neg (show ¬ A2 < n by omega), if_neg (show ¬ A2 < n by omega)]
        dsimp only
        exact ⟨rfl, fun _ => ⟨rfl, fun i a b => j1 i a (by omega), fun i a b => j2 i a (by omega), fun i a b => j3 i a (by omega)⟩⟩
    · rw [if_neg q2, if_neg q2]
      exact ⟨rfl, fun w => by dsimp only at w; omega⟩
  · rw [if_neg q, if_neg q]
    exact ⟨rfl, fun w => by dsimp only at w; omega⟩
end RA
