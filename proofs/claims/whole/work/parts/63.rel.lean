/-! the two systems side by side -/
def TK (i sg bd n : Int) (ft fx fy fS fM fB fT fX fY : Int → Int) : Prop := fS i = sg ∧ fM i = n ∧ (sg = 2 → bd = fB i ∧ 1 ≤ n) ∧ (sg ≠ 2 → bd = -1) ∧ (sg = 0 → n = 0) ∧ incP n ft ∧ (okT ft ∧ okC fx ∧ okC fy) ∧ ∀ j, 0 ≤ j → j < n → ft j = fT (20 * i + j) ∧ fx j = fX (20 * i + j) ∧ fy j = fY (20 * i + j)
def RG (fS fM fB fT fX fY : Int → Int) : Prop := (∀ i, 0 ≤ fS i ∧ fS i ≤ 2) ∧ (∀ i, 0 ≤ fM i ∧ fM i ≤ 20) ∧ (∀ i, 0 ≤ fB i ∧ fB i ≤ 65535) ∧ (∀ i, fS i = 2 → 1 ≤ fM i) ∧ okT fT ∧ okC fX ∧ okC fY
def BY (nb : Int) (fb : Int → Int) (sz1 : Int) (fR : Int → Int) : Prop := sz1 = nb ∧ (0 ≤ nb ∧ nb ≤ 300) ∧ agN nb fb fR ∧ okB fb ∧ okB fR
def RD (rt rx ry kt kx ky : Int → Int) : Prop := (okT rt ∧ okC rx ∧ okC ry) ∧ okT kt ∧ okC kx ∧ okC ky
def SP (m1 : Int) (bF bS eF eS : Int → Int) (fo : Int) (fF fG fU fV : Int → Int) : Prop := RS (m1, bF, bS, eF, eS) (fo, fF, fG, fU, fV) ∧ okSp (m1, bF, bS, eF, eS) ∧ okM (fo, fF, fG, fU, fV)
def IX (ia ib ic ie : Int) (tr : Nat → Option Nat) (tA tB tC tE : Nat) : Prop := (trk ia ∧ trk ib ∧ trk ic ∧ trk ie) ∧ (ib ≠ ia ∧ ic ≠ ia ∧ ie ≠ ia ∧ ic ≠ ib ∧ ie ≠ ib ∧ ie ≠ ic) ∧ tr ia.toNat = some tA ∧ tr ib.toNat = some tB ∧ tr ic.toNat = some tC ∧ tr ie.toNat = some tE
def Oth (ia : Int) (fS fM fB fT fX fY gS gM gB gT gX gY : Int → Int) : Prop := ∀ i sg bd n ft fx fy, i ≠ ia → TK i sg bd n ft fx fy fS fM fB fT fX fY → TK i sg bd n ft fx fy gS gM gB gT gX gY
theorem Oth_mk {a : Int} {fS fM fB fT fX fY gS gM gB gT gX gY : Int → Int} (hM : ∀ i, 0 ≤ fM i ∧ fM i ≤ 20) (e1 : ∀ i, i ≠ a → gS i = fS i) (e2 : ∀ i, i ≠ a → gM i = fM i) (e3 : ∀ i, i ≠ a → gB i = fB i) (e4 : ∀ q, (q < 20 * a ∨ 20 * a + 20 ≤ q) → gT q = fT q ∧ gX q = fX q ∧ gY q = fY q) : Oth a fS fM fB fT fX fY gS gM gB gT gX gY := by
  intro i sg bd n ft fx fy hne h
  obtain ⟨h1, h2, h3, h4, h5, h6, h7, h8⟩ := h
  have hm := hM i
  refine ⟨by rw [e1 i hne]; exact h1, by rw [e2 i hne]; exact h2, fun q => by rw [e3 i hne]; exact h3 q, h4, h5, h6, h7, fun j a1 a2 => ?_⟩
  obtain ⟨g1, g2, g3⟩ := e4 (20 * i + j) (by omega)
  rw [g1, g2, g3]
  exact h8 j a1 a2
theorem Oth_rf {a : Int} {fS fM fB fT fX fY : Int → Int} : Oth a fS fM fB fT fX fY fS fM fB fT fX fY := fun _ _ _ _ _ _ _ _ h => h
theorem inc_all {ia ib ic ie : Int} {tr : Nat → Option Nat} {tA tB tC tE : Nat} {fS fM fB fT fX fY ft fx fy ft2 fx2 fy2 ft3 fx3 fy3 ft4 fx4 fy4 : Int → Int} {sg bd n sg2 bd2 n2 sg3 bd3 n3 sg4 bd4 n4 : Int} (hIX : IX ia ib ic ie tr tA tB tC tE) (hA : TK ia sg bd n ft fx fy fS fM fB fT fX fY) (hB : TK ib sg2 bd2 n2 ft2 fx2 fy2 fS fM fB fT fX fY) (hC : TK ic sg3 bd3 n3 ft3 fx3 fy3 fS fM fB fT fX fY) (hE : TK ie sg4 bd4 n4 ft4 fx4 fy4 fS fM fB fT fX fY) : ∀ i, 0 ≤ i → i < 4 → fS i = 2 → incP (fM i) (sh fT (20 * i)) := by
  have key : ∀ i sg bd n ft fx fy, TK i sg bd n ft fx fy fS fM fB fT fX fY → incP (fM i) (sh fT (20 * i)) := fun i sg bd n ft fx fy h => by
    rw [h.2.1]
    exact incP_c h.2.2.2.2.2.1 (fun j a b => (h.2.2.2.2.2.2.2 j a b).1)
  intro i h0 h1 _
  obtain ⟨⟨a1, a2, a3, a4⟩, ⟨b1, b2, b3, b4, b5, b6⟩, -⟩ := hIX
  obtain rfl | rfl | rfl | rfl : i = ia ∨ i = ib ∨ i = ic ∨ i = ie := by omega
  · exact key _ _ _ _ _ _ _ hA
  · exact key _ _ _ _ _ _ _ hB
  · exact key _ _ _ _ _ _ _ hC
  · exact key _ _ _ _ _ _ _ hE
theorem nOS : (nIO = nIS) = False := eq_false (by decide)
theorem nOA : (nIO = nIA) = False := eq_false (by decide)
theorem nSO : (nIS = nIO) = False := eq_false (by decide)
theorem nSA : (nIS = nIA) = False := eq_false (by decide)
theorem nAO : (nIA = nIO) = False := eq_false (by decide)
theorem nAS : (nIA = nIS) = False := eq_false (by decide)
theorem TK_r {i sg bd n : Int} {ft fx fy fS fM fB fT fX fY : Int → Int} (hR : RG fS fM fB fT fX fY) (h : TK i sg bd n ft fx fy fS fM fB fT fX fY) : (0 ≤ sg ∧ sg ≤ 2) ∧ (0 ≤ n ∧ n ≤ 20) ∧ (-1 ≤ bd ∧ bd ≤ 65535) := by
  obtain ⟨h1, h2, h3, h4, -⟩ := h
  have a := hR.1 i
  have b := hR.2.1 i
  have c := hR.2.2.1 i
  rw [h1] at a
  rw [h2] at b
  refine ⟨a, b, ?_⟩
  rcases Classical.em (sg = 2) with q | q
  · rw [(h3 q).1]; omega
  · rw [h4 q]; decide
theorem uZ_nn {f : Int → Int} {k v : Int} : ∀ i, i ≠ k → uZ f k v i = f i := fun i h => uZ_n f h
theorem uZ_all {f : Int → Int} {k v lo hi : Int} (h : ∀ i, lo ≤ f i ∧ f i ≤ hi) (hv : lo ≤ v ∧ v ≤ hi) : ∀ i, lo ≤ uZ f k v i ∧ uZ f k v i ≤ hi := fun i => by
  unfold uZ
  split
  · exact hv
  · exact h i
theorem uZ_2 {fS fM : Int → Int} {k s n : Int} (h : ∀ i, fS i = 2 → 1 ≤ fM i) (hv : s = 2 → 1 ≤ n) : ∀ i, uZ fS k s i = 2 → 1 ≤ uZ fM k n i := fun i q => by
  unfold uZ at q ⊢
  split
  · rename_i w; rw [if_pos w] at q; exact hv q
  · rename_i w; rw [if_neg w] at q; exact h i q
theorem uZ_3 {fS fM : Int → Int} {k n : Int} (h : ∀ i, fS i = 2 → 1 ≤ fM i) (hv : 1 ≤ n) : ∀ i, fS i = 2 → 1 ≤ uZ fM k n i := fun i q => by
  unfold uZ
  split
  · exact hv
  · exact h i q
theorem t_open_x {k ia a sg bd n th2m : Int} {ft fx fy fS fM fB fT fX fY gSm gMm : Int → Int} (hF : trk a → a = ia) (hT : TK ia sg bd n ft fx fy fS fM fB fT fX fY) (hk : ((k = 1 ∧ ((nIO = nIO ∧ ¬ (0 ≤ a ∧ a < 4)) ∨ (nIO = nIS ∧ (0 ≤ a ∧ a < 4) ∧ sg ≠ 0))) ∨ (k = 2 ∧ ((nIS = nIO ∧ ¬ (0 ≤ a ∧ a < 4)) ∨ (nIS = nIS ∧ (0 ≤ a ∧ a < 4) ∧ sg ≠ 0))) ∨ (k = 3 ∧ ((nIA = nIO ∧ ¬ (0 ≤ a ∧ a < 4)) ∨ (nIA = nIS ∧ (0 ≤ a ∧ a < 4) ∧ sg ≠ 0))))) (hw : (¬ (0 ≤ a ∧ a < 4) → th2m = 1 ∧ gSm = fS ∧ gMm = fM) ∧ ((0 ≤ a ∧ a < 4) → fS a ≠ 0 → th2m = 2 ∧ gSm = fS ∧ gMm = fM) ∧ ((0 ≤ a ∧ a < 4) → fS a = 0 → th2m = 0 ∧ gSm = uZ fS a 1 ∧ gMm = uZ fM a 0)) : th2m = k ∧ gSm = fS ∧ gMm = fM := by
  have eS : trk a → fS a = sg := fun w => by rw [hF w]; exact hT.1
  have eM : trk a → fM a = n := fun w => by rw [hF w]; exact hT.2.1
  obtain ⟨p1, p2, p3⟩ := hw
  rcases hk with ⟨rfl, h⟩ | ⟨rfl, h⟩ | ⟨rfl, h⟩
  · simp only [nOS, nOA, nSO, nSA, nAO, nAS, eq_self, true_and, false_and, or_false, false_or] at h
    exact p1 h
  · simp only [nOS, nOA, nSO, nSA, nAO, nAS, eq_self, true_and, false_and, or_false, false_or] at h
    exact p2 h.1 (by rw [eS h.1]; exact h.2)
  · simp only [nOS, nOA, nSO, nSA, nAO, nAS, eq_self, true_and, false_and, or_false, false_or] at h
theorem t_open_r {ia a sg bd n th2m : Int} {ft fx fy fS fM fB fT fX fY gSm gMm : Int → Int} (hF : trk a → a = ia) (hT : TK ia sg bd n ft fx fy fS fM fB fT fX fY) (hR : RG fS fM fB fT fX fY) (hc : (0 ≤ a ∧ a < 4) ∧ sg = 0) (hw : (¬ (0 ≤ a ∧ a < 4) → th2m = 1 ∧ gSm = fS ∧ gMm = fM) ∧ ((0 ≤ a ∧ a < 4) → fS a ≠ 0 → th2m = 2 ∧ gSm = fS ∧ gMm = fM) ∧ ((0 ≤ a ∧ a < 4) → fS a = 0 → th2m = 0 ∧ gSm = uZ fS a 1 ∧ gMm = uZ fM a 0)) : th2m = 0 ∧ TK ia 1 bd n ft fx fy gSm gMm fB fT fX fY ∧ RG gSm gMm fB fT fX fY ∧ Oth ia fS fM fB fT fX fY gSm gMm fB fT fX fY := by
  obtain ⟨htk, hs⟩ := hc
  obtain rfl := hF htk
  obtain ⟨h1, h2, h3, h4, h5, h6, h7, h8⟩ := hT
  obtain ⟨r1, r2, r3, r4, r5, r6, r7⟩ := hR
  obtain ⟨e0, rfl, rfl⟩ := hw.2.2 htk (by rw [h1]; exact hs)
  have n0 := h5 hs
  have b0 := h4 (by omega)
  subst n0; subst b0
  refine ⟨e0, ⟨uZ_s .., by rw [uZ_s], fun q => absurd q (by decide), fun _ => rfl, fun _ => rfl, h6, h7, h8⟩, ⟨uZ_all r1 (by decide), uZ_all r2 (by decide), r3, uZ_2 r4 (fun q => absurd q (by decide)), r5, r6, r7⟩, Oth_mk r2 uZ_nn uZ_nn (fun _ _ => rfl) (fun _ _ => ⟨rfl, rfl, rfl⟩)⟩
theorem t_add_x {k ia a t x y sg bd n zb th2m : Int} {ft fx fy fS fM fB fT fX fY gMm gTm gXm gYm : Int → Int} (hF : trk a → a = ia) (hT : TK ia sg bd n ft fx fy fS fM fB fT fX fY) (hR : RG fS fM fB fT fX fY) (hk : ((k = 1 ∧ ((nIO = nIO ∧ ¬ (0 ≤ a ∧ a < 4)) ∨ (nIO = nIS ∧ (0 ≤ a ∧ a < 4) ∧ sg ≠ 1) ∨ (nIO = nIS ∧ (0 ≤ a ∧ a < 4) ∧ sg = 1 ∧ n = 20) ∨ (nIO = nIA ∧ (0 ≤ a ∧ a < 4) ∧ sg = 1 ∧ n ≠ 20 ∧ ¬ (0 ≤ t ∧ (n = 0 ∨ ft (n - 1) < t) ∧ (-8388608 ≤ x ∧ x ≤ 8388608) ∧ -8388608 ≤ y ∧ y ≤ 8388608)))) ∨ (k = 2 ∧ ((nIS = nIO ∧ ¬ (0 ≤ a ∧ a < 4)) ∨ (nIS = nIS ∧ (0 ≤ a ∧ a < 4) ∧ sg ≠ 1) ∨ (nIS = nIS ∧ (0 ≤ a ∧ a < 4) ∧ sg = 1 ∧ n = 20) ∨ (nIS = nIA ∧ (0 ≤ a ∧ a < 4) ∧ sg = 1 ∧ n ≠ 20 ∧ ¬ (0 ≤ t ∧ (n = 0 ∨ ft (n - 1) < t) ∧ (-8388608 ≤ x ∧ x ≤ 8388608) ∧ -8388608 ≤ y ∧ y ≤ 8388608)))) ∨ (k = 3 ∧ ((nIA = nIO ∧ ¬ (0 ≤ a ∧ a < 4)) ∨ (nIA = nIS ∧ (0 ≤ a ∧ a < 4) ∧ sg ≠ 1) ∨ (nIA = nIS ∧ (0 ≤ a ∧ a < 4) ∧ sg = 1 ∧ n = 20) ∨ (nIA = nIA ∧ (0 ≤ a ∧ a < 4) ∧ sg = 1 ∧ n ≠ 20 ∧ ¬ (0 ≤ t ∧ (n = 0 ∨ ft (n - 1) < t) ∧ (-8388608 ≤ x ∧ x ≤ 8388608) ∧ -8388608 ≤ y ∧ y ≤ 8388608)))))) (hw : (¬ (0 ≤ a ∧ a < 4) → th2m = 1 ∧ gMm = fM ∧ gTm = fT ∧ gXm = fX ∧ gYm = fY) ∧ ((0 ≤ a ∧ a < 4) → fS a ≠ 1 → th2m = 2 ∧ gMm = fM ∧ gTm = fT ∧ gXm = fX ∧ gYm = fY) ∧ ((0 ≤ a ∧ a < 4) → fS a = 1 → fM a = 20 → th2m = 2 ∧ gMm = fM ∧ gTm = fT ∧ gXm = fX ∧ gYm = fY) ∧ ((0 ≤ a ∧ a < 4) → fS a = 1 → fM a ≠ 20 → ¬ (0 ≤ t ∧ (fM a = 0 ∨ fT (20 * a + (fM a - 1)) < t) ∧ (-8388608 ≤ x ∧ x ≤ 8388608) ∧ -8388608 ≤ y ∧ y ≤ 8388608) → th2m = 3 ∧ gMm = fM ∧ gTm = fT ∧ gXm = fX ∧ gYm = fY) ∧ ((0 ≤ a ∧ a < 4) → fS a = 1 → fM a ≠ 20 → (0 ≤ t ∧ (fM a = 0 ∨ fT (20 * a + (fM a - 1)) < t) ∧ (-8388608 ≤ x ∧ x ≤ 8388608) ∧ -8388608 ≤ y ∧ y ≤ 8388608) → th2m = 0 ∧ zb = fM a + 1 ∧ gMm = uZ fM a (fM a + 1) ∧ gTm = uZ fT (20 * a + fM a) t ∧ gXm = uZ fX (20 * a + fM a) x ∧ gYm = uZ fY (20 * a + fM a) y)) : th2m = k ∧ gMm = fM ∧ gTm = fT ∧ gXm = fX ∧ gYm = fY := by
  have eS : trk a → fS a = sg := fun w => by rw [hF w]; exact hT.1
  have eM : trk a → fM a = n := fun w => by rw [hF w]; exact hT.2.1
  have rr := TK_r hR hT
  have eL : trk a → 0 ≤ n → ((n = 0 ∨ ft (n - 1) < t) ↔ (fM a = 0 ∨ fT (20 * a + (fM a - 1)) < t)) := fun w h0 => by
    rw [eM w, hF w]
    rcases Classical.em (n = 0) with q | q
    · simp [q]
    · rw [(hT.2.2.2.2.2.2.2 (n - 1) (by omega) (by omega)).1]
  obtain ⟨p1, p2, p3, p4, p5⟩ := hw
  rcases hk with ⟨rfl, h⟩ | ⟨rfl, h⟩ | ⟨rfl, h⟩
  · simp only [nOS, nOA, nSO, nSA, nAO, nAS, eq_self, true_and, false_and, or_false, false_or] at h
    exact p1 h
  · simp only [nOS, nOA, nSO, nSA, nAO, nAS, eq_self, true_and, false_and, or_false, false_or] at h
    rcases h with ⟨g1, g2⟩ | ⟨g1, g2, g3⟩
    · exact p2 g1 (by rw [eS g1]; exact g2)
    · exact p3 g1 (by rw [eS g1]; exact g2) (by rw [eM g1]; exact g3)
  · simp only [nOS, nOA, nSO, nSA, nAO, nAS, eq_self, true_and, false_and, or_false, false_or] at h
    obtain ⟨g1, g2, g3, g4⟩ := h
    exact p4 g1 (by rw [eS g1]; exact g2) (by rw [eM g1]; exact g3) (by rw [← eL g1 rr.2.1.1]; exact g4)
theorem t_add_r {ia a t x y sg bd n zc zb th2m : Int} {ft fx fy fS fM fB fT fX fY gMm gTm gXm gYm : Int → Int} (hF : trk a → a = ia) (hT : TK ia sg bd n ft fx fy fS fM fB fT fX fY) (hR : RG fS fM fB fT fX fY) (hta : rI t) (hc : zc = n + 1 ∧ ((0 ≤ a ∧ a < 4) ∧ sg = 1) ∧ n ≠ 20 ∧ (0 ≤ t ∧ (n = 0 ∨ ft (n - 1) < t) ∧ (-8388608 ≤ x ∧ x ≤ 8388608) ∧ -8388608 ≤ y ∧ y ≤ 8388608)) (hw : (¬ (0 ≤ a ∧ a < 4) → th2m = 1 ∧ gMm = fM ∧ gTm = fT ∧ gXm = fX ∧ gYm = fY) ∧ ((0 ≤ a ∧ a < 4) → fS a ≠ 1 → th2m = 2 ∧ gMm = fM ∧ gTm = fT ∧ gXm = fX ∧ gYm = fY) ∧ ((0 ≤ a ∧ a < 4) → fS a = 1 → fM a = 20 → th2m = 2 ∧ gMm = fM ∧ gTm = fT ∧ gXm = fX ∧ gYm = fY) ∧ ((0 ≤ a ∧ a < 4) → fS a = 1 → fM a ≠ 20 → ¬ (0 ≤ t ∧ (fM a = 0 ∨ fT (20 * a + (fM a - 1)) < t) ∧ (-8388608 ≤ x ∧ x ≤ 8388608) ∧ -8388608 ≤ y ∧ y ≤ 8388608) → th2m = 3 ∧ gMm = fM ∧ gTm = fT ∧ gXm = fX ∧ gYm = fY) ∧ ((0 ≤ a ∧ a < 4) → fS a = 1 → fM a ≠ 20 → (0 ≤ t ∧ (fM a = 0 ∨ fT (20 * a + (fM a - 1)) < t) ∧ (-8388608 ≤ x ∧ x ≤ 8388608) ∧ -8388608 ≤ y ∧ y ≤ 8388608) → th2m = 0 ∧ zb = fM a + 1 ∧ gMm = uZ fM a (fM a + 1) ∧ gTm = uZ fT (20 * a + fM a) t ∧ gXm = uZ fX (20 * a + fM a) x ∧ gYm = uZ fY (20 * a + fM a) y)) : th2m = 0 ∧ zb = zc ∧ TK ia sg bd (n + 1) (uZ ft n t) (uZ fx n x) (uZ fy n y) fS gMm fB gTm gXm gYm ∧ RG fS gMm fB gTm gXm gYm ∧ Oth ia fS fM fB fT fX fY fS gMm fB gTm gXm gYm := by
  have eS : trk a → fS a = sg := fun w => by rw [hF w]; exact hT.1
  have eM : trk a → fM a = n := fun w => by rw [hF w]; exact hT.2.1
  have rr := TK_r hR hT
  have eL : trk a → 0 ≤ n → ((n = 0 ∨ ft (n - 1) < t) ↔ (fM a = 0 ∨ fT (20 * a + (fM a - 1)) < t)) := fun w h0 => by
    rw [eM w, hF w]
    rcases Classical.em (n = 0) with q | q
    · simp [q]
    · rw [(hT.2.2.2.2.2.2.2 (n - 1) (by omega) (by omega)).1]
  obtain ⟨hz, ⟨htk, hs⟩, hn, hok⟩ := hc
  have el := eL htk rr.2.1.1
  have eM' := eM htk
  have eS' := eS htk
  obtain rfl := hF htk
  obtain ⟨h1, h2, h3, h4, h5, h6, h7, h8⟩ := hT
  obtain ⟨r1, r2, r3, r4, r5, r6, r7⟩ := hR
  obtain ⟨e0, ez, rfl, rfl, rfl, rfl⟩ := hw.2.2.2.2 htk (by rw [eS']; exact hs) (by rw [eM']; exact hn) (by rw [← el]; exact hok)
  obtain ⟨k1, k2, k3, k4⟩ := hok
  rw [eM'] at ez ⊢
  refine ⟨e0, by rw [ez, hz], ⟨h1, by rw [uZ_s], fun q => by omega, h4, fun q => by omega, ?_, ⟨okT_u h7.1 k1 hta.2, okC_u h7.2.1 k3.1 k3.2, okC_u h7.2.2 k4.1 k4.2⟩, fun j a1 a2 => ?_⟩, ⟨r1, uZ_all r2 (by omega), r3, uZ_3 r4 (by omega), okT_u r5 k1 hta.2, okC_u r6 k3.1 k3.2, okC_u r7 k4.1 k4.2⟩, Oth_mk r2 (fun _ _ => rfl) uZ_nn (fun _ _ => rfl) (fun q w => ⟨uZ_n _ (by omega), uZ_n _ (by omega), uZ_n _ (by omega)⟩)⟩
  · exact incP_u h6 (fun q => by rcases k2 with w | w; (exfalso; omega); exact w)
  · rcases Classical.em (j = n) with q | q
    · subst q; simp only [uZ_s, and_self]
    · rw [uZ_n _ q, uZ_n _ q, uZ_n _ q, uZ_n _ (by omega), uZ_n _ (by omega), uZ_n _ (by omega)]
      exact h8 j a1 (by omega)
theorem t_seal_x {k ia a e1 sg bd n zb th2m : Int} {ft fx fy fS fM fB fT fX fY fL gSm gMm gBm gTm gXm gYm gLm kpm : Int → Int} (hF : trk a → a = ia) (hT : TK ia sg bd n ft fx fy fS fM fB fT fX fY) (hR : RG fS fM fB fT fX fY) (hk : ((k = 1 ∧ ((nIO = nIO ∧ ¬ (0 ≤ a ∧ a < 4)) ∨ (nIO = nIS ∧ (0 ≤ a ∧ a < 4) ∧ sg ≠ 1) ∨ (nIO = nIS ∧ (0 ≤ a ∧ a < 4) ∧ sg = 1 ∧ n = 0) ∨ (nIO = nIA ∧ (0 ≤ a ∧ a < 4) ∧ sg = 1 ∧ n ≠ 0 ∧ ¬ (0 ≤ e1 ∧ e1 ≤ 65535)))) ∨ (k = 2 ∧ ((nIS = nIO ∧ ¬ (0 ≤ a ∧ a < 4)) ∨ (nIS = nIS ∧ (0 ≤ a ∧ a < 4) ∧ sg ≠ 1) ∨ (nIS = nIS ∧ (0 ≤ a ∧ a < 4) ∧ sg = 1 ∧ n = 0) ∨ (nIS = nIA ∧ (0 ≤ a ∧ a < 4) ∧ sg = 1 ∧ n ≠ 0 ∧ ¬ (0 ≤ e1 ∧ e1 ≤ 65535)))) ∨ (k = 3 ∧ ((nIA = nIO ∧ ¬ (0 ≤ a ∧ a < 4)) ∨ (nIA = nIS ∧ (0 ≤ a ∧ a < 4) ∧ sg ≠ 1) ∨ (nIA = nIS ∧ (0 ≤ a ∧ a < 4) ∧ sg = 1 ∧ n = 0) ∨ (nIA = nIA ∧ (0 ≤ a ∧ a < 4) ∧ sg = 1 ∧ n ≠ 0 ∧ ¬ (0 ≤ e1 ∧ e1 ≤ 65535)))))) (hw : (¬ (0 ≤ a ∧ a < 4) → th2m = 1 ∧ gSm = fS ∧ gMm = fM ∧ gBm = fB ∧ gTm = fT ∧ gXm = fX ∧ gYm = fY ∧ gLm = fL) ∧ ((0 ≤ a ∧ a < 4) → fS a ≠ 1 → th2m = 2 ∧ gSm = fS ∧ gMm = fM ∧ gBm = fB ∧ gTm = fT ∧ gXm = fX ∧ gYm = fY ∧ gLm = fL) ∧ ((0 ≤ a ∧ a < 4) → fS a = 1 → fM a = 0 → th2m = 2 ∧ gSm = fS ∧ gMm = fM ∧ gBm = fB ∧ gTm = fT ∧ gXm = fX ∧ gYm = fY ∧ gLm = fL) ∧ ((0 ≤ a ∧ a < 4) → fS a = 1 → fM a ≠ 0 → ¬ (0 ≤ e1 ∧ e1 ≤ 65535) → th2m = 3 ∧ gSm = fS ∧ gMm = fM ∧ gBm = fB ∧ gTm = fT ∧ gXm = fX ∧ gYm = fY ∧ gLm = fL) ∧ ((0 ≤ a ∧ a < 4) → fS a = 1 → fM a ≠ 0 → (0 ≤ e1 ∧ e1 ≤ 65535) → th2m = 0 ∧ mthP (fM a) (20 * a) e1 fT fX fY (gLm) zb (kpm) (gTm) (gXm) (gYm) ∧ gMm = uZ fM a zb ∧ gSm = uZ fS a 2 ∧ gBm = uZ fB a e1)) : th2m = k ∧ gSm = fS ∧ gMm = fM ∧ gBm = fB ∧ gTm = fT ∧ gXm = fX ∧ gYm = fY ∧ gLm = fL := by
  have eS : trk a → fS a = sg := fun w => by rw [hF w]; exact hT.1
  have eM : trk a → fM a = n := fun w => by rw [hF w]; exact hT.2.1
  have rr := TK_r hR hT
  obtain ⟨p1, p2, p3, p4, p5⟩ := hw
  rcases hk with ⟨rfl, h⟩ | ⟨rfl, h⟩ | ⟨rfl, h⟩
  · simp only [nOS, nOA, nSO, nSA, nAO, nAS, eq_self, true_and, false_and, or_false, false_or] at h
    exact p1 h
  · simp only [nOS, nOA, nSO, nSA, nAO, nAS, eq_self, true_and, false_and, or_false, false_or] at h
    rcases h with ⟨g1, g2⟩ | ⟨g1, g2, g3⟩
    · exact p2 g1 (by rw [eS g1]; exact g2)
    · exact p3 g1 (by rw [eS g1]; exact g2) (by rw [eM g1]; exact g3)
  · simp only [nOS, nOA, nSO, nSA, nAO, nAS, eq_self, true_and, false_and, or_false, false_or] at h
    obtain ⟨g1, g2, g3, g4⟩ := h
    exact p4 g1 (by rw [eS g1]; exact g2) (by rw [eM g1]; exact g3) g4
theorem t_seal_r {ia a e1 i sg bd n kc zc zb th2m : Int} {ft fx fy fS fM fB fT fX fY fL gsc kpc gtc gxc gyc gSm gMm gBm gTm gXm gYm gLm kpm : Int → Int} (hF : trk a → a = ia) (hT : TK ia sg bd n ft fx fy fS fM fB fT fX fY) (hR : RG fS fM fB fT fX fY) (hc : zc = kc ∧ ((0 ≤ a ∧ a < 4) ∧ sg = 1) ∧ n ≠ 0 ∧ (0 ≤ e1 ∧ e1 ≤ 65535) ∧ ((∀ i, 0 ≤ i → i < n → swP n (stepP ft fx fy e1) (gsc) i) ∧ keptP n (stepP ft fx fy e1) (gsc) (kc) (kpc) ∧ (okT (gtc) ∧ okC (gxc) ∧ okC (gyc)) ∧ ∀ j, 0 ≤ j → j < kc → (gtc) j = ft ((kpc) j) ∧ (gxc) j = fx ((kpc) j) ∧ (gyc) j = fy ((kpc) j))) (hw : (¬ (0 ≤ a ∧ a < 4) → th2m = 1 ∧ gSm = fS ∧ gMm = fM ∧ gBm = fB ∧ gTm = fT ∧ gXm = fX ∧ gYm = fY ∧ gLm = fL) ∧ ((0 ≤ a ∧ a < 4) → fS a ≠ 1 → th2m = 2 ∧ gSm = fS ∧ gMm = fM ∧ gBm = fB ∧ gTm = fT ∧ gXm = fX ∧ gYm = fY ∧ gLm = fL) ∧ ((0 ≤ a ∧ a < 4) → fS a = 1 → fM a = 0 → th2m = 2 ∧ gSm = fS ∧ gMm = fM ∧ gBm = fB ∧ gTm = fT ∧ gXm = fX ∧ gYm = fY ∧ gLm = fL) ∧ ((0 ≤ a ∧ a < 4) → fS a = 1 → fM a ≠ 0 → ¬ (0 ≤ e1 ∧ e1 ≤ 65535) → th2m = 3 ∧ gSm = fS ∧ gMm = fM ∧ gBm = fB ∧ gTm = fT ∧ gXm = fX ∧ gYm = fY ∧ gLm = fL) ∧ ((0 ≤ a ∧ a < 4) → fS a = 1 → fM a ≠ 0 → (0 ≤ e1 ∧ e1 ≤ 65535) → th2m = 0 ∧ mthP (fM a) (20 * a) e1 fT fX fY (gLm) zb (kpm) (gTm) (gXm) (gYm) ∧ gMm = uZ fM a zb ∧ gSm = uZ fS a 2 ∧ gBm = uZ fB a e1)) : th2m = 0 ∧ zb = zc ∧ TK ia 2 e1 kc gtc gxc gyc gSm gMm gBm gTm gXm gYm ∧ RG gSm gMm gBm gTm gXm gYm ∧ Oth ia fS fM fB fT fX fY gSm gMm gBm gTm gXm gYm := by
  have eS : trk a → fS a = sg := fun w => by rw [hF w]; exact hT.1
  have eM : trk a → fM a = n := fun w => by rw [hF w]; exact hT.2.1
  have rr := TK_r hR hT
  obtain ⟨hz, ⟨htk, hs⟩, hn, hok, c1, c2, c3, c4⟩ := hc
  have eM' := eM htk
  have eS' := eS htk
  obtain rfl := hF htk
  obtain ⟨h1, h2, h3, h4, h5, h6, h7, h8⟩ := hT
  obtain ⟨r1, r2, r3, r4, r5, r6, r7⟩ := hR
  obtain ⟨e0, em, rfl, rfl, rfl⟩ := hw.2.2.2.2 htk (by rw [eS']; exact hs) (by rw [eM']; exact hn) hok
  rw [eM'] at em
  obtain ⟨t1, t2, t3, t4⟩ := tie_thin (b := 20 * a) (by omega) h8 h6 c1 c2 c4 em
  have m4 := em.2.2.2.1
  have m6 := em.2.2.2.2.2
  refine ⟨e0, by rw [t2, hz], ⟨uZ_s .., by rw [uZ_s, t2], fun _ => ⟨by rw [uZ_s], t1.1⟩, fun q => absurd rfl q, fun q => absurd q (by decide), t3, c3, t4⟩, ⟨uZ_all r1 (by decide), uZ_all r2 (by omega), uZ_all r3 hok, uZ_2 r4 (fun _ => by omega), m4⟩, Oth_mk r2 uZ_nn uZ_nn uZ_nn m6⟩
theorem t_again_x {k ia a e1 sg bd n zb th2m : Int} {ft fx fy fS fM fB fT fX fY fL gSm gMm gBm gTm gXm gYm gLm kpm : Int → Int} (hF : trk a → a = ia) (hT : TK ia sg bd n ft fx fy fS fM fB fT fX fY) (hR : RG fS fM fB fT fX fY) (hk : ((k = 1 ∧ ((nIO = nIO ∧ ¬ (0 ≤ a ∧ a < 4)) ∨ (nIO = nIS ∧ (0 ≤ a ∧ a < 4) ∧ sg ≠ 2) ∨ (nIO = nIA ∧ (0 ≤ a ∧ a < 4) ∧ sg = 2 ∧ ¬ (0 ≤ e1 ∧ e1 ≤ 65535 - bd)))) ∨ (k = 2 ∧ ((nIS = nIO ∧ ¬ (0 ≤ a ∧ a < 4)) ∨ (nIS = nIS ∧ (0 ≤ a ∧ a < 4) ∧ sg ≠ 2) ∨ (nIS = nIA ∧ (0 ≤ a ∧ a < 4) ∧ sg = 2 ∧ ¬ (0 ≤ e1 ∧ e1 ≤ 65535 - bd)))) ∨ (k = 3 ∧ ((nIA = nIO ∧ ¬ (0 ≤ a ∧ a < 4)) ∨ (nIA = nIS ∧ (0 ≤ a ∧ a < 4) ∧ sg ≠ 2) ∨ (nIA = nIA ∧ (0 ≤ a ∧ a < 4) ∧ sg = 2 ∧ ¬ (0 ≤ e1 ∧ e1 ≤ 65535 - bd)))))) (hw : (¬ (0 ≤ a ∧ a < 4) → th2m = 1 ∧ gSm = fS ∧ gMm = fM ∧ gBm = fB ∧ gTm = fT ∧ gXm = fX ∧ gYm = fY ∧ gLm = fL) ∧ ((0 ≤ a ∧ a < 4) → fS a ≠ 2 → th2m = 2 ∧ gSm = fS ∧ gMm = fM ∧ gBm = fB ∧ gTm = fT ∧ gXm = fX ∧ gYm = fY ∧ gLm = fL) ∧ ((0 ≤ a ∧ a < 4) → fS a = 2 → ¬ (0 ≤ e1 ∧ e1 ≤ 65535 - fB a) → th2m = 3 ∧ gSm = fS ∧ gMm = fM ∧ gBm = fB ∧ gTm = fT ∧ gXm = fX ∧ gYm = fY ∧ gLm = fL) ∧ ((0 ≤ a ∧ a < 4) → fS a = 2 → (0 ≤ e1 ∧ e1 ≤ 65535 - fB a) → th2m = 0 ∧ mthP (fM a) (20 * a) e1 fT fX fY (gLm) zb (kpm) (gTm) (gXm) (gYm) ∧ gMm = uZ fM a zb ∧ gSm = fS ∧ gBm = uZ fB a (fB a + e1))) : th2m = k ∧ gSm = fS ∧ gMm = fM ∧ gBm = fB ∧ gTm = fT ∧ gXm = fX ∧ gYm = fY ∧ gLm = fL := by
  have eS : trk a → fS a = sg := fun w => by rw [hF w]; exact hT.1
  have eM : trk a → fM a = n := fun w => by rw [hF w]; exact hT.2.1
  have rr := TK_r hR hT
  obtain ⟨p1, p2, p3, p4⟩ := hw
  rcases hk with ⟨rfl, h⟩ | ⟨rfl, h⟩ | ⟨rfl, h⟩
  · simp only [nOS, nOA, nSO, nSA, nAO, nAS, eq_self, true_and, false_and, or_false, false_or] at h
    exact p1 h
  · simp only [nOS, nOA, nSO, nSA, nAO, nAS, eq_self, true_and, false_and, or_false, false_or] at h
    exact p2 h.1 (by rw [eS h.1]; exact h.2)
  · simp only [nOS, nOA, nSO, nSA, nAO, nAS, eq_self, true_and, false_and, or_false, false_or] at h
    obtain ⟨g1, g2, g3⟩ := h
    exact p3 g1 (by rw [eS g1]; exact g2) (by rw [hF g1, ← (hT.2.2.1 g2).1]; exact g3)
theorem t_again_r {ia a e1 i sg bd n kc zc zb th2m : Int} {ft fx fy fS fM fB fT fX fY fL gsc kpc gtc gxc gyc gSm gMm gBm gTm gXm gYm gLm kpm : Int → Int} (hF : trk a → a = ia) (hT : TK ia sg bd n ft fx fy fS fM fB fT fX fY) (hR : RG fS fM fB fT fX fY) (hc : zc = kc ∧ ((0 ≤ a ∧ a < 4) ∧ sg = 2) ∧ (0 ≤ e1 ∧ e1 ≤ 65535 - bd) ∧ ((∀ i, 0 ≤ i → i < n → swP n (stepP ft fx fy e1) (gsc) i) ∧ keptP n (stepP ft fx fy e1) (gsc) (kc) (kpc) ∧ (okT (gtc) ∧ okC (gxc) ∧ okC (gyc)) ∧ ∀ j, 0 ≤ j → j < kc → (gtc) j = ft ((kpc) j) ∧ (gxc) j = fx ((kpc) j) ∧ (gyc) j = fy ((kpc) j))) (hw : (¬ (0 ≤ a ∧ a < 4) → th2m = 1 ∧ gSm = fS ∧ gMm = fM ∧ gBm = fB ∧ gTm = fT ∧ gXm = fX ∧ gYm = fY ∧ gLm = fL) ∧ ((0 ≤ a ∧ a < 4) → fS a ≠ 2 → th2m = 2 ∧ gSm = fS ∧ gMm = fM ∧ gBm = fB ∧ gTm = fT ∧ gXm = fX ∧ gYm = fY ∧ gLm = fL) ∧ ((0 ≤ a ∧ a < 4) → fS a = 2 → ¬ (0 ≤ e1 ∧ e1 ≤ 65535 - fB a) → th2m = 3 ∧ gSm = fS ∧ gMm = fM ∧ gBm = fB ∧ gTm = fT ∧ gXm = fX ∧ gYm = fY ∧ gLm = fL) ∧ ((0 ≤ a ∧ a < 4) → fS a = 2 → (0 ≤ e1 ∧ e1 ≤ 65535 - fB a) → th2m = 0 ∧ mthP (fM a) (20 * a) e1 fT fX fY (gLm) zb (kpm) (gTm) (gXm) (gYm) ∧ gMm = uZ fM a zb ∧ gSm = fS ∧ gBm = uZ fB a (fB a + e1))) : th2m = 0 ∧ zb = zc ∧ TK ia sg (bd + e1) kc gtc gxc gyc gSm gMm gBm gTm gXm gYm ∧ RG gSm gMm gBm gTm gXm gYm ∧ Oth ia fS fM fB fT fX fY gSm gMm gBm gTm gXm gYm := by
  have eS : trk a → fS a = sg := fun w => by rw [hF w]; exact hT.1
  have eM : trk a → fM a = n := fun w => by rw [hF w]; exact hT.2.1
  have rr := TK_r hR hT
  obtain ⟨hz, ⟨htk, hs⟩, hok, c1, c2, c3, c4⟩ := hc
  have eM' := eM htk
  have eS' := eS htk
  obtain rfl := hF htk
  obtain ⟨h1, h2, h3, h4, h5, h6, h7, h8⟩ := hT
  obtain ⟨r1, r2, r3, r4, r5, r6, r7⟩ := hR
  have b2 := h3 hs
  obtain ⟨e0, em, rfl, rfl, rfl⟩ := hw.2.2.2 htk (by rw [eS']; exact hs) (by rw [← b2.1]; exact hok)
  rw [eM'] at em
  obtain ⟨t1, t2, t3, t4⟩ := tie_thin (b := 20 * a) (by omega) h8 h6 c1 c2 c4 em
  have m4 := em.2.2.2.1
  have m6 := em.2.2.2.2.2
  have hb := r3 a
  refine ⟨e0, by rw [t2, hz], ⟨h1, by rw [uZ_s, t2], fun _ => ⟨by rw [uZ_s, b2.1], t1.1⟩, fun q => absurd hs q, fun q => by omega, t3, c3, t4⟩, ⟨r1, uZ_all r2 (by omega), uZ_all r3 (by omega), uZ_3 r4 (by omega), m4⟩, Oth_mk r2 (fun _ _ => rfl) uZ_nn uZ_nn m6⟩
theorem t_drop {ia a sg bd n zc zb th2m s2c b2c n2c : Int} {ft fx fy fS fM fB fT fX fY gSm gMm : Int → Int} (hF : trk a → a = ia) (hT : TK ia sg bd n ft fx fy fS fM fB fT fX fY) (hR : RG fS fM fB fT fX fY) (hc : (¬ ((0 ≤ a ∧ a < 4) ∧ sg ≠ 0) → zc = 0 ∧ s2c = sg ∧ b2c = bd ∧ n2c = n) ∧ (((0 ≤ a ∧ a < 4) ∧ sg ≠ 0) → zc = 1 ∧ s2c = 0 ∧ b2c = -1 ∧ n2c = 0)) (hw : th2m = 0 ∧ zb = bz ((0 ≤ a ∧ a < 4) ∧ 0 < fS a) ∧ (¬ (0 ≤ a ∧ a < 4) → gSm = fS ∧ gMm = fM) ∧ ((0 ≤ a ∧ a < 4) → gSm = uZ fS a 0 ∧ gMm = uZ fM a 0)) : zb = zc ∧ TK ia s2c b2c n2c ft fx fy gSm gMm fB fT fX fY ∧ RG gSm gMm fB fT fX fY ∧ Oth ia fS fM fB fT fX fY gSm gMm fB fT fX fY := by
  have eS : trk a → fS a = sg := fun w => by rw [hF w]; exact hT.1
  have eM : trk a → fM a = n := fun w => by rw [hF w]; exact hT.2.1
  have rr := TK_r hR hT
  obtain ⟨-, ez, w1, w2⟩ := hw
  obtain ⟨c1, c2⟩ := hc
  rcases Classical.em (trk a) with htk | htk
  · have eM' := eM htk
    have eS' := eS htk
    obtain rfl := hF htk
    obtain ⟨h1, h2, h3, h4, h5, h6, h7, h8⟩ := hT
    obtain ⟨r1, r2, r3, r4, r5, r6, r7⟩ := hR
    obtain ⟨rfl, rfl⟩ := w2 htk
    have oth : Oth a fS fM fB fT fX fY (uZ fS a 0) (uZ fM a 0) fB fT fX fY := Oth_mk r2 uZ_nn uZ_nn (fun _ _ => rfl) (fun _ _ => ⟨rfl, rfl, rfl⟩)
    have rg : RG (uZ fS a 0) (uZ fM a 0) fB fT fX fY := ⟨uZ_all r1 (by decide), uZ_all r2 (by decide), r3, uZ_2 r4 (fun q => absurd q (by decide)), r5, r6, r7⟩
    rcases Classical.em (sg = 0) with q | q
    · obtain ⟨z0, rfl, rfl, rfl⟩ := c1 (fun w => w.2 q)
      have n0 := h5 q
      refine ⟨by rw [ez, z0]; exact if_neg (fun w => by omega), ⟨by rw [uZ_s, q], by rw [uZ_s, n0], fun w => by omega, h4, h5, h6, h7, h8⟩, rg, oth⟩
    · obtain ⟨z0, rfl, rfl, rfl⟩ := c2 ⟨htk, q⟩
      refine ⟨by rw [ez, z0]; exact if_pos ⟨htk, by omega⟩, ⟨by rw [uZ_s], by rw [uZ_s], fun w => absurd w (by decide), fun _ => rfl, fun _ => rfl, incP_0 (by decide), h7, fun j a1 a2 => by omega⟩, rg, oth⟩
  · obtain ⟨rfl, rfl⟩ := w1 htk
    obtain ⟨z0, rfl, rfl, rfl⟩ := c1 (fun w => htk w.1)
    exact ⟨by rw [ez, z0]; exact if_neg (fun w => htk w.1), hT, hR, Oth_rf⟩
theorem t_track {ia a w sg bd n zc zb th2m : Int} {ft fx fy fS fM fB fT fX fY : Int → Int} (hF : trk a → a = ia) (hT : TK ia sg bd n ft fx fy fS fM fB fT fX fY) (hc : (¬ (0 ≤ a ∧ a < 4) → zc = -1) ∧ ((0 ≤ a ∧ a < 4) → zc = (if w = 0 then sg else if w = 1 then n else if w = 2 then bd else -1))) (hw : th2m = 0 ∧ (¬ (0 ≤ a ∧ a < 4) → zb = -1) ∧ ((0 ≤ a ∧ a < 4) → zb = trkZ (fS a) (fM a) (fB a) w)) : zb = zc := by
  obtain ⟨-, w1, w2⟩ := hw
  obtain ⟨c1, c2⟩ := hc
  rcases Classical.em (trk a) with htk | htk
  · rw [w2 htk, c2 htk]
    obtain rfl := hF htk
    obtain ⟨h1, h2, h3, h4, -⟩ := hT
    unfold trkZ
    rw [h1, h2]
    split
    · rfl
    · split
      · rfl
      · rcases Classical.em (w = 2) with q | q
        · rw [if_pos q]
          rcases Classical.em (sg = 2) with q2 | q2
          · rw [if_pos ⟨q, q2⟩, (h3 q2).1]
          · rw [if_neg (fun v => q2 v.2), h4 q2]
        · rw [if_neg q, if_neg (fun v => q v.1)]
  · rw [w1 htk, c1 htk]
theorem t_sample_x {k ia a w i sg bd n zb th2m : Int} {ft fx fy fS fM fB fT fX fY : Int → Int} (hF : trk a → a = ia) (hT : TK ia sg bd n ft fx fy fS fM fB fT fX fY) (hk : ((k = 1 ∧ (nIO = nIO ∧ ¬ ((0 ≤ a ∧ a < 4) ∧ (0 ≤ i ∧ i < n) ∧ 0 ≤ w ∧ w ≤ 2))) ∨ (k = 2 ∧ (nIS = nIO ∧ ¬ ((0 ≤ a ∧ a < 4) ∧ (0 ≤ i ∧ i < n) ∧ 0 ≤ w ∧ w ≤ 2))) ∨ (k = 3 ∧ (nIA = nIO ∧ ¬ ((0 ≤ a ∧ a < 4) ∧ (0 ≤ i ∧ i < n) ∧ 0 ≤ w ∧ w ≤ 2))))) (hw : (¬ ((0 ≤ a ∧ a < 4) ∧ 0 ≤ w ∧ w ≤ 2) → th2m = 1) ∧ (((0 ≤ a ∧ a < 4) ∧ 0 ≤ w ∧ w ≤ 2) → ¬ (0 ≤ i ∧ i < fM a) → th2m = 1) ∧ (((0 ≤ a ∧ a < 4) ∧ 0 ≤ w ∧ w ≤ 2) → (0 ≤ i ∧ i < fM a) → th2m = 0 ∧ zb = if w = 0 then fT (20 * a + i) else if w = 1 then fX (20 * a + i) else fY (20 * a + i))) : th2m = k := by
  have eS : trk a → fS a = sg := fun w => by rw [hF w]; exact hT.1
  have eM : trk a → fM a = n := fun w => by rw [hF w]; exact hT.2.1
  obtain ⟨p1, p2, p3⟩ := hw
  rcases hk with ⟨rfl, h⟩ | ⟨rfl, h⟩ | ⟨rfl, h⟩
  · simp only [nOS, nOA, nSO, nSA, nAO, nAS, eq_self, true_and, false_and, or_false, false_or] at h
    rcases Classical.em (trk a ∧ 0 ≤ w ∧ w ≤ 2) with q | q
    · exact p2 q (fun v => h ⟨q.1, by rw [eM q.1] at v; exact v, q.2⟩)
    · exact p1 q
  · simp only [nOS, nOA, nSO, nSA, nAO, nAS, eq_self, true_and, false_and, or_false, false_or] at h
  · simp only [nOS, nOA, nSO, nSA, nAO, nAS, eq_self, true_and, false_and, or_false, false_or] at h
theorem t_sample_r {ia a w i sg bd n zc zb th2m : Int} {ft fx fy fS fM fB fT fX fY : Int → Int} (hF : trk a → a = ia) (hT : TK ia sg bd n ft fx fy fS fM fB fT fX fY) (hc : ((0 ≤ a ∧ a < 4) ∧ (0 ≤ i ∧ i < n) ∧ 0 ≤ w ∧ w ≤ 2) ∧ zc = if w = 0 then ft i else if w = 1 then fx i else fy i) (hw : (¬ ((0 ≤ a ∧ a < 4) ∧ 0 ≤ w ∧ w ≤ 2) → th2m = 1) ∧ (((0 ≤ a ∧ a < 4) ∧ 0 ≤ w ∧ w ≤ 2) → ¬ (0 ≤ i ∧ i < fM a) → th2m = 1) ∧ (((0 ≤ a ∧ a < 4) ∧ 0 ≤ w ∧ w ≤ 2) → (0 ≤ i ∧ i < fM a) → th2m = 0 ∧ zb = if w = 0 then fT (20 * a + i) else if w = 1 then fX (20 * a + i) else fY (20 * a + i))) : th2m = 0 ∧ zb = zc := by
  have eS : trk a → fS a = sg := fun w => by rw [hF w]; exact hT.1
  have eM : trk a → fM a = n := fun w => by rw [hF w]; exact hT.2.1
  obtain ⟨⟨htk, hi, hw2⟩, hz⟩ := hc
  obtain ⟨e0, ez⟩ := hw.2.2 ⟨htk, hw2⟩ (by rw [eM htk]; exact hi)
  refine ⟨e0, ?_⟩
  rw [ez, hz]
  obtain rfl := hF htk
  obtain ⟨g1, g2, g3⟩ := hT.2.2.2.2.2.2.2 i hi.1 hi.2
  rw [g1, g2, g3]
theorem t_place_x {k km ia a t w yy sg bd n zb th2m : Int} {ft fx fy fS fM fB fT fX fY : Int → Int} (hF : trk a → a = ia) (hT : TK ia sg bd n ft fx fy fS fM fB fT fX fY) (hR : RG fS fM fB fT fX fY) (hk : ((k = 1 ∧ ((nIO = nIO ∧ ¬ (0 ≤ a ∧ a < 4)) ∨ (nIO = nIS ∧ (0 ≤ a ∧ a < 4) ∧ sg ≠ 2) ∨ (nIO = nIA ∧ (0 ≤ a ∧ a < 4) ∧ sg = 2 ∧ ¬ (ft 0 ≤ t ∧ t ≤ ft (n - 1))))) ∨ (k = 2 ∧ ((nIS = nIO ∧ ¬ (0 ≤ a ∧ a < 4)) ∨ (nIS = nIS ∧ (0 ≤ a ∧ a < 4) ∧ sg ≠ 2) ∨ (nIS = nIA ∧ (0 ≤ a ∧ a < 4) ∧ sg = 2 ∧ ¬ (ft 0 ≤ t ∧ t ≤ ft (n - 1))))) ∨ (k = 3 ∧ ((nIA = nIO ∧ ¬ (0 ≤ a ∧ a < 4)) ∨ (nIA = nIS ∧ (0 ≤ a ∧ a < 4) ∧ sg ≠ 2) ∨ (nIA = nIA ∧ (0 ≤ a ∧ a < 4) ∧ sg = 2 ∧ ¬ (ft 0 ≤ t ∧ t ≤ ft (n - 1))))))) (hw : (¬ (0 ≤ a ∧ a < 4) → th2m = 1) ∧ ((0 ≤ a ∧ a < 4) → fS a ≠ 2 → th2m = 2) ∧ ((0 ≤ a ∧ a < 4) → fS a = 2 → ¬ (fT (20 * a) ≤ t ∧ t ≤ fT (20 * a + fM a - 1)) → th2m = 3) ∧ ((0 ≤ a ∧ a < 4) → fS a = 2 → (fT (20 * a) ≤ t ∧ t ≤ fT (20 * a + fM a - 1)) → th2m = 0 ∧ (20 * a ≤ km ∧ km ≤ 20 * a + fM a - 1) ∧ fT (km) ≤ t ∧ (km < 20 * a + fM a - 1 → t < fT (km + 1)) ∧ zb = plZ fT (if yy = 0 then fX else fY) (km) t w)) : th2m = k := by
  have eS : trk a → fS a = sg := fun w => by rw [hF w]; exact hT.1
  have eM : trk a → fM a = n := fun w => by rw [hF w]; exact hT.2.1
  have rr := TK_r hR hT
  have eI : trk a → sg = 2 → ((ft 0 ≤ t ∧ t ≤ ft (n - 1)) ↔ (fT (20 * a) ≤ t ∧ t ≤ fT (20 * a + fM a - 1))) := fun w h2 => by
    have n1 := (hT.2.2.1 h2).2
    have g0 := (hT.2.2.2.2.2.2.2 0 (by omega) (by omega)).1
    have g1 := (hT.2.2.2.2.2.2.2 (n - 1) (by omega) (by omega)).1
    rw [Int.add_zero] at g0
    rw [eM w, hF w, g0, g1, show 20 * ia + (n - 1) = 20 * ia + n - 1 by omega]
  obtain ⟨p1, p2, p3, p4⟩ := hw
  rcases hk with ⟨rfl, h⟩ | ⟨rfl, h⟩ | ⟨rfl, h⟩
  · simp only [nOS, nOA, nSO, nSA, nAO, nAS, eq_self, true_and, false_and, or_false, false_or] at h
    exact p1 h
  · simp only [nOS, nOA, nSO, nSA, nAO, nAS, eq_self, true_and, false_and, or_false, false_or] at h
    exact p2 h.1 (by rw [eS h.1]; exact h.2)
  · simp only [nOS, nOA, nSO, nSA, nAO, nAS, eq_self, true_and, false_and, or_false, false_or] at h
    obtain ⟨g1, g2, g3⟩ := h
    exact p3 g1 (by rw [eS g1]; exact g2) (by rw [← eI g1 g2]; exact g3)
theorem t_place_r {km ia a t w yy sg bd n kc zc zb th2m : Int} {ft fx fy fS fM fB fT fX fY : Int → Int} (hF : trk a → a = ia) (hT : TK ia sg bd n ft fx fy fS fM fB fT fX fY) (hR : RG fS fM fB fT fX fY) (hc : ((0 ≤ a ∧ a < 4) ∧ sg = 2) ∧ (ft 0 ≤ t ∧ t ≤ ft (n - 1)) ∧ (0 ≤ kc ∧ kc ≤ n - 1) ∧ ft (kc) ≤ t ∧ (kc < n - 1 → t < ft (kc + 1)) ∧ zc = plZ ft (if yy = 0 then fx else fy) (kc) t w) (hw : (¬ (0 ≤ a ∧ a < 4) → th2m = 1) ∧ ((0 ≤ a ∧ a < 4) → fS a ≠ 2 → th2m = 2) ∧ ((0 ≤ a ∧ a < 4) → fS a = 2 → ¬ (fT (20 * a) ≤ t ∧ t ≤ fT (20 * a + fM a - 1)) → th2m = 3) ∧ ((0 ≤ a ∧ a < 4) → fS a = 2 → (fT (20 * a) ≤ t ∧ t ≤ fT (20 * a + fM a - 1)) → th2m = 0 ∧ (20 * a ≤ km ∧ km ≤ 20 * a + fM a - 1) ∧ fT (km) ≤ t ∧ (km < 20 * a + fM a - 1 → t < fT (km + 1)) ∧ zb = plZ fT (if yy = 0 then fX else fY) (km) t w)) : th2m = 0 ∧ zb = zc := by
  have eS : trk a → fS a = sg := fun w => by rw [hF w]; exact hT.1
  have eM : trk a → fM a = n := fun w => by rw [hF w]; exact hT.2.1
  have eI : trk a → sg = 2 → ((ft 0 ≤ t ∧ t ≤ ft (n - 1)) ↔ (fT (20 * a) ≤ t ∧ t ≤ fT (20 * a + fM a - 1))) := fun w h2 => by
    have n1 := (hT.2.2.1 h2).2
    have g0 := (hT.2.2.2.2.2.2.2 0 (by omega) (by omega)).1
    have g1 := (hT.2.2.2.2.2.2.2 (n - 1) (by omega) (by omega)).1
    rw [Int.add_zero] at g0
    rw [eM w, hF w, g0, g1, show 20 * ia + (n - 1) = 20 * ia + n - 1 by omega]
  obtain ⟨⟨htk, hs⟩, hin, hk, c1, c2, hz⟩ := hc
  have ei := (eI htk hs).mp hin
  have eS' := eS htk
  have eM' := eM htk
  obtain ⟨e0, hu, g1, g2, ez⟩ := hw.2.2.2 htk (by rw [eS']; exact hs) ei
  rw [eM'] at hu g2
  obtain rfl := hF htk
  obtain ⟨h1, h2, h3, h4, h5, h6, h7, h8⟩ := hT
  refine ⟨e0, ?_⟩
  rw [ez, hz]
  refine (tie_place (n := n) (b := 20 * a) (fun j a1 a2 => ?_) h6 hin.2 hk c1 c2 hu g1 g2).symm
  obtain ⟨q1, q2, q3⟩ := h8 j a1 a2
  refine ⟨q1, ?_⟩
  split
  · exact q2
  · exact q3
theorem t_pack_x {k ia a sg bd n sz1 gnm zb th2m : Int} {ft fx fy fS fM fB fT fX fY fR gRm : Int → Int} (hF : trk a → a = ia) (hT : TK ia sg bd n ft fx fy fS fM fB fT fX fY) (hk : ((k = 1 ∧ ((nIO = nIO ∧ ¬ (0 ≤ a ∧ a < 4)) ∨ (nIO = nIS ∧ (0 ≤ a ∧ a < 4) ∧ sg ≠ 2))) ∨ (k = 2 ∧ ((nIS = nIO ∧ ¬ (0 ≤ a ∧ a < 4)) ∨ (nIS = nIS ∧ (0 ≤ a ∧ a < 4) ∧ sg ≠ 2))) ∨ (k = 3 ∧ ((nIA = nIO ∧ ¬ (0 ≤ a ∧ a < 4)) ∨ (nIA = nIS ∧ (0 ≤ a ∧ a < 4) ∧ sg ≠ 2))))) (hw : (¬ (0 ≤ a ∧ a < 4) → th2m = 1 ∧ gRm = fR ∧ gnm = sz1) ∧ ((0 ≤ a ∧ a < 4) → fS a ≠ 2 → th2m = 2 ∧ gRm = fR ∧ gnm = sz1) ∧ ((0 ≤ a ∧ a < 4) → fS a = 2 → th2m = 0 ∧ zb = gnm ∧ pkR (sh fT (20 * a)) (sh fX (20 * a)) (sh fY (20 * a)) (Int.toNat (fM a)) (wrN 4 fR 0 (fM a)) = (gRm, gnm) ∧ 1 ≤ gnm ∧ gnm ≤ 261 ∧ okB (gRm))) : th2m = k ∧ gRm = fR ∧ gnm = sz1 := by
  have eS : trk a → fS a = sg := fun w => by rw [hF w]; exact hT.1
  have eM : trk a → fM a = n := fun w => by rw [hF w]; exact hT.2.1
  obtain ⟨p1, p2, p3⟩ := hw
  rcases hk with ⟨rfl, h⟩ | ⟨rfl, h⟩ | ⟨rfl, h⟩
  · simp only [nOS, nOA, nSO, nSA, nAO, nAS, eq_self, true_and, false_and, or_false, false_or] at h
    exact p1 h
  · simp only [nOS, nOA, nSO, nSA, nAO, nAS, eq_self, true_and, false_and, or_false, false_or] at h
    exact p2 h.1 (by rw [eS h.1]; exact h.2)
  · simp only [nOS, nOA, nSO, nSA, nAO, nAS, eq_self, true_and, false_and, or_false, false_or] at h
theorem t_pack_r {ia a sg bd n sz1 gnc gnm zc zb th2m : Int} {ft fx fy fS fM fB fT fX fY fR fb gbc gRm : Int → Int} (hF : trk a → a = ia) (hT : TK ia sg bd n ft fx fy fS fM fB fT fX fY) (hR : RG fS fM fB fT fX fY) (hc : zc = gnc ∧ ((0 ≤ a ∧ a < 4) ∧ sg = 2) ∧ pkR ft fx fy (Int.toNat n) (wrN 4 fb 0 n) = (gbc, gnc) ∧ 1 ≤ gnc ∧ gnc ≤ 261 ∧ okB (gbc)) (hw : (¬ (0 ≤ a ∧ a < 4) → th2m = 1 ∧ gRm = fR ∧ gnm = sz1) ∧ ((0 ≤ a ∧ a < 4) → fS a ≠ 2 → th2m = 2 ∧ gRm = fR ∧ gnm = sz1) ∧ ((0 ≤ a ∧ a < 4) → fS a = 2 → th2m = 0 ∧ zb = gnm ∧ pkR (sh fT (20 * a)) (sh fX (20 * a)) (sh fY (20 * a)) (Int.toNat (fM a)) (wrN 4 fR 0 (fM a)) = (gRm, gnm) ∧ 1 ≤ gnm ∧ gnm ≤ 261 ∧ okB (gRm))) : th2m = 0 ∧ zb = zc ∧ BY gnc gbc gnm gRm := by
  have eS : trk a → fS a = sg := fun w => by rw [hF w]; exact hT.1
  have eM : trk a → fM a = n := fun w => by rw [hF w]; exact hT.2.1
  have rr := TK_r hR hT
  obtain ⟨hz, ⟨htk, hs⟩, c1, c2, c3, c4⟩ := hc
  have eS' := eS htk
  have eM' := eM htk
  obtain ⟨e0, ez, w1, w2, w3, w4⟩ := hw.2.2 htk (by rw [eS']; exact hs)
  rw [eM'] at w1
  obtain rfl := hF htk
  obtain ⟨t1, t2⟩ := tie_pack (n := n) (b := 20 * a) rr.2.1.1 hT.2.2.2.2.2.2.2 c1 w1
  exact ⟨e0, by rw [ez, hz, t1], t1.symm, by omega, t2, c4, w4⟩
theorem t_bytes {k nb sz1 zc zb th2m : Int} {fR fb : Int → Int} (hY : BY nb fb sz1 fR) (hc : zc = (if k = -1 then nb else if k < 0 ∨ nb ≤ k then -1 else fb k)) (hw : th2m = 0 ∧ zb = (if k = -1 then sz1 else if k < 0 ∨ sz1 ≤ k then -1 else fR k)) : zb = zc := by
  obtain ⟨rfl, h1, h2, -⟩ := hY
  rw [hw.2, hc]
  split
  · rfl
  · split
    · rfl
    · rename_i q1 q2
      exact (h2 k (by omega) (by omega)).symm
theorem t_put {pt n nb sz1 gnc gnm zc zb th2m : Int} {fR fb gbc gRm : Int → Int} (hY : BY nb fb sz1 fR) (hc : (¬ (1 ≤ n ∧ n ≤ 8 ∧ nb + n ≤ 300) → zc = 0 ∧ gbc = fb ∧ gnc = nb) ∧ ((1 ≤ n ∧ n ≤ 8 ∧ nb + n ≤ 300) → zc = 1 ∧ ptN (Int.toNat n) fb nb pt = (gbc, gnc))) (hw : th2m = 0 ∧ (¬ (1 ≤ n ∧ n ≤ 8 ∧ sz1 + n ≤ 300) → zb = 0 ∧ gRm = fR ∧ gnm = sz1) ∧ ((1 ≤ n ∧ n ≤ 8 ∧ sz1 + n ≤ 300) → zb = 1 ∧ ptN (Int.toNat n) fR sz1 pt = (gRm, gnm))) : zb = zc ∧ BY gnc gbc gnm gRm := by
  obtain ⟨rfl, h1, h2, h3, h4⟩ := hY
  obtain ⟨-, w1, w2⟩ := hw
  obtain ⟨c1, c2⟩ := hc
  rcases Classical.em (1 ≤ n ∧ n ≤ 8 ∧ sz1 + n ≤ 300) with q | q
  · obtain ⟨e1, e2⟩ := c2 q
    obtain ⟨e3, e4⟩ := w2 q
    have a := ptN_agree n.toNat fb fR sz1 pt h2
    have b := ptN_ok n.toNat fb sz1 pt h3
    have c := ptN_ok n.toNat fR sz1 pt h4
    rw [e2] at a b
    rw [e4] at a c
    dsimp only at a b c
    exact ⟨by rw [e1, e3], a.1.symm, by omega, a.2, b.1, c.1⟩
  · obtain ⟨e1, rfl, rfl⟩ := c1 q
    obtain ⟨e3, rfl, rfl⟩ := w1 q
    exact ⟨by rw [e1, e3], rfl, h1, h2, h3, h4⟩
theorem t_cut {n nb sz1 gnc gnm zc zb th2m : Int} {fR fb : Int → Int} (hY : BY nb fb sz1 fR) (hc : (¬ (0 ≤ n ∧ n ≤ nb) → zc = 0 ∧ gnc = nb) ∧ ((0 ≤ n ∧ n ≤ nb) → zc = 1 ∧ gnc = n)) (hw : th2m = 0 ∧ (¬ (0 ≤ n ∧ n ≤ sz1) → zb = 0 ∧ gnm = sz1) ∧ ((0 ≤ n ∧ n ≤ sz1) → zb = 1 ∧ gnm = n)) : zb = zc ∧ BY gnc fb gnm fR := by
  obtain ⟨rfl, h1, h2, h3, h4⟩ := hY
  obtain ⟨-, w1, w2⟩ := hw
  obtain ⟨c1, c2⟩ := hc
  rcases Classical.em (0 ≤ n ∧ n ≤ sz1) with q | q
  · obtain ⟨e1, rfl⟩ := c2 q
    obtain ⟨e3, rfl⟩ := w2 q
    exact ⟨by rw [e1, e3], rfl, by omega, fun i a b => h2 i a (by omega), h3, h4⟩
  · obtain ⟨e1, rfl⟩ := c1 q
    obtain ⟨e3, rfl⟩ := w1 q
    exact ⟨by rw [e1, e3], rfl, h1, h2, h3, h4⟩
theorem t_unpack_x {k ia a e1 sg bd n sz1 zb th2m : Int} {ft fx fy fS fM fB fT fX fY fR kt kx ky gSm gMm gBm gTm gXm gYm htm hxm hym : Int → Int} (hF : trk a → a = ia) (hT : TK ia sg bd n ft fx fy fS fM fB fT fX fY) (hR : RG fS fM fB fT fX fY) (hk : ((k = 1 ∧ ((nIO = nIO ∧ ¬ (0 ≤ a ∧ a < 4)) ∨ (nIO = nIS ∧ (0 ≤ a ∧ a < 4) ∧ sg ≠ 0) ∨ (nIO = nIA ∧ (0 ≤ a ∧ a < 4) ∧ sg = 0 ∧ ¬ (0 ≤ e1 ∧ e1 ≤ 65535)))) ∨ (k = 2 ∧ ((nIS = nIO ∧ ¬ (0 ≤ a ∧ a < 4)) ∨ (nIS = nIS ∧ (0 ≤ a ∧ a < 4) ∧ sg ≠ 0) ∨ (nIS = nIA ∧ (0 ≤ a ∧ a < 4) ∧ sg = 0 ∧ ¬ (0 ≤ e1 ∧ e1 ≤ 65535)))) ∨ (k = 3 ∧ ((nIA = nIO ∧ ¬ (0 ≤ a ∧ a < 4)) ∨ (nIA = nIS ∧ (0 ≤ a ∧ a < 4) ∧ sg ≠ 0) ∨ (nIA = nIA ∧ (0 ≤ a ∧ a < 4) ∧ sg = 0 ∧ ¬ (0 ≤ e1 ∧ e1 ≤ 65535)))))) (hw : (¬ (0 ≤ a ∧ a < 4) → th2m = 1 ∧ gSm = fS ∧ gMm = fM ∧ gBm = fB ∧ gTm = fT ∧ gXm = fX ∧ gYm = fY) ∧ ((0 ≤ a ∧ a < 4) → fS a ≠ 0 → th2m = 2 ∧ gSm = fS ∧ gMm = fM ∧ gBm = fB ∧ gTm = fT ∧ gXm = fX ∧ gYm = fY) ∧ ((0 ≤ a ∧ a < 4) → fS a = 0 → ¬ (0 ≤ e1 ∧ e1 ≤ 65535) → th2m = 3 ∧ gSm = fS ∧ gMm = fM ∧ gBm = fB ∧ gTm = fT ∧ gXm = fX ∧ gYm = fY) ∧ ((0 ≤ a ∧ a < 4) → fS a = 0 → (0 ≤ e1 ∧ e1 ≤ 65535) → th2m = 0 ∧ ((0 ≤ (rdA fR sz1 kt kx ky).1 ∧ zb = -2 - (rdA fR sz1 kt kx ky).1 ∧ gSm = fS ∧ gMm = fM ∧ gBm = fB ∧ gTm = fT ∧ gXm = fX ∧ gYm = fY) ∨ ((1 ≤ zb ∧ zb ≤ 20) ∧ (rdA fR sz1 kt kx ky) = (-1, zb, htm, hxm, hym) ∧ incP zb (htm) ∧ (okT (gTm) ∧ okC (gXm) ∧ okC (gYm)) ∧ gSm = uZ fS a 2 ∧ gMm = uZ fM a zb ∧ gBm = uZ fB a e1 ∧ (∀ j, 0 ≤ j → j < zb → (gTm) ((20 * a) + j) = (htm) j ∧ (gXm) ((20 * a) + j) = (hxm) j ∧ (gYm) ((20 * a) + j) = (hym) j) ∧ ∀ q, (q < (20 * a) ∨ (20 * a) + 20 ≤ q) → (gTm) q = fT q ∧ (gXm) q = fX q ∧ (gYm) q = fY q))) ∧ (okT (htm) ∧ okC (hxm) ∧ okC (hym))) : th2m = k ∧ (gSm = fS ∧ gMm = fM ∧ gBm = fB ∧ gTm = fT ∧ gXm = fX ∧ gYm = fY) ∧ okT htm ∧ okC hxm ∧ okC hym := by
  have eS : trk a → fS a = sg := fun w => by rw [hF w]; exact hT.1
  have eM : trk a → fM a = n := fun w => by rw [hF w]; exact hT.2.1
  have rr := TK_r hR hT
  obtain ⟨p1, p2, p3, p4, p5⟩ := hw
  rcases hk with ⟨rfl, h⟩ | ⟨rfl, h⟩ | ⟨rfl, h⟩
  · simp only [nOS, nOA, nSO, nSA, nAO, nAS, eq_self, true_and, false_and, or_false, false_or] at h
    exact ⟨(p1 h).1, (p1 h).2, p5⟩
  · simp only [nOS, nOA, nSO, nSA, nAO, nAS, eq_self, true_and, false_and, or_false, false_or] at h
    exact ⟨(p2 h.1 (by rw [eS h.1]; exact h.2)).1, (p2 h.1 (by rw [eS h.1]; exact h.2)).2, p5⟩
  · simp only [nOS, nOA, nSO, nSA, nAO, nAS, eq_self, true_and, false_and, or_false, false_or] at h
    obtain ⟨g1, g2, g3⟩ := h
    have p := p3 g1 (by rw [eS g1]; exact g2) g3
    exact ⟨p.1, p.2, p5⟩
theorem t_unpack_r {ia a e1 sg bd n nb sz1 zc zb th2m s2c b2c n2c : Int} {ft fx fy fS fM fB fT fX fY fR fb kt kx ky rt rx ry gtc gxc gyc gSm gMm gBm gTm gXm gYm htc hxc hyc htm hxm hym : Int → Int} (hF : trk a → a = ia) (hT : TK ia sg bd n ft fx fy fS fM fB fT fX fY) (hR : RG fS fM fB fT fX fY) (hY : BY nb fb sz1 fR) (hc : (((0 ≤ a ∧ a < 4) ∧ sg = 0) ∧ (0 ≤ e1 ∧ e1 ≤ 65535)) ∧ ((0 ≤ (rdA fb nb rt rx ry).1 ∧ zc = -2 - (rdA fb nb rt rx ry).1 ∧ s2c = sg ∧ b2c = bd ∧ n2c = n ∧ gtc = ft ∧ gxc = fx ∧ gyc = fy) ∨ ((1 ≤ zc ∧ zc ≤ 20) ∧ (rdA fb nb rt rx ry) = (-1, zc, htc, hxc, hyc) ∧ incP zc (htc) ∧ s2c = 2 ∧ b2c = e1 ∧ n2c = zc ∧ (okT (gtc) ∧ okC (gxc) ∧ okC (gyc)) ∧ ∀ j, 0 ≤ j → j < zc → (gtc) j = (htc) j ∧ (gxc) j = (hxc) j ∧ (gyc) j = (hyc) j)) ∧ okT (htc) ∧ okC (hxc) ∧ okC (hyc)) (hw : (¬ (0 ≤ a ∧ a < 4) → th2m = 1 ∧ gSm = fS ∧ gMm = fM ∧ gBm = fB ∧ gTm = fT ∧ gXm = fX ∧ gYm = fY) ∧ ((0 ≤ a ∧ a < 4) → fS a ≠ 0 → th2m = 2 ∧ gSm = fS ∧ gMm = fM ∧ gBm = fB ∧ gTm = fT ∧ gXm = fX ∧ gYm = fY) ∧ ((0 ≤ a ∧ a < 4) → fS a = 0 → ¬ (0 ≤ e1 ∧ e1 ≤ 65535) → th2m = 3 ∧ gSm = fS ∧ gMm = fM ∧ gBm = fB ∧ gTm = fT ∧ gXm = fX ∧ gYm = fY) ∧ ((0 ≤ a ∧ a < 4) → fS a = 0 → (0 ≤ e1 ∧ e1 ≤ 65535) → th2m = 0 ∧ ((0 ≤ (rdA fR sz1 kt kx ky).1 ∧ zb = -2 - (rdA fR sz1 kt kx ky).1 ∧ gSm = fS ∧ gMm = fM ∧ gBm = fB ∧ gTm = fT ∧ gXm = fX ∧ gYm = fY) ∨ ((1 ≤ zb ∧ zb ≤ 20) ∧ (rdA fR sz1 kt kx ky) = (-1, zb, htm, hxm, hym) ∧ incP zb (htm) ∧ (okT (gTm) ∧ okC (gXm) ∧ okC (gYm)) ∧ gSm = uZ fS a 2 ∧ gMm = uZ fM a zb ∧ gBm = uZ fB a e1 ∧ (∀ j, 0 ≤ j → j < zb → (gTm) ((20 * a) + j) = (htm) j ∧ (gXm) ((20 * a) + j) = (hxm) j ∧ (gYm) ((20 * a) + j) = (hym) j) ∧ ∀ q, (q < (20 * a) ∨ (20 * a) + 20 ≤ q) → (gTm) q = fT q ∧ (gXm) q = fX q ∧ (gYm) q = fY q))) ∧ (okT (htm) ∧ okC (hxm) ∧ okC (hym))) : th2m = 0 ∧ zb = zc ∧ TK ia s2c b2c n2c gtc gxc gyc gSm gMm gBm gTm gXm gYm ∧ RG gSm gMm gBm gTm gXm gYm ∧ Oth ia fS fM fB fT fX fY gSm gMm gBm gTm gXm gYm ∧ (okT htc ∧ okC hxc ∧ okC hyc) ∧ okT htm ∧ okC hxm ∧ okC hym := by
  have eS : trk a → fS a = sg := fun w => by rw [hF w]; exact hT.1
  have eM : trk a → fM a = n := fun w => by rw [hF w]; exact hT.2.1
  obtain ⟨⟨⟨htk, hs⟩, hok⟩, hc, ok1⟩ := hc
  have eS' := eS htk
  obtain ⟨-, -, -, w4, ok2⟩ := hw
  obtain ⟨e0, hw⟩ := w4 htk (by rw [eS']; exact hs) hok
  obtain ⟨rfl, y1, y2, y3, y4⟩ := hY
  obtain rfl := hF htk
  obtain ⟨i1, i2⟩ := tie_read y2 rt rx ry kt kx ky
  rcases hc with ⟨c0, c1, rfl, rfl, rfl, rfl, rfl, rfl⟩ | ⟨c1, c2, c3, rfl, rfl, rfl, c4, c5⟩
  · rcases hw with ⟨w0, w1, rfl, rfl, rfl, rfl, rfl, rfl⟩ | ⟨w1, w2, -⟩
    · exact ⟨e0, by rw [w1, c1, i1], hT, hR, Oth_rf, ok1, ok2⟩
    · exfalso
      rw [w2] at i1
      dsimp only at i1
      omega
  · rw [c2] at i1 i2
    rcases hw with ⟨w0, w1, -⟩ | ⟨w1, w2, w3, w5, rfl, rfl, rfl, w6, w7⟩
    · exfalso
      dsimp only at i1
      omega
    · rw [w2] at i2
      obtain ⟨j1, j2, j3, j4⟩ := i2 rfl
      dsimp only at j1 j2 j3 j4
      subst j1
      obtain ⟨h1, h2, h3, h4, h5, h6, h7, h8⟩ := hT
      obtain ⟨r1, r2, r3, r4, r5, r6, r7⟩ := hR
      refine ⟨e0, rfl, ⟨uZ_s .., by rw [uZ_s], fun _ => ⟨by rw [uZ_s], c1.1⟩, fun q => absurd rfl q, fun q => absurd q (by decide), incP_c c3 (fun j a1 a2 => (c5 j a1 a2).1.symm), c4, fun j a1 a2 => ?_⟩, ⟨uZ_all r1 (by decide), uZ_all r2 (by omega), uZ_all r3 hok, uZ_2 r4 (fun _ => c1.1), w5⟩, Oth_mk r2 uZ_nn uZ_nn uZ_nn w7, ok1, ok2⟩
      obtain ⟨a3, a4, a5⟩ := c5 j a1 a2
      obtain ⟨b3, b4, b5⟩ := w6 j a1 a2
      rw [a3, a4, a5, b3, b4, b5]
      exact ⟨j2 j a1 a2, j3 j a1 a2, j4 j a1 a2⟩
theorem t_spans_x {k ia a sg bd n fo zb th2m fo2m x1 y1 x2 y2 : Int} {ft fx fy fS fM fB fT fX fY fF fG fU fV c1m c2m d1m d2m : Int → Int} (hF : trk a → a = ia) (hT : TK ia sg bd n ft fx fy fS fM fB fT fX fY) (hR : RG fS fM fB fT fX fY) (hk : ((k = 1 ∧ ((nIO = nIO ∧ ¬ (0 ≤ a ∧ a < 4)) ∨ (nIO = nIS ∧ (0 ≤ a ∧ a < 4) ∧ sg ≠ 2) ∨ (nIO = nIA ∧ (0 ≤ a ∧ a < 4) ∧ sg = 2 ∧ ¬ ((-16777216 ≤ x1 ∧ x1 ≤ 16777216) ∧ (-16777216 ≤ y1 ∧ y1 ≤ 16777216) ∧ (-16777216 ≤ x2 ∧ x2 ≤ 16777216) ∧ -16777216 ≤ y2 ∧ y2 ≤ 16777216)))) ∨ (k = 2 ∧ ((nIS = nIO ∧ ¬ (0 ≤ a ∧ a < 4)) ∨ (nIS = nIS ∧ (0 ≤ a ∧ a < 4) ∧ sg ≠ 2) ∨ (nIS = nIA ∧ (0 ≤ a ∧ a < 4) ∧ sg = 2 ∧ ¬ ((-16777216 ≤ x1 ∧ x1 ≤ 16777216) ∧ (-16777216 ≤ y1 ∧ y1 ≤ 16777216) ∧ (-16777216 ≤ x2 ∧ x2 ≤ 16777216) ∧ -16777216 ≤ y2 ∧ y2 ≤ 16777216)))) ∨ (k = 3 ∧ ((nIA = nIO ∧ ¬ (0 ≤ a ∧ a < 4)) ∨ (nIA = nIS ∧ (0 ≤ a ∧ a < 4) ∧ sg ≠ 2) ∨ (nIA = nIA ∧ (0 ≤ a ∧ a < 4) ∧ sg = 2 ∧ ¬ ((-16777216 ≤ x1 ∧ x1 ≤ 16777216) ∧ (-16777216 ≤ y1 ∧ y1 ≤ 16777216) ∧ (-16777216 ≤ x2 ∧ x2 ≤ 16777216) ∧ -16777216 ≤ y2 ∧ y2 ≤ 16777216)))))) (hw : (¬ (0 ≤ a ∧ a < 4) → th2m = 1 ∧ fo2m = fo ∧ c1m = fF ∧ c2m = fG ∧ d1m = fU ∧ d2m = fV) ∧ ((0 ≤ a ∧ a < 4) → fS a ≠ 2 → th2m = 2 ∧ fo2m = fo ∧ c1m = fF ∧ c2m = fG ∧ d1m = fU ∧ d2m = fV) ∧ ((0 ≤ a ∧ a < 4) → fS a = 2 → ¬ ((-16777216 ≤ x1 ∧ x1 ≤ 16777216) ∧ (-16777216 ≤ y1 ∧ y1 ≤ 16777216) ∧ (-16777216 ≤ x2 ∧ x2 ≤ 16777216) ∧ -16777216 ≤ y2 ∧ y2 ≤ 16777216) → th2m = 3 ∧ fo2m = fo ∧ c1m = fF ∧ c2m = fG ∧ d1m = fU ∧ d2m = fV) ∧ ((0 ≤ a ∧ a < 4) → fS a = 2 → ((-16777216 ≤ x1 ∧ x1 ≤ 16777216) ∧ (-16777216 ≤ y1 ∧ y1 ≤ 16777216) ∧ (-16777216 ≤ x2 ∧ x2 ≤ 16777216) ∧ -16777216 ≤ y2 ∧ y2 ≤ 16777216) → th2m = 0 ∧ zb = fo2m ∧ ((x2 < x1 ∨ y2 < y1) → (fo2m, c1m, c2m, d1m, d2m) = (0, fF, fG, fU, fV)) ∧ (¬ (x2 < x1 ∨ y2 < y1) → spMX fT fX fY (x1 - fB a) (x2 + fB a) (y1 - fB a) (y2 + fB a) (20 * a) (fM a) (20 * a + fM a - 1) (0, fF, fG, fU, fV) = (fo2m, c1m, c2m, d1m, d2m)) ∧ okM (fo2m, c1m, c2m, d1m, d2m))) : th2m = k ∧ fo2m = fo ∧ c1m = fF ∧ c2m = fG ∧ d1m = fU ∧ d2m = fV := by
  have eS : trk a → fS a = sg := fun w => by rw [hF w]; exact hT.1
  have eM : trk a → fM a = n := fun w => by rw [hF w]; exact hT.2.1
  have rr := TK_r hR hT
  obtain ⟨p1, p2, p3, p4⟩ := hw
  rcases hk with ⟨rfl, h⟩ | ⟨rfl, h⟩ | ⟨rfl, h⟩
  · simp only [nOS, nOA, nSO, nSA, nAO, nAS, eq_self, true_and, false_and, or_false, false_or] at h
    exact p1 h
  · simp only [nOS, nOA, nSO, nSA, nAO, nAS, eq_self, true_and, false_and, or_false, false_or] at h
    exact p2 h.1 (by rw [eS h.1]; exact h.2)
  · simp only [nOS, nOA, nSO, nSA, nAO, nAS, eq_self, true_and, false_and, or_false, false_or] at h
    obtain ⟨g1, g2, g3⟩ := h
    exact p3 g1 (by rw [eS g1]; exact g2) g3
theorem t_spans_r {ia a sg bd n fo zc zb th2m m2c fo2m x1 y1 x2 y2 : Int} {ft fx fy fS fM fB fT fX fY bF bS eF eS fF fG fU fV c1c c2c d1c d2c c1m c2m d1m d2m : Int → Int} (hF : trk a → a = ia) (hT : TK ia sg bd n ft fx fy fS fM fB fT fX fY) (hR : RG fS fM fB fT fX fY) (hc : zc = m2c ∧ ((0 ≤ a ∧ a < 4) ∧ sg = 2) ∧ ((-16777216 ≤ x1 ∧ x1 ≤ 16777216) ∧ (-16777216 ≤ y1 ∧ y1 ≤ 16777216) ∧ (-16777216 ≤ x2 ∧ x2 ≤ 16777216) ∧ -16777216 ≤ y2 ∧ y2 ≤ 16777216) ∧ ((x2 < x1 ∨ y2 < y1) → (m2c, c1c, c2c, d1c, d2c) = (0, bF, bS, eF, eS)) ∧ (¬ (x2 < x1 ∨ y2 < y1) → spX ft fx fy (x1 - bd) (x2 + bd) (y1 - bd) (y2 + bd) n n (0, bF, bS, eF, eS) = (m2c, c1c, c2c, d1c, d2c)) ∧ okSp (m2c, c1c, c2c, d1c, d2c)) (hw : (¬ (0 ≤ a ∧ a < 4) → th2m = 1 ∧ fo2m = fo ∧ c1m = fF ∧ c2m = fG ∧ d1m = fU ∧ d2m = fV) ∧ ((0 ≤ a ∧ a < 4) → fS a ≠ 2 → th2m = 2 ∧ fo2m = fo ∧ c1m = fF ∧ c2m = fG ∧ d1m = fU ∧ d2m = fV) ∧ ((0 ≤ a ∧ a < 4) → fS a = 2 → ¬ ((-16777216 ≤ x1 ∧ x1 ≤ 16777216) ∧ (-16777216 ≤ y1 ∧ y1 ≤ 16777216) ∧ (-16777216 ≤ x2 ∧ x2 ≤ 16777216) ∧ -16777216 ≤ y2 ∧ y2 ≤ 16777216) → th2m = 3 ∧ fo2m = fo ∧ c1m = fF ∧ c2m = fG ∧ d1m = fU ∧ d2m = fV) ∧ ((0 ≤ a ∧ a < 4) → fS a = 2 → ((-16777216 ≤ x1 ∧ x1 ≤ 16777216) ∧ (-16777216 ≤ y1 ∧ y1 ≤ 16777216) ∧ (-16777216 ≤ x2 ∧ x2 ≤ 16777216) ∧ -16777216 ≤ y2 ∧ y2 ≤ 16777216) → th2m = 0 ∧ zb = fo2m ∧ ((x2 < x1 ∨ y2 < y1) → (fo2m, c1m, c2m, d1m, d2m) = (0, fF, fG, fU, fV)) ∧ (¬ (x2 < x1 ∨ y2 < y1) → spMX fT fX fY (x1 - fB a) (x2 + fB a) (y1 - fB a) (y2 + fB a) (20 * a) (fM a) (20 * a + fM a - 1) (0, fF, fG, fU, fV) = (fo2m, c1m, c2m, d1m, d2m)) ∧ okM (fo2m, c1m, c2m, d1m, d2m))) : th2m = 0 ∧ zb = zc ∧ SP m2c c1c c2c d1c d2c fo2m c1m c2m d1m d2m := by
  have eS : trk a → fS a = sg := fun w => by rw [hF w]; exact hT.1
  have eM : trk a → fM a = n := fun w => by rw [hF w]; exact hT.2.1
  obtain ⟨hz, ⟨htk, hs⟩, hfr, c1, c2, c3⟩ := hc
  have eS' := eS htk
  have eM' := eM htk
  obtain ⟨e0, ez, w1, w2, w3⟩ := hw.2.2.2 htk (by rw [eS']; exact hs) hfr
  obtain rfl := hF htk
  obtain ⟨h1, h2, h3, h4, h5, h6, h7, h8⟩ := hT
  have b2 := h3 hs
  have hRS : RS (m2c, c1c, c2c, d1c, d2c) (fo2m, c1m, c2m, d1m, d2m) := by
    rcases Classical.em (x2 < x1 ∨ y2 < y1) with q | q
    · rw [c1 q, w1 q]
      exact ⟨rfl, Int.le_refl 0, fun i a b => by dsimp only at b; omega, fun i a b => by dsimp only at b; omega⟩
    · have v := w2 q
      rw [eM', ← b2.1] at v
      exact tie_spans b2.2 h8 h6 (c2 q) v
  exact ⟨e0, by rw [ez, hz]; exact hRS.1, hRS, c3, w3⟩
theorem t_span_x {k w i en m1 fo zb th2m : Int} {bF bS eF eS fF fG fU fV : Int → Int} (hSp : SP m1 bF bS eF eS fo fF fG fU fV) (hk : ((k = 1 ∧ (nIO = nIO ∧ ¬ (0 ≤ i ∧ i < m1))) ∨ (k = 2 ∧ (nIS = nIO ∧ ¬ (0 ≤ i ∧ i < m1))) ∨ (k = 3 ∧ (nIA = nIO ∧ ¬ (0 ≤ i ∧ i < m1))))) (hw : (¬ (0 ≤ i ∧ i < fo) → th2m = 1) ∧ ((0 ≤ i ∧ i < fo) → th2m = 0 ∧ zb = if en = 0 then (if w = 0 then fF i else fG i) else (if w = 0 then fU i else fV i))) : th2m = k := by
  have e := hSp.1.1
  dsimp only at e
  rcases hk with ⟨rfl, h⟩ | ⟨rfl, h⟩ | ⟨rfl, h⟩
  · simp only [nOS, nOA, nSO, nSA, nAO, nAS, eq_self, true_and, false_and, or_false, false_or] at h
    exact hw.1 (by rw [e]; exact h)
  · simp only [nOS, nOA, nSO, nSA, nAO, nAS, eq_self, true_and, false_and, or_false, false_or] at h
  · simp only [nOS, nOA, nSO, nSA, nAO, nAS, eq_self, true_and, false_and, or_false, false_or] at h
theorem t_span_r {w i en m1 fo zc zb th2m : Int} {bF bS eF eS fF fG fU fV : Int → Int} (hSp : SP m1 bF bS eF eS fo fF fG fU fV) (hc : (0 ≤ i ∧ i < m1) ∧ zc = (if en = 0 then loT (bF i) (bS i) w else loT (eF i) (eS i) w)) (hw : (¬ (0 ≤ i ∧ i < fo) → th2m = 1) ∧ ((0 ≤ i ∧ i < fo) → th2m = 0 ∧ zb = if en = 0 then (if w = 0 then fF i else fG i) else (if w = 0 then fU i else fV i))) : th2m = 0 ∧ zb = zc := by
  obtain ⟨e, r2, r3, r4⟩ := hSp.1
  dsimp only at e r4
  obtain ⟨hi, hz⟩ := hc
  obtain ⟨e0, ez⟩ := hw.2 (by rw [e]; exact hi)
  refine ⟨e0, ?_⟩
  rw [ez, hz]
  obtain ⟨⟨g1, g2⟩, g3, g4⟩ := r4 i hi.1 hi.2
  have key : ∀ f s : Int, (if w = 0 then loT f s 0 else loT f s 1) = loT f s w := fun f s => by
    rcases Classical.em (w = 0) with q | q
    · rw [if_pos q, q]
    · rw [if_neg q]; unfold loT; rw [if_neg q, if_neg (by decide)]
  rw [g1, g2, g3, g4, key, key]
