set_option maxHeartbeats 4000000 in
set_option maxRecDepth 100000 in
theorem k_X7_thin (l : Launch) (D : va_G) (cI cJ cT : ClassId) (sz : Nat) (hm : Nat) (th : Int) (rS : Nat) (rM : Nat) (rB : Nat) (rT : Nat) (rX : Nat) (rY : Nat) (rL : Nat) (sz1 : Int) (rR : Nat) (at1 : Int) (nu : Int) (rt : Nat) (rx : Nat) (ry : Nat) (fo : Int) (rF : Nat) (rG : Nat) (rU : Nat) (rV : Nat) (lo : Int) (lB : Int) (hi : Int) (hB1 : Int) (fM : Int → Int) (fT : Int → Int) (fX : Int → Int) (fY : Int → Int) (fL : Int → Int) (a : Int) (e1 : Int) (ha : trk a) (hn0 : 1 ≤ fM a ∧ fM a ≤ 20) (ht : okT fT) (hx1 : okC fX) (hy1 : okC fY) (he : rI e1) : Met l yX7_thin wsX7_thin { frames := 2, cells := 0, slots := 0, locals := 53 } (zPc D (TY cI cJ cT) [.ref hm, .int (iI a), .int (iI e1)] [(hm, .inr (7, [.int (iI th), .ref rS, .ref rM, .ref rB, .ref rT, .ref rX, .ref rY, .ref rL, .int (iI sz1), .ref rR, .int (iI at1), .long (lI nu), .ref rt, .ref rx, .ref ry, .int (iI fo), .ref rF, .ref rG, .ref rU, .ref rV, .long (lI lo), .long (lI lB), .long (lI hi), .long (lI hB1)])), (rM, .inl (cI, 4, .inl (zA fM))), (rT, .inl (cI, 80, .inl (zA fT))), (rX, .inl (cI, 80, .inl (zA fX))), (rY, .inl (cI, 80, .inl (zA fY))), (rL, .inl (cI, 20, .inl (zA fL)))] sz) (zQv D (TY cI cJ cT) (va_A [(hm, .inr (7, [.int (iI th), .ref rS, .ref rM, .ref rB, .ref rT, .ref rX, .ref rY, .ref rL, .int (iI sz1), .ref rR, .int (iI at1), .long (lI nu), .ref rt, .ref rx, .ref ry, .int (iI fo), .ref rF, .ref rG, .ref rU, .ref rV, .long (lI lo), .long (lI lB), .long (lI hi), .long (lI hB1)])), (rM, .inl (cI, 4, .inl (zA fM))), (rT, .inl (cI, 80, .inl (zA fT))), (rX, .inl (cI, 80, .inl (zA fX))), (rY, .inl (cI, 80, .inl (zA fY))), (rL, .inl (cI, 20, .inl (zA fL)))] sz) (fun (u : (Int → Int) × Int × (Int → Int) × (Int → Int) × (Int → Int) × (Int → Int)) => (∀ i, 0 ≤ i → i < fM a → lwP (fM a) (stepP (sh fT (20 * a)) (sh fX (20 * a)) (sh fY (20 * a)) e1) (u.1) i) ∧ keptP (fM a) (stepP (sh fT (20 * a)) (sh fX (20 * a)) (sh fY (20 * a)) e1) (fun i => (u.1) i - 1) (u.2.1) (u.2.2.1) ∧ u.2.1 = (u.1) 0 ∧ (okT (u.2.2.2.1) ∧ okC (u.2.2.2.2.1) ∧ okC (u.2.2.2.2.2)) ∧ (∀ j, 0 ≤ j → j < u.2.1 → (u.2.2.2.1) (20 * a + j) = fT (20 * a + (u.2.2.1) j) ∧ (u.2.2.2.2.1) (20 * a + j) = fX (20 * a + (u.2.2.1) j) ∧ (u.2.2.2.2.2) (20 * a + j) = fY (20 * a + (u.2.2.1) j)) ∧ ∀ q, (q < 20 * a ∨ 20 * a + 20 ≤ q) → (u.2.2.2.1) q = fT q ∧ (u.2.2.2.2.1) q = fX q ∧ (u.2.2.2.2.2) q = fY q) (fun (u : (Int → Int) × Int × (Int → Int) × (Int → Int) × (Int → Int) × (Int → Int)) => [(hm, .inr (7, [.int (iI th), .ref rS, .ref rM, .ref rB, .ref rT, .ref rX, .ref rY, .ref rL, .int (iI sz1), .ref rR, .int (iI at1), .long (lI nu), .ref rt, .ref rx, .ref ry, .int (iI fo), .ref rF, .ref rG, .ref rU, .ref rV, .long (lI lo), .long (lI lB), .long (lI hi), .long (lI hB1)])), (rM, .inl (cI, 4, .inl (zA (uZ fM a u.2.1)))), (rT, .inl (cI, 80, .inl (zA u.2.2.2.1))), (rX, .inl (cI, 80, .inl (zA u.2.2.2.2.1))), (rY, .inl (cI, 80, .inl (zA u.2.2.2.2.2))), (rL, .inl (cI, 20, .inl (zA u.1)))])) 0 0 (va_A [(hm, .inr (7, [.int (iI th), .ref rS, .ref rM, .ref rB, .ref rT, .ref rX, .ref rY, .ref rL, .int (iI sz1), .ref rR, .int (iI at1), .long (lI nu), .ref rt, .ref rx, .ref ry, .int (iI fo), .ref rF, .ref rG, .ref rU, .ref rV, .long (lI lo), .long (lI lB), .long (lI hi), .long (lI hB1)])), (rM, .inl (cI, 4, .inl (zA fM))), (rT, .inl (cI, 80, .inl (zA fT))), (rX, .inl (cI, 80, .inl (zA fX))), (rY, .inl (cI, 80, .inl (zA fY))), (rL, .inl (cI, 20, .inl (zA fL)))] sz) := by
  refine zMv (cc := cX7_thin) (maxL := 9) (ret := none) (by decide) rfl (Nat.le_of_ble_eq_true rfl) ?_
  intro p e s m below meth c A ls hE
  obtain ⟨hx, hb, hr, hts, hown, hlocks, hml, hnm, hP, hK, hD, hA, hS, hl⟩ := hE
  have hown : s.vm.findClass RX7 = some m.cls := hown
  have hl : lv_has ls 9 [(0, .ref hm), (1, .int (iI a)), (2, .int (iI e1))] := hl
  have hin7 : ∀ w ∈ wsX70, w ∈ wsX7_thin := by decide +kernel
  obtain ⟨Q, hQ⟩ : ∃ Q, Q = MQ below (zQv D (TY cI cJ cT) A (fun (u : (Int → Int) × Int × (Int → Int) × (Int → Int) × (Int → Int) × (Int → Int)) => (∀ i, 0 ≤ i → i < fM a → lwP (fM a) (stepP (sh fT (20 * a)) (sh fX (20 * a)) (sh fY (20 * a)) e1) (u.1) i) ∧ keptP (fM a) (stepP (sh fT (20 * a)) (sh fX (20 * a)) (sh fY (20 * a)) e1) (fun i => (u.1) i - 1) (u.2.1) (u.2.2.1) ∧ u.2.1 = (u.1) 0 ∧ (okT (u.2.2.2.1) ∧ okC (u.2.2.2.2.1) ∧ okC (u.2.2.2.2.2)) ∧ (∀ j, 0 ≤ j → j < u.2.1 → (u.2.2.2.1) (20 * a + j) = fT (20 * a + (u.2.2.1) j) ∧ (u.2.2.2.2.1) (20 * a + j) = fX (20 * a + (u.2.2.1) j) ∧ (u.2.2.2.2.2) (20 * a + j) = fY (20 * a + (u.2.2.1) j)) ∧ ∀ q, (q < 20 * a ∨ 20 * a + 20 ≤ q) → (u.2.2.2.1) q = fT q ∧ (u.2.2.2.2.1) q = fX q ∧ (u.2.2.2.2.2) q = fY q) (fun (u : (Int → Int) × Int × (Int → Int) × (Int → Int) × (Int → Int) × (Int → Int)) => [(hm, .inr (7, [.int (iI th), .ref rS, .ref rM, .ref rB, .ref rT, .ref rX, .ref rY, .ref rL, .int (iI sz1), .ref rR, .int (iI at1), .long (lI nu), .ref rt, .ref rx, .ref ry, .int (iI fo), .ref rF, .ref rG, .ref rU, .ref rV, .long (lI lo), .long (lI lB), .long (lI hi), .long (lI hB1)])), (rM, .inl (cI, 4, .inl (zA (uZ fM a u.2.1)))), (rT, .inl (cI, 80, .inl (zA u.2.2.2.1))), (rX, .inl (cI, 80, .inl (zA u.2.2.2.2.1))), (rY, .inl (cI, 80, .inl (zA u.2.2.2.2.2))), (rL, .inl (cI, 20, .inl (zA u.1)))])) ([.ref hm, .int (iI a), .int (iI e1)] : List Value).toArray s 0 0 A := ⟨_, rfl⟩
  rw [← hQ]
  refine lv_bipush (v := iI 20) hx hb dX7_thin_0 (by decide) ?_
  refine lv_iload_n hx hb dX7_thin_2 rfl (lv_at hl 1 rfl) ?_
  refine wz_imul hx hb dX7_thin_3 ?_
  refine lv_istore_n (lv' := [(3, .int (iI (20 * a))), (0, .ref hm), (1, .int (iI a)), (2, .int (iI e1))]) hx hb dX7_thin_4 rfl hl (by decide) rfl (fun ls hl => ?_)
  refine lv_aload_n hx hb dX7_thin_5 rfl (lv_at hl 1 rfl) ?_
  refine va_get (D := D) (ci := 7) (v := .ref rM) (C := RX7) (T := TX7) (N := 24) hx hb hts hin7 hown hK hP 0 rfl rfl 2 (by decide) (hts (.fieldLink RX7 13 "DriftLogModel" "many" "[I") (by decide +kernel)) (fun _ h9 => h9) rfl dX7_thin_6 ?_
  refine lv_iload_n hx hb dX7_thin_9 rfl (lv_at hl 2 rfl) ?_
  refine wz_iald (tys := TY cI cJ cT) hx hb hK hP 1 0 rfl rfl (by decide) (by constructor <;> omega) dX7_thin_10 ?_
  obtain ⟨n, en⟩ : ∃ y : Int, y = (fM a) := ⟨_, rfl⟩
  rw [← en]
  refine lv_istore (lv' := [(4, .int (iI n)), (3, .int (iI (20 * a))), (0, .ref hm), (1, .int (iI a)), (2, .int (iI e1))]) hx hb dX7_thin_11 hl (by decide) rfl (fun ls hl => ?_)
  have hn : 1 ≤ n ∧ n ≤ 20 := by rw [en]; exact hn0
  refine lv_iload hx hb dX7_thin_13 (lv_at hl 0 rfl) ?_
  refine lv_iconst (v := iI 1) hx hb dX7_thin_15 rfl ?_
  refine wz_isub hx hb dX7_thin_16 ?_
  refine lv_istore (lv' := [(5, .int (iI (n - 1))), (4, .int (iI n)), (3, .int (iI (20 * a))), (0, .ref hm), (1, .int (iI a)), (2, .int (iI e1))]) hx hb dX7_thin_17 hl (by decide) rfl (fun ls hl => ?_)
  have LP19 : ∀ (N19 : Nat) (i : Int) (gl : Int → Int) (H : Heap) (locs : List Loc) (ls : Array Slot), ((-1 ≤ i ∧ i < n) ∧ (∀ k, i < k → k < n → lwP n (stepP (sh fT (20 * a)) (sh fX (20 * a)) (sh fY (20 * a)) e1) gl k)) → (i + 1) < (N19 : Int) → va_P D vwCl [(hm, .inr (7, [.int (iI th), .ref rS, .ref rM, .ref rB, .ref rT, .ref rX, .ref rY, .ref rL, .int (iI sz1), .ref rR, .int (iI at1), .long (lI nu), .ref rt, .ref rx, .ref ry, .int (iI fo), .ref rF, .ref rG, .ref rU, .ref rV, .long (lI lo), .long (lI lB), .long (lI hi), .long (lI hB1)])), (rM, .inl (cI, 4, .inl (zA fM))), (rT, .inl (cI, 80, .inl (zA fT))), (rX, .inl (cI, 80, .inl (zA fX))), (rY, .inl (cI, 80, .inl (zA fY))), (rL, .inl (cI, 20, .inl (zA gl)))] H → va_D A [(hm, .inr (7, [.int (iI th), .ref rS, .ref rM, .ref rB, .ref rT, .ref rX, .ref rY, .ref rL, .int (iI sz1), .ref rR, .int (iI at1), .long (lI nu), .ref rt, .ref rx, .ref ry, .int (iI fo), .ref rF, .ref rG, .ref rU, .ref rV, .long (lI lo), .long (lI lB), .long (lI hi), .long (lI hB1)])), (rM, .inl (cI, 4, .inl (zA fM))), (rT, .inl (cI, 80, .inl (zA fT))), (rX, .inl (cI, 80, .inl (zA fX))), (rY, .inl (cI, 80, .inl (zA fY))), (rL, .inl (cI, 20, .inl (zA gl)))] → va_S A s.heap H locs → lv_has ls 9 [(0, .ref hm), (1, .int (iI a)), (2, .int (iI e1)), (3, .int (iI (20 * a))), (4, .int (iI n)), (5, .int (iI i))] → W p l e { frames := 2, cells := 0, slots := 0, locals := 53 } s m ([.ref hm, .int (iI a), .int (iI e1)] : List Value).toArray below meth c H locs 0 0 Q (F0 m 19 ls []) := by
    intro N19
    induction N19 with
    | zero =>
      intro i gl H locs ls hI hm
      obtain ⟨a1, a3⟩ := hI
      exfalso; omega
    | succ N19 ih19 =>
      intro i gl H locs ls hI hm19 hP hD hS hl
      obtain ⟨a1, a3⟩ := hI
      refine lv_iload hx hb dX7_thin_19 (lv_at hl 5 rfl) ?_
      refine wz_if_lt (tgt := 144) hx hb dX7_thin_21 (by decide) ⟨by omega, by omega⟩ (fun c21 => ?_) (fun c21 => ?_)
      · skip
        have aL : ∀ k, 0 ≤ k → k < n → lwP n (stepP (sh fT (20 * a)) (sh fX (20 * a)) (sh fY (20 * a)) e1) gl k := fun k h1 h2 => a3 k (by omega) h2
        have g0 := (aL 0 (by omega) (by omega)).1
        refine lv_iconst (v := iI 0) hx hb dX7_thin_144 rfl ?_
        refine lv_istore (lv' := [(5, .int (iI 0)), (0, .ref hm), (1, .int (iI a)), (2, .int (iI e1)), (3, .int (iI (20 * a))), (4, .int (iI n))]) hx hb dX7_thin_145 hl (by decide) rfl (fun ls hl => ?_)
        refine lv_iconst (v := iI 0) hx hb dX7_thin_147 rfl ?_
        refine lv_istore (lv' := [(6, .int (iI 0)), (5, .int (iI 0)), (0, .ref hm), (1, .int (iI a)), (2, .int (iI e1)), (3, .int (iI (20 * a))), (4, .int (iI n))]) hx hb dX7_thin_148 hl (by decide) rfl (fun ls hl => ?_)
        refine lv_aload_n hx hb dX7_thin_150 rfl (lv_at hl 2 rfl) ?_
        refine va_get (D := D) (ci := 7) (v := .ref rL) (C := RX7) (T := TX7) (N := 24) hx hb hts hin7 hown hK hP 0 rfl rfl 7 (by decide) (hts (.fieldLink RX7 28 "DriftLogModel" "least" "[I") (by decide +kernel)) (fun _ h9 => h9) rfl dX7_thin_151 ?_
        refine lv_iconst (v := iI 0) hx hb dX7_thin_154 rfl ?_
        refine wz_iald (tys := TY cI cJ cT) hx hb hK hP 5 0 rfl rfl (by decide) (by constructor <;> omega) dX7_thin_155 ?_
        refine lv_istore (lv' := [(7, .int (iI (gl 0))), (6, .int (iI 0)), (5, .int (iI 0)), (0, .ref hm), (1, .int (iI a)), (2, .int (iI e1)), (3, .int (iI (20 * a))), (4, .int (iI n))]) hx hb dX7_thin_156 hl (by decide) rfl (fun ls hl => ?_)
        have LP158 : ∀ (N158 : Nat) (kk : Int) (i2 : Int) (lf : Int) (kp : Int → Int) (gT : Int → Int) (gX : Int → Int) (gY : Int → Int) (H : Heap) (locs : List Loc) (ls : Array Slot), ((0 ≤ kk ∧ 0 ≤ lf ∧ kk + lf = gl 0) ∧ (0 < lf → 0 ≤ i2 ∧ i2 < n ∧ lf = gl i2 ∧ kp kk = i2 ∧ kk ≤ i2) ∧ kp 0 = 0 ∧ (∀ j, 0 ≤ j → (j + 1 < kk ∨ j + 1 = kk ∧ 0 < lf) → nextP n (stepP (sh fT (20 * a)) (sh fX (20 * a)) (sh fY (20 * a)) e1) (fun q => gl q - 1) (kp j) (kp (j + 1))) ∧ (okT gT ∧ okC gX ∧ okC gY) ∧ (∀ j, 0 ≤ j → j < kk → gT (20 * a + j) = fT (20 * a + kp j) ∧ gX (20 * a + j) = fX (20 * a + kp j) ∧ gY (20 * a + j) = fY (20 * a + kp j)) ∧ (∀ j, i2 ≤ j → gT (20 * a + j) = fT (20 * a + j) ∧ gX (20 * a + j) = fX (20 * a + j) ∧ gY (20 * a + j) = fY (20 * a + j)) ∧ (∀ q, (q < 20 * a ∨ 20 * a + 20 ≤ q) → gT q = fT q ∧ gX q = fX q ∧ gY q = fY q) ∧ (∀ j, 0 ≤ j → j < kk → gl (kp j) = gl 0 - j ∧ 0 ≤ kp j)) → (lf) < (N158 : Int) → va_P D vwCl [(hm, .inr (7, [.int (iI th), .ref rS, .ref rM, .ref rB, .ref rT, .ref rX, .ref rY, .ref rL, .int (iI sz1), .ref rR, .int (iI at1), .long (lI nu), .ref rt, .ref rx, .ref ry, .int (iI fo), .ref rF, .ref rG, .ref rU, .ref rV, .long (lI lo), .long (lI lB), .long (lI hi), .long (lI hB1)])), (rM, .inl (cI, 4, .inl (zA fM))), (rT, .inl (cI, 80, .inl (zA gT))), (rX, .inl (cI, 80, .inl (zA gX))), (rY, .inl (cI, 80, .inl (zA gY))), (rL, .inl (cI, 20, .inl (zA gl)))] H → va_D A [(hm, .inr (7, [.int (iI th), .ref rS, .ref rM, .ref rB, .ref rT, .ref rX, .ref rY, .ref rL, .int (iI sz1), .ref rR, .int (iI at1), .long (lI nu), .ref rt, .ref rx, .ref ry, .int (iI fo), .ref rF, .ref rG, .ref rU, .ref rV, .long (lI lo), .long (lI lB), .long (lI hi), .long (lI hB1)])), (rM, .inl (cI, 4, .inl (zA fM))), (rT, .inl (cI, 80, .inl (zA gT))), (rX, .inl (cI, 80, .inl (zA gX))), (rY, .inl (cI, 80, .inl (zA gY))), (rL, .inl (cI, 20, .inl (zA gl)))] → va_S A s.heap H locs → lv_has ls 9 [(0, .ref hm), (1, .int (iI a)), (2, .int (iI e1)), (3, .int (iI (20 * a))), (4, .int (iI n)), (5, .int (iI kk)), (6, .int (iI i2)), (7, .int (iI lf))] → W p l e { frames := 2, cells := 0, slots := 0, locals := 53 } s m ([.ref hm, .int (iI a), .int (iI e1)] : List Value).toArray below meth c H locs 0 0 Q (F0 m 158 ls []) := by
          intro N158
          induction N158 with
          | zero =>
            intro kk i2 lf kp gT gX gY H locs ls hI hm
            obtain ⟨d1, d2, d3, d4, d5, d6, d7, d8, d9⟩ := hI
            exfalso; omega
          | succ N158 ih158 =>
            intro kk i2 lf kp gT gX gY H locs ls hI hm158 hP hD hS hl
            obtain ⟨d1, d2, d3, d4, d5, d6, d7, d8, d9⟩ := hI
            refine lv_iload hx hb dX7_thin_158 (lv_at hl 7 rfl) ?_
            refine wz_if_le (tgt := 236) hx hb dX7_thin_160 (by decide) (by constructor <;> omega) (fun c160 => ?_) (fun c160 => ?_)
            · skip
              refine lv_aload_n hx hb dX7_thin_236 rfl (lv_at hl 0 rfl) ?_
              refine va_get (D := D) (ci := 7) (v := .ref rM) (C := RX7) (T := TX7) (N := 24) hx hb hts hin7 hown hK hP 0 rfl rfl 2 (by decide) (hts (.fieldLink RX7 13 "DriftLogModel" "many" "[I") (by decide +kernel)) (fun _ h9 => h9) rfl dX7_thin_237 ?_
              refine lv_iload_n hx hb dX7_thin_240 rfl (lv_at hl 1 rfl) ?_
              refine lv_iload hx hb dX7_thin_241 (lv_at hl 5 rfl) ?_
              refine wz_iast (tys := TY cI cJ cT) hx hb hK hP hD hS 1 0 rfl rfl (by decide) (by constructor <;> omega) dX7_thin_243 (fun H locs hP hD hS => ?_)
              have hP : va_P D vwCl [(hm, .inr (7, [.int (iI th), .ref rS, .ref rM, .ref rB, .ref rT, .ref rX, .ref rY, .ref rL, .int (iI sz1), .ref rR, .int (iI at1), .long (lI nu), .ref rt, .ref rx, .ref ry, .int (iI fo), .ref rF, .ref rG, .ref rU, .ref rV, .long (lI lo), .long (lI lB), .long (lI hi), .long (lI hB1)])), (rM, .inl (cI, 4, .inl (zA (uZ fM a kk)))), (rT, .inl (cI, 80, .inl (zA gT))), (rX, .inl (cI, 80, .inl (zA gX))), (rY, .inl (cI, 80, .inl (zA gY))), (rL, .inl (cI, 20, .inl (zA gl)))] H := hP
              have hD : va_D A [(hm, .inr (7, [.int (iI th), .ref rS, .ref rM, .ref rB, .ref rT, .ref rX, .ref rY, .ref rL, .int (iI sz1), .ref rR, .int (iI at1), .long (lI nu), .ref rt, .ref rx, .ref ry, .int (iI fo), .ref rF, .ref rG, .ref rU, .ref rV, .long (lI lo), .long (lI lB), .long (lI hi), .long (lI hB1)])), (rM, .inl (cI, 4, .inl (zA (uZ fM a kk)))), (rT, .inl (cI, 80, .inl (zA gT))), (rX, .inl (cI, 80, .inl (zA gX))), (rY, .inl (cI, 80, .inl (zA gY))), (rL, .inl (cI, 20, .inl (zA gl)))] := hD
              rw [hQ]
              exact wz_retv (tys := TY cI cJ cT) (gl, kk, kp, gT, gX, gY) hx hb hr hlocks hK hP hD hS (by (try dsimp only); exact (by have ek : kk = gl 0 := (by omega); have dd := d9 (kk - 1) (by omega) (by omega); rw [← en]; exact ⟨aL, ⟨by omega, by omega, d3, fun j h1 h2 => d4 j h1 (Or.inl (by omega)), fun t h1 h2 q => by have w := (aL t (by omega) h2).1; have w2 : gl t - 1 = gl (kp (kk - 1)) - 1 - 1 := q.1; omega⟩, ek, d5, d6, d8⟩)) dX7_thin_244
            · skip
              refine lv_iload hx hb dX7_thin_163 (lv_at hl 6 rfl) ?_
              refine lv_iconst (v := iI 1) hx hb dX7_thin_165 rfl ?_
              refine wz_iadd hx hb dX7_thin_166 ?_
              refine lv_istore (lv' := [(8, .int (iI (i2 + 1))), (0, .ref hm), (1, .int (iI a)), (2, .int (iI e1)), (3, .int (iI (20 * a))), (4, .int (iI n)), (5, .int (iI kk)), (6, .int (iI i2)), (7, .int (iI lf))]) hx hb dX7_thin_167 hl (by decide) rfl (fun ls hl => ?_)
              have LP169 : ∀ (N169 : Nat) (nx : Int) (H : Heap) (locs : List Loc) (ls : Array Slot), (i2 < nx ∧ (lf ≤ 1 → nx = i2 + 1) ∧ (1 < lf → (∀ t, i2 < t → t < nx → ¬ (gl t - 1 = gl i2 - 1 - 1 ∧ (stepP (sh fT (20 * a)) (sh fX (20 * a)) (sh fY (20 * a)) e1) i2 t)) ∧ ∃ j, nx ≤ j ∧ j < n ∧ (stepP (sh fT (20 * a)) (sh fX (20 * a)) (sh fY (20 * a)) e1) i2 j ∧ gl j = lf - 1)) → (20 - nx) < (N169 : Int) → va_P D vwCl [(hm, .inr (7, [.int (iI th), .ref rS, .ref rM, .ref rB, .ref rT, .ref rX, .ref rY, .ref rL, .int (iI sz1), .ref rR, .int (iI at1), .long (lI nu), .ref rt, .ref rx, .ref ry, .int (iI fo), .ref rF, .ref rG, .ref rU, .ref rV, .long (lI lo), .long (lI lB), .long (lI hi), .long (lI hB1)])), (rM, .inl (cI, 4, .inl (zA fM))), (rT, .inl (cI, 80, .inl (zA gT))), (rX, .inl (cI, 80, .inl (zA gX))), (rY, .inl (cI, 80, .inl (zA gY))), (rL, .inl (cI, 20, .inl (zA gl)))] H → va_D A [(hm, .inr (7, [.int (iI th), .ref rS, .ref rM, .ref rB, .ref rT, .ref rX, .ref rY, .ref rL, .int (iI sz1), .ref rR, .int (iI at1), .long (lI nu), .ref rt, .ref rx, .ref ry, .int (iI fo), .ref rF, .ref rG, .ref rU, .ref rV, .long (lI lo), .long (lI lB), .long (lI hi), .long (lI hB1)])), (rM, .inl (cI, 4, .inl (zA fM))), (rT, .inl (cI, 80, .inl (zA gT))), (rX, .inl (cI, 80, .inl (zA gX))), (rY, .inl (cI, 80, .inl (zA gY))), (rL, .inl (cI, 20, .inl (zA gl)))] → va_S A s.heap H locs → lv_has ls 9 [(0, .ref hm), (1, .int (iI a)), (2, .int (iI e1)), (3, .int (iI (20 * a))), (4, .int (iI n)), (5, .int (iI kk)), (6, .int (iI i2)), (7, .int (iI lf)), (8, .int (iI nx))] → W p l e { frames := 2, cells := 0, slots := 0, locals := 53 } s m ([.ref hm, .int (iI a), .int (iI e1)] : List Value).toArray below meth c H locs 0 0 Q (F0 m 169 ls []) := by
                intro N169
                induction N169 with
                | zero =>
                  intro nx H locs ls hI hm
                  obtain ⟨e1a, e2, e3⟩ := hI
                  exfalso; (have w := d2 (by omega); rcases Int.lt_or_le 1 lf with q | q; (obtain ⟨_, jj, j1, j2, _⟩ := e3 q; omega); (have := e2 q; omega))
                | succ N169 ih169 =>
                  intro nx H locs ls hI hm169 hP hD hS hl
                  obtain ⟨e1a, e2, e3⟩ := hI
                  refine lv_iload hx hb dX7_thin_169 (lv_at hl 7 rfl) ?_
                  refine lv_iconst (v := iI 1) hx hb dX7_thin_171 rfl ?_
                  refine wz_icmp_le (tgt := 211) hx hb dX7_thin_172 (by decide) (by constructor <;> omega) (by decide) (fun c172 => ?_) (fun c172 => ?_)
                  · skip
                    have ri := d2 (by omega)
                    refine lv_aload_n hx hb dX7_thin_211 rfl (lv_at hl 0 rfl) ?_
                    refine lv_iload_n hx hb dX7_thin_212 rfl (lv_at hl 3 rfl) ?_
                    refine lv_iload hx hb dX7_thin_213 (lv_at hl 5 rfl) ?_
                    refine wz_iadd hx hb dX7_thin_215 ?_
                    refine lv_iload_n hx hb dX7_thin_216 rfl (lv_at hl 3 rfl) ?_
                    refine lv_iload hx hb dX7_thin_217 (lv_at hl 6 rfl) ?_
                    refine wz_iadd hx hb dX7_thin_219 ?_
                    refine wz_callv (wr := [(rM, .inl (cI, 4, .inl (zA fM))), (rL, .inl (cI, 20, .inl (zA gl)))]) (va_runV (As := [.int (iI ((20 * a) + kk)), .int (iI ((20 * a) + i2))]) (rest := []) ⟨hx, hb, hml, hown, hts⟩ (k_X7_keep l D cI cJ cT H.size hm th rS rM rB rT rX rY rL sz1 rR at1 nu rt rx ry fo rF rG rU rV lo lB hi hB1 gT gX gY ((20 * a) + kk) ((20 * a) + i2) (by constructor <;> omega) (by constructor <;> omega)) (cwV 2 hts gX7_thin_X7_keep rfl rfl rfl (by decide +kernel) ⟨Nat.le_of_ble_eq_true rfl, Nat.le_of_ble_eq_true rfl⟩) (wz_preV hK hP hD [0, 2, 3, 4] (by decide) rfl rfl 7 0 rfl rfl) rfl rfl hl.1 rfl (lv_room (Nat.le_of_ble_eq_true rfl)) dX7_thin_220 ⟨Nat.le_of_ble_eq_true rfl, Nat.le_of_ble_eq_true rfl⟩) hP hD hS hA [0, 2, 3, 4] [1, 5] rfl rfl rfl (by decide) (fun  u H locs hw220 hP hD hS => ?_)
                    have hP : va_P D vwCl [(hm, .inr (7, [.int (iI th), .ref rS, .ref rM, .ref rB, .ref rT, .ref rX, .ref rY, .ref rL, .int (iI sz1), .ref rR, .int (iI at1), .long (lI nu), .ref rt, .ref rx, .ref ry, .int (iI fo), .ref rF, .ref rG, .ref rU, .ref rV, .long (lI lo), .long (lI lB), .long (lI hi), .long (lI hB1)])), (rM, .inl (cI, 4, .inl (zA fM))), (rT, .inl (cI, 80, .inl (zA (uZ gT ((20 * a) + kk) (gT ((20 * a) + i2)))))), (rX, .inl (cI, 80, .inl (zA (uZ gX ((20 * a) + kk) (gX ((20 * a) + i2)))))), (rY, .inl (cI, 80, .inl (zA (uZ gY ((20 * a) + kk) (gY ((20 * a) + i2)))))), (rL, .inl (cI, 20, .inl (zA gl)))] H := hP.sub [2, 0, 3, 4, 5, 1] rfl
                    have hD : va_D A [(hm, .inr (7, [.int (iI th), .ref rS, .ref rM, .ref rB, .ref rT, .ref rX, .ref rY, .ref rL, .int (iI sz1), .ref rR, .int (iI at1), .long (lI nu), .ref rt, .ref rx, .ref ry, .int (iI fo), .ref rF, .ref rG, .ref rU, .ref rV, .long (lI lo), .long (lI lB), .long (lI hi), .long (lI hB1)])), (rM, .inl (cI, 4, .inl (zA fM))), (rT, .inl (cI, 80, .inl (zA (uZ gT ((20 * a) + kk) (gT ((20 * a) + i2)))))), (rX, .inl (cI, 80, .inl (zA (uZ gX ((20 * a) + kk) (gX ((20 * a) + i2)))))), (rY, .inl (cI, 80, .inl (zA (uZ gY ((20 * a) + kk) (gY ((20 * a) + i2)))))), (rL, .inl (cI, 20, .inl (zA gl)))] := hD.sub [2, 0, 3, 4, 5, 1] (by decide) rfl
                    refine lv_iinc (v := iI (kk + 1)) (lv' := [(5, .int (iI (kk + 1))), (0, .ref hm), (1, .int (iI a)), (2, .int (iI e1)), (3, .int (iI (20 * a))), (4, .int (iI n)), (6, .int (iI i2)), (7, .int (iI lf)), (8, .int (iI nx))]) hx hb dX7_thin_223 hl (k := 5) rfl (iI_add _ _) (by decide) rfl (fun ls hl => ?_)
                    refine lv_iload hx hb dX7_thin_226 (lv_at hl 8 rfl) ?_
                    refine lv_istore (lv' := [(6, .int (iI nx)), (5, .int (iI (kk + 1))), (0, .ref hm), (1, .int (iI a)), (2, .int (iI e1)), (3, .int (iI (20 * a))), (4, .int (iI n)), (7, .int (iI lf)), (8, .int (iI nx))]) hx hb dX7_thin_228 hl (by decide) rfl (fun ls hl => ?_)
                    refine lv_iinc (v := iI (lf + (-1))) (lv' := [(7, .int (iI (lf + (-1)))), (6, .int (iI nx)), (5, .int (iI (kk + 1))), (0, .ref hm), (1, .int (iI a)), (2, .int (iI e1)), (3, .int (iI (20 * a))), (4, .int (iI n)), (8, .int (iI nx))]) hx hb dX7_thin_230 hl (k := 7) rfl (iI_add _ _) (by decide) rfl (fun ls hl => ?_)
                    refine lv_goto (tgt := 158) hx hb dX7_thin_233 (by decide) ?_
                    exact ih158 (kk + 1) nx (lf + (-1)) (uZ kp (kk + 1) nx) (uZ gT ((20 * a) + kk) (gT ((20 * a) + i2))) (uZ gX ((20 * a) + kk) (gX ((20 * a) + i2))) (uZ gY ((20 * a) + kk) (gY ((20 * a) + i2))) _ _ _ ⟨(by omega), (fun h => ⟨by omega, by first | omega | (have := e3 (by omega); omega), by first | omega | (have := e3 (by omega); omega), uZ_s _ _ _, by omega⟩), (by rw [uZ_n _ (by omega)]; exact d3), (fun j h1 h2 => by
                rw [uZ_n _ (show j ≠ kk + 1 by omega)]
                rcases Int.lt_or_eq_of_le (show j ≤ kk by omega) with q | q
                · rw [uZ_n _ (show j + 1 ≠ kk + 1 by omega)]
                  exact d4 j h1 (by omega)
                · subst q
                  rw [uZ_s, ri.2.2.2.1]
                  first | exact ⟨by omega, by omega, (by show gl nx - 1 = gl i2 - 1 - 1; omega), nst, e4⟩ | (exfalso; omega)), (⟨okT_u d5.1 (d5.1 _).1 (d5.1 _).2, okC_u d5.2.1 (d5.2.1 _).1 (d5.2.1 _).2, okC_u d5.2.2 (d5.2.2 _).1 (d5.2.2 _).2⟩), (fun j h1 h2 => by
                rw [uZ_n _ (show j ≠ kk + 1 by omega)]
                rcases Int.lt_or_eq_of_le (show j ≤ kk by omega) with q | q
                · rw [uZ_n _ (by omega), uZ_n _ (by omega), uZ_n _ (by omega)]
                  exact d6 j h1 q
                · subst q
                  rw [uZ_s, uZ_s, uZ_s, ri.2.2.2.1]
                  exact d7 i2 (Int.le_refl _)), (fun j h1 => by rw [uZ_n _ (by omega), uZ_n _ (by omega), uZ_n _ (by omega)]; exact d7 j (by omega)), (fun q h => by rw [uZ_n _ (by omega), uZ_n _ (by omega), uZ_n _ (by omega)]; exact d8 q h), (fun j h1 h2 => by
                rw [uZ_n _ (show j ≠ kk + 1 by omega)]
                rcases Int.lt_or_eq_of_le (show j ≤ kk by omega) with q | q
                · exact d9 j h1 q
                · subst q
                  rw [ri.2.2.2.1]
                  omega)⟩ (by omega) hP hD hS (lv_sub hl [3, 4, 5, 6, 7, 2, 1, 0] rfl)
                  · skip
                    obtain ⟨e4, jj, j1, j2, j3, j4⟩ := e3 c172
                    have rn := (aL nx (by omega) (by omega)).1
                    have ri := d2 (by omega)
                    refine lv_aload_n hx hb dX7_thin_175 rfl (lv_at hl 0 rfl) ?_
                    refine va_get (D := D) (ci := 7) (v := .ref rL) (C := RX7) (T := TX7) (N := 24) hx hb hts hin7 hown hK hP 0 rfl rfl 7 (by decide) (hts (.fieldLink RX7 28 "DriftLogModel" "least" "[I") (by decide +kernel)) (fun _ h9 => h9) rfl dX7_thin_176 ?_
                    refine lv_iload hx hb dX7_thin_179 (lv_at hl 8 rfl) ?_
                    refine wz_iald (tys := TY cI cJ cT) hx hb hK hP 5 0 rfl rfl (by decide) (by constructor <;> omega) dX7_thin_181 ?_
                    refine lv_iload hx hb dX7_thin_182 (lv_at hl 7 rfl) ?_
                    refine lv_iconst (v := iI 1) hx hb dX7_thin_184 rfl ?_
                    refine wz_isub hx hb dX7_thin_185 ?_
                    refine wz_icmp_ne (tgt := 205) hx hb dX7_thin_186 (by decide) (by constructor <;> omega) (by constructor <;> omega) (fun c186 => ?_) (fun c186 => ?_)
                    · skip
                      refine lv_iinc (v := iI (nx + 1)) (lv' := [(8, .int (iI (nx + 1))), (0, .ref hm), (1, .int (iI a)), (2, .int (iI e1)), (3, .int (iI (20 * a))), (4, .int (iI n)), (5, .int (iI kk)), (6, .int (iI i2)), (7, .int (iI lf))]) hx hb dX7_thin_205 hl (k := 8) rfl (iI_add _ _) (by decide) rfl (fun ls hl => ?_)
                      refine lv_goto (tgt := 169) hx hb dX7_thin_208 (by decide) ?_
                      exact ih169 (nx + 1) _ _ _ ⟨(by omega), (fun h => by omega), (fun h => ⟨fun t h1 h2 q => by rcases Int.lt_or_eq_of_le (show t ≤ nx by omega) with w | w; exact e4 t h1 w q; subst w; first | omega | exact c202 (se.mpr q.2), jj, by rcases Int.lt_or_eq_of_le j1 with w | w; omega; subst w; first | omega | exact absurd (se.mpr j3) c202, j2, j3, j4⟩)⟩ (by omega) hP hD hS (lv_sub hl [1, 2, 3, 4, 5, 6, 7, 8, 0] rfl)
                    · skip
                      refine lv_aload_n hx hb dX7_thin_189 rfl (lv_at hl 0 rfl) ?_
                      refine lv_iload_n hx hb dX7_thin_190 rfl (lv_at hl 3 rfl) ?_
                      refine lv_iload hx hb dX7_thin_191 (lv_at hl 6 rfl) ?_
                      refine wz_iadd hx hb dX7_thin_193 ?_
                      refine lv_iload_n hx hb dX7_thin_194 rfl (lv_at hl 3 rfl) ?_
                      refine lv_iload hx hb dX7_thin_195 (lv_at hl 8 rfl) ?_
                      refine wz_iadd hx hb dX7_thin_197 ?_
                      refine lv_iload_n hx hb dX7_thin_198 rfl (lv_at hl 2 rfl) ?_
                      refine wz_calli (wr := [(rM, .inl (cI, 4, .inl (zA fM))), (rL, .inl (cI, 20, .inl (zA gl)))]) (va_runV (As := [.int (iI ((20 * a) + i2)), .int (iI ((20 * a) + nx)), .int (iI e1)]) (rest := []) ⟨hx, hb, hml, hown, hts⟩ (k_X7_follows l D cI cJ cT H.size hm th rS rM rB rT rX rY rL sz1 rR at1 nu rt rx ry fo rF rG rU rV lo lB hi hB1 gT gX gY ((20 * a) + i2) ((20 * a) + nx) e1 (d5.1) (d5.2.1) (d5.2.2) (by constructor <;> omega) (by omega) (he)) (cwV 3 hts gX7_thin_X7_follows rfl rfl rfl (by decide +kernel) ⟨Nat.le_of_ble_eq_true rfl, Nat.le_of_ble_eq_true rfl⟩) (wz_preV hK hP hD [0, 2, 3, 4] (by decide) rfl rfl 7 0 rfl rfl) rfl rfl hl.1 rfl (lv_room (Nat.le_of_ble_eq_true rfl)) dX7_thin_199 ⟨Nat.le_of_ble_eq_true rfl, Nat.le_of_ble_eq_true rfl⟩) hP hD hS hA [0, 2, 3, 4] [1, 5] rfl rfl rfl (by decide) (fun z199 u H locs hw199 hP hD hS => ?_)
                      have hP : va_P D vwCl [(hm, .inr (7, [.int (iI th), .ref rS, .ref rM, .ref rB, .ref rT, .ref rX, .ref rY, .ref rL, .int (iI sz1), .ref rR, .int (iI at1), .long (lI nu), .ref rt, .ref rx, .ref ry, .int (iI fo), .ref rF, .ref rG, .ref rU, .ref rV, .long (lI lo), .long (lI lB), .long (lI hi), .long (lI hB1)])), (rM, .inl (cI, 4, .inl (zA fM))), (rT, .inl (cI, 80, .inl (zA gT))), (rX, .inl (cI, 80, .inl (zA gX))), (rY, .inl (cI, 80, .inl (zA gY))), (rL, .inl (cI, 20, .inl (zA gl)))] H := hP.sub [2, 0, 3, 4, 5, 1] rfl
                      have hD : va_D A [(hm, .inr (7, [.int (iI th), .ref rS, .ref rM, .ref rB, .ref rT, .ref rX, .ref rY, .ref rL, .int (iI sz1), .ref rR, .int (iI at1), .long (lI nu), .ref rt, .ref rx, .ref ry, .int (iI fo), .ref rF, .ref rG, .ref rU, .ref rV, .long (lI lo), .long (lI lB), .long (lI hi), .long (lI hB1)])), (rM, .inl (cI, 4, .inl (zA fM))), (rT, .inl (cI, 80, .inl (zA gT))), (rX, .inl (cI, 80, .inl (zA gX))), (rY, .inl (cI, 80, .inl (zA gY))), (rL, .inl (cI, 20, .inl (zA gl)))] := hD.sub [2, 0, 3, 4, 5, 1] (by decide) rfl
                      subst hw199
                      have se : stepP gT gX gY e1 ((20 * a) + i2) ((20 * a) + nx) ↔ (stepP (sh fT (20 * a)) (sh fX (20 * a)) (sh fY (20 * a)) e1) i2 nx := (stepP_c (by omega) (fun q g1 _ => by have := (d7 (q - 20 * a) (by omega)).1; rw [show 20 * a + (q - 20 * a) = q by omega] at this; exact this) (fun q g1 _ => by have := (d7 (q - 20 * a) (by omega)).2.1; rw [show 20 * a + (q - 20 * a) = q by omega] at this; exact this) (fun q g1 _ => by have := (d7 (q - 20 * a) (by omega)).2.2; rw [show 20 * a + (q - 20 * a) = q by omega] at this; exact this)).trans stepP_sh
                      refine wz_ifb_ne (tgt := 211) hx hb dX7_thin_202 (by decide) (fun c202 => ?_) (fun c202 => ?_)
                      · skip
                        have ri := d2 (by omega)
                        have nst := se.mp c202
                        refine lv_aload_n hx hb dX7_thin_211 rfl (lv_at hl 0 rfl) ?_
                        refine lv_iload_n hx hb dX7_thin_212 rfl (lv_at hl 3 rfl) ?_
                        refine lv_iload hx hb dX7_thin_213 (lv_at hl 5 rfl) ?_
                        refine wz_iadd hx hb dX7_thin_215 ?_
                        refine lv_iload_n hx hb dX7_thin_216 rfl (lv_at hl 3 rfl) ?_
                        refine lv_iload hx hb dX7_thin_217 (lv_at hl 6 rfl) ?_
                        refine wz_iadd hx hb dX7_thin_219 ?_
                        refine wz_callv (wr := [(rM, .inl (cI, 4, .inl (zA fM))), (rL, .inl (cI, 20, .inl (zA gl)))]) (va_runV (As := [.int (iI ((20 * a) + kk)), .int (iI ((20 * a) + i2))]) (rest := []) ⟨hx, hb, hml, hown, hts⟩ (k_X7_keep l D cI cJ cT H.size hm th rS rM rB rT rX rY rL sz1 rR at1 nu rt rx ry fo rF rG rU rV lo lB hi hB1 gT gX gY ((20 * a) + kk) ((20 * a) + i2) (by constructor <;> omega) (by constructor <;> omega)) (cwV 2 hts gX7_thin_X7_keep rfl rfl rfl (by decide +kernel) ⟨Nat.le_of_ble_eq_true rfl, Nat.le_of_ble_eq_true rfl⟩) (wz_preV hK hP hD [0, 2, 3, 4] (by decide) rfl rfl 7 0 rfl rfl) rfl rfl hl.1 rfl (lv_room (Nat.le_of_ble_eq_true rfl)) dX7_thin_220 ⟨Nat.le_of_ble_eq_true rfl, Nat.le_of_ble_eq_true rfl⟩) hP hD hS hA [0, 2, 3, 4] [1, 5] rfl rfl rfl (by decide) (fun  u H locs hw220 hP hD hS => ?_)
                        have hP : va_P D vwCl [(hm, .inr (7, [.int (iI th), .ref rS, .ref rM, .ref rB, .ref rT, .ref rX, .ref rY, .ref rL, .int (iI sz1), .ref rR, .int (iI at1), .long (lI nu), .ref rt, .ref rx, .ref ry, .int (iI fo), .ref rF, .ref rG, .ref rU, .ref rV, .long (lI lo), .long (lI lB), .long (lI hi), .long (lI hB1)])), (rM, .inl (cI, 4, .inl (zA fM))), (rT, .inl (cI, 80, .inl (zA (uZ gT ((20 * a) + kk) (gT ((20 * a) + i2)))))), (rX, .inl (cI, 80, .inl (zA (uZ gX ((20 * a) + kk) (gX ((20 * a) + i2)))))), (rY, .inl (cI, 80, .inl (zA (uZ gY ((20 * a) + kk) (gY ((20 * a) + i2)))))), (rL, .inl (cI, 20, .inl (zA gl)))] H := hP.sub [2, 0, 3, 4, 5, 1] rfl
                        have hD : va_D A [(hm, .inr (7, [.int (iI th), .ref rS, .ref rM, .ref rB, .ref rT, .ref rX, .ref rY, .ref rL, .int (iI sz1), .ref rR, .int (iI at1), .long (lI nu), .ref rt, .ref rx, .ref ry, .int (iI fo), .ref rF, .ref rG, .ref rU, .ref rV, .long (lI lo), .long (lI lB), .long (lI hi), .long (lI hB1)])), (rM, .inl (cI, 4, .inl (zA fM))), (rT, .inl (cI, 80, .inl (zA (uZ gT ((20 * a) + kk) (gT ((20 * a) + i2)))))), (rX, .inl (cI, 80, .inl (zA (uZ gX ((20 * a) + kk) (gX ((20 * a) + i2)))))), (rY, .inl (cI, 80, .inl (zA (uZ gY ((20 * a) + kk) (gY ((20 * a) + i2)))))), (rL, .inl (cI, 20, .inl (zA gl)))] := hD.sub [2, 0, 3, 4, 5, 1] (by decide) rfl
                        refine lv_iinc (v := iI (kk + 1)) (lv' := [(5, .int (iI (kk + 1))), (0, .ref hm), (1, .int (iI a)), (2, .int (iI e1)), (3, .int (iI (20 * a))), (4, .int (iI n)), (6, .int (iI i2)), (7, .int (iI lf)), (8, .int (iI nx))]) hx hb dX7_thin_223 hl (k := 5) rfl (iI_add _ _) (by decide) rfl (fun ls hl => ?_)
                        refine lv_iload hx hb dX7_thin_226 (lv_at hl 8 rfl) ?_
                        refine lv_istore (lv' := [(6, .int (iI nx)), (5, .int (iI (kk + 1))), (0, .ref hm), (1, .int (iI a)), (2, .int (iI e1)), (3, .int (iI (20 * a))), (4, .int (iI n)), (7, .int (iI lf)), (8, .int (iI nx))]) hx hb dX7_thin_228 hl (by decide) rfl (fun ls hl => ?_)
                        refine lv_iinc (v := iI (lf + (-1))) (lv' := [(7, .int (iI (lf + (-1)))), (6, .int (iI nx)), (5, .int (iI (kk + 1))), (0, .ref hm), (1, .int (iI a)), (2, .int (iI e1)), (3, .int (iI (20 * a))), (4, .int (iI n)), (8, .int (iI nx))]) hx hb dX7_thin_230 hl (k := 7) rfl (iI_add _ _) (by decide) rfl (fun ls hl => ?_)
                        refine lv_goto (tgt := 158) hx hb dX7_thin_233 (by decide) ?_
                        exact ih158 (kk + 1) nx (lf + (-1)) (uZ kp (kk + 1) nx) (uZ gT ((20 * a) + kk) (gT ((20 * a) + i2))) (uZ gX ((20 * a) + kk) (gX ((20 * a) + i2))) (uZ gY ((20 * a) + kk) (gY ((20 * a) + i2))) _ _ _ ⟨(by omega), (fun h => ⟨by omega, by first | omega | (have := e3 (by omega); omega), by first | omega | (have := e3 (by omega); omega), uZ_s _ _ _, by omega⟩), (by rw [uZ_n _ (by omega)]; exact d3), (fun j h1 h2 => by
                rw [uZ_n _ (show j ≠ kk + 1 by omega)]
                rcases Int.lt_or_eq_of_le (show j ≤ kk by omega) with q | q
                · rw [uZ_n _ (show j + 1 ≠ kk + 1 by omega)]
                  exact d4 j h1 (by omega)
                · subst q
                  rw [uZ_s, ri.2.2.2.1]
                  first | exact ⟨by omega, by omega, (by show gl nx - 1 = gl i2 - 1 - 1; omega), nst, e4⟩ | (exfalso; omega)), (⟨okT_u d5.1 (d5.1 _).1 (d5.1 _).2, okC_u d5.2.1 (d5.2.1 _).1 (d5.2.1 _).2, okC_u d5.2.2 (d5.2.2 _).1 (d5.2.2 _).2⟩), (fun j h1 h2 => by
                rw [uZ_n _ (show j ≠ kk + 1 by omega)]
                rcases Int.lt_or_eq_of_le (show j ≤ kk by omega) with q | q
                · rw [uZ_n _ (by omega), uZ_n _ (by omega), uZ_n _ (by omega)]
                  exact d6 j h1 q
                · subst q
                  rw [uZ_s, uZ_s, uZ_s, ri.2.2.2.1]
                  exact d7 i2 (Int.le_refl _)), (fun j h1 => by rw [uZ_n _ (by omega), uZ_n _ (by omega), uZ_n _ (by omega)]; exact d7 j (by omega)), (fun q h => by rw [uZ_n _ (by omega), uZ_n _ (by omega), uZ_n _ (by omega)]; exact d8 q h), (fun j h1 h2 => by
                rw [uZ_n _ (show j ≠ kk + 1 by omega)]
                rcases Int.lt_or_eq_of_le (show j ≤ kk by omega) with q | q
                · exact d9 j h1 q
                · subst q
                  rw [ri.2.2.2.1]
                  omega)⟩ (by omega) hP hD hS (lv_sub hl [3, 4, 5, 6, 7, 2, 1, 0] rfl)
                      · skip
                        refine lv_iinc (v := iI (nx + 1)) (lv' := [(8, .int (iI (nx + 1))), (0, .ref hm), (1, .int (iI a)), (2, .int (iI e1)), (3, .int (iI (20 * a))), (4, .int (iI n)), (5, .int (iI kk)), (6, .int (iI i2)), (7, .int (iI lf))]) hx hb dX7_thin_205 hl (k := 8) rfl (iI_add _ _) (by decide) rfl (fun ls hl => ?_)
                        refine lv_goto (tgt := 169) hx hb dX7_thin_208 (by decide) ?_
                        exact ih169 (nx + 1) _ _ _ ⟨(by omega), (fun h => by omega), (fun h => ⟨fun t h1 h2 q => by rcases Int.lt_or_eq_of_le (show t ≤ nx by omega) with w | w; exact e4 t h1 w q; subst w; first | omega | exact c202 (se.mpr q.2), jj, by rcases Int.lt_or_eq_of_le j1 with w | w; omega; subst w; first | omega | exact absurd (se.mpr j3) c202, j2, j3, j4⟩)⟩ (by omega) hP hD hS (lv_sub hl [1, 2, 3, 4, 5, 6, 7, 8, 0] rfl)
              exact LP169 (Int.toNat (20 - (i2 + 1)) + 1) (i2 + 1) _ _ _ ⟨(by omega), (fun _ => rfl), (fun h => ⟨fun t h1 h2 => by omega, by have w := d2 (by omega); obtain ⟨-, j, g1, g2, g3, g4⟩ := (aL i2 w.1 w.2.1).2 (by have := (aL i2 w.1 w.2.1).1; omega); exact ⟨j, by omega, g2, g3, by omega⟩⟩)⟩ (by omega) hP hD hS (lv_sub hl [1, 2, 3, 4, 5, 6, 7, 8, 0] rfl)
        exact LP158 (Int.toNat ((gl 0)) + 1) 0 0 (gl 0) (fun j => j) fT fX fY _ _ _ ⟨(by omega), (fun _ => ⟨by omega, by omega, rfl, rfl, by omega⟩), (rfl), (fun j h1 h2 => by omega), (⟨ht, hx1, hy1⟩), (fun j h1 h2 => by omega), (fun j _ => ⟨rfl, rfl, rfl⟩), (fun q _ => ⟨rfl, rfl, rfl⟩), (fun j h1 h2 => by omega)⟩ (by omega) hP hD hS (lv_sub hl [3, 4, 5, 6, 7, 2, 1, 0] rfl)
      · skip
        refine lv_aload_n hx hb dX7_thin_24 rfl (lv_at hl 0 rfl) ?_
        refine va_get (D := D) (ci := 7) (v := .ref rL) (C := RX7) (T := TX7) (N := 24) hx hb hts hin7 hown hK hP 0 rfl rfl 7 (by decide) (hts (.fieldLink RX7 28 "DriftLogModel" "least" "[I") (by decide +kernel)) (fun _ h9 => h9) rfl dX7_thin_25 ?_
        refine lv_iload hx hb dX7_thin_28 (lv_at hl 5 rfl) ?_
        refine lv_iload hx hb dX7_thin_30 (lv_at hl 5 rfl) ?_
        refine lv_iload hx hb dX7_thin_32 (lv_at hl 4 rfl) ?_
        refine lv_iconst (v := iI 1) hx hb dX7_thin_34 rfl ?_
        refine wz_isub hx hb dX7_thin_35 ?_
        refine wz_icmp_ne (tgt := 43) hx hb dX7_thin_36 (by decide) ⟨by omega, by omega⟩ ⟨by omega, by omega⟩ (fun c36 => ?_) (fun c36 => ?_)
        · skip
          refine lv_bipush (v := iI 100) hx hb dX7_thin_43 (by decide) ?_
          refine wz_iast (tys := TY cI cJ cT) hx hb hK hP hD hS 5 0 rfl rfl (by decide) (by constructor <;> omega) dX7_thin_45 (fun H locs hP hD hS => ?_)
          have hP : va_P D vwCl [(hm, .inr (7, [.int (iI th), .ref rS, .ref rM, .ref rB, .ref rT, .ref rX, .ref rY, .ref rL, .int (iI sz1), .ref rR, .int (iI at1), .long (lI nu), .ref rt, .ref rx, .ref ry, .int (iI fo), .ref rF, .ref rG, .ref rU, .ref rV, .long (lI lo), .long (lI lB), .long (lI hi), .long (lI hB1)])), (rM, .inl (cI, 4, .inl (zA fM))), (rT, .inl (cI, 80, .inl (zA fT))), (rX, .inl (cI, 80, .inl (zA fX))), (rY, .inl (cI, 80, .inl (zA fY))), (rL, .inl (cI, 20, .inl (zA (uZ gl i 100))))] H := hP
          have hD : va_D A [(hm, .inr (7, [.int (iI th), .ref rS, .ref rM, .ref rB, .ref rT, .ref rX, .ref rY, .ref rL, .int (iI sz1), .ref rR, .int (iI at1), .long (lI nu), .ref rt, .ref rx, .ref ry, .int (iI fo), .ref rF, .ref rG, .ref rU, .ref rV, .long (lI lo), .long (lI lB), .long (lI hi), .long (lI hB1)])), (rM, .inl (cI, 4, .inl (zA fM))), (rT, .inl (cI, 80, .inl (zA fT))), (rX, .inl (cI, 80, .inl (zA fX))), (rY, .inl (cI, 80, .inl (zA fY))), (rL, .inl (cI, 20, .inl (zA (uZ gl i 100))))] := hD
          refine lv_iload hx hb dX7_thin_46 (lv_at hl 5 rfl) ?_
          refine lv_iconst (v := iI 1) hx hb dX7_thin_48 rfl ?_
          refine wz_iadd hx hb dX7_thin_49 ?_
          refine lv_istore (lv' := [(6, .int (iI (i + 1))), (0, .ref hm), (1, .int (iI a)), (2, .int (iI e1)), (3, .int (iI (20 * a))), (4, .int (iI n)), (5, .int (iI i))]) hx hb dX7_thin_50 hl (by decide) rfl (fun ls hl => ?_)
          have LP52 : ∀ (N52 : Nat) (j : Int) (g2 : Int → Int) (H : Heap) (locs : List Loc) (ls : Array Slot), ((i < j ∧ j ≤ n) ∧ (∀ k, i < k → k < n → lwP n (stepP (sh fT (20 * a)) (sh fX (20 * a)) (sh fY (20 * a)) e1) g2 k) ∧ lwI n (stepP (sh fT (20 * a)) (sh fX (20 * a)) (sh fY (20 * a)) e1) g2 i j (g2 i)) → (n - j) < (N52 : Int) → va_P D vwCl [(hm, .inr (7, [.int (iI th), .ref rS, .ref rM, .ref rB, .ref rT, .ref rX, .ref rY, .ref rL, .int (iI sz1), .ref rR, .int (iI at1), .long (lI nu), .ref rt, .ref rx, .ref ry, .int (iI fo), .ref rF, .ref rG, .ref rU, .ref rV, .long (lI lo), .long (lI lB), .long (lI hi), .long (lI hB1)])), (rM, .inl (cI, 4, .inl (zA fM))), (rT, .inl (cI, 80, .inl (zA fT))), (rX, .inl (cI, 80, .inl (zA fX))), (rY, .inl (cI, 80, .inl (zA fY))), (rL, .inl (cI, 20, .inl (zA g2)))] H → va_D A [(hm, .inr (7, [.int (iI th), .ref rS, .ref rM, .ref rB, .ref rT, .ref rX, .ref rY, .ref rL, .int (iI sz1), .ref rR, .int (iI at1), .long (lI nu), .ref rt, .ref rx, .ref ry, .int (iI fo), .ref rF, .ref rG, .ref rU, .ref rV, .long (lI lo), .long (lI lB), .long (lI hi), .long (lI hB1)])), (rM, .inl (cI, 4, .inl (zA fM))), (rT, .inl (cI, 80, .inl (zA fT))), (rX, .inl (cI, 80, .inl (zA fX))), (rY, .inl (cI, 80, .inl (zA fY))), (rL, .inl (cI, 20, .inl (zA g2)))] → va_S A s.heap H locs → lv_has ls 9 [(0, .ref hm), (1, .int (iI a)), (2, .int (iI e1)), (3, .int (iI (20 * a))), (4, .int (iI n)), (5, .int (iI i)), (6, .int (iI j))] → W p l e { frames := 2, cells := 0, slots := 0, locals := 53 } s m ([.ref hm, .int (iI a), .int (iI e1)] : List Value).toArray below meth c H locs 0 0 Q (F0 m 52 ls []) := by
            intro N52
            induction N52 with
            | zero =>
              intro j g2 H locs ls hI hm
              obtain ⟨b1, b2, b3⟩ := hI
              exfalso; omega
            | succ N52 ih52 =>
              intro j g2 H locs ls hI hm52 hP hD hS hl
              obtain ⟨b1, b2, b3⟩ := hI
              have rj : j < n → 1 ≤ g2 j ∧ g2 j ≤ n - j := fun h => (b2 j b1.1 h).1
              have ri0 := lwI_r hn.2 ⟨by omega, by omega⟩ b1.1 b3
              refine lv_iload hx hb dX7_thin_52 (lv_at hl 6 rfl) ?_
              refine lv_iload hx hb dX7_thin_54 (lv_at hl 4 rfl) ?_
              refine wz_icmp_ge (tgt := 138) hx hb dX7_thin_56 (by decide) ⟨by omega, by omega⟩ ⟨by omega, by omega⟩ (fun c56 => ?_) (fun c56 => ?_)
              · skip
                refine lv_iinc (v := iI (i + (-1))) (lv' := [(5, .int (iI (i + (-1)))), (0, .ref hm), (1, .int (iI a)), (2, .int (iI e1)), (3, .int (iI (20 * a))), (4, .int (iI n)), (6, .int (iI j))]) hx hb dX7_thin_138 hl (k := 5) rfl (iI_add _ _) (by decide) rfl (fun ls hl => ?_)
                refine lv_goto (tgt := 19) hx hb dX7_thin_141 (by decide) ?_
                exact ih19 (i + (-1)) g2 _ _ _ ⟨(by constructor <;> omega), (fun k h1 h2 => by rcases Int.lt_or_eq_of_le (show i ≤ k by omega) with q | q; exact b2 k q h2; subst q; exact lwI_end ⟨by omega, by omega⟩ c56 b3 b1.2)⟩ (by omega) hP hD hS (lv_sub hl [1, 2, 3, 4, 5, 0] rfl)
              · skip
                refine lv_aload_n hx hb dX7_thin_59 rfl (lv_at hl 0 rfl) ?_
                refine va_get (D := D) (ci := 7) (v := .ref rL) (C := RX7) (T := TX7) (N := 24) hx hb hts hin7 hown hK hP 0 rfl rfl 7 (by decide) (hts (.fieldLink RX7 28 "DriftLogModel" "least" "[I") (by decide +kernel)) (fun _ h9 => h9) rfl dX7_thin_60 ?_
                refine lv_iload hx hb dX7_thin_63 (lv_at hl 6 rfl) ?_
                refine wz_iald (tys := TY cI cJ cT) hx hb hK hP 5 0 rfl rfl (by decide) (by constructor <;> omega) dX7_thin_65 ?_
                refine lv_iconst (v := iI 1) hx hb dX7_thin_66 rfl ?_
                refine wz_iadd hx hb dX7_thin_67 ?_
                refine lv_aload_n hx hb dX7_thin_68 rfl (lv_at hl 0 rfl) ?_
                refine va_get (D := D) (ci := 7) (v := .ref rL) (C := RX7) (T := TX7) (N := 24) hx hb hts hin7 hown hK hP 0 rfl rfl 7 (by decide) (hts (.fieldLink RX7 28 "DriftLogModel" "least" "[I") (by decide +kernel)) (fun _ h9 => h9) rfl dX7_thin_69 ?_
                refine lv_iload hx hb dX7_thin_72 (lv_at hl 5 rfl) ?_
                refine wz_iald (tys := TY cI cJ cT) hx hb hK hP 5 0 rfl rfl (by decide) (by constructor <;> omega) dX7_thin_74 ?_
                refine wz_icmp_ge (tgt := 98) hx hb dX7_thin_75 (by decide) (by have := rj (by omega); constructor <;> omega) (by constructor <;> omega) (fun c75 => ?_) (fun c75 => ?_)
                · skip
                  refine lv_iconst (v := iI 0) hx hb dX7_thin_98 rfl ?_
                  refine lv_istore (lv' := [(7, .int (iI 0)), (0, .ref hm), (1, .int (iI a)), (2, .int (iI e1)), (3, .int (iI (20 * a))), (4, .int (iI n)), (5, .int (iI i)), (6, .int (iI j))]) hx hb dX7_thin_99 hl (by decide) rfl (fun ls hl => ?_)
                  refine lv_aload_n hx hb dX7_thin_101 rfl (lv_at hl 1 rfl) ?_
                  refine va_get (D := D) (ci := 7) (v := .ref rL) (C := RX7) (T := TX7) (N := 24) hx hb hts hin7 hown hK hP 0 rfl rfl 7 (by decide) (hts (.fieldLink RX7 28 "DriftLogModel" "least" "[I") (by decide +kernel)) (fun _ h9 => h9) rfl dX7_thin_102 ?_
                  refine lv_iload hx hb dX7_thin_105 (lv_at hl 6 rfl) ?_
                  refine lv_iload hx hb dX7_thin_107 (lv_at hl 0 rfl) ?_
                  refine wz_if_eq (tgt := 124) hx hb dX7_thin_109 (by decide) (by decide) (fun c109 => ?_) (fun c109 => ?_)
                  · skip
                    refine lv_aload_n hx hb dX7_thin_124 rfl (lv_at hl 1 rfl) ?_
                    refine va_get (D := D) (ci := 7) (v := .ref rL) (C := RX7) (T := TX7) (N := 24) hx hb hts hin7 hown hK hP 0 rfl rfl 7 (by decide) (hts (.fieldLink RX7 28 "DriftLogModel" "least" "[I") (by decide +kernel)) (fun _ h9 => h9) rfl dX7_thin_125 ?_
                    refine lv_iload hx hb dX7_thin_128 (lv_at hl 6 rfl) ?_
                    refine wz_iald (tys := TY cI cJ cT) hx hb hK hP 5 0 rfl rfl (by decide) (by constructor <;> omega) dX7_thin_130 ?_
                    refine wz_iast (tys := TY cI cJ cT) hx hb hK hP hD hS 5 0 rfl rfl (by decide) (by constructor <;> omega) dX7_thin_131 (fun H locs hP hD hS => ?_)
                    have hP : va_P D vwCl [(hm, .inr (7, [.int (iI th), .ref rS, .ref rM, .ref rB, .ref rT, .ref rX, .ref rY, .ref rL, .int (iI sz1), .ref rR, .int (iI at1), .long (lI nu), .ref rt, .ref rx, .ref ry, .int (iI fo), .ref rF, .ref rG, .ref rU, .ref rV, .long (lI lo), .long (lI lB), .long (lI hi), .long (lI hB1)])), (rM, .inl (cI, 4, .inl (zA fM))), (rT, .inl (cI, 80, .inl (zA fT))), (rX, .inl (cI, 80, .inl (zA fX))), (rY, .inl (cI, 80, .inl (zA fY))), (rL, .inl (cI, 20, .inl (zA (uZ g2 i (g2 i)))))] H := hP
                    have hD : va_D A [(hm, .inr (7, [.int (iI th), .ref rS, .ref rM, .ref rB, .ref rT, .ref rX, .ref rY, .ref rL, .int (iI sz1), .ref rR, .int (iI at1), .long (lI nu), .ref rt, .ref rx, .ref ry, .int (iI fo), .ref rF, .ref rG, .ref rU, .ref rV, .long (lI lo), .long (lI lB), .long (lI hi), .long (lI hB1)])), (rM, .inl (cI, 4, .inl (zA fM))), (rT, .inl (cI, 80, .inl (zA fT))), (rX, .inl (cI, 80, .inl (zA fX))), (rY, .inl (cI, 80, .inl (zA fY))), (rL, .inl (cI, 20, .inl (zA (uZ g2 i (g2 i)))))] := hD
                    refine lv_iinc (v := iI (j + 1)) (lv' := [(6, .int (iI (j + 1))), (7, .int (iI 0)), (0, .ref hm), (1, .int (iI a)), (2, .int (iI e1)), (3, .int (iI (20 * a))), (4, .int (iI n)), (5, .int (iI i))]) hx hb dX7_thin_132 hl (k := 7) rfl (iI_add _ _) (by decide) rfl (fun ls hl => ?_)
                    refine lv_goto (tgt := 52) hx hb dX7_thin_135 (by decide) ?_
                    exact ih52 (j + 1) (uZ g2 i (g2 i)) _ _ _ ⟨(by constructor <;> omega), (fun k h1 h2 => lwP_c (fun q g1 g2 => uZ_n _ (by omega)) h2 (b2 k h1 h2)), (lwI_keep hn.2 ⟨by omega, by omega⟩ (by omega) (rj (by omega)) b3 (stepP_1 (by omega)) (fun q => by first | exact c91 (stepP_sh.mpr q.2) | omega))⟩ (by omega) hP hD hS (lv_sub hl [2, 3, 4, 5, 6, 7, 0] rfl)
                  · skip
                    exact absurd c109 (by decide)
                · skip
                  refine lv_aload_n hx hb dX7_thin_78 rfl (lv_at hl 0 rfl) ?_
                  refine lv_iload_n hx hb dX7_thin_79 rfl (lv_at hl 3 rfl) ?_
                  refine lv_iload hx hb dX7_thin_80 (lv_at hl 5 rfl) ?_
                  refine wz_iadd hx hb dX7_thin_82 ?_
                  refine lv_iload_n hx hb dX7_thin_83 rfl (lv_at hl 3 rfl) ?_
                  refine lv_iload hx hb dX7_thin_84 (lv_at hl 6 rfl) ?_
                  refine wz_iadd hx hb dX7_thin_86 ?_
                  refine lv_iload_n hx hb dX7_thin_87 rfl (lv_at hl 2 rfl) ?_
                  refine wz_calli (wr := [(rM, .inl (cI, 4, .inl (zA fM))), (rL, .inl (cI, 20, .inl (zA g2)))]) (va_runV (As := [.int (iI ((20 * a) + i)), .int (iI ((20 * a) + j)), .int (iI e1)]) (rest := []) ⟨hx, hb, hml, hown, hts⟩ (k_X7_follows l D cI cJ cT H.size hm th rS rM rB rT rX rY rL sz1 rR at1 nu rt rx ry fo rF rG rU rV lo lB hi hB1 fT fX fY ((20 * a) + i) ((20 * a) + j) e1 (ht) (hx1) (hy1) (by constructor <;> omega) (by omega) (he)) (cwV 3 hts gX7_thin_X7_follows rfl rfl rfl (by decide +kernel) ⟨Nat.le_of_ble_eq_true rfl, Nat.le_of_ble_eq_true rfl⟩) (wz_preV hK hP hD [0, 2, 3, 4] (by decide) rfl rfl 7 0 rfl rfl) rfl rfl hl.1 rfl (lv_room (Nat.le_of_ble_eq_true rfl)) dX7_thin_88 ⟨Nat.le_of_ble_eq_true rfl, Nat.le_of_ble_eq_true rfl⟩) hP hD hS hA [0, 2, 3, 4] [1, 5] rfl rfl rfl (by decide) (fun z88 u H locs hw88 hP hD hS => ?_)
                  have hP : va_P D vwCl [(hm, .inr (7, [.int (iI th), .ref rS, .ref rM, .ref rB, .ref rT, .ref rX, .ref rY, .ref rL, .int (iI sz1), .ref rR, .int (iI at1), .long (lI nu), .ref rt, .ref rx, .ref ry, .int (iI fo), .ref rF, .ref rG, .ref rU, .ref rV, .long (lI lo), .long (lI lB), .long (lI hi), .long (lI hB1)])), (rM, .inl (cI, 4, .inl (zA fM))), (rT, .inl (cI, 80, .inl (zA fT))), (rX, .inl (cI, 80, .inl (zA fX))), (rY, .inl (cI, 80, .inl (zA fY))), (rL, .inl (cI, 20, .inl (zA g2)))] H := hP.sub [2, 0, 3, 4, 5, 1] rfl
                  have hD : va_D A [(hm, .inr (7, [.int (iI th), .ref rS, .ref rM, .ref rB, .ref rT, .ref rX, .ref rY, .ref rL, .int (iI sz1), .ref rR, .int (iI at1), .long (lI nu), .ref rt, .ref rx, .ref ry, .int (iI fo), .ref rF, .ref rG, .ref rU, .ref rV, .long (lI lo), .long (lI lB), .long (lI hi), .long (lI hB1)])), (rM, .inl (cI, 4, .inl (zA fM))), (rT, .inl (cI, 80, .inl (zA fT))), (rX, .inl (cI, 80, .inl (zA fX))), (rY, .inl (cI, 80, .inl (zA fY))), (rL, .inl (cI, 20, .inl (zA g2)))] := hD.sub [2, 0, 3, 4, 5, 1] (by decide) rfl
                  subst hw88
                  refine wz_ifb_eq (tgt := 98) hx hb dX7_thin_91 (by decide) (fun c91 => ?_) (fun c91 => ?_)
                  · skip
                    refine lv_iconst (v := iI 0) hx hb dX7_thin_98 rfl ?_
                    refine lv_istore (lv' := [(7, .int (iI 0)), (0, .ref hm), (1, .int (iI a)), (2, .int (iI e1)), (3, .int (iI (20 * a))), (4, .int (iI n)), (5, .int (iI i)), (6, .int (iI j))]) hx hb dX7_thin_99 hl (by decide) rfl (fun ls hl => ?_)
                    refine lv_aload_n hx hb dX7_thin_101 rfl (lv_at hl 1 rfl) ?_
                    refine va_get (D := D) (ci := 7) (v := .ref rL) (C := RX7) (T := TX7) (N := 24) hx hb hts hin7 hown hK hP 0 rfl rfl 7 (by decide) (hts (.fieldLink RX7 28 "DriftLogModel" "least" "[I") (by decide +kernel)) (fun _ h9 => h9) rfl dX7_thin_102 ?_
                    refine lv_iload hx hb dX7_thin_105 (lv_at hl 6 rfl) ?_
                    refine lv_iload hx hb dX7_thin_107 (lv_at hl 0 rfl) ?_
                    refine wz_if_eq (tgt := 124) hx hb dX7_thin_109 (by decide) (by decide) (fun c109 => ?_) (fun c109 => ?_)
                    · skip
                      refine lv_aload_n hx hb dX7_thin_124 rfl (lv_at hl 1 rfl) ?_
                      refine va_get (D := D) (ci := 7) (v := .ref rL) (C := RX7) (T := TX7) (N := 24) hx hb hts hin7 hown hK hP 0 rfl rfl 7 (by decide) (hts (.fieldLink RX7 28 "DriftLogModel" "least" "[I") (by decide +kernel)) (fun _ h9 => h9) rfl dX7_thin_125 ?_
                      refine lv_iload hx hb dX7_thin_128 (lv_at hl 6 rfl) ?_
                      refine wz_iald (tys := TY cI cJ cT) hx hb hK hP 5 0 rfl rfl (by decide) (by constructor <;> omega) dX7_thin_130 ?_
                      refine wz_iast (tys := TY cI cJ cT) hx hb hK hP hD hS 5 0 rfl rfl (by decide) (by constructor <;> omega) dX7_thin_131 (fun H locs hP hD hS => ?_)
                      have hP : va_P D vwCl [(hm, .inr (7, [.int (iI th), .ref rS, .ref rM, .ref rB, .ref rT, .ref rX, .ref rY, .ref rL, .int (iI sz1), .ref rR, .int (iI at1), .long (lI nu), .ref rt, .ref rx, .ref ry, .int (iI fo), .ref rF, .ref rG, .ref rU, .ref rV, .long (lI lo), .long (lI lB), .long (lI hi), .long (lI hB1)])), (rM, .inl (cI, 4, .inl (zA fM))), (rT, .inl (cI, 80, .inl (zA fT))), (rX, .inl (cI, 80, .inl (zA fX))), (rY, .inl (cI, 80, .inl (zA fY))), (rL, .inl (cI, 20, .inl (zA (uZ g2 i (g2 i)))))] H := hP
                      have hD : va_D A [(hm, .inr (7, [.int (iI th), .ref rS, .ref rM, .ref rB, .ref rT, .ref rX, .ref rY, .ref rL, .int (iI sz1), .ref rR, .int (iI at1), .long (lI nu), .ref rt, .ref rx, .ref ry, .int (iI fo), .ref rF, .ref rG, .ref rU, .ref rV, .long (lI lo), .long (lI lB), .long (lI hi), .long (lI hB1)])), (rM, .inl (cI, 4, .inl (zA fM))), (rT, .inl (cI, 80, .inl (zA fT))), (rX, .inl (cI, 80, .inl (zA fX))), (rY, .inl (cI, 80, .inl (zA fY))), (rL, .inl (cI, 20, .inl (zA (uZ g2 i (g2 i)))))] := hD
                      refine lv_iinc (v := iI (j + 1)) (lv' := [(6, .int (iI (j + 1))), (7, .int (iI 0)), (0, .ref hm), (1, .int (iI a)), (2, .int (iI e1)), (3, .int (iI (20 * a))), (4, .int (iI n)), (5, .int (iI i))]) hx hb dX7_thin_132 hl (k := 7) rfl (iI_add _ _) (by decide) rfl (fun ls hl => ?_)
                      refine lv_goto (tgt := 52) hx hb dX7_thin_135 (by decide) ?_
                      exact ih52 (j + 1) (uZ g2 i (g2 i)) _ _ _ ⟨(by constructor <;> omega), (fun k h1 h2 => lwP_c (fun q g1 g2 => uZ_n _ (by omega)) h2 (b2 k h1 h2)), (lwI_keep hn.2 ⟨by omega, by omega⟩ (by omega) (rj (by omega)) b3 (stepP_1 (by omega)) (fun q => by first | exact c91 (stepP_sh.mpr q.2) | omega))⟩ (by omega) hP hD hS (lv_sub hl [2, 3, 4, 5, 6, 7, 0] rfl)
                    · skip
                      exact absurd c109 (by decide)
                  · skip
                    refine lv_iconst (v := iI 1) hx hb dX7_thin_94 rfl ?_
                    refine lv_goto (tgt := 99) hx hb dX7_thin_95 (by decide) ?_
                    refine lv_istore (lv' := [(7, .int (iI 1)), (0, .ref hm), (1, .int (iI a)), (2, .int (iI e1)), (3, .int (iI (20 * a))), (4, .int (iI n)), (5, .int (iI i)), (6, .int (iI j))]) hx hb dX7_thin_99 hl (by decide) rfl (fun ls hl => ?_)
                    refine lv_aload_n hx hb dX7_thin_101 rfl (lv_at hl 1 rfl) ?_
                    refine va_get (D := D) (ci := 7) (v := .ref rL) (C := RX7) (T := TX7) (N := 24) hx hb hts hin7 hown hK hP 0 rfl rfl 7 (by decide) (hts (.fieldLink RX7 28 "DriftLogModel" "least" "[I") (by decide +kernel)) (fun _ h9 => h9) rfl dX7_thin_102 ?_
                    refine lv_iload hx hb dX7_thin_105 (lv_at hl 6 rfl) ?_
                    refine lv_iload hx hb dX7_thin_107 (lv_at hl 0 rfl) ?_
                    refine wz_if_eq (tgt := 124) hx hb dX7_thin_109 (by decide) (by decide) (fun c109 => ?_) (fun c109 => ?_)
                    · skip
                      exact absurd c109 (by decide)
                    · skip
                      refine lv_aload_n hx hb dX7_thin_112 rfl (lv_at hl 1 rfl) ?_
                      refine va_get (D := D) (ci := 7) (v := .ref rL) (C := RX7) (T := TX7) (N := 24) hx hb hts hin7 hown hK hP 0 rfl rfl 7 (by decide) (hts (.fieldLink RX7 28 "DriftLogModel" "least" "[I") (by decide +kernel)) (fun _ h9 => h9) rfl dX7_thin_113 ?_
                      refine lv_iload hx hb dX7_thin_116 (lv_at hl 7 rfl) ?_
                      refine wz_iald (tys := TY cI cJ cT) hx hb hK hP 5 0 rfl rfl (by decide) (by constructor <;> omega) dX7_thin_118 ?_
                      refine lv_iconst (v := iI 1) hx hb dX7_thin_119 rfl ?_
                      refine wz_iadd hx hb dX7_thin_120 ?_
                      refine lv_goto (tgt := 131) hx hb dX7_thin_121 (by decide) ?_
                      refine wz_iast (tys := TY cI cJ cT) hx hb hK hP hD hS 5 0 rfl rfl (by decide) (by constructor <;> omega) dX7_thin_131 (fun H locs hP hD hS => ?_)
                      have hP : va_P D vwCl [(hm, .inr (7, [.int (iI th), .ref rS, .ref rM, .ref rB, .ref rT, .ref rX, .ref rY, .ref rL, .int (iI sz1), .ref rR, .int (iI at1), .long (lI nu), .ref rt, .ref rx, .ref ry, .int (iI fo), .ref rF, .ref rG, .ref rU, .ref rV, .long (lI lo), .long (lI lB), .long (lI hi), .long (lI hB1)])), (rM, .inl (cI, 4, .inl (zA fM))), (rT, .inl (cI, 80, .inl (zA fT))), (rX, .inl (cI, 80, .inl (zA fX))), (rY, .inl (cI, 80, .inl (zA fY))), (rL, .inl (cI, 20, .inl (zA (uZ g2 i ((g2 j) + 1)))))] H := hP
                      have hD : va_D A [(hm, .inr (7, [.int (iI th), .ref rS, .ref rM, .ref rB, .ref rT, .ref rX, .ref rY, .ref rL, .int (iI sz1), .ref rR, .int (iI at1), .long (lI nu), .ref rt, .ref rx, .ref ry, .int (iI fo), .ref rF, .ref rG, .ref rU, .ref rV, .long (lI lo), .long (lI lB), .long (lI hi), .long (lI hB1)])), (rM, .inl (cI, 4, .inl (zA fM))), (rT, .inl (cI, 80, .inl (zA fT))), (rX, .inl (cI, 80, .inl (zA fX))), (rY, .inl (cI, 80, .inl (zA fY))), (rL, .inl (cI, 20, .inl (zA (uZ g2 i ((g2 j) + 1)))))] := hD
                      refine lv_iinc (v := iI (j + 1)) (lv' := [(6, .int (iI (j + 1))), (7, .int (iI 1)), (0, .ref hm), (1, .int (iI a)), (2, .int (iI e1)), (3, .int (iI (20 * a))), (4, .int (iI n)), (5, .int (iI i))]) hx hb dX7_thin_132 hl (k := 7) rfl (iI_add _ _) (by decide) rfl (fun ls hl => ?_)
                      refine lv_goto (tgt := 52) hx hb dX7_thin_135 (by decide) ?_
                      exact ih52 (j + 1) (uZ g2 i ((g2 j) + 1)) _ _ _ ⟨(by constructor <;> omega), (fun k h1 h2 => lwP_c (fun q g1 g2 => uZ_n _ (by omega)) h2 (b2 k h1 h2)), (lwI_set ⟨by omega, by omega⟩ (by omega) (rj (by omega)) b3 c75 (stepP_sh.mp c91))⟩ (by omega) hP hD hS (lv_sub hl [2, 3, 4, 5, 6, 7, 0] rfl)
          exact LP52 (Int.toNat (n - (i + 1)) + 1) (i + 1) (uZ gl i 100) _ _ _ ⟨(by constructor <;> omega), (fun k h1 h2 => lwP_c (fun q g1 g2 => uZ_n _ (by omega)) h2 (a3 k h1 h2)), (by rw [uZ_s]; exact ⟨fun q => by first | rfl | omega, fun q _ => by first | rfl | omega, fun _ q => by omega⟩)⟩ (by omega) hP hD hS (lv_sub hl [1, 2, 3, 4, 5, 6, 0] rfl)
        · skip
          refine lv_iconst (v := iI 1) hx hb dX7_thin_39 rfl ?_
          refine lv_goto (tgt := 45) hx hb dX7_thin_40 (by decide) ?_
          refine wz_iast (tys := TY cI cJ cT) hx hb hK hP hD hS 5 0 rfl rfl (by decide) (by constructor <;> omega) dX7_thin_45 (fun H locs hP hD hS => ?_)
          have hP : va_P D vwCl [(hm, .inr (7, [.int (iI th), .ref rS, .ref rM, .ref rB, .ref rT, .ref rX, .ref rY, .ref rL, .int (iI sz1), .ref rR, .int (iI at1), .long (lI nu), .ref rt, .ref rx, .ref ry, .int (iI fo), .ref rF, .ref rG, .ref rU, .ref rV, .long (lI lo), .long (lI lB), .long (lI hi), .long (lI hB1)])), (rM, .inl (cI, 4, .inl (zA fM))), (rT, .inl (cI, 80, .inl (zA fT))), (rX, .inl (cI, 80, .inl (zA fX))), (rY, .inl (cI, 80, .inl (zA fY))), (rL, .inl (cI, 20, .inl (zA (uZ gl i 1))))] H := hP
          have hD : va_D A [(hm, .inr (7, [.int (iI th), .ref rS, .ref rM, .ref rB, .ref rT, .ref rX, .ref rY, .ref rL, .int (iI sz1), .ref rR, .int (iI at1), .long (lI nu), .ref rt, .ref rx, .ref ry, .int (iI fo), .ref rF, .ref rG, .ref rU, .ref rV, .long (lI lo), .long (lI lB), .long (lI hi), .long (lI hB1)])), (rM, .inl (cI, 4, .inl (zA fM))), (rT, .inl (cI, 80, .inl (zA fT))), (rX, .inl (cI, 80, .inl (zA fX))), (rY, .inl (cI, 80, .inl (zA fY))), (rL, .inl (cI, 20, .inl (zA (uZ gl i 1))))] := hD
          refine lv_iload hx hb dX7_thin_46 (lv_at hl 5 rfl) ?_
          refine lv_iconst (v := iI 1) hx hb dX7_thin_48 rfl ?_
          refine wz_iadd hx hb dX7_thin_49 ?_
          refine lv_istore (lv' := [(6, .int (iI (i + 1))), (0, .ref hm), (1, .int (iI a)), (2, .int (iI e1)), (3, .int (iI (20 * a))), (4, .int (iI n)), (5, .int (iI i))]) hx hb dX7_thin_50 hl (by decide) rfl (fun ls hl => ?_)
          have LP52 : ∀ (N52 : Nat) (j : Int) (g2 : Int → Int) (H : Heap) (locs : List Loc) (ls : Array Slot), ((i < j ∧ j ≤ n) ∧ (∀ k, i < k → k < n → lwP n (stepP (sh fT (20 * a)) (sh fX (20 * a)) (sh fY (20 * a)) e1) g2 k) ∧ lwI n (stepP (sh fT (20 * a)) (sh fX (20 * a)) (sh fY (20 * a)) e1) g2 i j (g2 i)) → (n - j) < (N52 : Int) → va_P D vwCl [(hm, .inr (7, [.int (iI th), .ref rS, .ref rM, .ref rB, .ref rT, .ref rX, .ref rY, .ref rL, .int (iI sz1), .ref rR, .int (iI at1), .long (lI nu), .ref rt, .ref rx, .ref ry, .int (iI fo), .ref rF, .ref rG, .ref rU, .ref rV, .long (lI lo), .long (lI lB), .long (lI hi), .long (lI hB1)])), (rM, .inl (cI, 4, .inl (zA fM))), (rT, .inl (cI, 80, .inl (zA fT))), (rX, .inl (cI, 80, .inl (zA fX))), (rY, .inl (cI, 80, .inl (zA fY))), (rL, .inl (cI, 20, .inl (zA g2)))] H → va_D A [(hm, .inr (7, [.int (iI th), .ref rS, .ref rM, .ref rB, .ref rT, .ref rX, .ref rY, .ref rL, .int (iI sz1), .ref rR, .int (iI at1), .long (lI nu), .ref rt, .ref rx, .ref ry, .int (iI fo), .ref rF, .ref rG, .ref rU, .ref rV, .long (lI lo), .long (lI lB), .long (lI hi), .long (lI hB1)])), (rM, .inl (cI, 4, .inl (zA fM))), (rT, .inl (cI, 80, .inl (zA fT))), (rX, .inl (cI, 80, .inl (zA fX))), (rY, .inl (cI, 80, .inl (zA fY))), (rL, .inl (cI, 20, .inl (zA g2)))] → va_S A s.heap H locs → lv_has ls 9 [(0, .ref hm), (1, .int (iI a)), (2, .int (iI e1)), (3, .int (iI (20 * a))), (4, .int (iI n)), (5, .int (iI i)), (6, .int (iI j))] → W p l e { frames := 2, cells := 0, slots := 0, locals := 53 } s m ([.ref hm, .int (iI a), .int (iI e1)] : List Value).toArray below meth c H locs 0 0 Q (F0 m 52 ls []) := by
            intro N52
            induction N52 with
            | zero =>
              intro j g2 H locs ls hI hm
              obtain ⟨b1, b2, b3⟩ := hI
              exfalso; omega
            | succ N52 ih52 =>
              intro j g2 H locs ls hI hm52 hP hD hS hl
              obtain ⟨b1, b2, b3⟩ := hI
              have rj : j < n → 1 ≤ g2 j ∧ g2 j ≤ n - j := fun h => (b2 j b1.1 h).1
              have ri0 := lwI_r hn.2 ⟨by omega, by omega⟩ b1.1 b3
              refine lv_iload hx hb dX7_thin_52 (lv_at hl 6 rfl) ?_
              refine lv_iload hx hb dX7_thin_54 (lv_at hl 4 rfl) ?_
              refine wz_icmp_ge (tgt := 138) hx hb dX7_thin_56 (by decide) ⟨by omega, by omega⟩ ⟨by omega, by omega⟩ (fun c56 => ?_) (fun c56 => ?_)
              · skip
                refine lv_iinc (v := iI (i + (-1))) (lv' := [(5, .int (iI (i + (-1)))), (0, .ref hm), (1, .int (iI a)), (2, .int (iI e1)), (3, .int (iI (20 * a))), (4, .int (iI n)), (6, .int (iI j))]) hx hb dX7_thin_138 hl (k := 5) rfl (iI_add _ _) (by decide) rfl (fun ls hl => ?_)
                refine lv_goto (tgt := 19) hx hb dX7_thin_141 (by decide) ?_
                exact ih19 (i + (-1)) g2 _ _ _ ⟨(by constructor <;> omega), (fun k h1 h2 => by rcases Int.lt_or_eq_of_le (show i ≤ k by omega) with q | q; exact b2 k q h2; subst q; exact lwI_end ⟨by omega, by omega⟩ c56 b3 b1.2)⟩ (by omega) hP hD hS (lv_sub hl [1, 2, 3, 4, 5, 0] rfl)
              · skip
                refine lv_aload_n hx hb dX7_thin_59 rfl (lv_at hl 0 rfl) ?_
                refine va_get (D := D) (ci := 7) (v := .ref rL) (C := RX7) (T := TX7) (N := 24) hx hb hts hin7 hown hK hP 0 rfl rfl 7 (by decide) (hts (.fieldLink RX7 28 "DriftLogModel" "least" "[I") (by decide +kernel)) (fun _ h9 => h9) rfl dX7_thin_60 ?_
                refine lv_iload hx hb dX7_thin_63 (lv_at hl 6 rfl) ?_
                refine wz_iald (tys := TY cI cJ cT) hx hb hK hP 5 0 rfl rfl (by decide) (by constructor <;> omega) dX7_thin_65 ?_
                refine lv_iconst (v := iI 1) hx hb dX7_thin_66 rfl ?_
                refine wz_iadd hx hb dX7_thin_67 ?_
                refine lv_aload_n hx hb dX7_thin_68 rfl (lv_at hl 0 rfl) ?_
                refine va_get (D := D) (ci := 7) (v := .ref rL) (C := RX7) (T := TX7) (N := 24) hx hb hts hin7 hown hK hP 0 rfl rfl 7 (by decide) (hts (.fieldLink RX7 28 "DriftLogModel" "least" "[I") (by decide +kernel)) (fun _ h9 => h9) rfl dX7_thin_69 ?_
                refine lv_iload hx hb dX7_thin_72 (lv_at hl 5 rfl) ?_
                refine wz_iald (tys := TY cI cJ cT) hx hb hK hP 5 0 rfl rfl (by decide) (by constructor <;> omega) dX7_thin_74 ?_
                refine wz_icmp_ge (tgt := 98) hx hb dX7_thin_75 (by decide) (by have := rj (by omega); constructor <;> omega) (by constructor <;> omega) (fun c75 => ?_) (fun c75 => ?_)
                · skip
                  refine lv_iconst (v := iI 0) hx hb dX7_thin_98 rfl ?_
                  refine lv_istore (lv' := [(7, .int (iI 0)), (0, .ref hm), (1, .int (iI a)), (2, .int (iI e1)), (3, .int (iI (20 * a))), (4, .int (iI n)), (5, .int (iI i)), (6, .int (iI j))]) hx hb dX7_thin_99 hl (by decide) rfl (fun ls hl => ?_)
                  refine lv_aload_n hx hb dX7_thin_101 rfl (lv_at hl 1 rfl) ?_
                  refine va_get (D := D) (ci := 7) (v := .ref rL) (C := RX7) (T := TX7) (N := 24) hx hb hts hin7 hown hK hP 0 rfl rfl 7 (by decide) (hts (.fieldLink RX7 28 "DriftLogModel" "least" "[I") (by decide +kernel)) (fun _ h9 => h9) rfl dX7_thin_102 ?_
                  refine lv_iload hx hb dX7_thin_105 (lv_at hl 6 rfl) ?_
                  refine lv_iload hx hb dX7_thin_107 (lv_at hl 0 rfl) ?_
                  refine wz_if_eq (tgt := 124) hx hb dX7_thin_109 (by decide) (by decide) (fun c109 => ?_) (fun c109 => ?_)
                  · skip
                    refine lv_aload_n hx hb dX7_thin_124 rfl (lv_at hl 1 rfl) ?_
                    refine va_get (D := D) (ci := 7) (v := .ref rL) (C := RX7) (T := TX7) (N := 24) hx hb hts hin7 hown hK hP 0 rfl rfl 7 (by decide) (hts (.fieldLink RX7 28 "DriftLogModel" "least" "[I") (by decide +kernel)) (fun _ h9 => h9) rfl dX7_thin_125 ?_
                    refine lv_iload hx hb dX7_thin_128 (lv_at hl 6 rfl) ?_
                    refine wz_iald (tys := TY cI cJ cT) hx hb hK hP 5 0 rfl rfl (by decide) (by constructor <;> omega) dX7_thin_130 ?_
                    refine wz_iast (tys := TY cI cJ cT) hx hb hK hP hD hS 5 0 rfl rfl (by decide) (by constructor <;> omega) dX7_thin_131 (fun H locs hP hD hS => ?_)
                    have hP : va_P D vwCl [(hm, .inr (7, [.int (iI th), .ref rS, .ref rM, .ref rB, .ref rT, .ref rX, .ref rY, .ref rL, .int (iI sz1), .ref rR, .int (iI at1), .long (lI nu), .ref rt, .ref rx, .ref ry, .int (iI fo), .ref rF, .ref rG, .ref rU, .ref rV, .long (lI lo), .long (lI lB), .long (lI hi), .long (lI hB1)])), (rM, .inl (cI, 4, .inl (zA fM))), (rT, .inl (cI, 80, .inl (zA fT))), (rX, .inl (cI, 80, .inl (zA fX))), (rY, .inl (cI, 80, .inl (zA fY))), (rL, .inl (cI, 20, .inl (zA (uZ g2 i (g2 i)))))] H := hP
                    have hD : va_D A [(hm, .inr (7, [.int (iI th), .ref rS, .ref rM, .ref rB, .ref rT, .ref rX, .ref rY, .ref rL, .int (iI sz1), .ref rR, .int (iI at1), .long (lI nu), .ref rt, .ref rx, .ref ry, .int (iI fo), .ref rF, .ref rG, .ref rU, .ref rV, .long (lI lo), .long (lI lB), .long (lI hi), .long (lI hB1)])), (rM, .inl (cI, 4, .inl (zA fM))), (rT, .inl (cI, 80, .inl (zA fT))), (rX, .inl (cI, 80, .inl (zA fX))), (rY, .inl (cI, 80, .inl (zA fY))), (rL, .inl (cI, 20, .inl (zA (uZ g2 i (g2 i)))))] := hD
                    refine lv_iinc (v := iI (j + 1)) (lv' := [(6, .int (iI (j + 1))), (7, .int (iI 0)), (0, .ref hm), (1, .int (iI a)), (2, .int (iI e1)), (3, .int (iI (20 * a))), (4, .int (iI n)), (5, .int (iI i))]) hx hb dX7_thin_132 hl (k := 7) rfl (iI_add _ _) (by decide) rfl (fun ls hl => ?_)
                    refine lv_goto (tgt := 52) hx hb dX7_thin_135 (by decide) ?_
                    exact ih52 (j + 1) (uZ g2 i (g2 i)) _ _ _ ⟨(by constructor <;> omega), (fun k h1 h2 => lwP_c (fun q g1 g2 => uZ_n _ (by omega)) h2 (b2 k h1 h2)), (lwI_keep hn.2 ⟨by omega, by omega⟩ (by omega) (rj (by omega)) b3 (stepP_1 (by omega)) (fun q => by first | exact c91 (stepP_sh.mpr q.2) | omega))⟩ (by omega) hP hD hS (lv_sub hl [2, 3, 4, 5, 6, 7, 0] rfl)
                  · skip
                    exact absurd c109 (by decide)
                · skip
                  refine lv_aload_n hx hb dX7_thin_78 rfl (lv_at hl 0 rfl) ?_
                  refine lv_iload_n hx hb dX7_thin_79 rfl (lv_at hl 3 rfl) ?_
                  refine lv_iload hx hb dX7_thin_80 (lv_at hl 5 rfl) ?_
                  refine wz_iadd hx hb dX7_thin_82 ?_
                  refine lv_iload_n hx hb dX7_thin_83 rfl (lv_at hl 3 rfl) ?_
                  refine lv_iload hx hb dX7_thin_84 (lv_at hl 6 rfl) ?_
                  refine wz_iadd hx hb dX7_thin_86 ?_
                  refine lv_iload_n hx hb dX7_thin_87 rfl (lv_at hl 2 rfl) ?_
                  refine wz_calli (wr := [(rM, .inl (cI, 4, .inl (zA fM))), (rL, .inl (cI, 20, .inl (zA g2)))]) (va_runV (As := [.int (iI ((20 * a) + i)), .int (iI ((20 * a) + j)), .int (iI e1)]) (rest := []) ⟨hx, hb, hml, hown, hts⟩ (k_X7_follows l D cI cJ cT H.size hm th rS rM rB rT rX rY rL sz1 rR at1 nu rt rx ry fo rF rG rU rV lo lB hi hB1 fT fX fY ((20 * a) + i) ((20 * a) + j) e1 (ht) (hx1) (hy1) (by constructor <;> omega) (by omega) (he)) (cwV 3 hts gX7_thin_X7_follows rfl rfl rfl (by decide +kernel) ⟨Nat.le_of_ble_eq_true rfl, Nat.le_of_ble_eq_true rfl⟩) (wz_preV hK hP hD [0, 2, 3, 4] (by decide) rfl rfl 7 0 rfl rfl) rfl rfl hl.1 rfl (lv_room (Nat.le_of_ble_eq_true rfl)) dX7_thin_88 ⟨Nat.le_of_ble_eq_true rfl, Nat.le_of_ble_eq_true rfl⟩) hP hD hS hA [0, 2, 3, 4] [1, 5] rfl rfl rfl (by decide) (fun z88 u H locs hw88 hP hD hS => ?_)
                  have hP : va_P D vwCl [(hm, .inr (7, [.int (iI th), .ref rS, .ref rM, .ref rB, .ref rT, .ref rX, .ref rY, .ref rL, .int (iI sz1), .ref rR, .int (iI at1), .long (lI nu), .ref rt, .ref rx, .ref ry, .int (iI fo), .ref rF, .ref rG, .ref rU, .ref rV, .long (lI lo), .long (lI lB), .long (lI hi), .long (lI hB1)])), (rM, .inl (cI, 4, .inl (zA fM))), (rT, .inl (cI, 80, .inl (zA fT))), (rX, .inl (cI, 80, .inl (zA fX))), (rY, .inl (cI, 80, .inl (zA fY))), (rL, .inl (cI, 20, .inl (zA g2)))] H := hP.sub [2, 0, 3, 4, 5, 1] rfl
                  have hD : va_D A [(hm, .inr (7, [.int (iI th), .ref rS, .ref rM, .ref rB, .ref rT, .ref rX, .ref rY, .ref rL, .int (iI sz1), .ref rR, .int (iI at1), .long (lI nu), .ref rt, .ref rx, .ref ry, .int (iI fo), .ref rF, .ref rG, .ref rU, .ref rV, .long (lI lo), .long (lI lB), .long (lI hi), .long (lI hB1)])), (rM, .inl (cI, 4, .inl (zA fM))), (rT, .inl (cI, 80, .inl (zA fT))), (rX, .inl (cI, 80, .inl (zA fX))), (rY, .inl (cI, 80, .inl (zA fY))), (rL, .inl (cI, 20, .inl (zA g2)))] := hD.sub [2, 0, 3, 4, 5, 1] (by decide) rfl
                  subst hw88
                  refine wz_ifb_eq (tgt := 98) hx hb dX7_thin_91 (by decide) (fun c91 => ?_) (fun c91 => ?_)
                  · skip
                    refine lv_iconst (v := iI 0) hx hb dX7_thin_98 rfl ?_
                    refine lv_istore (lv' := [(7, .int (iI 0)), (0, .ref hm), (1, .int (iI a)), (2, .int (iI e1)), (3, .int (iI (20 * a))), (4, .int (iI n)), (5, .int (iI i)), (6, .int (iI j))]) hx hb dX7_thin_99 hl (by decide) rfl (fun ls hl => ?_)
                    refine lv_aload_n hx hb dX7_thin_101 rfl (lv_at hl 1 rfl) ?_
                    refine va_get (D := D) (ci := 7) (v := .ref rL) (C := RX7) (T := TX7) (N := 24) hx hb hts hin7 hown hK hP 0 rfl rfl 7 (by decide) (hts (.fieldLink RX7 28 "DriftLogModel" "least" "[I") (by decide +kernel)) (fun _ h9 => h9) rfl dX7_thin_102 ?_
                    refine lv_iload hx hb dX7_thin_105 (lv_at hl 6 rfl) ?_
                    refine lv_iload hx hb dX7_thin_107 (lv_at hl 0 rfl) ?_
                    refine wz_if_eq (tgt := 124) hx hb dX7_thin_109 (by decide) (by decide) (fun c109 => ?_) (fun c109 => ?_)
                    · skip
                      refine lv_aload_n hx hb dX7_thin_124 rfl (lv_at hl 1 rfl) ?_
                      refine va_get (D := D) (ci := 7) (v := .ref rL) (C := RX7) (T := TX7) (N := 24) hx hb hts hin7 hown hK hP 0 rfl rfl 7 (by decide) (hts (.fieldLink RX7 28 "DriftLogModel" "least" "[I") (by decide +kernel)) (fun _ h9 => h9) rfl dX7_thin_125 ?_
                      refine lv_iload hx hb dX7_thin_128 (lv_at hl 6 rfl) ?_
                      refine wz_iald (tys := TY cI cJ cT) hx hb hK hP 5 0 rfl rfl (by decide) (by constructor <;> omega) dX7_thin_130 ?_
                      refine wz_iast (tys := TY cI cJ cT) hx hb hK hP hD hS 5 0 rfl rfl (by decide) (by constructor <;> omega) dX7_thin_131 (fun H locs hP hD hS => ?_)
                      have hP : va_P D vwCl [(hm, .inr (7, [.int (iI th), .ref rS, .ref rM, .ref rB, .ref rT, .ref rX, .ref rY, .ref rL, .int (iI sz1), .ref rR, .int (iI at1), .long (lI nu), .ref rt, .ref rx, .ref ry, .int (iI fo), .ref rF, .ref rG, .ref rU, .ref rV, .long (lI lo), .long (lI lB), .long (lI hi), .long (lI hB1)])), (rM, .inl (cI, 4, .inl (zA fM))), (rT, .inl (cI, 80, .inl (zA fT))), (rX, .inl (cI, 80, .inl (zA fX))), (rY, .inl (cI, 80, .inl (zA fY))), (rL, .inl (cI, 20, .inl (zA (uZ g2 i (g2 i)))))] H := hP
                      have hD : va_D A [(hm, .inr (7, [.int (iI th), .ref rS, .ref rM, .ref rB, .ref rT, .ref rX, .ref rY, .ref rL, .int (iI sz1), .ref rR, .int (iI at1), .long (lI nu), .ref rt, .ref rx, .ref ry, .int (iI fo), .ref rF, .ref rG, .ref rU, .ref rV, .long (lI lo), .long (lI lB), .long (lI hi), .long (lI hB1)])), (rM, .inl (cI, 4, .inl (zA fM))), (rT, .inl (cI, 80, .inl (zA fT))), (rX, .inl (cI, 80, .inl (zA fX))), (rY, .inl (cI, 80, .inl (zA fY))), (rL, .inl (cI, 20, .inl (zA (uZ g2 i (g2 i)))))] := hD
                      refine lv_iinc (v := iI (j + 1)) (lv' := [(6, .int (iI (j + 1))), (7, .int (iI 0)), (0, .ref hm), (1, .int (iI a)), (2, .int (iI e1)), (3, .int (iI (20 * a))), (4, .int (iI n)), (5, .int (iI i))]) hx hb dX7_thin_132 hl (k := 7) rfl (iI_add _ _) (by decide) rfl (fun ls hl => ?_)
                      refine lv_goto (tgt := 52) hx hb dX7_thin_135 (by decide) ?_
                      exact ih52 (j + 1) (uZ g2 i (g2 i)) _ _ _ ⟨(by constructor <;> omega), (fun k h1 h2 => lwP_c (fun q g1 g2 => uZ_n _ (by omega)) h2 (b2 k h1 h2)), (lwI_keep hn.2 ⟨by omega, by omega⟩ (by omega) (rj (by omega)) b3 (stepP_1 (by omega)) (fun q => by first | exact c91 (stepP_sh.mpr q.2) | omega))⟩ (by omega) hP hD hS (lv_sub hl [2, 3, 4, 5, 6, 7, 0] rfl)
                    · skip
                      exact absurd c109 (by decide)
                  · skip
                    refine lv_iconst (v := iI 1) hx hb dX7_thin_94 rfl ?_
                    refine lv_goto (tgt := 99) hx hb dX7_thin_95 (by decide) ?_
                    refine lv_istore (lv' := [(7, .int (iI 1)), (0, .ref hm), (1, .int (iI a)), (2, .int (iI e1)), (3, .int (iI (20 * a))), (4, .int (iI n)), (5, .int (iI i)), (6, .int (iI j))]) hx hb dX7_thin_99 hl (by decide) rfl (fun ls hl => ?_)
                    refine lv_aload_n hx hb dX7_thin_101 rfl (lv_at hl 1 rfl) ?_
                    refine va_get (D := D) (ci := 7) (v := .ref rL) (C := RX7) (T := TX7) (N := 24) hx hb hts hin7 hown hK hP 0 rfl rfl 7 (by decide) (hts (.fieldLink RX7 28 "DriftLogModel" "least" "[I") (by decide +kernel)) (fun _ h9 => h9) rfl dX7_thin_102 ?_
                    refine lv_iload hx hb dX7_thin_105 (lv_at hl 6 rfl) ?_
                    refine lv_iload hx hb dX7_thin_107 (lv_at hl 0 rfl) ?_
                    refine wz_if_eq (tgt := 124) hx hb dX7_thin_109 (by decide) (by decide) (fun c109 => ?_) (fun c109 => ?_)
                    · skip
                      exact absurd c109 (by decide)
                    · skip
                      refine lv_aload_n hx hb dX7_thin_112 rfl (lv_at hl 1 rfl) ?_
                      refine va_get (D := D) (ci := 7) (v := .ref rL) (C := RX7) (T := TX7) (N := 24) hx hb hts hin7 hown hK hP 0 rfl rfl 7 (by decide) (hts (.fieldLink RX7 28 "DriftLogModel" "least" "[I") (by decide +kernel)) (fun _ h9 => h9) rfl dX7_thin_113 ?_
                      refine lv_iload hx hb dX7_thin_116 (lv_at hl 7 rfl) ?_
                      refine wz_iald (tys := TY cI cJ cT) hx hb hK hP 5 0 rfl rfl (by decide) (by constructor <;> omega) dX7_thin_118 ?_
                      refine lv_iconst (v := iI 1) hx hb dX7_thin_119 rfl ?_
                      refine wz_iadd hx hb dX7_thin_120 ?_
                      refine lv_goto (tgt := 131) hx hb dX7_thin_121 (by decide) ?_
                      refine wz_iast (tys := TY cI cJ cT) hx hb hK hP hD hS 5 0 rfl rfl (by decide) (by constructor <;> omega) dX7_thin_131 (fun H locs hP hD hS => ?_)
                      have hP : va_P D vwCl [(hm, .inr (7, [.int (iI th), .ref rS, .ref rM, .ref rB, .ref rT, .ref rX, .ref rY, .ref rL, .int (iI sz1), .ref rR, .int (iI at1), .long (lI nu), .ref rt, .ref rx, .ref ry, .int (iI fo), .ref rF, .ref rG, .ref rU, .ref rV, .long (lI lo), .long (lI lB), .long (lI hi), .long (lI hB1)])), (rM, .inl (cI, 4, .inl (zA fM))), (rT, .inl (cI, 80, .inl (zA fT))), (rX, .inl (cI, 80, .inl (zA fX))), (rY, .inl (cI, 80, .inl (zA fY))), (rL, .inl (cI, 20, .inl (zA (uZ g2 i ((g2 j) + 1)))))] H := hP
                      have hD : va_D A [(hm, .inr (7, [.int (iI th), .ref rS, .ref rM, .ref rB, .ref rT, .ref rX, .ref rY, .ref rL, .int (iI sz1), .ref rR, .int (iI at1), .long (lI nu), .ref rt, .ref rx, .ref ry, .int (iI fo), .ref rF, .ref rG, .ref rU, .ref rV, .long (lI lo), .long (lI lB), .long (lI hi), .long (lI hB1)])), (rM, .inl (cI, 4, .inl (zA fM))), (rT, .inl (cI, 80, .inl (zA fT))), (rX, .inl (cI, 80, .inl (zA fX))), (rY, .inl (cI, 80, .inl (zA fY))), (rL, .inl (cI, 20, .inl (zA (uZ g2 i ((g2 j) + 1)))))] := hD
                      refine lv_iinc (v := iI (j + 1)) (lv' := [(6, .int (iI (j + 1))), (7, .int (iI 1)), (0, .ref hm), (1, .int (iI a)), (2, .int (iI e1)), (3, .int (iI (20 * a))), (4, .int (iI n)), (5, .int (iI i))]) hx hb dX7_thin_132 hl (k := 7) rfl (iI_add _ _) (by decide) rfl (fun ls hl => ?_)
                      refine lv_goto (tgt := 52) hx hb dX7_thin_135 (by decide) ?_
                      exact ih52 (j + 1) (uZ g2 i ((g2 j) + 1)) _ _ _ ⟨(by constructor <;> omega), (fun k h1 h2 => lwP_c (fun q g1 g2 => uZ_n _ (by omega)) h2 (b2 k h1 h2)), (lwI_set ⟨by omega, by omega⟩ (by omega) (rj (by omega)) b3 c75 (stepP_sh.mp c91))⟩ (by omega) hP hD hS (lv_sub hl [2, 3, 4, 5, 6, 7, 0] rfl)
          exact LP52 (Int.toNat (n - (i + 1)) + 1) (i + 1) (uZ gl i 1) _ _ _ ⟨(by constructor <;> omega), (fun k h1 h2 => lwP_c (fun q g1 g2 => uZ_n _ (by omega)) h2 (a3 k h1 h2)), (by rw [uZ_s]; exact ⟨fun q => by first | rfl | omega, fun q _ => by first | rfl | omega, fun _ q => by omega⟩)⟩ (by omega) hP hD hS (lv_sub hl [1, 2, 3, 4, 5, 6, 0] rfl)
  exact LP19 (Int.toNat ((n - 1) + 1) + 1) (n - 1) fL _ _ _ ⟨(by constructor <;> omega), (fun k h1 h2 => absurd h2 (by omega))⟩ (by omega) hP hD hS (lv_sub hl [3, 4, 5, 2, 1, 0] rfl)
