set_option maxHeartbeats 4000000 in
set_option maxRecDepth 100000 in
theorem k_X7_place (l : Launch) (D : va_G) (cI cJ cT : ClassId) (sz : Nat) (hm : Nat) (th : Int) (rS : Nat) (rM : Nat) (rB : Nat) (rT : Nat) (rX : Nat) (rY : Nat) (rL : Nat) (sz1 : Int) (rR : Nat) (at1 : Int) (nu : Int) (rt : Nat) (rx : Nat) (ry : Nat) (fo : Int) (rF : Nat) (rG : Nat) (rU : Nat) (rV : Nat) (lo : Int) (lB : Int) (hi : Int) (hB1 : Int) (fS : Int → Int) (fM : Int → Int) (fT : Int → Int) (fX : Int → Int) (fY : Int → Int) (a : Int) (t : Int) (yy : Int) (w : Int) (hS1 : ∀ i, 0 ≤ fS i ∧ fS i ≤ 2) (hM1 : ∀ i, 0 ≤ fM i ∧ fM i ≤ 20) (hM2 : ∀ i, fS i = 2 → 1 ≤ fM i) (ht : okT fT) (hx1 : okC fX) (hy1 : okC fY) (hinc : ∀ i, 0 ≤ i → i < 4 → fS i = 2 → incP (fM i) (sh fT (20 * i))) (ha : rI a) (hta : rI t) (hya : rI yy) (hwa : rI w) : Met l yX7_place wsX7_place { frames := 2, cells := 0, slots := 0, locals := 50 } (zPc D (TY cI cJ cT) [.ref hm, .int (iI a), .int (iI t), .int (iI yy), .int (iI w)] [(hm, .inr (7, [.int (iI th), .ref rS, .ref rM, .ref rB, .ref rT, .ref rX, .ref rY, .ref rL, .int (iI sz1), .ref rR, .int (iI at1), .long (lI nu), .ref rt, .ref rx, .ref ry, .int (iI fo), .ref rF, .ref rG, .ref rU, .ref rV, .long (lI lo), .long (lI lB), .long (lI hi), .long (lI hB1)])), (rS, .inl (cI, 4, .inl (zA fS))), (rM, .inl (cI, 4, .inl (zA fM))), (rT, .inl (cI, 80, .inl (zA fT))), (rX, .inl (cI, 80, .inl (zA fX))), (rY, .inl (cI, 80, .inl (zA fY)))] sz) (zQl D (TY cI cJ cT) (va_A [(hm, .inr (7, [.int (iI th), .ref rS, .ref rM, .ref rB, .ref rT, .ref rX, .ref rY, .ref rL, .int (iI sz1), .ref rR, .int (iI at1), .long (lI nu), .ref rt, .ref rx, .ref ry, .int (iI fo), .ref rF, .ref rG, .ref rU, .ref rV, .long (lI lo), .long (lI lB), .long (lI hi), .long (lI hB1)])), (rS, .inl (cI, 4, .inl (zA fS))), (rM, .inl (cI, 4, .inl (zA fM))), (rT, .inl (cI, 80, .inl (zA fT))), (rX, .inl (cI, 80, .inl (zA fX))), (rY, .inl (cI, 80, .inl (zA fY)))] sz) (fun (z : Int) (u : Int × Int) => (¬ (0 ≤ a ∧ a < 4) → u.1 = 1) ∧ ((0 ≤ a ∧ a < 4) → fS a ≠ 2 → u.1 = 2) ∧ ((0 ≤ a ∧ a < 4) → fS a = 2 → ¬ (fT (20 * a) ≤ t ∧ t ≤ fT (20 * a + fM a - 1)) → u.1 = 3) ∧ ((0 ≤ a ∧ a < 4) → fS a = 2 → (fT (20 * a) ≤ t ∧ t ≤ fT (20 * a + fM a - 1)) → u.1 = 0 ∧ (20 * a ≤ u.2 ∧ u.2 ≤ 20 * a + fM a - 1) ∧ fT (u.2) ≤ t ∧ (u.2 < 20 * a + fM a - 1 → t < fT (u.2 + 1)) ∧ z = plZ fT (if yy = 0 then fX else fY) (u.2) t w)) (fun (u : Int × Int) => [(hm, .inr (7, [.int (iI u.1), .ref rS, .ref rM, .ref rB, .ref rT, .ref rX, .ref rY, .ref rL, .int (iI sz1), .ref rR, .int (iI at1), .long (lI nu), .ref rt, .ref rx, .ref ry, .int (iI fo), .ref rF, .ref rG, .ref rU, .ref rV, .long (lI lo), .long (lI lB), .long (lI hi), .long (lI hB1)])), (rS, .inl (cI, 4, .inl (zA fS))), (rM, .inl (cI, 4, .inl (zA fM))), (rT, .inl (cI, 80, .inl (zA fT))), (rX, .inl (cI, 80, .inl (zA fX))), (rY, .inl (cI, 80, .inl (zA fY)))])) 0 0 (va_A [(hm, .inr (7, [.int (iI th), .ref rS, .ref rM, .ref rB, .ref rT, .ref rX, .ref rY, .ref rL, .int (iI sz1), .ref rR, .int (iI at1), .long (lI nu), .ref rt, .ref rx, .ref ry, .int (iI fo), .ref rF, .ref rG, .ref rU, .ref rV, .long (lI lo), .long (lI lB), .long (lI hi), .long (lI hB1)])), (rS, .inl (cI, 4, .inl (zA fS))), (rM, .inl (cI, 4, .inl (zA fM))), (rT, .inl (cI, 80, .inl (zA fT))), (rX, .inl (cI, 80, .inl (zA fX))), (rY, .inl (cI, 80, .inl (zA fY)))] sz) := by
  refine zMl (cc := cX7_place) (maxL := 18) (ret := (some .long)) (by decide) rfl (Nat.le_of_ble_eq_true rfl) ?_
  intro p e s m below meth c A ls hE
  obtain ⟨hx, hb, hr, hts, hown, hlocks, hml, hnm, hP, hK, hD, hA, hS, hl⟩ := hE
  have hown : s.vm.findClass RX7 = some m.cls := hown
  have hl : lv_has ls 18 [(0, .ref hm), (1, .int (iI a)), (2, .int (iI t)), (3, .int (iI yy)), (4, .int (iI w))] := hl
  have hin7 : ∀ w ∈ wsX70, w ∈ wsX7_place := by decide +kernel
  obtain ⟨Q, hQ⟩ : ∃ Q, Q = MQ below (zQl D (TY cI cJ cT) A (fun (z : Int) (u : Int × Int) => (¬ (0 ≤ a ∧ a < 4) → u.1 = 1) ∧ ((0 ≤ a ∧ a < 4) → fS a ≠ 2 → u.1 = 2) ∧ ((0 ≤ a ∧ a < 4) → fS a = 2 → ¬ (fT (20 * a) ≤ t ∧ t ≤ fT (20 * a + fM a - 1)) → u.1 = 3) ∧ ((0 ≤ a ∧ a < 4) → fS a = 2 → (fT (20 * a) ≤ t ∧ t ≤ fT (20 * a + fM a - 1)) → u.1 = 0 ∧ (20 * a ≤ u.2 ∧ u.2 ≤ 20 * a + fM a - 1) ∧ fT (u.2) ≤ t ∧ (u.2 < 20 * a + fM a - 1 → t < fT (u.2 + 1)) ∧ z = plZ fT (if yy = 0 then fX else fY) (u.2) t w)) (fun (u : Int × Int) => [(hm, .inr (7, [.int (iI u.1), .ref rS, .ref rM, .ref rB, .ref rT, .ref rX, .ref rY, .ref rL, .int (iI sz1), .ref rR, .int (iI at1), .long (lI nu), .ref rt, .ref rx, .ref ry, .int (iI fo), .ref rF, .ref rG, .ref rU, .ref rV, .long (lI lo), .long (lI lB), .long (lI hi), .long (lI hB1)])), (rS, .inl (cI, 4, .inl (zA fS))), (rM, .inl (cI, 4, .inl (zA fM))), (rT, .inl (cI, 80, .inl (zA fT))), (rX, .inl (cI, 80, .inl (zA fX))), (rY, .inl (cI, 80, .inl (zA fY)))])) ([.ref hm, .int (iI a), .int (iI t), .int (iI yy), .int (iI w)] : List Value).toArray s 0 0 A := ⟨_, rfl⟩
  rw [← hQ]
  refine lv_aload_n hx hb dX7_place_0 rfl (lv_at hl 0 rfl) ?_
  refine lv_iload_n hx hb dX7_place_1 rfl (lv_at hl 1 rfl) ?_
  refine wz_calli (wr := [(hm, .inr (7, [.int (iI th), .ref rS, .ref rM, .ref rB, .ref rT, .ref rX, .ref rY, .ref rL, .int (iI sz1), .ref rR, .int (iI at1), .long (lI nu), .ref rt, .ref rx, .ref ry, .int (iI fo), .ref rF, .ref rG, .ref rU, .ref rV, .long (lI lo), .long (lI lB), .long (lI hi), .long (lI hB1)])), (rS, .inl (cI, 4, .inl (zA fS))), (rM, .inl (cI, 4, .inl (zA fM))), (rT, .inl (cI, 80, .inl (zA fT))), (rX, .inl (cI, 80, .inl (zA fX))), (rY, .inl (cI, 80, .inl (zA fY)))]) (va_runS (As := [.int (iI a)]) (rest := [.ref hm]) ⟨hx, hb, hml, hown, hts⟩ (k_X7_isTrack l D cI cJ cT s.heap.size a (ha)) (va_cwS 1 hts gX7_place_X7_isTrack rfl rfl rfl (by decide +kernel) ⟨Nat.le_of_ble_eq_true rfl, Nat.le_of_ble_eq_true rfl⟩) (wz_preS hK hP hD [] (by decide) rfl rfl) rfl rfl hl.1 rfl (lv_room (Nat.le_of_ble_eq_true rfl)) dX7_place_2 ⟨Nat.le_of_ble_eq_true rfl, Nat.le_of_ble_eq_true rfl⟩) hP hD hS hA [] [0, 1, 2, 3, 4, 5] rfl rfl rfl (by decide) (fun z2 u H locs hw2 hP hD hS => ?_)
  have hP : va_P D vwCl [(hm, .inr (7, [.int (iI th), .ref rS, .ref rM, .ref rB, .ref rT, .ref rX, .ref rY, .ref rL, .int (iI sz1), .ref rR, .int (iI at1), .long (lI nu), .ref rt, .ref rx, .ref ry, .int (iI fo), .ref rF, .ref rG, .ref rU, .ref rV, .long (lI lo), .long (lI lB), .long (lI hi), .long (lI hB1)])), (rS, .inl (cI, 4, .inl (zA fS))), (rM, .inl (cI, 4, .inl (zA fM))), (rT, .inl (cI, 80, .inl (zA fT))), (rX, .inl (cI, 80, .inl (zA fX))), (rY, .inl (cI, 80, .inl (zA fY)))] H := hP.sub [0, 1, 2, 3, 4, 5] rfl
  have hD : va_D A [(hm, .inr (7, [.int (iI th), .ref rS, .ref rM, .ref rB, .ref rT, .ref rX, .ref rY, .ref rL, .int (iI sz1), .ref rR, .int (iI at1), .long (lI nu), .ref rt, .ref rx, .ref ry, .int (iI fo), .ref rF, .ref rG, .ref rU, .ref rV, .long (lI lo), .long (lI lB), .long (lI hi), .long (lI hB1)])), (rS, .inl (cI, 4, .inl (zA fS))), (rM, .inl (cI, 4, .inl (zA fM))), (rT, .inl (cI, 80, .inl (zA fT))), (rX, .inl (cI, 80, .inl (zA fX))), (rY, .inl (cI, 80, .inl (zA fY)))] := hD.sub [0, 1, 2, 3, 4, 5] (by decide) rfl
  subst hw2
  refine wz_ifb_ne (tgt := 12) hx hb dX7_place_5 (by decide) (fun c5 => ?_) (fun c5 => ?_)
  · skip
    refine lv_aload_n hx hb dX7_place_12 rfl (lv_at hl 0 rfl) ?_
    refine lv_iload_n hx hb dX7_place_13 rfl (lv_at hl 1 rfl) ?_
    refine lv_iconst (v := iI 2) hx hb dX7_place_14 rfl ?_
    refine wz_calli (wr := [(rM, .inl (cI, 4, .inl (zA fM))), (rT, .inl (cI, 80, .inl (zA fT))), (rX, .inl (cI, 80, .inl (zA fX))), (rY, .inl (cI, 80, .inl (zA fY)))]) (va_runV (As := [.int (iI a), .int (iI 2)]) (rest := [.ref hm]) ⟨hx, hb, hml, hown, hts⟩ (k_X7_is l D cI cJ cT H.size hm th rS rM rB rT rX rY rL sz1 rR at1 nu rt rx ry fo rF rG rU rV lo lB hi hB1 fS a 2 (c5) (by decide) (hS1)) (cwV 2 hts gX7_place_X7_is rfl rfl rfl (by decide +kernel) ⟨Nat.le_of_ble_eq_true rfl, Nat.le_of_ble_eq_true rfl⟩) (wz_preV hK hP hD [0, 1] (by decide) rfl rfl 7 0 rfl rfl) rfl rfl hl.1 rfl (lv_room (Nat.le_of_ble_eq_true rfl)) dX7_place_15 ⟨Nat.le_of_ble_eq_true rfl, Nat.le_of_ble_eq_true rfl⟩) hP hD hS hA [0, 1] [2, 3, 4, 5] rfl rfl rfl (by decide) (fun z15 u H locs hw15 hP hD hS => ?_)
    have hP : va_P D vwCl [(hm, .inr (7, [.int (iI th), .ref rS, .ref rM, .ref rB, .ref rT, .ref rX, .ref rY, .ref rL, .int (iI sz1), .ref rR, .int (iI at1), .long (lI nu), .ref rt, .ref rx, .ref ry, .int (iI fo), .ref rF, .ref rG, .ref rU, .ref rV, .long (lI lo), .long (lI lB), .long (lI hi), .long (lI hB1)])), (rS, .inl (cI, 4, .inl (zA fS))), (rM, .inl (cI, 4, .inl (zA fM))), (rT, .inl (cI, 80, .inl (zA fT))), (rX, .inl (cI, 80, .inl (zA fX))), (rY, .inl (cI, 80, .inl (zA fY)))] H := hP.sub [4, 5, 0, 1, 2, 3] rfl
    have hD : va_D A [(hm, .inr (7, [.int (iI th), .ref rS, .ref rM, .ref rB, .ref rT, .ref rX, .ref rY, .ref rL, .int (iI sz1), .ref rR, .int (iI at1), .long (lI nu), .ref rt, .ref rx, .ref ry, .int (iI fo), .ref rF, .ref rG, .ref rU, .ref rV, .long (lI lo), .long (lI lB), .long (lI hi), .long (lI hB1)])), (rS, .inl (cI, 4, .inl (zA fS))), (rM, .inl (cI, 4, .inl (zA fM))), (rT, .inl (cI, 80, .inl (zA fT))), (rX, .inl (cI, 80, .inl (zA fX))), (rY, .inl (cI, 80, .inl (zA fY)))] := hD.sub [4, 5, 0, 1, 2, 3] (by decide) rfl
    subst hw15
    refine wz_ifb_ne (tgt := 25) hx hb dX7_place_18 (by decide) (fun c18 => ?_) (fun c18 => ?_)
    · skip
      refine lv_iconst (v := iI 0) hx hb dX7_place_25 rfl ?_
      refine va_put (D := D) (ci := 7) (v := .int (iI 0)) (ty := .int) (C := RX7) (T := TX7) (N := 24) hx hb hts hin7 tyX7 tyX7_ok nmX7 hown hK hP hD hS 0 rfl rfl 0 (by decide) (hts (.fieldLink RX7 56 "DriftLogModel" "thrown" "I") (by decide +kernel)) (fun _ h9 => h9) rfl (by decide +kernel) rfl rfl (Nat.le_of_ble_eq_true rfl) dX7_place_26 (fun H locs hP hD hS => ?_)
      have hP : va_P D vwCl [(hm, .inr (7, [.int (iI 0), .ref rS, .ref rM, .ref rB, .ref rT, .ref rX, .ref rY, .ref rL, .int (iI sz1), .ref rR, .int (iI at1), .long (lI nu), .ref rt, .ref rx, .ref ry, .int (iI fo), .ref rF, .ref rG, .ref rU, .ref rV, .long (lI lo), .long (lI lB), .long (lI hi), .long (lI hB1)])), (rS, .inl (cI, 4, .inl (zA fS))), (rM, .inl (cI, 4, .inl (zA fM))), (rT, .inl (cI, 80, .inl (zA fT))), (rX, .inl (cI, 80, .inl (zA fX))), (rY, .inl (cI, 80, .inl (zA fY)))] H := hP
      have hD : va_D A [(hm, .inr (7, [.int (iI 0), .ref rS, .ref rM, .ref rB, .ref rT, .ref rX, .ref rY, .ref rL, .int (iI sz1), .ref rR, .int (iI at1), .long (lI nu), .ref rt, .ref rx, .ref ry, .int (iI fo), .ref rF, .ref rG, .ref rU, .ref rV, .long (lI lo), .long (lI lB), .long (lI hi), .long (lI hB1)])), (rS, .inl (cI, 4, .inl (zA fS))), (rM, .inl (cI, 4, .inl (zA fM))), (rT, .inl (cI, 80, .inl (zA fT))), (rX, .inl (cI, 80, .inl (zA fX))), (rY, .inl (cI, 80, .inl (zA fY)))] := hD
      refine lv_aload_n hx hb dX7_place_29 rfl (lv_at hl 0 rfl) ?_
      refine va_get (D := D) (ci := 7) (v := .int (iI 0)) (C := RX7) (T := TX7) (N := 24) hx hb hts hin7 hown hK hP 0 rfl rfl 0 (by decide) (hts (.fieldLink RX7 56 "DriftLogModel" "thrown" "I") (by decide +kernel)) (fun _ h9 => h9) rfl dX7_place_30 ?_
      refine wz_if_le (tgt := 38) hx hb dX7_place_33 (by decide) (by decide) (fun c33 => ?_) (fun c33 => ?_)
      · skip
        refine lv_bipush (v := iI 20) hx hb dX7_place_38 (by decide) ?_
        refine lv_iload_n hx hb dX7_place_40 rfl (lv_at hl 1 rfl) ?_
        refine wz_imul hx hb dX7_place_41 ?_
        refine lv_istore (lv' := [(5, .int (iI (20 * a))), (0, .ref hm), (1, .int (iI a)), (2, .int (iI t)), (3, .int (iI yy)), (4, .int (iI w))]) hx hb dX7_place_42 hl (by decide) rfl (fun ls hl => ?_)
        have rMa := hM1 a
        have rM1 := hM2 a c18
        have t0 := ht (20 * a)
        have t1 := ht (20 * a + fM a - 1)
        refine lv_aload_n hx hb dX7_place_44 rfl (lv_at hl 1 rfl) ?_
        refine va_get (D := D) (ci := 7) (v := .ref rM) (C := RX7) (T := TX7) (N := 24) hx hb hts hin7 hown hK hP 0 rfl rfl 2 (by decide) (hts (.fieldLink RX7 13 "DriftLogModel" "many" "[I") (by decide +kernel)) (fun _ h9 => h9) rfl dX7_place_45 ?_
        refine lv_iload_n hx hb dX7_place_48 rfl (lv_at hl 2 rfl) ?_
        refine wz_iald (tys := TY cI cJ cT) hx hb hK hP 2 0 rfl rfl (by decide) (by constructor <;> omega) dX7_place_49 ?_
        refine lv_istore (lv' := [(6, .int (iI (fM a))), (5, .int (iI (20 * a))), (0, .ref hm), (1, .int (iI a)), (2, .int (iI t)), (3, .int (iI yy)), (4, .int (iI w))]) hx hb dX7_place_50 hl (by decide) rfl (fun ls hl => ?_)
        refine lv_aload_n hx hb dX7_place_52 rfl (lv_at hl 2 rfl) ?_
        refine lv_iload_n hx hb dX7_place_53 rfl (lv_at hl 4 rfl) ?_
        refine lv_aload_n hx hb dX7_place_54 rfl (lv_at hl 2 rfl) ?_
        refine va_get (D := D) (ci := 7) (v := .ref rT) (C := RX7) (T := TX7) (N := 24) hx hb hts hin7 hown hK hP 0 rfl rfl 4 (by decide) (hts (.fieldLink RX7 19 "DriftLogModel" "time" "[I") (by decide +kernel)) (fun _ h9 => h9) rfl dX7_place_55 ?_
        refine lv_iload hx hb dX7_place_58 (lv_at hl 1 rfl) ?_
        refine wz_iald (tys := TY cI cJ cT) hx hb hK hP 3 0 rfl rfl (by decide) (by constructor <;> omega) dX7_place_60 ?_
        refine wz_icmp_lt (tgt := 80) hx hb dX7_place_61 (by decide) (hta) ⟨by omega, by omega⟩ (fun c61 => ?_) (fun c61 => ?_)
        · skip
          refine lv_iconst (v := iI 3) hx hb dX7_place_80 rfl ?_
          refine lv_goto (tgt := 85) hx hb dX7_place_81 (by decide) ?_
          refine va_put (D := D) (ci := 7) (v := .int (iI 3)) (ty := .int) (C := RX7) (T := TX7) (N := 24) hx hb hts hin7 tyX7 tyX7_ok nmX7 hown hK hP hD hS 0 rfl rfl 0 (by decide) (hts (.fieldLink RX7 56 "DriftLogModel" "thrown" "I") (by decide +kernel)) (fun _ h9 => h9) rfl (by decide +kernel) rfl rfl (Nat.le_of_ble_eq_true rfl) dX7_place_85 (fun H locs hP hD hS => ?_)
          have hP : va_P D vwCl [(hm, .inr (7, [.int (iI 3), .ref rS, .ref rM, .ref rB, .ref rT, .ref rX, .ref rY, .ref rL, .int (iI sz1), .ref rR, .int (iI at1), .long (lI nu), .ref rt, .ref rx, .ref ry, .int (iI fo), .ref rF, .ref rG, .ref rU, .ref rV, .long (lI lo), .long (lI lB), .long (lI hi), .long (lI hB1)])), (rS, .inl (cI, 4, .inl (zA fS))), (rM, .inl (cI, 4, .inl (zA fM))), (rT, .inl (cI, 80, .inl (zA fT))), (rX, .inl (cI, 80, .inl (zA fX))), (rY, .inl (cI, 80, .inl (zA fY)))] H := hP
          have hD : va_D A [(hm, .inr (7, [.int (iI 3), .ref rS, .ref rM, .ref rB, .ref rT, .ref rX, .ref rY, .ref rL, .int (iI sz1), .ref rR, .int (iI at1), .long (lI nu), .ref rt, .ref rx, .ref ry, .int (iI fo), .ref rF, .ref rG, .ref rU, .ref rV, .long (lI lo), .long (lI lB), .long (lI hi), .long (lI hB1)])), (rS, .inl (cI, 4, .inl (zA fS))), (rM, .inl (cI, 4, .inl (zA fM))), (rT, .inl (cI, 80, .inl (zA fT))), (rX, .inl (cI, 80, .inl (zA fX))), (rY, .inl (cI, 80, .inl (zA fY)))] := hD
          refine lv_aload_n hx hb dX7_place_88 rfl (lv_at hl 2 rfl) ?_
          refine va_get (D := D) (ci := 7) (v := .int (iI 3)) (C := RX7) (T := TX7) (N := 24) hx hb hts hin7 hown hK hP 0 rfl rfl 0 (by decide) (hts (.fieldLink RX7 56 "DriftLogModel" "thrown" "I") (by decide +kernel)) (fun _ h9 => h9) rfl dX7_place_89 ?_
          refine wz_if_le (tgt := 97) hx hb dX7_place_92 (by decide) (by decide) (fun c92 => ?_) (fun c92 => ?_)
          · skip
            exact absurd c92 (by decide)
          · skip
            refine lv_lconst (v := lI 0) hx hb dX7_place_95 (by decide) ?_
            rw [hQ]
            exact wz_retl (tys := TY cI cJ cT) (3, 0) hx hb hr hlocks hK hP hD hS (by (try dsimp only); exact (⟨fun h => (by first | exact rfl | (exfalso; omega)), fun h h2 => (by first | exact rfl | (exfalso; omega)), fun h h2 h3 => (by first | exact rfl | (exfalso; omega)), fun h h2 h3 => (by exfalso; omega)⟩)) dX7_place_96
        · skip
          refine lv_iload_n hx hb dX7_place_64 rfl (lv_at hl 4 rfl) ?_
          refine lv_aload_n hx hb dX7_place_65 rfl (lv_at hl 2 rfl) ?_
          refine va_get (D := D) (ci := 7) (v := .ref rT) (C := RX7) (T := TX7) (N := 24) hx hb hts hin7 hown hK hP 0 rfl rfl 4 (by decide) (hts (.fieldLink RX7 19 "DriftLogModel" "time" "[I") (by decide +kernel)) (fun _ h9 => h9) rfl dX7_place_66 ?_
          refine lv_iload hx hb dX7_place_69 (lv_at hl 1 rfl) ?_
          refine lv_iload hx hb dX7_place_71 (lv_at hl 0 rfl) ?_
          refine wz_iadd hx hb dX7_place_73 ?_
          refine lv_iconst (v := iI 1) hx hb dX7_place_74 rfl ?_
          refine wz_isub hx hb dX7_place_75 ?_
          refine wz_iald (tys := TY cI cJ cT) hx hb hK hP 3 0 rfl rfl (by decide) (by constructor <;> omega) dX7_place_76 ?_
          refine wz_icmp_le (tgt := 84) hx hb dX7_place_77 (by decide) (hta) ⟨by omega, by omega⟩ (fun c77 => ?_) (fun c77 => ?_)
          · skip
            refine lv_iconst (v := iI 0) hx hb dX7_place_84 rfl ?_
            refine va_put (D := D) (ci := 7) (v := .int (iI 0)) (ty := .int) (C := RX7) (T := TX7) (N := 24) hx hb hts hin7 tyX7 tyX7_ok nmX7 hown hK hP hD hS 0 rfl rfl 0 (by decide) (hts (.fieldLink RX7 56 "DriftLogModel" "thrown" "I") (by decide +kernel)) (fun _ h9 => h9) rfl (by decide +kernel) rfl rfl (Nat.le_of_ble_eq_true rfl) dX7_place_85 (fun H locs hP hD hS => ?_)
            have hP : va_P D vwCl [(hm, .inr (7, [.int (iI 0), .ref rS, .ref rM, .ref rB, .ref rT, .ref rX, .ref rY, .ref rL, .int (iI sz1), .ref rR, .int (iI at1), .long (lI nu), .ref rt, .ref rx, .ref ry, .int (iI fo), .ref rF, .ref rG, .ref rU, .ref rV, .long (lI lo), .long (lI lB), .long (lI hi), .long (lI hB1)])), (rS, .inl (cI, 4, .inl (zA fS))), (rM, .inl (cI, 4, .inl (zA fM))), (rT, .inl (cI, 80, .inl (zA fT))), (rX, .inl (cI, 80, .inl (zA fX))), (rY, .inl (cI, 80, .inl (zA fY)))] H := hP
            have hD : va_D A [(hm, .inr (7, [.int (iI 0), .ref rS, .ref rM, .ref rB, .ref rT, .ref rX, .ref rY, .ref rL, .int (iI sz1), .ref rR, .int (iI at1), .long (lI nu), .ref rt, .ref rx, .ref ry, .int (iI fo), .ref rF, .ref rG, .ref rU, .ref rV, .long (lI lo), .long (lI lB), .long (lI hi), .long (lI hB1)])), (rS, .inl (cI, 4, .inl (zA fS))), (rM, .inl (cI, 4, .inl (zA fM))), (rT, .inl (cI, 80, .inl (zA fT))), (rX, .inl (cI, 80, .inl (zA fX))), (rY, .inl (cI, 80, .inl (zA fY)))] := hD
            refine lv_aload_n hx hb dX7_place_88 rfl (lv_at hl 2 rfl) ?_
            refine va_get (D := D) (ci := 7) (v := .int (iI 0)) (C := RX7) (T := TX7) (N := 24) hx hb hts hin7 hown hK hP 0 rfl rfl 0 (by decide) (hts (.fieldLink RX7 56 "DriftLogModel" "thrown" "I") (by decide +kernel)) (fun _ h9 => h9) rfl dX7_place_89 ?_
            refine wz_if_le (tgt := 97) hx hb dX7_place_92 (by decide) (by decide) (fun c92 => ?_) (fun c92 => ?_)
            · skip
              refine lv_iload hx hb dX7_place_97 (lv_at hl 1 rfl) ?_
              refine lv_istore (lv' := [(7, .int (iI (20 * a))), (6, .int (iI (fM a))), (5, .int (iI (20 * a))), (0, .ref hm), (1, .int (iI a)), (2, .int (iI t)), (3, .int (iI yy)), (4, .int (iI w))]) hx hb dX7_place_99 hl (by decide) rfl (fun ls hl => ?_)
              have LP101 : ∀ (N101 : Nat) (k : Int) (H : Heap) (locs : List Loc) (ls : Array Slot), ((20 * a ≤ k ∧ k ≤ 20 * a + fM a - 1) ∧ fT k ≤ t) → (80 - k) < (N101 : Int) → va_P D vwCl [(hm, .inr (7, [.int (iI 0), .ref rS, .ref rM, .ref rB, .ref rT, .ref rX, .ref rY, .ref rL, .int (iI sz1), .ref rR, .int (iI at1), .long (lI nu), .ref rt, .ref rx, .ref ry, .int (iI fo), .ref rF, .ref rG, .ref rU, .ref rV, .long (lI lo), .long (lI lB), .long (lI hi), .long (lI hB1)])), (rS, .inl (cI, 4, .inl (zA fS))), (rM, .inl (cI, 4, .inl (zA fM))), (rT, .inl (cI, 80, .inl (zA fT))), (rX, .inl (cI, 80, .inl (zA fX))), (rY, .inl (cI, 80, .inl (zA fY)))] H → va_D A [(hm, .inr (7, [.int (iI 0), .ref rS, .ref rM, .ref rB, .ref rT, .ref rX, .ref rY, .ref rL, .int (iI sz1), .ref rR, .int (iI at1), .long (lI nu), .ref rt, .ref rx, .ref ry, .int (iI fo), .ref rF, .ref rG, .ref rU, .ref rV, .long (lI lo), .long (lI lB), .long (lI hi), .long (lI hB1)])), (rS, .inl (cI, 4, .inl (zA fS))), (rM, .inl (cI, 4, .inl (zA fM))), (rT, .inl (cI, 80, .inl (zA fT))), (rX, .inl (cI, 80, .inl (zA fX))), (rY, .inl (cI, 80, .inl (zA fY)))] → va_S A s.heap H locs → lv_has ls 18 [(0, .ref hm), (1, .int (iI a)), (2, .int (iI t)), (3, .int (iI yy)), (4, .int (iI w)), (5, .int (iI (20 * a))), (6, .int (iI (fM a))), (7, .int (iI k))] → W p l e { frames := 2, cells := 0, slots := 0, locals := 50 } s m ([.ref hm, .int (iI a), .int (iI t), .int (iI yy), .int (iI w)] : List Value).toArray below meth c H locs 0 0 Q (F0 m 101 ls []) := by
                intro N101
                induction N101 with
                | zero =>
                  intro k H locs ls hI hm
                  obtain ⟨a1, a2⟩ := hI
                  exfalso; omega
                | succ N101 ih101 =>
                  intro k H locs ls hI hm101 hP hD hS hl
                  obtain ⟨a1, a2⟩ := hI
                  refine lv_iload hx hb dX7_place_101 (lv_at hl 7 rfl) ?_
                  refine lv_iload hx hb dX7_place_103 (lv_at hl 5 rfl) ?_
                  refine lv_iload hx hb dX7_place_105 (lv_at hl 6 rfl) ?_
                  refine wz_iadd hx hb dX7_place_107 ?_
                  refine lv_iconst (v := iI 1) hx hb dX7_place_108 rfl ?_
                  refine wz_isub hx hb dX7_place_109 ?_
                  refine wz_icmp_ge (tgt := 132) hx hb dX7_place_110 (by decide) ⟨by omega, by omega⟩ ⟨by omega, by omega⟩ (fun c110 => ?_) (fun c110 => ?_)
                  · skip
                    have tk := ht k
                    have tk1 := ht (k + 1)
                    have xk := hx1 k
                    have yk := hy1 k
                    have xk1 := hx1 (k + 1)
                    have yk1 := hy1 (k + 1)
                    refine lv_iload_n hx hb dX7_place_132 rfl (lv_at hl 3 rfl) ?_
                    refine wz_if_eq (tgt := 147) hx hb dX7_place_133 (by decide) (hya) (fun c133 => ?_) (fun c133 => ?_)
                    · skip
                      refine lv_aload_n hx hb dX7_place_147 rfl (lv_at hl 0 rfl) ?_
                      refine va_get (D := D) (ci := 7) (v := .ref rX) (C := RX7) (T := TX7) (N := 24) hx hb hts hin7 hown hK hP 0 rfl rfl 5 (by decide) (hts (.fieldLink RX7 22 "DriftLogModel" "px" "[I") (by decide +kernel)) (fun _ h9 => h9) rfl dX7_place_148 ?_
                      refine lv_iload hx hb dX7_place_151 (lv_at hl 7 rfl) ?_
                      refine wz_iald (tys := TY cI cJ cT) hx hb hK hP 4 0 rfl rfl (by decide) (by constructor <;> omega) dX7_place_153 ?_
                      refine wz_i2l hx hb dX7_place_154 ⟨by omega, by omega⟩ ?_
                      refine lv_lstore (lv' := [(8, .long (lI (fX k))), (0, .ref hm), (1, .int (iI a)), (2, .int (iI t)), (3, .int (iI yy)), (4, .int (iI w)), (5, .int (iI (20 * a))), (6, .int (iI (fM a))), (7, .int (iI k))]) hx hb dX7_place_155 hl (by decide) rfl (fun ls hl => ?_)
                      refine lv_aload_n hx hb dX7_place_157 rfl (lv_at hl 1 rfl) ?_
                      refine va_get (D := D) (ci := 7) (v := .ref rT) (C := RX7) (T := TX7) (N := 24) hx hb hts hin7 hown hK hP 0 rfl rfl 4 (by decide) (hts (.fieldLink RX7 19 "DriftLogModel" "time" "[I") (by decide +kernel)) (fun _ h9 => h9) rfl dX7_place_158 ?_
                      refine lv_iload hx hb dX7_place_161 (lv_at hl 8 rfl) ?_
                      refine wz_iald (tys := TY cI cJ cT) hx hb hK hP 3 0 rfl rfl (by decide) (by constructor <;> omega) dX7_place_163 ?_
                      refine lv_iload_n hx hb dX7_place_164 rfl (lv_at hl 3 rfl) ?_
                      refine wz_icmp_ne (tgt := 180) hx hb dX7_place_165 (by decide) ⟨by omega, by omega⟩ (hta) (fun c165 => ?_) (fun c165 => ?_)
                      · skip
                        have kl : k < 20 * a + fM a - 1 := by rcases Int.lt_or_eq_of_le a1.2 with q | q; exact q; subst q; exfalso; omega
                        have inc := hinc a c5.1 c5.2 c18 (k - 20 * a) (by omega) (by omega)
                        unfold sh at inc
                        rw [show 20 * a + (k - 20 * a) = k by omega, show 20 * a + (k - 20 * a + 1) = k + 1 by omega] at inc
                        refine lv_iload_n hx hb dX7_place_180 rfl (lv_at hl 4 rfl) ?_
                        refine wz_if_eq (tgt := 197) hx hb dX7_place_181 (by decide) (hya) (fun c181 => ?_) (fun c181 => ?_)
                        · skip
                          refine lv_aload_n hx hb dX7_place_197 rfl (lv_at hl 1 rfl) ?_
                          refine va_get (D := D) (ci := 7) (v := .ref rX) (C := RX7) (T := TX7) (N := 24) hx hb hts hin7 hown hK hP 0 rfl rfl 5 (by decide) (hts (.fieldLink RX7 22 "DriftLogModel" "px" "[I") (by decide +kernel)) (fun _ h9 => h9) rfl dX7_place_198 ?_
                          refine lv_iload hx hb dX7_place_201 (lv_at hl 8 rfl) ?_
                          refine lv_iconst (v := iI 1) hx hb dX7_place_203 rfl ?_
                          refine wz_iadd hx hb dX7_place_204 ?_
                          refine wz_iald (tys := TY cI cJ cT) hx hb hK hP 4 0 rfl rfl (by decide) (by constructor <;> omega) dX7_place_205 ?_
                          refine wz_i2l hx hb dX7_place_206 ⟨by omega, by omega⟩ ?_
                          refine lv_lstore (lv' := [(10, .long (lI (fX (k + 1)))), (8, .long (lI (fX k))), (0, .ref hm), (1, .int (iI a)), (2, .int (iI t)), (3, .int (iI yy)), (4, .int (iI w)), (5, .int (iI (20 * a))), (6, .int (iI (fM a))), (7, .int (iI k))]) hx hb dX7_place_207 hl (by decide) rfl (fun ls hl => ?_)
                          refine lv_aload_n hx hb dX7_place_209 rfl (lv_at hl 2 rfl) ?_
                          refine va_get (D := D) (ci := 7) (v := .ref rT) (C := RX7) (T := TX7) (N := 24) hx hb hts hin7 hown hK hP 0 rfl rfl 4 (by decide) (hts (.fieldLink RX7 19 "DriftLogModel" "time" "[I") (by decide +kernel)) (fun _ h9 => h9) rfl dX7_place_210 ?_
                          refine lv_iload hx hb dX7_place_213 (lv_at hl 9 rfl) ?_
                          refine lv_iconst (v := iI 1) hx hb dX7_place_215 rfl ?_
                          refine wz_iadd hx hb dX7_place_216 ?_
                          refine wz_iald (tys := TY cI cJ cT) hx hb hK hP 3 0 rfl rfl (by decide) (by constructor <;> omega) dX7_place_217 ?_
                          refine wz_i2l hx hb dX7_place_218 ⟨by omega, by omega⟩ ?_
                          refine lv_aload_n hx hb dX7_place_219 rfl (lv_at hl 2 rfl) ?_
                          refine va_get (D := D) (ci := 7) (v := .ref rT) (C := RX7) (T := TX7) (N := 24) hx hb hts hin7 hown hK hP 0 rfl rfl 4 (by decide) (hts (.fieldLink RX7 19 "DriftLogModel" "time" "[I") (by decide +kernel)) (fun _ h9 => h9) rfl dX7_place_220 ?_
                          refine lv_iload hx hb dX7_place_223 (lv_at hl 9 rfl) ?_
                          refine wz_iald (tys := TY cI cJ cT) hx hb hK hP 3 0 rfl rfl (by decide) (by constructor <;> omega) dX7_place_225 ?_
                          refine wz_i2l hx hb dX7_place_226 ⟨by omega, by omega⟩ ?_
                          refine wz_lsub hx hb dX7_place_227 ?_
                          refine lv_lstore (lv' := [(12, .long (lI ((fT (k + 1)) - (fT k)))), (10, .long (lI (fX (k + 1)))), (8, .long (lI (fX k))), (0, .ref hm), (1, .int (iI a)), (2, .int (iI t)), (3, .int (iI yy)), (4, .int (iI w)), (5, .int (iI (20 * a))), (6, .int (iI (fM a))), (7, .int (iI k))]) hx hb dX7_place_228 hl (by decide) rfl (fun ls hl => ?_)
                          refine lv_lload hx hb dX7_place_230 (lv_at hl 2 rfl) ?_
                          refine lv_lload hx hb dX7_place_232 (lv_at hl 0 rfl) ?_
                          refine wz_lmul hx hb dX7_place_234 ?_
                          refine lv_lload hx hb dX7_place_235 (lv_at hl 1 rfl) ?_
                          refine lv_lload hx hb dX7_place_237 (lv_at hl 2 rfl) ?_
                          refine wz_lsub hx hb dX7_place_239 ?_
                          refine lv_iload_n hx hb dX7_place_240 rfl (lv_at hl 5 rfl) ?_
                          refine wz_i2l hx hb dX7_place_241 ⟨by omega, by omega⟩ ?_
                          refine lv_aload_n hx hb dX7_place_242 rfl (lv_at hl 3 rfl) ?_
                          refine va_get (D := D) (ci := 7) (v := .ref rT) (C := RX7) (T := TX7) (N := 24) hx hb hts hin7 hown hK hP 0 rfl rfl 4 (by decide) (hts (.fieldLink RX7 19 "DriftLogModel" "time" "[I") (by decide +kernel)) (fun _ h9 => h9) rfl dX7_place_243 ?_
                          refine lv_iload hx hb dX7_place_246 (lv_at hl 10 rfl) ?_
                          refine wz_iald (tys := TY cI cJ cT) hx hb hK hP 3 0 rfl rfl (by decide) (by constructor <;> omega) dX7_place_248 ?_
                          refine wz_i2l hx hb dX7_place_249 ⟨by omega, by omega⟩ ?_
                          refine wz_lsub hx hb dX7_place_250 ?_
                          refine wz_lmul hx hb dX7_place_251 ?_
                          refine wz_ladd hx hb dX7_place_252 ?_
                          refine lv_lstore (lv' := [(14, .long (lI (((fX k) * ((fT (k + 1)) - (fT k))) + (((fX (k + 1)) - (fX k)) * (t - (fT k)))))), (12, .long (lI ((fT (k + 1)) - (fT k)))), (10, .long (lI (fX (k + 1)))), (8, .long (lI (fX k))), (0, .ref hm), (1, .int (iI a)), (2, .int (iI t)), (3, .int (iI yy)), (4, .int (iI w)), (5, .int (iI (20 * a))), (6, .int (iI (fM a))), (7, .int (iI k))]) hx hb dX7_place_253 hl (by decide) rfl (fun ls hl => ?_)
                          have pb := plZ_b (k := k) (t := t) ht hx1 hta
                          refine lv_lload hx hb dX7_place_255 (lv_at hl 0 rfl) ?_
                          refine lv_lload hx hb dX7_place_257 (lv_at hl 1 rfl) ?_
                          refine wz_calll (wr := [(hm, .inr (7, [.int (iI 0), .ref rS, .ref rM, .ref rB, .ref rT, .ref rX, .ref rY, .ref rL, .int (iI sz1), .ref rR, .int (iI at1), .long (lI nu), .ref rt, .ref rx, .ref ry, .int (iI fo), .ref rF, .ref rG, .ref rU, .ref rV, .long (lI lo), .long (lI lB), .long (lI hi), .long (lI hB1)])), (rS, .inl (cI, 4, .inl (zA fS))), (rM, .inl (cI, 4, .inl (zA fM))), (rT, .inl (cI, 80, .inl (zA fT))), (rX, .inl (cI, 80, .inl (zA fX))), (rY, .inl (cI, 80, .inl (zA fY)))]) (va_runS (As := [.long (lI (((fX k) * ((fT (k + 1)) - (fT k))) + (((fX (k + 1)) - (fX k)) * (t - (fT k))))), .long (lI ((fT (k + 1)) - (fT k)))]) (rest := []) ⟨hx, hb, hml, hown, hts⟩ (k_X7_divisor l D cI cJ cT H.size (((fX k) * ((fT (k + 1)) - (fT k))) + (((fX (k + 1)) - (fX k)) * (t - (fT k)))) ((fT (k + 1)) - (fT k)) (by have q := pb; constructor <;> omega) (by constructor <;> omega)) (va_cwS 2 hts gX7_place_X7_divisor rfl rfl rfl (by decide +kernel) ⟨Nat.le_of_ble_eq_true rfl, Nat.le_of_ble_eq_true rfl⟩) (wz_preS hK hP hD [] (by decide) rfl rfl) rfl rfl hl.1 rfl (lv_room (Nat.le_of_ble_eq_true rfl)) dX7_place_259 ⟨Nat.le_of_ble_eq_true rfl, Nat.le_of_ble_eq_true rfl⟩) hP hD hS hA [] [0, 1, 2, 3, 4, 5] rfl rfl rfl (by decide) (fun z259 u H locs hw259 hP hD hS => ?_)
                          have hP : va_P D vwCl [(hm, .inr (7, [.int (iI 0), .ref rS, .ref rM, .ref rB, .ref rT, .ref rX, .ref rY, .ref rL, .int (iI sz1), .ref rR, .int (iI at1), .long (lI nu), .ref rt, .ref rx, .ref ry, .int (iI fo), .ref rF, .ref rG, .ref rU, .ref rV, .long (lI lo), .long (lI lB), .long (lI hi), .long (lI hB1)])), (rS, .inl (cI, 4, .inl (zA fS))), (rM, .inl (cI, 4, .inl (zA fM))), (rT, .inl (cI, 80, .inl (zA fT))), (rX, .inl (cI, 80, .inl (zA fX))), (rY, .inl (cI, 80, .inl (zA fY)))] H := hP.sub [0, 1, 2, 3, 4, 5] rfl
                          have hD : va_D A [(hm, .inr (7, [.int (iI 0), .ref rS, .ref rM, .ref rB, .ref rT, .ref rX, .ref rY, .ref rL, .int (iI sz1), .ref rR, .int (iI at1), .long (lI nu), .ref rt, .ref rx, .ref ry, .int (iI fo), .ref rF, .ref rG, .ref rU, .ref rV, .long (lI lo), .long (lI lB), .long (lI hi), .long (lI hB1)])), (rS, .inl (cI, 4, .inl (zA fS))), (rM, .inl (cI, 4, .inl (zA fM))), (rT, .inl (cI, 80, .inl (zA fT))), (rX, .inl (cI, 80, .inl (zA fX))), (rY, .inl (cI, 80, .inl (zA fY)))] := hD.sub [0, 1, 2, 3, 4, 5] (by decide) rfl
                          subst hw259
                          have gp : 0 < gZ (((fX k) * ((fT (k + 1)) - (fT k))) + (((fX (k + 1)) - (fX k)) * (t - (fT k)))) ((fT (k + 1)) - (fT k)) ∧ gZ (((fX k) * ((fT (k + 1)) - (fT k))) + (((fX (k + 1)) - (fX k)) * (t - (fT k)))) ((fT (k + 1)) - (fT k)) ≤ ((fT (k + 1)) - (fT k)) := ⟨gZ_pos (by omega), gZ_le (by omega)⟩
                          refine lv_lstore (lv' := [(16, .long (lI (gZ (((fX k) * ((fT (k + 1)) - (fT k))) + (((fX (k + 1)) - (fX k)) * (t - (fT k)))) ((fT (k + 1)) - (fT k))))), (14, .long (lI (((fX k) * ((fT (k + 1)) - (fT k))) + (((fX (k + 1)) - (fX k)) * (t - (fT k)))))), (12, .long (lI ((fT (k + 1)) - (fT k)))), (10, .long (lI (fX (k + 1)))), (8, .long (lI (fX k))), (0, .ref hm), (1, .int (iI a)), (2, .int (iI t)), (3, .int (iI yy)), (4, .int (iI w)), (5, .int (iI (20 * a))), (6, .int (iI (fM a))), (7, .int (iI k))]) hx hb dX7_place_262 hl (by decide) rfl (fun ls hl => ?_)
                          refine lv_iload hx hb dX7_place_264 (lv_at hl 9 rfl) ?_
                          refine wz_if_eq (tgt := 277) hx hb dX7_place_266 (by decide) (hwa) (fun c266 => ?_) (fun c266 => ?_)
                          · skip
                            refine lv_lload hx hb dX7_place_277 (lv_at hl 1 rfl) ?_
                            refine lv_lload hx hb dX7_place_279 (lv_at hl 0 rfl) ?_
                            refine lv_ldiv hx hb dX7_place_281 (lI_ne0 ⟨by omega, by omega⟩ (by omega)) ?_
                            refine wz_topl (y := lI ((((fX k) * ((fT (k + 1)) - (fT k))) + (((fX (k + 1)) - (fX k)) * (t - (fT k)))).tdiv (gZ (((fX k) * ((fT (k + 1)) - (fT k))) + (((fX (k + 1)) - (fX k)) * (t - (fT k)))) ((fT (k + 1)) - (fT k))))) (lI_div ⟨by omega, by omega⟩ ⟨by omega, by omega⟩ (by left; omega)) ?_
                            rw [hQ]
                            exact wz_retl (tys := TY cI cJ cT) (0, k) hx hb hr hlocks hK hP hD hS (by (try dsimp only); exact (⟨fun h => (by exfalso; omega), fun h h2 => (by exfalso; omega), fun h h2 h3 => (by exfalso; omega), fun h h2 h3 => ⟨rfl, a1, a2, (fun q => by omega), by rw [if_pos c133]; unfold plZ loT; rw [if_neg c165]; first | rw [if_pos c266] | rw [if_neg c266]⟩⟩)) dX7_place_282
                          · skip
                            refine lv_lload hx hb dX7_place_269 (lv_at hl 2 rfl) ?_
                            refine lv_lload hx hb dX7_place_271 (lv_at hl 0 rfl) ?_
                            refine lv_ldiv hx hb dX7_place_273 (lI_ne0 ⟨by omega, by omega⟩ (by omega)) ?_
                            refine wz_topl (y := lI (((fT (k + 1)) - (fT k)).tdiv (gZ (((fX k) * ((fT (k + 1)) - (fT k))) + (((fX (k + 1)) - (fX k)) * (t - (fT k)))) ((fT (k + 1)) - (fT k))))) (lI_div ⟨by omega, by omega⟩ ⟨by omega, by omega⟩ (by left; omega)) ?_
                            refine lv_goto (tgt := 282) hx hb dX7_place_274 (by decide) ?_
                            rw [hQ]
                            exact wz_retl (tys := TY cI cJ cT) (0, k) hx hb hr hlocks hK hP hD hS (by (try dsimp only); exact (⟨fun h => (by exfalso; omega), fun h h2 => (by exfalso; omega), fun h h2 h3 => (by exfalso; omega), fun h h2 h3 => ⟨rfl, a1, a2, (fun q => by omega), by rw [if_pos c133]; unfold plZ loT; rw [if_neg c165]; first | rw [if_pos c266] | rw [if_neg c266]⟩⟩)) dX7_place_282
                        · skip
                          exfalso; omega
                      · skip
                        refine lv_iload hx hb dX7_place_168 (lv_at hl 5 rfl) ?_
                        refine wz_if_eq (tgt := 177) hx hb dX7_place_170 (by decide) (hwa) (fun c170 => ?_) (fun c170 => ?_)
                        · skip
                          refine lv_lload hx hb dX7_place_177 (lv_at hl 0 rfl) ?_
                          rw [hQ]
                          exact wz_retl (tys := TY cI cJ cT) (0, k) hx hb hr hlocks hK hP hD hS (by (try dsimp only); exact (⟨fun h => (by exfalso; omega), fun h h2 => (by exfalso; omega), fun h h2 h3 => (by exfalso; omega), fun h h2 h3 => ⟨rfl, a1, a2, (fun q => by omega), by rw [if_pos c133]; unfold plZ; rw [if_pos c165]; first | rw [if_pos c170] | rw [if_neg c170]⟩⟩)) dX7_place_179
                        · skip
                          refine lv_lconst (v := lI 1) hx hb dX7_place_173 (by decide) ?_
                          refine lv_goto (tgt := 179) hx hb dX7_place_174 (by decide) ?_
                          rw [hQ]
                          exact wz_retl (tys := TY cI cJ cT) (0, k) hx hb hr hlocks hK hP hD hS (by (try dsimp only); exact (⟨fun h => (by exfalso; omega), fun h h2 => (by exfalso; omega), fun h h2 h3 => (by exfalso; omega), fun h h2 h3 => ⟨rfl, a1, a2, (fun q => by omega), by rw [if_pos c133]; unfold plZ; rw [if_pos c165]; first | rw [if_pos c170] | rw [if_neg c170]⟩⟩)) dX7_place_179
                    · skip
                      refine lv_aload_n hx hb dX7_place_136 rfl (lv_at hl 0 rfl) ?_
                      refine va_get (D := D) (ci := 7) (v := .ref rY) (C := RX7) (T := TX7) (N := 24) hx hb hts hin7 hown hK hP 0 rfl rfl 6 (by decide) (hts (.fieldLink RX7 25 "DriftLogModel" "py" "[I") (by decide +kernel)) (fun _ h9 => h9) rfl dX7_place_137 ?_
                      refine lv_iload hx hb dX7_place_140 (lv_at hl 7 rfl) ?_
                      refine wz_iald (tys := TY cI cJ cT) hx hb hK hP 5 0 rfl rfl (by decide) (by constructor <;> omega) dX7_place_142 ?_
                      refine wz_i2l hx hb dX7_place_143 ⟨by omega, by omega⟩ ?_
                      refine lv_goto (tgt := 155) hx hb dX7_place_144 (by decide) ?_
                      refine lv_lstore (lv' := [(8, .long (lI (fY k))), (0, .ref hm), (1, .int (iI a)), (2, .int (iI t)), (3, .int (iI yy)), (4, .int (iI w)), (5, .int (iI (20 * a))), (6, .int (iI (fM a))), (7, .int (iI k))]) hx hb dX7_place_155 hl (by decide) rfl (fun ls hl => ?_)
                      refine lv_aload_n hx hb dX7_place_157 rfl (lv_at hl 1 rfl) ?_
                      refine va_get (D := D) (ci := 7) (v := .ref rT) (C := RX7) (T := TX7) (N := 24) hx hb hts hin7 hown hK hP 0 rfl rfl 4 (by decide) (hts (.fieldLink RX7 19 "DriftLogModel" "time" "[I") (by decide +kernel)) (fun _ h9 => h9) rfl dX7_place_158 ?_
                      refine lv_iload hx hb dX7_place_161 (lv_at hl 8 rfl) ?_
                      refine wz_iald (tys := TY cI cJ cT) hx hb hK hP 3 0 rfl rfl (by decide) (by constructor <;> omega) dX7_place_163 ?_
                      refine lv_iload_n hx hb dX7_place_164 rfl (lv_at hl 3 rfl) ?_
                      refine wz_icmp_ne (tgt := 180) hx hb dX7_place_165 (by decide) ⟨by omega, by omega⟩ (hta) (fun c165 => ?_) (fun c165 => ?_)
                      · skip
                        have kl : k < 20 * a + fM a - 1 := by rcases Int.lt_or_eq_of_le a1.2 with q | q; exact q; subst q; exfalso; omega
                        have inc := hinc a c5.1 c5.2 c18 (k - 20 * a) (by omega) (by omega)
                        unfold sh at inc
                        rw [show 20 * a + (k - 20 * a) = k by omega, show 20 * a + (k - 20 * a + 1) = k + 1 by omega] at inc
                        refine lv_iload_n hx hb dX7_place_180 rfl (lv_at hl 4 rfl) ?_
                        refine wz_if_eq (tgt := 197) hx hb dX7_place_181 (by decide) (hya) (fun c181 => ?_) (fun c181 => ?_)
                        · skip
                          exfalso; omega
                        · skip
                          refine lv_aload_n hx hb dX7_place_184 rfl (lv_at hl 1 rfl) ?_
                          refine va_get (D := D) (ci := 7) (v := .ref rY) (C := RX7) (T := TX7) (N := 24) hx hb hts hin7 hown hK hP 0 rfl rfl 6 (by decide) (hts (.fieldLink RX7 25 "DriftLogModel" "py" "[I") (by decide +kernel)) (fun _ h9 => h9) rfl dX7_place_185 ?_
                          refine lv_iload hx hb dX7_place_188 (lv_at hl 8 rfl) ?_
                          refine lv_iconst (v := iI 1) hx hb dX7_place_190 rfl ?_
                          refine wz_iadd hx hb dX7_place_191 ?_
                          refine wz_iald (tys := TY cI cJ cT) hx hb hK hP 5 0 rfl rfl (by decide) (by constructor <;> omega) dX7_place_192 ?_
                          refine wz_i2l hx hb dX7_place_193 ⟨by omega, by omega⟩ ?_
                          refine lv_goto (tgt := 207) hx hb dX7_place_194 (by decide) ?_
                          refine lv_lstore (lv' := [(10, .long (lI (fY (k + 1)))), (8, .long (lI (fY k))), (0, .ref hm), (1, .int (iI a)), (2, .int (iI t)), (3, .int (iI yy)), (4, .int (iI w)), (5, .int (iI (20 * a))), (6, .int (iI (fM a))), (7, .int (iI k))]) hx hb dX7_place_207 hl (by decide) rfl (fun ls hl => ?_)
                          refine lv_aload_n hx hb dX7_place_209 rfl (lv_at hl 2 rfl) ?_
                          refine va_get (D := D) (ci := 7) (v := .ref rT) (C := RX7) (T := TX7) (N := 24) hx hb hts hin7 hown hK hP 0 rfl rfl 4 (by decide) (hts (.fieldLink RX7 19 "DriftLogModel" "time" "[I") (by decide +kernel)) (fun _ h9 => h9) rfl dX7_place_210 ?_
                          refine lv_iload hx hb dX7_place_213 (lv_at hl 9 rfl) ?_
                          refine lv_iconst (v := iI 1) hx hb dX7_place_215 rfl ?_
                          refine wz_iadd hx hb dX7_place_216 ?_
                          refine wz_iald (tys := TY cI cJ cT) hx hb hK hP 3 0 rfl rfl (by decide) (by constructor <;> omega) dX7_place_217 ?_
                          refine wz_i2l hx hb dX7_place_218 ⟨by omega, by omega⟩ ?_
                          refine lv_aload_n hx hb dX7_place_219 rfl (lv_at hl 2 rfl) ?_
                          refine va_get (D := D) (ci := 7) (v := .ref rT) (C := RX7) (T := TX7) (N := 24) hx hb hts hin7 hown hK hP 0 rfl rfl 4 (by decide) (hts (.fieldLink RX7 19 "DriftLogModel" "time" "[I") (by decide +kernel)) (fun _ h9 => h9) rfl dX7_place_220 ?_
                          refine lv_iload hx hb dX7_place_223 (lv_at hl 9 rfl) ?_
                          refine wz_iald (tys := TY cI cJ cT) hx hb hK hP 3 0 rfl rfl (by decide) (by constructor <;> omega) dX7_place_225 ?_
                          refine wz_i2l hx hb dX7_place_226 ⟨by omega, by omega⟩ ?_
                          refine wz_lsub hx hb dX7_place_227 ?_
                          refine lv_lstore (lv' := [(12, .long (lI ((fT (k + 1)) - (fT k)))), (10, .long (lI (fY (k + 1)))), (8, .long (lI (fY k))), (0, .ref hm), (1, .int (iI a)), (2, .int (iI t)), (3, .int (iI yy)), (4, .int (iI w)), (5, .int (iI (20 * a))), (6, .int (iI (fM a))), (7, .int (iI k))]) hx hb dX7_place_228 hl (by decide) rfl (fun ls hl => ?_)
                          refine lv_lload hx hb dX7_place_230 (lv_at hl 2 rfl) ?_
                          refine lv_lload hx hb dX7_place_232 (lv_at hl 0 rfl) ?_
                          refine wz_lmul hx hb dX7_place_234 ?_
                          refine lv_lload hx hb dX7_place_235 (lv_at hl 1 rfl) ?_
                          refine lv_lload hx hb dX7_place_237 (lv_at hl 2 rfl) ?_
                          refine wz_lsub hx hb dX7_place_239 ?_
                          refine lv_iload_n hx hb dX7_place_240 rfl (lv_at hl 5 rfl) ?_
                          refine wz_i2l hx hb dX7_place_241 ⟨by omega, by omega⟩ ?_
                          refine lv_aload_n hx hb dX7_place_242 rfl (lv_at hl 3 rfl) ?_
                          refine va_get (D := D) (ci := 7) (v := .ref rT) (C := RX7) (T := TX7) (N := 24) hx hb hts hin7 hown hK hP 0 rfl rfl 4 (by decide) (hts (.fieldLink RX7 19 "DriftLogModel" "time" "[I") (by decide +kernel)) (fun _ h9 => h9) rfl dX7_place_243 ?_
                          refine lv_iload hx hb dX7_place_246 (lv_at hl 10 rfl) ?_
                          refine wz_iald (tys := TY cI cJ cT) hx hb hK hP 3 0 rfl rfl (by decide) (by constructor <;> omega) dX7_place_248 ?_
                          refine wz_i2l hx hb dX7_place_249 ⟨by omega, by omega⟩ ?_
                          refine wz_lsub hx hb dX7_place_250 ?_
                          refine wz_lmul hx hb dX7_place_251 ?_
                          refine wz_ladd hx hb dX7_place_252 ?_
                          refine lv_lstore (lv' := [(14, .long (lI (((fY k) * ((fT (k + 1)) - (fT k))) + (((fY (k + 1)) - (fY k)) * (t - (fT k)))))), (12, .long (lI ((fT (k + 1)) - (fT k)))), (10, .long (lI (fY (k + 1)))), (8, .long (lI (fY k))), (0, .ref hm), (1, .int (iI a)), (2, .int (iI t)), (3, .int (iI yy)), (4, .int (iI w)), (5, .int (iI (20 * a))), (6, .int (iI (fM a))), (7, .int (iI k))]) hx hb dX7_place_253 hl (by decide) rfl (fun ls hl => ?_)
                          have pb := plZ_b (k := k) (t := t) ht hy1 hta
                          refine lv_lload hx hb dX7_place_255 (lv_at hl 0 rfl) ?_
                          refine lv_lload hx hb dX7_place_257 (lv_at hl 1 rfl) ?_
                          refine wz_calll (wr := [(hm, .inr (7, [.int (iI 0), .ref rS, .ref rM, .ref rB, .ref rT, .ref rX, .ref rY, .ref rL, .int (iI sz1), .ref rR, .int (iI at1), .long (lI nu), .ref rt, .ref rx, .ref ry, .int (iI fo), .ref rF, .ref rG, .ref rU, .ref rV, .long (lI lo), .long (lI lB), .long (lI hi), .long (lI hB1)])), (rS, .inl (cI, 4, .inl (zA fS))), (rM, .inl (cI, 4, .inl (zA fM))), (rT, .inl (cI, 80, .inl (zA fT))), (rX, .inl (cI, 80, .inl (zA fX))), (rY, .inl (cI, 80, .inl (zA fY)))]) (va_runS (As := [.long (lI (((fY k) * ((fT (k + 1)) - (fT k))) + (((fY (k + 1)) - (fY k)) * (t - (fT k))))), .long (lI ((fT (k + 1)) - (fT k)))]) (rest := []) ⟨hx, hb, hml, hown, hts⟩ (k_X7_divisor l D cI cJ cT H.size (((fY k) * ((fT (k + 1)) - (fT k))) + (((fY (k + 1)) - (fY k)) * (t - (fT k)))) ((fT (k + 1)) - (fT k)) (by have q := pb; constructor <;> omega) (by constructor <;> omega)) (va_cwS 2 hts gX7_place_X7_divisor rfl rfl rfl (by decide +kernel) ⟨Nat.le_of_ble_eq_true rfl, Nat.le_of_ble_eq_true rfl⟩) (wz_preS hK hP hD [] (by decide) rfl rfl) rfl rfl hl.1 rfl (lv_room (Nat.le_of_ble_eq_true rfl)) dX7_place_259 ⟨Nat.le_of_ble_eq_true rfl, Nat.le_of_ble_eq_true rfl⟩) hP hD hS hA [] [0, 1, 2, 3, 4, 5] rfl rfl rfl (by decide) (fun z259 u H locs hw259 hP hD hS => ?_)
                          have hP : va_P D vwCl [(hm, .inr (7, [.int (iI 0), .ref rS, .ref rM, .ref rB, .ref rT, .ref rX, .ref rY, .ref rL, .int (iI sz1), .ref rR, .int (iI at1), .long (lI nu), .ref rt, .ref rx, .ref ry, .int (iI fo), .ref rF, .ref rG, .ref rU, .ref rV, .long (lI lo), .long (lI lB), .long (lI hi), .long (lI hB1)])), (rS, .inl (cI, 4, .inl (zA fS))), (rM, .inl (cI, 4, .inl (zA fM))), (rT, .inl (cI, 80, .inl (zA fT))), (rX, .inl (cI, 80, .inl (zA fX))), (rY, .inl (cI, 80, .inl (zA fY)))] H := hP.sub [0, 1, 2, 3, 4, 5] rfl
                          have hD : va_D A [(hm, .inr (7, [.int (iI 0), .ref rS, .ref rM, .ref rB, .ref rT, .ref rX, .ref rY, .ref rL, .int (iI sz1), .ref rR, .int (iI at1), .long (lI nu), .ref rt, .ref rx, .ref ry, .int (iI fo), .ref rF, .ref rG, .ref rU, .ref rV, .long (lI lo), .long (lI lB), .long (lI hi), .long (lI hB1)])), (rS, .inl (cI, 4, .inl (zA fS))), (rM, .inl (cI, 4, .inl (zA fM))), (rT, .inl (cI, 80, .inl (zA fT))), (rX, .inl (cI, 80, .inl (zA fX))), (rY, .inl (cI, 80, .inl (zA fY)))] := hD.sub [0, 1, 2, 3, 4, 5] (by decide) rfl
                          subst hw259
                          have gp : 0 < gZ (((fY k) * ((fT (k + 1)) - (fT k))) + (((fY (k + 1)) - (fY k)) * (t - (fT k)))) ((fT (k + 1)) - (fT k)) ∧ gZ (((fY k) * ((fT (k + 1)) - (fT k))) + (((fY (k + 1)) - (fY k)) * (t - (fT k)))) ((fT (k + 1)) - (fT k)) ≤ ((fT (k + 1)) - (fT k)) := ⟨gZ_pos (by omega), gZ_le (by omega)⟩
                          refine lv_lstore (lv' := [(16, .long (lI (gZ (((fY k) * ((fT (k + 1)) - (fT k))) + (((fY (k + 1)) - (fY k)) * (t - (fT k)))) ((fT (k + 1)) - (fT k))))), (14, .long (lI (((fY k) * ((fT (k + 1)) - (fT k))) + (((fY (k + 1)) - (fY k)) * (t - (fT k)))))), (12, .long (lI ((fT (k + 1)) - (fT k)))), (10, .long (lI (fY (k + 1)))), (8, .long (lI (fY k))), (0, .ref hm), (1, .int (iI a)), (2, .int (iI t)), (3, .int (iI yy)), (4, .int (iI w)), (5, .int (iI (20 * a))), (6, .int (iI (fM a))), (7, .int (iI k))]) hx hb dX7_place_262 hl (by decide) rfl (fun ls hl => ?_)
                          refine lv_iload hx hb dX7_place_264 (lv_at hl 9 rfl) ?_
                          refine wz_if_eq (tgt := 277) hx hb dX7_place_266 (by decide) (hwa) (fun c266 => ?_) (fun c266 => ?_)
                          · skip
                            refine lv_lload hx hb dX7_place_277 (lv_at hl 1 rfl) ?_
                            refine lv_lload hx hb dX7_place_279 (lv_at hl 0 rfl) ?_
                            refine lv_ldiv hx hb dX7_place_281 (lI_ne0 ⟨by omega, by omega⟩ (by omega)) ?_
                            refine wz_topl (y := lI ((((fY k) * ((fT (k + 1)) - (fT k))) + (((fY (k + 1)) - (fY k)) * (t - (fT k)))).tdiv (gZ (((fY k) * ((fT (k + 1)) - (fT k))) + (((fY (k + 1)) - (fY k)) * (t - (fT k)))) ((fT (k + 1)) - (fT k))))) (lI_div ⟨by omega, by omega⟩ ⟨by omega, by omega⟩ (by left; omega)) ?_
                            rw [hQ]
                            exact wz_retl (tys := TY cI cJ cT) (0, k) hx hb hr hlocks hK hP hD hS (by (try dsimp only); exact (⟨fun h => (by exfalso; omega), fun h h2 => (by exfalso; omega), fun h h2 h3 => (by exfalso; omega), fun h h2 h3 => ⟨rfl, a1, a2, (fun q => by omega), by rw [if_neg c133]; unfold plZ loT; rw [if_neg c165]; first | rw [if_pos c266] | rw [if_neg c266]⟩⟩)) dX7_place_282
                          · skip
                            refine lv_lload hx hb dX7_place_269 (lv_at hl 2 rfl) ?_
                            refine lv_lload hx hb dX7_place_271 (lv_at hl 0 rfl) ?_
                            refine lv_ldiv hx hb dX7_place_273 (lI_ne0 ⟨by omega, by omega⟩ (by omega)) ?_
                            refine wz_topl (y := lI (((fT (k + 1)) - (fT k)).tdiv (gZ (((fY k) * ((fT (k + 1)) - (fT k))) + (((fY (k + 1)) - (fY k)) * (t - (fT k)))) ((fT (k + 1)) - (fT k))))) (lI_div ⟨by omega, by omega⟩ ⟨by omega, by omega⟩ (by left; omega)) ?_
                            refine lv_goto (tgt := 282) hx hb dX7_place_274 (by decide) ?_
                            rw [hQ]
                            exact wz_retl (tys := TY cI cJ cT) (0, k) hx hb hr hlocks hK hP hD hS (by (try dsimp only); exact (⟨fun h => (by exfalso; omega), fun h h2 => (by exfalso; omega), fun h h2 h3 => (by exfalso; omega), fun h h2 h3 => ⟨rfl, a1, a2, (fun q => by omega), by rw [if_neg c133]; unfold plZ loT; rw [if_neg c165]; first | rw [if_pos c266] | rw [if_neg c266]⟩⟩)) dX7_place_282
                      · skip
                        refine lv_iload hx hb dX7_place_168 (lv_at hl 5 rfl) ?_
                        refine wz_if_eq (tgt := 177) hx hb dX7_place_170 (by decide) (hwa) (fun c170 => ?_) (fun c170 => ?_)
                        · skip
                          refine lv_lload hx hb dX7_place_177 (lv_at hl 0 rfl) ?_
                          rw [hQ]
                          exact wz_retl (tys := TY cI cJ cT) (0, k) hx hb hr hlocks hK hP hD hS (by (try dsimp only); exact (⟨fun h => (by exfalso; omega), fun h h2 => (by exfalso; omega), fun h h2 h3 => (by exfalso; omega), fun h h2 h3 => ⟨rfl, a1, a2, (fun q => by omega), by rw [if_neg c133]; unfold plZ; rw [if_pos c165]; first | rw [if_pos c170] | rw [if_neg c170]⟩⟩)) dX7_place_179
                        · skip
                          refine lv_lconst (v := lI 1) hx hb dX7_place_173 (by decide) ?_
                          refine lv_goto (tgt := 179) hx hb dX7_place_174 (by decide) ?_
                          rw [hQ]
                          exact wz_retl (tys := TY cI cJ cT) (0, k) hx hb hr hlocks hK hP hD hS (by (try dsimp only); exact (⟨fun h => (by exfalso; omega), fun h h2 => (by exfalso; omega), fun h h2 h3 => (by exfalso; omega), fun h h2 h3 => ⟨rfl, a1, a2, (fun q => by omega), by rw [if_neg c133]; unfold plZ; rw [if_pos c165]; first | rw [if_pos c170] | rw [if_neg c170]⟩⟩)) dX7_place_179
                  · skip
                    refine lv_aload_n hx hb dX7_place_113 rfl (lv_at hl 0 rfl) ?_
                    refine va_get (D := D) (ci := 7) (v := .ref rT) (C := RX7) (T := TX7) (N := 24) hx hb hts hin7 hown hK hP 0 rfl rfl 4 (by decide) (hts (.fieldLink RX7 19 "DriftLogModel" "time" "[I") (by decide +kernel)) (fun _ h9 => h9) rfl dX7_place_114 ?_
                    refine lv_iload hx hb dX7_place_117 (lv_at hl 7 rfl) ?_
                    refine lv_iconst (v := iI 1) hx hb dX7_place_119 rfl ?_
                    refine wz_iadd hx hb dX7_place_120 ?_
                    refine wz_iald (tys := TY cI cJ cT) hx hb hK hP 3 0 rfl rfl (by decide) (by constructor <;> omega) dX7_place_121 ?_
                    refine lv_iload_n hx hb dX7_place_122 rfl (lv_at hl 2 rfl) ?_
                    refine wz_icmp_gt (tgt := 132) hx hb dX7_place_123 (by decide) (by have := ht (k + 1); constructor <;> omega) (hta) (fun c123 => ?_) (fun c123 => ?_)
                    · skip
                      have tk := ht k
                      have tk1 := ht (k + 1)
                      have xk := hx1 k
                      have yk := hy1 k
                      have xk1 := hx1 (k + 1)
                      have yk1 := hy1 (k + 1)
                      refine lv_iload_n hx hb dX7_place_132 rfl (lv_at hl 3 rfl) ?_
                      refine wz_if_eq (tgt := 147) hx hb dX7_place_133 (by decide) (hya) (fun c133 => ?_) (fun c133 => ?_)
                      · skip
                        refine lv_aload_n hx hb dX7_place_147 rfl (lv_at hl 0 rfl) ?_
                        refine va_get (D := D) (ci := 7) (v := .ref rX) (C := RX7) (T := TX7) (N := 24) hx hb hts hin7 hown hK hP 0 rfl rfl 5 (by decide) (hts (.fieldLink RX7 22 "DriftLogModel" "px" "[I") (by decide +kernel)) (fun _ h9 => h9) rfl dX7_place_148 ?_
                        refine lv_iload hx hb dX7_place_151 (lv_at hl 7 rfl) ?_
                        refine wz_iald (tys := TY cI cJ cT) hx hb hK hP 4 0 rfl rfl (by decide) (by constructor <;> omega) dX7_place_153 ?_
                        refine wz_i2l hx hb dX7_place_154 ⟨by omega, by omega⟩ ?_
                        refine lv_lstore (lv' := [(8, .long (lI (fX k))), (0, .ref hm), (1, .int (iI a)), (2, .int (iI t)), (3, .int (iI yy)), (4, .int (iI w)), (5, .int (iI (20 * a))), (6, .int (iI (fM a))), (7, .int (iI k))]) hx hb dX7_place_155 hl (by decide) rfl (fun ls hl => ?_)
                        refine lv_aload_n hx hb dX7_place_157 rfl (lv_at hl 1 rfl) ?_
                        refine va_get (D := D) (ci := 7) (v := .ref rT) (C := RX7) (T := TX7) (N := 24) hx hb hts hin7 hown hK hP 0 rfl rfl 4 (by decide) (hts (.fieldLink RX7 19 "DriftLogModel" "time" "[I") (by decide +kernel)) (fun _ h9 => h9) rfl dX7_place_158 ?_
                        refine lv_iload hx hb dX7_place_161 (lv_at hl 8 rfl) ?_
                        refine wz_iald (tys := TY cI cJ cT) hx hb hK hP 3 0 rfl rfl (by decide) (by constructor <;> omega) dX7_place_163 ?_
                        refine lv_iload_n hx hb dX7_place_164 rfl (lv_at hl 3 rfl) ?_
                        refine wz_icmp_ne (tgt := 180) hx hb dX7_place_165 (by decide) ⟨by omega, by omega⟩ (hta) (fun c165 => ?_) (fun c165 => ?_)
                        · skip
                          have kl : k < 20 * a + fM a - 1 := by rcases Int.lt_or_eq_of_le a1.2 with q | q; exact q; subst q; exfalso; omega
                          have inc := hinc a c5.1 c5.2 c18 (k - 20 * a) (by omega) (by omega)
                          unfold sh at inc
                          rw [show 20 * a + (k - 20 * a) = k by omega, show 20 * a + (k - 20 * a + 1) = k + 1 by omega] at inc
                          refine lv_iload_n hx hb dX7_place_180 rfl (lv_at hl 4 rfl) ?_
                          refine wz_if_eq (tgt := 197) hx hb dX7_place_181 (by decide) (hya) (fun c181 => ?_) (fun c181 => ?_)
                          · skip
                            refine lv_aload_n hx hb dX7_place_197 rfl (lv_at hl 1 rfl) ?_
                            refine va_get (D := D) (ci := 7) (v := .ref rX) (C := RX7) (T := TX7) (N := 24) hx hb hts hin7 hown hK hP 0 rfl rfl 5 (by decide) (hts (.fieldLink RX7 22 "DriftLogModel" "px" "[I") (by decide +kernel)) (fun _ h9 => h9) rfl dX7_place_198 ?_
                            refine lv_iload hx hb dX7_place_201 (lv_at hl 8 rfl) ?_
                            refine lv_iconst (v := iI 1) hx hb dX7_place_203 rfl ?_
                            refine wz_iadd hx hb dX7_place_204 ?_
                            refine wz_iald (tys := TY cI cJ cT) hx hb hK hP 4 0 rfl rfl (by decide) (by constructor <;> omega) dX7_place_205 ?_
                            refine wz_i2l hx hb dX7_place_206 ⟨by omega, by omega⟩ ?_
                            refine lv_lstore (lv' := [(10, .long (lI (fX (k + 1)))), (8, .long (lI (fX k))), (0, .ref hm), (1, .int (iI a)), (2, .int (iI t)), (3, .int (iI yy)), (4, .int (iI w)), (5, .int (iI (20 * a))), (6, .int (iI (fM a))), (7, .int (iI k))]) hx hb dX7_place_207 hl (by decide) rfl (fun ls hl => ?_)
                            refine lv_aload_n hx hb dX7_place_209 rfl (lv_at hl 2 rfl) ?_
                            refine va_get (D := D) (ci := 7) (v := .ref rT) (C := RX7) (T := TX7) (N := 24) hx hb hts hin7 hown hK hP 0 rfl rfl 4 (by decide) (hts (.fieldLink RX7 19 "DriftLogModel" "time" "[I") (by decide +kernel)) (fun _ h9 => h9) rfl dX7_place_210 ?_
                            refine lv_iload hx hb dX7_place_213 (lv_at hl 9 rfl) ?_
                            refine lv_iconst (v := iI 1) hx hb dX7_place_215 rfl ?_
                            refine wz_iadd hx hb dX7_place_216 ?_
                            refine wz_iald (tys := TY cI cJ cT) hx hb hK hP 3 0 rfl rfl (by decide) (by constructor <;> omega) dX7_place_217 ?_
                            refine wz_i2l hx hb dX7_place_218 ⟨by omega, by omega⟩ ?_
                            refine lv_aload_n hx hb dX7_place_219 rfl (lv_at hl 2 rfl) ?_
                            refine va_get (D := D) (ci := 7) (v := .ref rT) (C := RX7) (T := TX7) (N := 24) hx hb hts hin7 hown hK hP 0 rfl rfl 4 (by decide) (hts (.fieldLink RX7 19 "DriftLogModel" "time" "[I") (by decide +kernel)) (fun _ h9 => h9) rfl dX7_place_220 ?_
                            refine lv_iload hx hb dX7_place_223 (lv_at hl 9 rfl) ?_
                            refine wz_iald (tys := TY cI cJ cT) hx hb hK hP 3 0 rfl rfl (by decide) (by constructor <;> omega) dX7_place_225 ?_
                            refine wz_i2l hx hb dX7_place_226 ⟨by omega, by omega⟩ ?_
                            refine wz_lsub hx hb dX7_place_227 ?_
                            refine lv_lstore (lv' := [(12, .long (lI ((fT (k + 1)) - (fT k)))), (10, .long (lI (fX (k + 1)))), (8, .long (lI (fX k))), (0, .ref hm), (1, .int (iI a)), (2, .int (iI t)), (3, .int (iI yy)), (4, .int (iI w)), (5, .int (iI (20 * a))), (6, .int (iI (fM a))), (7, .int (iI k))]) hx hb dX7_place_228 hl (by decide) rfl (fun ls hl => ?_)
                            refine lv_lload hx hb dX7_place_230 (lv_at hl 2 rfl) ?_
                            refine lv_lload hx hb dX7_place_232 (lv_at hl 0 rfl) ?_
                            refine wz_lmul hx hb dX7_place_234 ?_
                            refine lv_lload hx hb dX7_place_235 (lv_at hl 1 rfl) ?_
                            refine lv_lload hx hb dX7_place_237 (lv_at hl 2 rfl) ?_
                            refine wz_lsub hx hb dX7_place_239 ?_
                            refine lv_iload_n hx hb dX7_place_240 rfl (lv_at hl 5 rfl) ?_
                            refine wz_i2l hx hb dX7_place_241 ⟨by omega, by omega⟩ ?_
                            refine lv_aload_n hx hb dX7_place_242 rfl (lv_at hl 3 rfl) ?_
                            refine va_get (D := D) (ci := 7) (v := .ref rT) (C := RX7) (T := TX7) (N := 24) hx hb hts hin7 hown hK hP 0 rfl rfl 4 (by decide) (hts (.fieldLink RX7 19 "DriftLogModel" "time" "[I") (by decide +kernel)) (fun _ h9 => h9) rfl dX7_place_243 ?_
                            refine lv_iload hx hb dX7_place_246 (lv_at hl 10 rfl) ?_
                            refine wz_iald (tys := TY cI cJ cT) hx hb hK hP 3 0 rfl rfl (by decide) (by constructor <;> omega) dX7_place_248 ?_
                            refine wz_i2l hx hb dX7_place_249 ⟨by omega, by omega⟩ ?_
                            refine wz_lsub hx hb dX7_place_250 ?_
                            refine wz_lmul hx hb dX7_place_251 ?_
                            refine wz_ladd hx hb dX7_place_252 ?_
                            refine lv_lstore (lv' := [(14, .long (lI (((fX k) * ((fT (k + 1)) - (fT k))) + (((fX (k + 1)) - (fX k)) * (t - (fT k)))))), (12, .long (lI ((fT (k + 1)) - (fT k)))), (10, .long (lI (fX (k + 1)))), (8, .long (lI (fX k))), (0, .ref hm), (1, .int (iI a)), (2, .int (iI t)), (3, .int (iI yy)), (4, .int (iI w)), (5, .int (iI (20 * a))), (6, .int (iI (fM a))), (7, .int (iI k))]) hx hb dX7_place_253 hl (by decide) rfl (fun ls hl => ?_)
                            have pb := plZ_b (k := k) (t := t) ht hx1 hta
                            refine lv_lload hx hb dX7_place_255 (lv_at hl 0 rfl) ?_
                            refine lv_lload hx hb dX7_place_257 (lv_at hl 1 rfl) ?_
                            refine wz_calll (wr := [(hm, .inr (7, [.int (iI 0), .ref rS, .ref rM, .ref rB, .ref rT, .ref rX, .ref rY, .ref rL, .int (iI sz1), .ref rR, .int (iI at1), .long (lI nu), .ref rt, .ref rx, .ref ry, .int (iI fo), .ref rF, .ref rG, .ref rU, .ref rV, .long (lI lo), .long (lI lB), .long (lI hi), .long (lI hB1)])), (rS, .inl (cI, 4, .inl (zA fS))), (rM, .inl (cI, 4, .inl (zA fM))), (rT, .inl (cI, 80, .inl (zA fT))), (rX, .inl (cI, 80, .inl (zA fX))), (rY, .inl (cI, 80, .inl (zA fY)))]) (va_runS (As := [.long (lI (((fX k) * ((fT (k + 1)) - (fT k))) + (((fX (k + 1)) - (fX k)) * (t - (fT k))))), .long (lI ((fT (k + 1)) - (fT k)))]) (rest := []) ⟨hx, hb, hml, hown, hts⟩ (k_X7_divisor l D cI cJ cT H.size (((fX k) * ((fT (k + 1)) - (fT k))) + (((fX (k + 1)) - (fX k)) * (t - (fT k)))) ((fT (k + 1)) - (fT k)) (by have q := pb; constructor <;> omega) (by constructor <;> omega)) (va_cwS 2 hts gX7_place_X7_divisor rfl rfl rfl (by decide +kernel) ⟨Nat.le_of_ble_eq_true rfl, Nat.le_of_ble_eq_true rfl⟩) (wz_preS hK hP hD [] (by decide) rfl rfl) rfl rfl hl.1 rfl (lv_room (Nat.le_of_ble_eq_true rfl)) dX7_place_259 ⟨Nat.le_of_ble_eq_true rfl, Nat.le_of_ble_eq_true rfl⟩) hP hD hS hA [] [0, 1, 2, 3, 4, 5] rfl rfl rfl (by decide) (fun z259 u H locs hw259 hP hD hS => ?_)
                            have hP : va_P D vwCl [(hm, .inr (7, [.int (iI 0), .ref rS, .ref rM, .ref rB, .ref rT, .ref rX, .ref rY, .ref rL, .int (iI sz1), .ref rR, .int (iI at1), .long (lI nu), .ref rt, .ref rx, .ref ry, .int (iI fo), .ref rF, .ref rG, .ref rU, .ref rV, .long (lI lo), .long (lI lB), .long (lI hi), .long (lI hB1)])), (rS, .inl (cI, 4, .inl (zA fS))), (rM, .inl (cI, 4, .inl (zA fM))), (rT, .inl (cI, 80, .inl (zA fT))), (rX, .inl (cI, 80, .inl (zA fX))), (rY, .inl (cI, 80, .inl (zA fY)))] H := hP.sub [0, 1, 2, 3, 4, 5] rfl
                            have hD : va_D A [(hm, .inr (7, [.int (iI 0), .ref rS, .ref rM, .ref rB, .ref rT, .ref rX, .ref rY, .ref rL, .int (iI sz1), .ref rR, .int (iI at1), .long (lI nu), .ref rt, .ref rx, .ref ry, .int (iI fo), .ref rF, .ref rG, .ref rU, .ref rV, .long (lI lo), .long (lI lB), .long (lI hi), .long (lI hB1)])), (rS, .inl (cI, 4, .inl (zA fS))), (rM, .inl (cI, 4, .inl (zA fM))), (rT, .inl (cI, 80, .inl (zA fT))), (rX, .inl (cI, 80, .inl (zA fX))), (rY, .inl (cI, 80, .inl (zA fY)))] := hD.sub [0, 1, 2, 3, 4, 5] (by decide) rfl
                            subst hw259
                            have gp : 0 < gZ (((fX k) * ((fT (k + 1)) - (fT k))) + (((fX (k + 1)) - (fX k)) * (t - (fT k)))) ((fT (k + 1)) - (fT k)) ∧ gZ (((fX k) * ((fT (k + 1)) - (fT k))) + (((fX (k + 1)) - (fX k)) * (t - (fT k)))) ((fT (k + 1)) - (fT k)) ≤ ((fT (k + 1)) - (fT k)) := ⟨gZ_pos (by omega), gZ_le (by omega)⟩
                            refine lv_lstore (lv' := [(16, .long (lI (gZ (((fX k) * ((fT (k + 1)) - (fT k))) + (((fX (k + 1)) - (fX k)) * (t - (fT k)))) ((fT (k + 1)) - (fT k))))), (14, .long (lI (((fX k) * ((fT (k + 1)) - (fT k))) + (((fX (k + 1)) - (fX k)) * (t - (fT k)))))), (12, .long (lI ((fT (k + 1)) - (fT k)))), (10, .long (lI (fX (k + 1)))), (8, .long (lI (fX k))), (0, .ref hm), (1, .int (iI a)), (2, .int (iI t)), (3, .int (iI yy)), (4, .int (iI w)), (5, .int (iI (20 * a))), (6, .int (iI (fM a))), (7, .int (iI k))]) hx hb dX7_place_262 hl (by decide) rfl (fun ls hl => ?_)
                            refine lv_iload hx hb dX7_place_264 (lv_at hl 9 rfl) ?_
                            refine wz_if_eq (tgt := 277) hx hb dX7_place_266 (by decide) (hwa) (fun c266 => ?_) (fun c266 => ?_)
                            · skip
                              refine lv_lload hx hb dX7_place_277 (lv_at hl 1 rfl) ?_
                              refine lv_lload hx hb dX7_place_279 (lv_at hl 0 rfl) ?_
                              refine lv_ldiv hx hb dX7_place_281 (lI_ne0 ⟨by omega, by omega⟩ (by omega)) ?_
                              refine wz_topl (y := lI ((((fX k) * ((fT (k + 1)) - (fT k))) + (((fX (k + 1)) - (fX k)) * (t - (fT k)))).tdiv (gZ (((fX k) * ((fT (k + 1)) - (fT k))) + (((fX (k + 1)) - (fX k)) * (t - (fT k)))) ((fT (k + 1)) - (fT k))))) (lI_div ⟨by omega, by omega⟩ ⟨by omega, by omega⟩ (by left; omega)) ?_
                              rw [hQ]
                              exact wz_retl (tys := TY cI cJ cT) (0, k) hx hb hr hlocks hK hP hD hS (by (try dsimp only); exact (⟨fun h => (by exfalso; omega), fun h h2 => (by exfalso; omega), fun h h2 h3 => (by exfalso; omega), fun h h2 h3 => ⟨rfl, a1, a2, (fun q => by omega), by rw [if_pos c133]; unfold plZ loT; rw [if_neg c165]; first | rw [if_pos c266] | rw [if_neg c266]⟩⟩)) dX7_place_282
                            · skip
                              refine lv_lload hx hb dX7_place_269 (lv_at hl 2 rfl) ?_
                              refine lv_lload hx hb dX7_place_271 (lv_at hl 0 rfl) ?_
                              refine lv_ldiv hx hb dX7_place_273 (lI_ne0 ⟨by omega, by omega⟩ (by omega)) ?_
                              refine wz_topl (y := lI (((fT (k + 1)) - (fT k)).tdiv (gZ (((fX k) * ((fT (k + 1)) - (fT k))) + (((fX (k + 1)) - (fX k)) * (t - (fT k)))) ((fT (k + 1)) - (fT k))))) (lI_div ⟨by omega, by omega⟩ ⟨by omega, by omega⟩ (by left; omega)) ?_
                              refine lv_goto (tgt := 282) hx hb dX7_place_274 (by decide) ?_
                              rw [hQ]
                              exact wz_retl (tys := TY cI cJ cT) (0, k) hx hb hr hlocks hK hP hD hS (by (try dsimp only); exact (⟨fun h => (by exfalso; omega), fun h h2 => (by exfalso; omega), fun h h2 h3 => (by exfalso; omega), fun h h2 h3 => ⟨rfl, a1, a2, (fun q => by omega), by rw [if_pos c133]; unfold plZ loT; rw [if_neg c165]; first | rw [if_pos c266] | rw [if_neg c266]⟩⟩)) dX7_place_282
                          · skip
                            exfalso; omega
                        · skip
                          refine lv_iload hx hb dX7_place_168 (lv_at hl 5 rfl) ?_
                          refine wz_if_eq (tgt := 177) hx hb dX7_place_170 (by decide) (hwa) (fun c170 => ?_) (fun c170 => ?_)
                          · skip
                            refine lv_lload hx hb dX7_place_177 (lv_at hl 0 rfl) ?_
                            rw [hQ]
                            exact wz_retl (tys := TY cI cJ cT) (0, k) hx hb hr hlocks hK hP hD hS (by (try dsimp only); exact (⟨fun h => (by exfalso; omega), fun h h2 => (by exfalso; omega), fun h h2 h3 => (by exfalso; omega), fun h h2 h3 => ⟨rfl, a1, a2, (fun q => by omega), by rw [if_pos c133]; unfold plZ; rw [if_pos c165]; first | rw [if_pos c170] | rw [if_neg c170]⟩⟩)) dX7_place_179
                          · skip
                            refine lv_lconst (v := lI 1) hx hb dX7_place_173 (by decide) ?_
                            refine lv_goto (tgt := 179) hx hb dX7_place_174 (by decide) ?_
                            rw [hQ]
                            exact wz_retl (tys := TY cI cJ cT) (0, k) hx hb hr hlocks hK hP hD hS (by (try dsimp only); exact (⟨fun h => (by exfalso; omega), fun h h2 => (by exfalso; omega), fun h h2 h3 => (by exfalso; omega), fun h h2 h3 => ⟨rfl, a1, a2, (fun q => by omega), by rw [if_pos c133]; unfold plZ; rw [if_pos c165]; first | rw [if_pos c170] | rw [if_neg c170]⟩⟩)) dX7_place_179
                      · skip
                        refine lv_aload_n hx hb dX7_place_136 rfl (lv_at hl 0 rfl) ?_
                        refine va_get (D := D) (ci := 7) (v := .ref rY) (C := RX7) (T := TX7) (N := 24) hx hb hts hin7 hown hK hP 0 rfl rfl 6 (by decide) (hts (.fieldLink RX7 25 "DriftLogModel" "py" "[I") (by decide +kernel)) (fun _ h9 => h9) rfl dX7_place_137 ?_
                        refine lv_iload hx hb dX7_place_140 (lv_at hl 7 rfl) ?_
                        refine wz_iald (tys := TY cI cJ cT) hx hb hK hP 5 0 rfl rfl (by decide) (by constructor <;> omega) dX7_place_142 ?_
                        refine wz_i2l hx hb dX7_place_143 ⟨by omega, by omega⟩ ?_
                        refine lv_goto (tgt := 155) hx hb dX7_place_144 (by decide) ?_
                        refine lv_lstore (lv' := [(8, .long (lI (fY k))), (0, .ref hm), (1, .int (iI a)), (2, .int (iI t)), (3, .int (iI yy)), (4, .int (iI w)), (5, .int (iI (20 * a))), (6, .int (iI (fM a))), (7, .int (iI k))]) hx hb dX7_place_155 hl (by decide) rfl (fun ls hl => ?_)
                        refine lv_aload_n hx hb dX7_place_157 rfl (lv_at hl 1 rfl) ?_
                        refine va_get (D := D) (ci := 7) (v := .ref rT) (C := RX7) (T := TX7) (N := 24) hx hb hts hin7 hown hK hP 0 rfl rfl 4 (by decide) (hts (.fieldLink RX7 19 "DriftLogModel" "time" "[I") (by decide +kernel)) (fun _ h9 => h9) rfl dX7_place_158 ?_
                        refine lv_iload hx hb dX7_place_161 (lv_at hl 8 rfl) ?_
                        refine wz_iald (tys := TY cI cJ cT) hx hb hK hP 3 0 rfl rfl (by decide) (by constructor <;> omega) dX7_place_163 ?_
                        refine lv_iload_n hx hb dX7_place_164 rfl (lv_at hl 3 rfl) ?_
                        refine wz_icmp_ne (tgt := 180) hx hb dX7_place_165 (by decide) ⟨by omega, by omega⟩ (hta) (fun c165 => ?_) (fun c165 => ?_)
                        · skip
                          have kl : k < 20 * a + fM a - 1 := by rcases Int.lt_or_eq_of_le a1.2 with q | q; exact q; subst q; exfalso; omega
                          have inc := hinc a c5.1 c5.2 c18 (k - 20 * a) (by omega) (by omega)
                          unfold sh at inc
                          rw [show 20 * a + (k - 20 * a) = k by omega, show 20 * a + (k - 20 * a + 1) = k + 1 by omega] at inc
                          refine lv_iload_n hx hb dX7_place_180 rfl (lv_at hl 4 rfl) ?_
                          refine wz_if_eq (tgt := 197) hx hb dX7_place_181 (by decide) (hya) (fun c181 => ?_) (fun c181 => ?_)
                          · skip
                            exfalso; omega
                          · skip
                            refine lv_aload_n hx hb dX7_place_184 rfl (lv_at hl 1 rfl) ?_
                            refine va_get (D := D) (ci := 7) (v := .ref rY) (C := RX7) (T := TX7) (N := 24) hx hb hts hin7 hown hK hP 0 rfl rfl 6 (by decide) (hts (.fieldLink RX7 25 "DriftLogModel" "py" "[I") (by decide +kernel)) (fun _ h9 => h9) rfl dX7_place_185 ?_
                            refine lv_iload hx hb dX7_place_188 (lv_at hl 8 rfl) ?_
                            refine lv_iconst (v := iI 1) hx hb dX7_place_190 rfl ?_
                            refine wz_iadd hx hb dX7_place_191 ?_
                            refine wz_iald (tys := TY cI cJ cT) hx hb hK hP 5 0 rfl rfl (by decide) (by constructor <;> omega) dX7_place_192 ?_
                            refine wz_i2l hx hb dX7_place_193 ⟨by omega, by omega⟩ ?_
                            refine lv_goto (tgt := 207) hx hb dX7_place_194 (by decide) ?_
                            refine lv_lstore (lv' := [(10, .long (lI (fY (k + 1)))), (8, .long (lI (fY k))), (0, .ref hm), (1, .int (iI a)), (2, .int (iI t)), (3, .int (iI yy)), (4, .int (iI w)), (5, .int (iI (20 * a))), (6, .int (iI (fM a))), (7, .int (iI k))]) hx hb dX7_place_207 hl (by decide) rfl (fun ls hl => ?_)
                            refine lv_aload_n hx hb dX7_place_209 rfl (lv_at hl 2 rfl) ?_
                            refine va_get (D := D) (ci := 7) (v := .ref rT) (C := RX7) (T := TX7) (N := 24) hx hb hts hin7 hown hK hP 0 rfl rfl 4 (by decide) (hts (.fieldLink RX7 19 "DriftLogModel" "time" "[I") (by decide +kernel)) (fun _ h9 => h9) rfl dX7_place_210 ?_
                            refine lv_iload hx hb dX7_place_213 (lv_at hl 9 rfl) ?_
                            refine lv_iconst (v := iI 1) hx hb dX7_place_215 rfl ?_
                            refine wz_iadd hx hb dX7_place_216 ?_
                            refine wz_iald (tys := TY cI cJ cT) hx hb hK hP 3 0 rfl rfl (by decide) (by constructor <;> omega) dX7_place_217 ?_
                            refine wz_i2l hx hb dX7_place_218 ⟨by omega, by omega⟩ ?_
                            refine lv_aload_n hx hb dX7_place_219 rfl (lv_at hl 2 rfl) ?_
                            refine va_get (D := D) (ci := 7) (v := .ref rT) (C := RX7) (T := TX7) (N := 24) hx hb hts hin7 hown hK hP 0 rfl rfl 4 (by decide) (hts (.fieldLink RX7 19 "DriftLogModel" "time" "[I") (by decide +kernel)) (fun _ h9 => h9) rfl dX7_place_220 ?_
                            refine lv_iload hx hb dX7_place_223 (lv_at hl 9 rfl) ?_
                            refine wz_iald (tys := TY cI cJ cT) hx hb hK hP 3 0 rfl rfl (by decide) (by constructor <;> omega) dX7_place_225 ?_
                            refine wz_i2l hx hb dX7_place_226 ⟨by omega, by omega⟩ ?_
                            refine wz_lsub hx hb dX7_place_227 ?_
                            refine lv_lstore (lv' := [(12, .long (lI ((fT (k + 1)) - (fT k)))), (10, .long (lI (fY (k + 1)))), (8, .long (lI (fY k))), (0, .ref hm), (1, .int (iI a)), (2, .int (iI t)), (3, .int (iI yy)), (4, .int (iI w)), (5, .int (iI (20 * a))), (6, .int (iI (fM a))), (7, .int (iI k))]) hx hb dX7_place_228 hl (by decide) rfl (fun ls hl => ?_)
                            refine lv_lload hx hb dX7_place_230 (lv_at hl 2 rfl) ?_
                            refine lv_lload hx hb dX7_place_232 (lv_at hl 0 rfl) ?_
                            refine wz_lmul hx hb dX7_place_234 ?_
                            refine lv_lload hx hb dX7_place_235 (lv_at hl 1 rfl) ?_
                            refine lv_lload hx hb dX7_place_237 (lv_at hl 2 rfl) ?_
                            refine wz_lsub hx hb dX7_place_239 ?_
                            refine lv_iload_n hx hb dX7_place_240 rfl (lv_at hl 5 rfl) ?_
                            refine wz_i2l hx hb dX7_place_241 ⟨by omega, by omega⟩ ?_
                            refine lv_aload_n hx hb dX7_place_242 rfl (lv_at hl 3 rfl) ?_
                            refine va_get (D := D) (ci := 7) (v := .ref rT) (C := RX7) (T := TX7) (N := 24) hx hb hts hin7 hown hK hP 0 rfl rfl 4 (by decide) (hts (.fieldLink RX7 19 "DriftLogModel" "time" "[I") (by decide +kernel)) (fun _ h9 => h9) rfl dX7_place_243 ?_
                            refine lv_iload hx hb dX7_place_246 (lv_at hl 10 rfl) ?_
                            refine wz_iald (tys := TY cI cJ cT) hx hb hK hP 3 0 rfl rfl (by decide) (by constructor <;> omega) dX7_place_248 ?_
                            refine wz_i2l hx hb dX7_place_249 ⟨by omega, by omega⟩ ?_
                            refine wz_lsub hx hb dX7_place_250 ?_
                            refine wz_lmul hx hb dX7_place_251 ?_
                            refine wz_ladd hx hb dX7_place_252 ?_
                            refine lv_lstore (lv' := [(14, .long (lI (((fY k) * ((fT (k + 1)) - (fT k))) + (((fY (k + 1)) - (fY k)) * (t - (fT k)))))), (12, .long (lI ((fT (k + 1)) - (fT k)))), (10, .long (lI (fY (k + 1)))), (8, .long (lI (fY k))), (0, .ref hm), (1, .int (iI a)), (2, .int (iI t)), (3, .int (iI yy)), (4, .int (iI w)), (5, .int (iI (20 * a))), (6, .int (iI (fM a))), (7, .int (iI k))]) hx hb dX7_place_253 hl (by decide) rfl (fun ls hl => ?_)
                            have pb := plZ_b (k := k) (t := t) ht hy1 hta
                            refine lv_lload hx hb dX7_place_255 (lv_at hl 0 rfl) ?_
                            refine lv_lload hx hb dX7_place_257 (lv_at hl 1 rfl) ?_
                            refine wz_calll (wr := [(hm, .inr (7, [.int (iI 0), .ref rS, .ref rM, .ref rB, .ref rT, .ref rX, .ref rY, .ref rL, .int (iI sz1), .ref rR, .int (iI at1), .long (lI nu), .ref rt, .ref rx, .ref ry, .int (iI fo), .ref rF, .ref rG, .ref rU, .ref rV, .long (lI lo), .long (lI lB), .long (lI hi), .long (lI hB1)])), (rS, .inl (cI, 4, .inl (zA fS))), (rM, .inl (cI, 4, .inl (zA fM))), (rT, .inl (cI, 80, .inl (zA fT))), (rX, .inl (cI, 80, .inl (zA fX))), (rY, .inl (cI, 80, .inl (zA fY)))]) (va_runS (As := [.long (lI (((fY k) * ((fT (k + 1)) - (fT k))) + (((fY (k + 1)) - (fY k)) * (t - (fT k))))), .long (lI ((fT (k + 1)) - (fT k)))]) (rest := []) ⟨hx, hb, hml, hown, hts⟩ (k_X7_divisor l D cI cJ cT H.size (((fY k) * ((fT (k + 1)) - (fT k))) + (((fY (k + 1)) - (fY k)) * (t - (fT k)))) ((fT (k + 1)) - (fT k)) (by have q := pb; constructor <;> omega) (by constructor <;> omega)) (va_cwS 2 hts gX7_place_X7_divisor rfl rfl rfl (by decide +kernel) ⟨Nat.le_of_ble_eq_true rfl, Nat.le_of_ble_eq_true rfl⟩) (wz_preS hK hP hD [] (by decide) rfl rfl) rfl rfl hl.1 rfl (lv_room (Nat.le_of_ble_eq_true rfl)) dX7_place_259 ⟨Nat.le_of_ble_eq_true rfl, Nat.le_of_ble_eq_true rfl⟩) hP hD hS hA [] [0, 1, 2, 3, 4, 5] rfl rfl rfl (by decide) (fun z259 u H locs hw259 hP hD hS => ?_)
                            have hP : va_P D vwCl [(hm, .inr (7, [.int (iI 0), .ref rS, .ref rM, .ref rB, .ref rT, .ref rX, .ref rY, .ref rL, .int (iI sz1), .ref rR, .int (iI at1), .long (lI nu), .ref rt, .ref rx, .ref ry, .int (iI fo), .ref rF, .ref rG, .ref rU, .ref rV, .long (lI lo), .long (lI lB), .long (lI hi), .long (lI hB1)])), (rS, .inl (cI, 4, .inl (zA fS))), (rM, .inl (cI, 4, .inl (zA fM))), (rT, .inl (cI, 80, .inl (zA fT))), (rX, .inl (cI, 80, .inl (zA fX))), (rY, .inl (cI, 80, .inl (zA fY)))] H := hP.sub [0, 1, 2, 3, 4, 5] rfl
                            have hD : va_D A [(hm, .inr (7, [.int (iI 0), .ref rS, .ref rM, .ref rB, .ref rT, .ref rX, .ref rY, .ref rL, .int (iI sz1), .ref rR, .int (iI at1), .long (lI nu), .ref rt, .ref rx, .ref ry, .int (iI fo), .ref rF, .ref rG, .ref rU, .ref rV, .long (lI lo), .long (lI lB), .long (lI hi), .long (lI hB1)])), (rS, .inl (cI, 4, .inl (zA fS))), (rM, .inl (cI, 4, .inl (zA fM))), (rT, .inl (cI, 80, .inl (zA fT))), (rX, .inl (cI, 80, .inl (zA fX))), (rY, .inl (cI, 80, .inl (zA fY)))] := hD.sub [0, 1, 2, 3, 4, 5] (by decide) rfl
                            subst hw259
                            have gp : 0 < gZ (((fY k) * ((fT (k + 1)) - (fT k))) + (((fY (k + 1)) - (fY k)) * (t - (fT k)))) ((fT (k + 1)) - (fT k)) ∧ gZ (((fY k) * ((fT (k + 1)) - (fT k))) + (((fY (k + 1)) - (fY k)) * (t - (fT k)))) ((fT (k + 1)) - (fT k)) ≤ ((fT (k + 1)) - (fT k)) := ⟨gZ_pos (by omega), gZ_le (by omega)⟩
                            refine lv_lstore (lv' := [(16, .long (lI (gZ (((fY k) * ((fT (k + 1)) - (fT k))) + (((fY (k + 1)) - (fY k)) * (t - (fT k)))) ((fT (k + 1)) - (fT k))))), (14, .long (lI (((fY k) * ((fT (k + 1)) - (fT k))) + (((fY (k + 1)) - (fY k)) * (t - (fT k)))))), (12, .long (lI ((fT (k + 1)) - (fT k)))), (10, .long (lI (fY (k + 1)))), (8, .long (lI (fY k))), (0, .ref hm), (1, .int (iI a)), (2, .int (iI t)), (3, .int (iI yy)), (4, .int (iI w)), (5, .int (iI (20 * a))), (6, .int (iI (fM a))), (7, .int (iI k))]) hx hb dX7_place_262 hl (by decide) rfl (fun ls hl => ?_)
                            refine lv_iload hx hb dX7_place_264 (lv_at hl 9 rfl) ?_
                            refine wz_if_eq (tgt := 277) hx hb dX7_place_266 (by decide) (hwa) (fun c266 => ?_) (fun c266 => ?_)
                            · skip
                              refine lv_lload hx hb dX7_place_277 (lv_at hl 1 rfl) ?_
                              refine lv_lload hx hb dX7_place_279 (lv_at hl 0 rfl) ?_
                              refine lv_ldiv hx hb dX7_place_281 (lI_ne0 ⟨by omega, by omega⟩ (by omega)) ?_
                              refine wz_topl (y := lI ((((fY k) * ((fT (k + 1)) - (fT k))) + (((fY (k + 1)) - (fY k)) * (t - (fT k)))).tdiv (gZ (((fY k) * ((fT (k + 1)) - (fT k))) + (((fY (k + 1)) - (fY k)) * (t - (fT k)))) ((fT (k + 1)) - (fT k))))) (lI_div ⟨by omega, by omega⟩ ⟨by omega, by omega⟩ (by left; omega)) ?_
                              rw [hQ]
                              exact wz_retl (tys := TY cI cJ cT) (0, k) hx hb hr hlocks hK hP hD hS (by (try dsimp only); exact (⟨fun h => (by exfalso; omega), fun h h2 => (by exfalso; omega), fun h h2 h3 => (by exfalso; omega), fun h h2 h3 => ⟨rfl, a1, a2, (fun q => by omega), by rw [if_neg c133]; unfold plZ loT; rw [if_neg c165]; first | rw [if_pos c266] | rw [if_neg c266]⟩⟩)) dX7_place_282
                            · skip
                              refine lv_lload hx hb dX7_place_269 (lv_at hl 2 rfl) ?_
                              refine lv_lload hx hb dX7_place_271 (lv_at hl 0 rfl) ?_
                              refine lv_ldiv hx hb dX7_place_273 (lI_ne0 ⟨by omega, by omega⟩ (by omega)) ?_
                              refine wz_topl (y := lI (((fT (k + 1)) - (fT k)).tdiv (gZ (((fY k) * ((fT (k + 1)) - (fT k))) + (((fY (k + 1)) - (fY k)) * (t - (fT k)))) ((fT (k + 1)) - (fT k))))) (lI_div ⟨by omega, by omega⟩ ⟨by omega, by omega⟩ (by left; omega)) ?_
                              refine lv_goto (tgt := 282) hx hb dX7_place_274 (by decide) ?_
                              rw [hQ]
                              exact wz_retl (tys := TY cI cJ cT) (0, k) hx hb hr hlocks hK hP hD hS (by (try dsimp only); exact (⟨fun h => (by exfalso; omega), fun h h2 => (by exfalso; omega), fun h h2 h3 => (by exfalso; omega), fun h h2 h3 => ⟨rfl, a1, a2, (fun q => by omega), by rw [if_neg c133]; unfold plZ loT; rw [if_neg c165]; first | rw [if_pos c266] | rw [if_neg c266]⟩⟩)) dX7_place_282
                        · skip
                          refine lv_iload hx hb dX7_place_168 (lv_at hl 5 rfl) ?_
                          refine wz_if_eq (tgt := 177) hx hb dX7_place_170 (by decide) (hwa) (fun c170 => ?_) (fun c170 => ?_)
                          · skip
                            refine lv_lload hx hb dX7_place_177 (lv_at hl 0 rfl) ?_
                            rw [hQ]
                            exact wz_retl (tys := TY cI cJ cT) (0, k) hx hb hr hlocks hK hP hD hS (by (try dsimp only); exact (⟨fun h => (by exfalso; omega), fun h h2 => (by exfalso; omega), fun h h2 h3 => (by exfalso; omega), fun h h2 h3 => ⟨rfl, a1, a2, (fun q => by omega), by rw [if_neg c133]; unfold plZ; rw [if_pos c165]; first | rw [if_pos c170] | rw [if_neg c170]⟩⟩)) dX7_place_179
                          · skip
                            refine lv_lconst (v := lI 1) hx hb dX7_place_173 (by decide) ?_
                            refine lv_goto (tgt := 179) hx hb dX7_place_174 (by decide) ?_
                            rw [hQ]
                            exact wz_retl (tys := TY cI cJ cT) (0, k) hx hb hr hlocks hK hP hD hS (by (try dsimp only); exact (⟨fun h => (by exfalso; omega), fun h h2 => (by exfalso; omega), fun h h2 h3 => (by exfalso; omega), fun h h2 h3 => ⟨rfl, a1, a2, (fun q => by omega), by rw [if_neg c133]; unfold plZ; rw [if_pos c165]; first | rw [if_pos c170] | rw [if_neg c170]⟩⟩)) dX7_place_179
                    · skip
                      refine lv_iinc (v := iI (k + 1)) (lv' := [(7, .int (iI (k + 1))), (0, .ref hm), (1, .int (iI a)), (2, .int (iI t)), (3, .int (iI yy)), (4, .int (iI w)), (5, .int (iI (20 * a))), (6, .int (iI (fM a)))]) hx hb dX7_place_126 hl (k := 7) rfl (iI_add _ _) (by decide) rfl (fun ls hl => ?_)
                      refine lv_goto (tgt := 101) hx hb dX7_place_129 (by decide) ?_
                      exact ih101 (k + 1) _ _ _ ⟨(by constructor <;> omega), (by omega)⟩ (by omega) hP hD hS (lv_sub hl [1, 2, 3, 4, 5, 6, 7, 0] rfl)
              exact LP101 (Int.toNat (80 - (20 * a)) + 1) (20 * a) _ _ _ ⟨(by constructor <;> omega), (by omega)⟩ (by omega) hP hD hS (lv_sub hl [3, 4, 5, 6, 7, 2, 1, 0] rfl)
            · skip
              exact absurd c92 (by decide)
          · skip
            refine lv_iconst (v := iI 3) hx hb dX7_place_80 rfl ?_
            refine lv_goto (tgt := 85) hx hb dX7_place_81 (by decide) ?_
            refine va_put (D := D) (ci := 7) (v := .int (iI 3)) (ty := .int) (C := RX7) (T := TX7) (N := 24) hx hb hts hin7 tyX7 tyX7_ok nmX7 hown hK hP hD hS 0 rfl rfl 0 (by decide) (hts (.fieldLink RX7 56 "DriftLogModel" "thrown" "I") (by decide +kernel)) (fun _ h9 => h9) rfl (by decide +kernel) rfl rfl (Nat.le_of_ble_eq_true rfl) dX7_place_85 (fun H locs hP hD hS => ?_)
            have hP : va_P D vwCl [(hm, .inr (7, [.int (iI 3), .ref rS, .ref rM, .ref rB, .ref rT, .ref rX, .ref rY, .ref rL, .int (iI sz1), .ref rR, .int (iI at1), .long (lI nu), .ref rt, .ref rx, .ref ry, .int (iI fo), .ref rF, .ref rG, .ref rU, .ref rV, .long (lI lo), .long (lI lB), .long (lI hi), .long (lI hB1)])), (rS, .inl (cI, 4, .inl (zA fS))), (rM, .inl (cI, 4, .inl (zA fM))), (rT, .inl (cI, 80, .inl (zA fT))), (rX, .inl (cI, 80, .inl (zA fX))), (rY, .inl (cI, 80, .inl (zA fY)))] H := hP
            have hD : va_D A [(hm, .inr (7, [.int (iI 3), .ref rS, .ref rM, .ref rB, .ref rT, .ref rX, .ref rY, .ref rL, .int (iI sz1), .ref rR, .int (iI at1), .long (lI nu), .ref rt, .ref rx, .ref ry, .int (iI fo), .ref rF, .ref rG, .ref rU, .ref rV, .long (lI lo), .long (lI lB), .long (lI hi), .long (lI hB1)])), (rS, .inl (cI, 4, .inl (zA fS))), (rM, .inl (cI, 4, .inl (zA fM))), (rT, .inl (cI, 80, .inl (zA fT))), (rX, .inl (cI, 80, .inl (zA fX))), (rY, .inl (cI, 80, .inl (zA fY)))] := hD
            refine lv_aload_n hx hb dX7_place_88 rfl (lv_at hl 2 rfl) ?_
            refine va_get (D := D) (ci := 7) (v := .int (iI 3)) (C := RX7) (T := TX7) (N := 24) hx hb hts hin7 hown hK hP 0 rfl rfl 0 (by decide) (hts (.fieldLink RX7 56 "DriftLogModel" "thrown" "I") (by decide +kernel)) (fun _ h9 => h9) rfl dX7_place_89 ?_
            refine wz_if_le (tgt := 97) hx hb dX7_place_92 (by decide) (by decide) (fun c92 => ?_) (fun c92 => ?_)
            · skip
              exact absurd c92 (by decide)
            · skip
              refine lv_lconst (v := lI 0) hx hb dX7_place_95 (by decide) ?_
              rw [hQ]
              exact wz_retl (tys := TY cI cJ cT) (3, 0) hx hb hr hlocks hK hP hD hS (by (try dsimp only); exact (⟨fun h => (by first | exact rfl | (exfalso; omega)), fun h h2 => (by first | exact rfl | (exfalso; omega)), fun h h2 h3 => (by first | exact rfl | (exfalso; omega)), fun h h2 h3 => (by exfalso; omega)⟩)) dX7_place_96
      · skip
        exact absurd c33 (by decide)
    · skip
      refine lv_iconst (v := iI 2) hx hb dX7_place_21 rfl ?_
      refine lv_goto (tgt := 26) hx hb dX7_place_22 (by decide) ?_
      refine va_put (D := D) (ci := 7) (v := .int (iI 2)) (ty := .int) (C := RX7) (T := TX7) (N := 24) hx hb hts hin7 tyX7 tyX7_ok nmX7 hown hK hP hD hS 0 rfl rfl 0 (by decide) (hts (.fieldLink RX7 56 "DriftLogModel" "thrown" "I") (by decide +kernel)) (fun _ h9 => h9) rfl (by decide +kernel) rfl rfl (Nat.le_of_ble_eq_true rfl) dX7_place_26 (fun H locs hP hD hS => ?_)
      have hP : va_P D vwCl [(hm, .inr (7, [.int (iI 2), .ref rS, .ref rM, .ref rB, .ref rT, .ref rX, .ref rY, .ref rL, .int (iI sz1), .ref rR, .int (iI at1), .long (lI nu), .ref rt, .ref rx, .ref ry, .int (iI fo), .ref rF, .ref rG, .ref rU, .ref rV, .long (lI lo), .long (lI lB), .long (lI hi), .long (lI hB1)])), (rS, .inl (cI, 4, .inl (zA fS))), (rM, .inl (cI, 4, .inl (zA fM))), (rT, .inl (cI, 80, .inl (zA fT))), (rX, .inl (cI, 80, .inl (zA fX))), (rY, .inl (cI, 80, .inl (zA fY)))] H := hP
      have hD : va_D A [(hm, .inr (7, [.int (iI 2), .ref rS, .ref rM, .ref rB, .ref rT, .ref rX, .ref rY, .ref rL, .int (iI sz1), .ref rR, .int (iI at1), .long (lI nu), .ref rt, .ref rx, .ref ry, .int (iI fo), .ref rF, .ref rG, .ref rU, .ref rV, .long (lI lo), .long (lI lB), .long (lI hi), .long (lI hB1)])), (rS, .inl (cI, 4, .inl (zA fS))), (rM, .inl (cI, 4, .inl (zA fM))), (rT, .inl (cI, 80, .inl (zA fT))), (rX, .inl (cI, 80, .inl (zA fX))), (rY, .inl (cI, 80, .inl (zA fY)))] := hD
      refine lv_aload_n hx hb dX7_place_29 rfl (lv_at hl 0 rfl) ?_
      refine va_get (D := D) (ci := 7) (v := .int (iI 2)) (C := RX7) (T := TX7) (N := 24) hx hb hts hin7 hown hK hP 0 rfl rfl 0 (by decide) (hts (.fieldLink RX7 56 "DriftLogModel" "thrown" "I") (by decide +kernel)) (fun _ h9 => h9) rfl dX7_place_30 ?_
      refine wz_if_le (tgt := 38) hx hb dX7_place_33 (by decide) (by decide) (fun c33 => ?_) (fun c33 => ?_)
      · skip
        exact absurd c33 (by decide)
      · skip
        refine lv_lconst (v := lI 0) hx hb dX7_place_36 (by decide) ?_
        rw [hQ]
        exact wz_retl (tys := TY cI cJ cT) (2, 0) hx hb hr hlocks hK hP hD hS (by (try dsimp only); exact (⟨fun h => (by first | exact rfl | (exfalso; omega)), fun h h2 => (by first | exact rfl | (exfalso; omega)), fun h h2 h3 => (by first | exact rfl | (exfalso; omega)), fun h h2 h3 => (by exfalso; omega)⟩)) dX7_place_37
  · skip
    refine lv_iconst (v := iI 1) hx hb dX7_place_8 rfl ?_
    refine lv_goto (tgt := 26) hx hb dX7_place_9 (by decide) ?_
    refine va_put (D := D) (ci := 7) (v := .int (iI 1)) (ty := .int) (C := RX7) (T := TX7) (N := 24) hx hb hts hin7 tyX7 tyX7_ok nmX7 hown hK hP hD hS 0 rfl rfl 0 (by decide) (hts (.fieldLink RX7 56 "DriftLogModel" "thrown" "I") (by decide +kernel)) (fun _ h9 => h9) rfl (by decide +kernel) rfl rfl (Nat.le_of_ble_eq_true rfl) dX7_place_26 (fun H locs hP hD hS => ?_)
    have hP : va_P D vwCl [(hm, .inr (7, [.int (iI 1), .ref rS, .ref rM, .ref rB, .ref rT, .ref rX, .ref rY, .ref rL, .int (iI sz1), .ref rR, .int (iI at1), .long (lI nu), .ref rt, .ref rx, .ref ry, .int (iI fo), .ref rF, .ref rG, .ref rU, .ref rV, .long (lI lo), .long (lI lB), .long (lI hi), .long (lI hB1)])), (rS, .inl (cI, 4, .inl (zA fS))), (rM, .inl (cI, 4, .inl (zA fM))), (rT, .inl (cI, 80, .inl (zA fT))), (rX, .inl (cI, 80, .inl (zA fX))), (rY, .inl (cI, 80, .inl (zA fY)))] H := hP
    have hD : va_D A [(hm, .inr (7, [.int (iI 1), .ref rS, .ref rM, .ref rB, .ref rT, .ref rX, .ref rY, .ref rL, .int (iI sz1), .ref rR, .int (iI at1), .long (lI nu), .ref rt, .ref rx, .ref ry, .int (iI fo), .ref rF, .ref rG, .ref rU, .ref rV, .long (lI lo), .long (lI lB), .long (lI hi), .long (lI hB1)])), (rS, .inl (cI, 4, .inl (zA fS))), (rM, .inl (cI, 4, .inl (zA fM))), (rT, .inl (cI, 80, .inl (zA fT))), (rX, .inl (cI, 80, .inl (zA fX))), (rY, .inl (cI, 80, .inl (zA fY)))] := hD
    refine lv_aload_n hx hb dX7_place_29 rfl (lv_at hl 0 rfl) ?_
    refine va_get (D := D) (ci := 7) (v := .int (iI 1)) (C := RX7) (T := TX7) (N := 24) hx hb hts hin7 hown hK hP 0 rfl rfl 0 (by decide) (hts (.fieldLink RX7 56 "DriftLogModel" "thrown" "I") (by decide +kernel)) (fun _ h9 => h9) rfl dX7_place_30 ?_
    refine wz_if_le (tgt := 38) hx hb dX7_place_33 (by decide) (by decide) (fun c33 => ?_) (fun c33 => ?_)
    · skip
      exact absurd c33 (by decide)
    · skip
      refine lv_lconst (v := lI 0) hx hb dX7_place_36 (by decide) ?_
      rw [hQ]
      exact wz_retl (tys := TY cI cJ cT) (1, 0) hx hb hr hlocks hK hP hD hS (by (try dsimp only); exact (⟨fun h => (by first | exact rfl | (exfalso; omega)), fun h h2 => (by first | exact rfl | (exfalso; omega)), fun h h2 h3 => (by first | exact rfl | (exfalso; omega)), fun h h2 h3 => (by exfalso; omega)⟩)) dX7_place_37
