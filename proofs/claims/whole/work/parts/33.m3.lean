set_option maxHeartbeats 4000000 in
set_option maxRecDepth 100000 in
theorem k_X7_open (l : Launch) (D : va_G) (cI cJ cT : ClassId) (sz : Nat) (hm : Nat) (th : Int) (rS : Nat) (rM : Nat) (rB : Nat) (rT : Nat) (rX : Nat) (rY : Nat) (rL : Nat) (sz1 : Int) (rR : Nat) (at1 : Int) (nu : Int) (rt : Nat) (rx : Nat) (ry : Nat) (fo : Int) (rF : Nat) (rG : Nat) (rU : Nat) (rV : Nat) (lo : Int) (lB : Int) (hi : Int) (hB1 : Int) (fS : Int → Int) (fM : Int → Int) (a : Int) (hS1 : ∀ i, 0 ≤ fS i ∧ fS i ≤ 2) (ha : rI a) : Met l yX7_open wsX7_open { frames := 2, cells := 0, slots := 0, locals := 42 } (zPc D (TY cI cJ cT) [.ref hm, .int (iI a)] [(hm, .inr (7, [.int (iI th), .ref rS, .ref rM, .ref rB, .ref rT, .ref rX, .ref rY, .ref rL, .int (iI sz1), .ref rR, .int (iI at1), .long (lI nu), .ref rt, .ref rx, .ref ry, .int (iI fo), .ref rF, .ref rG, .ref rU, .ref rV, .long (lI lo), .long (lI lB), .long (lI hi), .long (lI hB1)])), (rS, .inl (cI, 4, .inl (zA fS))), (rM, .inl (cI, 4, .inl (zA fM)))] sz) (zQv D (TY cI cJ cT) (va_A [(hm, .inr (7, [.int (iI th), .ref rS, .ref rM, .ref rB, .ref rT, .ref rX, .ref rY, .ref rL, .int (iI sz1), .ref rR, .int (iI at1), .long (lI nu), .ref rt, .ref rx, .ref ry, .int (iI fo), .ref rF, .ref rG, .ref rU, .ref rV, .long (lI lo), .long (lI lB), .long (lI hi), .long (lI hB1)])), (rS, .inl (cI, 4, .inl (zA fS))), (rM, .inl (cI, 4, .inl (zA fM)))] sz) (fun (u : Int × (Int → Int) × (Int → Int)) => (¬ (0 ≤ a ∧ a < 4) → u.1 = 1 ∧ u.2.1 = fS ∧ u.2.2 = fM) ∧ ((0 ≤ a ∧ a < 4) → fS a ≠ 0 → u.1 = 2 ∧ u.2.1 = fS ∧ u.2.2 = fM) ∧ ((0 ≤ a ∧ a < 4) → fS a = 0 → u.1 = 0 ∧ u.2.1 = uZ fS a 1 ∧ u.2.2 = uZ fM a 0)) (fun (u : Int × (Int → Int) × (Int → Int)) => [(hm, .inr (7, [.int (iI u.1), .ref rS, .ref rM, .ref rB, .ref rT, .ref rX, .ref rY, .ref rL, .int (iI sz1), .ref rR, .int (iI at1), .long (lI nu), .ref rt, .ref rx, .ref ry, .int (iI fo), .ref rF, .ref rG, .ref rU, .ref rV, .long (lI lo), .long (lI lB), .long (lI hi), .long (lI hB1)])), (rS, .inl (cI, 4, .inl (zA u.2.1))), (rM, .inl (cI, 4, .inl (zA u.2.2)))])) 0 0 (va_A [(hm, .inr (7, [.int (iI th), .ref rS, .ref rM, .ref rB, .ref rT, .ref rX, .ref rY, .ref rL, .int (iI sz1), .ref rR, .int (iI at1), .long (lI nu), .ref rt, .ref rx, .ref ry, .int (iI fo), .ref rF, .ref rG, .ref rU, .ref rV, .long (lI lo), .long (lI lB), .long (lI hi), .long (lI hB1)])), (rS, .inl (cI, 4, .inl (zA fS))), (rM, .inl (cI, 4, .inl (zA fM)))] sz) := by
  refine zMv (cc := cX7_open) (maxL := 2) (ret := none) (by decide) rfl (Nat.le_of_ble_eq_true rfl) ?_
  intro p e s m below meth c A ls hE
  obtain ⟨hx, hb, hr, hts, hown, hlocks, hml, hnm, hP, hK, hD, hA, hS, hl⟩ := hE
  have hown : s.vm.findClass RX7 = some m.cls := hown
  have hl : lv_has ls 2 [(0, .ref hm), (1, .int (iI a))] := hl
  have hin7 : ∀ w ∈ wsX70, w ∈ wsX7_open := by decide +kernel
  obtain ⟨Q, hQ⟩ : ∃ Q, Q = MQ below (zQv D (TY cI cJ cT) A (fun (u : Int × (Int → Int) × (Int → Int)) => (¬ (0 ≤ a ∧ a < 4) → u.1 = 1 ∧ u.2.1 = fS ∧ u.2.2 = fM) ∧ ((0 ≤ a ∧ a < 4) → fS a ≠ 0 → u.1 = 2 ∧ u.2.1 = fS ∧ u.2.2 = fM) ∧ ((0 ≤ a ∧ a < 4) → fS a = 0 → u.1 = 0 ∧ u.2.1 = uZ fS a 1 ∧ u.2.2 = uZ fM a 0)) (fun (u : Int × (Int → Int) × (Int → Int)) => [(hm, .inr (7, [.int (iI u.1), .ref rS, .ref rM, .ref rB, .ref rT, .ref rX, .ref rY, .ref rL, .int (iI sz1), .ref rR, .int (iI at1), .long (lI nu), .ref rt, .ref rx, .ref ry, .int (iI fo), .ref rF, .ref rG, .ref rU, .ref rV, .long (lI lo), .long (lI lB), .long (lI hi), .long (lI hB1)])), (rS, .inl (cI, 4, .inl (zA u.2.1))), (rM, .inl (cI, 4, .inl (zA u.2.2)))])) ([.ref hm, .int (iI a)] : List Value).toArray s 0 0 A := ⟨_, rfl⟩
  rw [← hQ]
  refine lv_aload_n hx hb dX7_open_0 rfl (lv_at hl 0 rfl) ?_
  refine lv_iload_n hx hb dX7_open_1 rfl (lv_at hl 1 rfl) ?_
  refine wz_calli (wr := [(hm, .inr (7, [.int (iI th), .ref rS, .ref rM, .ref rB, .ref rT, .ref rX, .ref rY, .ref rL, .int (iI sz1), .ref rR, .int (iI at1), .long (lI nu), .ref rt, .ref rx, .ref ry, .int (iI fo), .ref rF, .ref rG, .ref rU, .ref rV, .long (lI lo), .long (lI lB), .long (lI hi), .long (lI hB1)])), (rS, .inl (cI, 4, .inl (zA fS))), (rM, .inl (cI, 4, .inl (zA fM)))]) (va_runS (As := [.int (iI a)]) (rest := [.ref hm]) ⟨hx, hb, hml, hown, hts⟩ (k_X7_isTrack l D cI cJ cT s.heap.size a (ha)) (va_cwS 1 hts gX7_open_X7_isTrack rfl rfl rfl (by decide +kernel) ⟨Nat.le_of_ble_eq_true rfl, Nat.le_of_ble_eq_true rfl⟩) (wz_preS hK hP hD [] (by decide) rfl rfl) rfl rfl hl.1 rfl (lv_room (Nat.le_of_ble_eq_true rfl)) dX7_open_2 ⟨Nat.le_of_ble_eq_true rfl, Nat.le_of_ble_eq_true rfl⟩) hP hD hS hA [] [0, 1, 2] rfl rfl rfl (by decide) (fun z2 u H locs hw2 hP hD hS => ?_)
  have hP : va_P D vwCl [(hm, .inr (7, [.int (iI th), .ref rS, .ref rM, .ref rB, .ref rT, .ref rX, .ref rY, .ref rL, .int (iI sz1), .ref rR, .int (iI at1), .long (lI nu), .ref rt, .ref rx, .ref ry, .int (iI fo), .ref rF, .ref rG, .ref rU, .ref rV, .long (lI lo), .long (lI lB), .long (lI hi), .long (lI hB1)])), (rS, .inl (cI, 4, .inl (zA fS))), (rM, .inl (cI, 4, .inl (zA fM)))] H := hP.sub [0, 1, 2] rfl
  have hD : va_D A [(hm, .inr (7, [.int (iI th), .ref rS, .ref rM, .ref rB, .ref rT, .ref rX, .ref rY, .ref rL, .int (iI sz1), .ref rR, .int (iI at1), .long (lI nu), .ref rt, .ref rx, .ref ry, .int (iI fo), .ref rF, .ref rG, .ref rU, .ref rV, .long (lI lo), .long (lI lB), .long (lI hi), .long (lI hB1)])), (rS, .inl (cI, 4, .inl (zA fS))), (rM, .inl (cI, 4, .inl (zA fM)))] := hD.sub [0, 1, 2] (by decide) rfl
  subst hw2
  refine wz_ifb_ne (tgt := 12) hx hb dX7_open_5 (by decide) (fun c5 => ?_) (fun c5 => ?_)
  · skip
    refine lv_aload_n hx hb dX7_open_12 rfl (lv_at hl 0 rfl) ?_
    refine lv_iload_n hx hb dX7_open_13 rfl (lv_at hl 1 rfl) ?_
    refine lv_iconst (v := iI 0) hx hb dX7_open_14 rfl ?_
    refine wz_calli (wr := [(rM, .inl (cI, 4, .inl (zA fM)))]) (va_runV (As := [.int (iI a), .int (iI 0)]) (rest := [.ref hm]) ⟨hx, hb, hml, hown, hts⟩ (k_X7_is l D cI cJ cT H.size hm th rS rM rB rT rX rY rL sz1 rR at1 nu rt rx ry fo rF rG rU rV lo lB hi hB1 fS a 0 (c5) (by decide) (hS1)) (cwV 2 hts gX7_open_X7_is rfl rfl rfl (by decide +kernel) ⟨Nat.le_of_ble_eq_true rfl, Nat.le_of_ble_eq_true rfl⟩) (wz_preV hK hP hD [0, 1] (by decide) rfl rfl 7 0 rfl rfl) rfl rfl hl.1 rfl (lv_room (Nat.le_of_ble_eq_true rfl)) dX7_open_15 ⟨Nat.le_of_ble_eq_true rfl, Nat.le_of_ble_eq_true rfl⟩) hP hD hS hA [0, 1] [2] rfl rfl rfl (by decide) (fun z15 u H locs hw15 hP hD hS => ?_)
    have hP : va_P D vwCl [(hm, .inr (7, [.int (iI th), .ref rS, .ref rM, .ref rB, .ref rT, .ref rX, .ref rY, .ref rL, .int (iI sz1), .ref rR, .int (iI at1), .long (lI nu), .ref rt, .ref rx, .ref ry, .int (iI fo), .ref rF, .ref rG, .ref rU, .ref rV, .long (lI lo), .long (lI lB), .long (lI hi), .long (lI hB1)])), (rS, .inl (cI, 4, .inl (zA fS))), (rM, .inl (cI, 4, .inl (zA fM)))] H := hP.sub [1, 2, 0] rfl
    have hD : va_D A [(hm, .inr (7, [.int (iI th), .ref rS, .ref rM, .ref rB, .ref rT, .ref rX, .ref rY, .ref rL, .int (iI sz1), .ref rR, .int (iI at1), .long (lI nu), .ref rt, .ref rx, .ref ry, .int (iI fo), .ref rF, .ref rG, .ref rU, .ref rV, .long (lI lo), .long (lI lB), .long (lI hi), .long (lI hB1)])), (rS, .inl (cI, 4, .inl (zA fS))), (rM, .inl (cI, 4, .inl (zA fM)))] := hD.sub [1, 2, 0] (by decide) rfl
    subst hw15
    refine wz_ifb_ne (tgt := 25) hx hb dX7_open_18 (by decide) (fun c18 => ?_) (fun c18 => ?_)
    · skip
      refine lv_iconst (v := iI 0) hx hb dX7_open_25 rfl ?_
      refine va_put (D := D) (ci := 7) (v := .int (iI 0)) (ty := .int) (C := RX7) (T := TX7) (N := 24) hx hb hts hin7 tyX7 tyX7_ok nmX7 hown hK hP hD hS 0 rfl rfl 0 (by decide) (hts (.fieldLink RX7 56 "DriftLogModel" "thrown" "I") (by decide +kernel)) (fun _ h9 => h9) rfl (by decide +kernel) rfl rfl (Nat.le_of_ble_eq_true rfl) dX7_open_26 (fun H locs hP hD hS => ?_)
      have hP : va_P D vwCl [(hm, .inr (7, [.int (iI 0), .ref rS, .ref rM, .ref rB, .ref rT, .ref rX, .ref rY, .ref rL, .int (iI sz1), .ref rR, .int (iI at1), .long (lI nu), .ref rt, .ref rx, .ref ry, .int (iI fo), .ref rF, .ref rG, .ref rU, .ref rV, .long (lI lo), .long (lI lB), .long (lI hi), .long (lI hB1)])), (rS, .inl (cI, 4, .inl (zA fS))), (rM, .inl (cI, 4, .inl (zA fM)))] H := hP
      have hD : va_D A [(hm, .inr (7, [.int (iI 0), .ref rS, .ref rM, .ref rB, .ref rT, .ref rX, .ref rY, .ref rL, .int (iI sz1), .ref rR, .int (iI at1), .long (lI nu), .ref rt, .ref rx, .ref ry, .int (iI fo), .ref rF, .ref rG, .ref rU, .ref rV, .long (lI lo), .long (lI lB), .long (lI hi), .long (lI hB1)])), (rS, .inl (cI, 4, .inl (zA fS))), (rM, .inl (cI, 4, .inl (zA fM)))] := hD
      refine lv_aload_n hx hb dX7_open_29 rfl (lv_at hl 0 rfl) ?_
      refine va_get (D := D) (ci := 7) (v := .int (iI 0)) (C := RX7) (T := TX7) (N := 24) hx hb hts hin7 hown hK hP 0 rfl rfl 0 (by decide) (hts (.fieldLink RX7 56 "DriftLogModel" "thrown" "I") (by decide +kernel)) (fun _ h9 => h9) rfl dX7_open_30 ?_
      refine wz_if_ne (tgt := 50) hx hb dX7_open_33 (by decide) (by decide) (fun c33 => ?_) (fun c33 => ?_)
      · skip
        exact absurd c33 (by decide)
      · skip
        refine lv_aload_n hx hb dX7_open_36 rfl (lv_at hl 0 rfl) ?_
        refine va_get (D := D) (ci := 7) (v := .ref rS) (C := RX7) (T := TX7) (N := 24) hx hb hts hin7 hown hK hP 0 rfl rfl 1 (by decide) (hts (.fieldLink RX7 7 "DriftLogModel" "state" "[I") (by decide +kernel)) (fun _ h9 => h9) rfl dX7_open_37 ?_
        refine lv_iload_n hx hb dX7_open_40 rfl (lv_at hl 1 rfl) ?_
        refine lv_iconst (v := iI 1) hx hb dX7_open_41 rfl ?_
        refine wz_iast (tys := TY cI cJ cT) hx hb hK hP hD hS 1 0 rfl rfl (by decide) (by constructor <;> omega) dX7_open_42 (fun H locs hP hD hS => ?_)
        have hP : va_P D vwCl [(hm, .inr (7, [.int (iI 0), .ref rS, .ref rM, .ref rB, .ref rT, .ref rX, .ref rY, .ref rL, .int (iI sz1), .ref rR, .int (iI at1), .long (lI nu), .ref rt, .ref rx, .ref ry, .int (iI fo), .ref rF, .ref rG, .ref rU, .ref rV, .long (lI lo), .long (lI lB), .long (lI hi), .long (lI hB1)])), (rS, .inl (cI, 4, .inl (zA (uZ fS a 1)))), (rM, .inl (cI, 4, .inl (zA fM)))] H := hP
        have hD : va_D A [(hm, .inr (7, [.int (iI 0), .ref rS, .ref rM, .ref rB, .ref rT, .ref rX, .ref rY, .ref rL, .int (iI sz1), .ref rR, .int (iI at1), .long (lI nu), .ref rt, .ref rx, .ref ry, .int (iI fo), .ref rF, .ref rG, .ref rU, .ref rV, .long (lI lo), .long (lI lB), .long (lI hi), .long (lI hB1)])), (rS, .inl (cI, 4, .inl (zA (uZ fS a 1)))), (rM, .inl (cI, 4, .inl (zA fM)))] := hD
        refine lv_aload_n hx hb dX7_open_43 rfl (lv_at hl 0 rfl) ?_
        refine va_get (D := D) (ci := 7) (v := .ref rM) (C := RX7) (T := TX7) (N := 24) hx hb hts hin7 hown hK hP 0 rfl rfl 2 (by decide) (hts (.fieldLink RX7 13 "DriftLogModel" "many" "[I") (by decide +kernel)) (fun _ h9 => h9) rfl dX7_open_44 ?_
        refine lv_iload_n hx hb dX7_open_47 rfl (lv_at hl 1 rfl) ?_
        refine lv_iconst (v := iI 0) hx hb dX7_open_48 rfl ?_
        refine wz_iast (tys := TY cI cJ cT) hx hb hK hP hD hS 2 0 rfl rfl (by decide) (by constructor <;> omega) dX7_open_49 (fun H locs hP hD hS => ?_)
        have hP : va_P D vwCl [(hm, .inr (7, [.int (iI 0), .ref rS, .ref rM, .ref rB, .ref rT, .ref rX, .ref rY, .ref rL, .int (iI sz1), .ref rR, .int (iI at1), .long (lI nu), .ref rt, .ref rx, .ref ry, .int (iI fo), .ref rF, .ref rG, .ref rU, .ref rV, .long (lI lo), .long (lI lB), .long (lI hi), .long (lI hB1)])), (rS, .inl (cI, 4, .inl (zA (uZ fS a 1)))), (rM, .inl (cI, 4, .inl (zA (uZ fM a 0))))] H := hP
        have hD : va_D A [(hm, .inr (7, [.int (iI 0), .ref rS, .ref rM, .ref rB, .ref rT, .ref rX, .ref rY, .ref rL, .int (iI sz1), .ref rR, .int (iI at1), .long (lI nu), .ref rt, .ref rx, .ref ry, .int (iI fo), .ref rF, .ref rG, .ref rU, .ref rV, .long (lI lo), .long (lI lB), .long (lI hi), .long (lI hB1)])), (rS, .inl (cI, 4, .inl (zA (uZ fS a 1)))), (rM, .inl (cI, 4, .inl (zA (uZ fM a 0))))] := hD
        rw [hQ]
        exact wz_retv (tys := TY cI cJ cT) (0, (uZ fS a 1), (uZ fM a 0)) hx hb hr hlocks hK hP hD hS (by (try dsimp only); exact (⟨fun h => (by first | exact ⟨rfl, rfl, rfl⟩ | (exfalso; omega)), fun h h2 => (by first | exact ⟨rfl, rfl, rfl⟩ | (exfalso; omega)), fun h h2 => (by first | exact ⟨rfl, rfl, rfl⟩ | (exfalso; omega))⟩)) dX7_open_50
    · skip
      refine lv_iconst (v := iI 2) hx hb dX7_open_21 rfl ?_
      refine lv_goto (tgt := 26) hx hb dX7_open_22 (by decide) ?_
      refine va_put (D := D) (ci := 7) (v := .int (iI 2)) (ty := .int) (C := RX7) (T := TX7) (N := 24) hx hb hts hin7 tyX7 tyX7_ok nmX7 hown hK hP hD hS 0 rfl rfl 0 (by decide) (hts (.fieldLink RX7 56 "DriftLogModel" "thrown" "I") (by decide +kernel)) (fun _ h9 => h9) rfl (by decide +kernel) rfl rfl (Nat.le_of_ble_eq_true rfl) dX7_open_26 (fun H locs hP hD hS => ?_)
      have hP : va_P D vwCl [(hm, .inr (7, [.int (iI 2), .ref rS, .ref rM, .ref rB, .ref rT, .ref rX, .ref rY, .ref rL, .int (iI sz1), .ref rR, .int (iI at1), .long (lI nu), .ref rt, .ref rx, .ref ry, .int (iI fo), .ref rF, .ref rG, .ref rU, .ref rV, .long (lI lo), .long (lI lB), .long (lI hi), .long (lI hB1)])), (rS, .inl (cI, 4, .inl (zA fS))), (rM, .inl (cI, 4, .inl (zA fM)))] H := hP
      have hD : va_D A [(hm, .inr (7, [.int (iI 2), .ref rS, .ref rM, .ref rB, .ref rT, .ref rX, .ref rY, .ref rL, .int (iI sz1), .ref rR, .int (iI at1), .long (lI nu), .ref rt, .ref rx, .ref ry, .int (iI fo), .ref rF, .ref rG, .ref rU, .ref rV, .long (lI lo), .long (lI lB), .long (lI hi), .long (lI hB1)])), (rS, .inl (cI, 4, .inl (zA fS))), (rM, .inl (cI, 4, .inl (zA fM)))] := hD
      refine lv_aload_n hx hb dX7_open_29 rfl (lv_at hl 0 rfl) ?_
      refine va_get (D := D) (ci := 7) (v := .int (iI 2)) (C := RX7) (T := TX7) (N := 24) hx hb hts hin7 hown hK hP 0 rfl rfl 0 (by decide) (hts (.fieldLink RX7 56 "DriftLogModel" "thrown" "I") (by decide +kernel)) (fun _ h9 => h9) rfl dX7_open_30 ?_
      refine wz_if_ne (tgt := 50) hx hb dX7_open_33 (by decide) (by decide) (fun c33 => ?_) (fun c33 => ?_)
      · skip
        rw [hQ]
        exact wz_retv (tys := TY cI cJ cT) (2, fS, fM) hx hb hr hlocks hK hP hD hS (by (try dsimp only); exact (⟨fun h => (by first | exact ⟨rfl, rfl, rfl⟩ | (exfalso; omega)), fun h h2 => (by first | exact ⟨rfl, rfl, rfl⟩ | (exfalso; omega)), fun h h2 => (by first | exact ⟨rfl, rfl, rfl⟩ | (exfalso; omega))⟩)) dX7_open_50
      · skip
        exact absurd c33 (by decide)
  · skip
    refine lv_iconst (v := iI 1) hx hb dX7_open_8 rfl ?_
    refine lv_goto (tgt := 26) hx hb dX7_open_9 (by decide) ?_
    refine va_put (D := D) (ci := 7) (v := .int (iI 1)) (ty := .int) (C := RX7) (T := TX7) (N := 24) hx hb hts hin7 tyX7 tyX7_ok nmX7 hown hK hP hD hS 0 rfl rfl 0 (by decide) (hts (.fieldLink RX7 56 "DriftLogModel" "thrown" "I") (by decide +kernel)) (fun _ h9 => h9) rfl (by decide +kernel) rfl rfl (Nat.le_of_ble_eq_true rfl) dX7_open_26 (fun H locs hP hD hS => ?_)
    have hP : va_P D vwCl [(hm, .inr (7, [.int (iI 1), .ref rS, .ref rM, .ref rB, .ref rT, .ref rX, .ref rY, .ref rL, .int (iI sz1), .ref rR, .int (iI at1), .long (lI nu), .ref rt, .ref rx, .ref ry, .int (iI fo), .ref rF, .ref rG, .ref rU, .ref rV, .long (lI lo), .long (lI lB), .long (lI hi), .long (lI hB1)])), (rS, .inl (cI, 4, .inl (zA fS))), (rM, .inl (cI, 4, .inl (zA fM)))] H := hP
    have hD : va_D A [(hm, .inr (7, [.int (iI 1), .ref rS, .ref rM, .ref rB, .ref rT, .ref rX, .ref rY, .ref rL, .int (iI sz1), .ref rR, .int (iI at1), .long (lI nu), .ref rt, .ref rx, .ref ry, .int (iI fo), .ref rF, .ref rG, .ref rU, .ref rV, .long (lI lo), .long (lI lB), .long (lI hi), .long (lI hB1)])), (rS, .inl (cI, 4, .inl (zA fS))), (rM, .inl (cI, 4, .inl (zA fM)))] := hD
    refine lv_aload_n hx hb dX7_open_29 rfl (lv_at hl 0 rfl) ?_
    refine va_get (D := D) (ci := 7) (v := .int (iI 1)) (C := RX7) (T := TX7) (N := 24) hx hb hts hin7 hown hK hP 0 rfl rfl 0 (by decide) (hts (.fieldLink RX7 56 "DriftLogModel" "thrown" "I") (by decide +kernel)) (fun _ h9 => h9) rfl dX7_open_30 ?_
    refine wz_if_ne (tgt := 50) hx hb dX7_open_33 (by decide) (by decide) (fun c33 => ?_) (fun c33 => ?_)
    · skip
      rw [hQ]
      exact wz_retv (tys := TY cI cJ cT) (1, fS, fM) hx hb hr hlocks hK hP hD hS (by (try dsimp only); exact (⟨fun h => (by first | exact ⟨rfl, rfl, rfl⟩ | (exfalso; omega)), fun h h2 => (by first | exact ⟨rfl, rfl, rfl⟩ | (exfalso; omega)), fun h h2 => (by first | exact ⟨rfl, rfl, rfl⟩ | (exfalso; omega))⟩)) dX7_open_50
    · skip
      exact absurd c33 (by decide)
set_option maxHeartbeats 4000000 in
set_option maxRecDepth 100000 in
theorem k_X7_add (l : Launch) (D : va_G) (cI cJ cT : ClassId) (sz : Nat) (hm : Nat) (th : Int) (rS : Nat) (rM : Nat) (rB : Nat) (rT : Nat) (rX : Nat) (rY : Nat) (rL : Nat) (sz1 : Int) (rR : Nat) (at1 : Int) (nu : Int) (rt : Nat) (rx : Nat) (ry : Nat) (fo : Int) (rF : Nat) (rG : Nat) (rU : Nat) (rV : Nat) (lo : Int) (lB : Int) (hi : Int) (hB1 : Int) (fS : Int → Int) (fM : Int → Int) (fT : Int → Int) (fX : Int → Int) (fY : Int → Int) (a : Int) (t : Int) (x : Int) (y : Int) (hS1 : ∀ i, 0 ≤ fS i ∧ fS i ≤ 2) (hM1 : ∀ i, 0 ≤ fM i ∧ fM i ≤ 20) (ht : okT fT) (ha : rI a) (hta : rI t) (hxa : rI x) (hya : rI y) : Met l yX7_add wsX7_add { frames := 2, cells := 0, slots := 0, locals := 42 } (zPc D (TY cI cJ cT) [.ref hm, .int (iI a), .int (iI t), .int (iI x), .int (iI y)] [(hm, .inr (7, [.int (iI th), .ref rS, .ref rM, .ref rB, .ref rT, .ref rX, .ref rY, .ref rL, .int (iI sz1), .ref rR, .int (iI at1), .long (lI nu), .ref rt, .ref rx, .ref ry, .int (iI fo), .ref rF, .ref rG, .ref rU, .ref rV, .long (lI lo), .long (lI lB), .long (lI hi), .long (lI hB1)])), (rS, .inl (cI, 4, .inl (zA fS))), (rM, .inl (cI, 4, .inl (zA fM))), (rT, .inl (cI, 80, .inl (zA fT))), (rX, .inl (cI, 80, .inl (zA fX))), (rY, .inl (cI, 80, .inl (zA fY)))] sz) (zQi D (TY cI cJ cT) (va_A [(hm, .inr (7, [.int (iI th), .ref rS, .ref rM, .ref rB, .ref rT, .ref rX, .ref rY, .ref rL, .int (iI sz1), .ref rR, .int (iI at1), .long (lI nu), .ref rt, .ref rx, .ref ry, .int (iI fo), .ref rF, .ref rG, .ref rU, .ref rV, .long (lI lo), .long (lI lB), .long (lI hi), .long (lI hB1)])), (rS, .inl (cI, 4, .inl (zA fS))), (rM, .inl (cI, 4, .inl (zA fM))), (rT, .inl (cI, 80, .inl (zA fT))), (rX, .inl (cI, 80, .inl (zA fX))), (rY, .inl (cI, 80, .inl (zA fY)))] sz) (fun (z : Int) (u : Int × (Int → Int) × (Int → Int) × (Int → Int) × (Int → Int)) => (¬ (0 ≤ a ∧ a < 4) → u.1 = 1 ∧ u.2.1 = fM ∧ u.2.2.1 = fT ∧ u.2.2.2.1 = fX ∧ u.2.2.2.2 = fY) ∧ ((0 ≤ a ∧ a < 4) → fS a ≠ 1 → u.1 = 2 ∧ u.2.1 = fM ∧ u.2.2.1 = fT ∧ u.2.2.2.1 = fX ∧ u.2.2.2.2 = fY) ∧ ((0 ≤ a ∧ a < 4) → fS a = 1 → fM a = 20 → u.1 = 2 ∧ u.2.1 = fM ∧ u.2.2.1 = fT ∧ u.2.2.2.1 = fX ∧ u.2.2.2.2 = fY) ∧ ((0 ≤ a ∧ a < 4) → fS a = 1 → fM a ≠ 20 → ¬ (0 ≤ t ∧ (fM a = 0 ∨ fT (20 * a + (fM a - 1)) < t) ∧ (-8388608 ≤ x ∧ x ≤ 8388608) ∧ -8388608 ≤ y ∧ y ≤ 8388608) → u.1 = 3 ∧ u.2.1 = fM ∧ u.2.2.1 = fT ∧ u.2.2.2.1 = fX ∧ u.2.2.2.2 = fY) ∧ ((0 ≤ a ∧ a < 4) → fS a = 1 → fM a ≠ 20 → (0 ≤ t ∧ (fM a = 0 ∨ fT (20 * a + (fM a - 1)) < t) ∧ (-8388608 ≤ x ∧ x ≤ 8388608) ∧ -8388608 ≤ y ∧ y ≤ 8388608) → u.1 = 0 ∧ z = fM a + 1 ∧ u.2.1 = uZ fM a (fM a + 1) ∧ u.2.2.1 = uZ fT (20 * a + fM a) t ∧ u.2.2.2.1 = uZ fX (20 * a + fM a) x ∧ u.2.2.2.2 = uZ fY (20 * a + fM a) y)) (fun (u : Int × (Int → Int) × (Int → Int) × (Int → Int) × (Int → Int)) => [(hm, .inr (7, [.int (iI u.1), .ref rS, .ref rM, .ref rB, .ref rT, .ref rX, .ref rY, .ref rL, .int (iI sz1), .ref rR, .int (iI at1), .long (lI nu), .ref rt, .ref rx, .ref ry, .int (iI fo), .ref rF, .ref rG, .ref rU, .ref rV, .long (lI lo), .long (lI lB), .long (lI hi), .long (lI hB1)])), (rS, .inl (cI, 4, .inl (zA fS))), (rM, .inl (cI, 4, .inl (zA u.2.1))), (rT, .inl (cI, 80, .inl (zA u.2.2.1))), (rX, .inl (cI, 80, .inl (zA u.2.2.2.1))), (rY, .inl (cI, 80, .inl (zA u.2.2.2.2)))])) 0 0 (va_A [(hm, .inr (7, [.int (iI th), .ref rS, .ref rM, .ref rB, .ref rT, .ref rX, .ref rY, .ref rL, .int (iI sz1), .ref rR, .int (iI at1), .long (lI nu), .ref rt, .ref rx, .ref ry, .int (iI fo), .ref rF, .ref rG, .ref rU, .ref rV, .long (lI lo), .long (lI lB), .long (lI hi), .long (lI hB1)])), (rS, .inl (cI, 4, .inl (zA fS))), (rM, .inl (cI, 4, .inl (zA fM))), (rT, .inl (cI, 80, .inl (zA fT))), (rX, .inl (cI, 80, .inl (zA fX))), (rY, .inl (cI, 80, .inl (zA fY)))] sz) := by
  refine zMi (cc := cX7_add) (maxL := 7) (ret := (some .int)) (by decide) rfl (Nat.le_of_ble_eq_true rfl) ?_
  intro p e s m below meth c A ls hE
  obtain ⟨hx, hb, hr, hts, hown, hlocks, hml, hnm, hP, hK, hD, hA, hS, hl⟩ := hE
  have hown : s.vm.findClass RX7 = some m.cls := hown
  have hl : lv_has ls 7 [(0, .ref hm), (1, .int (iI a)), (2, .int (iI t)), (3, .int (iI x)), (4, .int (iI y))] := hl
  have hin7 : ∀ w ∈ wsX70, w ∈ wsX7_add := by decide +kernel
  obtain ⟨Q, hQ⟩ : ∃ Q, Q = MQ below (zQi D (TY cI cJ cT) A (fun (z : Int) (u : Int × (Int → Int) × (Int → Int) × (Int → Int) × (Int → Int)) => (¬ (0 ≤ a ∧ a < 4) → u.1 = 1 ∧ u.2.1 = fM ∧ u.2.2.1 = fT ∧ u.2.2.2.1 = fX ∧ u.2.2.2.2 = fY) ∧ ((0 ≤ a ∧ a < 4) → fS a ≠ 1 → u.1 = 2 ∧ u.2.1 = fM ∧ u.2.2.1 = fT ∧ u.2.2.2.1 = fX ∧ u.2.2.2.2 = fY) ∧ ((0 ≤ a ∧ a < 4) → fS a = 1 → fM a = 20 → u.1 = 2 ∧ u.2.1 = fM ∧ u.2.2.1 = fT ∧ u.2.2.2.1 = fX ∧ u.2.2.2.2 = fY) ∧ ((0 ≤ a ∧ a < 4) → fS a = 1 → fM a ≠ 20 → ¬ (0 ≤ t ∧ (fM a = 0 ∨ fT (20 * a + (fM a - 1)) < t) ∧ (-8388608 ≤ x ∧ x ≤ 8388608) ∧ -8388608 ≤ y ∧ y ≤ 8388608) → u.1 = 3 ∧ u.2.1 = fM ∧ u.2.2.1 = fT ∧ u.2.2.2.1 = fX ∧ u.2.2.2.2 = fY) ∧ ((0 ≤ a ∧ a < 4) → fS a = 1 → fM a ≠ 20 → (0 ≤ t ∧ (fM a = 0 ∨ fT (20 * a + (fM a - 1)) < t) ∧ (-8388608 ≤ x ∧ x ≤ 8388608) ∧ -8388608 ≤ y ∧ y ≤ 8388608) → u.1 = 0 ∧ z = fM a + 1 ∧ u.2.1 = uZ fM a (fM a + 1) ∧ u.2.2.1 = uZ fT (20 * a + fM a) t ∧ u.2.2.2.1 = uZ fX (20 * a + fM a) x ∧ u.2.2.2.2 = uZ fY (20 * a + fM a) y)) (fun (u : Int × (Int → Int) × (Int → Int) × (Int → Int) × (Int → Int)) => [(hm, .inr (7, [.int (iI u.1), .ref rS, .ref rM, .ref rB, .ref rT, .ref rX, .ref rY, .ref rL, .int (iI sz1), .ref rR, .int (iI at1), .long (lI nu), .ref rt, .ref rx, .ref ry, .int (iI fo), .ref rF, .ref rG, .ref rU, .ref rV, .long (lI lo), .long (lI lB), .long (lI hi), .long (lI hB1)])), (rS, .inl (cI, 4, .inl (zA fS))), (rM, .inl (cI, 4, .inl (zA u.2.1))), (rT, .inl (cI, 80, .inl (zA u.2.2.1))), (rX, .inl (cI, 80, .inl (zA u.2.2.2.1))), (rY, .inl (cI, 80, .inl (zA u.2.2.2.2)))])) ([.ref hm, .int (iI a), .int (iI t), .int (iI x), .int (iI y)] : List Value).toArray s 0 0 A := ⟨_, rfl⟩
  rw [← hQ]
  refine lv_aload_n hx hb dX7_add_0 rfl (lv_at hl 0 rfl) ?_
  refine lv_iload_n hx hb dX7_add_1 rfl (lv_at hl 1 rfl) ?_
  refine wz_calli (wr := [(hm, .inr (7, [.int (iI th), .ref rS, .ref rM, .ref rB, .ref rT, .ref rX, .ref rY, .ref rL, .int (iI sz1), .ref rR, .int (iI at1), .long (lI nu), .ref rt, .ref rx, .ref ry, .int (iI fo), .ref rF, .ref rG, .ref rU, .ref rV, .long (lI lo), .long (lI lB), .long (lI hi), .long (lI hB1)])), (rS, .inl (cI, 4, .inl (zA fS))), (rM, .inl (cI, 4, .inl (zA fM))), (rT, .inl (cI, 80, .inl (zA fT))), (rX, .inl (cI, 80, .inl (zA fX))), (rY, .inl (cI, 80, .inl (zA fY)))]) (va_runS (As := [.int (iI a)]) (rest := [.ref hm]) ⟨hx, hb, hml, hown, hts⟩ (k_X7_isTrack l D cI cJ cT s.heap.size a (ha)) (va_cwS 1 hts gX7_add_X7_isTrack rfl rfl rfl (by decide +kernel) ⟨Nat.le_of_ble_eq_true rfl, Nat.le_of_ble_eq_true rfl⟩) (wz_preS hK hP hD [] (by decide) rfl rfl) rfl rfl hl.1 rfl (lv_room (Nat.le_of_ble_eq_true rfl)) dX7_add_2 ⟨Nat.le_of_ble_eq_true rfl, Nat.le_of_ble_eq_true rfl⟩) hP hD hS hA [] [0, 1, 2, 3, 4, 5] rfl rfl rfl (by decide) (fun z2 u H locs hw2 hP hD hS => ?_)
  have hP : va_P D vwCl [(hm, .inr (7, [.int (iI th), .ref rS, .ref rM, .ref rB, .ref rT, .ref rX, .ref rY, .ref rL, .int (iI sz1), .ref rR, .int (iI at1), .long (lI nu), .ref rt, .ref rx, .ref ry, .int (iI fo), .ref rF, .ref rG, .ref rU, .ref rV, .long (lI lo), .long (lI lB), .long (lI hi), .long (lI hB1)])), (rS, .inl (cI, 4, .inl (zA fS))), (rM, .inl (cI, 4, .inl (zA fM))), (rT, .inl (cI, 80, .inl (zA fT))), (rX, .inl (cI, 80, .inl (zA fX))), (rY, .inl (cI, 80, .inl (zA fY)))] H := hP.sub [0, 1, 2, 3, 4, 5] rfl
  have hD : va_D A [(hm, .inr (7, [.int (iI th), .ref rS, .ref rM, .ref rB, .ref rT, .ref rX, .ref rY, .ref rL, .int (iI sz1), .ref rR, .int (iI at1), .long (lI nu), .ref rt, .ref rx, .ref ry, .int (iI fo), .ref rF, .ref rG, .ref rU, .ref rV, .long (lI lo), .long (lI lB), .long (lI hi), .long (lI hB1)])), (rS, .inl (cI, 4, .inl (zA fS))), (rM, .inl (cI, 4, .inl (zA fM))), (rT, .inl (cI, 80, .inl (zA fT))), (rX, .inl (cI, 80, .inl (zA fX))), (rY, .inl (cI, 80, .inl (zA fY)))] := hD.sub [0, 1, 2, 3, 4, 5] (by decide) rfl
  subst hw2
  refine wz_ifb_ne (tgt := 12) hx hb dX7_add_5 (by decide) (fun c5 => ?_) (fun c5 => ?_)
  · skip
    refine lv_aload_n hx hb dX7_add_12 rfl (lv_at hl 0 rfl) ?_
    refine lv_iload_n hx hb dX7_add_13 rfl (lv_at hl 1 rfl) ?_
    refine lv_iconst (v := iI 1) hx hb dX7_add_14 rfl ?_
    refine wz_calli (wr := [(rM, .inl (cI, 4, .inl (zA fM))), (rT, .inl (cI, 80, .inl (zA fT))), (rX, .inl (cI, 80, .inl (zA fX))), (rY, .inl (cI, 80, .inl (zA fY)))]) (va_runV (As := [.int (iI a), .int (iI 1)]) (rest := [.ref hm]) ⟨hx, hb, hml, hown, hts⟩ (k_X7_is l D cI cJ cT H.size hm th rS rM rB rT rX rY rL sz1 rR at1 nu rt rx ry fo rF rG rU rV lo lB hi hB1 fS a 1 (c5) (by decide) (hS1)) (cwV 2 hts gX7_add_X7_is rfl rfl rfl (by decide +kernel) ⟨Nat.le_of_ble_eq_true rfl, Nat.le_of_ble_eq_true rfl⟩) (wz_preV hK hP hD [0, 1] (by decide) rfl rfl 7 0 rfl rfl) rfl rfl hl.1 rfl (lv_room (Nat.le_of_ble_eq_true rfl)) dX7_add_15 ⟨Nat.le_of_ble_eq_true rfl, Nat.le_of_ble_eq_true rfl⟩) hP hD hS hA [0, 1] [2, 3, 4, 5] rfl rfl rfl (by decide) (fun z15 u H locs hw15 hP hD hS => ?_)
    have hP : va_P D vwCl [(hm, .inr (7, [.int (iI th), .ref rS, .ref rM, .ref rB, .ref rT, .ref rX, .ref rY, .ref rL, .int (iI sz1), .ref rR, .int (iI at1), .long (lI nu), .ref rt, .ref rx, .ref ry, .int (iI fo), .ref rF, .ref rG, .ref rU, .ref rV, .long (lI lo), .long (lI lB), .long (lI hi), .long (lI hB1)])), (rS, .inl (cI, 4, .inl (zA fS))), (rM, .inl (cI, 4, .inl (zA fM))), (rT, .inl (cI, 80, .inl (zA fT))), (rX, .inl (cI, 80, .inl (zA fX))), (rY, .inl (cI, 80, .inl (zA fY)))] H := hP.sub [4, 5, 0, 1, 2, 3] rfl
    have hD : va_D A [(hm, .inr (7, [.int (iI th), .ref rS, .ref rM, .ref rB, .ref rT, .ref rX, .ref rY, .ref rL, .int (iI sz1), .ref rR, .int (iI at1), .long (lI nu), .ref rt, .ref rx, .ref ry, .int (iI fo), .ref rF, .ref rG, .ref rU, .ref rV, .long (lI lo), .long (lI lB), .long (lI hi), .long (lI hB1)])), (rS, .inl (cI, 4, .inl (zA fS))), (rM, .inl (cI, 4, .inl (zA fM))), (rT, .inl (cI, 80, .inl (zA fT))), (rX, .inl (cI, 80, .inl (zA fX))), (rY, .inl (cI, 80, .inl (zA fY)))] := hD.sub [4, 5, 0, 1, 2, 3] (by decide) rfl
    subst hw15
    refine wz_ifb_ne (tgt := 25) hx hb dX7_add_18 (by decide) (fun c18 => ?_) (fun c18 => ?_)
    · skip
      refine lv_iconst (v := iI 0) hx hb dX7_add_25 rfl ?_
      refine va_put (D := D) (ci := 7) (v := .int (iI 0)) (ty := .int) (C := RX7) (T := TX7) (N := 24) hx hb hts hin7 tyX7 tyX7_ok nmX7 hown hK hP hD hS 0 rfl rfl 0 (by decide) (hts (.fieldLink RX7 56 "DriftLogModel" "thrown" "I") (by decide +kernel)) (fun _ h9 => h9) rfl (by decide +kernel) rfl rfl (Nat.le_of_ble_eq_true rfl) dX7_add_26 (fun H locs hP hD hS => ?_)
      have hP : va_P D vwCl [(hm, .inr (7, [.int (iI 0), .ref rS, .ref rM, .ref rB, .ref rT, .ref rX, .ref rY, .ref rL, .int (iI sz1), .ref rR, .int (iI at1), .long (lI nu), .ref rt, .ref rx, .ref ry, .int (iI fo), .ref rF, .ref rG, .ref rU, .ref rV, .long (lI lo), .long (lI lB), .long (lI hi), .long (lI hB1)])), (rS, .inl (cI, 4, .inl (zA fS))), (rM, .inl (cI, 4, .inl (zA fM))), (rT, .inl (cI, 80, .inl (zA fT))), (rX, .inl (cI, 80, .inl (zA fX))), (rY, .inl (cI, 80, .inl (zA fY)))] H := hP
      have hD : va_D A [(hm, .inr (7, [.int (iI 0), .ref rS, .ref rM, .ref rB, .ref rT, .ref rX, .ref rY, .ref rL, .int (iI sz1), .ref rR, .int (iI at1), .long (lI nu), .ref rt, .ref rx, .ref ry, .int (iI fo), .ref rF, .ref rG, .ref rU, .ref rV, .long (lI lo), .long (lI lB), .long (lI hi), .long (lI hB1)])), (rS, .inl (cI, 4, .inl (zA fS))), (rM, .inl (cI, 4, .inl (zA fM))), (rT, .inl (cI, 80, .inl (zA fT))), (rX, .inl (cI, 80, .inl (zA fX))), (rY, .inl (cI, 80, .inl (zA fY)))] := hD
      refine lv_aload_n hx hb dX7_add_29 rfl (lv_at hl 0 rfl) ?_
      refine va_get (D := D) (ci := 7) (v := .int (iI 0)) (C := RX7) (T := TX7) (N := 24) hx hb hts hin7 hown hK hP 0 rfl rfl 0 (by decide) (hts (.fieldLink RX7 56 "DriftLogModel" "thrown" "I") (by decide +kernel)) (fun _ h9 => h9) rfl dX7_add_30 ?_
      refine wz_if_le (tgt := 38) hx hb dX7_add_33 (by decide) (by decide) (fun c33 => ?_) (fun c33 => ?_)
      · skip
        refine lv_aload_n hx hb dX7_add_38 rfl (lv_at hl 0 rfl) ?_
        refine va_get (D := D) (ci := 7) (v := .ref rM) (C := RX7) (T := TX7) (N := 24) hx hb hts hin7 hown hK hP 0 rfl rfl 2 (by decide) (hts (.fieldLink RX7 13 "DriftLogModel" "many" "[I") (by decide +kernel)) (fun _ h9 => h9) rfl dX7_add_39 ?_
        refine lv_iload_n hx hb dX7_add_42 rfl (lv_at hl 1 rfl) ?_
        refine wz_iald (tys := TY cI cJ cT) hx hb hK hP 2 0 rfl rfl (by decide) (by constructor <;> omega) dX7_add_43 ?_
        have rMa := hM1 a
        refine lv_istore (lv' := [(5, .int (iI (fM a))), (0, .ref hm), (1, .int (iI a)), (2, .int (iI t)), (3, .int (iI x)), (4, .int (iI y))]) hx hb dX7_add_44 hl (by decide) rfl (fun ls hl => ?_)
        refine lv_iload_n hx hb dX7_add_46 rfl (lv_at hl 3 rfl) ?_
        refine wz_if_lt (tgt := 86) hx hb dX7_add_47 (by decide) ⟨by omega, by omega⟩ (fun c47 => ?_) (fun c47 => ?_)
        · skip
          refine lv_iconst (v := iI 0) hx hb dX7_add_86 rfl ?_
          refine lv_istore (lv' := [(6, .int (iI 0)), (5, .int (iI (fM a))), (0, .ref hm), (1, .int (iI a)), (2, .int (iI t)), (3, .int (iI x)), (4, .int (iI y))]) hx hb dX7_add_87 hl (by decide) rfl (fun ls hl => ?_)
          refine lv_aload_n hx hb dX7_add_89 rfl (lv_at hl 2 rfl) ?_
          refine lv_iload hx hb dX7_add_90 (lv_at hl 1 rfl) ?_
          refine lv_bipush (v := iI 20) hx hb dX7_add_92 (by decide) ?_
          refine wz_icmp_ne (tgt := 101) hx hb dX7_add_94 (by decide) ⟨by omega, by omega⟩ (by decide) (fun c94 => ?_) (fun c94 => ?_)
          · skip
            refine lv_iload hx hb dX7_add_101 (lv_at hl 0 rfl) ?_
            refine wz_if_eq (tgt := 121) hx hb dX7_add_103 (by decide) (by decide) (fun c103 => ?_) (fun c103 => ?_)
            · skip
              refine lv_iconst (v := iI 3) hx hb dX7_add_121 rfl ?_
              refine lv_goto (tgt := 126) hx hb dX7_add_122 (by decide) ?_
              refine va_put (D := D) (ci := 7) (v := .int (iI 3)) (ty := .int) (C := RX7) (T := TX7) (N := 24) hx hb hts hin7 tyX7 tyX7_ok nmX7 hown hK hP hD hS 0 rfl rfl 0 (by decide) (hts (.fieldLink RX7 56 "DriftLogModel" "thrown" "I") (by decide +kernel)) (fun _ h9 => h9) rfl (by decide +kernel) rfl rfl (Nat.le_of_ble_eq_true rfl) dX7_add_126 (fun H locs hP hD hS => ?_)
              have hP : va_P D vwCl [(hm, .inr (7, [.int (iI 3), .ref rS, .ref rM, .ref rB, .ref rT, .ref rX, .ref rY, .ref rL, .int (iI sz1), .ref rR, .int (iI at1), .long (lI nu), .ref rt, .ref rx, .ref ry, .int (iI fo), .ref rF, .ref rG, .ref rU, .ref rV, .long (lI lo), .long (lI lB), .long (lI hi), .long (lI hB1)])), (rS, .inl (cI, 4, .inl (zA fS))), (rM, .inl (cI, 4, .inl (zA fM))), (rT, .inl (cI, 80, .inl (zA fT))), (rX, .inl (cI, 80, .inl (zA fX))), (rY, .inl (cI, 80, .inl (zA fY)))] H := hP
              have hD : va_D A [(hm, .inr (7, [.int (iI 3), .ref rS, .ref rM, .ref rB, .ref rT, .ref rX, .ref rY, .ref rL, .int (iI sz1), .ref rR, .int (iI at1), .long (lI nu), .ref rt, .ref rx, .ref ry, .int (iI fo), .ref rF, .ref rG, .ref rU, .ref rV, .long (lI lo), .long (lI lB), .long (lI hi), .long (lI hB1)])), (rS, .inl (cI, 4, .inl (zA fS))), (rM, .inl (cI, 4, .inl (zA fM))), (rT, .inl (cI, 80, .inl (zA fT))), (rX, .inl (cI, 80, .inl (zA fX))), (rY, .inl (cI, 80, .inl (zA fY)))] := hD
              refine lv_aload_n hx hb dX7_add_129 rfl (lv_at hl 2 rfl) ?_
              refine va_get (D := D) (ci := 7) (v := .int (iI 3)) (C := RX7) (T := TX7) (N := 24) hx hb hts hin7 hown hK hP 0 rfl rfl 0 (by decide) (hts (.fieldLink RX7 56 "DriftLogModel" "thrown" "I") (by decide +kernel)) (fun _ h9 => h9) rfl dX7_add_130 ?_
              refine wz_if_le (tgt := 138) hx hb dX7_add_133 (by decide) (by decide) (fun c133 => ?_) (fun c133 => ?_)
              · skip
                exact absurd c133 (by decide)
              · skip
                refine lv_iconst (v := iI 0) hx hb dX7_add_136 rfl ?_
                rw [hQ]
                exact wz_reti (tys := TY cI cJ cT) (3, fM, fT, fX, fY) hx hb hr hlocks hK hP hD hS (by (try dsimp only); exact (⟨fun h => (by first | exact ⟨rfl, rfl, rfl, rfl, rfl⟩ | (exfalso; omega)), fun h h2 => (by first | exact ⟨rfl, rfl, rfl, rfl, rfl⟩ | (exfalso; omega)), fun h h2 h3 => (by first | exact ⟨rfl, rfl, rfl, rfl, rfl⟩ | (exfalso; omega)), fun h h2 h3 h4 => (by first | exact ⟨rfl, rfl, rfl, rfl, rfl⟩ | (exfalso; omega)), fun h h2 h3 h4 => (by first | exact ⟨rfl, rfl, rfl, rfl, rfl, rfl⟩ | (exfalso; omega))⟩)) dX7_add_137
            · skip
              exact absurd c103 (by decide)
          · skip
            refine lv_iconst (v := iI 2) hx hb dX7_add_97 rfl ?_
            refine lv_goto (tgt := 126) hx hb dX7_add_98 (by decide) ?_
            refine va_put (D := D) (ci := 7) (v := .int (iI 2)) (ty := .int) (C := RX7) (T := TX7) (N := 24) hx hb hts hin7 tyX7 tyX7_ok nmX7 hown hK hP hD hS 0 rfl rfl 0 (by decide) (hts (.fieldLink RX7 56 "DriftLogModel" "thrown" "I") (by decide +kernel)) (fun _ h9 => h9) rfl (by decide +kernel) rfl rfl (Nat.le_of_ble_eq_true rfl) dX7_add_126 (fun H locs hP hD hS => ?_)
            have hP : va_P D vwCl [(hm, .inr (7, [.int (iI 2), .ref rS, .ref rM, .ref rB, .ref rT, .ref rX, .ref rY, .ref rL, .int (iI sz1), .ref rR, .int (iI at1), .long (lI nu), .ref rt, .ref rx, .ref ry, .int (iI fo), .ref rF, .ref rG, .ref rU, .ref rV, .long (lI lo), .long (lI lB), .long (lI hi), .long (lI hB1)])), (rS, .inl (cI, 4, .inl (zA fS))), (rM, .inl (cI, 4, .inl (zA fM))), (rT, .inl (cI, 80, .inl (zA fT))), (rX, .inl (cI, 80, .inl (zA fX))), (rY, .inl (cI, 80, .inl (zA fY)))] H := hP
            have hD : va_D A [(hm, .inr (7, [.int (iI 2), .ref rS, .ref rM, .ref rB, .ref rT, .ref rX, .ref rY, .ref rL, .int (iI sz1), .ref rR, .int (iI at1), .long (lI nu), .ref rt, .ref rx, .ref ry, .int (iI fo), .ref rF, .ref rG, .ref rU, .ref rV, .long (lI lo), .long (lI lB), .long (lI hi), .long (lI hB1)])), (rS, .inl (cI, 4, .inl (zA fS))), (rM, .inl (cI, 4, .inl (zA fM))), (rT, .inl (cI, 80, .inl (zA fT))), (rX, .inl (cI, 80, .inl (zA fX))), (rY, .inl (cI, 80, .inl (zA fY)))] := hD
            refine lv_aload_n hx hb dX7_add_129 rfl (lv_at hl 2 rfl) ?_
            refine va_get (D := D) (ci := 7) (v := .int (iI 2)) (C := RX7) (T := TX7) (N := 24) hx hb hts hin7 hown hK hP 0 rfl rfl 0 (by decide) (hts (.fieldLink RX7 56 "DriftLogModel" "thrown" "I") (by decide +kernel)) (fun _ h9 => h9) rfl dX7_add_130 ?_
            refine wz_if_le (tgt := 138) hx hb dX7_add_133 (by decide) (by decide) (fun c133 => ?_) (fun c133 => ?_)
            · skip
              exact absurd c133 (by decide)
            · skip
              refine lv_iconst (v := iI 0) hx hb dX7_add_136 rfl ?_
              rw [hQ]
              exact wz_reti (tys := TY cI cJ cT) (2, fM, fT, fX, fY) hx hb hr hlocks hK hP hD hS (by (try dsimp only); exact (⟨fun h => (by first | exact ⟨rfl, rfl, rfl, rfl, rfl⟩ | (exfalso; omega)), fun h h2 => (by first | exact ⟨rfl, rfl, rfl, rfl, rfl⟩ | (exfalso; omega)), fun h h2 h3 => (by first | exact ⟨rfl, rfl, rfl, rfl, rfl⟩ | (exfalso; omega)), fun h h2 h3 h4 => (by first | exact ⟨rfl, rfl, rfl, rfl, rfl⟩ | (exfalso; omega)), fun h h2 h3 h4 => (by first | exact ⟨rfl, rfl, rfl, rfl, rfl, rfl⟩ | (exfalso; omega))⟩)) dX7_add_137
        · skip
          refine lv_iload hx hb dX7_add_50 (lv_at hl 0 rfl) ?_
          refine wz_if_eq (tgt := 82) hx hb dX7_add_52 (by decide) ⟨by omega, by omega⟩ (fun c52 => ?_) (fun c52 => ?_)
          · skip
            refine lv_iconst (v := iI 1) hx hb dX7_add_82 rfl ?_
            refine lv_goto (tgt := 87) hx hb dX7_add_83 (by decide) ?_
            refine lv_istore (lv' := [(6, .int (iI 1)), (5, .int (iI (fM a))), (0, .ref hm), (1, .int (iI a)), (2, .int (iI t)), (3, .int (iI x)), (4, .int (iI y))]) hx hb dX7_add_87 hl (by decide) rfl (fun ls hl => ?_)
            refine lv_aload_n hx hb dX7_add_89 rfl (lv_at hl 2 rfl) ?_
            refine lv_iload hx hb dX7_add_90 (lv_at hl 1 rfl) ?_
            refine lv_bipush (v := iI 20) hx hb dX7_add_92 (by decide) ?_
            refine wz_icmp_ne (tgt := 101) hx hb dX7_add_94 (by decide) ⟨by omega, by omega⟩ (by decide) (fun c94 => ?_) (fun c94 => ?_)
            · skip
              refine lv_iload hx hb dX7_add_101 (lv_at hl 0 rfl) ?_
              refine wz_if_eq (tgt := 121) hx hb dX7_add_103 (by decide) (by decide) (fun c103 => ?_) (fun c103 => ?_)
              · skip
                exact absurd c103 (by decide)
              · skip
                refine lv_iload_n hx hb dX7_add_106 rfl (lv_at hl 5 rfl) ?_
                refine wz_calli (wr := [(hm, .inr (7, [.int (iI 0), .ref rS, .ref rM, .ref rB, .ref rT, .ref rX, .ref rY, .ref rL, .int (iI sz1), .ref rR, .int (iI at1), .long (lI nu), .ref rt, .ref rx, .ref ry, .int (iI fo), .ref rF, .ref rG, .ref rU, .ref rV, .long (lI lo), .long (lI lB), .long (lI hi), .long (lI hB1)])), (rS, .inl (cI, 4, .inl (zA fS))), (rM, .inl (cI, 4, .inl (zA fM))), (rT, .inl (cI, 80, .inl (zA fT))), (rX, .inl (cI, 80, .inl (zA fX))), (rY, .inl (cI, 80, .inl (zA fY)))]) (va_runS (As := [.int (iI x)]) (rest := [.ref hm]) ⟨hx, hb, hml, hown, hts⟩ (k_X7_isPlace l D cI cJ cT H.size x (hxa)) (va_cwS 1 hts gX7_add_X7_isPlace rfl rfl rfl (by decide +kernel) ⟨Nat.le_of_ble_eq_true rfl, Nat.le_of_ble_eq_true rfl⟩) (wz_preS hK hP hD [] (by decide) rfl rfl) rfl rfl hl.1 rfl (lv_room (Nat.le_of_ble_eq_true rfl)) dX7_add_107 ⟨Nat.le_of_ble_eq_true rfl, Nat.le_of_ble_eq_true rfl⟩) hP hD hS hA [] [0, 1, 2, 3, 4, 5] rfl rfl rfl (by decide) (fun z107 u H locs hw107 hP hD hS => ?_)
                have hP : va_P D vwCl [(hm, .inr (7, [.int (iI 0), .ref rS, .ref rM, .ref rB, .ref rT, .ref rX, .ref rY, .ref rL, .int (iI sz1), .ref rR, .int (iI at1), .long (lI nu), .ref rt, .ref rx, .ref ry, .int (iI fo), .ref rF, .ref rG, .ref rU, .ref rV, .long (lI lo), .long (lI lB), .long (lI hi), .long (lI hB1)])), (rS, .inl (cI, 4, .inl (zA fS))), (rM, .inl (cI, 4, .inl (zA fM))), (rT, .inl (cI, 80, .inl (zA fT))), (rX, .inl (cI, 80, .inl (zA fX))), (rY, .inl (cI, 80, .inl (zA fY)))] H := hP.sub [0, 1, 2, 3, 4, 5] rfl
                have hD : va_D A [(hm, .inr (7, [.int (iI 0), .ref rS, .ref rM, .ref rB, .ref rT, .ref rX, .ref rY, .ref rL, .int (iI sz1), .ref rR, .int (iI at1), .long (lI nu), .ref rt, .ref rx, .ref ry, .int (iI fo), .ref rF, .ref rG, .ref rU, .ref rV, .long (lI lo), .long (lI lB), .long (lI hi), .long (lI hB1)])), (rS, .inl (cI, 4, .inl (zA fS))), (rM, .inl (cI, 4, .inl (zA fM))), (rT, .inl (cI, 80, .inl (zA fT))), (rX, .inl (cI, 80, .inl (zA fX))), (rY, .inl (cI, 80, .inl (zA fY)))] := hD.sub [0, 1, 2, 3, 4, 5] (by decide) rfl
                subst hw107
                refine wz_ifb_eq (tgt := 121) hx hb dX7_add_110 (by decide) (fun c110 => ?_) (fun c110 => ?_)
                · skip
                  refine lv_iconst (v := iI 3) hx hb dX7_add_121 rfl ?_
                  refine lv_goto (tgt := 126) hx hb dX7_add_122 (by decide) ?_
                  refine va_put (D := D) (ci := 7) (v := .int (iI 3)) (ty := .int) (C := RX7) (T := TX7) (N := 24) hx hb hts hin7 tyX7 tyX7_ok nmX7 hown hK hP hD hS 0 rfl rfl 0 (by decide) (hts (.fieldLink RX7 56 "DriftLogModel" "thrown" "I") (by decide +kernel)) (fun _ h9 => h9) rfl (by decide +kernel) rfl rfl (Nat.le_of_ble_eq_true rfl) dX7_add_126 (fun H locs hP hD hS => ?_)
                  have hP : va_P D vwCl [(hm, .inr (7, [.int (iI 3), .ref rS, .ref rM, .ref rB, .ref rT, .ref rX, .ref rY, .ref rL, .int (iI sz1), .ref rR, .int (iI at1), .long (lI nu), .ref rt, .ref rx, .ref ry, .int (iI fo), .ref rF, .ref rG, .ref rU, .ref rV, .long (lI lo), .long (lI lB), .long (lI hi), .long (lI hB1)])), (rS, .inl (cI, 4, .inl (zA fS))), (rM, .inl (cI, 4, .inl (zA fM))), (rT, .inl (cI, 80, .inl (zA fT))), (rX, .inl (cI, 80, .inl (zA fX))), (rY, .inl (cI, 80, .inl (zA fY)))] H := hP
                  have hD : va_D A [(hm, .inr (7, [.int (iI 3), .ref rS, .ref rM, .ref rB, .ref rT, .ref rX, .ref rY, .ref rL, .int (iI sz1), .ref rR, .int (iI at1), .long (lI nu), .ref rt, .ref rx, .ref ry, .int (iI fo), .ref rF, .ref rG, .ref rU, .ref rV, .long (lI lo), .long (lI lB), .long (lI hi), .long (lI hB1)])), (rS, .inl (cI, 4, .inl (zA fS))), (rM, .inl (cI, 4, .inl (zA fM))), (rT, .inl (cI, 80, .inl (zA fT))), (rX, .inl (cI, 80, .inl (zA fX))), (rY, .inl (cI, 80, .inl (zA fY)))] := hD
                  refine lv_aload_n hx hb dX7_add_129 rfl (lv_at hl 2 rfl) ?_
                  refine va_get (D := D) (ci := 7) (v := .int (iI 3)) (C := RX7) (T := TX7) (N := 24) hx hb hts hin7 hown hK hP 0 rfl rfl 0 (by decide) (hts (.fieldLink RX7 56 "DriftLogModel" "thrown" "I") (by decide +kernel)) (fun _ h9 => h9) rfl dX7_add_130 ?_
                  refine wz_if_le (tgt := 138) hx hb dX7_add_133 (by decide) (by decide) (fun c133 => ?_) (fun c133 => ?_)
                  · skip
                    exact absurd c133 (by decide)
                  · skip
                    refine lv_iconst (v := iI 0) hx hb dX7_add_136 rfl ?_
                    rw [hQ]
                    exact wz_reti (tys := TY cI cJ cT) (3, fM, fT, fX, fY) hx hb hr hlocks hK hP hD hS (by (try dsimp only); exact (⟨fun h => (by first | exact ⟨rfl, rfl, rfl, rfl, rfl⟩ | (exfalso; omega)), fun h h2 => (by first | exact ⟨rfl, rfl, rfl, rfl, rfl⟩ | (exfalso; omega)), fun h h2 h3 => (by first | exact ⟨rfl, rfl, rfl, rfl, rfl⟩ | (exfalso; omega)), fun h h2 h3 h4 => (by first | exact ⟨rfl, rfl, rfl, rfl, rfl⟩ | (exfalso; omega)), fun h h2 h3 h4 => (by first | exact ⟨rfl, rfl, rfl, rfl, rfl, rfl⟩ | (exfalso; omega))⟩)) dX7_add_137
                · skip
                  refine lv_iload hx hb dX7_add_113 (lv_at hl 6 rfl) ?_
                  refine wz_calli (wr := [(hm, .inr (7, [.int (iI 0), .ref rS, .ref rM, .ref rB, .ref rT, .ref rX, .ref rY, .ref rL, .int (iI sz1), .ref rR, .int (iI at1), .long (lI nu), .ref rt, .ref rx, .ref ry, .int (iI fo), .ref rF, .ref rG, .ref rU, .ref rV, .long (lI lo), .long (lI lB), .long (lI hi), .long (lI hB1)])), (rS, .inl (cI, 4, .inl (zA fS))), (rM, .inl (cI, 4, .inl (zA fM))), (rT, .inl (cI, 80, .inl (zA fT))), (rX, .inl (cI, 80, .inl (zA fX))), (rY, .inl (cI, 80, .inl (zA fY)))]) (va_runS (As := [.int (iI y)]) (rest := [.ref hm]) ⟨hx, hb, hml, hown, hts⟩ (k_X7_isPlace l D cI cJ cT H.size y (hya)) (va_cwS 1 hts gX7_add_X7_isPlace rfl rfl rfl (by decide +kernel) ⟨Nat.le_of_ble_eq_true rfl, Nat.le_of_ble_eq_true rfl⟩) (wz_preS hK hP hD [] (by decide) rfl rfl) rfl rfl hl.1 rfl (lv_room (Nat.le_of_ble_eq_true rfl)) dX7_add_115 ⟨Nat.le_of_ble_eq_true rfl, Nat.le_of_ble_eq_true rfl⟩) hP hD hS hA [] [0, 1, 2, 3, 4, 5] rfl rfl rfl (by decide) (fun z115 u H locs hw115 hP hD hS => ?_)
                  have hP : va_P D vwCl [(hm, .inr (7, [.int (iI 0), .ref rS, .ref rM, .ref rB, .ref rT, .ref rX, .ref rY, .ref rL, .int (iI sz1), .ref rR, .int (iI at1), .long (lI nu), .ref rt, .ref rx, .ref ry, .int (iI fo), .ref rF, .ref rG, .ref rU, .ref rV, .long (lI lo), .long (lI lB), .long (lI hi), .long (lI hB1)])), (rS, .inl (cI, 4, .inl (zA fS))), (rM, .inl (cI, 4, .inl (zA fM))), (rT, .inl (cI, 80, .inl (zA fT))), (rX, .inl (cI, 80, .inl (zA fX))), (rY, .inl (cI, 80, .inl (zA fY)))] H := hP.sub [0, 1, 2, 3, 4, 5] rfl
                  have hD : va_D A [(hm, .inr (7, [.int (iI 0), .ref rS, .ref rM, .ref rB, .ref rT, .ref rX, .ref rY, .ref rL, .int (iI sz1), .ref rR, .int (iI at1), .long (lI nu), .ref rt, .ref rx, .ref ry, .int (iI fo), .ref rF, .ref rG, .ref rU, .ref rV, .long (lI lo), .long (lI lB), .long (lI hi), .long (lI hB1)])), (rS, .inl (cI, 4, .inl (zA fS))), (rM, .inl (cI, 4, .inl (zA fM))), (rT, .inl (cI, 80, .inl (zA fT))), (rX, .inl (cI, 80, .inl (zA fX))), (rY, .inl (cI, 80, .inl (zA fY)))] := hD.sub [0, 1, 2, 3, 4, 5] (by decide) rfl
                  subst hw115
                  refine wz_ifb_ne (tgt := 125) hx hb dX7_add_118 (by decide) (fun c118 => ?_) (fun c118 => ?_)
                  · skip
                    refine lv_iconst (v := iI 0) hx hb dX7_add_125 rfl ?_
                    refine va_put (D := D) (ci := 7) (v := .int (iI 0)) (ty := .int) (C := RX7) (T := TX7) (N := 24) hx hb hts hin7 tyX7 tyX7_ok nmX7 hown hK hP hD hS 0 rfl rfl 0 (by decide) (hts (.fieldLink RX7 56 "DriftLogModel" "thrown" "I") (by decide +kernel)) (fun _ h9 => h9) rfl (by decide +kernel) rfl rfl (Nat.le_of_ble_eq_true rfl) dX7_add_126 (fun H locs hP hD hS => ?_)
                    have hP : va_P D vwCl [(hm, .inr (7, [.int (iI 0), .ref rS, .ref rM, .ref rB, .ref rT, .ref rX, .ref rY, .ref rL, .int (iI sz1), .ref rR, .int (iI at1), .long (lI nu), .ref rt, .ref rx, .ref ry, .int (iI fo), .ref rF, .ref rG, .ref rU, .ref rV, .long (lI lo), .long (lI lB), .long (lI hi), .long (lI hB1)])), (rS, .inl (cI, 4, .inl (zA fS))), (rM, .inl (cI, 4, .inl (zA fM))), (rT, .inl (cI, 80, .inl (zA fT))), (rX, .inl (cI, 80, .inl (zA fX))), (rY, .inl (cI, 80, .inl (zA fY)))] H := hP
                    have hD : va_D A [(hm, .inr (7, [.int (iI 0), .ref rS, .ref rM, .ref rB, .ref rT, .ref rX, .ref rY, .ref rL, .int (iI sz1), .ref rR, .int (iI at1), .long (lI nu), .ref rt, .ref rx, .ref ry, .int (iI fo), .ref rF, .ref rG, .ref rU, .ref rV, .long (lI lo), .long (lI lB), .long (lI hi), .long (lI hB1)])), (rS, .inl (cI, 4, .inl (zA fS))), (rM, .inl (cI, 4, .inl (zA fM))), (rT, .inl (cI, 80, .inl (zA fT))), (rX, .inl (cI, 80, .inl (zA fX))), (rY, .inl (cI, 80, .inl (zA fY)))] := hD
                    refine lv_aload_n hx hb dX7_add_129 rfl (lv_at hl 2 rfl) ?_
                    refine va_get (D := D) (ci := 7) (v := .int (iI 0)) (C := RX7) (T := TX7) (N := 24) hx hb hts hin7 hown hK hP 0 rfl rfl 0 (by decide) (hts (.fieldLink RX7 56 "DriftLogModel" "thrown" "I") (by decide +kernel)) (fun _ h9 => h9) rfl dX7_add_130 ?_
                    refine wz_if_le (tgt := 138) hx hb dX7_add_133 (by decide) (by decide) (fun c133 => ?_) (fun c133 => ?_)
                    · skip
                      refine lv_aload_n hx hb dX7_add_138 rfl (lv_at hl 2 rfl) ?_
                      refine va_get (D := D) (ci := 7) (v := .ref rT) (C := RX7) (T := TX7) (N := 24) hx hb hts hin7 hown hK hP 0 rfl rfl 4 (by decide) (hts (.fieldLink RX7 19 "DriftLogModel" "time" "[I") (by decide +kernel)) (fun _ h9 => h9) rfl dX7_add_139 ?_
                      refine lv_bipush (v := iI 20) hx hb dX7_add_142 (by decide) ?_
                      refine lv_iload_n hx hb dX7_add_144 rfl (lv_at hl 3 rfl) ?_
                      refine wz_imul hx hb dX7_add_145 ?_
                      refine lv_iload hx hb dX7_add_146 (lv_at hl 1 rfl) ?_
                      refine wz_iadd hx hb dX7_add_148 ?_
                      refine lv_iload_n hx hb dX7_add_149 rfl (lv_at hl 4 rfl) ?_
                      refine wz_iast (tys := TY cI cJ cT) hx hb hK hP hD hS 3 0 rfl rfl (by decide) (by constructor <;> omega) dX7_add_150 (fun H locs hP hD hS => ?_)
                      have hP : va_P D vwCl [(hm, .inr (7, [.int (iI 0), .ref rS, .ref rM, .ref rB, .ref rT, .ref rX, .ref rY, .ref rL, .int (iI sz1), .ref rR, .int (iI at1), .long (lI nu), .ref rt, .ref rx, .ref ry, .int (iI fo), .ref rF, .ref rG, .ref rU, .ref rV, .long (lI lo), .long (lI lB), .long (lI hi), .long (lI hB1)])), (rS, .inl (cI, 4, .inl (zA fS))), (rM, .inl (cI, 4, .inl (zA fM))), (rT, .inl (cI, 80, .inl (zA (uZ fT ((20 * a) + (fM a)) t)))), (rX, .inl (cI, 80, .inl (zA fX))), (rY, .inl (cI, 80, .inl (zA fY)))] H := hP
                      have hD : va_D A [(hm, .inr (7, [.int (iI 0), .ref rS, .ref rM, .ref rB, .ref rT, .ref rX, .ref rY, .ref rL, .int (iI sz1), .ref rR, .int (iI at1), .long (lI nu), .ref rt, .ref rx, .ref ry, .int (iI fo), .ref rF, .ref rG, .ref rU, .ref rV, .long (lI lo), .long (lI lB), .long (lI hi), .long (lI hB1)])), (rS, .inl (cI, 4, .inl (zA fS))), (rM, .inl (cI, 4, .inl (zA fM))), (rT, .inl (cI, 80, .inl (zA (uZ fT ((20 * a) + (fM a)) t)))), (rX, .inl (cI, 80, .inl (zA fX))), (rY, .inl (cI, 80, .inl (zA fY)))] := hD
                      refine lv_aload_n hx hb dX7_add_151 rfl (lv_at hl 2 rfl) ?_
                      refine va_get (D := D) (ci := 7) (v := .ref rX) (C := RX7) (T := TX7) (N := 24) hx hb hts hin7 hown hK hP 0 rfl rfl 5 (by decide) (hts (.fieldLink RX7 22 "DriftLogModel" "px" "[I") (by decide +kernel)) (fun _ h9 => h9) rfl dX7_add_152 ?_
                      refine lv_bipush (v := iI 20) hx hb dX7_add_155 (by decide) ?_
                      refine lv_iload_n hx hb dX7_add_157 rfl (lv_at hl 3 rfl) ?_
                      refine wz_imul hx hb dX7_add_158 ?_
                      refine lv_iload hx hb dX7_add_159 (lv_at hl 1 rfl) ?_
                      refine wz_iadd hx hb dX7_add_161 ?_
                      refine lv_iload_n hx hb dX7_add_162 rfl (lv_at hl 5 rfl) ?_
                      refine wz_iast (tys := TY cI cJ cT) hx hb hK hP hD hS 4 0 rfl rfl (by decide) (by constructor <;> omega) dX7_add_163 (fun H locs hP hD hS => ?_)
                      have hP : va_P D vwCl [(hm, .inr (7, [.int (iI 0), .ref rS, .ref rM, .ref rB, .ref rT, .ref rX, .ref rY, .ref rL, .int (iI sz1), .ref rR, .int (iI at1), .long (lI nu), .ref rt, .ref rx, .ref ry, .int (iI fo), .ref rF, .ref rG, .ref rU, .ref rV, .long (lI lo), .long (lI lB), .long (lI hi), .long (lI hB1)])), (rS, .inl (cI, 4, .inl (zA fS))), (rM, .inl (cI, 4, .inl (zA fM))), (rT, .inl (cI, 80, .inl (zA (uZ fT ((20 * a) + (fM a)) t)))), (rX, .inl (cI, 80, .inl (zA (uZ fX ((20 * a) + (fM a)) x)))), (rY, .inl (cI, 80, .inl (zA fY)))] H := hP
                      have hD : va_D A [(hm, .inr (7, [.int (iI 0), .ref rS, .ref rM, .ref rB, .ref rT, .ref rX, .ref rY, .ref rL, .int (iI sz1), .ref rR, .int (iI at1), .long (lI nu), .ref rt, .ref rx, .ref ry, .int (iI fo), .ref rF, .ref rG, .ref rU, .ref rV, .long (lI lo), .long (lI lB), .long (lI hi), .long (lI hB1)])), (rS, .inl (cI, 4, .inl (zA fS))), (rM, .inl (cI, 4, .inl (zA fM))), (rT, .inl (cI, 80, .inl (zA (uZ fT ((20 * a) + (fM a)) t)))), (rX, .inl (cI, 80, .inl (zA (uZ fX ((20 * a) + (fM a)) x)))), (rY, .inl (cI, 80, .inl (zA fY)))] := hD
                      refine lv_aload_n hx hb dX7_add_164 rfl (lv_at hl 2 rfl) ?_
                      refine va_get (D := D) (ci := 7) (v := .ref rY) (C := RX7) (T := TX7) (N := 24) hx hb hts hin7 hown hK hP 0 rfl rfl 6 (by decide) (hts (.fieldLink RX7 25 "DriftLogModel" "py" "[I") (by decide +kernel)) (fun _ h9 => h9) rfl dX7_add_165 ?_
                      refine lv_bipush (v := iI 20) hx hb dX7_add_168 (by decide) ?_
                      refine lv_iload_n hx hb dX7_add_170 rfl (lv_at hl 3 rfl) ?_
                      refine wz_imul hx hb dX7_add_171 ?_
                      refine lv_iload hx hb dX7_add_172 (lv_at hl 1 rfl) ?_
                      refine wz_iadd hx hb dX7_add_174 ?_
                      refine lv_iload hx hb dX7_add_175 (lv_at hl 6 rfl) ?_
                      refine wz_iast (tys := TY cI cJ cT) hx hb hK hP hD hS 5 0 rfl rfl (by decide) (by constructor <;> omega) dX7_add_177 (fun H locs hP hD hS => ?_)
                      have hP : va_P D vwCl [(hm, .inr (7, [.int (iI 0), .ref rS, .ref rM, .ref rB, .ref rT, .ref rX, .ref rY, .ref rL, .int (iI sz1), .ref rR, .int (iI at1), .long (lI nu), .ref rt, .ref rx, .ref ry, .int (iI fo), .ref rF, .ref rG, .ref rU, .ref rV, .long (lI lo), .long (lI lB), .long (lI hi), .long (lI hB1)])), (rS, .inl (cI, 4, .inl (zA fS))), (rM, .inl (cI, 4, .inl (zA fM))), (rT, .inl (cI, 80, .inl (zA (uZ fT ((20 * a) + (fM a)) t)))), (rX, .inl (cI, 80, .inl (zA (uZ fX ((20 * a) + (fM a)) x)))), (rY, .inl (cI, 80, .inl (zA (uZ fY ((20 * a) + (fM a)) y))))] H := hP
                      have hD : va_D A [(hm, .inr (7, [.int (iI 0), .ref rS, .ref rM, .ref rB, .ref rT, .ref rX, .ref rY, .ref rL, .int (iI sz1), .ref rR, .int (iI at1), .long (lI nu), .ref rt, .ref rx, .ref ry, .int (iI fo), .ref rF, .ref rG, .ref rU, .ref rV, .long (lI lo), .long (lI lB), .long (lI hi), .long (lI hB1)])), (rS, .inl (cI, 4, .inl (zA fS))), (rM, .inl (cI, 4, .inl (zA fM))), (rT, .inl (cI, 80, .inl (zA (uZ fT ((20 * a) + (fM a)) t)))), (rX, .inl (cI, 80, .inl (zA (uZ fX ((20 * a) + (fM a)) x)))), (rY, .inl (cI, 80, .inl (zA (uZ fY ((20 * a) + (fM a)) y))))] := hD
                      refine lv_aload_n hx hb dX7_add_178 rfl (lv_at hl 2 rfl) ?_
                      refine va_get (D := D) (ci := 7) (v := .ref rM) (C := RX7) (T := TX7) (N := 24) hx hb hts hin7 hown hK hP 0 rfl rfl 2 (by decide) (hts (.fieldLink RX7 13 "DriftLogModel" "many" "[I") (by decide +kernel)) (fun _ h9 => h9) rfl dX7_add_179 ?_
                      refine lv_iload_n hx hb dX7_add_182 rfl (lv_at hl 3 rfl) ?_
                      refine lv_dup2_11 hx hb dX7_add_183 rfl rfl ?_
                      refine wz_iald (tys := TY cI cJ cT) hx hb hK hP 2 0 rfl rfl (by decide) (by constructor <;> omega) dX7_add_184 ?_
                      refine lv_iconst (v := iI 1) hx hb dX7_add_185 rfl ?_
                      refine wz_iadd hx hb dX7_add_186 ?_
                      refine wz_iast (tys := TY cI cJ cT) hx hb hK hP hD hS 2 0 rfl rfl (by decide) (by constructor <;> omega) dX7_add_187 (fun H locs hP hD hS => ?_)
                      have hP : va_P D vwCl [(hm, .inr (7, [.int (iI 0), .ref rS, .ref rM, .ref rB, .ref rT, .ref rX, .ref rY, .ref rL, .int (iI sz1), .ref rR, .int (iI at1), .long (lI nu), .ref rt, .ref rx, .ref ry, .int (iI fo), .ref rF, .ref rG, .ref rU, .ref rV, .long (lI lo), .long (lI lB), .long (lI hi), .long (lI hB1)])), (rS, .inl (cI, 4, .inl (zA fS))), (rM, .inl (cI, 4, .inl (zA (uZ fM a ((fM a) + 1))))), (rT, .inl (cI, 80, .inl (zA (uZ fT ((20 * a) + (fM a)) t)))), (rX, .inl (cI, 80, .inl (zA (uZ fX ((20 * a) + (fM a)) x)))), (rY, .inl (cI, 80, .inl (zA (uZ fY ((20 * a) + (fM a)) y))))] H := hP
                      have hD : va_D A [(hm, .inr (7, [.int (iI 0), .ref rS, .ref rM, .ref rB, .ref rT, .ref rX, .ref rY, .ref rL, .int (iI sz1), .ref rR, .int (iI at1), .long (lI nu), .ref rt, .ref rx, .ref ry, .int (iI fo), .ref rF, .ref rG, .ref rU, .ref rV, .long (lI lo), .long (lI lB), .long (lI hi), .long (lI hB1)])), (rS, .inl (cI, 4, .inl (zA fS))), (rM, .inl (cI, 4, .inl (zA (uZ fM a ((fM a) + 1))))), (rT, .inl (cI, 80, .inl (zA (uZ fT ((20 * a) + (fM a)) t)))), (rX, .inl (cI, 80, .inl (zA (uZ fX ((20 * a) + (fM a)) x)))), (rY, .inl (cI, 80, .inl (zA (uZ fY ((20 * a) + (fM a)) y))))] := hD
                      refine lv_iload hx hb dX7_add_188 (lv_at hl 1 rfl) ?_
                      refine lv_iconst (v := iI 1) hx hb dX7_add_190 rfl ?_
                      refine wz_iadd hx hb dX7_add_191 ?_
                      rw [hQ]
                      exact wz_reti (tys := TY cI cJ cT) (0, (uZ fM a ((fM a) + 1)), (uZ fT ((20 * a) + (fM a)) t), (uZ fX ((20 * a) + (fM a)) x), (uZ fY ((20 * a) + (fM a)) y)) hx hb hr hlocks hK hP hD hS (by (try dsimp only); exact (⟨fun h => (by first | exact ⟨rfl, rfl, rfl, rfl, rfl⟩ | (exfalso; omega)), fun h h2 => (by first | exact ⟨rfl, rfl, rfl, rfl, rfl⟩ | (exfalso; omega)), fun h h2 h3 => (by first | exact ⟨rfl, rfl, rfl, rfl, rfl⟩ | (exfalso; omega)), fun h h2 h3 h4 => (by first | exact ⟨rfl, rfl, rfl, rfl, rfl⟩ | (exfalso; omega)), fun h h2 h3 h4 => (by first | exact ⟨rfl, rfl, rfl, rfl, rfl, rfl⟩ | (exfalso; omega))⟩)) dX7_add_192
                    · skip
                      exact absurd c133 (by decide)
                  · skip
                    refine lv_iconst (v := iI 3) hx hb dX7_add_121 rfl ?_
                    refine lv_goto (tgt := 126) hx hb dX7_add_122 (by decide) ?_
                    refine va_put (D := D) (ci := 7) (v := .int (iI 3)) (ty := .int) (C := RX7) (T := TX7) (N := 24) hx hb hts hin7 tyX7 tyX7_ok nmX7 hown hK hP hD hS 0 rfl rfl 0 (by decide) (hts (.fieldLink RX7 56 "DriftLogModel" "thrown" "I") (by decide +kernel)) (fun _ h9 => h9) rfl (by decide +kernel) rfl rfl (Nat.le_of_ble_eq_true rfl) dX7_add_126 (fun H locs hP hD hS => ?_)
                    have hP : va_P D vwCl [(hm, .inr (7, [.int (iI 3), .ref rS, .ref rM, .ref rB, .ref rT, .ref rX, .ref rY, .ref rL, .int (iI sz1), .ref rR, .int (iI at1), .long (lI nu), .ref rt, .ref rx, .ref ry, .int (iI fo), .ref rF, .ref rG, .ref rU, .ref rV, .long (lI lo), .long (lI lB), .long (lI hi), .long (lI hB1)])), (rS, .inl (cI, 4, .inl (zA fS))), (rM, .inl (cI, 4, .inl (zA fM))), (rT, .inl (cI, 80, .inl (zA fT))), (rX, .inl (cI, 80, .inl (zA fX))), (rY, .inl (cI, 80, .inl (zA fY)))] H := hP
                    have hD : va_D A [(hm, .inr (7, [.int (iI 3), .ref rS, .ref rM, .ref rB, .ref rT, .ref rX, .ref rY, .ref rL, .int (iI sz1), .ref rR, .int (iI at1), .long (lI nu), .ref rt, .ref rx, .ref ry, .int (iI fo), .ref rF, .ref rG, .ref rU, .ref rV, .long (lI lo), .long (lI lB), .long (lI hi), .long (lI hB1)])), (rS, .inl (cI, 4, .inl (zA fS))), (rM, .inl (cI, 4, .inl (zA fM))), (rT, .inl (cI, 80, .inl (zA fT))), (rX, .inl (cI, 80, .inl (zA fX))), (rY, .inl (cI, 80, .inl (zA fY)))] := hD
                    refine lv_aload_n hx hb dX7_add_129 rfl (lv_at hl 2 rfl) ?_
                    refine va_get (D := D) (ci := 7) (v := .int (iI 3)) (C := RX7) (T := TX7) (N := 24) hx hb hts hin7 hown hK hP 0 rfl rfl 0 (by decide) (hts (.fieldLink RX7 56 "DriftLogModel" "thrown" "I") (by decide +kernel)) (fun _ h9 => h9) rfl dX7_add_130 ?_
                    refine wz_if_le (tgt := 138) hx hb dX7_add_133 (by decide) (by decide) (fun c133 => ?_) (fun c133 => ?_)
                    · skip
                      exact absurd c133 (by decide)
                    · skip
                      refine lv_iconst (v := iI 0) hx hb dX7_add_136 rfl ?_
                      rw [hQ]
                      exact wz_reti (tys := TY cI cJ cT) (3, fM, fT, fX, fY) hx hb hr hlocks hK hP hD hS (by (try dsimp only); exact (⟨fun h => (by first | exact ⟨rfl, rfl, rfl, rfl, rfl⟩ | (exfalso; omega)), fun h h2 => (by first | exact ⟨rfl, rfl, rfl, rfl, rfl⟩ | (exfalso; omega)), fun h h2 h3 => (by first | exact ⟨rfl, rfl, rfl, rfl, rfl⟩ | (exfalso; omega)), fun h h2 h3 h4 => (by first | exact ⟨rfl, rfl, rfl, rfl, rfl⟩ | (exfalso; omega)), fun h h2 h3 h4 => (by first | exact ⟨rfl, rfl, rfl, rfl, rfl, rfl⟩ | (exfalso; omega))⟩)) dX7_add_137
            · skip
              refine lv_iconst (v := iI 2) hx hb dX7_add_97 rfl ?_
              refine lv_goto (tgt := 126) hx hb dX7_add_98 (by decide) ?_
              refine va_put (D := D) (ci := 7) (v := .int (iI 2)) (ty := .int) (C := RX7) (T := TX7) (N := 24) hx hb hts hin7 tyX7 tyX7_ok nmX7 hown hK hP hD hS 0 rfl rfl 0 (by decide) (hts (.fieldLink RX7 56 "DriftLogModel" "thrown" "I") (by decide +kernel)) (fun _ h9 => h9) rfl (by decide +kernel) rfl rfl (Nat.le_of_ble_eq_true rfl) dX7_add_126 (fun H locs hP hD hS => ?_)
              have hP : va_P D vwCl [(hm, .inr (7, [.int (iI 2), .ref rS, .ref rM, .ref rB, .ref rT, .ref rX, .ref rY, .ref rL, .int (iI sz1), .ref rR, .int (iI at1), .long (lI nu), .ref rt, .ref rx, .ref ry, .int (iI fo), .ref rF, .ref rG, .ref rU, .ref rV, .long (lI lo), .long (lI lB), .long (lI hi), .long (lI hB1)])), (rS, .inl (cI, 4, .inl (zA fS))), (rM, .inl (cI, 4, .inl (zA fM))), (rT, .inl (cI, 80, .inl (zA fT))), (rX, .inl (cI, 80, .inl (zA fX))), (rY, .inl (cI, 80, .inl (zA fY)))] H := hP
              have hD : va_D A [(hm, .inr (7, [.int (iI 2), .ref rS, .ref rM, .ref rB, .ref rT, .ref rX, .ref rY, .ref rL, .int (iI sz1), .ref rR, .int (iI at1), .long (lI nu), .ref rt, .ref rx, .ref ry, .int (iI fo), .ref rF, .ref rG, .ref rU, .ref rV, .long (lI lo), .long (lI lB), .long (lI hi), .long (lI hB1)])), (rS, .inl (cI, 4, .inl (zA fS))), (rM, .inl (cI, 4, .inl (zA fM))), (rT, .inl (cI, 80, .inl (zA fT))), (rX, .inl (cI, 80, .inl (zA fX))), (rY, .inl (cI, 80, .inl (zA fY)))] := hD
              refine lv_aload_n hx hb dX7_add_129 rfl (lv_at hl 2 rfl) ?_
              refine va_get (D := D) (ci := 7) (v := .int (iI 2)) (C := RX7) (T := TX7) (N := 24) hx hb hts hin7 hown hK hP 0 rfl rfl 0 (by decide) (hts (.fieldLink RX7 56 "DriftLogModel" "thrown" "I") (by decide +kernel)) (fun _ h9 => h9) rfl dX7_add_130 ?_
              refine wz_if_le (tgt := 138) hx hb dX7_add_133 (by decide) (by decide) (fun c133 => ?_) (fun c133 => ?_)
              · skip
                exact absurd c133 (by decide)
              · skip
                refine lv_iconst (v := iI 0) hx hb dX7_add_136 rfl ?_
                rw [hQ]
                exact wz_reti (tys := TY cI cJ cT) (2, fM, fT, fX, fY) hx hb hr hlocks hK hP hD hS (by (try dsimp only); exact (⟨fun h => (by first | exact ⟨rfl, rfl, rfl, rfl, rfl⟩ | (exfalso; omega)), fun h h2 => (by first | exact ⟨rfl, rfl, rfl, rfl, rfl⟩ | (exfalso; omega)), fun h h2 h3 => (by first | exact ⟨rfl, rfl, rfl, rfl, rfl⟩ | (exfalso; omega)), fun h h2 h3 h4 => (by first | exact ⟨rfl, rfl, rfl, rfl, rfl⟩ | (exfalso; omega)), fun h h2 h3 h4 => (by first | exact ⟨rfl, rfl, rfl, rfl, rfl, rfl⟩ | (exfalso; omega))⟩)) dX7_add_137
          · skip
            refine lv_iload_n hx hb dX7_add_55 rfl (lv_at hl 3 rfl) ?_
            refine lv_aload_n hx hb dX7_add_56 rfl (lv_at hl 1 rfl) ?_
            refine va_get (D := D) (ci := 7) (v := .ref rT) (C := RX7) (T := TX7) (N := 24) hx hb hts hin7 hown hK hP 0 rfl rfl 4 (by decide) (hts (.fieldLink RX7 19 "DriftLogModel" "time" "[I") (by decide +kernel)) (fun _ h9 => h9) rfl dX7_add_57 ?_
            refine lv_bipush (v := iI 20) hx hb dX7_add_60 (by decide) ?_
            refine lv_iload_n hx hb dX7_add_62 rfl (lv_at hl 2 rfl) ?_
            refine wz_imul hx hb dX7_add_63 ?_
            refine lv_iload hx hb dX7_add_64 (lv_at hl 0 rfl) ?_
            refine wz_if_ne (tgt := 73) hx hb dX7_add_66 (by decide) ⟨by omega, by omega⟩ (fun c66 => ?_) (fun c66 => ?_)
            · skip
              refine lv_iload hx hb dX7_add_73 (lv_at hl 0 rfl) ?_
              refine lv_iconst (v := iI 1) hx hb dX7_add_75 rfl ?_
              refine wz_isub hx hb dX7_add_76 ?_
              refine wz_iadd hx hb dX7_add_77 ?_
              refine wz_iald (tys := TY cI cJ cT) hx hb hK hP 3 0 rfl rfl (by decide) (by constructor <;> omega) dX7_add_78 ?_
              refine wz_icmp_le (tgt := 86) hx hb dX7_add_79 (by decide) ⟨by omega, by omega⟩ (by first | exact ⟨by have := (ht (20 * a + (fM a - 1))).1; omega, (ht _).2⟩ | (have := ht (20 * a + 0); constructor <;> omega)) (fun c79 => ?_) (fun c79 => ?_)
              · skip
                refine lv_iconst (v := iI 0) hx hb dX7_add_86 rfl ?_
                refine lv_istore (lv' := [(6, .int (iI 0)), (5, .int (iI (fM a))), (0, .ref hm), (1, .int (iI a)), (2, .int (iI t)), (3, .int (iI x)), (4, .int (iI y))]) hx hb dX7_add_87 hl (by decide) rfl (fun ls hl => ?_)
                refine lv_aload_n hx hb dX7_add_89 rfl (lv_at hl 2 rfl) ?_
                refine lv_iload hx hb dX7_add_90 (lv_at hl 1 rfl) ?_
                refine lv_bipush (v := iI 20) hx hb dX7_add_92 (by decide) ?_
                refine wz_icmp_ne (tgt := 101) hx hb dX7_add_94 (by decide) ⟨by omega, by omega⟩ (by decide) (fun c94 => ?_) (fun c94 => ?_)
                · skip
                  refine lv_iload hx hb dX7_add_101 (lv_at hl 0 rfl) ?_
                  refine wz_if_eq (tgt := 121) hx hb dX7_add_103 (by decide) (by decide) (fun c103 => ?_) (fun c103 => ?_)
                  · skip
                    refine lv_iconst (v := iI 3) hx hb dX7_add_121 rfl ?_
                    refine lv_goto (tgt := 126) hx hb dX7_add_122 (by decide) ?_
                    refine va_put (D := D) (ci := 7) (v := .int (iI 3)) (ty := .int) (C := RX7) (T := TX7) (N := 24) hx hb hts hin7 tyX7 tyX7_ok nmX7 hown hK hP hD hS 0 rfl rfl 0 (by decide) (hts (.fieldLink RX7 56 "DriftLogModel" "thrown" "I") (by decide +kernel)) (fun _ h9 => h9) rfl (by decide +kernel) rfl rfl (Nat.le_of_ble_eq_true rfl) dX7_add_126 (fun H locs hP hD hS => ?_)
                    have hP : va_P D vwCl [(hm, .inr (7, [.int (iI 3), .ref rS, .ref rM, .ref rB, .ref rT, .ref rX, .ref rY, .ref rL, .int (iI sz1), .ref rR, .int (iI at1), .long (lI nu), .ref rt, .ref rx, .ref ry, .int (iI fo), .ref rF, .ref rG, .ref rU, .ref rV, .long (lI lo), .long (lI lB), .long (lI hi), .long (lI hB1)])), (rS, .inl (cI, 4, .inl (zA fS))), (rM, .inl (cI, 4, .inl (zA fM))), (rT, .inl (cI, 80, .inl (zA fT))), (rX, .inl (cI, 80, .inl (zA fX))), (rY, .inl (cI, 80, .inl (zA fY)))] H := hP
                    have hD : va_D A [(hm, .inr (7, [.int (iI 3), .ref rS, .ref rM, .ref rB, .ref rT, .ref rX, .ref rY, .ref rL, .int (iI sz1), .ref rR, .int (iI at1), .long (lI nu), .ref rt, .ref rx, .ref ry, .int (iI fo), .ref rF, .ref rG, .ref rU, .ref rV, .long (lI lo), .long (lI lB), .long (lI hi), .long (lI hB1)])), (rS, .inl (cI, 4, .inl (zA fS))), (rM, .inl (cI, 4, .inl (zA fM))), (rT, .inl (cI, 80, .inl (zA fT))), (rX, .inl (cI, 80, .inl (zA fX))), (rY, .inl (cI, 80, .inl (zA fY)))] := hD
                    refine lv_aload_n hx hb dX7_add_129 rfl (lv_at hl 2 rfl) ?_
                    refine va_get (D := D) (ci := 7) (v := .int (iI 3)) (C := RX7) (T := TX7) (N := 24) hx hb hts hin7 hown hK hP 0 rfl rfl 0 (by decide) (hts (.fieldLink RX7 56 "DriftLogModel" "thrown" "I") (by decide +kernel)) (fun _ h9 => h9) rfl dX7_add_130 ?_
                    refine wz_if_le (tgt := 138) hx hb dX7_add_133 (by decide) (by decide) (fun c133 => ?_) (fun c133 => ?_)
                    · skip
                      exact absurd c133 (by decide)
                    · skip
                      refine lv_iconst (v := iI 0) hx hb dX7_add_136 rfl ?_
                      rw [hQ]
                      exact wz_reti (tys := TY cI cJ cT) (3, fM, fT, fX, fY) hx hb hr hlocks hK hP hD hS (by (try dsimp only); exact (⟨fun h => (by first | exact ⟨rfl, rfl, rfl, rfl, rfl⟩ | (exfalso; omega)), fun h h2 => (by first | exact ⟨rfl, rfl, rfl, rfl, rfl⟩ | (exfalso; omega)), fun h h2 h3 => (by first | exact ⟨rfl, rfl, rfl, rfl, rfl⟩ | (exfalso; omega)), fun h h2 h3 h4 => (by first | exact ⟨rfl, rfl, rfl, rfl, rfl⟩ | (exfalso; omega)), fun h h2 h3 h4 => (by first | exact ⟨rfl, rfl, rfl, rfl, rfl, rfl⟩ | (exfalso; omega))⟩)) dX7_add_137
                  · skip
                    exact absurd c103 (by decide)
                · skip
                  refine lv_iconst (v := iI 2) hx hb dX7_add_97 rfl ?_
                  refine lv_goto (tgt := 126) hx hb dX7_add_98 (by decide) ?_
                  refine va_put (D := D) (ci := 7) (v := .int (iI 2)) (ty := .int) (C := RX7) (T := TX7) (N := 24) hx hb hts hin7 tyX7 tyX7_ok nmX7 hown hK hP hD hS 0 rfl rfl 0 (by decide) (hts (.fieldLink RX7 56 "DriftLogModel" "thrown" "I") (by decide +kernel)) (fun _ h9 => h9) rfl (by decide +kernel) rfl rfl (Nat.le_of_ble_eq_true rfl) dX7_add_126 (fun H locs hP hD hS => ?_)
                  have hP : va_P D vwCl [(hm, .inr (7, [.int (iI 2), .ref rS, .ref rM, .ref rB, .ref rT, .ref rX, .ref rY, .ref rL, .int (iI sz1), .ref rR, .int (iI at1), .long (lI nu), .ref rt, .ref rx, .ref ry, .int (iI fo), .ref rF, .ref rG, .ref rU, .ref rV, .long (lI lo), .long (lI lB), .long (lI hi), .long (lI hB1)])), (rS, .inl (cI, 4, .inl (zA fS))), (rM, .inl (cI, 4, .inl (zA fM))), (rT, .inl (cI, 80, .inl (zA fT))), (rX, .inl (cI, 80, .inl (zA fX))), (rY, .inl (cI, 80, .inl (zA fY)))] H := hP
                  have hD : va_D A [(hm, .inr (7, [.int (iI 2), .ref rS, .ref rM, .ref rB, .ref rT, .ref rX, .ref rY, .ref rL, .int (iI sz1), .ref rR, .int (iI at1), .long (lI nu), .ref rt, .ref rx, .ref ry, .int (iI fo), .ref rF, .ref rG, .ref rU, .ref rV, .long (lI lo), .long (lI lB), .long (lI hi), .long (lI hB1)])), (rS, .inl (cI, 4, .inl (zA fS))), (rM, .inl (cI, 4, .inl (zA fM))), (rT, .inl (cI, 80, .inl (zA fT))), (rX, .inl (cI, 80, .inl (zA fX))), (rY, .inl (cI, 80, .inl (zA fY)))] := hD
                  refine lv_aload_n hx hb dX7_add_129 rfl (lv_at hl 2 rfl) ?_
                  refine va_get (D := D) (ci := 7) (v := .int (iI 2)) (C := RX7) (T := TX7) (N := 24) hx hb hts hin7 hown hK hP 0 rfl rfl 0 (by decide) (hts (.fieldLink RX7 56 "DriftLogModel" "thrown" "I") (by decide +kernel)) (fun _ h9 => h9) rfl dX7_add_130 ?_
                  refine wz_if_le (tgt := 138) hx hb dX7_add_133 (by decide) (by decide) (fun c133 => ?_) (fun c133 => ?_)
                  · skip
                    exact absurd c133 (by decide)
                  · skip
                    refine lv_iconst (v := iI 0) hx hb dX7_add_136 rfl ?_
                    rw [hQ]
                    exact wz_reti (tys := TY cI cJ cT) (2, fM, fT, fX, fY) hx hb hr hlocks hK hP hD hS (by (try dsimp only); exact (⟨fun h => (by first | exact ⟨rfl, rfl, rfl, rfl, rfl⟩ | (exfalso; omega)), fun h h2 => (by first | exact ⟨rfl, rfl, rfl, rfl, rfl⟩ | (exfalso; omega)), fun h h2 h3 => (by first | exact ⟨rfl, rfl, rfl, rfl, rfl⟩ | (exfalso; omega)), fun h h2 h3 h4 => (by first | exact ⟨rfl, rfl, rfl, rfl, rfl⟩ | (exfalso; omega)), fun h h2 h3 h4 => (by first | exact ⟨rfl, rfl, rfl, rfl, rfl, rfl⟩ | (exfalso; omega))⟩)) dX7_add_137
              · skip
                refine lv_iconst (v := iI 1) hx hb dX7_add_82 rfl ?_
                refine lv_goto (tgt := 87) hx hb dX7_add_83 (by decide) ?_
                refine lv_istore (lv' := [(6, .int (iI 1)), (5, .int (iI (fM a))), (0, .ref hm), (1, .int (iI a)), (2, .int (iI t)), (3, .int (iI x)), (4, .int (iI y))]) hx hb dX7_add_87 hl (by decide) rfl (fun ls hl => ?_)
                refine lv_aload_n hx hb dX7_add_89 rfl (lv_at hl 2 rfl) ?_
                refine lv_iload hx hb dX7_add_90 (lv_at hl 1 rfl) ?_
                refine lv_bipush (v := iI 20) hx hb dX7_add_92 (by decide) ?_
                refine wz_icmp_ne (tgt := 101) hx hb dX7_add_94 (by decide) ⟨by omega, by omega⟩ (by decide) (fun c94 => ?_) (fun c94 => ?_)
                · skip
                  refine lv_iload hx hb dX7_add_101 (lv_at hl 0 rfl) ?_
                  refine wz_if_eq (tgt := 121) hx hb dX7_add_103 (by decide) (by decide) (fun c103 => ?_) (fun c103 => ?_)
                  · skip
                    exact absurd c103 (by decide)
                  · skip
                    refine lv_iload_n hx hb dX7_add_106 rfl (lv_at hl 5 rfl) ?_
                    refine wz_calli (wr := [(hm, .inr (7, [.int (iI 0), .ref rS, .ref rM, .ref rB, .ref rT, .ref rX, .ref rY, .ref rL, .int (iI sz1), .ref rR, .int (iI at1), .long (lI nu), .ref rt, .ref rx, .ref ry, .int (iI fo), .ref rF, .ref rG, .ref rU, .ref rV, .long (lI lo), .long (lI lB), .long (lI hi), .long (lI hB1)])), (rS, .inl (cI, 4, .inl (zA fS))), (rM, .inl (cI, 4, .inl (zA fM))), (rT, .inl (cI, 80, .inl (zA fT))), (rX, .inl (cI, 80, .inl (zA fX))), (rY, .inl (cI, 80, .inl (zA fY)))]) (va_runS (As := [.int (iI x)]) (rest := [.ref hm]) ⟨hx, hb, hml, hown, hts⟩ (k_X7_isPlace l D cI cJ cT H.size x (hxa)) (va_cwS 1 hts gX7_add_X7_isPlace rfl rfl rfl (by decide +kernel) ⟨Nat.le_of_ble_eq_true rfl, Nat.le_of_ble_eq_true rfl⟩) (wz_preS hK hP hD [] (by decide) rfl rfl) rfl rfl hl.1 rfl (lv_room (Nat.le_of_ble_eq_true rfl)) dX7_add_107 ⟨Nat.le_of_ble_eq_true rfl, Nat.le_of_ble_eq_true rfl⟩) hP hD hS hA [] [0, 1, 2, 3, 4, 5] rfl rfl rfl (by decide) (fun z107 u H locs hw107 hP hD hS => ?_)
                    have hP : va_P D vwCl [(hm, .inr (7, [.int (iI 0), .ref rS, .ref rM, .ref rB, .ref rT, .ref rX, .ref rY, .ref rL, .int (iI sz1), .ref rR, .int (iI at1), .long (lI nu), .ref rt, .ref rx, .ref ry, .int (iI fo), .ref rF, .ref rG, .ref rU, .ref rV, .long (lI lo), .long (lI lB), .long (lI hi), .long (lI hB1)])), (rS, .inl (cI, 4, .inl (zA fS))), (rM, .inl (cI, 4, .inl (zA fM))), (rT, .inl (cI, 80, .inl (zA fT))), (rX, .inl (cI, 80, .inl (zA fX))), (rY, .inl (cI, 80, .inl (zA fY)))] H := hP.sub [0, 1, 2, 3, 4, 5] rfl
                    have hD : va_D A [(hm, .inr (7, [.int (iI 0), .ref rS, .ref rM, .ref rB, .ref rT, .ref rX, .ref rY, .ref rL, .int (iI sz1), .ref rR, .int (iI at1), .long (lI nu), .ref rt, .ref rx, .ref ry, .int (iI fo), .ref rF, .ref rG, .ref rU, .ref rV, .long (lI lo), .long (lI lB), .long (lI hi), .long (lI hB1)])), (rS, .inl (cI, 4, .inl (zA fS))), (rM, .inl (cI, 4, .inl (zA fM))), (rT, .inl (cI, 80, .inl (zA fT))), (rX, .inl (cI, 80, .inl (zA fX))), (rY, .inl (cI, 80, .inl (zA fY)))] := hD.sub [0, 1, 2, 3, 4, 5] (by decide) rfl
                    subst hw107
                    refine wz_ifb_eq (tgt := 121) hx hb dX7_add_110 (by decide) (fun c110 => ?_) (fun c110 => ?_)
                    · skip
                      refine lv_iconst (v := iI 3) hx hb dX7_add_121 rfl ?_
                      refine lv_goto (tgt := 126) hx hb dX7_add_122 (by decide) ?_
                      refine va_put (D := D) (ci := 7) (v := .int (iI 3)) (ty := .int) (C := RX7) (T := TX7) (N := 24) hx hb hts hin7 tyX7 tyX7_ok nmX7 hown hK hP hD hS 0 rfl rfl 0 (by decide) (hts (.fieldLink RX7 56 "DriftLogModel" "thrown" "I") (by decide +kernel)) (fun _ h9 => h9) rfl (by decide +kernel) rfl rfl (Nat.le_of_ble_eq_true rfl) dX7_add_126 (fun H locs hP hD hS => ?_)
                      have hP : va_P D vwCl [(hm, .inr (7, [.int (iI 3), .ref rS, .ref rM, .ref rB, .ref rT, .ref rX, .ref rY, .ref rL, .int (iI sz1), .ref rR, .int (iI at1), .long (lI nu), .ref rt, .ref rx, .ref ry, .int (iI fo), .ref rF, .ref rG, .ref rU, .ref rV, .long (lI lo), .long (lI lB), .long (lI hi), .long (lI hB1)])), (rS, .inl (cI, 4, .inl (zA fS))), (rM, .inl (cI, 4, .inl (zA fM))), (rT, .inl (cI, 80, .inl (zA fT))), (rX, .inl (cI, 80, .inl (zA fX))), (rY, .inl (cI, 80, .inl (zA fY)))] H := hP
                      have hD : va_D A [(hm, .inr (7, [.int (iI 3), .ref rS, .ref rM, .ref rB, .ref rT, .ref rX, .ref rY, .ref rL, .int (iI sz1), .ref rR, .int (iI at1), .long (lI nu), .ref rt, .ref rx, .ref ry, .int (iI fo), .ref rF, .ref rG, .ref rU, .ref rV, .long (lI lo), .long (lI lB), .long (lI hi), .long (lI hB1)])), (rS, .inl (cI, 4, .inl (zA fS))), (rM, .inl (cI, 4, .inl (zA fM))), (rT, .inl (cI, 80, .inl (zA fT))), (rX, .inl (cI, 80, .inl (zA fX))), (rY, .inl (cI, 80, .inl (zA fY)))] := hD
                      refine lv_aload_n hx hb dX7_add_129 rfl (lv_at hl 2 rfl) ?_
                      refine va_get (D := D) (ci := 7) (v := .int (iI 3)) (C := RX7) (T := TX7) (N := 24) hx hb hts hin7 hown hK hP 0 rfl rfl 0 (by decide) (hts (.fieldLink RX7 56 "DriftLogModel" "thrown" "I") (by decide +kernel)) (fun _ h9 => h9) rfl dX7_add_130 ?_
                      refine wz_if_le (tgt := 138) hx hb dX7_add_133 (by decide) (by decide) (fun c133 => ?_) (fun c133 => ?_)
                      · skip
                        exact absurd c133 (by decide)
                      · skip
                        refine lv_iconst (v := iI 0) hx hb dX7_add_136 rfl ?_
                        rw [hQ]
                        exact wz_reti (tys := TY cI cJ cT) (3, fM, fT, fX, fY) hx hb hr hlocks hK hP hD hS (by (try dsimp only); exact (⟨fun h => (by first | exact ⟨rfl, rfl, rfl, rfl, rfl⟩ | (exfalso; omega)), fun h h2 => (by first | exact ⟨rfl, rfl, rfl, rfl, rfl⟩ | (exfalso; omega)), fun h h2 h3 => (by first | exact ⟨rfl, rfl, rfl, rfl, rfl⟩ | (exfalso; omega)), fun h h2 h3 h4 => (by first | exact ⟨rfl, rfl, rfl, rfl, rfl⟩ | (exfalso; omega)), fun h h2 h3 h4 => (by first | exact ⟨rfl, rfl, rfl, rfl, rfl, rfl⟩ | (exfalso; omega))⟩)) dX7_add_137
                    · skip
                      refine lv_iload hx hb dX7_add_113 (lv_at hl 6 rfl) ?_
                      refine wz_calli (wr := [(hm, .inr (7, [.int (iI 0), .ref rS, .ref rM, .ref rB, .ref rT, .ref rX, .ref rY, .ref rL, .int (iI sz1), .ref rR, .int (iI at1), .long (lI nu), .ref rt, .ref rx, .ref ry, .int (iI fo), .ref rF, .ref rG, .ref rU, .ref rV, .long (lI lo), .long (lI lB), .long (lI hi), .long (lI hB1)])), (rS, .inl (cI, 4, .inl (zA fS))), (rM, .inl (cI, 4, .inl (zA fM))), (rT, .inl (cI, 80, .inl (zA fT))), (rX, .inl (cI, 80, .inl (zA fX))), (rY, .inl (cI, 80, .inl (zA fY)))]) (va_runS (As := [.int (iI y)]) (rest := [.ref hm]) ⟨hx, hb, hml, hown, hts⟩ (k_X7_isPlace l D cI cJ cT H.size y (hya)) (va_cwS 1 hts gX7_add_X7_isPlace rfl rfl rfl (by decide +kernel) ⟨Nat.le_of_ble_eq_true rfl, Nat.le_of_ble_eq_true rfl⟩) (wz_preS hK hP hD [] (by decide) rfl rfl) rfl rfl hl.1 rfl (lv_room (Nat.le_of_ble_eq_true rfl)) dX7_add_115 ⟨Nat.le_of_ble_eq_true rfl, Nat.le_of_ble_eq_true rfl⟩) hP hD hS hA [] [0, 1, 2, 3, 4, 5] rfl rfl rfl (by decide) (fun z115 u H locs hw115 hP hD hS => ?_)
                      have hP : va_P D vwCl [(hm, .inr (7, [.int (iI 0), .ref rS, .ref rM, .ref rB, .ref rT, .ref rX, .ref rY, .ref rL, .int (iI sz1), .ref rR, .int (iI at1), .long (lI nu), .ref rt, .ref rx, .ref ry, .int (iI fo), .ref rF, .ref rG, .ref rU, .ref rV, .long (lI lo), .long (lI lB), .long (lI hi), .long (lI hB1)])), (rS, .inl (cI, 4, .inl (zA fS))), (rM, .inl (cI, 4, .inl (zA fM))), (rT, .inl (cI, 80, .inl (zA fT))), (rX, .inl (cI, 80, .inl (zA fX))), (rY, .inl (cI, 80, .inl (zA fY)))] H := hP.sub [0, 1, 2, 3, 4, 5] rfl
                      have hD : va_D A [(hm, .inr (7, [.int (iI 0), .ref rS, .ref rM, .ref rB, .ref rT, .ref rX, .ref rY, .ref rL, .int (iI sz1), .ref rR, .int (iI at1), .long (lI nu), .ref rt, .ref rx, .ref ry, .int (iI fo), .ref rF, .ref rG, .ref rU, .ref rV, .long (lI lo), .long (lI lB), .long (lI hi), .long (lI hB1)])), (rS, .inl (cI, 4, .inl (zA fS))), (rM, .inl (cI, 4, .inl (zA fM))), (rT, .inl (cI, 80, .inl (zA fT))), (rX, .inl (cI, 80, .inl (zA fX))), (rY, .inl (cI, 80, .inl (zA fY)))] := hD.sub [0, 1, 2, 3, 4, 5] (by decide) rfl
                      subst hw115
                      refine wz_ifb_ne (tgt := 125) hx hb dX7_add_118 (by decide) (fun c118 => ?_) (fun c118 => ?_)
                      · skip
                        refine lv_iconst (v := iI 0) hx hb dX7_add_125 rfl ?_
                        refine va_put (D := D) (ci := 7) (v := .int (iI 0)) (ty := .int) (C := RX7) (T := TX7) (N := 24) hx hb hts hin7 tyX7 tyX7_ok nmX7 hown hK hP hD hS 0 rfl rfl 0 (by decide) (hts (.fieldLink RX7 56 "DriftLogModel" "thrown" "I") (by decide +kernel)) (fun _ h9 => h9) rfl (by decide +kernel) rfl rfl (Nat.le_of_ble_eq_true rfl) dX7_add_126 (fun H locs hP hD hS => ?_)
                        have hP : va_P D vwCl [(hm, .inr (7, [.int (iI 0), .ref rS, .ref rM, .ref rB, .ref rT, .ref rX, .ref rY, .ref rL, .int (iI sz1), .ref rR, .int (iI at1), .long (lI nu), .ref rt, .ref rx, .ref ry, .int (iI fo), .ref rF, .ref rG, .ref rU, .ref rV, .long (lI lo), .long (lI lB), .long (lI hi), .long (lI hB1)])), (rS, .inl (cI, 4, .inl (zA fS))), (rM, .inl (cI, 4, .inl (zA fM))), (rT, .inl (cI, 80, .inl (zA fT))), (rX, .inl (cI, 80, .inl (zA fX))), (rY, .inl (cI, 80, .inl (zA fY)))] H := hP
                        have hD : va_D A [(hm, .inr (7, [.int (iI 0), .ref rS, .ref rM, .ref rB, .ref rT, .ref rX, .ref rY, .ref rL, .int (iI sz1), .ref rR, .int (iI at1), .long (lI nu), .ref rt, .ref rx, .ref ry, .int (iI fo), .ref rF, .ref rG, .ref rU, .ref rV, .long (lI lo), .long (lI lB), .long (lI hi), .long (lI hB1)])), (rS, .inl (cI, 4, .inl (zA fS))), (rM, .inl (cI, 4, .inl (zA fM))), (rT, .inl (cI, 80, .inl (zA fT))), (rX, .inl (cI, 80, .inl (zA fX))), (rY, .inl (cI, 80, .inl (zA fY)))] := hD
                        refine lv_aload_n hx hb dX7_add_129 rfl (lv_at hl 2 rfl) ?_
                        refine va_get (D := D) (ci := 7) (v := .int (iI 0)) (C := RX7) (T := TX7) (N := 24) hx hb hts hin7 hown hK hP 0 rfl rfl 0 (by decide) (hts (.fieldLink RX7 56 "DriftLogModel" "thrown" "I") (by decide +kernel)) (fun _ h9 => h9) rfl dX7_add_130 ?_
                        refine wz_if_le (tgt := 138) hx hb dX7_add_133 (by decide) (by decide) (fun c133 => ?_) (fun c133 => ?_)
                        · skip
                          refine lv_aload_n hx hb dX7_add_138 rfl (lv_at hl 2 rfl) ?_
                          refine va_get (D := D) (ci := 7) (v := .ref rT) (C := RX7) (T := TX7) (N := 24) hx hb hts hin7 hown hK hP 0 rfl rfl 4 (by decide) (hts (.fieldLink RX7 19 "DriftLogModel" "time" "[I") (by decide +kernel)) (fun _ h9 => h9) rfl dX7_add_139 ?_
                          refine lv_bipush (v := iI 20) hx hb dX7_add_142 (by decide) ?_
                          refine lv_iload_n hx hb dX7_add_144 rfl (lv_at hl 3 rfl) ?_
                          refine wz_imul hx hb dX7_add_145 ?_
                          refine lv_iload hx hb dX7_add_146 (lv_at hl 1 rfl) ?_
                          refine wz_iadd hx hb dX7_add_148 ?_
                          refine lv_iload_n hx hb dX7_add_149 rfl (lv_at hl 4 rfl) ?_
                          refine wz_iast (tys := TY cI cJ cT) hx hb hK hP hD hS 3 0 rfl rfl (by decide) (by constructor <;> omega) dX7_add_150 (fun H locs hP hD hS => ?_)
                          have hP : va_P D vwCl [(hm, .inr (7, [.int (iI 0), .ref rS, .ref rM, .ref rB, .ref rT, .ref rX, .ref rY, .ref rL, .int (iI sz1), .ref rR, .int (iI at1), .long (lI nu), .ref rt, .ref rx, .ref ry, .int (iI fo), .ref rF, .ref rG, .ref rU, .ref rV, .long (lI lo), .long (lI lB), .long (lI hi), .long (lI hB1)])), (rS, .inl (cI, 4, .inl (zA fS))), (rM, .inl (cI, 4, .inl (zA fM))), (rT, .inl (cI, 80, .inl (zA (uZ fT ((20 * a) + (fM a)) t)))), (rX, .inl (cI, 80, .inl (zA fX))), (rY, .inl (cI, 80, .inl (zA fY)))] H := hP
                          have hD : va_D A [(hm, .inr (7, [.int (iI 0), .ref rS, .ref rM, .ref rB, .ref rT, .ref rX, .ref rY, .ref rL, .int (iI sz1), .ref rR, .int (iI at1), .long (lI nu), .ref rt, .ref rx, .ref ry, .int (iI fo), .ref rF, .ref rG, .ref rU, .ref rV, .long (lI lo), .long (lI lB), .long (lI hi), .long (lI hB1)])), (rS, .inl (cI, 4, .inl (zA fS))), (rM, .inl (cI, 4, .inl (zA fM))), (rT, .inl (cI, 80, .inl (zA (uZ fT ((20 * a) + (fM a)) t)))), (rX, .inl (cI, 80, .inl (zA fX))), (rY, .inl (cI, 80, .inl (zA fY)))] := hD
                          refine lv_aload_n hx hb dX7_add_151 rfl (lv_at hl 2 rfl) ?_
                          refine va_get (D := D) (ci := 7) (v := .ref rX) (C := RX7) (T := TX7) (N := 24) hx hb hts hin7 hown hK hP 0 rfl rfl 5 (by decide) (hts (.fieldLink RX7 22 "DriftLogModel" "px" "[I") (by decide +kernel)) (fun _ h9 => h9) rfl dX7_add_152 ?_
                          refine lv_bipush (v := iI 20) hx hb dX7_add_155 (by decide) ?_
                          refine lv_iload_n hx hb dX7_add_157 rfl (lv_at hl 3 rfl) ?_
                          refine wz_imul hx hb dX7_add_158 ?_
                          refine lv_iload hx hb dX7_add_159 (lv_at hl 1 rfl) ?_
                          refine wz_iadd hx hb dX7_add_161 ?_
                          refine lv_iload_n hx hb dX7_add_162 rfl (lv_at hl 5 rfl) ?_
                          refine wz_iast (tys := TY cI cJ cT) hx hb hK hP hD hS 4 0 rfl rfl (by decide) (by constructor <;> omega) dX7_add_163 (fun H locs hP hD hS => ?_)
                          have hP : va_P D vwCl [(hm, .inr (7, [.int (iI 0), .ref rS, .ref rM, .ref rB, .ref rT, .ref rX, .ref rY, .ref rL, .int (iI sz1), .ref rR, .int (iI at1), .long (lI nu), .ref rt, .ref rx, .ref ry, .int (iI fo), .ref rF, .ref rG, .ref rU, .ref rV, .long (lI lo), .long (lI lB), .long (lI hi), .long (lI hB1)])), (rS, .inl (cI, 4, .inl (zA fS))), (rM, .inl (cI, 4, .inl (zA fM))), (rT, .inl (cI, 80, .inl (zA (uZ fT ((20 * a) + (fM a)) t)))), (rX, .inl (cI, 80, .inl (zA (uZ fX ((20 * a) + (fM a)) x)))), (rY, .inl (cI, 80, .inl (zA fY)))] H := hP
                          have hD : va_D A [(hm, .inr (7, [.int (iI 0), .ref rS, .ref rM, .ref rB, .ref rT, .ref rX, .ref rY, .ref rL, .int (iI sz1), .ref rR, .int (iI at1), .long (lI nu), .ref rt, .ref rx, .ref ry, .int (iI fo), .ref rF, .ref rG, .ref rU, .ref rV, .long (lI lo), .long (lI lB), .long (lI hi), .long (lI hB1)])), (rS, .inl (cI, 4, .inl (zA fS))), (rM, .inl (cI, 4, .inl (zA fM))), (rT, .inl (cI, 80, .inl (zA (uZ fT ((20 * a) + (fM a)) t)))), (rX, .inl (cI, 80, .inl (zA (uZ fX ((20 * a) + (fM a)) x)))), (rY, .inl (cI, 80, .inl (zA fY)))] := hD
                          refine lv_aload_n hx hb dX7_add_164 rfl (lv_at hl 2 rfl) ?_
                          refine va_get (D := D) (ci := 7) (v := .ref rY) (C := RX7) (T := TX7) (N := 24) hx hb hts hin7 hown hK hP 0 rfl rfl 6 (by decide) (hts (.fieldLink RX7 25 "DriftLogModel" "py" "[I") (by decide +kernel)) (fun _ h9 => h9) rfl dX7_add_165 ?_
                          refine lv_bipush (v := iI 20) hx hb dX7_add_168 (by decide) ?_
                          refine lv_iload_n hx hb dX7_add_170 rfl (lv_at hl 3 rfl) ?_
                          refine wz_imul hx hb dX7_add_171 ?_
                          refine lv_iload hx hb dX7_add_172 (lv_at hl 1 rfl) ?_
                          refine wz_iadd hx hb dX7_add_174 ?_
                          refine lv_iload hx hb dX7_add_175 (lv_at hl 6 rfl) ?_
                          refine wz_iast (tys := TY cI cJ cT) hx hb hK hP hD hS 5 0 rfl rfl (by decide) (by constructor <;> omega) dX7_add_177 (fun H locs hP hD hS => ?_)
                          have hP : va_P D vwCl [(hm, .inr (7, [.int (iI 0), .ref rS, .ref rM, .ref rB, .ref rT, .ref rX, .ref rY, .ref rL, .int (iI sz1), .ref rR, .int (iI at1), .long (lI nu), .ref rt, .ref rx, .ref ry, .int (iI fo), .ref rF, .ref rG, .ref rU, .ref rV, .long (lI lo), .long (lI lB), .long (lI hi), .long (lI hB1)])), (rS, .inl (cI, 4, .inl (zA fS))), (rM, .inl (cI, 4, .inl (zA fM))), (rT, .inl (cI, 80, .inl (zA (uZ fT ((20 * a) + (fM a)) t)))), (rX, .inl (cI, 80, .inl (zA (uZ fX ((20 * a) + (fM a)) x)))), (rY, .inl (cI, 80, .inl (zA (uZ fY ((20 * a) + (fM a)) y))))] H := hP
                          have hD : va_D A [(hm, .inr (7, [.int (iI 0), .ref rS, .ref rM, .ref rB, .ref rT, .ref rX, .ref rY, .ref rL, .int (iI sz1), .ref rR, .int (iI at1), .long (lI nu), .ref rt, .ref rx, .ref ry, .int (iI fo), .ref rF, .ref rG, .ref rU, .ref rV, .long (lI lo), .long (lI lB), .long (lI hi), .long (lI hB1)])), (rS, .inl (cI, 4, .inl (zA fS))), (rM, .inl (cI, 4, .inl (zA fM))), (rT, .inl (cI, 80, .inl (zA (uZ fT ((20 * a) + (fM a)) t)))), (rX, .inl (cI, 80, .inl (zA (uZ fX ((20 * a) + (fM a)) x)))), (rY, .inl (cI, 80, .inl (zA (uZ fY ((20 * a) + (fM a)) y))))] := hD
                          refine lv_aload_n hx hb dX7_add_178 rfl (lv_at hl 2 rfl) ?_
                          refine va_get (D := D) (ci := 7) (v := .ref rM) (C := RX7) (T := TX7) (N := 24) hx hb hts hin7 hown hK hP 0 rfl rfl 2 (by decide) (hts (.fieldLink RX7 13 "DriftLogModel" "many" "[I") (by decide +kernel)) (fun _ h9 => h9) rfl dX7_add_179 ?_
                          refine lv_iload_n hx hb dX7_add_182 rfl (lv_at hl 3 rfl) ?_
                          refine lv_dup2_11 hx hb dX7_add_183 rfl rfl ?_
                          refine wz_iald (tys := TY cI cJ cT) hx hb hK hP 2 0 rfl rfl (by decide) (by constructor <;> omega) dX7_add_184 ?_
                          refine lv_iconst (v := iI 1) hx hb dX7_add_185 rfl ?_
                          refine wz_iadd hx hb dX7_add_186 ?_
                          refine wz_iast (tys := TY cI cJ cT) hx hb hK hP hD hS 2 0 rfl rfl (by decide) (by constructor <;> omega) dX7_add_187 (fun H locs hP hD hS => ?_)
                          have hP : va_P D vwCl [(hm, .inr (7, [.int (iI 0), .ref rS, .ref rM, .ref rB, .ref rT, .ref rX, .ref rY, .ref rL, .int (iI sz1), .ref rR, .int (iI at1), .long (lI nu), .ref rt, .ref rx, .ref ry, .int (iI fo), .ref rF, .ref rG, .ref rU, .ref rV, .long (lI lo), .long (lI lB), .long (lI hi), .long (lI hB1)])), (rS, .inl (cI, 4, .inl (zA fS))), (rM, .inl (cI, 4, .inl (zA (uZ fM a ((fM a) + 1))))), (rT, .inl (cI, 80, .inl (zA (uZ fT ((20 * a) + (fM a)) t)))), (rX, .inl (cI, 80, .inl (zA (uZ fX ((20 * a) + (fM a)) x)))), (rY, .inl (cI, 80, .inl (zA (uZ fY ((20 * a) + (fM a)) y))))] H := hP
                          have hD : va_D A [(hm, .inr (7, [.int (iI 0), .ref rS, .ref rM, .ref rB, .ref rT, .ref rX, .ref rY, .ref rL, .int (iI sz1), .ref rR, .int (iI at1), .long (lI nu), .ref rt, .ref rx, .ref ry, .int (iI fo), .ref rF, .ref rG, .ref rU, .ref rV, .long (lI lo), .long (lI lB), .long (lI hi), .long (lI hB1)])), (rS, .inl (cI, 4, .inl (zA fS))), (rM, .inl (cI, 4, .inl (zA (uZ fM a ((fM a) + 1))))), (rT, .inl (cI, 80, .inl (zA (uZ fT ((20 * a) + (fM a)) t)))), (rX, .inl (cI, 80, .inl (zA (uZ fX ((20 * a) + (fM a)) x)))), (rY, .inl (cI, 80, .inl (zA (uZ fY ((20 * a) + (fM a)) y))))] := hD
                          refine lv_iload hx hb dX7_add_188 (lv_at hl 1 rfl) ?_
                          refine lv_iconst (v := iI 1) hx hb dX7_add_190 rfl ?_
                          refine wz_iadd hx hb dX7_add_191 ?_
                          rw [hQ]
                          exact wz_reti (tys := TY cI cJ cT) (0, (uZ fM a ((fM a) + 1)), (uZ fT ((20 * a) + (fM a)) t), (uZ fX ((20 * a) + (fM a)) x), (uZ fY ((20 * a) + (fM a)) y)) hx hb hr hlocks hK hP hD hS (by (try dsimp only); exact (⟨fun h => (by first | exact ⟨rfl, rfl, rfl, rfl, rfl⟩ | (exfalso; omega)), fun h h2 => (by first | exact ⟨rfl, rfl, rfl, rfl, rfl⟩ | (exfalso; omega)), fun h h2 h3 => (by first | exact ⟨rfl, rfl, rfl, rfl, rfl⟩ | (exfalso; omega)), fun h h2 h3 h4 => (by first | exact ⟨rfl, rfl, rfl, rfl, rfl⟩ | (exfalso; omega)), fun h h2 h3 h4 => (by first | exact ⟨rfl, rfl, rfl, rfl, rfl, rfl⟩ | (exfalso; omega))⟩)) dX7_add_192
                        · skip
                          exact absurd c133 (by decide)
                      · skip
                        refine lv_iconst (v := iI 3) hx hb dX7_add_121 rfl ?_
                        refine lv_goto (tgt := 126) hx hb dX7_add_122 (by decide) ?_
                        refine va_put (D := D) (ci := 7) (v := .int (iI 3)) (ty := .int) (C := RX7) (T := TX7) (N := 24) hx hb hts hin7 tyX7 tyX7_ok nmX7 hown hK hP hD hS 0 rfl rfl 0 (by decide) (hts (.fieldLink RX7 56 "DriftLogModel" "thrown" "I") (by decide +kernel)) (fun _ h9 => h9) rfl (by decide +kernel) rfl rfl (Nat.le_of_ble_eq_true rfl) dX7_add_126 (fun H locs hP hD hS => ?_)
                        have hP : va_P D vwCl [(hm, .inr (7, [.int (iI 3), .ref rS, .ref rM, .ref rB, .ref rT, .ref rX, .ref rY, .ref rL, .int (iI sz1), .ref rR, .int (iI at1), .long (lI nu), .ref rt, .ref rx, .ref ry, .int (iI fo), .ref rF, .ref rG, .ref rU, .ref rV, .long (lI lo), .long (lI lB), .long (lI hi), .long (lI hB1)])), (rS, .inl (cI, 4, .inl (zA fS))), (rM, .inl (cI, 4, .inl (zA fM))), (rT, .inl (cI, 80, .inl (zA fT))), (rX, .inl (cI, 80, .inl (zA fX))), (rY, .inl (cI, 80, .inl (zA fY)))] H := hP
                        have hD : va_D A [(hm, .inr (7, [.int (iI 3), .ref rS, .ref rM, .ref rB, .ref rT, .ref rX, .ref rY, .ref rL, .int (iI sz1), .ref rR, .int (iI at1), .long (lI nu), .ref rt, .ref rx, .ref ry, .int (iI fo), .ref rF, .ref rG, .ref rU, .ref rV, .long (lI lo), .long (lI lB), .long (lI hi), .long (lI hB1)])), (rS, .inl (cI, 4, .inl (zA fS))), (rM, .inl (cI, 4, .inl (zA fM))), (rT, .inl (cI, 80, .inl (zA fT))), (rX, .inl (cI, 80, .inl (zA fX))), (rY, .inl (cI, 80, .inl (zA fY)))] := hD
                        refine lv_aload_n hx hb dX7_add_129 rfl (lv_at hl 2 rfl) ?_
                        refine va_get (D := D) (ci := 7) (v := .int (iI 3)) (C := RX7) (T := TX7) (N := 24) hx hb hts hin7 hown hK hP 0 rfl rfl 0 (by decide) (hts (.fieldLink RX7 56 "DriftLogModel" "thrown" "I") (by decide +kernel)) (fun _ h9 => h9) rfl dX7_add_130 ?_
                        refine wz_if_le (tgt := 138) hx hb dX7_add_133 (by decide) (by decide) (fun c133 => ?_) (fun c133 => ?_)
                        · skip
                          exact absurd c133 (by decide)
                        · skip
                          refine lv_iconst (v := iI 0) hx hb dX7_add_136 rfl ?_
                          rw [hQ]
                          exact wz_reti (tys := TY cI cJ cT) (3, fM, fT, fX, fY) hx hb hr hlocks hK hP hD hS (by (try dsimp only); exact (⟨fun h => (by first | exact ⟨rfl, rfl, rfl, rfl, rfl⟩ | (exfalso; omega)), fun h h2 => (by first | exact ⟨rfl, rfl, rfl, rfl, rfl⟩ | (exfalso; omega)), fun h h2 h3 => (by first | exact ⟨rfl, rfl, rfl, rfl, rfl⟩ | (exfalso; omega)), fun h h2 h3 h4 => (by first | exact ⟨rfl, rfl, rfl, rfl, rfl⟩ | (exfalso; omega)), fun h h2 h3 h4 => (by first | exact ⟨rfl, rfl, rfl, rfl, rfl, rfl⟩ | (exfalso; omega))⟩)) dX7_add_137
                · skip
                  refine lv_iconst (v := iI 2) hx hb dX7_add_97 rfl ?_
                  refine lv_goto (tgt := 126) hx hb dX7_add_98 (by decide) ?_
                  refine va_put (D := D) (ci := 7) (v := .int (iI 2)) (ty := .int) (C := RX7) (T := TX7) (N := 24) hx hb hts hin7 tyX7 tyX7_ok nmX7 hown hK hP hD hS 0 rfl rfl 0 (by decide) (hts (.fieldLink RX7 56 "DriftLogModel" "thrown" "I") (by decide +kernel)) (fun _ h9 => h9) rfl (by decide +kernel) rfl rfl (Nat.le_of_ble_eq_true rfl) dX7_add_126 (fun H locs hP hD hS => ?_)
                  have hP : va_P D vwCl [(hm, .inr (7, [.int (iI 2), .ref rS, .ref rM, .ref rB, .ref rT, .ref rX, .ref rY, .ref rL, .int (iI sz1), .ref rR, .int (iI at1), .long (lI nu), .ref rt, .ref rx, .ref ry, .int (iI fo), .ref rF, .ref rG, .ref rU, .ref rV, .long (lI lo), .long (lI lB), .long (lI hi), .long (lI hB1)])), (rS, .inl (cI, 4, .inl (zA fS))), (rM, .inl (cI, 4, .inl (zA fM))), (rT, .inl (cI, 80, .inl (zA fT))), (rX, .inl (cI, 80, .inl (zA fX))), (rY, .inl (cI, 80, .inl (zA fY)))] H := hP
                  have hD : va_D A [(hm, .inr (7, [.int (iI 2), .ref rS, .ref rM, .ref rB, .ref rT, .ref rX, .ref rY, .ref rL, .int (iI sz1), .ref rR, .int (iI at1), .long (lI nu), .ref rt, .ref rx, .ref ry, .int (iI fo), .ref rF, .ref rG, .ref rU, .ref rV, .long (lI lo), .long (lI lB), .long (lI hi), .long (lI hB1)])), (rS, .inl (cI, 4, .inl (zA fS))), (rM, .inl (cI, 4, .inl (zA fM))), (rT, .inl (cI, 80, .inl (zA fT))), (rX, .inl (cI, 80, .inl (zA fX))), (rY, .inl (cI, 80, .inl (zA fY)))] := hD
                  refine lv_aload_n hx hb dX7_add_129 rfl (lv_at hl 2 rfl) ?_
                  refine va_get (D := D) (ci := 7) (v := .int (iI 2)) (C := RX7) (T := TX7) (N := 24) hx hb hts hin7 hown hK hP 0 rfl rfl 0 (by decide) (hts (.fieldLink RX7 56 "DriftLogModel" "thrown" "I") (by decide +kernel)) (fun _ h9 => h9) rfl dX7_add_130 ?_
                  refine wz_if_le (tgt := 138) hx hb dX7_add_133 (by decide) (by decide) (fun c133 => ?_) (fun c133 => ?_)
                  · skip
                    exact absurd c133 (by decide)
                  · skip
                    refine lv_iconst (v := iI 0) hx hb dX7_add_136 rfl ?_
                    rw [hQ]
                    exact wz_reti (tys := TY cI cJ cT) (2, fM, fT, fX, fY) hx hb hr hlocks hK hP hD hS (by (try dsimp only); exact (⟨fun h => (by first | exact ⟨rfl, rfl, rfl, rfl, rfl⟩ | (exfalso; omega)), fun h h2 => (by first | exact ⟨rfl, rfl, rfl, rfl, rfl⟩ | (exfalso; omega)), fun h h2 h3 => (by first | exact ⟨rfl, rfl, rfl, rfl, rfl⟩ | (exfalso; omega)), fun h h2 h3 h4 => (by first | exact ⟨rfl, rfl, rfl, rfl, rfl⟩ | (exfalso; omega)), fun h h2 h3 h4 => (by first | exact ⟨rfl, rfl, rfl, rfl, rfl, rfl⟩ | (exfalso; omega))⟩)) dX7_add_137
            · skip
              exfalso; omega
      · skip
        exact absurd c33 (by decide)
    · skip
      refine lv_iconst (v := iI 2) hx hb dX7_add_21 rfl ?_
      refine lv_goto (tgt := 26) hx hb dX7_add_22 (by decide) ?_
      refine va_put (D := D) (ci := 7) (v := .int (iI 2)) (ty := .int) (C := RX7) (T := TX7) (N := 24) hx hb hts hin7 tyX7 tyX7_ok nmX7 hown hK hP hD hS 0 rfl rfl 0 (by decide) (hts (.fieldLink RX7 56 "DriftLogModel" "thrown" "I") (by decide +kernel)) (fun _ h9 => h9) rfl (by decide +kernel) rfl rfl (Nat.le_of_ble_eq_true rfl) dX7_add_26 (fun H locs hP hD hS => ?_)
      have hP : va_P D vwCl [(hm, .inr (7, [.int (iI 2), .ref rS, .ref rM, .ref rB, .ref rT, .ref rX, .ref rY, .ref rL, .int (iI sz1), .ref rR, .int (iI at1), .long (lI nu), .ref rt, .ref rx, .ref ry, .int (iI fo), .ref rF, .ref rG, .ref rU, .ref rV, .long (lI lo), .long (lI lB), .long (lI hi), .long (lI hB1)])), (rS, .inl (cI, 4, .inl (zA fS))), (rM, .inl (cI, 4, .inl (zA fM))), (rT, .inl (cI, 80, .inl (zA fT))), (rX, .inl (cI, 80, .inl (zA fX))), (rY, .inl (cI, 80, .inl (zA fY)))] H := hP
      have hD : va_D A [(hm, .inr (7, [.int (iI 2), .ref rS, .ref rM, .ref rB, .ref rT, .ref rX, .ref rY, .ref rL, .int (iI sz1), .ref rR, .int (iI at1), .long (lI nu), .ref rt, .ref rx, .ref ry, .int (iI fo), .ref rF, .ref rG, .ref rU, .ref rV, .long (lI lo), .long (lI lB), .long (lI hi), .long (lI hB1)])), (rS, .inl (cI, 4, .inl (zA fS))), (rM, .inl (cI, 4, .inl (zA fM))), (rT, .inl (cI, 80, .inl (zA fT))), (rX, .inl (cI, 80, .inl (zA fX))), (rY, .inl (cI, 80, .inl (zA fY)))] := hD
      refine lv_aload_n hx hb dX7_add_29 rfl (lv_at hl 0 rfl) ?_
      refine va_get (D := D) (ci := 7) (v := .int (iI 2)) (C := RX7) (T := TX7) (N := 24) hx hb hts hin7 hown hK hP 0 rfl rfl 0 (by decide) (hts (.fieldLink RX7 56 "DriftLogModel" "thrown" "I") (by decide +kernel)) (fun _ h9 => h9) rfl dX7_add_30 ?_
      refine wz_if_le (tgt := 38) hx hb dX7_add_33 (by decide) (by decide) (fun c33 => ?_) (fun c33 => ?_)
      · skip
        exact absurd c33 (by decide)
      · skip
        refine lv_iconst (v := iI 0) hx hb dX7_add_36 rfl ?_
        rw [hQ]
        exact wz_reti (tys := TY cI cJ cT) (2, fM, fT, fX, fY) hx hb hr hlocks hK hP hD hS (by (try dsimp only); exact (⟨fun h => (by first | exact ⟨rfl, rfl, rfl, rfl, rfl⟩ | (exfalso; omega)), fun h h2 => (by first | exact ⟨rfl, rfl, rfl, rfl, rfl⟩ | (exfalso; omega)), fun h h2 h3 => (by first | exact ⟨rfl, rfl, rfl, rfl, rfl⟩ | (exfalso; omega)), fun h h2 h3 h4 => (by first | exact ⟨rfl, rfl, rfl, rfl, rfl⟩ | (exfalso; omega)), fun h h2 h3 h4 => (by first | exact ⟨rfl, rfl, rfl, rfl, rfl, rfl⟩ | (exfalso; omega))⟩)) dX7_add_37
  · skip
    refine lv_iconst (v := iI 1) hx hb dX7_add_8 rfl ?_
    refine lv_goto (tgt := 26) hx hb dX7_add_9 (by decide) ?_
    refine va_put (D := D) (ci := 7) (v := .int (iI 1)) (ty := .int) (C := RX7) (T := TX7) (N := 24) hx hb hts hin7 tyX7 tyX7_ok nmX7 hown hK hP hD hS 0 rfl rfl 0 (by decide) (hts (.fieldLink RX7 56 "DriftLogModel" "thrown" "I") (by decide +kernel)) (fun _ h9 => h9) rfl (by decide +kernel) rfl rfl (Nat.le_of_ble_eq_true rfl) dX7_add_26 (fun H locs hP hD hS => ?_)
    have hP : va_P D vwCl [(hm, .inr (7, [.int (iI 1), .ref rS, .ref rM, .ref rB, .ref rT, .ref rX, .ref rY, .ref rL, .int (iI sz1), .ref rR, .int (iI at1), .long (lI nu), .ref rt, .ref rx, .ref ry, .int (iI fo), .ref rF, .ref rG, .ref rU, .ref rV, .long (lI lo), .long (lI lB), .long (lI hi), .long (lI hB1)])), (rS, .inl (cI, 4, .inl (zA fS))), (rM, .inl (cI, 4, .inl (zA fM))), (rT, .inl (cI, 80, .inl (zA fT))), (rX, .inl (cI, 80, .inl (zA fX))), (rY, .inl (cI, 80, .inl (zA fY)))] H := hP
    have hD : va_D A [(hm, .inr (7, [.int (iI 1), .ref rS, .ref rM, .ref rB, .ref rT, .ref rX, .ref rY, .ref rL, .int (iI sz1), .ref rR, .int (iI at1), .long (lI nu), .ref rt, .ref rx, .ref ry, .int (iI fo), .ref rF, .ref rG, .ref rU, .ref rV, .long (lI lo), .long (lI lB), .long (lI hi), .long (lI hB1)])), (rS, .inl (cI, 4, .inl (zA fS))), (rM, .inl (cI, 4, .inl (zA fM))), (rT, .inl (cI, 80, .inl (zA fT))), (rX, .inl (cI, 80, .inl (zA fX))), (rY, .inl (cI, 80, .inl (zA fY)))] := hD
    refine lv_aload_n hx hb dX7_add_29 rfl (lv_at hl 0 rfl) ?_
    refine va_get (D := D) (ci := 7) (v := .int (iI 1)) (C := RX7) (T := TX7) (N := 24) hx hb hts hin7 hown hK hP 0 rfl rfl 0 (by decide) (hts (.fieldLink RX7 56 "DriftLogModel" "thrown" "I") (by decide +kernel)) (fun _ h9 => h9) rfl dX7_add_30 ?_
    refine wz_if_le (tgt := 38) hx hb dX7_add_33 (by decide) (by decide) (fun c33 => ?_) (fun c33 => ?_)
    · skip
      exact absurd c33 (by decide)
    · skip
      refine lv_iconst (v := iI 0) hx hb dX7_add_36 rfl ?_
      rw [hQ]
      exact wz_reti (tys := TY cI cJ cT) (1, fM, fT, fX, fY) hx hb hr hlocks hK hP hD hS (by (try dsimp only); exact (⟨fun h => (by first | exact ⟨rfl, rfl, rfl, rfl, rfl⟩ | (exfalso; omega)), fun h h2 => (by first | exact ⟨rfl, rfl, rfl, rfl, rfl⟩ | (exfalso; omega)), fun h h2 h3 => (by first | exact ⟨rfl, rfl, rfl, rfl, rfl⟩ | (exfalso; omega)), fun h h2 h3 h4 => (by first | exact ⟨rfl, rfl, rfl, rfl, rfl⟩ | (exfalso; omega)), fun h h2 h3 h4 => (by first | exact ⟨rfl, rfl, rfl, rfl, rfl, rfl⟩ | (exfalso; omega))⟩)) dX7_add_37
set_option maxHeartbeats 4000000 in
set_option maxRecDepth 100000 in
theorem k_X7_seal (l : Launch) (D : va_G) (cI cJ cT : ClassId) (sz : Nat) (hm : Nat) (th : Int) (rS : Nat) (rM : Nat) (rB : Nat) (rT : Nat) (rX : Nat) (rY : Nat) (rL : Nat) (sz1 : Int) (rR : Nat) (at1 : Int) (nu : Int) (rt : Nat) (rx : Nat) (ry : Nat) (fo : Int) (rF : Nat) (rG : Nat) (rU : Nat) (rV : Nat) (lo : Int) (lB : Int) (hi : Int) (hB1 : Int) (fS : Int → Int) (fM : Int → Int) (fB : Int → Int) (fT : Int → Int) (fX : Int → Int) (fY : Int → Int) (fL : Int → Int) (a : Int) (e1 : Int) (hS1 : ∀ i, 0 ≤ fS i ∧ fS i ≤ 2) (hM1 : ∀ i, 0 ≤ fM i ∧ fM i ≤ 20) (hB2 : ∀ i, 0 ≤ fB i ∧ fB i ≤ 65535) (ht : okT fT) (hx1 : okC fX) (hy1 : okC fY) (ha : rI a) (hea : rI e1) : Met l yX7_seal wsX7_seal { frames := 3, cells := 0, slots := 0, locals := 81 } (zPc D (TY cI cJ cT) [.ref hm, .int (iI a), .int (iI e1)] [(hm, .inr (7, [.int (iI th), .ref rS, .ref rM, .ref rB, .ref rT, .ref rX, .ref rY, .ref rL, .int (iI sz1), .ref rR, .int (iI at1), .long (lI nu), .ref rt, .ref rx, .ref ry, .int (iI fo), .ref rF, .ref rG, .ref rU, .ref rV, .long (lI lo), .long (lI lB), .long (lI hi), .long (lI hB1)])), (rS, .inl (cI, 4, .inl (zA fS))), (rM, .inl (cI, 4, .inl (zA fM))), (rB, .inl (cI, 4, .inl (zA fB))), (rT, .inl (cI, 80, .inl (zA fT))), (rX, .inl (cI, 80, .inl (zA fX))), (rY, .inl (cI, 80, .inl (zA fY))), (rL, .inl (cI, 20, .inl (zA fL)))] sz) (zQi D (TY cI cJ cT) (va_A [(hm, .inr (7, [.int (iI th), .ref rS, .ref rM, .ref rB, .ref rT, .ref rX, .ref rY, .ref rL, .int (iI sz1), .ref rR, .int (iI at1), .long (lI nu), .ref rt, .ref rx, .ref ry, .int (iI fo), .ref rF, .ref rG, .ref rU, .ref rV, .long (lI lo), .long (lI lB), .long (lI hi), .long (lI hB1)])), (rS, .inl (cI, 4, .inl (zA fS))), (rM, .inl (cI, 4, .inl (zA fM))), (rB, .inl (cI, 4, .inl (zA fB))), (rT, .inl (cI, 80, .inl (zA fT))), (rX, .inl (cI, 80, .inl (zA fX))), (rY, .inl (cI, 80, .inl (zA fY))), (rL, .inl (cI, 20, .inl (zA fL)))] sz) (fun (z : Int) (u : Int × (Int → Int) × (Int → Int) × (Int → Int) × (Int → Int) × (Int → Int) × (Int → Int) × (Int → Int) × (Int → Int)) => (¬ (0 ≤ a ∧ a < 4) → u.1 = 1 ∧ u.2.1 = fS ∧ u.2.2.1 = fM ∧ u.2.2.2.1 = fB ∧ u.2.2.2.2.1 = fT ∧ u.2.2.2.2.2.1 = fX ∧ u.2.2.2.2.2.2.1 = fY ∧ u.2.2.2.2.2.2.2.1 = fL) ∧ ((0 ≤ a ∧ a < 4) → fS a ≠ 1 → u.1 = 2 ∧ u.2.1 = fS ∧ u.2.2.1 = fM ∧ u.2.2.2.1 = fB ∧ u.2.2.2.2.1 = fT ∧ u.2.2.2.2.2.1 = fX ∧ u.2.2.2.2.2.2.1 = fY ∧ u.2.2.2.2.2.2.2.1 = fL) ∧ ((0 ≤ a ∧ a < 4) → fS a = 1 → fM a = 0 → u.1 = 2 ∧ u.2.1 = fS ∧ u.2.2.1 = fM ∧ u.2.2.2.1 = fB ∧ u.2.2.2.2.1 = fT ∧ u.2.2.2.2.2.1 = fX ∧ u.2.2.2.2.2.2.1 = fY ∧ u.2.2.2.2.2.2.2.1 = fL) ∧ ((0 ≤ a ∧ a < 4) → fS a = 1 → fM a ≠ 0 → ¬ (0 ≤ e1 ∧ e1 ≤ 65535) → u.1 = 3 ∧ u.2.1 = fS ∧ u.2.2.1 = fM ∧ u.2.2.2.1 = fB ∧ u.2.2.2.2.1 = fT ∧ u.2.2.2.2.2.1 = fX ∧ u.2.2.2.2.2.2.1 = fY ∧ u.2.2.2.2.2.2.2.1 = fL) ∧ ((0 ≤ a ∧ a < 4) → fS a = 1 → fM a ≠ 0 → (0 ≤ e1 ∧ e1 ≤ 65535) → u.1 = 0 ∧ mthP (fM a) (20 * a) e1 fT fX fY (u.2.2.2.2.2.2.2.1) z (u.2.2.2.2.2.2.2.2) (u.2.2.2.2.1) (u.2.2.2.2.2.1) (u.2.2.2.2.2.2.1) ∧ u.2.2.1 = uZ fM a z ∧ u.2.1 = uZ fS a 2 ∧ u.2.2.2.1 = uZ fB a e1)) (fun (u : Int × (Int → Int) × (Int → Int) × (Int → Int) × (Int → Int) × (Int → Int) × (Int → Int) × (Int → Int) × (Int → Int)) => [(hm, .inr (7, [.int (iI u.1), .ref rS, .ref rM, .ref rB, .ref rT, .ref rX, .ref rY, .ref rL, .int (iI sz1), .ref rR, .int (iI at1), .long (lI nu), .ref rt, .ref rx, .ref ry, .int (iI fo), .ref rF, .ref rG, .ref rU, .ref rV, .long (lI lo), .long (lI lB), .long (lI hi), .long (lI hB1)])), (rS, .inl (cI, 4, .inl (zA u.2.1))), (rM, .inl (cI, 4, .inl (zA u.2.2.1))), (rB, .inl (cI, 4, .inl (zA u.2.2.2.1))), (rT, .inl (cI, 80, .inl (zA u.2.2.2.2.1))), (rX, .inl (cI, 80, .inl (zA u.2.2.2.2.2.1))), (rY, .inl (cI, 80, .inl (zA u.2.2.2.2.2.2.1))), (rL, .inl (cI, 20, .inl (zA u.2.2.2.2.2.2.2.1)))])) 0 0 (va_A [(hm, .inr (7, [.int (iI th), .ref rS, .ref rM, .ref rB, .ref rT, .ref rX, .ref rY, .ref rL, .int (iI sz1), .ref rR, .int (iI at1), .long (lI nu), .ref rt, .ref rx, .ref ry, .int (iI fo), .ref rF, .ref rG, .ref rU, .ref rV, .long (lI lo), .long (lI lB), .long (lI hi), .long (lI hB1)])), (rS, .inl (cI, 4, .inl (zA fS))), (rM, .inl (cI, 4, .inl (zA fM))), (rB, .inl (cI, 4, .inl (zA fB))), (rT, .inl (cI, 80, .inl (zA fT))), (rX, .inl (cI, 80, .inl (zA fX))), (rY, .inl (cI, 80, .inl (zA fY))), (rL, .inl (cI, 20, .inl (zA fL)))] sz) := by
  refine zMi (cc := cX7_seal) (maxL := 3) (ret := (some .int)) (by decide) rfl (Nat.le_of_ble_eq_true rfl) ?_
  intro p e s m below meth c A ls hE
  obtain ⟨hx, hb, hr, hts, hown, hlocks, hml, hnm, hP, hK, hD, hA, hS, hl⟩ := hE
  have hown : s.vm.findClass RX7 = some m.cls := hown
  have hl : lv_has ls 3 [(0, .ref hm), (1, .int (iI a)), (2, .int (iI e1))] := hl
  have hin7 : ∀ w ∈ wsX70, w ∈ wsX7_seal := by decide +kernel
  obtain ⟨Q, hQ⟩ : ∃ Q, Q = MQ below (zQi D (TY cI cJ cT) A (fun (z : Int) (u : Int × (Int → Int) × (Int → Int) × (Int → Int) × (Int → Int) × (Int → Int) × (Int → Int) × (Int → Int) × (Int → Int)) => (¬ (0 ≤ a ∧ a < 4) → u.1 = 1 ∧ u.2.1 = fS ∧ u.2.2.1 = fM ∧ u.2.2.2.1 = fB ∧ u.2.2.2.2.1 = fT ∧ u.2.2.2.2.2.1 = fX ∧ u.2.2.2.2.2.2.1 = fY ∧ u.2.2.2.2.2.2.2.1 = fL) ∧ ((0 ≤ a ∧ a < 4) → fS a ≠ 1 → u.1 = 2 ∧ u.2.1 = fS ∧ u.2.2.1 = fM ∧ u.2.2.2.1 = fB ∧ u.2.2.2.2.1 = fT ∧ u.2.2.2.2.2.1 = fX ∧ u.2.2.2.2.2.2.1 = fY ∧ u.2.2.2.2.2.2.2.1 = fL) ∧ ((0 ≤ a ∧ a < 4) → fS a = 1 → fM a = 0 → u.1 = 2 ∧ u.2.1 = fS ∧ u.2.2.1 = fM ∧ u.2.2.2.1 = fB ∧ u.2.2.2.2.1 = fT ∧ u.2.2.2.2.2.1 = fX ∧ u.2.2.2.2.2.2.1 = fY ∧ u.2.2.2.2.2.2.2.1 = fL) ∧ ((0 ≤ a ∧ a < 4) → fS a = 1 → fM a ≠ 0 → ¬ (0 ≤ e1 ∧ e1 ≤ 65535) → u.1 = 3 ∧ u.2.1 = fS ∧ u.2.2.1 = fM ∧ u.2.2.2.1 = fB ∧ u.2.2.2.2.1 = fT ∧ u.2.2.2.2.2.1 = fX ∧ u.2.2.2.2.2.2.1 = fY ∧ u.2.2.2.2.2.2.2.1 = fL) ∧ ((0 ≤ a ∧ a < 4) → fS a = 1 → fM a ≠ 0 → (0 ≤ e1 ∧ e1 ≤ 65535) → u.1 = 0 ∧ mthP (fM a) (20 * a) e1 fT fX fY (u.2.2.2.2.2.2.2.1) z (u.2.2.2.2.2.2.2.2) (u.2.2.2.2.1) (u.2.2.2.2.2.1) (u.2.2.2.2.2.2.1) ∧ u.2.2.1 = uZ fM a z ∧ u.2.1 = uZ fS a 2 ∧ u.2.2.2.1 = uZ fB a e1)) (fun (u : Int × (Int → Int) × (Int → Int) × (Int → Int) × (Int → Int) × (Int → Int) × (Int → Int) × (Int → Int) × (Int → Int)) => [(hm, .inr (7, [.int (iI u.1), .ref rS, .ref rM, .ref rB, .ref rT, .ref rX, .ref rY, .ref rL, .int (iI sz1), .ref rR, .int (iI at1), .long (lI nu), .ref rt, .ref rx, .ref ry, .int (iI fo), .ref rF, .ref rG, .ref rU, .ref rV, .long (lI lo), .long (lI lB), .long (lI hi), .long (lI hB1)])), (rS, .inl (cI, 4, .inl (zA u.2.1))), (rM, .inl (cI, 4, .inl (zA u.2.2.1))), (rB, .inl (cI, 4, .inl (zA u.2.2.2.1))), (rT, .inl (cI, 80, .inl (zA u.2.2.2.2.1))), (rX, .inl (cI, 80, .inl (zA u.2.2.2.2.2.1))), (rY, .inl (cI, 80, .inl (zA u.2.2.2.2.2.2.1))), (rL, .inl (cI, 20, .inl (zA u.2.2.2.2.2.2.2.1)))])) ([.ref hm, .int (iI a), .int (iI e1)] : List Value).toArray s 0 0 A := ⟨_, rfl⟩
  rw [← hQ]
  refine lv_aload_n hx hb dX7_seal_0 rfl (lv_at hl 0 rfl) ?_
  refine lv_iload_n hx hb dX7_seal_1 rfl (lv_at hl 1 rfl) ?_
  refine wz_calli (wr := [(hm, .inr (7, [.int (iI th), .ref rS, .ref rM, .ref rB, .ref rT, .ref rX, .ref rY, .ref rL, .int (iI sz1), .ref rR, .int (iI at1), .long (lI nu), .ref rt, .ref rx, .ref ry, .int (iI fo), .ref rF, .ref rG, .ref rU, .ref rV, .long (lI lo), .long (lI lB), .long (lI hi), .long (lI hB1)])), (rS, .inl (cI, 4, .inl (zA fS))), (rM, .inl (cI, 4, .inl (zA fM))), (rB, .inl (cI, 4, .inl (zA fB))), (rT, .inl (cI, 80, .inl (zA fT))), (rX, .inl (cI, 80, .inl (zA fX))), (rY, .inl (cI, 80, .inl (zA fY))), (rL, .inl (cI, 20, .inl (zA fL)))]) (va_runS (As := [.int (iI a)]) (rest := [.ref hm]) ⟨hx, hb, hml, hown, hts⟩ (k_X7_isTrack l D cI cJ cT s.heap.size a (ha)) (va_cwS 1 hts gX7_seal_X7_isTrack rfl rfl rfl (by decide +kernel) ⟨Nat.le_of_ble_eq_true rfl, Nat.le_of_ble_eq_true rfl⟩) (wz_preS hK hP hD [] (by decide) rfl rfl) rfl rfl hl.1 rfl (lv_room (Nat.le_of_ble_eq_true rfl)) dX7_seal_2 ⟨Nat.le_of_ble_eq_true rfl, Nat.le_of_ble_eq_true rfl⟩) hP hD hS hA [] [0, 1, 2, 3, 4, 5, 6, 7] rfl rfl rfl (by decide) (fun z2 u H locs hw2 hP hD hS => ?_)
  have hP : va_P D vwCl [(hm, .inr (7, [.int (iI th), .ref rS, .ref rM, .ref rB, .ref rT, .ref rX, .ref rY, .ref rL, .int (iI sz1), .ref rR, .int (iI at1), .long (lI nu), .ref rt, .ref rx, .ref ry, .int (iI fo), .ref rF, .ref rG, .ref rU, .ref rV, .long (lI lo), .long (lI lB), .long (lI hi), .long (lI hB1)])), (rS, .inl (cI, 4, .inl (zA fS))), (rM, .inl (cI, 4, .inl (zA fM))), (rB, .inl (cI, 4, .inl (zA fB))), (rT, .inl (cI, 80, .inl (zA fT))), (rX, .inl (cI, 80, .inl (zA fX))), (rY, .inl (cI, 80, .inl (zA fY))), (rL, .inl (cI, 20, .inl (zA fL)))] H := hP.sub [0, 1, 2, 3, 4, 5, 6, 7] rfl
  have hD : va_D A [(hm, .inr (7, [.int (iI th), .ref rS, .ref rM, .ref rB, .ref rT, .ref rX, .ref rY, .ref rL, .int (iI sz1), .ref rR, .int (iI at1), .long (lI nu), .ref rt, .ref rx, .ref ry, .int (iI fo), .ref rF, .ref rG, .ref rU, .ref rV, .long (lI lo), .long (lI lB), .long (lI hi), .long (lI hB1)])), (rS, .inl (cI, 4, .inl (zA fS))), (rM, .inl (cI, 4, .inl (zA fM))), (rB, .inl (cI, 4, .inl (zA fB))), (rT, .inl (cI, 80, .inl (zA fT))), (rX, .inl (cI, 80, .inl (zA fX))), (rY, .inl (cI, 80, .inl (zA fY))), (rL, .inl (cI, 20, .inl (zA fL)))] := hD.sub [0, 1, 2, 3, 4, 5, 6, 7] (by decide) rfl
  subst hw2
  refine wz_ifb_ne (tgt := 12) hx hb dX7_seal_5 (by decide) (fun c5 => ?_) (fun c5 => ?_)
  · skip
    refine lv_aload_n hx hb dX7_seal_12 rfl (lv_at hl 0 rfl) ?_
    refine lv_iload_n hx hb dX7_seal_13 rfl (lv_at hl 1 rfl) ?_
    refine lv_iconst (v := iI 1) hx hb dX7_seal_14 rfl ?_
    refine wz_calli (wr := [(rM, .inl (cI, 4, .inl (zA fM))), (rB, .inl (cI, 4, .inl (zA fB))), (rT, .inl (cI, 80, .inl (zA fT))), (rX, .inl (cI, 80, .inl (zA fX))), (rY, .inl (cI, 80, .inl (zA fY))), (rL, .inl (cI, 20, .inl (zA fL)))]) (va_runV (As := [.int (iI a), .int (iI 1)]) (rest := [.ref hm]) ⟨hx, hb, hml, hown, hts⟩ (k_X7_is l D cI cJ cT H.size hm th rS rM rB rT rX rY rL sz1 rR at1 nu rt rx ry fo rF rG rU rV lo lB hi hB1 fS a 1 (c5) (by decide) (hS1)) (cwV 2 hts gX7_seal_X7_is rfl rfl rfl (by decide +kernel) ⟨Nat.le_of_ble_eq_true rfl, Nat.le_of_ble_eq_true rfl⟩) (wz_preV hK hP hD [0, 1] (by decide) rfl rfl 7 0 rfl rfl) rfl rfl hl.1 rfl (lv_room (Nat.le_of_ble_eq_true rfl)) dX7_seal_15 ⟨Nat.le_of_ble_eq_true rfl, Nat.le_of_ble_eq_true rfl⟩) hP hD hS hA [0, 1] [2, 3, 4, 5, 6, 7] rfl rfl rfl (by decide) (fun z15 u H locs hw15 hP hD hS => ?_)
    have hP : va_P D vwCl [(hm, .inr (7, [.int (iI th), .ref rS, .ref rM, .ref rB, .ref rT, .ref rX, .ref rY, .ref rL, .int (iI sz1), .ref rR, .int (iI at1), .long (lI nu), .ref rt, .ref rx, .ref ry, .int (iI fo), .ref rF, .ref rG, .ref rU, .ref rV, .long (lI lo), .long (lI lB), .long (lI hi), .long (lI hB1)])), (rS, .inl (cI, 4, .inl (zA fS))), (rM, .inl (cI, 4, .inl (zA fM))), (rB, .inl (cI, 4, .inl (zA fB))), (rT, .inl (cI, 80, .inl (zA fT))), (rX, .inl (cI, 80, .inl (zA fX))), (rY, .inl (cI, 80, .inl (zA fY))), (rL, .inl (cI, 20, .inl (zA fL)))] H := hP.sub [6, 7, 0, 1, 2, 3, 4, 5] rfl
    have hD : va_D A [(hm, .inr (7, [.int (iI th), .ref rS, .ref rM, .ref rB, .ref rT, .ref rX, .ref rY, .ref rL, .int (iI sz1), .ref rR, .int (iI at1), .long (lI nu), .ref rt, .ref rx, .ref ry, .int (iI fo), .ref rF, .ref rG, .ref rU, .ref rV, .long (lI lo), .long (lI lB), .long (lI hi), .long (lI hB1)])), (rS, .inl (cI, 4, .inl (zA fS))), (rM, .inl (cI, 4, .inl (zA fM))), (rB, .inl (cI, 4, .inl (zA fB))), (rT, .inl (cI, 80, .inl (zA fT))), (rX, .inl (cI, 80, .inl (zA fX))), (rY, .inl (cI, 80, .inl (zA fY))), (rL, .inl (cI, 20, .inl (zA fL)))] := hD.sub [6, 7, 0, 1, 2, 3, 4, 5] (by decide) rfl
    subst hw15
    refine wz_ifb_ne (tgt := 25) hx hb dX7_seal_18 (by decide) (fun c18 => ?_) (fun c18 => ?_)
    · skip
      refine lv_iconst (v := iI 0) hx hb dX7_seal_25 rfl ?_
      refine va_put (D := D) (ci := 7) (v := .int (iI 0)) (ty := .int) (C := RX7) (T := TX7) (N := 24) hx hb hts hin7 tyX7 tyX7_ok nmX7 hown hK hP hD hS 0 rfl rfl 0 (by decide) (hts (.fieldLink RX7 56 "DriftLogModel" "thrown" "I") (by decide +kernel)) (fun _ h9 => h9) rfl (by decide +kernel) rfl rfl (Nat.le_of_ble_eq_true rfl) dX7_seal_26 (fun H locs hP hD hS => ?_)
      have hP : va_P D vwCl [(hm, .inr (7, [.int (iI 0), .ref rS, .ref rM, .ref rB, .ref rT, .ref rX, .ref rY, .ref rL, .int (iI sz1), .ref rR, .int (iI at1), .long (lI nu), .ref rt, .ref rx, .ref ry, .int (iI fo), .ref rF, .ref rG, .ref rU, .ref rV, .long (lI lo), .long (lI lB), .long (lI hi), .long (lI hB1)])), (rS, .inl (cI, 4, .inl (zA fS))), (rM, .inl (cI, 4, .inl (zA fM))), (rB, .inl (cI, 4, .inl (zA fB))), (rT, .inl (cI, 80, .inl (zA fT))), (rX, .inl (cI, 80, .inl (zA fX))), (rY, .inl (cI, 80, .inl (zA fY))), (rL, .inl (cI, 20, .inl (zA fL)))] H := hP
      have hD : va_D A [(hm, .inr (7, [.int (iI 0), .ref rS, .ref rM, .ref rB, .ref rT, .ref rX, .ref rY, .ref rL, .int (iI sz1), .ref rR, .int (iI at1), .long (lI nu), .ref rt, .ref rx, .ref ry, .int (iI fo), .ref rF, .ref rG, .ref rU, .ref rV, .long (lI lo), .long (lI lB), .long (lI hi), .long (lI hB1)])), (rS, .inl (cI, 4, .inl (zA fS))), (rM, .inl (cI, 4, .inl (zA fM))), (rB, .inl (cI, 4, .inl (zA fB))), (rT, .inl (cI, 80, .inl (zA fT))), (rX, .inl (cI, 80, .inl (zA fX))), (rY, .inl (cI, 80, .inl (zA fY))), (rL, .inl (cI, 20, .inl (zA fL)))] := hD
      refine lv_aload_n hx hb dX7_seal_29 rfl (lv_at hl 0 rfl) ?_
      refine va_get (D := D) (ci := 7) (v := .int (iI 0)) (C := RX7) (T := TX7) (N := 24) hx hb hts hin7 hown hK hP 0 rfl rfl 0 (by decide) (hts (.fieldLink RX7 56 "DriftLogModel" "thrown" "I") (by decide +kernel)) (fun _ h9 => h9) rfl dX7_seal_30 ?_
      refine wz_if_le (tgt := 38) hx hb dX7_seal_33 (by decide) (by decide) (fun c33 => ?_) (fun c33 => ?_)
      · skip
        refine lv_aload_n hx hb dX7_seal_38 rfl (lv_at hl 0 rfl) ?_
        refine lv_aload_n hx hb dX7_seal_39 rfl (lv_at hl 0 rfl) ?_
        refine va_get (D := D) (ci := 7) (v := .ref rM) (C := RX7) (T := TX7) (N := 24) hx hb hts hin7 hown hK hP 0 rfl rfl 2 (by decide) (hts (.fieldLink RX7 13 "DriftLogModel" "many" "[I") (by decide +kernel)) (fun _ h9 => h9) rfl dX7_seal_40 ?_
        refine lv_iload_n hx hb dX7_seal_43 rfl (lv_at hl 1 rfl) ?_
        refine wz_iald (tys := TY cI cJ cT) hx hb hK hP 2 0 rfl rfl (by decide) (by constructor <;> omega) dX7_seal_44 ?_
        refine wz_if_ne (tgt := 52) hx hb dX7_seal_45 (by decide) (by have := hM1 a; constructor <;> omega) (fun c45 => ?_) (fun c45 => ?_)
        · skip
          refine lv_iload_n hx hb dX7_seal_52 rfl (lv_at hl 2 rfl) ?_
          refine wz_if_lt (tgt := 62) hx hb dX7_seal_53 (by decide) ⟨by omega, by omega⟩ (fun c53 => ?_) (fun c53 => ?_)
          · skip
            refine lv_iconst (v := iI 3) hx hb dX7_seal_62 rfl ?_
            refine lv_goto (tgt := 67) hx hb dX7_seal_63 (by decide) ?_
            refine va_put (D := D) (ci := 7) (v := .int (iI 3)) (ty := .int) (C := RX7) (T := TX7) (N := 24) hx hb hts hin7 tyX7 tyX7_ok nmX7 hown hK hP hD hS 0 rfl rfl 0 (by decide) (hts (.fieldLink RX7 56 "DriftLogModel" "thrown" "I") (by decide +kernel)) (fun _ h9 => h9) rfl (by decide +kernel) rfl rfl (Nat.le_of_ble_eq_true rfl) dX7_seal_67 (fun H locs hP hD hS => ?_)
            have hP : va_P D vwCl [(hm, .inr (7, [.int (iI 3), .ref rS, .ref rM, .ref rB, .ref rT, .ref rX, .ref rY, .ref rL, .int (iI sz1), .ref rR, .int (iI at1), .long (lI nu), .ref rt, .ref rx, .ref ry, .int (iI fo), .ref rF, .ref rG, .ref rU, .ref rV, .long (lI lo), .long (lI lB), .long (lI hi), .long (lI hB1)])), (rS, .inl (cI, 4, .inl (zA fS))), (rM, .inl (cI, 4, .inl (zA fM))), (rB, .inl (cI, 4, .inl (zA fB))), (rT, .inl (cI, 80, .inl (zA fT))), (rX, .inl (cI, 80, .inl (zA fX))), (rY, .inl (cI, 80, .inl (zA fY))), (rL, .inl (cI, 20, .inl (zA fL)))] H := hP
            have hD : va_D A [(hm, .inr (7, [.int (iI 3), .ref rS, .ref rM, .ref rB, .ref rT, .ref rX, .ref rY, .ref rL, .int (iI sz1), .ref rR, .int (iI at1), .long (lI nu), .ref rt, .ref rx, .ref ry, .int (iI fo), .ref rF, .ref rG, .ref rU, .ref rV, .long (lI lo), .long (lI lB), .long (lI hi), .long (lI hB1)])), (rS, .inl (cI, 4, .inl (zA fS))), (rM, .inl (cI, 4, .inl (zA fM))), (rB, .inl (cI, 4, .inl (zA fB))), (rT, .inl (cI, 80, .inl (zA fT))), (rX, .inl (cI, 80, .inl (zA fX))), (rY, .inl (cI, 80, .inl (zA fY))), (rL, .inl (cI, 20, .inl (zA fL)))] := hD
            refine lv_aload_n hx hb dX7_seal_70 rfl (lv_at hl 0 rfl) ?_
            refine va_get (D := D) (ci := 7) (v := .int (iI 3)) (C := RX7) (T := TX7) (N := 24) hx hb hts hin7 hown hK hP 0 rfl rfl 0 (by decide) (hts (.fieldLink RX7 56 "DriftLogModel" "thrown" "I") (by decide +kernel)) (fun _ h9 => h9) rfl dX7_seal_71 ?_
            refine wz_if_le (tgt := 79) hx hb dX7_seal_74 (by decide) (by decide) (fun c74 => ?_) (fun c74 => ?_)
            · skip
              exact absurd c74 (by decide)
            · skip
              refine lv_iconst (v := iI 0) hx hb dX7_seal_77 rfl ?_
              rw [hQ]
              exact wz_reti (tys := TY cI cJ cT) (3, fS, fM, fB, fT, fX, fY, fL, fL) hx hb hr hlocks hK hP hD hS (by (try dsimp only); exact (⟨fun h => (by first | exact ⟨rfl, rfl, rfl, rfl, rfl, rfl, rfl, rfl⟩ | (exfalso; omega)), fun h h2 => (by first | exact ⟨rfl, rfl, rfl, rfl, rfl, rfl, rfl, rfl⟩ | (exfalso; omega)), fun h h2 h3 => (by first | exact ⟨rfl, rfl, rfl, rfl, rfl, rfl, rfl, rfl⟩ | (exfalso; omega)), fun h h2 h3 h4 => (by first | exact ⟨rfl, rfl, rfl, rfl, rfl, rfl, rfl, rfl⟩ | (exfalso; omega)), fun h h2 h3 h4 => (by exfalso; omega)⟩)) dX7_seal_78
          · skip
            refine lv_iload_n hx hb dX7_seal_56 rfl (lv_at hl 2 rfl) ?_
            refine lv_ldc (v := 65535) hx hb hown (hts (.constant RX7 85 (65535)) (by decide +kernel)) dX7_seal_57 ?_
            refine wz_topi (show (65535 : Int32) = iI 65535 by decide) ?_
            refine wz_icmp_le (tgt := 66) hx hb dX7_seal_59 (by decide) ⟨by omega, by omega⟩ (by decide) (fun c59 => ?_) (fun c59 => ?_)
            · skip
              refine lv_iconst (v := iI 0) hx hb dX7_seal_66 rfl ?_
              refine va_put (D := D) (ci := 7) (v := .int (iI 0)) (ty := .int) (C := RX7) (T := TX7) (N := 24) hx hb hts hin7 tyX7 tyX7_ok nmX7 hown hK hP hD hS 0 rfl rfl 0 (by decide) (hts (.fieldLink RX7 56 "DriftLogModel" "thrown" "I") (by decide +kernel)) (fun _ h9 => h9) rfl (by decide +kernel) rfl rfl (Nat.le_of_ble_eq_true rfl) dX7_seal_67 (fun H locs hP hD hS => ?_)
              have hP : va_P D vwCl [(hm, .inr (7, [.int (iI 0), .ref rS, .ref rM, .ref rB, .ref rT, .ref rX, .ref rY, .ref rL, .int (iI sz1), .ref rR, .int (iI at1), .long (lI nu), .ref rt, .ref rx, .ref ry, .int (iI fo), .ref rF, .ref rG, .ref rU, .ref rV, .long (lI lo), .long (lI lB), .long (lI hi), .long (lI hB1)])), (rS, .inl (cI, 4, .inl (zA fS))), (rM, .inl (cI, 4, .inl (zA fM))), (rB, .inl (cI, 4, .inl (zA fB))), (rT, .inl (cI, 80, .inl (zA fT))), (rX, .inl (cI, 80, .inl (zA fX))), (rY, .inl (cI, 80, .inl (zA fY))), (rL, .inl (cI, 20, .inl (zA fL)))] H := hP
              have hD : va_D A [(hm, .inr (7, [.int (iI 0), .ref rS, .ref rM, .ref rB, .ref rT, .ref rX, .ref rY, .ref rL, .int (iI sz1), .ref rR, .int (iI at1), .long (lI nu), .ref rt, .ref rx, .ref ry, .int (iI fo), .ref rF, .ref rG, .ref rU, .ref rV, .long (lI lo), .long (lI lB), .long (lI hi), .long (lI hB1)])), (rS, .inl (cI, 4, .inl (zA fS))), (rM, .inl (cI, 4, .inl (zA fM))), (rB, .inl (cI, 4, .inl (zA fB))), (rT, .inl (cI, 80, .inl (zA fT))), (rX, .inl (cI, 80, .inl (zA fX))), (rY, .inl (cI, 80, .inl (zA fY))), (rL, .inl (cI, 20, .inl (zA fL)))] := hD
              refine lv_aload_n hx hb dX7_seal_70 rfl (lv_at hl 0 rfl) ?_
              refine va_get (D := D) (ci := 7) (v := .int (iI 0)) (C := RX7) (T := TX7) (N := 24) hx hb hts hin7 hown hK hP 0 rfl rfl 0 (by decide) (hts (.fieldLink RX7 56 "DriftLogModel" "thrown" "I") (by decide +kernel)) (fun _ h9 => h9) rfl dX7_seal_71 ?_
              refine wz_if_le (tgt := 79) hx hb dX7_seal_74 (by decide) (by decide) (fun c74 => ?_) (fun c74 => ?_)
              · skip
                refine lv_aload_n hx hb dX7_seal_79 rfl (lv_at hl 0 rfl) ?_
                refine lv_iload_n hx hb dX7_seal_80 rfl (lv_at hl 1 rfl) ?_
                refine lv_iload_n hx hb dX7_seal_81 rfl (lv_at hl 2 rfl) ?_
                refine wz_callv (wr := [(rS, .inl (cI, 4, .inl (zA fS))), (rB, .inl (cI, 4, .inl (zA fB)))]) (va_runV (As := [.int (iI a), .int (iI e1)]) (rest := []) ⟨hx, hb, hml, hown, hts⟩ (k_X7_thin l D cI cJ cT H.size hm 0 rS rM rB rT rX rY rL sz1 rR at1 nu rt rx ry fo rF rG rU rV lo lB hi hB1 fM fT fX fY fL a e1 (c5) (by have := hM1 a; constructor <;> omega) (ht) (hx1) (hy1) (hea)) (cwV 2 hts gX7_seal_X7_thin rfl rfl rfl (by decide +kernel) ⟨Nat.le_of_ble_eq_true rfl, Nat.le_of_ble_eq_true rfl⟩) (wz_preV hK hP hD [0, 2, 4, 5, 6, 7] (by decide) rfl rfl 7 0 rfl rfl) rfl rfl hl.1 rfl (lv_room (Nat.le_of_ble_eq_true rfl)) dX7_seal_82 ⟨Nat.le_of_ble_eq_true rfl, Nat.le_of_ble_eq_true rfl⟩) hP hD hS hA [0, 2, 4, 5, 6, 7] [1, 3] rfl rfl rfl (by decide) (fun  u H locs hw82 hP hD hS => ?_)
                obtain ⟨gL, K, kp, gT, gX, gY⟩ := u
                try dsimp only at hw82
                have hP : va_P D vwCl [(hm, .inr (7, [.int (iI 0), .ref rS, .ref rM, .ref rB, .ref rT, .ref rX, .ref rY, .ref rL, .int (iI sz1), .ref rR, .int (iI at1), .long (lI nu), .ref rt, .ref rx, .ref ry, .int (iI fo), .ref rF, .ref rG, .ref rU, .ref rV, .long (lI lo), .long (lI lB), .long (lI hi), .long (lI hB1)])), (rS, .inl (cI, 4, .inl (zA fS))), (rM, .inl (cI, 4, .inl (zA (uZ fM a K)))), (rB, .inl (cI, 4, .inl (zA fB))), (rT, .inl (cI, 80, .inl (zA gT))), (rX, .inl (cI, 80, .inl (zA gX))), (rY, .inl (cI, 80, .inl (zA gY))), (rL, .inl (cI, 20, .inl (zA gL)))] H := hP.sub [2, 0, 3, 1, 4, 5, 6, 7] rfl
                have hD : va_D A [(hm, .inr (7, [.int (iI 0), .ref rS, .ref rM, .ref rB, .ref rT, .ref rX, .ref rY, .ref rL, .int (iI sz1), .ref rR, .int (iI at1), .long (lI nu), .ref rt, .ref rx, .ref ry, .int (iI fo), .ref rF, .ref rG, .ref rU, .ref rV, .long (lI lo), .long (lI lB), .long (lI hi), .long (lI hB1)])), (rS, .inl (cI, 4, .inl (zA fS))), (rM, .inl (cI, 4, .inl (zA (uZ fM a K)))), (rB, .inl (cI, 4, .inl (zA fB))), (rT, .inl (cI, 80, .inl (zA gT))), (rX, .inl (cI, 80, .inl (zA gX))), (rY, .inl (cI, 80, .inl (zA gY))), (rL, .inl (cI, 20, .inl (zA gL)))] := hD.sub [2, 0, 3, 1, 4, 5, 6, 7] (by decide) rfl
                have mt : mthP (fM a) (20 * a) e1 fT fX fY gL K kp gT gX gY := hw82
                refine lv_aload_n hx hb dX7_seal_85 rfl (lv_at hl 0 rfl) ?_
                refine va_get (D := D) (ci := 7) (v := .ref rS) (C := RX7) (T := TX7) (N := 24) hx hb hts hin7 hown hK hP 0 rfl rfl 1 (by decide) (hts (.fieldLink RX7 7 "DriftLogModel" "state" "[I") (by decide +kernel)) (fun _ h9 => h9) rfl dX7_seal_86 ?_
                refine lv_iload_n hx hb dX7_seal_89 rfl (lv_at hl 1 rfl) ?_
                refine lv_iconst (v := iI 2) hx hb dX7_seal_90 rfl ?_
                refine wz_iast (tys := TY cI cJ cT) hx hb hK hP hD hS 1 0 rfl rfl (by decide) (by constructor <;> omega) dX7_seal_91 (fun H locs hP hD hS => ?_)
                have hP : va_P D vwCl [(hm, .inr (7, [.int (iI 0), .ref rS, .ref rM, .ref rB, .ref rT, .ref rX, .ref rY, .ref rL, .int (iI sz1), .ref rR, .int (iI at1), .long (lI nu), .ref rt, .ref rx, .ref ry, .int (iI fo), .ref rF, .ref rG, .ref rU, .ref rV, .long (lI lo), .long (lI lB), .long (lI hi), .long (lI hB1)])), (rS, .inl (cI, 4, .inl (zA (uZ fS a 2)))), (rM, .inl (cI, 4, .inl (zA (uZ fM a K)))), (rB, .inl (cI, 4, .inl (zA fB))), (rT, .inl (cI, 80, .inl (zA gT))), (rX, .inl (cI, 80, .inl (zA gX))), (rY, .inl (cI, 80, .inl (zA gY))), (rL, .inl (cI, 20, .inl (zA gL)))] H := hP
                have hD : va_D A [(hm, .inr (7, [.int (iI 0), .ref rS, .ref rM, .ref rB, .ref rT, .ref rX, .ref rY, .ref rL, .int (iI sz1), .ref rR, .int (iI at1), .long (lI nu), .ref rt, .ref rx, .ref ry, .int (iI fo), .ref rF, .ref rG, .ref rU, .ref rV, .long (lI lo), .long (lI lB), .long (lI hi), .long (lI hB1)])), (rS, .inl (cI, 4, .inl (zA (uZ fS a 2)))), (rM, .inl (cI, 4, .inl (zA (uZ fM a K)))), (rB, .inl (cI, 4, .inl (zA fB))), (rT, .inl (cI, 80, .inl (zA gT))), (rX, .inl (cI, 80, .inl (zA gX))), (rY, .inl (cI, 80, .inl (zA gY))), (rL, .inl (cI, 20, .inl (zA gL)))] := hD
                refine lv_aload_n hx hb dX7_seal_92 rfl (lv_at hl 0 rfl) ?_
                refine va_get (D := D) (ci := 7) (v := .ref rB) (C := RX7) (T := TX7) (N := 24) hx hb hts hin7 hown hK hP 0 rfl rfl 3 (by decide) (hts (.fieldLink RX7 16 "DriftLogModel" "bound" "[I") (by decide +kernel)) (fun _ h9 => h9) rfl dX7_seal_93 ?_
                refine lv_iload_n hx hb dX7_seal_96 rfl (lv_at hl 1 rfl) ?_
                refine lv_iload_n hx hb dX7_seal_97 rfl (lv_at hl 2 rfl) ?_
                refine wz_iast (tys := TY cI cJ cT) hx hb hK hP hD hS 3 0 rfl rfl (by decide) (by constructor <;> omega) dX7_seal_98 (fun H locs hP hD hS => ?_)
                have hP : va_P D vwCl [(hm, .inr (7, [.int (iI 0), .ref rS, .ref rM, .ref rB, .ref rT, .ref rX, .ref rY, .ref rL, .int (iI sz1), .ref rR, .int (iI at1), .long (lI nu), .ref rt, .ref rx, .ref ry, .int (iI fo), .ref rF, .ref rG, .ref rU, .ref rV, .long (lI lo), .long (lI lB), .long (lI hi), .long (lI hB1)])), (rS, .inl (cI, 4, .inl (zA (uZ fS a 2)))), (rM, .inl (cI, 4, .inl (zA (uZ fM a K)))), (rB, .inl (cI, 4, .inl (zA (uZ fB a e1)))), (rT, .inl (cI, 80, .inl (zA gT))), (rX, .inl (cI, 80, .inl (zA gX))), (rY, .inl (cI, 80, .inl (zA gY))), (rL, .inl (cI, 20, .inl (zA gL)))] H := hP
                have hD : va_D A [(hm, .inr (7, [.int (iI 0), .ref rS, .ref rM, .ref rB, .ref rT, .ref rX, .ref rY, .ref rL, .int (iI sz1), .ref rR, .int (iI at1), .long (lI nu), .ref rt, .ref rx, .ref ry, .int (iI fo), .ref rF, .ref rG, .ref rU, .ref rV, .long (lI lo), .long (lI lB), .long (lI hi), .long (lI hB1)])), (rS, .inl (cI, 4, .inl (zA (uZ fS a 2)))), (rM, .inl (cI, 4, .inl (zA (uZ fM a K)))), (rB, .inl (cI, 4, .inl (zA (uZ fB a e1)))), (rT, .inl (cI, 80, .inl (zA gT))), (rX, .inl (cI, 80, .inl (zA gX))), (rY, .inl (cI, 80, .inl (zA gY))), (rL, .inl (cI, 20, .inl (zA gL)))] := hD
                refine lv_aload_n hx hb dX7_seal_99 rfl (lv_at hl 0 rfl) ?_
                refine va_get (D := D) (ci := 7) (v := .ref rM) (C := RX7) (T := TX7) (N := 24) hx hb hts hin7 hown hK hP 0 rfl rfl 2 (by decide) (hts (.fieldLink RX7 13 "DriftLogModel" "many" "[I") (by decide +kernel)) (fun _ h9 => h9) rfl dX7_seal_100 ?_
                refine lv_iload_n hx hb dX7_seal_103 rfl (lv_at hl 1 rfl) ?_
                refine wz_iald (tys := TY cI cJ cT) hx hb hK hP 2 0 rfl rfl (by decide) (by constructor <;> omega) dX7_seal_104 ?_
                rw [hQ]
                exact wz_reti (tys := TY cI cJ cT) (0, (uZ fS a 2), (uZ fM a K), (uZ fB a e1), gT, gX, gY, gL, kp) hx hb hr hlocks hK hP hD hS (by (try dsimp only); exact (by rw [uZ_s]; exact ⟨fun h => (by exfalso; omega), fun h h2 => (by exfalso; omega), fun h h2 h3 => (by exfalso; omega), fun h h2 h3 h4 => (by exfalso; omega), fun h h2 h3 h4 => ⟨rfl, mt, rfl, rfl, rfl⟩⟩)) dX7_seal_105
              · skip
                exact absurd c74 (by decide)
            · skip
              refine lv_iconst (v := iI 3) hx hb dX7_seal_62 rfl ?_
              refine lv_goto (tgt := 67) hx hb dX7_seal_63 (by decide) ?_
              refine va_put (D := D) (ci := 7) (v := .int (iI 3)) (ty := .int) (C := RX7) (T := TX7) (N := 24) hx hb hts hin7 tyX7 tyX7_ok nmX7 hown hK hP hD hS 0 rfl rfl 0 (by decide) (hts (.fieldLink RX7 56 "DriftLogModel" "thrown" "I") (by decide +kernel)) (fun _ h9 => h9) rfl (by decide +kernel) rfl rfl (Nat.le_of_ble_eq_true rfl) dX7_seal_67 (fun H locs hP hD hS => ?_)
              have hP : va_P D vwCl [(hm, .inr (7, [.int (iI 3), .ref rS, .ref rM, .ref rB, .ref rT, .ref rX, .ref rY, .ref rL, .int (iI sz1), .ref rR, .int (iI at1), .long (lI nu), .ref rt, .ref rx, .ref ry, .int (iI fo), .ref rF, .ref rG, .ref rU, .ref rV, .long (lI lo), .long (lI lB), .long (lI hi), .long (lI hB1)])), (rS, .inl (cI, 4, .inl (zA fS))), (rM, .inl (cI, 4, .inl (zA fM))), (rB, .inl (cI, 4, .inl (zA fB))), (rT, .inl (cI, 80, .inl (zA fT))), (rX, .inl (cI, 80, .inl (zA fX))), (rY, .inl (cI, 80, .inl (zA fY))), (rL, .inl (cI, 20, .inl (zA fL)))] H := hP
              have hD : va_D A [(hm, .inr (7, [.int (iI 3), .ref rS, .ref rM, .ref rB, .ref rT, .ref rX, .ref rY, .ref rL, .int (iI sz1), .ref rR, .int (iI at1), .long (lI nu), .ref rt, .ref rx, .ref ry, .int (iI fo), .ref rF, .ref rG, .ref rU, .ref rV, .long (lI lo), .long (lI lB), .long (lI hi), .long (lI hB1)])), (rS, .inl (cI, 4, .inl (zA fS))), (rM, .inl (cI, 4, .inl (zA fM))), (rB, .inl (cI, 4, .inl (zA fB))), (rT, .inl (cI, 80, .inl (zA fT))), (rX, .inl (cI, 80, .inl (zA fX))), (rY, .inl (cI, 80, .inl (zA fY))), (rL, .inl (cI, 20, .inl (zA fL)))] := hD
              refine lv_aload_n hx hb dX7_seal_70 rfl (lv_at hl 0 rfl) ?_
              refine va_get (D := D) (ci := 7) (v := .int (iI 3)) (C := RX7) (T := TX7) (N := 24) hx hb hts hin7 hown hK hP 0 rfl rfl 0 (by decide) (hts (.fieldLink RX7 56 "DriftLogModel" "thrown" "I") (by decide +kernel)) (fun _ h9 => h9) rfl dX7_seal_71 ?_
              refine wz_if_le (tgt := 79) hx hb dX7_seal_74 (by decide) (by decide) (fun c74 => ?_) (fun c74 => ?_)
              · skip
                exact absurd c74 (by decide)
              · skip
                refine lv_iconst (v := iI 0) hx hb dX7_seal_77 rfl ?_
                rw [hQ]
                exact wz_reti (tys := TY cI cJ cT) (3, fS, fM, fB, fT, fX, fY, fL, fL) hx hb hr hlocks hK hP hD hS (by (try dsimp only); exact (⟨fun h => (by first | exact ⟨rfl, rfl, rfl, rfl, rfl, rfl, rfl, rfl⟩ | (exfalso; omega)), fun h h2 => (by first | exact ⟨rfl, rfl, rfl, rfl, rfl, rfl, rfl, rfl⟩ | (exfalso; omega)), fun h h2 h3 => (by first | exact ⟨rfl, rfl, rfl, rfl, rfl, rfl, rfl, rfl⟩ | (exfalso; omega)), fun h h2 h3 h4 => (by first | exact ⟨rfl, rfl, rfl, rfl, rfl, rfl, rfl, rfl⟩ | (exfalso; omega)), fun h h2 h3 h4 => (by exfalso; omega)⟩)) dX7_seal_78
        · skip
          refine lv_iconst (v := iI 2) hx hb dX7_seal_48 rfl ?_
          refine lv_goto (tgt := 67) hx hb dX7_seal_49 (by decide) ?_
          refine va_put (D := D) (ci := 7) (v := .int (iI 2)) (ty := .int) (C := RX7) (T := TX7) (N := 24) hx hb hts hin7 tyX7 tyX7_ok nmX7 hown hK hP hD hS 0 rfl rfl 0 (by decide) (hts (.fieldLink RX7 56 "DriftLogModel" "thrown" "I") (by decide +kernel)) (fun _ h9 => h9) rfl (by decide +kernel) rfl rfl (Nat.le_of_ble_eq_true rfl) dX7_seal_67 (fun H locs hP hD hS => ?_)
          have hP : va_P D vwCl [(hm, .inr (7, [.int (iI 2), .ref rS, .ref rM, .ref rB, .ref rT, .ref rX, .ref rY, .ref rL, .int (iI sz1), .ref rR, .int (iI at1), .long (lI nu), .ref rt, .ref rx, .ref ry, .int (iI fo), .ref rF, .ref rG, .ref rU, .ref rV, .long (lI lo), .long (lI lB), .long (lI hi), .long (lI hB1)])), (rS, .inl (cI, 4, .inl (zA fS))), (rM, .inl (cI, 4, .inl (zA fM))), (rB, .inl (cI, 4, .inl (zA fB))), (rT, .inl (cI, 80, .inl (zA fT))), (rX, .inl (cI, 80, .inl (zA fX))), (rY, .inl (cI, 80, .inl (zA fY))), (rL, .inl (cI, 20, .inl (zA fL)))] H := hP
          have hD : va_D A [(hm, .inr (7, [.int (iI 2), .ref rS, .ref rM, .ref rB, .ref rT, .ref rX, .ref rY, .ref rL, .int (iI sz1), .ref rR, .int (iI at1), .long (lI nu), .ref rt, .ref rx, .ref ry, .int (iI fo), .ref rF, .ref rG, .ref rU, .ref rV, .long (lI lo), .long (lI lB), .long (lI hi), .long (lI hB1)])), (rS, .inl (cI, 4, .inl (zA fS))), (rM, .inl (cI, 4, .inl (zA fM))), (rB, .inl (cI, 4, .inl (zA fB))), (rT, .inl (cI, 80, .inl (zA fT))), (rX, .inl (cI, 80, .inl (zA fX))), (rY, .inl (cI, 80, .inl (zA fY))), (rL, .inl (cI, 20, .inl (zA fL)))] := hD
          refine lv_aload_n hx hb dX7_seal_70 rfl (lv_at hl 0 rfl) ?_
          refine va_get (D := D) (ci := 7) (v := .int (iI 2)) (C := RX7) (T := TX7) (N := 24) hx hb hts hin7 hown hK hP 0 rfl rfl 0 (by decide) (hts (.fieldLink RX7 56 "DriftLogModel" "thrown" "I") (by decide +kernel)) (fun _ h9 => h9) rfl dX7_seal_71 ?_
          refine wz_if_le (tgt := 79) hx hb dX7_seal_74 (by decide) (by decide) (fun c74 => ?_) (fun c74 => ?_)
          · skip
            exact absurd c74 (by decide)
          · skip
            refine lv_iconst (v := iI 0) hx hb dX7_seal_77 rfl ?_
            rw [hQ]
            exact wz_reti (tys := TY cI cJ cT) (2, fS, fM, fB, fT, fX, fY, fL, fL) hx hb hr hlocks hK hP hD hS (by (try dsimp only); exact (⟨fun h => (by first | exact ⟨rfl, rfl, rfl, rfl, rfl, rfl, rfl, rfl⟩ | (exfalso; omega)), fun h h2 => (by first | exact ⟨rfl, rfl, rfl, rfl, rfl, rfl, rfl, rfl⟩ | (exfalso; omega)), fun h h2 h3 => (by first | exact ⟨rfl, rfl, rfl, rfl, rfl, rfl, rfl, rfl⟩ | (exfalso; omega)), fun h h2 h3 h4 => (by first | exact ⟨rfl, rfl, rfl, rfl, rfl, rfl, rfl, rfl⟩ | (exfalso; omega)), fun h h2 h3 h4 => (by exfalso; omega)⟩)) dX7_seal_78
      · skip
        exact absurd c33 (by decide)
    · skip
      refine lv_iconst (v := iI 2) hx hb dX7_seal_21 rfl ?_
      refine lv_goto (tgt := 26) hx hb dX7_seal_22 (by decide) ?_
      refine va_put (D := D) (ci := 7) (v := .int (iI 2)) (ty := .int) (C := RX7) (T := TX7) (N := 24) hx hb hts hin7 tyX7 tyX7_ok nmX7 hown hK hP hD hS 0 rfl rfl 0 (by decide) (hts (.fieldLink RX7 56 "DriftLogModel" "thrown" "I") (by decide +kernel)) (fun _ h9 => h9) rfl (by decide +kernel) rfl rfl (Nat.le_of_ble_eq_true rfl) dX7_seal_26 (fun H locs hP hD hS => ?_)
      have hP : va_P D vwCl [(hm, .inr (7, [.int (iI 2), .ref rS, .ref rM, .ref rB, .ref rT, .ref rX, .ref rY, .ref rL, .int (iI sz1), .ref rR, .int (iI at1), .long (lI nu), .ref rt, .ref rx, .ref ry, .int (iI fo), .ref rF, .ref rG, .ref rU, .ref rV, .long (lI lo), .long (lI lB), .long (lI hi), .long (lI hB1)])), (rS, .inl (cI, 4, .inl (zA fS))), (rM, .inl (cI, 4, .inl (zA fM))), (rB, .inl (cI, 4, .inl (zA fB))), (rT, .inl (cI, 80, .inl (zA fT))), (rX, .inl (cI, 80, .inl (zA fX))), (rY, .inl (cI, 80, .inl (zA fY))), (rL, .inl (cI, 20, .inl (zA fL)))] H := hP
      have hD : va_D A [(hm, .inr (7, [.int (iI 2), .ref rS, .ref rM, .ref rB, .ref rT, .ref rX, .ref rY, .ref rL, .int (iI sz1), .ref rR, .int (iI at1), .long (lI nu), .ref rt, .ref rx, .ref ry, .int (iI fo), .ref rF, .ref rG, .ref rU, .ref rV, .long (lI lo), .long (lI lB), .long (lI hi), .long (lI hB1)])), (rS, .inl (cI, 4, .inl (zA fS))), (rM, .inl (cI, 4, .inl (zA fM))), (rB, .inl (cI, 4, .inl (zA fB))), (rT, .inl (cI, 80, .inl (zA fT))), (rX, .inl (cI, 80, .inl (zA fX))), (rY, .inl (cI, 80, .inl (zA fY))), (rL, .inl (cI, 20, .inl (zA fL)))] := hD
      refine lv_aload_n hx hb dX7_seal_29 rfl (lv_at hl 0 rfl) ?_
      refine va_get (D := D) (ci := 7) (v := .int (iI 2)) (C := RX7) (T := TX7) (N := 24) hx hb hts hin7 hown hK hP 0 rfl rfl 0 (by decide) (hts (.fieldLink RX7 56 "DriftLogModel" "thrown" "I") (by decide +kernel)) (fun _ h9 => h9) rfl dX7_seal_30 ?_
      refine wz_if_le (tgt := 38) hx hb dX7_seal_33 (by decide) (by decide) (fun c33 => ?_) (fun c33 => ?_)
      · skip
        exact absurd c33 (by decide)
      · skip
        refine lv_iconst (v := iI 0) hx hb dX7_seal_36 rfl ?_
        rw [hQ]
        exact wz_reti (tys := TY cI cJ cT) (2, fS, fM, fB, fT, fX, fY, fL, fL) hx hb hr hlocks hK hP hD hS (by (try dsimp only); exact (⟨fun h => (by first | exact ⟨rfl, rfl, rfl, rfl, rfl, rfl, rfl, rfl⟩ | (exfalso; omega)), fun h h2 => (by first | exact ⟨rfl, rfl, rfl, rfl, rfl, rfl, rfl, rfl⟩ | (exfalso; omega)), fun h h2 h3 => (by first | exact ⟨rfl, rfl, rfl, rfl, rfl, rfl, rfl, rfl⟩ | (exfalso; omega)), fun h h2 h3 h4 => (by first | exact ⟨rfl, rfl, rfl, rfl, rfl, rfl, rfl, rfl⟩ | (exfalso; omega)), fun h h2 h3 h4 => (by exfalso; omega)⟩)) dX7_seal_37
  · skip
    refine lv_iconst (v := iI 1) hx hb dX7_seal_8 rfl ?_
    refine lv_goto (tgt := 26) hx hb dX7_seal_9 (by decide) ?_
    refine va_put (D := D) (ci := 7) (v := .int (iI 1)) (ty := .int) (C := RX7) (T := TX7) (N := 24) hx hb hts hin7 tyX7 tyX7_ok nmX7 hown hK hP hD hS 0 rfl rfl 0 (by decide) (hts (.fieldLink RX7 56 "DriftLogModel" "thrown" "I") (by decide +kernel)) (fun _ h9 => h9) rfl (by decide +kernel) rfl rfl (Nat.le_of_ble_eq_true rfl) dX7_seal_26 (fun H locs hP hD hS => ?_)
    have hP : va_P D vwCl [(hm, .inr (7, [.int (iI 1), .ref rS, .ref rM, .ref rB, .ref rT, .ref rX, .ref rY, .ref rL, .int (iI sz1), .ref rR, .int (iI at1), .long (lI nu), .ref rt, .ref rx, .ref ry, .int (iI fo), .ref rF, .ref rG, .ref rU, .ref rV, .long (lI lo), .long (lI lB), .long (lI hi), .long (lI hB1)])), (rS, .inl (cI, 4, .inl (zA fS))), (rM, .inl (cI, 4, .inl (zA fM))), (rB, .inl (cI, 4, .inl (zA fB))), (rT, .inl (cI, 80, .inl (zA fT))), (rX, .inl (cI, 80, .inl (zA fX))), (rY, .inl (cI, 80, .inl (zA fY))), (rL, .inl (cI, 20, .inl (zA fL)))] H := hP
    have hD : va_D A [(hm, .inr (7, [.int (iI 1), .ref rS, .ref rM, .ref rB, .ref rT, .ref rX, .ref rY, .ref rL, .int (iI sz1), .ref rR, .int (iI at1), .long (lI nu), .ref rt, .ref rx, .ref ry, .int (iI fo), .ref rF, .ref rG, .ref rU, .ref rV, .long (lI lo), .long (lI lB), .long (lI hi), .long (lI hB1)])), (rS, .inl (cI, 4, .inl (zA fS))), (rM, .inl (cI, 4, .inl (zA fM))), (rB, .inl (cI, 4, .inl (zA fB))), (rT, .inl (cI, 80, .inl (zA fT))), (rX, .inl (cI, 80, .inl (zA fX))), (rY, .inl (cI, 80, .inl (zA fY))), (rL, .inl (cI, 20, .inl (zA fL)))] := hD
    refine lv_aload_n hx hb dX7_seal_29 rfl (lv_at hl 0 rfl) ?_
    refine va_get (D := D) (ci := 7) (v := .int (iI 1)) (C := RX7) (T := TX7) (N := 24) hx hb hts hin7 hown hK hP 0 rfl rfl 0 (by decide) (hts (.fieldLink RX7 56 "DriftLogModel" "thrown" "I") (by decide +kernel)) (fun _ h9 => h9) rfl dX7_seal_30 ?_
    refine wz_if_le (tgt := 38) hx hb dX7_seal_33 (by decide) (by decide) (fun c33 => ?_) (fun c33 => ?_)
    · skip
      exact absurd c33 (by decide)
    · skip
      refine lv_iconst (v := iI 0) hx hb dX7_seal_36 rfl ?_
      rw [hQ]
      exact wz_reti (tys := TY cI cJ cT) (1, fS, fM, fB, fT, fX, fY, fL, fL) hx hb hr hlocks hK hP hD hS (by (try dsimp only); exact (⟨fun h => (by first | exact ⟨rfl, rfl, rfl, rfl, rfl, rfl, rfl, rfl⟩ | (exfalso; omega)), fun h h2 => (by first | exact ⟨rfl, rfl, rfl, rfl, rfl, rfl, rfl, rfl⟩ | (exfalso; omega)), fun h h2 h3 => (by first | exact ⟨rfl, rfl, rfl, rfl, rfl, rfl, rfl, rfl⟩ | (exfalso; omega)), fun h h2 h3 h4 => (by first | exact ⟨rfl, rfl, rfl, rfl, rfl, rfl, rfl, rfl⟩ | (exfalso; omega)), fun h h2 h3 h4 => (by exfalso; omega)⟩)) dX7_seal_37
set_option maxHeartbeats 4000000 in
set_option maxRecDepth 100000 in
theorem k_X7_again (l : Launch) (D : va_G) (cI cJ cT : ClassId) (sz : Nat) (hm : Nat) (th : Int) (rS : Nat) (rM : Nat) (rB : Nat) (rT : Nat) (rX : Nat) (rY : Nat) (rL : Nat) (sz1 : Int) (rR : Nat) (at1 : Int) (nu : Int) (rt : Nat) (rx : Nat) (ry : Nat) (fo : Int) (rF : Nat) (rG : Nat) (rU : Nat) (rV : Nat) (lo : Int) (lB : Int) (hi : Int) (hB1 : Int) (fS : Int → Int) (fM : Int → Int) (fB : Int → Int) (fT : Int → Int) (fX : Int → Int) (fY : Int → Int) (fL : Int → Int) (a : Int) (e1 : Int) (hS1 : ∀ i, 0 ≤ fS i ∧ fS i ≤ 2) (hM1 : ∀ i, 0 ≤ fM i ∧ fM i ≤ 20) (hB2 : ∀ i, 0 ≤ fB i ∧ fB i ≤ 65535) (ht : okT fT) (hx1 : okC fX) (hy1 : okC fY) (ha : rI a) (hea : rI e1) (hM2 : ∀ i, fS i = 2 → 1 ≤ fM i) : Met l yX7_again wsX7_again { frames := 3, cells := 0, slots := 0, locals := 81 } (zPc D (TY cI cJ cT) [.ref hm, .int (iI a), .int (iI e1)] [(hm, .inr (7, [.int (iI th), .ref rS, .ref rM, .ref rB, .ref rT, .ref rX, .ref rY, .ref rL, .int (iI sz1), .ref rR, .int (iI at1), .long (lI nu), .ref rt, .ref rx, .ref ry, .int (iI fo), .ref rF, .ref rG, .ref rU, .ref rV, .long (lI lo), .long (lI lB), .long (lI hi), .long (lI hB1)])), (rS, .inl (cI, 4, .inl (zA fS))), (rM, .inl (cI, 4, .inl (zA fM))), (rB, .inl (cI, 4, .inl (zA fB))), (rT, .inl (cI, 80, .inl (zA fT))), (rX, .inl (cI, 80, .inl (zA fX))), (rY, .inl (cI, 80, .inl (zA fY))), (rL, .inl (cI, 20, .inl (zA fL)))] sz) (zQi D (TY cI cJ cT) (va_A [(hm, .inr (7, [.int (iI th), .ref rS, .ref rM, .ref rB, .ref rT, .ref rX, .ref rY, .ref rL, .int (iI sz1), .ref rR, .int (iI at1), .long (lI nu), .ref rt, .ref rx, .ref ry, .int (iI fo), .ref rF, .ref rG, .ref rU, .ref rV, .long (lI lo), .long (lI lB), .long (lI hi), .long (lI hB1)])), (rS, .inl (cI, 4, .inl (zA fS))), (rM, .inl (cI, 4, .inl (zA fM))), (rB, .inl (cI, 4, .inl (zA fB))), (rT, .inl (cI, 80, .inl (zA fT))), (rX, .inl (cI, 80, .inl (zA fX))), (rY, .inl (cI, 80, .inl (zA fY))), (rL, .inl (cI, 20, .inl (zA fL)))] sz) (fun (z : Int) (u : Int × (Int → Int) × (Int → Int) × (Int → Int) × (Int → Int) × (Int → Int) × (Int → Int) × (Int → Int) × (Int → Int)) => (¬ (0 ≤ a ∧ a < 4) → u.1 = 1 ∧ u.2.1 = fS ∧ u.2.2.1 = fM ∧ u.2.2.2.1 = fB ∧ u.2.2.2.2.1 = fT ∧ u.2.2.2.2.2.1 = fX ∧ u.2.2.2.2.2.2.1 = fY ∧ u.2.2.2.2.2.2.2.1 = fL) ∧ ((0 ≤ a ∧ a < 4) → fS a ≠ 2 → u.1 = 2 ∧ u.2.1 = fS ∧ u.2.2.1 = fM ∧ u.2.2.2.1 = fB ∧ u.2.2.2.2.1 = fT ∧ u.2.2.2.2.2.1 = fX ∧ u.2.2.2.2.2.2.1 = fY ∧ u.2.2.2.2.2.2.2.1 = fL) ∧ ((0 ≤ a ∧ a < 4) → fS a = 2 → ¬ (0 ≤ e1 ∧ e1 ≤ 65535 - fB a) → u.1 = 3 ∧ u.2.1 = fS ∧ u.2.2.1 = fM ∧ u.2.2.2.1 = fB ∧ u.2.2.2.2.1 = fT ∧ u.2.2.2.2.2.1 = fX ∧ u.2.2.2.2.2.2.1 = fY ∧ u.2.2.2.2.2.2.2.1 = fL) ∧ ((0 ≤ a ∧ a < 4) → fS a = 2 → (0 ≤ e1 ∧ e1 ≤ 65535 - fB a) → u.1 = 0 ∧ mthP (fM a) (20 * a) e1 fT fX fY (u.2.2.2.2.2.2.2.1) z (u.2.2.2.2.2.2.2.2) (u.2.2.2.2.1) (u.2.2.2.2.2.1) (u.2.2.2.2.2.2.1) ∧ u.2.2.1 = uZ fM a z ∧ u.2.1 = fS ∧ u.2.2.2.1 = uZ fB a (fB a + e1))) (fun (u : Int × (Int → Int) × (Int → Int) × (Int → Int) × (Int → Int) × (Int → Int) × (Int → Int) × (Int → Int) × (Int → Int)) => [(hm, .inr (7, [.int (iI u.1), .ref rS, .ref rM, .ref rB, .ref rT, .ref rX, .ref rY, .ref rL, .int (iI sz1), .ref rR, .int (iI at1), .long (lI nu), .ref rt, .ref rx, .ref ry, .int (iI fo), .ref rF, .ref rG, .ref rU, .ref rV, .long (lI lo), .long (lI lB), .long (lI hi), .long (lI hB1)])), (rS, .inl (cI, 4, .inl (zA u.2.1))), (rM, .inl (cI, 4, .inl (zA u.2.2.1))), (rB, .inl (cI, 4, .inl (zA u.2.2.2.1))), (rT, .inl (cI, 80, .inl (zA u.2.2.2.2.1))), (rX, .inl (cI, 80, .inl (zA u.2.2.2.2.2.1))), (rY, .inl (cI, 80, .inl (zA u.2.2.2.2.2.2.1))), (rL, .inl (cI, 20, .inl (zA u.2.2.2.2.2.2.2.1)))])) 0 0 (va_A [(hm, .inr (7, [.int (iI th), .ref rS, .ref rM, .ref rB, .ref rT, .ref rX, .ref rY, .ref rL, .int (iI sz1), .ref rR, .int (iI at1), .long (lI nu), .ref rt, .ref rx, .ref ry, .int (iI fo), .ref rF, .ref rG, .ref rU, .ref rV, .long (lI lo), .long (lI lB), .long (lI hi), .long (lI hB1)])), (rS, .inl (cI, 4, .inl (zA fS))), (rM, .inl (cI, 4, .inl (zA fM))), (rB, .inl (cI, 4, .inl (zA fB))), (rT, .inl (cI, 80, .inl (zA fT))), (rX, .inl (cI, 80, .inl (zA fX))), (rY, .inl (cI, 80, .inl (zA fY))), (rL, .inl (cI, 20, .inl (zA fL)))] sz) := by
  refine zMi (cc := cX7_again) (maxL := 3) (ret := (some .int)) (by decide) rfl (Nat.le_of_ble_eq_true rfl) ?_
  intro p e s m below meth c A ls hE
  obtain ⟨hx, hb, hr, hts, hown, hlocks, hml, hnm, hP, hK, hD, hA, hS, hl⟩ := hE
  have hown : s.vm.findClass RX7 = some m.cls := hown
  have hl : lv_has ls 3 [(0, .ref hm), (1, .int (iI a)), (2, .int (iI e1))] := hl
  have hin7 : ∀ w ∈ wsX70, w ∈ wsX7_again := by decide +kernel
  obtain ⟨Q, hQ⟩ : ∃ Q, Q = MQ below (zQi D (TY cI cJ cT) A (fun (z : Int) (u : Int × (Int → Int) × (Int → Int) × (Int → Int) × (Int → Int) × (Int → Int) × (Int → Int) × (Int → Int) × (Int → Int)) => (¬ (0 ≤ a ∧ a < 4) → u.1 = 1 ∧ u.2.1 = fS ∧ u.2.2.1 = fM ∧ u.2.2.2.1 = fB ∧ u.2.2.2.2.1 = fT ∧ u.2.2.2.2.2.1 = fX ∧ u.2.2.2.2.2.2.1 = fY ∧ u.2.2.2.2.2.2.2.1 = fL) ∧ ((0 ≤ a ∧ a < 4) → fS a ≠ 2 → u.1 = 2 ∧ u.2.1 = fS ∧ u.2.2.1 = fM ∧ u.2.2.2.1 = fB ∧ u.2.2.2.2.1 = fT ∧ u.2.2.2.2.2.1 = fX ∧ u.2.2.2.2.2.2.1 = fY ∧ u.2.2.2.2.2.2.2.1 = fL) ∧ ((0 ≤ a ∧ a < 4) → fS a = 2 → ¬ (0 ≤ e1 ∧ e1 ≤ 65535 - fB a) → u.1 = 3 ∧ u.2.1 = fS ∧ u.2.2.1 = fM ∧ u.2.2.2.1 = fB ∧ u.2.2.2.2.1 = fT ∧ u.2.2.2.2.2.1 = fX ∧ u.2.2.2.2.2.2.1 = fY ∧ u.2.2.2.2.2.2.2.1 = fL) ∧ ((0 ≤ a ∧ a < 4) → fS a = 2 → (0 ≤ e1 ∧ e1 ≤ 65535 - fB a) → u.1 = 0 ∧ mthP (fM a) (20 * a) e1 fT fX fY (u.2.2.2.2.2.2.2.1) z (u.2.2.2.2.2.2.2.2) (u.2.2.2.2.1) (u.2.2.2.2.2.1) (u.2.2.2.2.2.2.1) ∧ u.2.2.1 = uZ fM a z ∧ u.2.1 = fS ∧ u.2.2.2.1 = uZ fB a (fB a + e1))) (fun (u : Int × (Int → Int) × (Int → Int) × (Int → Int) × (Int → Int) × (Int → Int) × (Int → Int) × (Int → Int) × (Int → Int)) => [(hm, .inr (7, [.int (iI u.1), .ref rS, .ref rM, .ref rB, .ref rT, .ref rX, .ref rY, .ref rL, .int (iI sz1), .ref rR, .int (iI at1), .long (lI nu), .ref rt, .ref rx, .ref ry, .int (iI fo), .ref rF, .ref rG, .ref rU, .ref rV, .long (lI lo), .long (lI lB), .long (lI hi), .long (lI hB1)])), (rS, .inl (cI, 4, .inl (zA u.2.1))), (rM, .inl (cI, 4, .inl (zA u.2.2.1))), (rB, .inl (cI, 4, .inl (zA u.2.2.2.1))), (rT, .inl (cI, 80, .inl (zA u.2.2.2.2.1))), (rX, .inl (cI, 80, .inl (zA u.2.2.2.2.2.1))), (rY, .inl (cI, 80, .inl (zA u.2.2.2.2.2.2.1))), (rL, .inl (cI, 20, .inl (zA u.2.2.2.2.2.2.2.1)))])) ([.ref hm, .int (iI a), .int (iI e1)] : List Value).toArray s 0 0 A := ⟨_, rfl⟩
  rw [← hQ]
  refine lv_aload_n hx hb dX7_again_0 rfl (lv_at hl 0 rfl) ?_
  refine lv_iload_n hx hb dX7_again_1 rfl (lv_at hl 1 rfl) ?_
  refine wz_calli (wr := [(hm, .inr (7, [.int (iI th), .ref rS, .ref rM, .ref rB, .ref rT, .ref rX, .ref rY, .ref rL, .int (iI sz1), .ref rR, .int (iI at1), .long (lI nu), .ref rt, .ref rx, .ref ry, .int (iI fo), .ref rF, .ref rG, .ref rU, .ref rV, .long (lI lo), .long (lI lB), .long (lI hi), .long (lI hB1)])), (rS, .inl (cI, 4, .inl (zA fS))), (rM, .inl (cI, 4, .inl (zA fM))), (rB, .inl (cI, 4, .inl (zA fB))), (rT, .inl (cI, 80, .inl (zA fT))), (rX, .inl (cI, 80, .inl (zA fX))), (rY, .inl (cI, 80, .inl (zA fY))), (rL, .inl (cI, 20, .inl (zA fL)))]) (va_runS (As := [.int (iI a)]) (rest := [.ref hm]) ⟨hx, hb, hml, hown, hts⟩ (k_X7_isTrack l D cI cJ cT s.heap.size a (ha)) (va_cwS 1 hts gX7_again_X7_isTrack rfl rfl rfl (by decide +kernel) ⟨Nat.le_of_ble_eq_true rfl, Nat.le_of_ble_eq_true rfl⟩) (wz_preS hK hP hD [] (by decide) rfl rfl) rfl rfl hl.1 rfl (lv_room (Nat.le_of_ble_eq_true rfl)) dX7_again_2 ⟨Nat.le_of_ble_eq_true rfl, Nat.le_of_ble_eq_true rfl⟩) hP hD hS hA [] [0, 1, 2, 3, 4, 5, 6, 7] rfl rfl rfl (by decide) (fun z2 u H locs hw2 hP hD hS => ?_)
  have hP : va_P D vwCl [(hm, .inr (7, [.int (iI th), .ref rS, .ref rM, .ref rB, .ref rT, .ref rX, .ref rY, .ref rL, .int (iI sz1), .ref rR, .int (iI at1), .long (lI nu), .ref rt, .ref rx, .ref ry, .int (iI fo), .ref rF, .ref rG, .ref rU, .ref rV, .long (lI lo), .long (lI lB), .long (lI hi), .long (lI hB1)])), (rS, .inl (cI, 4, .inl (zA fS))), (rM, .inl (cI, 4, .inl (zA fM))), (rB, .inl (cI, 4, .inl (zA fB))), (rT, .inl (cI, 80, .inl (zA fT))), (rX, .inl (cI, 80, .inl (zA fX))), (rY, .inl (cI, 80, .inl (zA fY))), (rL, .inl (cI, 20, .inl (zA fL)))] H := hP.sub [0, 1, 2, 3, 4, 5, 6, 7] rfl
  have hD : va_D A [(hm, .inr (7, [.int (iI th), .ref rS, .ref rM, .ref rB, .ref rT, .ref rX, .ref rY, .ref rL, .int (iI sz1), .ref rR, .int (iI at1), .long (lI nu), .ref rt, .ref rx, .ref ry, .int (iI fo), .ref rF, .ref rG, .ref rU, .ref rV, .long (lI lo), .long (lI lB), .long (lI hi), .long (lI hB1)])), (rS, .inl (cI, 4, .inl (zA fS))), (rM, .inl (cI, 4, .inl (zA fM))), (rB, .inl (cI, 4, .inl (zA fB))), (rT, .inl (cI, 80, .inl (zA fT))), (rX, .inl (cI, 80, .inl (zA fX))), (rY, .inl (cI, 80, .inl (zA fY))), (rL, .inl (cI, 20, .inl (zA fL)))] := hD.sub [0, 1, 2, 3, 4, 5, 6, 7] (by decide) rfl
  subst hw2
  refine wz_ifb_ne (tgt := 12) hx hb dX7_again_5 (by decide) (fun c5 => ?_) (fun c5 => ?_)
  · skip
    refine lv_aload_n hx hb dX7_again_12 rfl (lv_at hl 0 rfl) ?_
    refine lv_iload_n hx hb dX7_again_13 rfl (lv_at hl 1 rfl) ?_
    refine lv_iconst (v := iI 2) hx hb dX7_again_14 rfl ?_
    refine wz_calli (wr := [(rM, .inl (cI, 4, .inl (zA fM))), (rB, .inl (cI, 4, .inl (zA fB))), (rT, .inl (cI, 80, .inl (zA fT))), (rX, .inl (cI, 80, .inl (zA fX))), (rY, .inl (cI, 80, .inl (zA fY))), (rL, .inl (cI, 20, .inl (zA fL)))]) (va_runV (As := [.int (iI a), .int (iI 2)]) (rest := [.ref hm]) ⟨hx, hb, hml, hown, hts⟩ (k_X7_is l D cI cJ cT H.size hm th rS rM rB rT rX rY rL sz1 rR at1 nu rt rx ry fo rF rG rU rV lo lB hi hB1 fS a 2 (c5) (by decide) (hS1)) (cwV 2 hts gX7_again_X7_is rfl rfl rfl (by decide +kernel) ⟨Nat.le_of_ble_eq_true rfl, Nat.le_of_ble_eq_true rfl⟩) (wz_preV hK hP hD [0, 1] (by decide) rfl rfl 7 0 rfl rfl) rfl rfl hl.1 rfl (lv_room (Nat.le_of_ble_eq_true rfl)) dX7_again_15 ⟨Nat.le_of_ble_eq_true rfl, Nat.le_of_ble_eq_true rfl⟩) hP hD hS hA [0, 1] [2, 3, 4, 5, 6, 7] rfl rfl rfl (by decide) (fun z15 u H locs hw15 hP hD hS => ?_)
    have hP : va_P D vwCl [(hm, .inr (7, [.int (iI th), .ref rS, .ref rM, .ref rB, .ref rT, .ref rX, .ref rY, .ref rL, .int (iI sz1), .ref rR, .int (iI at1), .long (lI nu), .ref rt, .ref rx, .ref ry, .int (iI fo), .ref rF, .ref rG, .ref rU, .ref rV, .long (lI lo), .long (lI lB), .long (lI hi), .long (lI hB1)])), (rS, .inl (cI, 4, .inl (zA fS))), (rM, .inl (cI, 4, .inl (zA fM))), (rB, .inl (cI, 4, .inl (zA fB))), (rT, .inl (cI, 80, .inl (zA fT))), (rX, .inl (cI, 80, .inl (zA fX))), (rY, .inl (cI, 80, .inl (zA fY))), (rL, .inl (cI, 20, .inl (zA fL)))] H := hP.sub [6, 7, 0, 1, 2, 3, 4, 5] rfl
    have hD : va_D A [(hm, .inr (7, [.int (iI th), .ref rS, .ref rM, .ref rB, .ref rT, .ref rX, .ref rY, .ref rL, .int (iI sz1), .ref rR, .int (iI at1), .long (lI nu), .ref rt, .ref rx, .ref ry, .int (iI fo), .ref rF, .ref rG, .ref rU, .ref rV, .long (lI lo), .long (lI lB), .long (lI hi), .long (lI hB1)])), (rS, .inl (cI, 4, .inl (zA fS))), (rM, .inl (cI, 4, .inl (zA fM))), (rB, .inl (cI, 4, .inl (zA fB))), (rT, .inl (cI, 80, .inl (zA fT))), (rX, .inl (cI, 80, .inl (zA fX))), (rY, .inl (cI, 80, .inl (zA fY))), (rL, .inl (cI, 20, .inl (zA fL)))] := hD.sub [6, 7, 0, 1, 2, 3, 4, 5] (by decide) rfl
    subst hw15
    refine wz_ifb_ne (tgt := 25) hx hb dX7_again_18 (by decide) (fun c18 => ?_) (fun c18 => ?_)
    · skip
      refine lv_iconst (v := iI 0) hx hb dX7_again_25 rfl ?_
      refine va_put (D := D) (ci := 7) (v := .int (iI 0)) (ty := .int) (C := RX7) (T := TX7) (N := 24) hx hb hts hin7 tyX7 tyX7_ok nmX7 hown hK hP hD hS 0 rfl rfl 0 (by decide) (hts (.fieldLink RX7 56 "DriftLogModel" "thrown" "I") (by decide +kernel)) (fun _ h9 => h9) rfl (by decide +kernel) rfl rfl (Nat.le_of_ble_eq_true rfl) dX7_again_26 (fun H locs hP hD hS => ?_)
      have hP : va_P D vwCl [(hm, .inr (7, [.int (iI 0), .ref rS, .ref rM, .ref rB, .ref rT, .ref rX, .ref rY, .ref rL, .int (iI sz1), .ref rR, .int (iI at1), .long (lI nu), .ref rt, .ref rx, .ref ry, .int (iI fo), .ref rF, .ref rG, .ref rU, .ref rV, .long (lI lo), .long (lI lB), .long (lI hi), .long (lI hB1)])), (rS, .inl (cI, 4, .inl (zA fS))), (rM, .inl (cI, 4, .inl (zA fM))), (rB, .inl (cI, 4, .inl (zA fB))), (rT, .inl (cI, 80, .inl (zA fT))), (rX, .inl (cI, 80, .inl (zA fX))), (rY, .inl (cI, 80, .inl (zA fY))), (rL, .inl (cI, 20, .inl (zA fL)))] H := hP
      have hD : va_D A [(hm, .inr (7, [.int (iI 0), .ref rS, .ref rM, .ref rB, .ref rT, .ref rX, .ref rY, .ref rL, .int (iI sz1), .ref rR, .int (iI at1), .long (lI nu), .ref rt, .ref rx, .ref ry, .int (iI fo), .ref rF, .ref rG, .ref rU, .ref rV, .long (lI lo), .long (lI lB), .long (lI hi), .long (lI hB1)])), (rS, .inl (cI, 4, .inl (zA fS))), (rM, .inl (cI, 4, .inl (zA fM))), (rB, .inl (cI, 4, .inl (zA fB))), (rT, .inl (cI, 80, .inl (zA fT))), (rX, .inl (cI, 80, .inl (zA fX))), (rY, .inl (cI, 80, .inl (zA fY))), (rL, .inl (cI, 20, .inl (zA fL)))] := hD
      refine lv_aload_n hx hb dX7_again_29 rfl (lv_at hl 0 rfl) ?_
      refine va_get (D := D) (ci := 7) (v := .int (iI 0)) (C := RX7) (T := TX7) (N := 24) hx hb hts hin7 hown hK hP 0 rfl rfl 0 (by decide) (hts (.fieldLink RX7 56 "DriftLogModel" "thrown" "I") (by decide +kernel)) (fun _ h9 => h9) rfl dX7_again_30 ?_
      refine wz_if_le (tgt := 38) hx hb dX7_again_33 (by decide) (by decide) (fun c33 => ?_) (fun c33 => ?_)
      · skip
        have rBa := hB2 a
        refine lv_aload_n hx hb dX7_again_38 rfl (lv_at hl 0 rfl) ?_
        refine lv_iload_n hx hb dX7_again_39 rfl (lv_at hl 2 rfl) ?_
        refine wz_if_lt (tgt := 56) hx hb dX7_again_40 (by decide) ⟨by omega, by omega⟩ (fun c40 => ?_) (fun c40 => ?_)
        · skip
          refine lv_iconst (v := iI 3) hx hb dX7_again_56 rfl ?_
          refine lv_goto (tgt := 61) hx hb dX7_again_57 (by decide) ?_
          refine va_put (D := D) (ci := 7) (v := .int (iI 3)) (ty := .int) (C := RX7) (T := TX7) (N := 24) hx hb hts hin7 tyX7 tyX7_ok nmX7 hown hK hP hD hS 0 rfl rfl 0 (by decide) (hts (.fieldLink RX7 56 "DriftLogModel" "thrown" "I") (by decide +kernel)) (fun _ h9 => h9) rfl (by decide +kernel) rfl rfl (Nat.le_of_ble_eq_true rfl) dX7_again_61 (fun H locs hP hD hS => ?_)
          have hP : va_P D vwCl [(hm, .inr (7, [.int (iI 3), .ref rS, .ref rM, .ref rB, .ref rT, .ref rX, .ref rY, .ref rL, .int (iI sz1), .ref rR, .int (iI at1), .long (lI nu), .ref rt, .ref rx, .ref ry, .int (iI fo), .ref rF, .ref rG, .ref rU, .ref rV, .long (lI lo), .long (lI lB), .long (lI hi), .long (lI hB1)])), (rS, .inl (cI, 4, .inl (zA fS))), (rM, .inl (cI, 4, .inl (zA fM))), (rB, .inl (cI, 4, .inl (zA fB))), (rT, .inl (cI, 80, .inl (zA fT))), (rX, .inl (cI, 80, .inl (zA fX))), (rY, .inl (cI, 80, .inl (zA fY))), (rL, .inl (cI, 20, .inl (zA fL)))] H := hP
          have hD : va_D A [(hm, .inr (7, [.int (iI 3), .ref rS, .ref rM, .ref rB, .ref rT, .ref rX, .ref rY, .ref rL, .int (iI sz1), .ref rR, .int (iI at1), .long (lI nu), .ref rt, .ref rx, .ref ry, .int (iI fo), .ref rF, .ref rG, .ref rU, .ref rV, .long (lI lo), .long (lI lB), .long (lI hi), .long (lI hB1)])), (rS, .inl (cI, 4, .inl (zA fS))), (rM, .inl (cI, 4, .inl (zA fM))), (rB, .inl (cI, 4, .inl (zA fB))), (rT, .inl (cI, 80, .inl (zA fT))), (rX, .inl (cI, 80, .inl (zA fX))), (rY, .inl (cI, 80, .inl (zA fY))), (rL, .inl (cI, 20, .inl (zA fL)))] := hD
          refine lv_aload_n hx hb dX7_again_64 rfl (lv_at hl 0 rfl) ?_
          refine va_get (D := D) (ci := 7) (v := .int (iI 3)) (C := RX7) (T := TX7) (N := 24) hx hb hts hin7 hown hK hP 0 rfl rfl 0 (by decide) (hts (.fieldLink RX7 56 "DriftLogModel" "thrown" "I") (by decide +kernel)) (fun _ h9 => h9) rfl dX7_again_65 ?_
          refine wz_if_le (tgt := 73) hx hb dX7_again_68 (by decide) (by decide) (fun c68 => ?_) (fun c68 => ?_)
          · skip
            exact absurd c68 (by decide)
          · skip
            refine lv_iconst (v := iI 0) hx hb dX7_again_71 rfl ?_
            rw [hQ]
            exact wz_reti (tys := TY cI cJ cT) (3, fS, fM, fB, fT, fX, fY, fL, fL) hx hb hr hlocks hK hP hD hS (by (try dsimp only); exact (⟨fun h => (by first | exact ⟨rfl, rfl, rfl, rfl, rfl, rfl, rfl, rfl⟩ | (exfalso; omega)), fun h h2 => (by first | exact ⟨rfl, rfl, rfl, rfl, rfl, rfl, rfl, rfl⟩ | (exfalso; omega)), fun h h2 h3 => (by first | exact ⟨rfl, rfl, rfl, rfl, rfl, rfl, rfl, rfl⟩ | (exfalso; omega)), fun h h2 h3 => (by exfalso; omega)⟩)) dX7_again_72
        · skip
          refine lv_iload_n hx hb dX7_again_43 rfl (lv_at hl 2 rfl) ?_
          refine lv_ldc (v := 65535) hx hb hown (hts (.constant RX7 85 (65535)) (by decide +kernel)) dX7_again_44 ?_
          refine wz_topi (show (65535 : Int32) = iI 65535 by decide) ?_
          refine lv_aload_n hx hb dX7_again_46 rfl (lv_at hl 0 rfl) ?_
          refine va_get (D := D) (ci := 7) (v := .ref rB) (C := RX7) (T := TX7) (N := 24) hx hb hts hin7 hown hK hP 0 rfl rfl 3 (by decide) (hts (.fieldLink RX7 16 "DriftLogModel" "bound" "[I") (by decide +kernel)) (fun _ h9 => h9) rfl dX7_again_47 ?_
          refine lv_iload_n hx hb dX7_again_50 rfl (lv_at hl 1 rfl) ?_
          refine wz_iald (tys := TY cI cJ cT) hx hb hK hP 3 0 rfl rfl (by decide) (by constructor <;> omega) dX7_again_51 ?_
          refine wz_isub hx hb dX7_again_52 ?_
          refine wz_icmp_le (tgt := 60) hx hb dX7_again_53 (by decide) ⟨by omega, by omega⟩ (by have := hB2 a; constructor <;> omega) (fun c53 => ?_) (fun c53 => ?_)
          · skip
            refine lv_iconst (v := iI 0) hx hb dX7_again_60 rfl ?_
            refine va_put (D := D) (ci := 7) (v := .int (iI 0)) (ty := .int) (C := RX7) (T := TX7) (N := 24) hx hb hts hin7 tyX7 tyX7_ok nmX7 hown hK hP hD hS 0 rfl rfl 0 (by decide) (hts (.fieldLink RX7 56 "DriftLogModel" "thrown" "I") (by decide +kernel)) (fun _ h9 => h9) rfl (by decide +kernel) rfl rfl (Nat.le_of_ble_eq_true rfl) dX7_again_61 (fun H locs hP hD hS => ?_)
            have hP : va_P D vwCl [(hm, .inr (7, [.int (iI 0), .ref rS, .ref rM, .ref rB, .ref rT, .ref rX, .ref rY, .ref rL, .int (iI sz1), .ref rR, .int (iI at1), .long (lI nu), .ref rt, .ref rx, .ref ry, .int (iI fo), .ref rF, .ref rG, .ref rU, .ref rV, .long (lI lo), .long (lI lB), .long (lI hi), .long (lI hB1)])), (rS, .inl (cI, 4, .inl (zA fS))), (rM, .inl (cI, 4, .inl (zA fM))), (rB, .inl (cI, 4, .inl (zA fB))), (rT, .inl (cI, 80, .inl (zA fT))), (rX, .inl (cI, 80, .inl (zA fX))), (rY, .inl (cI, 80, .inl (zA fY))), (rL, .inl (cI, 20, .inl (zA fL)))] H := hP
            have hD : va_D A [(hm, .inr (7, [.int (iI 0), .ref rS, .ref rM, .ref rB, .ref rT, .ref rX, .ref rY, .ref rL, .int (iI sz1), .ref rR, .int (iI at1), .long (lI nu), .ref rt, .ref rx, .ref ry, .int (iI fo), .ref rF, .ref rG, .ref rU, .ref rV, .long (lI lo), .long (lI lB), .long (lI hi), .long (lI hB1)])), (rS, .inl (cI, 4, .inl (zA fS))), (rM, .inl (cI, 4, .inl (zA fM))), (rB, .inl (cI, 4, .inl (zA fB))), (rT, .inl (cI, 80, .inl (zA fT))), (rX, .inl (cI, 80, .inl (zA fX))), (rY, .inl (cI, 80, .inl (zA fY))), (rL, .inl (cI, 20, .inl (zA fL)))] := hD
            refine lv_aload_n hx hb dX7_again_64 rfl (lv_at hl 0 rfl) ?_
            refine va_get (D := D) (ci := 7) (v := .int (iI 0)) (C := RX7) (T := TX7) (N := 24) hx hb hts hin7 hown hK hP 0 rfl rfl 0 (by decide) (hts (.fieldLink RX7 56 "DriftLogModel" "thrown" "I") (by decide +kernel)) (fun _ h9 => h9) rfl dX7_again_65 ?_
            refine wz_if_le (tgt := 73) hx hb dX7_again_68 (by decide) (by decide) (fun c68 => ?_) (fun c68 => ?_)
            · skip
              refine lv_aload_n hx hb dX7_again_73 rfl (lv_at hl 0 rfl) ?_
              refine lv_iload_n hx hb dX7_again_74 rfl (lv_at hl 1 rfl) ?_
              refine lv_iload_n hx hb dX7_again_75 rfl (lv_at hl 2 rfl) ?_
              refine wz_callv (wr := [(rS, .inl (cI, 4, .inl (zA fS))), (rB, .inl (cI, 4, .inl (zA fB)))]) (va_runV (As := [.int (iI a), .int (iI e1)]) (rest := []) ⟨hx, hb, hml, hown, hts⟩ (k_X7_thin l D cI cJ cT H.size hm 0 rS rM rB rT rX rY rL sz1 rR at1 nu rt rx ry fo rF rG rU rV lo lB hi hB1 fM fT fX fY fL a e1 (c5) (⟨hM2 a c18, (hM1 a).2⟩) (ht) (hx1) (hy1) (hea)) (cwV 2 hts gX7_again_X7_thin rfl rfl rfl (by decide +kernel) ⟨Nat.le_of_ble_eq_true rfl, Nat.le_of_ble_eq_true rfl⟩) (wz_preV hK hP hD [0, 2, 4, 5, 6, 7] (by decide) rfl rfl 7 0 rfl rfl) rfl rfl hl.1 rfl (lv_room (Nat.le_of_ble_eq_true rfl)) dX7_again_76 ⟨Nat.le_of_ble_eq_true rfl, Nat.le_of_ble_eq_true rfl⟩) hP hD hS hA [0, 2, 4, 5, 6, 7] [1, 3] rfl rfl rfl (by decide) (fun  u H locs hw76 hP hD hS => ?_)
              obtain ⟨gL, K, kp, gT, gX, gY⟩ := u
              try dsimp only at hw76
              have hP : va_P D vwCl [(hm, .inr (7, [.int (iI 0), .ref rS, .ref rM, .ref rB, .ref rT, .ref rX, .ref rY, .ref rL, .int (iI sz1), .ref rR, .int (iI at1), .long (lI nu), .ref rt, .ref rx, .ref ry, .int (iI fo), .ref rF, .ref rG, .ref rU, .ref rV, .long (lI lo), .long (lI lB), .long (lI hi), .long (lI hB1)])), (rS, .inl (cI, 4, .inl (zA fS))), (rM, .inl (cI, 4, .inl (zA (uZ fM a K)))), (rB, .inl (cI, 4, .inl (zA fB))), (rT, .inl (cI, 80, .inl (zA gT))), (rX, .inl (cI, 80, .inl (zA gX))), (rY, .inl (cI, 80, .inl (zA gY))), (rL, .inl (cI, 20, .inl (zA gL)))] H := hP.sub [2, 0, 3, 1, 4, 5, 6, 7] rfl
              have hD : va_D A [(hm, .inr (7, [.int (iI 0), .ref rS, .ref rM, .ref rB, .ref rT, .ref rX, .ref rY, .ref rL, .int (iI sz1), .ref rR, .int (iI at1), .long (lI nu), .ref rt, .ref rx, .ref ry, .int (iI fo), .ref rF, .ref rG, .ref rU, .ref rV, .long (lI lo), .long (lI lB), .long (lI hi), .long (lI hB1)])), (rS, .inl (cI, 4, .inl (zA fS))), (rM, .inl (cI, 4, .inl (zA (uZ fM a K)))), (rB, .inl (cI, 4, .inl (zA fB))), (rT, .inl (cI, 80, .inl (zA gT))), (rX, .inl (cI, 80, .inl (zA gX))), (rY, .inl (cI, 80, .inl (zA gY))), (rL, .inl (cI, 20, .inl (zA gL)))] := hD.sub [2, 0, 3, 1, 4, 5, 6, 7] (by decide) rfl
              have mt : mthP (fM a) (20 * a) e1 fT fX fY gL K kp gT gX gY := hw76
              refine lv_aload_n hx hb dX7_again_79 rfl (lv_at hl 0 rfl) ?_
              refine va_get (D := D) (ci := 7) (v := .ref rB) (C := RX7) (T := TX7) (N := 24) hx hb hts hin7 hown hK hP 0 rfl rfl 3 (by decide) (hts (.fieldLink RX7 16 "DriftLogModel" "bound" "[I") (by decide +kernel)) (fun _ h9 => h9) rfl dX7_again_80 ?_
              refine lv_iload_n hx hb dX7_again_83 rfl (lv_at hl 1 rfl) ?_
              refine lv_dup2_11 hx hb dX7_again_84 rfl rfl ?_
              refine wz_iald (tys := TY cI cJ cT) hx hb hK hP 3 0 rfl rfl (by decide) (by constructor <;> omega) dX7_again_85 ?_
              refine lv_iload_n hx hb dX7_again_86 rfl (lv_at hl 2 rfl) ?_
              refine wz_iadd hx hb dX7_again_87 ?_
              refine wz_iast (tys := TY cI cJ cT) hx hb hK hP hD hS 3 0 rfl rfl (by decide) (by constructor <;> omega) dX7_again_88 (fun H locs hP hD hS => ?_)
              have hP : va_P D vwCl [(hm, .inr (7, [.int (iI 0), .ref rS, .ref rM, .ref rB, .ref rT, .ref rX, .ref rY, .ref rL, .int (iI sz1), .ref rR, .int (iI at1), .long (lI nu), .ref rt, .ref rx, .ref ry, .int (iI fo), .ref rF, .ref rG, .ref rU, .ref rV, .long (lI lo), .long (lI lB), .long (lI hi), .long (lI hB1)])), (rS, .inl (cI, 4, .inl (zA fS))), (rM, .inl (cI, 4, .inl (zA (uZ fM a K)))), (rB, .inl (cI, 4, .inl (zA (uZ fB a ((fB a) + e1))))), (rT, .inl (cI, 80, .inl (zA gT))), (rX, .inl (cI, 80, .inl (zA gX))), (rY, .inl (cI, 80, .inl (zA gY))), (rL, .inl (cI, 20, .inl (zA gL)))] H := hP
              have hD : va_D A [(hm, .inr (7, [.int (iI 0), .ref rS, .ref rM, .ref rB, .ref rT, .ref rX, .ref rY, .ref rL, .int (iI sz1), .ref rR, .int (iI at1), .long (lI nu), .ref rt, .ref rx, .ref ry, .int (iI fo), .ref rF, .ref rG, .ref rU, .ref rV, .long (lI lo), .long (lI lB), .long (lI hi), .long (lI hB1)])), (rS, .inl (cI, 4, .inl (zA fS))), (rM, .inl (cI, 4, .inl (zA (uZ fM a K)))), (rB, .inl (cI, 4, .inl (zA (uZ fB a ((fB a) + e1))))), (rT, .inl (cI, 80, .inl (zA gT))), (rX, .inl (cI, 80, .inl (zA gX))), (rY, .inl (cI, 80, .inl (zA gY))), (rL, .inl (cI, 20, .inl (zA gL)))] := hD
              refine lv_aload_n hx hb dX7_again_89 rfl (lv_at hl 0 rfl) ?_
              refine va_get (D := D) (ci := 7) (v := .ref rM) (C := RX7) (T := TX7) (N := 24) hx hb hts hin7 hown hK hP 0 rfl rfl 2 (by decide) (hts (.fieldLink RX7 13 "DriftLogModel" "many" "[I") (by decide +kernel)) (fun _ h9 => h9) rfl dX7_again_90 ?_
              refine lv_iload_n hx hb dX7_again_93 rfl (lv_at hl 1 rfl) ?_
              refine wz_iald (tys := TY cI cJ cT) hx hb hK hP 2 0 rfl rfl (by decide) (by constructor <;> omega) dX7_again_94 ?_
              rw [hQ]
              exact wz_reti (tys := TY cI cJ cT) (0, fS, (uZ fM a K), (uZ fB a ((fB a) + e1)), gT, gX, gY, gL, kp) hx hb hr hlocks hK hP hD hS (by (try dsimp only); exact (by rw [uZ_s]; exact ⟨fun h => (by exfalso; omega), fun h h2 => (by exfalso; omega), fun h h2 h3 => (by exfalso; omega), fun h h2 h3 => ⟨rfl, mt, rfl, rfl, rfl⟩⟩)) dX7_again_95
            · skip
              exact absurd c68 (by decide)
          · skip
            refine lv_iconst (v := iI 3) hx hb dX7_again_56 rfl ?_
            refine lv_goto (tgt := 61) hx hb dX7_again_57 (by decide) ?_
            refine va_put (D := D) (ci := 7) (v := .int (iI 3)) (ty := .int) (C := RX7) (T := TX7) (N := 24) hx hb hts hin7 tyX7 tyX7_ok nmX7 hown hK hP hD hS 0 rfl rfl 0 (by decide) (hts (.fieldLink RX7 56 "DriftLogModel" "thrown" "I") (by decide +kernel)) (fun _ h9 => h9) rfl (by decide +kernel) rfl rfl (Nat.le_of_ble_eq_true rfl) dX7_again_61 (fun H locs hP hD hS => ?_)
            have hP : va_P D vwCl [(hm, .inr (7, [.int (iI 3), .ref rS, .ref rM, .ref rB, .ref rT, .ref rX, .ref rY, .ref rL, .int (iI sz1), .ref rR, .int (iI at1), .long (lI nu), .ref rt, .ref rx, .ref ry, .int (iI fo), .ref rF, .ref rG, .ref rU, .ref rV, .long (lI lo), .long (lI lB), .long (lI hi), .long (lI hB1)])), (rS, .inl (cI, 4, .inl (zA fS))), (rM, .inl (cI, 4, .inl (zA fM))), (rB, .inl (cI, 4, .inl (zA fB))), (rT, .inl (cI, 80, .inl (zA fT))), (rX, .inl (cI, 80, .inl (zA fX))), (rY, .inl (cI, 80, .inl (zA fY))), (rL, .inl (cI, 20, .inl (zA fL)))] H := hP
            have hD : va_D A [(hm, .inr (7, [.int (iI 3), .ref rS, .ref rM, .ref rB, .ref rT, .ref rX, .ref rY, .ref rL, .int (iI sz1), .ref rR, .int (iI at1), .long (lI nu), .ref rt, .ref rx, .ref ry, .int (iI fo), .ref rF, .ref rG, .ref rU, .ref rV, .long (lI lo), .long (lI lB), .long (lI hi), .long (lI hB1)])), (rS, .inl (cI, 4, .inl (zA fS))), (rM, .inl (cI, 4, .inl (zA fM))), (rB, .inl (cI, 4, .inl (zA fB))), (rT, .inl (cI, 80, .inl (zA fT))), (rX, .inl (cI, 80, .inl (zA fX))), (rY, .inl (cI, 80, .inl (zA fY))), (rL, .inl (cI, 20, .inl (zA fL)))] := hD
            refine lv_aload_n hx hb dX7_again_64 rfl (lv_at hl 0 rfl) ?_
            refine va_get (D := D) (ci := 7) (v := .int (iI 3)) (C := RX7) (T := TX7) (N := 24) hx hb hts hin7 hown hK hP 0 rfl rfl 0 (by decide) (hts (.fieldLink RX7 56 "DriftLogModel" "thrown" "I") (by decide +kernel)) (fun _ h9 => h9) rfl dX7_again_65 ?_
            refine wz_if_le (tgt := 73) hx hb dX7_again_68 (by decide) (by decide) (fun c68 => ?_) (fun c68 => ?_)
            · skip
              exact absurd c68 (by decide)
            · skip
              refine lv_iconst (v := iI 0) hx hb dX7_again_71 rfl ?_
              rw [hQ]
              exact wz_reti (tys := TY cI cJ cT) (3, fS, fM, fB, fT, fX, fY, fL, fL) hx hb hr hlocks hK hP hD hS (by (try dsimp only); exact (⟨fun h => (by first | exact ⟨rfl, rfl, rfl, rfl, rfl, rfl, rfl, rfl⟩ | (exfalso; omega)), fun h h2 => (by first | exact ⟨rfl, rfl, rfl, rfl, rfl, rfl, rfl, rfl⟩ | (exfalso; omega)), fun h h2 h3 => (by first | exact ⟨rfl, rfl, rfl, rfl, rfl, rfl, rfl, rfl⟩ | (exfalso; omega)), fun h h2 h3 => (by exfalso; omega)⟩)) dX7_again_72
      · skip
        exact absurd c33 (by decide)
    · skip
      refine lv_iconst (v := iI 2) hx hb dX7_again_21 rfl ?_
      refine lv_goto (tgt := 26) hx hb dX7_again_22 (by decide) ?_
      refine va_put (D := D) (ci := 7) (v := .int (iI 2)) (ty := .int) (C := RX7) (T := TX7) (N := 24) hx hb hts hin7 tyX7 tyX7_ok nmX7 hown hK hP hD hS 0 rfl rfl 0 (by decide) (hts (.fieldLink RX7 56 "DriftLogModel" "thrown" "I") (by decide +kernel)) (fun _ h9 => h9) rfl (by decide +kernel) rfl rfl (Nat.le_of_ble_eq_true rfl) dX7_again_26 (fun H locs hP hD hS => ?_)
      have hP : va_P D vwCl [(hm, .inr (7, [.int (iI 2), .ref rS, .ref rM, .ref rB, .ref rT, .ref rX, .ref rY, .ref rL, .int (iI sz1), .ref rR, .int (iI at1), .long (lI nu), .ref rt, .ref rx, .ref ry, .int (iI fo), .ref rF, .ref rG, .ref rU, .ref rV, .long (lI lo), .long (lI lB), .long (lI hi), .long (lI hB1)])), (rS, .inl (cI, 4, .inl (zA fS))), (rM, .inl (cI, 4, .inl (zA fM))), (rB, .inl (cI, 4, .inl (zA fB))), (rT, .inl (cI, 80, .inl (zA fT))), (rX, .inl (cI, 80, .inl (zA fX))), (rY, .inl (cI, 80, .inl (zA fY))), (rL, .inl (cI, 20, .inl (zA fL)))] H := hP
      have hD : va_D A [(hm, .inr (7, [.int (iI 2), .ref rS, .ref rM, .ref rB, .ref rT, .ref rX, .ref rY, .ref rL, .int (iI sz1), .ref rR, .int (iI at1), .long (lI nu), .ref rt, .ref rx, .ref ry, .int (iI fo), .ref rF, .ref rG, .ref rU, .ref rV, .long (lI lo), .long (lI lB), .long (lI hi), .long (lI hB1)])), (rS, .inl (cI, 4, .inl (zA fS))), (rM, .inl (cI, 4, .inl (zA fM))), (rB, .inl (cI, 4, .inl (zA fB))), (rT, .inl (cI, 80, .inl (zA fT))), (rX, .inl (cI, 80, .inl (zA fX))), (rY, .inl (cI, 80, .inl (zA fY))), (rL, .inl (cI, 20, .inl (zA fL)))] := hD
      refine lv_aload_n hx hb dX7_again_29 rfl (lv_at hl 0 rfl) ?_
      refine va_get (D := D) (ci := 7) (v := .int (iI 2)) (C := RX7) (T := TX7) (N := 24) hx hb hts hin7 hown hK hP 0 rfl rfl 0 (by decide) (hts (.fieldLink RX7 56 "DriftLogModel" "thrown" "I") (by decide +kernel)) (fun _ h9 => h9) rfl dX7_again_30 ?_
      refine wz_if_le (tgt := 38) hx hb dX7_again_33 (by decide) (by decide) (fun c33 => ?_) (fun c33 => ?_)
      · skip
        exact absurd c33 (by decide)
      · skip
        refine lv_iconst (v := iI 0) hx hb dX7_again_36 rfl ?_
        rw [hQ]
        exact wz_reti (tys := TY cI cJ cT) (2, fS, fM, fB, fT, fX, fY, fL, fL) hx hb hr hlocks hK hP hD hS (by (try dsimp only); exact (⟨fun h => (by first | exact ⟨rfl, rfl, rfl, rfl, rfl, rfl, rfl, rfl⟩ | (exfalso; omega)), fun h h2 => (by first | exact ⟨rfl, rfl, rfl, rfl, rfl, rfl, rfl, rfl⟩ | (exfalso; omega)), fun h h2 h3 => (by first | exact ⟨rfl, rfl, rfl, rfl, rfl, rfl, rfl, rfl⟩ | (exfalso; omega)), fun h h2 h3 => (by exfalso; omega)⟩)) dX7_again_37
  · skip
    refine lv_iconst (v := iI 1) hx hb dX7_again_8 rfl ?_
    refine lv_goto (tgt := 26) hx hb dX7_again_9 (by decide) ?_
    refine va_put (D := D) (ci := 7) (v := .int (iI 1)) (ty := .int) (C := RX7) (T := TX7) (N := 24) hx hb hts hin7 tyX7 tyX7_ok nmX7 hown hK hP hD hS 0 rfl rfl 0 (by decide) (hts (.fieldLink RX7 56 "DriftLogModel" "thrown" "I") (by decide +kernel)) (fun _ h9 => h9) rfl (by decide +kernel) rfl rfl (Nat.le_of_ble_eq_true rfl) dX7_again_26 (fun H locs hP hD hS => ?_)
    have hP : va_P D vwCl [(hm, .inr (7, [.int (iI 1), .ref rS, .ref rM, .ref rB, .ref rT, .ref rX, .ref rY, .ref rL, .int (iI sz1), .ref rR, .int (iI at1), .long (lI nu), .ref rt, .ref rx, .ref ry, .int (iI fo), .ref rF, .ref rG, .ref rU, .ref rV, .long (lI lo), .long (lI lB), .long (lI hi), .long (lI hB1)])), (rS, .inl (cI, 4, .inl (zA fS))), (rM, .inl (cI, 4, .inl (zA fM))), (rB, .inl (cI, 4, .inl (zA fB))), (rT, .inl (cI, 80, .inl (zA fT))), (rX, .inl (cI, 80, .inl (zA fX))), (rY, .inl (cI, 80, .inl (zA fY))), (rL, .inl (cI, 20, .inl (zA fL)))] H := hP
    have hD : va_D A [(hm, .inr (7, [.int (iI 1), .ref rS, .ref rM, .ref rB, .ref rT, .ref rX, .ref rY, .ref rL, .int (iI sz1), .ref rR, .int (iI at1), .long (lI nu), .ref rt, .ref rx, .ref ry, .int (iI fo), .ref rF, .ref rG, .ref rU, .ref rV, .long (lI lo), .long (lI lB), .long (lI hi), .long (lI hB1)])), (rS, .inl (cI, 4, .inl (zA fS))), (rM, .inl (cI, 4, .inl (zA fM))), (rB, .inl (cI, 4, .inl (zA fB))), (rT, .inl (cI, 80, .inl (zA fT))), (rX, .inl (cI, 80, .inl (zA fX))), (rY, .inl (cI, 80, .inl (zA fY))), (rL, .inl (cI, 20, .inl (zA fL)))] := hD
    refine lv_aload_n hx hb dX7_again_29 rfl (lv_at hl 0 rfl) ?_
    refine va_get (D := D) (ci := 7) (v := .int (iI 1)) (C := RX7) (T := TX7) (N := 24) hx hb hts hin7 hown hK hP 0 rfl rfl 0 (by decide) (hts (.fieldLink RX7 56 "DriftLogModel" "thrown" "I") (by decide +kernel)) (fun _ h9 => h9) rfl dX7_again_30 ?_
    refine wz_if_le (tgt := 38) hx hb dX7_again_33 (by decide) (by decide) (fun c33 => ?_) (fun c33 => ?_)
    · skip
      exact absurd c33 (by decide)
    · skip
      refine lv_iconst (v := iI 0) hx hb dX7_again_36 rfl ?_
      rw [hQ]
      exact wz_reti (tys := TY cI cJ cT) (1, fS, fM, fB, fT, fX, fY, fL, fL) hx hb hr hlocks hK hP hD hS (by (try dsimp only); exact (⟨fun h => (by first | exact ⟨rfl, rfl, rfl, rfl, rfl, rfl, rfl, rfl⟩ | (exfalso; omega)), fun h h2 => (by first | exact ⟨rfl, rfl, rfl, rfl, rfl, rfl, rfl, rfl⟩ | (exfalso; omega)), fun h h2 h3 => (by first | exact ⟨rfl, rfl, rfl, rfl, rfl, rfl, rfl, rfl⟩ | (exfalso; omega)), fun h h2 h3 => (by exfalso; omega)⟩)) dX7_again_37
set_option maxHeartbeats 4000000 in
set_option maxRecDepth 100000 in
theorem k_X7_drop (l : Launch) (D : va_G) (cI cJ cT : ClassId) (sz : Nat) (hm : Nat) (th : Int) (rS : Nat) (rM : Nat) (rB : Nat) (rT : Nat) (rX : Nat) (rY : Nat) (rL : Nat) (sz1 : Int) (rR : Nat) (at1 : Int) (nu : Int) (rt : Nat) (rx : Nat) (ry : Nat) (fo : Int) (rF : Nat) (rG : Nat) (rU : Nat) (rV : Nat) (lo : Int) (lB : Int) (hi : Int) (hB1 : Int) (fS : Int → Int) (fM : Int → Int) (a : Int) (hS1 : ∀ i, 0 ≤ fS i ∧ fS i ≤ 2) (ha : rI a) : Met l yX7_drop wsX7_drop { frames := 1, cells := 0, slots := 0, locals := 20 } (zPc D (TY cI cJ cT) [.ref hm, .int (iI a)] [(hm, .inr (7, [.int (iI th), .ref rS, .ref rM, .ref rB, .ref rT, .ref rX, .ref rY, .ref rL, .int (iI sz1), .ref rR, .int (iI at1), .long (lI nu), .ref rt, .ref rx, .ref ry, .int (iI fo), .ref rF, .ref rG, .ref rU, .ref rV, .long (lI lo), .long (lI lB), .long (lI hi), .long (lI hB1)])), (rS, .inl (cI, 4, .inl (zA fS))), (rM, .inl (cI, 4, .inl (zA fM)))] sz) (zQi D (TY cI cJ cT) (va_A [(hm, .inr (7, [.int (iI th), .ref rS, .ref rM, .ref rB, .ref rT, .ref rX, .ref rY, .ref rL, .int (iI sz1), .ref rR, .int (iI at1), .long (lI nu), .ref rt, .ref rx, .ref ry, .int (iI fo), .ref rF, .ref rG, .ref rU, .ref rV, .long (lI lo), .long (lI lB), .long (lI hi), .long (lI hB1)])), (rS, .inl (cI, 4, .inl (zA fS))), (rM, .inl (cI, 4, .inl (zA fM)))] sz) (fun (z : Int) (u : Int × (Int → Int) × (Int → Int)) => u.1 = 0 ∧ z = bz ((0 ≤ a ∧ a < 4) ∧ 0 < fS a) ∧ (¬ (0 ≤ a ∧ a < 4) → u.2.1 = fS ∧ u.2.2 = fM) ∧ ((0 ≤ a ∧ a < 4) → u.2.1 = uZ fS a 0 ∧ u.2.2 = uZ fM a 0)) (fun (u : Int × (Int → Int) × (Int → Int)) => [(hm, .inr (7, [.int (iI u.1), .ref rS, .ref rM, .ref rB, .ref rT, .ref rX, .ref rY, .ref rL, .int (iI sz1), .ref rR, .int (iI at1), .long (lI nu), .ref rt, .ref rx, .ref ry, .int (iI fo), .ref rF, .ref rG, .ref rU, .ref rV, .long (lI lo), .long (lI lB), .long (lI hi), .long (lI hB1)])), (rS, .inl (cI, 4, .inl (zA u.2.1))), (rM, .inl (cI, 4, .inl (zA u.2.2)))])) 0 0 (va_A [(hm, .inr (7, [.int (iI th), .ref rS, .ref rM, .ref rB, .ref rT, .ref rX, .ref rY, .ref rL, .int (iI sz1), .ref rR, .int (iI at1), .long (lI nu), .ref rt, .ref rx, .ref ry, .int (iI fo), .ref rF, .ref rG, .ref rU, .ref rV, .long (lI lo), .long (lI lB), .long (lI hi), .long (lI hB1)])), (rS, .inl (cI, 4, .inl (zA fS))), (rM, .inl (cI, 4, .inl (zA fM)))] sz) := by
  refine zMi (cc := cX7_drop) (maxL := 3) (ret := (some .boolean)) (by decide) rfl (Nat.le_of_ble_eq_true rfl) ?_
  intro p e s m below meth c A ls hE
  obtain ⟨hx, hb, hr, hts, hown, hlocks, hml, hnm, hP, hK, hD, hA, hS, hl⟩ := hE
  have hown : s.vm.findClass RX7 = some m.cls := hown
  have hl : lv_has ls 3 [(0, .ref hm), (1, .int (iI a))] := hl
  have hin7 : ∀ w ∈ wsX70, w ∈ wsX7_drop := by decide +kernel
  obtain ⟨Q, hQ⟩ : ∃ Q, Q = MQ below (zQi D (TY cI cJ cT) A (fun (z : Int) (u : Int × (Int → Int) × (Int → Int)) => u.1 = 0 ∧ z = bz ((0 ≤ a ∧ a < 4) ∧ 0 < fS a) ∧ (¬ (0 ≤ a ∧ a < 4) → u.2.1 = fS ∧ u.2.2 = fM) ∧ ((0 ≤ a ∧ a < 4) → u.2.1 = uZ fS a 0 ∧ u.2.2 = uZ fM a 0)) (fun (u : Int × (Int → Int) × (Int → Int)) => [(hm, .inr (7, [.int (iI u.1), .ref rS, .ref rM, .ref rB, .ref rT, .ref rX, .ref rY, .ref rL, .int (iI sz1), .ref rR, .int (iI at1), .long (lI nu), .ref rt, .ref rx, .ref ry, .int (iI fo), .ref rF, .ref rG, .ref rU, .ref rV, .long (lI lo), .long (lI lB), .long (lI hi), .long (lI hB1)])), (rS, .inl (cI, 4, .inl (zA u.2.1))), (rM, .inl (cI, 4, .inl (zA u.2.2)))])) ([.ref hm, .int (iI a)] : List Value).toArray s 0 0 A := ⟨_, rfl⟩
  rw [← hQ]
  refine lv_aload_n hx hb dX7_drop_0 rfl (lv_at hl 0 rfl) ?_
  refine lv_iconst (v := iI 0) hx hb dX7_drop_1 rfl ?_
  refine va_put (D := D) (ci := 7) (v := .int (iI 0)) (ty := .int) (C := RX7) (T := TX7) (N := 24) hx hb hts hin7 tyX7 tyX7_ok nmX7 hown hK hP hD hS 0 rfl rfl 0 (by decide) (hts (.fieldLink RX7 56 "DriftLogModel" "thrown" "I") (by decide +kernel)) (fun _ h9 => h9) rfl (by decide +kernel) rfl rfl (Nat.le_of_ble_eq_true rfl) dX7_drop_2 (fun H locs hP hD hS => ?_)
  have hP : va_P D vwCl [(hm, .inr (7, [.int (iI 0), .ref rS, .ref rM, .ref rB, .ref rT, .ref rX, .ref rY, .ref rL, .int (iI sz1), .ref rR, .int (iI at1), .long (lI nu), .ref rt, .ref rx, .ref ry, .int (iI fo), .ref rF, .ref rG, .ref rU, .ref rV, .long (lI lo), .long (lI lB), .long (lI hi), .long (lI hB1)])), (rS, .inl (cI, 4, .inl (zA fS))), (rM, .inl (cI, 4, .inl (zA fM)))] H := hP
  have hD : va_D A [(hm, .inr (7, [.int (iI 0), .ref rS, .ref rM, .ref rB, .ref rT, .ref rX, .ref rY, .ref rL, .int (iI sz1), .ref rR, .int (iI at1), .long (lI nu), .ref rt, .ref rx, .ref ry, .int (iI fo), .ref rF, .ref rG, .ref rU, .ref rV, .long (lI lo), .long (lI lB), .long (lI hi), .long (lI hB1)])), (rS, .inl (cI, 4, .inl (zA fS))), (rM, .inl (cI, 4, .inl (zA fM)))] := hD
  refine lv_iload_n hx hb dX7_drop_5 rfl (lv_at hl 1 rfl) ?_
  refine wz_calli (wr := [(hm, .inr (7, [.int (iI 0), .ref rS, .ref rM, .ref rB, .ref rT, .ref rX, .ref rY, .ref rL, .int (iI sz1), .ref rR, .int (iI at1), .long (lI nu), .ref rt, .ref rx, .ref ry, .int (iI fo), .ref rF, .ref rG, .ref rU, .ref rV, .long (lI lo), .long (lI lB), .long (lI hi), .long (lI hB1)])), (rS, .inl (cI, 4, .inl (zA fS))), (rM, .inl (cI, 4, .inl (zA fM)))]) (va_runS (As := [.int (iI a)]) (rest := []) ⟨hx, hb, hml, hown, hts⟩ (k_X7_isTrack l D cI cJ cT H.size a (ha)) (va_cwS 1 hts gX7_drop_X7_isTrack rfl rfl rfl (by decide +kernel) ⟨Nat.le_of_ble_eq_true rfl, Nat.le_of_ble_eq_true rfl⟩) (wz_preS hK hP hD [] (by decide) rfl rfl) rfl rfl hl.1 rfl (lv_room (Nat.le_of_ble_eq_true rfl)) dX7_drop_6 ⟨Nat.le_of_ble_eq_true rfl, Nat.le_of_ble_eq_true rfl⟩) hP hD hS hA [] [0, 1, 2] rfl rfl rfl (by decide) (fun z6 u H locs hw6 hP hD hS => ?_)
  have hP : va_P D vwCl [(hm, .inr (7, [.int (iI 0), .ref rS, .ref rM, .ref rB, .ref rT, .ref rX, .ref rY, .ref rL, .int (iI sz1), .ref rR, .int (iI at1), .long (lI nu), .ref rt, .ref rx, .ref ry, .int (iI fo), .ref rF, .ref rG, .ref rU, .ref rV, .long (lI lo), .long (lI lB), .long (lI hi), .long (lI hB1)])), (rS, .inl (cI, 4, .inl (zA fS))), (rM, .inl (cI, 4, .inl (zA fM)))] H := hP.sub [0, 1, 2] rfl
  have hD : va_D A [(hm, .inr (7, [.int (iI 0), .ref rS, .ref rM, .ref rB, .ref rT, .ref rX, .ref rY, .ref rL, .int (iI sz1), .ref rR, .int (iI at1), .long (lI nu), .ref rt, .ref rx, .ref ry, .int (iI fo), .ref rF, .ref rG, .ref rU, .ref rV, .long (lI lo), .long (lI lB), .long (lI hi), .long (lI hB1)])), (rS, .inl (cI, 4, .inl (zA fS))), (rM, .inl (cI, 4, .inl (zA fM)))] := hD.sub [0, 1, 2] (by decide) rfl
  subst hw6
  refine wz_ifb_ne (tgt := 14) hx hb dX7_drop_9 (by decide) (fun c9 => ?_) (fun c9 => ?_)
  · skip
    refine lv_aload_n hx hb dX7_drop_14 rfl (lv_at hl 0 rfl) ?_
    refine va_get (D := D) (ci := 7) (v := .ref rS) (C := RX7) (T := TX7) (N := 24) hx hb hts hin7 hown hK hP 0 rfl rfl 1 (by decide) (hts (.fieldLink RX7 7 "DriftLogModel" "state" "[I") (by decide +kernel)) (fun _ h9 => h9) rfl dX7_drop_15 ?_
    refine lv_iload_n hx hb dX7_drop_18 rfl (lv_at hl 1 rfl) ?_
    refine wz_iald (tys := TY cI cJ cT) hx hb hK hP 1 0 rfl rfl (by decide) (by constructor <;> omega) dX7_drop_19 ?_
    refine wz_if_le (tgt := 27) hx hb dX7_drop_20 (by decide) (by have := hS1 a; constructor <;> omega) (fun c20 => ?_) (fun c20 => ?_)
    · skip
      refine lv_iconst (v := iI 0) hx hb dX7_drop_27 rfl ?_
      refine lv_istore_n (lv' := [(2, .int (iI 0)), (0, .ref hm), (1, .int (iI a))]) hx hb dX7_drop_28 rfl hl (by decide) rfl (fun ls hl => ?_)
      refine lv_aload_n hx hb dX7_drop_29 rfl (lv_at hl 1 rfl) ?_
      refine va_get (D := D) (ci := 7) (v := .ref rS) (C := RX7) (T := TX7) (N := 24) hx hb hts hin7 hown hK hP 0 rfl rfl 1 (by decide) (hts (.fieldLink RX7 7 "DriftLogModel" "state" "[I") (by decide +kernel)) (fun _ h9 => h9) rfl dX7_drop_30 ?_
      refine lv_iload_n hx hb dX7_drop_33 rfl (lv_at hl 2 rfl) ?_
      refine lv_iconst (v := iI 0) hx hb dX7_drop_34 rfl ?_
      refine wz_iast (tys := TY cI cJ cT) hx hb hK hP hD hS 1 0 rfl rfl (by decide) (by constructor <;> omega) dX7_drop_35 (fun H locs hP hD hS => ?_)
      have hP : va_P D vwCl [(hm, .inr (7, [.int (iI 0), .ref rS, .ref rM, .ref rB, .ref rT, .ref rX, .ref rY, .ref rL, .int (iI sz1), .ref rR, .int (iI at1), .long (lI nu), .ref rt, .ref rx, .ref ry, .int (iI fo), .ref rF, .ref rG, .ref rU, .ref rV, .long (lI lo), .long (lI lB), .long (lI hi), .long (lI hB1)])), (rS, .inl (cI, 4, .inl (zA (uZ fS a 0)))), (rM, .inl (cI, 4, .inl (zA fM)))] H := hP
      have hD : va_D A [(hm, .inr (7, [.int (iI 0), .ref rS, .ref rM, .ref rB, .ref rT, .ref rX, .ref rY, .ref rL, .int (iI sz1), .ref rR, .int (iI at1), .long (lI nu), .ref rt, .ref rx, .ref ry, .int (iI fo), .ref rF, .ref rG, .ref rU, .ref rV, .long (lI lo), .long (lI lB), .long (lI hi), .long (lI hB1)])), (rS, .inl (cI, 4, .inl (zA (uZ fS a 0)))), (rM, .inl (cI, 4, .inl (zA fM)))] := hD
      refine lv_aload_n hx hb dX7_drop_36 rfl (lv_at hl 1 rfl) ?_
      refine va_get (D := D) (ci := 7) (v := .ref rM) (C := RX7) (T := TX7) (N := 24) hx hb hts hin7 hown hK hP 0 rfl rfl 2 (by decide) (hts (.fieldLink RX7 13 "DriftLogModel" "many" "[I") (by decide +kernel)) (fun _ h9 => h9) rfl dX7_drop_37 ?_
      refine lv_iload_n hx hb dX7_drop_40 rfl (lv_at hl 2 rfl) ?_
      refine lv_iconst (v := iI 0) hx hb dX7_drop_41 rfl ?_
      refine wz_iast (tys := TY cI cJ cT) hx hb hK hP hD hS 2 0 rfl rfl (by decide) (by constructor <;> omega) dX7_drop_42 (fun H locs hP hD hS => ?_)
      have hP : va_P D vwCl [(hm, .inr (7, [.int (iI 0), .ref rS, .ref rM, .ref rB, .ref rT, .ref rX, .ref rY, .ref rL, .int (iI sz1), .ref rR, .int (iI at1), .long (lI nu), .ref rt, .ref rx, .ref ry, .int (iI fo), .ref rF, .ref rG, .ref rU, .ref rV, .long (lI lo), .long (lI lB), .long (lI hi), .long (lI hB1)])), (rS, .inl (cI, 4, .inl (zA (uZ fS a 0)))), (rM, .inl (cI, 4, .inl (zA (uZ fM a 0))))] H := hP
      have hD : va_D A [(hm, .inr (7, [.int (iI 0), .ref rS, .ref rM, .ref rB, .ref rT, .ref rX, .ref rY, .ref rL, .int (iI sz1), .ref rR, .int (iI at1), .long (lI nu), .ref rt, .ref rx, .ref ry, .int (iI fo), .ref rF, .ref rG, .ref rU, .ref rV, .long (lI lo), .long (lI lB), .long (lI hi), .long (lI hB1)])), (rS, .inl (cI, 4, .inl (zA (uZ fS a 0)))), (rM, .inl (cI, 4, .inl (zA (uZ fM a 0))))] := hD
      refine lv_iload_n hx hb dX7_drop_43 rfl (lv_at hl 0 rfl) ?_
      rw [hQ]
      exact wz_retz (tys := TY cI cJ cT) (0, (uZ fS a 0), (uZ fM a 0)) hx hb hr hlocks hK hP hD hS (by first | decide | exact bz_01 _ | omega) (by (try dsimp only); exact (⟨rfl, (by first | exact (bz_t ⟨c9, by omega⟩).symm | exact (bz_f (fun q => by omega)).symm), fun h => (by first | exact ⟨rfl, rfl⟩ | (exfalso; omega)), fun h => (by first | exact ⟨rfl, rfl⟩ | (exfalso; omega))⟩)) dX7_drop_44
    · skip
      refine lv_iconst (v := iI 1) hx hb dX7_drop_23 rfl ?_
      refine lv_goto (tgt := 28) hx hb dX7_drop_24 (by decide) ?_
      refine lv_istore_n (lv' := [(2, .int (iI 1)), (0, .ref hm), (1, .int (iI a))]) hx hb dX7_drop_28 rfl hl (by decide) rfl (fun ls hl => ?_)
      refine lv_aload_n hx hb dX7_drop_29 rfl (lv_at hl 1 rfl) ?_
      refine va_get (D := D) (ci := 7) (v := .ref rS) (C := RX7) (T := TX7) (N := 24) hx hb hts hin7 hown hK hP 0 rfl rfl 1 (by decide) (hts (.fieldLink RX7 7 "DriftLogModel" "state" "[I") (by decide +kernel)) (fun _ h9 => h9) rfl dX7_drop_30 ?_
      refine lv_iload_n hx hb dX7_drop_33 rfl (lv_at hl 2 rfl) ?_
      refine lv_iconst (v := iI 0) hx hb dX7_drop_34 rfl ?_
      refine wz_iast (tys := TY cI cJ cT) hx hb hK hP hD hS 1 0 rfl rfl (by decide) (by constructor <;> omega) dX7_drop_35 (fun H locs hP hD hS => ?_)
      have hP : va_P D vwCl [(hm, .inr (7, [.int (iI 0), .ref rS, .ref rM, .ref rB, .ref rT, .ref rX, .ref rY, .ref rL, .int (iI sz1), .ref rR, .int (iI at1), .long (lI nu), .ref rt, .ref rx, .ref ry, .int (iI fo), .ref rF, .ref rG, .ref rU, .ref rV, .long (lI lo), .long (lI lB), .long (lI hi), .long (lI hB1)])), (rS, .inl (cI, 4, .inl (zA (uZ fS a 0)))), (rM, .inl (cI, 4, .inl (zA fM)))] H := hP
      have hD : va_D A [(hm, .inr (7, [.int (iI 0), .ref rS, .ref rM, .ref rB, .ref rT, .ref rX, .ref rY, .ref rL, .int (iI sz1), .ref rR, .int (iI at1), .long (lI nu), .ref rt, .ref rx, .ref ry, .int (iI fo), .ref rF, .ref rG, .ref rU, .ref rV, .long (lI lo), .long (lI lB), .long (lI hi), .long (lI hB1)])), (rS, .inl (cI, 4, .inl (zA (uZ fS a 0)))), (rM, .inl (cI, 4, .inl (zA fM)))] := hD
      refine lv_aload_n hx hb dX7_drop_36 rfl (lv_at hl 1 rfl) ?_
      refine va_get (D := D) (ci := 7) (v := .ref rM) (C := RX7) (T := TX7) (N := 24) hx hb hts hin7 hown hK hP 0 rfl rfl 2 (by decide) (hts (.fieldLink RX7 13 "DriftLogModel" "many" "[I") (by decide +kernel)) (fun _ h9 => h9) rfl dX7_drop_37 ?_
      refine lv_iload_n hx hb dX7_drop_40 rfl (lv_at hl 2 rfl) ?_
      refine lv_iconst (v := iI 0) hx hb dX7_drop_41 rfl ?_
      refine wz_iast (tys := TY cI cJ cT) hx hb hK hP hD hS 2 0 rfl rfl (by decide) (by constructor <;> omega) dX7_drop_42 (fun H locs hP hD hS => ?_)
      have hP : va_P D vwCl [(hm, .inr (7, [.int (iI 0), .ref rS, .ref rM, .ref rB, .ref rT, .ref rX, .ref rY, .ref rL, .int (iI sz1), .ref rR, .int (iI at1), .long (lI nu), .ref rt, .ref rx, .ref ry, .int (iI fo), .ref rF, .ref rG, .ref rU, .ref rV, .long (lI lo), .long (lI lB), .long (lI hi), .long (lI hB1)])), (rS, .inl (cI, 4, .inl (zA (uZ fS a 0)))), (rM, .inl (cI, 4, .inl (zA (uZ fM a 0))))] H := hP
      have hD : va_D A [(hm, .inr (7, [.int (iI 0), .ref rS, .ref rM, .ref rB, .ref rT, .ref rX, .ref rY, .ref rL, .int (iI sz1), .ref rR, .int (iI at1), .long (lI nu), .ref rt, .ref rx, .ref ry, .int (iI fo), .ref rF, .ref rG, .ref rU, .ref rV, .long (lI lo), .long (lI lB), .long (lI hi), .long (lI hB1)])), (rS, .inl (cI, 4, .inl (zA (uZ fS a 0)))), (rM, .inl (cI, 4, .inl (zA (uZ fM a 0))))] := hD
      refine lv_iload_n hx hb dX7_drop_43 rfl (lv_at hl 0 rfl) ?_
      rw [hQ]
      exact wz_retz (tys := TY cI cJ cT) (0, (uZ fS a 0), (uZ fM a 0)) hx hb hr hlocks hK hP hD hS (by first | decide | exact bz_01 _ | omega) (by (try dsimp only); exact (⟨rfl, (by first | exact (bz_t ⟨c9, by omega⟩).symm | exact (bz_f (fun q => by omega)).symm), fun h => (by first | exact ⟨rfl, rfl⟩ | (exfalso; omega)), fun h => (by first | exact ⟨rfl, rfl⟩ | (exfalso; omega))⟩)) dX7_drop_44
  · skip
    refine lv_iconst (v := iI 0) hx hb dX7_drop_12 rfl ?_
    rw [hQ]
    exact wz_retz (tys := TY cI cJ cT) (0, fS, fM) hx hb hr hlocks hK hP hD hS (by first | decide | exact bz_01 _ | omega) (by (try dsimp only); exact (⟨rfl, (by first | exact (bz_t ⟨c9, by omega⟩).symm | exact (bz_f (fun q => by omega)).symm), fun h => (by first | exact ⟨rfl, rfl⟩ | (exfalso; omega)), fun h => (by first | exact ⟨rfl, rfl⟩ | (exfalso; omega))⟩)) dX7_drop_13
set_option maxHeartbeats 4000000 in
set_option maxRecDepth 100000 in
theorem k_X7_track (l : Launch) (D : va_G) (cI cJ cT : ClassId) (sz : Nat) (hm : Nat) (th : Int) (rS : Nat) (rM : Nat) (rB : Nat) (rT : Nat) (rX : Nat) (rY : Nat) (rL : Nat) (sz1 : Int) (rR : Nat) (at1 : Int) (nu : Int) (rt : Nat) (rx : Nat) (ry : Nat) (fo : Int) (rF : Nat) (rG : Nat) (rU : Nat) (rV : Nat) (lo : Int) (lB : Int) (hi : Int) (hB1 : Int) (fS : Int → Int) (fM : Int → Int) (fB : Int → Int) (a : Int) (w : Int) (hS1 : ∀ i, 0 ≤ fS i ∧ fS i ≤ 2) (hM1 : ∀ i, 0 ≤ fM i ∧ fM i ≤ 20) (hB2 : ∀ i, 0 ≤ fB i ∧ fB i ≤ 65535) (ha : rI a) (hwa : rI w) : Met l yX7_track wsX7_track { frames := 1, cells := 0, slots := 0, locals := 20 } (zPc D (TY cI cJ cT) [.ref hm, .int (iI a), .int (iI w)] [(hm, .inr (7, [.int (iI th), .ref rS, .ref rM, .ref rB, .ref rT, .ref rX, .ref rY, .ref rL, .int (iI sz1), .ref rR, .int (iI at1), .long (lI nu), .ref rt, .ref rx, .ref ry, .int (iI fo), .ref rF, .ref rG, .ref rU, .ref rV, .long (lI lo), .long (lI lB), .long (lI hi), .long (lI hB1)])), (rS, .inl (cI, 4, .inl (zA fS))), (rM, .inl (cI, 4, .inl (zA fM))), (rB, .inl (cI, 4, .inl (zA fB)))] sz) (zQi D (TY cI cJ cT) (va_A [(hm, .inr (7, [.int (iI th), .ref rS, .ref rM, .ref rB, .ref rT, .ref rX, .ref rY, .ref rL, .int (iI sz1), .ref rR, .int (iI at1), .long (lI nu), .ref rt, .ref rx, .ref ry, .int (iI fo), .ref rF, .ref rG, .ref rU, .ref rV, .long (lI lo), .long (lI lB), .long (lI hi), .long (lI hB1)])), (rS, .inl (cI, 4, .inl (zA fS))), (rM, .inl (cI, 4, .inl (zA fM))), (rB, .inl (cI, 4, .inl (zA fB)))] sz) (fun (z : Int) (u : Int) => u = 0 ∧ (¬ (0 ≤ a ∧ a < 4) → z = -1) ∧ ((0 ≤ a ∧ a < 4) → z = trkZ (fS a) (fM a) (fB a) w)) (fun (u : Int) => [(hm, .inr (7, [.int (iI u), .ref rS, .ref rM, .ref rB, .ref rT, .ref rX, .ref rY, .ref rL, .int (iI sz1), .ref rR, .int (iI at1), .long (lI nu), .ref rt, .ref rx, .ref ry, .int (iI fo), .ref rF, .ref rG, .ref rU, .ref rV, .long (lI lo), .long (lI lB), .long (lI hi), .long (lI hB1)])), (rS, .inl (cI, 4, .inl (zA fS))), (rM, .inl (cI, 4, .inl (zA fM))), (rB, .inl (cI, 4, .inl (zA fB)))])) 0 0 (va_A [(hm, .inr (7, [.int (iI th), .ref rS, .ref rM, .ref rB, .ref rT, .ref rX, .ref rY, .ref rL, .int (iI sz1), .ref rR, .int (iI at1), .long (lI nu), .ref rt, .ref rx, .ref ry, .int (iI fo), .ref rF, .ref rG, .ref rU, .ref rV, .long (lI lo), .long (lI lB), .long (lI hi), .long (lI hB1)])), (rS, .inl (cI, 4, .inl (zA fS))), (rM, .inl (cI, 4, .inl (zA fM))), (rB, .inl (cI, 4, .inl (zA fB)))] sz) := by
  refine zMi (cc := cX7_track) (maxL := 3) (ret := (some .int)) (by decide) rfl (Nat.le_of_ble_eq_true rfl) ?_
  intro p e s m below meth c A ls hE
  obtain ⟨hx, hb, hr, hts, hown, hlocks, hml, hnm, hP, hK, hD, hA, hS, hl⟩ := hE
  have hown : s.vm.findClass RX7 = some m.cls := hown
  have hl : lv_has ls 3 [(0, .ref hm), (1, .int (iI a)), (2, .int (iI w))] := hl
  have hin7 : ∀ w ∈ wsX70, w ∈ wsX7_track := by decide +kernel
  obtain ⟨Q, hQ⟩ : ∃ Q, Q = MQ below (zQi D (TY cI cJ cT) A (fun (z : Int) (u : Int) => u = 0 ∧ (¬ (0 ≤ a ∧ a < 4) → z = -1) ∧ ((0 ≤ a ∧ a < 4) → z = trkZ (fS a) (fM a) (fB a) w)) (fun (u : Int) => [(hm, .inr (7, [.int (iI u), .ref rS, .ref rM, .ref rB, .ref rT, .ref rX, .ref rY, .ref rL, .int (iI sz1), .ref rR, .int (iI at1), .long (lI nu), .ref rt, .ref rx, .ref ry, .int (iI fo), .ref rF, .ref rG, .ref rU, .ref rV, .long (lI lo), .long (lI lB), .long (lI hi), .long (lI hB1)])), (rS, .inl (cI, 4, .inl (zA fS))), (rM, .inl (cI, 4, .inl (zA fM))), (rB, .inl (cI, 4, .inl (zA fB)))])) ([.ref hm, .int (iI a), .int (iI w)] : List Value).toArray s 0 0 A := ⟨_, rfl⟩
  rw [← hQ]
  refine lv_aload_n hx hb dX7_track_0 rfl (lv_at hl 0 rfl) ?_
  refine lv_iconst (v := iI 0) hx hb dX7_track_1 rfl ?_
  refine va_put (D := D) (ci := 7) (v := .int (iI 0)) (ty := .int) (C := RX7) (T := TX7) (N := 24) hx hb hts hin7 tyX7 tyX7_ok nmX7 hown hK hP hD hS 0 rfl rfl 0 (by decide) (hts (.fieldLink RX7 56 "DriftLogModel" "thrown" "I") (by decide +kernel)) (fun _ h9 => h9) rfl (by decide +kernel) rfl rfl (Nat.le_of_ble_eq_true rfl) dX7_track_2 (fun H locs hP hD hS => ?_)
  have hP : va_P D vwCl [(hm, .inr (7, [.int (iI 0), .ref rS, .ref rM, .ref rB, .ref rT, .ref rX, .ref rY, .ref rL, .int (iI sz1), .ref rR, .int (iI at1), .long (lI nu), .ref rt, .ref rx, .ref ry, .int (iI fo), .ref rF, .ref rG, .ref rU, .ref rV, .long (lI lo), .long (lI lB), .long (lI hi), .long (lI hB1)])), (rS, .inl (cI, 4, .inl (zA fS))), (rM, .inl (cI, 4, .inl (zA fM))), (rB, .inl (cI, 4, .inl (zA fB)))] H := hP
  have hD : va_D A [(hm, .inr (7, [.int (iI 0), .ref rS, .ref rM, .ref rB, .ref rT, .ref rX, .ref rY, .ref rL, .int (iI sz1), .ref rR, .int (iI at1), .long (lI nu), .ref rt, .ref rx, .ref ry, .int (iI fo), .ref rF, .ref rG, .ref rU, .ref rV, .long (lI lo), .long (lI lB), .long (lI hi), .long (lI hB1)])), (rS, .inl (cI, 4, .inl (zA fS))), (rM, .inl (cI, 4, .inl (zA fM))), (rB, .inl (cI, 4, .inl (zA fB)))] := hD
  refine lv_iload_n hx hb dX7_track_5 rfl (lv_at hl 1 rfl) ?_
  refine wz_calli (wr := [(hm, .inr (7, [.int (iI 0), .ref rS, .ref rM, .ref rB, .ref rT, .ref rX, .ref rY, .ref rL, .int (iI sz1), .ref rR, .int (iI at1), .long (lI nu), .ref rt, .ref rx, .ref ry, .int (iI fo), .ref rF, .ref rG, .ref rU, .ref rV, .long (lI lo), .long (lI lB), .long (lI hi), .long (lI hB1)])), (rS, .inl (cI, 4, .inl (zA fS))), (rM, .inl (cI, 4, .inl (zA fM))), (rB, .inl (cI, 4, .inl (zA fB)))]) (va_runS (As := [.int (iI a)]) (rest := []) ⟨hx, hb, hml, hown, hts⟩ (k_X7_isTrack l D cI cJ cT H.size a (ha)) (va_cwS 1 hts gX7_track_X7_isTrack rfl rfl rfl (by decide +kernel) ⟨Nat.le_of_ble_eq_true rfl, Nat.le_of_ble_eq_true rfl⟩) (wz_preS hK hP hD [] (by decide) rfl rfl) rfl rfl hl.1 rfl (lv_room (Nat.le_of_ble_eq_true rfl)) dX7_track_6 ⟨Nat.le_of_ble_eq_true rfl, Nat.le_of_ble_eq_true rfl⟩) hP hD hS hA [] [0, 1, 2, 3] rfl rfl rfl (by decide) (fun z6 u H locs hw6 hP hD hS => ?_)
  have hP : va_P D vwCl [(hm, .inr (7, [.int (iI 0), .ref rS, .ref rM, .ref rB, .ref rT, .ref rX, .ref rY, .ref rL, .int (iI sz1), .ref rR, .int (iI at1), .long (lI nu), .ref rt, .ref rx, .ref ry, .int (iI fo), .ref rF, .ref rG, .ref rU, .ref rV, .long (lI lo), .long (lI lB), .long (lI hi), .long (lI hB1)])), (rS, .inl (cI, 4, .inl (zA fS))), (rM, .inl (cI, 4, .inl (zA fM))), (rB, .inl (cI, 4, .inl (zA fB)))] H := hP.sub [0, 1, 2, 3] rfl
  have hD : va_D A [(hm, .inr (7, [.int (iI 0), .ref rS, .ref rM, .ref rB, .ref rT, .ref rX, .ref rY, .ref rL, .int (iI sz1), .ref rR, .int (iI at1), .long (lI nu), .ref rt, .ref rx, .ref ry, .int (iI fo), .ref rF, .ref rG, .ref rU, .ref rV, .long (lI lo), .long (lI lB), .long (lI hi), .long (lI hB1)])), (rS, .inl (cI, 4, .inl (zA fS))), (rM, .inl (cI, 4, .inl (zA fM))), (rB, .inl (cI, 4, .inl (zA fB)))] := hD.sub [0, 1, 2, 3] (by decide) rfl
  subst hw6
  refine wz_ifb_ne (tgt := 14) hx hb dX7_track_9 (by decide) (fun c9 => ?_) (fun c9 => ?_)
  · skip
    refine lv_iload_n hx hb dX7_track_14 rfl (lv_at hl 2 rfl) ?_
    refine wz_if_ne (tgt := 27) hx hb dX7_track_15 (by decide) (hwa) (fun c15 => ?_) (fun c15 => ?_)
    · skip
      refine lv_iload_n hx hb dX7_track_27 rfl (lv_at hl 2 rfl) ?_
      refine lv_iconst (v := iI 1) hx hb dX7_track_28 rfl ?_
      refine wz_icmp_ne (tgt := 41) hx hb dX7_track_29 (by decide) (hwa) (by decide) (fun c29 => ?_) (fun c29 => ?_)
      · skip
        refine lv_iload_n hx hb dX7_track_41 rfl (lv_at hl 2 rfl) ?_
        refine lv_iconst (v := iI 2) hx hb dX7_track_42 rfl ?_
        refine wz_icmp_ne (tgt := 65) hx hb dX7_track_43 (by decide) (hwa) (by decide) (fun c43 => ?_) (fun c43 => ?_)
        · skip
          refine lv_iconst (v := iI (-1)) hx hb dX7_track_65 rfl ?_
          rw [hQ]
          exact wz_reti (tys := TY cI cJ cT) 0 hx hb hr hlocks hK hP hD hS (⟨rfl, fun h => (by first | rfl | (exfalso; omega)), fun h => (by unfold trkZ; first | (exfalso; omega) | rw [if_neg c15, if_neg c29, if_neg (by omega)])⟩) dX7_track_66
        · skip
          refine lv_aload_n hx hb dX7_track_46 rfl (lv_at hl 0 rfl) ?_
          refine va_get (D := D) (ci := 7) (v := .ref rS) (C := RX7) (T := TX7) (N := 24) hx hb hts hin7 hown hK hP 0 rfl rfl 1 (by decide) (hts (.fieldLink RX7 7 "DriftLogModel" "state" "[I") (by decide +kernel)) (fun _ h9 => h9) rfl dX7_track_47 ?_
          refine lv_iload_n hx hb dX7_track_50 rfl (lv_at hl 1 rfl) ?_
          refine wz_iald (tys := TY cI cJ cT) hx hb hK hP 1 0 rfl rfl (by decide) (by constructor <;> omega) dX7_track_51 ?_
          refine lv_iconst (v := iI 2) hx hb dX7_track_52 rfl ?_
          refine wz_icmp_ne (tgt := 65) hx hb dX7_track_53 (by decide) (by have := hS1 a; constructor <;> omega) (by decide) (fun c53 => ?_) (fun c53 => ?_)
          · skip
            refine lv_iconst (v := iI (-1)) hx hb dX7_track_65 rfl ?_
            rw [hQ]
            exact wz_reti (tys := TY cI cJ cT) 0 hx hb hr hlocks hK hP hD hS (⟨rfl, fun h => (by first | rfl | (exfalso; omega)), fun h => (by unfold trkZ; first | (exfalso; omega) | rw [if_neg c15, if_neg c29, if_neg (by omega)])⟩) dX7_track_66
          · skip
            refine lv_aload_n hx hb dX7_track_56 rfl (lv_at hl 0 rfl) ?_
            refine va_get (D := D) (ci := 7) (v := .ref rB) (C := RX7) (T := TX7) (N := 24) hx hb hts hin7 hown hK hP 0 rfl rfl 3 (by decide) (hts (.fieldLink RX7 16 "DriftLogModel" "bound" "[I") (by decide +kernel)) (fun _ h9 => h9) rfl dX7_track_57 ?_
            refine lv_iload_n hx hb dX7_track_60 rfl (lv_at hl 1 rfl) ?_
            refine wz_iald (tys := TY cI cJ cT) hx hb hK hP 3 0 rfl rfl (by decide) (by constructor <;> omega) dX7_track_61 ?_
            refine lv_goto (tgt := 66) hx hb dX7_track_62 (by decide) ?_
            rw [hQ]
            exact wz_reti (tys := TY cI cJ cT) 0 hx hb hr hlocks hK hP hD hS (⟨rfl, fun h => (by first | rfl | (exfalso; omega)), fun h => (by unfold trkZ; rw [if_neg c15, if_neg c29, if_pos ⟨c43, c53⟩])⟩) dX7_track_66
      · skip
        refine lv_aload_n hx hb dX7_track_32 rfl (lv_at hl 0 rfl) ?_
        refine va_get (D := D) (ci := 7) (v := .ref rM) (C := RX7) (T := TX7) (N := 24) hx hb hts hin7 hown hK hP 0 rfl rfl 2 (by decide) (hts (.fieldLink RX7 13 "DriftLogModel" "many" "[I") (by decide +kernel)) (fun _ h9 => h9) rfl dX7_track_33 ?_
        refine lv_iload_n hx hb dX7_track_36 rfl (lv_at hl 1 rfl) ?_
        refine wz_iald (tys := TY cI cJ cT) hx hb hK hP 2 0 rfl rfl (by decide) (by constructor <;> omega) dX7_track_37 ?_
        refine lv_goto (tgt := 66) hx hb dX7_track_38 (by decide) ?_
        rw [hQ]
        exact wz_reti (tys := TY cI cJ cT) 0 hx hb hr hlocks hK hP hD hS (⟨rfl, fun h => (by first | rfl | (exfalso; omega)), fun h => (by unfold trkZ; rw [if_neg c15, if_pos c29])⟩) dX7_track_66
    · skip
      refine lv_aload_n hx hb dX7_track_18 rfl (lv_at hl 0 rfl) ?_
      refine va_get (D := D) (ci := 7) (v := .ref rS) (C := RX7) (T := TX7) (N := 24) hx hb hts hin7 hown hK hP 0 rfl rfl 1 (by decide) (hts (.fieldLink RX7 7 "DriftLogModel" "state" "[I") (by decide +kernel)) (fun _ h9 => h9) rfl dX7_track_19 ?_
      refine lv_iload_n hx hb dX7_track_22 rfl (lv_at hl 1 rfl) ?_
      refine wz_iald (tys := TY cI cJ cT) hx hb hK hP 1 0 rfl rfl (by decide) (by constructor <;> omega) dX7_track_23 ?_
      refine lv_goto (tgt := 66) hx hb dX7_track_24 (by decide) ?_
      rw [hQ]
      exact wz_reti (tys := TY cI cJ cT) 0 hx hb hr hlocks hK hP hD hS (⟨rfl, fun h => (by first | rfl | (exfalso; omega)), fun h => (by unfold trkZ; rw [if_pos c15])⟩) dX7_track_66
  · skip
    refine lv_iconst (v := iI (-1)) hx hb dX7_track_12 rfl ?_
    rw [hQ]
    exact wz_reti (tys := TY cI cJ cT) 0 hx hb hr hlocks hK hP hD hS (⟨rfl, fun h => (by first | rfl | (exfalso; omega)), fun h => (by unfold trkZ; first | (exfalso; omega) | rw [if_neg c15, if_neg c29, if_neg (by omega)])⟩) dX7_track_13
set_option maxHeartbeats 4000000 in
set_option maxRecDepth 100000 in
theorem k_X7_sample (l : Launch) (D : va_G) (cI cJ cT : ClassId) (sz : Nat) (hm : Nat) (th : Int) (rS : Nat) (rM : Nat) (rB : Nat) (rT : Nat) (rX : Nat) (rY : Nat) (rL : Nat) (sz1 : Int) (rR : Nat) (at1 : Int) (nu : Int) (rt : Nat) (rx : Nat) (ry : Nat) (fo : Int) (rF : Nat) (rG : Nat) (rU : Nat) (rV : Nat) (lo : Int) (lB : Int) (hi : Int) (hB1 : Int) (fM : Int → Int) (fT : Int → Int) (fX : Int → Int) (fY : Int → Int) (a : Int) (i : Int) (w : Int) (hM1 : ∀ i, 0 ≤ fM i ∧ fM i ≤ 20) (ha : rI a) (hia : rI i) (hwa : rI w) : Met l yX7_sample wsX7_sample { frames := 1, cells := 0, slots := 0, locals := 20 } (zPc D (TY cI cJ cT) [.ref hm, .int (iI a), .int (iI i), .int (iI w)] [(hm, .inr (7, [.int (iI th), .ref rS, .ref rM, .ref rB, .ref rT, .ref rX, .ref rY, .ref rL, .int (iI sz1), .ref rR, .int (iI at1), .long (lI nu), .ref rt, .ref rx, .ref ry, .int (iI fo), .ref rF, .ref rG, .ref rU, .ref rV, .long (lI lo), .long (lI lB), .long (lI hi), .long (lI hB1)])), (rM, .inl (cI, 4, .inl (zA fM))), (rT, .inl (cI, 80, .inl (zA fT))), (rX, .inl (cI, 80, .inl (zA fX))), (rY, .inl (cI, 80, .inl (zA fY)))] sz) (zQi D (TY cI cJ cT) (va_A [(hm, .inr (7, [.int (iI th), .ref rS, .ref rM, .ref rB, .ref rT, .ref rX, .ref rY, .ref rL, .int (iI sz1), .ref rR, .int (iI at1), .long (lI nu), .ref rt, .ref rx, .ref ry, .int (iI fo), .ref rF, .ref rG, .ref rU, .ref rV, .long (lI lo), .long (lI lB), .long (lI hi), .long (lI hB1)])), (rM, .inl (cI, 4, .inl (zA fM))), (rT, .inl (cI, 80, .inl (zA fT))), (rX, .inl (cI, 80, .inl (zA fX))), (rY, .inl (cI, 80, .inl (zA fY)))] sz) (fun (z : Int) (u : Int) => (¬ ((0 ≤ a ∧ a < 4) ∧ 0 ≤ w ∧ w ≤ 2) → u = 1) ∧ (((0 ≤ a ∧ a < 4) ∧ 0 ≤ w ∧ w ≤ 2) → ¬ (0 ≤ i ∧ i < fM a) → u = 1) ∧ (((0 ≤ a ∧ a < 4) ∧ 0 ≤ w ∧ w ≤ 2) → (0 ≤ i ∧ i < fM a) → u = 0 ∧ z = if w = 0 then fT (20 * a + i) else if w = 1 then fX (20 * a + i) else fY (20 * a + i))) (fun (u : Int) => [(hm, .inr (7, [.int (iI u), .ref rS, .ref rM, .ref rB, .ref rT, .ref rX, .ref rY, .ref rL, .int (iI sz1), .ref rR, .int (iI at1), .long (lI nu), .ref rt, .ref rx, .ref ry, .int (iI fo), .ref rF, .ref rG, .ref rU, .ref rV, .long (lI lo), .long (lI lB), .long (lI hi), .long (lI hB1)])), (rM, .inl (cI, 4, .inl (zA fM))), (rT, .inl (cI, 80, .inl (zA fT))), (rX, .inl (cI, 80, .inl (zA fX))), (rY, .inl (cI, 80, .inl (zA fY)))])) 0 0 (va_A [(hm, .inr (7, [.int (iI th), .ref rS, .ref rM, .ref rB, .ref rT, .ref rX, .ref rY, .ref rL, .int (iI sz1), .ref rR, .int (iI at1), .long (lI nu), .ref rt, .ref rx, .ref ry, .int (iI fo), .ref rF, .ref rG, .ref rU, .ref rV, .long (lI lo), .long (lI lB), .long (lI hi), .long (lI hB1)])), (rM, .inl (cI, 4, .inl (zA fM))), (rT, .inl (cI, 80, .inl (zA fT))), (rX, .inl (cI, 80, .inl (zA fX))), (rY, .inl (cI, 80, .inl (zA fY)))] sz) := by
  refine zMi (cc := cX7_sample) (maxL := 5) (ret := (some .int)) (by decide) rfl (Nat.le_of_ble_eq_true rfl) ?_
  intro p e s m below meth c A ls hE
  obtain ⟨hx, hb, hr, hts, hown, hlocks, hml, hnm, hP, hK, hD, hA, hS, hl⟩ := hE
  have hown : s.vm.findClass RX7 = some m.cls := hown
  have hl : lv_has ls 5 [(0, .ref hm), (1, .int (iI a)), (2, .int (iI i)), (3, .int (iI w))] := hl
  have hin7 : ∀ w ∈ wsX70, w ∈ wsX7_sample := by decide +kernel
  obtain ⟨Q, hQ⟩ : ∃ Q, Q = MQ below (zQi D (TY cI cJ cT) A (fun (z : Int) (u : Int) => (¬ ((0 ≤ a ∧ a < 4) ∧ 0 ≤ w ∧ w ≤ 2) → u = 1) ∧ (((0 ≤ a ∧ a < 4) ∧ 0 ≤ w ∧ w ≤ 2) → ¬ (0 ≤ i ∧ i < fM a) → u = 1) ∧ (((0 ≤ a ∧ a < 4) ∧ 0 ≤ w ∧ w ≤ 2) → (0 ≤ i ∧ i < fM a) → u = 0 ∧ z = if w = 0 then fT (20 * a + i) else if w = 1 then fX (20 * a + i) else fY (20 * a + i))) (fun (u : Int) => [(hm, .inr (7, [.int (iI u), .ref rS, .ref rM, .ref rB, .ref rT, .ref rX, .ref rY, .ref rL, .int (iI sz1), .ref rR, .int (iI at1), .long (lI nu), .ref rt, .ref rx, .ref ry, .int (iI fo), .ref rF, .ref rG, .ref rU, .ref rV, .long (lI lo), .long (lI lB), .long (lI hi), .long (lI hB1)])), (rM, .inl (cI, 4, .inl (zA fM))), (rT, .inl (cI, 80, .inl (zA fT))), (rX, .inl (cI, 80, .inl (zA fX))), (rY, .inl (cI, 80, .inl (zA fY)))])) ([.ref hm, .int (iI a), .int (iI i), .int (iI w)] : List Value).toArray s 0 0 A := ⟨_, rfl⟩
  rw [← hQ]
  refine lv_aload_n hx hb dX7_sample_0 rfl (lv_at hl 0 rfl) ?_
  refine lv_iload_n hx hb dX7_sample_1 rfl (lv_at hl 1 rfl) ?_
  refine wz_calli (wr := [(hm, .inr (7, [.int (iI th), .ref rS, .ref rM, .ref rB, .ref rT, .ref rX, .ref rY, .ref rL, .int (iI sz1), .ref rR, .int (iI at1), .long (lI nu), .ref rt, .ref rx, .ref ry, .int (iI fo), .ref rF, .ref rG, .ref rU, .ref rV, .long (lI lo), .long (lI lB), .long (lI hi), .long (lI hB1)])), (rM, .inl (cI, 4, .inl (zA fM))), (rT, .inl (cI, 80, .inl (zA fT))), (rX, .inl (cI, 80, .inl (zA fX))), (rY, .inl (cI, 80, .inl (zA fY)))]) (va_runS (As := [.int (iI a)]) (rest := [.ref hm]) ⟨hx, hb, hml, hown, hts⟩ (k_X7_isTrack l D cI cJ cT s.heap.size a (ha)) (va_cwS 1 hts gX7_sample_X7_isTrack rfl rfl rfl (by decide +kernel) ⟨Nat.le_of_ble_eq_true rfl, Nat.le_of_ble_eq_true rfl⟩) (wz_preS hK hP hD [] (by decide) rfl rfl) rfl rfl hl.1 rfl (lv_room (Nat.le_of_ble_eq_true rfl)) dX7_sample_2 ⟨Nat.le_of_ble_eq_true rfl, Nat.le_of_ble_eq_true rfl⟩) hP hD hS hA [] [0, 1, 2, 3, 4] rfl rfl rfl (by decide) (fun z2 u H locs hw2 hP hD hS => ?_)
  have hP : va_P D vwCl [(hm, .inr (7, [.int (iI th), .ref rS, .ref rM, .ref rB, .ref rT, .ref rX, .ref rY, .ref rL, .int (iI sz1), .ref rR, .int (iI at1), .long (lI nu), .ref rt, .ref rx, .ref ry, .int (iI fo), .ref rF, .ref rG, .ref rU, .ref rV, .long (lI lo), .long (lI lB), .long (lI hi), .long (lI hB1)])), (rM, .inl (cI, 4, .inl (zA fM))), (rT, .inl (cI, 80, .inl (zA fT))), (rX, .inl (cI, 80, .inl (zA fX))), (rY, .inl (cI, 80, .inl (zA fY)))] H := hP.sub [0, 1, 2, 3, 4] rfl
  have hD : va_D A [(hm, .inr (7, [.int (iI th), .ref rS, .ref rM, .ref rB, .ref rT, .ref rX, .ref rY, .ref rL, .int (iI sz1), .ref rR, .int (iI at1), .long (lI nu), .ref rt, .ref rx, .ref ry, .int (iI fo), .ref rF, .ref rG, .ref rU, .ref rV, .long (lI lo), .long (lI lB), .long (lI hi), .long (lI hB1)])), (rM, .inl (cI, 4, .inl (zA fM))), (rT, .inl (cI, 80, .inl (zA fT))), (rX, .inl (cI, 80, .inl (zA fX))), (rY, .inl (cI, 80, .inl (zA fY)))] := hD.sub [0, 1, 2, 3, 4] (by decide) rfl
  subst hw2
  refine wz_ifb_eq (tgt := 17) hx hb dX7_sample_5 (by decide) (fun c5 => ?_) (fun c5 => ?_)
  · skip
    refine lv_iconst (v := iI 1) hx hb dX7_sample_17 rfl ?_
    refine lv_goto (tgt := 22) hx hb dX7_sample_18 (by decide) ?_
    refine va_put (D := D) (ci := 7) (v := .int (iI 1)) (ty := .int) (C := RX7) (T := TX7) (N := 24) hx hb hts hin7 tyX7 tyX7_ok nmX7 hown hK hP hD hS 0 rfl rfl 0 (by decide) (hts (.fieldLink RX7 56 "DriftLogModel" "thrown" "I") (by decide +kernel)) (fun _ h9 => h9) rfl (by decide +kernel) rfl rfl (Nat.le_of_ble_eq_true rfl) dX7_sample_22 (fun H locs hP hD hS => ?_)
    have hP : va_P D vwCl [(hm, .inr (7, [.int (iI 1), .ref rS, .ref rM, .ref rB, .ref rT, .ref rX, .ref rY, .ref rL, .int (iI sz1), .ref rR, .int (iI at1), .long (lI nu), .ref rt, .ref rx, .ref ry, .int (iI fo), .ref rF, .ref rG, .ref rU, .ref rV, .long (lI lo), .long (lI lB), .long (lI hi), .long (lI hB1)])), (rM, .inl (cI, 4, .inl (zA fM))), (rT, .inl (cI, 80, .inl (zA fT))), (rX, .inl (cI, 80, .inl (zA fX))), (rY, .inl (cI, 80, .inl (zA fY)))] H := hP
    have hD : va_D A [(hm, .inr (7, [.int (iI 1), .ref rS, .ref rM, .ref rB, .ref rT, .ref rX, .ref rY, .ref rL, .int (iI sz1), .ref rR, .int (iI at1), .long (lI nu), .ref rt, .ref rx, .ref ry, .int (iI fo), .ref rF, .ref rG, .ref rU, .ref rV, .long (lI lo), .long (lI lB), .long (lI hi), .long (lI hB1)])), (rM, .inl (cI, 4, .inl (zA fM))), (rT, .inl (cI, 80, .inl (zA fT))), (rX, .inl (cI, 80, .inl (zA fX))), (rY, .inl (cI, 80, .inl (zA fY)))] := hD
    refine lv_aload_n hx hb dX7_sample_25 rfl (lv_at hl 0 rfl) ?_
    refine va_get (D := D) (ci := 7) (v := .int (iI 1)) (C := RX7) (T := TX7) (N := 24) hx hb hts hin7 hown hK hP 0 rfl rfl 0 (by decide) (hts (.fieldLink RX7 56 "DriftLogModel" "thrown" "I") (by decide +kernel)) (fun _ h9 => h9) rfl dX7_sample_26 ?_
    refine wz_if_le (tgt := 34) hx hb dX7_sample_29 (by decide) (by decide) (fun c29 => ?_) (fun c29 => ?_)
    · skip
      exact absurd c29 (by decide)
    · skip
      refine lv_iconst (v := iI 0) hx hb dX7_sample_32 rfl ?_
      rw [hQ]
      exact wz_reti (tys := TY cI cJ cT) 1 hx hb hr hlocks hK hP hD hS (⟨fun h => (by first | exact rfl | (exfalso; omega)), fun h h2 => (by first | exact rfl | (exfalso; omega)), fun h h2 => (by first | (exfalso; omega) | exact ⟨rfl, by first | rw [if_pos c75] | rw [if_neg c75, if_pos c90] | rw [if_neg c75, if_neg c90]⟩)⟩) dX7_sample_33
  · skip
    refine lv_iload_n hx hb dX7_sample_8 rfl (lv_at hl 3 rfl) ?_
    refine wz_if_lt (tgt := 17) hx hb dX7_sample_9 (by decide) (hwa) (fun c9 => ?_) (fun c9 => ?_)
    · skip
      refine lv_iconst (v := iI 1) hx hb dX7_sample_17 rfl ?_
      refine lv_goto (tgt := 22) hx hb dX7_sample_18 (by decide) ?_
      refine va_put (D := D) (ci := 7) (v := .int (iI 1)) (ty := .int) (C := RX7) (T := TX7) (N := 24) hx hb hts hin7 tyX7 tyX7_ok nmX7 hown hK hP hD hS 0 rfl rfl 0 (by decide) (hts (.fieldLink RX7 56 "DriftLogModel" "thrown" "I") (by decide +kernel)) (fun _ h9 => h9) rfl (by decide +kernel) rfl rfl (Nat.le_of_ble_eq_true rfl) dX7_sample_22 (fun H locs hP hD hS => ?_)
      have hP : va_P D vwCl [(hm, .inr (7, [.int (iI 1), .ref rS, .ref rM, .ref rB, .ref rT, .ref rX, .ref rY, .ref rL, .int (iI sz1), .ref rR, .int (iI at1), .long (lI nu), .ref rt, .ref rx, .ref ry, .int (iI fo), .ref rF, .ref rG, .ref rU, .ref rV, .long (lI lo), .long (lI lB), .long (lI hi), .long (lI hB1)])), (rM, .inl (cI, 4, .inl (zA fM))), (rT, .inl (cI, 80, .inl (zA fT))), (rX, .inl (cI, 80, .inl (zA fX))), (rY, .inl (cI, 80, .inl (zA fY)))] H := hP
      have hD : va_D A [(hm, .inr (7, [.int (iI 1), .ref rS, .ref rM, .ref rB, .ref rT, .ref rX, .ref rY, .ref rL, .int (iI sz1), .ref rR, .int (iI at1), .long (lI nu), .ref rt, .ref rx, .ref ry, .int (iI fo), .ref rF, .ref rG, .ref rU, .ref rV, .long (lI lo), .long (lI lB), .long (lI hi), .long (lI hB1)])), (rM, .inl (cI, 4, .inl (zA fM))), (rT, .inl (cI, 80, .inl (zA fT))), (rX, .inl (cI, 80, .inl (zA fX))), (rY, .inl (cI, 80, .inl (zA fY)))] := hD
      refine lv_aload_n hx hb dX7_sample_25 rfl (lv_at hl 0 rfl) ?_
      refine va_get (D := D) (ci := 7) (v := .int (iI 1)) (C := RX7) (T := TX7) (N := 24) hx hb hts hin7 hown hK hP 0 rfl rfl 0 (by decide) (hts (.fieldLink RX7 56 "DriftLogModel" "thrown" "I") (by decide +kernel)) (fun _ h9 => h9) rfl dX7_sample_26 ?_
      refine wz_if_le (tgt := 34) hx hb dX7_sample_29 (by decide) (by decide) (fun c29 => ?_) (fun c29 => ?_)
      · skip
        exact absurd c29 (by decide)
      · skip
        refine lv_iconst (v := iI 0) hx hb dX7_sample_32 rfl ?_
        rw [hQ]
        exact wz_reti (tys := TY cI cJ cT) 1 hx hb hr hlocks hK hP hD hS (⟨fun h => (by first | exact rfl | (exfalso; omega)), fun h h2 => (by first | exact rfl | (exfalso; omega)), fun h h2 => (by first | (exfalso; omega) | exact ⟨rfl, by first | rw [if_pos c75] | rw [if_neg c75, if_pos c90] | rw [if_neg c75, if_neg c90]⟩)⟩) dX7_sample_33
    · skip
      refine lv_iload_n hx hb dX7_sample_12 rfl (lv_at hl 3 rfl) ?_
      refine lv_iconst (v := iI 2) hx hb dX7_sample_13 rfl ?_
      refine wz_icmp_le (tgt := 21) hx hb dX7_sample_14 (by decide) (hwa) (by decide) (fun c14 => ?_) (fun c14 => ?_)
      · skip
        refine lv_iconst (v := iI 0) hx hb dX7_sample_21 rfl ?_
        refine va_put (D := D) (ci := 7) (v := .int (iI 0)) (ty := .int) (C := RX7) (T := TX7) (N := 24) hx hb hts hin7 tyX7 tyX7_ok nmX7 hown hK hP hD hS 0 rfl rfl 0 (by decide) (hts (.fieldLink RX7 56 "DriftLogModel" "thrown" "I") (by decide +kernel)) (fun _ h9 => h9) rfl (by decide +kernel) rfl rfl (Nat.le_of_ble_eq_true rfl) dX7_sample_22 (fun H locs hP hD hS => ?_)
        have hP : va_P D vwCl [(hm, .inr (7, [.int (iI 0), .ref rS, .ref rM, .ref rB, .ref rT, .ref rX, .ref rY, .ref rL, .int (iI sz1), .ref rR, .int (iI at1), .long (lI nu), .ref rt, .ref rx, .ref ry, .int (iI fo), .ref rF, .ref rG, .ref rU, .ref rV, .long (lI lo), .long (lI lB), .long (lI hi), .long (lI hB1)])), (rM, .inl (cI, 4, .inl (zA fM))), (rT, .inl (cI, 80, .inl (zA fT))), (rX, .inl (cI, 80, .inl (zA fX))), (rY, .inl (cI, 80, .inl (zA fY)))] H := hP
        have hD : va_D A [(hm, .inr (7, [.int (iI 0), .ref rS, .ref rM, .ref rB, .ref rT, .ref rX, .ref rY, .ref rL, .int (iI sz1), .ref rR, .int (iI at1), .long (lI nu), .ref rt, .ref rx, .ref ry, .int (iI fo), .ref rF, .ref rG, .ref rU, .ref rV, .long (lI lo), .long (lI lB), .long (lI hi), .long (lI hB1)])), (rM, .inl (cI, 4, .inl (zA fM))), (rT, .inl (cI, 80, .inl (zA fT))), (rX, .inl (cI, 80, .inl (zA fX))), (rY, .inl (cI, 80, .inl (zA fY)))] := hD
        refine lv_aload_n hx hb dX7_sample_25 rfl (lv_at hl 0 rfl) ?_
        refine va_get (D := D) (ci := 7) (v := .int (iI 0)) (C := RX7) (T := TX7) (N := 24) hx hb hts hin7 hown hK hP 0 rfl rfl 0 (by decide) (hts (.fieldLink RX7 56 "DriftLogModel" "thrown" "I") (by decide +kernel)) (fun _ h9 => h9) rfl dX7_sample_26 ?_
        refine wz_if_le (tgt := 34) hx hb dX7_sample_29 (by decide) (by decide) (fun c29 => ?_) (fun c29 => ?_)
        · skip
          refine lv_aload_n hx hb dX7_sample_34 rfl (lv_at hl 0 rfl) ?_
          refine lv_iload_n hx hb dX7_sample_35 rfl (lv_at hl 2 rfl) ?_
          refine wz_if_lt (tgt := 49) hx hb dX7_sample_36 (by decide) (hia) (fun c36 => ?_) (fun c36 => ?_)
          · skip
            refine lv_iconst (v := iI 1) hx hb dX7_sample_49 rfl ?_
            refine lv_goto (tgt := 54) hx hb dX7_sample_50 (by decide) ?_
            refine va_put (D := D) (ci := 7) (v := .int (iI 1)) (ty := .int) (C := RX7) (T := TX7) (N := 24) hx hb hts hin7 tyX7 tyX7_ok nmX7 hown hK hP hD hS 0 rfl rfl 0 (by decide) (hts (.fieldLink RX7 56 "DriftLogModel" "thrown" "I") (by decide +kernel)) (fun _ h9 => h9) rfl (by decide +kernel) rfl rfl (Nat.le_of_ble_eq_true rfl) dX7_sample_54 (fun H locs hP hD hS => ?_)
            have hP : va_P D vwCl [(hm, .inr (7, [.int (iI 1), .ref rS, .ref rM, .ref rB, .ref rT, .ref rX, .ref rY, .ref rL, .int (iI sz1), .ref rR, .int (iI at1), .long (lI nu), .ref rt, .ref rx, .ref ry, .int (iI fo), .ref rF, .ref rG, .ref rU, .ref rV, .long (lI lo), .long (lI lB), .long (lI hi), .long (lI hB1)])), (rM, .inl (cI, 4, .inl (zA fM))), (rT, .inl (cI, 80, .inl (zA fT))), (rX, .inl (cI, 80, .inl (zA fX))), (rY, .inl (cI, 80, .inl (zA fY)))] H := hP
            have hD : va_D A [(hm, .inr (7, [.int (iI 1), .ref rS, .ref rM, .ref rB, .ref rT, .ref rX, .ref rY, .ref rL, .int (iI sz1), .ref rR, .int (iI at1), .long (lI nu), .ref rt, .ref rx, .ref ry, .int (iI fo), .ref rF, .ref rG, .ref rU, .ref rV, .long (lI lo), .long (lI lB), .long (lI hi), .long (lI hB1)])), (rM, .inl (cI, 4, .inl (zA fM))), (rT, .inl (cI, 80, .inl (zA fT))), (rX, .inl (cI, 80, .inl (zA fX))), (rY, .inl (cI, 80, .inl (zA fY)))] := hD
            refine lv_aload_n hx hb dX7_sample_57 rfl (lv_at hl 0 rfl) ?_
            refine va_get (D := D) (ci := 7) (v := .int (iI 1)) (C := RX7) (T := TX7) (N := 24) hx hb hts hin7 hown hK hP 0 rfl rfl 0 (by decide) (hts (.fieldLink RX7 56 "DriftLogModel" "thrown" "I") (by decide +kernel)) (fun _ h9 => h9) rfl dX7_sample_58 ?_
            refine wz_if_le (tgt := 66) hx hb dX7_sample_61 (by decide) (by decide) (fun c61 => ?_) (fun c61 => ?_)
            · skip
              exact absurd c61 (by decide)
            · skip
              refine lv_iconst (v := iI 0) hx hb dX7_sample_64 rfl ?_
              rw [hQ]
              exact wz_reti (tys := TY cI cJ cT) 1 hx hb hr hlocks hK hP hD hS (⟨fun h => (by first | exact rfl | (exfalso; omega)), fun h h2 => (by first | exact rfl | (exfalso; omega)), fun h h2 => (by first | (exfalso; omega) | exact ⟨rfl, by first | rw [if_pos c75] | rw [if_neg c75, if_pos c90] | rw [if_neg c75, if_neg c90]⟩)⟩) dX7_sample_65
          · skip
            refine lv_iload_n hx hb dX7_sample_39 rfl (lv_at hl 2 rfl) ?_
            refine lv_aload_n hx hb dX7_sample_40 rfl (lv_at hl 0 rfl) ?_
            refine va_get (D := D) (ci := 7) (v := .ref rM) (C := RX7) (T := TX7) (N := 24) hx hb hts hin7 hown hK hP 0 rfl rfl 2 (by decide) (hts (.fieldLink RX7 13 "DriftLogModel" "many" "[I") (by decide +kernel)) (fun _ h9 => h9) rfl dX7_sample_41 ?_
            refine lv_iload_n hx hb dX7_sample_44 rfl (lv_at hl 1 rfl) ?_
            refine wz_iald (tys := TY cI cJ cT) hx hb hK hP 1 0 rfl rfl (by decide) (by constructor <;> omega) dX7_sample_45 ?_
            refine wz_icmp_lt (tgt := 53) hx hb dX7_sample_46 (by decide) (hia) (by have := hM1 a; constructor <;> omega) (fun c46 => ?_) (fun c46 => ?_)
            · skip
              refine lv_iconst (v := iI 0) hx hb dX7_sample_53 rfl ?_
              refine va_put (D := D) (ci := 7) (v := .int (iI 0)) (ty := .int) (C := RX7) (T := TX7) (N := 24) hx hb hts hin7 tyX7 tyX7_ok nmX7 hown hK hP hD hS 0 rfl rfl 0 (by decide) (hts (.fieldLink RX7 56 "DriftLogModel" "thrown" "I") (by decide +kernel)) (fun _ h9 => h9) rfl (by decide +kernel) rfl rfl (Nat.le_of_ble_eq_true rfl) dX7_sample_54 (fun H locs hP hD hS => ?_)
              have hP : va_P D vwCl [(hm, .inr (7, [.int (iI 0), .ref rS, .ref rM, .ref rB, .ref rT, .ref rX, .ref rY, .ref rL, .int (iI sz1), .ref rR, .int (iI at1), .long (lI nu), .ref rt, .ref rx, .ref ry, .int (iI fo), .ref rF, .ref rG, .ref rU, .ref rV, .long (lI lo), .long (lI lB), .long (lI hi), .long (lI hB1)])), (rM, .inl (cI, 4, .inl (zA fM))), (rT, .inl (cI, 80, .inl (zA fT))), (rX, .inl (cI, 80, .inl (zA fX))), (rY, .inl (cI, 80, .inl (zA fY)))] H := hP
              have hD : va_D A [(hm, .inr (7, [.int (iI 0), .ref rS, .ref rM, .ref rB, .ref rT, .ref rX, .ref rY, .ref rL, .int (iI sz1), .ref rR, .int (iI at1), .long (lI nu), .ref rt, .ref rx, .ref ry, .int (iI fo), .ref rF, .ref rG, .ref rU, .ref rV, .long (lI lo), .long (lI lB), .long (lI hi), .long (lI hB1)])), (rM, .inl (cI, 4, .inl (zA fM))), (rT, .inl (cI, 80, .inl (zA fT))), (rX, .inl (cI, 80, .inl (zA fX))), (rY, .inl (cI, 80, .inl (zA fY)))] := hD
              refine lv_aload_n hx hb dX7_sample_57 rfl (lv_at hl 0 rfl) ?_
              refine va_get (D := D) (ci := 7) (v := .int (iI 0)) (C := RX7) (T := TX7) (N := 24) hx hb hts hin7 hown hK hP 0 rfl rfl 0 (by decide) (hts (.fieldLink RX7 56 "DriftLogModel" "thrown" "I") (by decide +kernel)) (fun _ h9 => h9) rfl dX7_sample_58 ?_
              refine wz_if_le (tgt := 66) hx hb dX7_sample_61 (by decide) (by decide) (fun c61 => ?_) (fun c61 => ?_)
              · skip
                have rMa := hM1 a
                refine lv_bipush (v := iI 20) hx hb dX7_sample_66 (by decide) ?_
                refine lv_iload_n hx hb dX7_sample_68 rfl (lv_at hl 1 rfl) ?_
                refine wz_imul hx hb dX7_sample_69 ?_
                refine lv_iload_n hx hb dX7_sample_70 rfl (lv_at hl 2 rfl) ?_
                refine wz_iadd hx hb dX7_sample_71 ?_
                refine lv_istore (lv' := [(4, .int (iI ((20 * a) + i))), (0, .ref hm), (1, .int (iI a)), (2, .int (iI i)), (3, .int (iI w))]) hx hb dX7_sample_72 hl (by decide) rfl (fun ls hl => ?_)
                refine lv_iload_n hx hb dX7_sample_74 rfl (lv_at hl 4 rfl) ?_
                refine wz_if_ne (tgt := 88) hx hb dX7_sample_75 (by decide) (hwa) (fun c75 => ?_) (fun c75 => ?_)
                · skip
                  refine lv_iload_n hx hb dX7_sample_88 rfl (lv_at hl 4 rfl) ?_
                  refine lv_iconst (v := iI 1) hx hb dX7_sample_89 rfl ?_
                  refine wz_icmp_ne (tgt := 103) hx hb dX7_sample_90 (by decide) (hwa) (by decide) (fun c90 => ?_) (fun c90 => ?_)
                  · skip
                    refine lv_aload_n hx hb dX7_sample_103 rfl (lv_at hl 1 rfl) ?_
                    refine va_get (D := D) (ci := 7) (v := .ref rY) (C := RX7) (T := TX7) (N := 24) hx hb hts hin7 hown hK hP 0 rfl rfl 6 (by decide) (hts (.fieldLink RX7 25 "DriftLogModel" "py" "[I") (by decide +kernel)) (fun _ h9 => h9) rfl dX7_sample_104 ?_
                    refine lv_iload hx hb dX7_sample_107 (lv_at hl 0 rfl) ?_
                    refine wz_iald (tys := TY cI cJ cT) hx hb hK hP 4 0 rfl rfl (by decide) (by constructor <;> omega) dX7_sample_109 ?_
                    rw [hQ]
                    exact wz_reti (tys := TY cI cJ cT) 0 hx hb hr hlocks hK hP hD hS (⟨fun h => (by first | exact rfl | (exfalso; omega)), fun h h2 => (by first | exact rfl | (exfalso; omega)), fun h h2 => (by first | (exfalso; omega) | exact ⟨rfl, by first | rw [if_pos c75] | rw [if_neg c75, if_pos c90] | rw [if_neg c75, if_neg c90]⟩)⟩) dX7_sample_110
                  · skip
                    refine lv_aload_n hx hb dX7_sample_93 rfl (lv_at hl 1 rfl) ?_
                    refine va_get (D := D) (ci := 7) (v := .ref rX) (C := RX7) (T := TX7) (N := 24) hx hb hts hin7 hown hK hP 0 rfl rfl 5 (by decide) (hts (.fieldLink RX7 22 "DriftLogModel" "px" "[I") (by decide +kernel)) (fun _ h9 => h9) rfl dX7_sample_94 ?_
                    refine lv_iload hx hb dX7_sample_97 (lv_at hl 0 rfl) ?_
                    refine wz_iald (tys := TY cI cJ cT) hx hb hK hP 3 0 rfl rfl (by decide) (by constructor <;> omega) dX7_sample_99 ?_
                    refine lv_goto (tgt := 110) hx hb dX7_sample_100 (by decide) ?_
                    rw [hQ]
                    exact wz_reti (tys := TY cI cJ cT) 0 hx hb hr hlocks hK hP hD hS (⟨fun h => (by first | exact rfl | (exfalso; omega)), fun h h2 => (by first | exact rfl | (exfalso; omega)), fun h h2 => (by first | (exfalso; omega) | exact ⟨rfl, by first | rw [if_pos c75] | rw [if_neg c75, if_pos c90] | rw [if_neg c75, if_neg c90]⟩)⟩) dX7_sample_110
                · skip
                  refine lv_aload_n hx hb dX7_sample_78 rfl (lv_at hl 1 rfl) ?_
                  refine va_get (D := D) (ci := 7) (v := .ref rT) (C := RX7) (T := TX7) (N := 24) hx hb hts hin7 hown hK hP 0 rfl rfl 4 (by decide) (hts (.fieldLink RX7 19 "DriftLogModel" "time" "[I") (by decide +kernel)) (fun _ h9 => h9) rfl dX7_sample_79 ?_
                  refine lv_iload hx hb dX7_sample_82 (lv_at hl 0 rfl) ?_
                  refine wz_iald (tys := TY cI cJ cT) hx hb hK hP 2 0 rfl rfl (by decide) (by constructor <;> omega) dX7_sample_84 ?_
                  refine lv_goto (tgt := 110) hx hb dX7_sample_85 (by decide) ?_
                  rw [hQ]
                  exact wz_reti (tys := TY cI cJ cT) 0 hx hb hr hlocks hK hP hD hS (⟨fun h => (by first | exact rfl | (exfalso; omega)), fun h h2 => (by first | exact rfl | (exfalso; omega)), fun h h2 => (by first | (exfalso; omega) | exact ⟨rfl, by first | rw [if_pos c75] | rw [if_neg c75, if_pos c90] | rw [if_neg c75, if_neg c90]⟩)⟩) dX7_sample_110
              · skip
                exact absurd c61 (by decide)
            · skip
              refine lv_iconst (v := iI 1) hx hb dX7_sample_49 rfl ?_
              refine lv_goto (tgt := 54) hx hb dX7_sample_50 (by decide) ?_
              refine va_put (D := D) (ci := 7) (v := .int (iI 1)) (ty := .int) (C := RX7) (T := TX7) (N := 24) hx hb hts hin7 tyX7 tyX7_ok nmX7 hown hK hP hD hS 0 rfl rfl 0 (by decide) (hts (.fieldLink RX7 56 "DriftLogModel" "thrown" "I") (by decide +kernel)) (fun _ h9 => h9) rfl (by decide +kernel) rfl rfl (Nat.le_of_ble_eq_true rfl) dX7_sample_54 (fun H locs hP hD hS => ?_)
              have hP : va_P D vwCl [(hm, .inr (7, [.int (iI 1), .ref rS, .ref rM, .ref rB, .ref rT, .ref rX, .ref rY, .ref rL, .int (iI sz1), .ref rR, .int (iI at1), .long (lI nu), .ref rt, .ref rx, .ref ry, .int (iI fo), .ref rF, .ref rG, .ref rU, .ref rV, .long (lI lo), .long (lI lB), .long (lI hi), .long (lI hB1)])), (rM, .inl (cI, 4, .inl (zA fM))), (rT, .inl (cI, 80, .inl (zA fT))), (rX, .inl (cI, 80, .inl (zA fX))), (rY, .inl (cI, 80, .inl (zA fY)))] H := hP
              have hD : va_D A [(hm, .inr (7, [.int (iI 1), .ref rS, .ref rM, .ref rB, .ref rT, .ref rX, .ref rY, .ref rL, .int (iI sz1), .ref rR, .int (iI at1), .long (lI nu), .ref rt, .ref rx, .ref ry, .int (iI fo), .ref rF, .ref rG, .ref rU, .ref rV, .long (lI lo), .long (lI lB), .long (lI hi), .long (lI hB1)])), (rM, .inl (cI, 4, .inl (zA fM))), (rT, .inl (cI, 80, .inl (zA fT))), (rX, .inl (cI, 80, .inl (zA fX))), (rY, .inl (cI, 80, .inl (zA fY)))] := hD
              refine lv_aload_n hx hb dX7_sample_57 rfl (lv_at hl 0 rfl) ?_
              refine va_get (D := D) (ci := 7) (v := .int (iI 1)) (C := RX7) (T := TX7) (N := 24) hx hb hts hin7 hown hK hP 0 rfl rfl 0 (by decide) (hts (.fieldLink RX7 56 "DriftLogModel" "thrown" "I") (by decide +kernel)) (fun _ h9 => h9) rfl dX7_sample_58 ?_
              refine wz_if_le (tgt := 66) hx hb dX7_sample_61 (by decide) (by decide) (fun c61 => ?_) (fun c61 => ?_)
              · skip
                exact absurd c61 (by decide)
              · skip
                refine lv_iconst (v := iI 0) hx hb dX7_sample_64 rfl ?_
                rw [hQ]
                exact wz_reti (tys := TY cI cJ cT) 1 hx hb hr hlocks hK hP hD hS (⟨fun h => (by first | exact rfl | (exfalso; omega)), fun h h2 => (by first | exact rfl | (exfalso; omega)), fun h h2 => (by first | (exfalso; omega) | exact ⟨rfl, by first | rw [if_pos c75] | rw [if_neg c75, if_pos c90] | rw [if_neg c75, if_neg c90]⟩)⟩) dX7_sample_65
        · skip
          exact absurd c29 (by decide)
      · skip
        refine lv_iconst (v := iI 1) hx hb dX7_sample_17 rfl ?_
        refine lv_goto (tgt := 22) hx hb dX7_sample_18 (by decide) ?_
        refine va_put (D := D) (ci := 7) (v := .int (iI 1)) (ty := .int) (C := RX7) (T := TX7) (N := 24) hx hb hts hin7 tyX7 tyX7_ok nmX7 hown hK hP hD hS 0 rfl rfl 0 (by decide) (hts (.fieldLink RX7 56 "DriftLogModel" "thrown" "I") (by decide +kernel)) (fun _ h9 => h9) rfl (by decide +kernel) rfl rfl (Nat.le_of_ble_eq_true rfl) dX7_sample_22 (fun H locs hP hD hS => ?_)
        have hP : va_P D vwCl [(hm, .inr (7, [.int (iI 1), .ref rS, .ref rM, .ref rB, .ref rT, .ref rX, .ref rY, .ref rL, .int (iI sz1), .ref rR, .int (iI at1), .long (lI nu), .ref rt, .ref rx, .ref ry, .int (iI fo), .ref rF, .ref rG, .ref rU, .ref rV, .long (lI lo), .long (lI lB), .long (lI hi), .long (lI hB1)])), (rM, .inl (cI, 4, .inl (zA fM))), (rT, .inl (cI, 80, .inl (zA fT))), (rX, .inl (cI, 80, .inl (zA fX))), (rY, .inl (cI, 80, .inl (zA fY)))] H := hP
        have hD : va_D A [(hm, .inr (7, [.int (iI 1), .ref rS, .ref rM, .ref rB, .ref rT, .ref rX, .ref rY, .ref rL, .int (iI sz1), .ref rR, .int (iI at1), .long (lI nu), .ref rt, .ref rx, .ref ry, .int (iI fo), .ref rF, .ref rG, .ref rU, .ref rV, .long (lI lo), .long (lI lB), .long (lI hi), .long (lI hB1)])), (rM, .inl (cI, 4, .inl (zA fM))), (rT, .inl (cI, 80, .inl (zA fT))), (rX, .inl (cI, 80, .inl (zA fX))), (rY, .inl (cI, 80, .inl (zA fY)))] := hD
        refine lv_aload_n hx hb dX7_sample_25 rfl (lv_at hl 0 rfl) ?_
        refine va_get (D := D) (ci := 7) (v := .int (iI 1)) (C := RX7) (T := TX7) (N := 24) hx hb hts hin7 hown hK hP 0 rfl rfl 0 (by decide) (hts (.fieldLink RX7 56 "DriftLogModel" "thrown" "I") (by decide +kernel)) (fun _ h9 => h9) rfl dX7_sample_26 ?_
        refine wz_if_le (tgt := 34) hx hb dX7_sample_29 (by decide) (by decide) (fun c29 => ?_) (fun c29 => ?_)
        · skip
          exact absurd c29 (by decide)
        · skip
          refine lv_iconst (v := iI 0) hx hb dX7_sample_32 rfl ?_
          rw [hQ]
          exact wz_reti (tys := TY cI cJ cT) 1 hx hb hr hlocks hK hP hD hS (⟨fun h => (by first | exact rfl | (exfalso; omega)), fun h h2 => (by first | exact rfl | (exfalso; omega)), fun h h2 => (by first | (exfalso; omega) | exact ⟨rfl, by first | rw [if_pos c75] | rw [if_neg c75, if_pos c90] | rw [if_neg c75, if_neg c90]⟩)⟩) dX7_sample_33
set_option maxHeartbeats 4000000 in
set_option maxRecDepth 100000 in
theorem k_X7_divisor (l : Launch) (D : va_G) (cI cJ cT : ClassId) (sz : Nat) (a : Int) (b : Int) (ha : -9223372036854775807 ≤ a ∧ a ≤ 9223372036854775807) (hb1 : 0 < b ∧ b ≤ 9223372036854775807) : Met l yX7_divisor wsX7_divisor { frames := 1, cells := 0, slots := 0, locals := 21 } (zPc D (TY cI cJ cT) [.long (lI a), .long (lI b)] [] sz) (zQl D (TY cI cJ cT) (va_A [] sz) (fun (z : Int) (u : Unit) => z = (gZ a b)) (fun (u : Unit) => [])) 0 0 (va_A [] sz) := by
  refine zMl (cc := cX7_divisor) (maxL := 10) (ret := (some .long)) (by decide) rfl (Nat.le_of_ble_eq_true rfl) ?_
  intro p e s m below meth c A ls hE
  obtain ⟨hx, hb, hr, hts, hown, hlocks, hml, hnm, hP, hK, hD, hA, hS, hl⟩ := hE
  have hown : s.vm.findClass RX7 = some m.cls := hown
  have hl : lv_has ls 10 [(0, .long (lI a)), (2, .long (lI b))] := hl
  obtain ⟨Q, hQ⟩ : ∃ Q, Q = MQ below (zQl D (TY cI cJ cT) A (fun (z : Int) (u : Unit) => z = (gZ a b)) (fun (u : Unit) => [])) ([.long (lI a), .long (lI b)] : List Value).toArray s 0 0 A := ⟨_, rfl⟩
  rw [← hQ]
  refine lv_lload_n hx hb dX7_divisor_0 rfl (lv_at hl 0 rfl) ?_
  refine wz_calll (wr := []) (va_runS (As := [.long (lI a)]) (rest := []) ⟨hx, hb, hml, hown, hts⟩ (k_X7_amount l D cI cJ cT s.heap.size a ) (va_cwS 1 hts gX7_divisor_X7_amount rfl rfl rfl (by decide +kernel) ⟨Nat.le_of_ble_eq_true rfl, Nat.le_of_ble_eq_true rfl⟩) (wz_preS hK hP hD [] (by decide) rfl rfl) rfl rfl hl.1 rfl (lv_room (Nat.le_of_ble_eq_true rfl)) dX7_divisor_1 ⟨Nat.le_of_ble_eq_true rfl, Nat.le_of_ble_eq_true rfl⟩) hP hD hS hA [] [] rfl rfl rfl (by decide) (fun z1 u H locs hw1 hP hD hS => ?_)
  have hP : va_P D vwCl [] H := hP.sub [] rfl
  have hD : va_D A [] := hD.sub [] (by decide) rfl
  subst hw1
  have la : 0 ≤ lab a ∧ lab a ≤ 9223372036854775807 ∧ gZ b (lab a) = gZ a b := by
    rw [lab_abs ⟨by omega, by omega⟩, gZ_comm]
    split
    · rw [gZ_neg]; exact ⟨by omega, by omega, rfl⟩
    · exact ⟨by omega, by omega, rfl⟩
  refine lv_lstore (lv' := [(4, .long (lI (lab a))), (0, .long (lI a)), (2, .long (lI b))]) hx hb dX7_divisor_4 hl (by decide) rfl (fun ls hl => ?_)
  refine lv_lload_n hx hb dX7_divisor_6 rfl (lv_at hl 2 rfl) ?_
  refine lv_lstore (lv' := [(6, .long (lI b)), (4, .long (lI (lab a))), (0, .long (lI a)), (2, .long (lI b))]) hx hb dX7_divisor_7 hl (by decide) rfl (fun ls hl => ?_)
  have LP9 : ∀ (N9 : Nat) (x : Int) (y : Int) (H : Heap) (locs : List Loc) (ls : Array Slot), ((0 ≤ x ∧ x ≤ 9223372036854775807) ∧ (0 ≤ y ∧ y ≤ 9223372036854775807) ∧ gZ y x = gZ a b) → (x) < (N9 : Int) → va_P D vwCl [] H → va_D A [] → va_S A s.heap H locs → lv_has ls 10 [(0, .long (lI a)), (2, .long (lI b)), (4, .long (lI x)), (6, .long (lI y))] → W p l e { frames := 1, cells := 0, slots := 0, locals := 21 } s m ([.long (lI a), .long (lI b)] : List Value).toArray below meth c H locs 0 0 Q (F0 m 9 ls []) := by
    intro N9
    induction N9 with
    | zero =>
      intro x y H locs ls hI hm
      obtain ⟨a1, a2, a3⟩ := hI
      exfalso; omega
    | succ N9 ih9 =>
      intro x y H locs ls hI hm9 hP hD hS hl
      obtain ⟨a1, a2, a3⟩ := hI
      refine lv_lload hx hb dX7_divisor_9 (lv_at hl 2 rfl) ?_
      refine lv_lconst (v := lI 0) hx hb dX7_divisor_11 (by decide) ?_
      refine W.lcmp hx hb dX7_divisor_12 ?_
      refine wz_lif_eq (tgt := 34) hx hb dX7_divisor_13 (by decide) ⟨by omega, by omega⟩ (by decide) (fun c13 => ?_) (fun c13 => ?_)
      · skip
        refine lv_lload hx hb dX7_divisor_34 (lv_at hl 3 rfl) ?_
        rw [hQ]
        exact wz_retl (tys := TY cI cJ cT) () hx hb hr hlocks hK hP hD hS (by rw [← a3, c13, gZ_0 a2.1]) dX7_divisor_36
      · skip
        refine lv_lload hx hb dX7_divisor_16 (lv_at hl 3 rfl) ?_
        refine lv_lload hx hb dX7_divisor_18 (lv_at hl 2 rfl) ?_
        refine lv_lrem hx hb dX7_divisor_20 (lI_ne0 ⟨by omega, by omega⟩ c13) ?_
        refine wz_topl (y := lI (y % x)) (by rw [lI_rem ⟨by omega, by omega⟩ ⟨by omega, by omega⟩ (by left; omega), Int.tmod_eq_emod_of_nonneg a2.1]) ?_
        refine lv_lstore (lv' := [(8, .long (lI (y % x))), (0, .long (lI a)), (2, .long (lI b)), (4, .long (lI x)), (6, .long (lI y))]) hx hb dX7_divisor_21 hl (by decide) rfl (fun ls hl => ?_)
        refine lv_lload hx hb dX7_divisor_23 (lv_at hl 3 rfl) ?_
        refine lv_lstore (lv' := [(6, .long (lI x)), (8, .long (lI (y % x))), (0, .long (lI a)), (2, .long (lI b)), (4, .long (lI x))]) hx hb dX7_divisor_25 hl (by decide) rfl (fun ls hl => ?_)
        refine lv_lload hx hb dX7_divisor_27 (lv_at hl 1 rfl) ?_
        refine lv_lstore (lv' := [(4, .long (lI (y % x))), (6, .long (lI x)), (8, .long (lI (y % x))), (0, .long (lI a)), (2, .long (lI b))]) hx hb dX7_divisor_29 hl (by decide) rfl (fun ls hl => ?_)
        refine lv_goto (tgt := 9) hx hb dX7_divisor_31 (by decide) ?_
        exact ih9 (y % x) x _ _ _ ⟨(by have := Int.emod_nonneg y (show x ≠ 0 by omega); have := Int.emod_lt_of_pos y (show 0 < x by omega); constructor <;> omega), (a1), (by rw [gZ_step a2.1 (by omega)]; exact a3)⟩ (by have := Int.emod_nonneg y (show x ≠ 0 by omega); have := Int.emod_lt_of_pos y (show 0 < x by omega); omega) hP hD hS (lv_sub hl [3, 4, 0, 1] rfl)
  exact LP9 (Int.toNat ((lab a)) + 1) (lab a) b _ _ _ ⟨(⟨la.1, la.2.1⟩), (by constructor <;> omega), (la.2.2)⟩ (by omega) hP hD hS (lv_sub hl [2, 3, 1, 0] rfl)
