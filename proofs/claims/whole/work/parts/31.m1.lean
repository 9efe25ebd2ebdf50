set_option maxHeartbeats 4000000 in
set_option maxRecDepth 100000 in
theorem k_X7_thrown (l : Launch) (D : va_G) (cI cJ cT : ClassId) (sz : Nat) (hm : Nat) (th : Int) (rS : Nat) (rM : Nat) (rB : Nat) (rT : Nat) (rX : Nat) (rY : Nat) (rL : Nat) (sz1 : Int) (rR : Nat) (at1 : Int) (nu : Int) (rt : Nat) (rx : Nat) (ry : Nat) (fo : Int) (rF : Nat) (rG : Nat) (rU : Nat) (rV : Nat) (lo : Int) (lB : Int) (hi : Int) (hB1 : Int)  : Met l yX7_thrown wsX7_thrown { frames := 0, cells := 0, slots := 0, locals := 0 } (zPc D (TY cI cJ cT) [.ref hm] [(hm, .inr (7, [.int (iI th), .ref rS, .ref rM, .ref rB, .ref rT, .ref rX, .ref rY, .ref rL, .int (iI sz1), .ref rR, .int (iI at1), .long (lI nu), .ref rt, .ref rx, .ref ry, .int (iI fo), .ref rF, .ref rG, .ref rU, .ref rV, .long (lI lo), .long (lI lB), .long (lI hi), .long (lI hB1)]))] sz) (zQi D (TY cI cJ cT) (va_A [(hm, .inr (7, [.int (iI th), .ref rS, .ref rM, .ref rB, .ref rT, .ref rX, .ref rY, .ref rL, .int (iI sz1), .ref rR, .int (iI at1), .long (lI nu), .ref rt, .ref rx, .ref ry, .int (iI fo), .ref rF, .ref rG, .ref rU, .ref rV, .long (lI lo), .long (lI lB), .long (lI hi), .long (lI hB1)]))] sz) (fun (z : Int) (u : Unit) => z = th) (fun (u : Unit) => [(hm, .inr (7, [.int (iI th), .ref rS, .ref rM, .ref rB, .ref rT, .ref rX, .ref rY, .ref rL, .int (iI sz1), .ref rR, .int (iI at1), .long (lI nu), .ref rt, .ref rx, .ref ry, .int (iI fo), .ref rF, .ref rG, .ref rU, .ref rV, .long (lI lo), .long (lI lB), .long (lI hi), .long (lI hB1)]))])) 0 0 (va_A [(hm, .inr (7, [.int (iI th), .ref rS, .ref rM, .ref rB, .ref rT, .ref rX, .ref rY, .ref rL, .int (iI sz1), .ref rR, .int (iI at1), .long (lI nu), .ref rt, .ref rx, .ref ry, .int (iI fo), .ref rF, .ref rG, .ref rU, .ref rV, .long (lI lo), .long (lI lB), .long (lI hi), .long (lI hB1)]))] sz) := by
  refine zMi (cc := cX7_thrown) (maxL := 1) (ret := (some .int)) (by decide) rfl (Nat.le_of_ble_eq_true rfl) ?_
  intro p e s m below meth c A ls hE
  obtain ⟨hx, hb, hr, hts, hown, hlocks, hml, hnm, hP, hK, hD, hA, hS, hl⟩ := hE
  have hown : s.vm.findClass RX7 = some m.cls := hown
  have hl : lv_has ls 1 [(0, .ref hm)] := hl
  have hin7 : ∀ w ∈ wsX70, w ∈ wsX7_thrown := by decide +kernel
  obtain ⟨Q, hQ⟩ : ∃ Q, Q = MQ below (zQi D (TY cI cJ cT) A (fun (z : Int) (u : Unit) => z = th) (fun (u : Unit) => [(hm, .inr (7, [.int (iI th), .ref rS, .ref rM, .ref rB, .ref rT, .ref rX, .ref rY, .ref rL, .int (iI sz1), .ref rR, .int (iI at1), .long (lI nu), .ref rt, .ref rx, .ref ry, .int (iI fo), .ref rF, .ref rG, .ref rU, .ref rV, .long (lI lo), .long (lI lB), .long (lI hi), .long (lI hB1)]))])) ([.ref hm] : List Value).toArray s 0 0 A := ⟨_, rfl⟩
  rw [← hQ]
  refine lv_aload_n hx hb dX7_thrown_0 rfl (lv_at hl 0 rfl) ?_
  refine va_get (D := D) (ci := 7) (v := .int (iI th)) (C := RX7) (T := TX7) (N := 24) hx hb hts hin7 hown hK hP 0 rfl rfl 0 (by decide) (hts (.fieldLink RX7 56 "DriftLogModel" "thrown" "I") (by decide +kernel)) (fun _ h9 => h9) rfl dX7_thrown_1 ?_
  rw [hQ]
  exact wz_reti (tys := TY cI cJ cT) () hx hb hr hlocks hK hP hD hS (rfl) dX7_thrown_4
set_option maxHeartbeats 4000000 in
set_option maxRecDepth 100000 in
theorem k_X7_isTrack (l : Launch) (D : va_G) (cI cJ cT : ClassId) (sz : Nat) (a : Int) (h1 : rI a) : Met l yX7_isTrack wsX7_isTrack { frames := 0, cells := 0, slots := 0, locals := 0 } (zPc D (TY cI cJ cT) [.int (iI a)] [] sz) (zQi D (TY cI cJ cT) (va_A [] sz) (fun (z : Int) (u : Unit) => z = (bz (0 ≤ a ∧ a < 4))) (fun (u : Unit) => [])) 0 0 (va_A [] sz) := by
  refine zMi (cc := cX7_isTrack) (maxL := 1) (ret := (some .boolean)) (by decide) rfl (Nat.le_of_ble_eq_true rfl) ?_
  intro p e s m below meth c A ls hE
  obtain ⟨hx, hb, hr, hts, hown, hlocks, hml, hnm, hP, hK, hD, hA, hS, hl⟩ := hE
  have hown : s.vm.findClass RX7 = some m.cls := hown
  have hl : lv_has ls 1 [(0, .int (iI a))] := hl
  obtain ⟨Q, hQ⟩ : ∃ Q, Q = MQ below (zQi D (TY cI cJ cT) A (fun (z : Int) (u : Unit) => z = (bz (0 ≤ a ∧ a < 4))) (fun (u : Unit) => [])) ([.int (iI a)] : List Value).toArray s 0 0 A := ⟨_, rfl⟩
  rw [← hQ]
  refine lv_iload_n hx hb dX7_isTrack_0 rfl (lv_at hl 0 rfl) ?_
  refine wz_if_lt (tgt := 13) hx hb dX7_isTrack_1 (by decide) ⟨by omega, by omega⟩ (fun c1 => ?_) (fun c1 => ?_)
  · skip
    refine lv_iconst (v := iI 0) hx hb dX7_isTrack_13 rfl ?_
    rw [hQ]
    exact wz_retz (tys := TY cI cJ cT) () hx hb hr hlocks hK hP hD hS (by first | decide | exact bz_01 _ | omega) ((bz_f (by omega)).symm) dX7_isTrack_14
  · skip
    refine lv_iload_n hx hb dX7_isTrack_4 rfl (lv_at hl 0 rfl) ?_
    refine lv_iconst (v := iI 4) hx hb dX7_isTrack_5 rfl ?_
    refine wz_icmp_ge (tgt := 13) hx hb dX7_isTrack_6 (by decide) ⟨by omega, by omega⟩ (by decide) (fun c6 => ?_) (fun c6 => ?_)
    · skip
      refine lv_iconst (v := iI 0) hx hb dX7_isTrack_13 rfl ?_
      rw [hQ]
      exact wz_retz (tys := TY cI cJ cT) () hx hb hr hlocks hK hP hD hS (by first | decide | exact bz_01 _ | omega) ((bz_f (by omega)).symm) dX7_isTrack_14
    · skip
      refine lv_iconst (v := iI 1) hx hb dX7_isTrack_9 rfl ?_
      refine lv_goto (tgt := 14) hx hb dX7_isTrack_10 (by decide) ?_
      rw [hQ]
      exact wz_retz (tys := TY cI cJ cT) () hx hb hr hlocks hK hP hD hS (by first | decide | exact bz_01 _ | omega) ((bz_t (by omega)).symm) dX7_isTrack_14
set_option maxHeartbeats 4000000 in
set_option maxRecDepth 100000 in
theorem k_X7_isPlace (l : Launch) (D : va_G) (cI cJ cT : ClassId) (sz : Nat) (a : Int) (h1 : rI a) : Met l yX7_isPlace wsX7_isPlace { frames := 0, cells := 0, slots := 0, locals := 0 } (zPc D (TY cI cJ cT) [.int (iI a)] [] sz) (zQi D (TY cI cJ cT) (va_A [] sz) (fun (z : Int) (u : Unit) => z = (bz (-8388608 ≤ a ∧ a ≤ 8388608))) (fun (u : Unit) => [])) 0 0 (va_A [] sz) := by
  refine zMi (cc := cX7_isPlace) (maxL := 1) (ret := (some .boolean)) (by decide) rfl (Nat.le_of_ble_eq_true rfl) ?_
  intro p e s m below meth c A ls hE
  obtain ⟨hx, hb, hr, hts, hown, hlocks, hml, hnm, hP, hK, hD, hA, hS, hl⟩ := hE
  have hown : s.vm.findClass RX7 = some m.cls := hown
  have hl : lv_has ls 1 [(0, .int (iI a))] := hl
  obtain ⟨Q, hQ⟩ : ∃ Q, Q = MQ below (zQi D (TY cI cJ cT) A (fun (z : Int) (u : Unit) => z = (bz (-8388608 ≤ a ∧ a ≤ 8388608))) (fun (u : Unit) => [])) ([.int (iI a)] : List Value).toArray s 0 0 A := ⟨_, rfl⟩
  rw [← hQ]
  refine lv_iload_n hx hb dX7_isPlace_0 rfl (lv_at hl 0 rfl) ?_
  refine lv_ldc (v := (-8388608)) hx hb hown (hts (.constant RX7 68 (-8388608)) (by decide +kernel)) dX7_isPlace_1 ?_
  refine wz_topi (show ((-8388608) : Int32) = iI (-8388608) by decide) ?_
  refine wz_icmp_lt (tgt := 16) hx hb dX7_isPlace_3 (by decide) ⟨by omega, by omega⟩ (by decide) (fun c3 => ?_) (fun c3 => ?_)
  · skip
    refine lv_iconst (v := iI 0) hx hb dX7_isPlace_16 rfl ?_
    rw [hQ]
    exact wz_retz (tys := TY cI cJ cT) () hx hb hr hlocks hK hP hD hS (by first | decide | exact bz_01 _ | omega) ((bz_f (by omega)).symm) dX7_isPlace_17
  · skip
    refine lv_iload_n hx hb dX7_isPlace_6 rfl (lv_at hl 0 rfl) ?_
    refine lv_ldc (v := 8388608) hx hb hown (hts (.constant RX7 69 (8388608)) (by decide +kernel)) dX7_isPlace_7 ?_
    refine wz_topi (show (8388608 : Int32) = iI 8388608 by decide) ?_
    refine wz_icmp_gt (tgt := 16) hx hb dX7_isPlace_9 (by decide) ⟨by omega, by omega⟩ (by decide) (fun c9 => ?_) (fun c9 => ?_)
    · skip
      refine lv_iconst (v := iI 0) hx hb dX7_isPlace_16 rfl ?_
      rw [hQ]
      exact wz_retz (tys := TY cI cJ cT) () hx hb hr hlocks hK hP hD hS (by first | decide | exact bz_01 _ | omega) ((bz_f (by omega)).symm) dX7_isPlace_17
    · skip
      refine lv_iconst (v := iI 1) hx hb dX7_isPlace_12 rfl ?_
      refine lv_goto (tgt := 17) hx hb dX7_isPlace_13 (by decide) ?_
      rw [hQ]
      exact wz_retz (tys := TY cI cJ cT) () hx hb hr hlocks hK hP hD hS (by first | decide | exact bz_01 _ | omega) ((bz_t (by omega)).symm) dX7_isPlace_17
set_option maxHeartbeats 4000000 in
set_option maxRecDepth 100000 in
theorem k_X7_isFrame (l : Launch) (D : va_G) (cI cJ cT : ClassId) (sz : Nat) (a : Int) (h1 : rI a) : Met l yX7_isFrame wsX7_isFrame { frames := 0, cells := 0, slots := 0, locals := 0 } (zPc D (TY cI cJ cT) [.int (iI a)] [] sz) (zQi D (TY cI cJ cT) (va_A [] sz) (fun (z : Int) (u : Unit) => z = (bz (-16777216 ≤ a ∧ a ≤ 16777216))) (fun (u : Unit) => [])) 0 0 (va_A [] sz) := by
  refine zMi (cc := cX7_isFrame) (maxL := 1) (ret := (some .boolean)) (by decide) rfl (Nat.le_of_ble_eq_true rfl) ?_
  intro p e s m below meth c A ls hE
  obtain ⟨hx, hb, hr, hts, hown, hlocks, hml, hnm, hP, hK, hD, hA, hS, hl⟩ := hE
  have hown : s.vm.findClass RX7 = some m.cls := hown
  have hl : lv_has ls 1 [(0, .int (iI a))] := hl
  obtain ⟨Q, hQ⟩ : ∃ Q, Q = MQ below (zQi D (TY cI cJ cT) A (fun (z : Int) (u : Unit) => z = (bz (-16777216 ≤ a ∧ a ≤ 16777216))) (fun (u : Unit) => [])) ([.int (iI a)] : List Value).toArray s 0 0 A := ⟨_, rfl⟩
  rw [← hQ]
  refine lv_iload_n hx hb dX7_isFrame_0 rfl (lv_at hl 0 rfl) ?_
  refine lv_ldc (v := (-16777216)) hx hb hown (hts (.constant RX7 168 (-16777216)) (by decide +kernel)) dX7_isFrame_1 ?_
  refine wz_topi (show ((-16777216) : Int32) = iI (-16777216) by decide) ?_
  refine wz_icmp_lt (tgt := 16) hx hb dX7_isFrame_3 (by decide) ⟨by omega, by omega⟩ (by decide) (fun c3 => ?_) (fun c3 => ?_)
  · skip
    refine lv_iconst (v := iI 0) hx hb dX7_isFrame_16 rfl ?_
    rw [hQ]
    exact wz_retz (tys := TY cI cJ cT) () hx hb hr hlocks hK hP hD hS (by first | decide | exact bz_01 _ | omega) ((bz_f (by omega)).symm) dX7_isFrame_17
  · skip
    refine lv_iload_n hx hb dX7_isFrame_6 rfl (lv_at hl 0 rfl) ?_
    refine lv_ldc (v := 16777216) hx hb hown (hts (.constant RX7 169 (16777216)) (by decide +kernel)) dX7_isFrame_7 ?_
    refine wz_topi (show (16777216 : Int32) = iI 16777216 by decide) ?_
    refine wz_icmp_gt (tgt := 16) hx hb dX7_isFrame_9 (by decide) ⟨by omega, by omega⟩ (by decide) (fun c9 => ?_) (fun c9 => ?_)
    · skip
      refine lv_iconst (v := iI 0) hx hb dX7_isFrame_16 rfl ?_
      rw [hQ]
      exact wz_retz (tys := TY cI cJ cT) () hx hb hr hlocks hK hP hD hS (by first | decide | exact bz_01 _ | omega) ((bz_f (by omega)).symm) dX7_isFrame_17
    · skip
      refine lv_iconst (v := iI 1) hx hb dX7_isFrame_12 rfl ?_
      refine lv_goto (tgt := 17) hx hb dX7_isFrame_13 (by decide) ?_
      rw [hQ]
      exact wz_retz (tys := TY cI cJ cT) () hx hb hr hlocks hK hP hD hS (by first | decide | exact bz_01 _ | omega) ((bz_t (by omega)).symm) dX7_isFrame_17
set_option maxHeartbeats 4000000 in
set_option maxRecDepth 100000 in
theorem k_X7_is (l : Launch) (D : va_G) (cI cJ cT : ClassId) (sz : Nat) (hm : Nat) (th : Int) (rS : Nat) (rM : Nat) (rB : Nat) (rT : Nat) (rX : Nat) (rY : Nat) (rL : Nat) (sz1 : Int) (rR : Nat) (at1 : Int) (nu : Int) (rt : Nat) (rx : Nat) (ry : Nat) (fo : Int) (rF : Nat) (rG : Nat) (rU : Nat) (rV : Nat) (lo : Int) (lB : Int) (hi : Int) (hB1 : Int) (fS : Int → Int) (a : Int) (w : Int) (ha : trk a) (hw1 : rI w) (hS1 : ∀ i, 0 ≤ fS i ∧ fS i ≤ 2) : Met l yX7_is wsX7_is { frames := 1, cells := 0, slots := 0, locals := 20 } (zPc D (TY cI cJ cT) [.ref hm, .int (iI a), .int (iI w)] [(hm, .inr (7, [.int (iI th), .ref rS, .ref rM, .ref rB, .ref rT, .ref rX, .ref rY, .ref rL, .int (iI sz1), .ref rR, .int (iI at1), .long (lI nu), .ref rt, .ref rx, .ref ry, .int (iI fo), .ref rF, .ref rG, .ref rU, .ref rV, .long (lI lo), .long (lI lB), .long (lI hi), .long (lI hB1)])), (rS, .inl (cI, 4, .inl (zA fS)))] sz) (zQi D (TY cI cJ cT) (va_A [(hm, .inr (7, [.int (iI th), .ref rS, .ref rM, .ref rB, .ref rT, .ref rX, .ref rY, .ref rL, .int (iI sz1), .ref rR, .int (iI at1), .long (lI nu), .ref rt, .ref rx, .ref ry, .int (iI fo), .ref rF, .ref rG, .ref rU, .ref rV, .long (lI lo), .long (lI lB), .long (lI hi), .long (lI hB1)])), (rS, .inl (cI, 4, .inl (zA fS)))] sz) (fun (z : Int) (u : Unit) => z = (bz (fS a = w))) (fun (u : Unit) => [(hm, .inr (7, [.int (iI th), .ref rS, .ref rM, .ref rB, .ref rT, .ref rX, .ref rY, .ref rL, .int (iI sz1), .ref rR, .int (iI at1), .long (lI nu), .ref rt, .ref rx, .ref ry, .int (iI fo), .ref rF, .ref rG, .ref rU, .ref rV, .long (lI lo), .long (lI lB), .long (lI hi), .long (lI hB1)])), (rS, .inl (cI, 4, .inl (zA fS)))])) 0 0 (va_A [(hm, .inr (7, [.int (iI th), .ref rS, .ref rM, .ref rB, .ref rT, .ref rX, .ref rY, .ref rL, .int (iI sz1), .ref rR, .int (iI at1), .long (lI nu), .ref rt, .ref rx, .ref ry, .int (iI fo), .ref rF, .ref rG, .ref rU, .ref rV, .long (lI lo), .long (lI lB), .long (lI hi), .long (lI hB1)])), (rS, .inl (cI, 4, .inl (zA fS)))] sz) := by
  refine zMi (cc := cX7_is) (maxL := 3) (ret := (some .boolean)) (by decide) rfl (Nat.le_of_ble_eq_true rfl) ?_
  intro p e s m below meth c A ls hE
  obtain ⟨hx, hb, hr, hts, hown, hlocks, hml, hnm, hP, hK, hD, hA, hS, hl⟩ := hE
  have hown : s.vm.findClass RX7 = some m.cls := hown
  have hl : lv_has ls 3 [(0, .ref hm), (1, .int (iI a)), (2, .int (iI w))] := hl
  have hin7 : ∀ w ∈ wsX70, w ∈ wsX7_is := by decide +kernel
  obtain ⟨Q, hQ⟩ : ∃ Q, Q = MQ below (zQi D (TY cI cJ cT) A (fun (z : Int) (u : Unit) => z = (bz (fS a = w))) (fun (u : Unit) => [(hm, .inr (7, [.int (iI th), .ref rS, .ref rM, .ref rB, .ref rT, .ref rX, .ref rY, .ref rL, .int (iI sz1), .ref rR, .int (iI at1), .long (lI nu), .ref rt, .ref rx, .ref ry, .int (iI fo), .ref rF, .ref rG, .ref rU, .ref rV, .long (lI lo), .long (lI lB), .long (lI hi), .long (lI hB1)])), (rS, .inl (cI, 4, .inl (zA fS)))])) ([.ref hm, .int (iI a), .int (iI w)] : List Value).toArray s 0 0 A := ⟨_, rfl⟩
  rw [← hQ]
  refine lv_aload_n hx hb dX7_is_0 rfl (lv_at hl 0 rfl) ?_
  refine va_get (D := D) (ci := 7) (v := .ref rS) (C := RX7) (T := TX7) (N := 24) hx hb hts hin7 hown hK hP 0 rfl rfl 1 (by decide) (hts (.fieldLink RX7 7 "DriftLogModel" "state" "[I") (by decide +kernel)) (fun _ h9 => h9) rfl dX7_is_1 ?_
  refine lv_iload_n hx hb dX7_is_4 rfl (lv_at hl 1 rfl) ?_
  refine wz_calli (wr := [(hm, .inr (7, [.int (iI th), .ref rS, .ref rM, .ref rB, .ref rT, .ref rX, .ref rY, .ref rL, .int (iI sz1), .ref rR, .int (iI at1), .long (lI nu), .ref rt, .ref rx, .ref ry, .int (iI fo), .ref rF, .ref rG, .ref rU, .ref rV, .long (lI lo), .long (lI lB), .long (lI hi), .long (lI hB1)])), (rS, .inl (cI, 4, .inl (zA fS)))]) (va_runS (As := [.int (iI a)]) (rest := [.ref rS]) ⟨hx, hb, hml, hown, hts⟩ (k_X7_isTrack l D cI cJ cT s.heap.size a (by omega)) (va_cwS 1 hts gX7_is_X7_isTrack rfl rfl rfl (by decide +kernel) ⟨Nat.le_of_ble_eq_true rfl, Nat.le_of_ble_eq_true rfl⟩) (wz_preS hK hP hD [] (by decide) rfl rfl) rfl rfl hl.1 rfl (lv_room (Nat.le_of_ble_eq_true rfl)) dX7_is_5 ⟨Nat.le_of_ble_eq_true rfl, Nat.le_of_ble_eq_true rfl⟩) hP hD hS hA [] [0, 1] rfl rfl rfl (by decide) (fun z5 u H locs hw5 hP hD hS => ?_)
  have hP : va_P D vwCl [(hm, .inr (7, [.int (iI th), .ref rS, .ref rM, .ref rB, .ref rT, .ref rX, .ref rY, .ref rL, .int (iI sz1), .ref rR, .int (iI at1), .long (lI nu), .ref rt, .ref rx, .ref ry, .int (iI fo), .ref rF, .ref rG, .ref rU, .ref rV, .long (lI lo), .long (lI lB), .long (lI hi), .long (lI hB1)])), (rS, .inl (cI, 4, .inl (zA fS)))] H := hP.sub [0, 1] rfl
  have hD : va_D A [(hm, .inr (7, [.int (iI th), .ref rS, .ref rM, .ref rB, .ref rT, .ref rX, .ref rY, .ref rL, .int (iI sz1), .ref rR, .int (iI at1), .long (lI nu), .ref rt, .ref rx, .ref ry, .int (iI fo), .ref rF, .ref rG, .ref rU, .ref rV, .long (lI lo), .long (lI lB), .long (lI hi), .long (lI hB1)])), (rS, .inl (cI, 4, .inl (zA fS)))] := hD.sub [0, 1] (by decide) rfl
  subst hw5
  refine wz_ifb_eq (tgt := 15) hx hb dX7_is_8 (by decide) (fun c8 => ?_) (fun c8 => ?_)
  · skip
    exact absurd ha c8
  · skip
    refine lv_iload_n hx hb dX7_is_11 rfl (lv_at hl 1 rfl) ?_
    refine lv_goto (tgt := 16) hx hb dX7_is_12 (by decide) ?_
    refine wz_iald (tys := TY cI cJ cT) hx hb hK hP 1 0 rfl rfl (by decide) (by constructor <;> omega) dX7_is_16 ?_
    refine lv_iload_n hx hb dX7_is_17 rfl (lv_at hl 2 rfl) ?_
    refine wz_icmp_ne (tgt := 25) hx hb dX7_is_18 (by decide) (by have := hS1 a; constructor <;> omega) (hw1) (fun c18 => ?_) (fun c18 => ?_)
    · skip
      refine lv_iconst (v := iI 0) hx hb dX7_is_25 rfl ?_
      rw [hQ]
      exact wz_retz (tys := TY cI cJ cT) () hx hb hr hlocks hK hP hD hS (by first | decide | exact bz_01 _ | omega) ((bz_f c18).symm) dX7_is_26
    · skip
      refine lv_iconst (v := iI 1) hx hb dX7_is_21 rfl ?_
      refine lv_goto (tgt := 26) hx hb dX7_is_22 (by decide) ?_
      rw [hQ]
      exact wz_retz (tys := TY cI cJ cT) () hx hb hr hlocks hK hP hD hS (by first | decide | exact bz_01 _ | omega) ((bz_t c18).symm) dX7_is_26
set_option maxHeartbeats 4000000 in
set_option maxRecDepth 100000 in
theorem k_X7_amount (l : Launch) (D : va_G) (cI cJ cT : ClassId) (sz : Nat) (v : Int)  : Met l yX7_amount wsX7_amount { frames := 0, cells := 0, slots := 0, locals := 0 } (zPc D (TY cI cJ cT) [.long (lI v)] [] sz) (zQl D (TY cI cJ cT) (va_A [] sz) (fun (z : Int) (u : Unit) => z = (lab v)) (fun (u : Unit) => [])) 0 0 (va_A [] sz) := by
  refine zMl (cc := cX7_amount) (maxL := 2) (ret := (some .long)) (by decide) rfl (Nat.le_of_ble_eq_true rfl) ?_
  intro p e s m below meth c A ls hE
  obtain ⟨hx, hb, hr, hts, hown, hlocks, hml, hnm, hP, hK, hD, hA, hS, hl⟩ := hE
  have hown : s.vm.findClass RX7 = some m.cls := hown
  have hl : lv_has ls 2 [(0, .long (lI v))] := hl
  obtain ⟨Q, hQ⟩ : ∃ Q, Q = MQ below (zQl D (TY cI cJ cT) A (fun (z : Int) (u : Unit) => z = (lab v)) (fun (u : Unit) => [])) ([.long (lI v)] : List Value).toArray s 0 0 A := ⟨_, rfl⟩
  rw [← hQ]
  refine lv_lload_n hx hb dX7_amount_0 rfl (lv_at hl 0 rfl) ?_
  refine lv_lconst (v := lI 0) hx hb dX7_amount_1 (by decide) ?_
  refine W.lcmp hx hb dX7_amount_2 ?_
  refine wz_lraw_ge (tgt := 11) hx hb dX7_amount_3 (by decide) (fun c3 => ?_) (fun c3 => ?_)
  · skip
    refine lv_lload_n hx hb dX7_amount_11 rfl (lv_at hl 0 rfl) ?_
    rw [hQ]
    exact wz_retl (tys := TY cI cJ cT) () hx hb hr hlocks hK hP hD hS (by first | exact (lab_p c3).symm | exact (lab_n c3).symm) dX7_amount_12
  · skip
    refine lv_lload_n hx hb dX7_amount_6 rfl (lv_at hl 0 rfl) ?_
    refine wz_lneg hx hb dX7_amount_7 ?_
    refine lv_goto (tgt := 12) hx hb dX7_amount_8 (by decide) ?_
    rw [hQ]
    exact wz_retl (tys := TY cI cJ cT) () hx hb hr hlocks hK hP hD hS (by first | exact (lab_p c3).symm | exact (lab_n c3).symm) dX7_amount_12
set_option maxHeartbeats 4000000 in
set_option maxRecDepth 100000 in
theorem k_X7_follows (l : Launch) (D : va_G) (cI cJ cT : ClassId) (sz : Nat) (hm : Nat) (th : Int) (rS : Nat) (rM : Nat) (rB : Nat) (rT : Nat) (rX : Nat) (rY : Nat) (rL : Nat) (sz1 : Int) (rR : Nat) (at1 : Int) (nu : Int) (rt : Nat) (rx : Nat) (ry : Nat) (fo : Int) (rF : Nat) (rG : Nat) (rU : Nat) (rV : Nat) (lo : Int) (lB : Int) (hi : Int) (hB1 : Int) (fT : Int → Int) (fX : Int → Int) (fY : Int → Int) (i : Int) (j : Int) (e1 : Int) (ht : okT fT) (hx1 : okC fX) (hy1 : okC fY) (hi1 : 0 ≤ i ∧ i < j) (hj : j < 80) (he : rI e1) : Met l yX7_follows wsX7_follows { frames := 1, cells := 0, slots := 0, locals := 21 } (zPc D (TY cI cJ cT) [.ref hm, .int (iI i), .int (iI j), .int (iI e1)] [(hm, .inr (7, [.int (iI th), .ref rS, .ref rM, .ref rB, .ref rT, .ref rX, .ref rY, .ref rL, .int (iI sz1), .ref rR, .int (iI at1), .long (lI nu), .ref rt, .ref rx, .ref ry, .int (iI fo), .ref rF, .ref rG, .ref rU, .ref rV, .long (lI lo), .long (lI lB), .long (lI hi), .long (lI hB1)])), (rT, .inl (cI, 80, .inl (zA fT))), (rX, .inl (cI, 80, .inl (zA fX))), (rY, .inl (cI, 80, .inl (zA fY)))] sz) (zQi D (TY cI cJ cT) (va_A [(hm, .inr (7, [.int (iI th), .ref rS, .ref rM, .ref rB, .ref rT, .ref rX, .ref rY, .ref rL, .int (iI sz1), .ref rR, .int (iI at1), .long (lI nu), .ref rt, .ref rx, .ref ry, .int (iI fo), .ref rF, .ref rG, .ref rU, .ref rV, .long (lI lo), .long (lI lB), .long (lI hi), .long (lI hB1)])), (rT, .inl (cI, 80, .inl (zA fT))), (rX, .inl (cI, 80, .inl (zA fX))), (rY, .inl (cI, 80, .inl (zA fY)))] sz) (fun (z : Int) (u : Unit) => z = (bz (stepP fT fX fY e1 i j))) (fun (u : Unit) => [(hm, .inr (7, [.int (iI th), .ref rS, .ref rM, .ref rB, .ref rT, .ref rX, .ref rY, .ref rL, .int (iI sz1), .ref rR, .int (iI at1), .long (lI nu), .ref rt, .ref rx, .ref ry, .int (iI fo), .ref rF, .ref rG, .ref rU, .ref rV, .long (lI lo), .long (lI lB), .long (lI hi), .long (lI hB1)])), (rT, .inl (cI, 80, .inl (zA fT))), (rX, .inl (cI, 80, .inl (zA fX))), (rY, .inl (cI, 80, .inl (zA fY)))])) 0 0 (va_A [(hm, .inr (7, [.int (iI th), .ref rS, .ref rM, .ref rB, .ref rT, .ref rX, .ref rY, .ref rL, .int (iI sz1), .ref rR, .int (iI at1), .long (lI nu), .ref rt, .ref rx, .ref ry, .int (iI fo), .ref rF, .ref rG, .ref rU, .ref rV, .long (lI lo), .long (lI lB), .long (lI hi), .long (lI hB1)])), (rT, .inl (cI, 80, .inl (zA fT))), (rX, .inl (cI, 80, .inl (zA fX))), (rY, .inl (cI, 80, .inl (zA fY)))] sz) := by
  refine zMi (cc := cX7_follows) (maxL := 13) (ret := (some .boolean)) (by decide) rfl (Nat.le_of_ble_eq_true rfl) ?_
  intro p e s m below meth c A ls hE
  obtain ⟨hx, hb, hr, hts, hown, hlocks, hml, hnm, hP, hK, hD, hA, hS, hl⟩ := hE
  have hown : s.vm.findClass RX7 = some m.cls := hown
  have hl : lv_has ls 13 [(0, .ref hm), (1, .int (iI i)), (2, .int (iI j)), (3, .int (iI e1))] := hl
  have hin7 : ∀ w ∈ wsX70, w ∈ wsX7_follows := by decide +kernel
  obtain ⟨Q, hQ⟩ : ∃ Q, Q = MQ below (zQi D (TY cI cJ cT) A (fun (z : Int) (u : Unit) => z = (bz (stepP fT fX fY e1 i j))) (fun (u : Unit) => [(hm, .inr (7, [.int (iI th), .ref rS, .ref rM, .ref rB, .ref rT, .ref rX, .ref rY, .ref rL, .int (iI sz1), .ref rR, .int (iI at1), .long (lI nu), .ref rt, .ref rx, .ref ry, .int (iI fo), .ref rF, .ref rG, .ref rU, .ref rV, .long (lI lo), .long (lI lB), .long (lI hi), .long (lI hB1)])), (rT, .inl (cI, 80, .inl (zA fT))), (rX, .inl (cI, 80, .inl (zA fX))), (rY, .inl (cI, 80, .inl (zA fY)))])) ([.ref hm, .int (iI i), .int (iI j), .int (iI e1)] : List Value).toArray s 0 0 A := ⟨_, rfl⟩
  rw [← hQ]
  refine lv_aload_n hx hb dX7_follows_0 rfl (lv_at hl 0 rfl) ?_
  refine va_get (D := D) (ci := 7) (v := .ref rT) (C := RX7) (T := TX7) (N := 24) hx hb hts hin7 hown hK hP 0 rfl rfl 4 (by decide) (hts (.fieldLink RX7 19 "DriftLogModel" "time" "[I") (by decide +kernel)) (fun _ h9 => h9) rfl dX7_follows_1 ?_
  refine lv_iload_n hx hb dX7_follows_4 rfl (lv_at hl 2 rfl) ?_
  refine wz_iald (tys := TY cI cJ cT) hx hb hK hP 1 0 rfl rfl (by decide) (by constructor <;> omega) dX7_follows_5 ?_
  refine wz_i2l hx hb dX7_follows_6 (by have := ht j; constructor <;> omega) ?_
  refine lv_aload_n hx hb dX7_follows_7 rfl (lv_at hl 0 rfl) ?_
  refine va_get (D := D) (ci := 7) (v := .ref rT) (C := RX7) (T := TX7) (N := 24) hx hb hts hin7 hown hK hP 0 rfl rfl 4 (by decide) (hts (.fieldLink RX7 19 "DriftLogModel" "time" "[I") (by decide +kernel)) (fun _ h9 => h9) rfl dX7_follows_8 ?_
  refine lv_iload_n hx hb dX7_follows_11 rfl (lv_at hl 1 rfl) ?_
  refine wz_iald (tys := TY cI cJ cT) hx hb hK hP 1 0 rfl rfl (by decide) (by constructor <;> omega) dX7_follows_12 ?_
  refine wz_i2l hx hb dX7_follows_13 (by have := ht i; constructor <;> omega) ?_
  refine wz_lsub hx hb dX7_follows_14 ?_
  refine lv_lstore (lv' := [(4, .long (lI ((fT j) - (fT i)))), (0, .ref hm), (1, .int (iI i)), (2, .int (iI j)), (3, .int (iI e1))]) hx hb dX7_follows_15 hl (by decide) rfl (fun ls hl => ?_)
  refine lv_iload_n hx hb dX7_follows_17 rfl (lv_at hl 2 rfl) ?_
  refine lv_iconst (v := iI 1) hx hb dX7_follows_18 rfl ?_
  refine wz_iadd hx hb dX7_follows_19 ?_
  refine lv_istore (lv' := [(6, .int (iI (i + 1))), (4, .long (lI ((fT j) - (fT i)))), (0, .ref hm), (1, .int (iI i)), (2, .int (iI j)), (3, .int (iI e1))]) hx hb dX7_follows_20 hl (by decide) rfl (fun ls hl => ?_)
  have LP22 : ∀ (N22 : Nat) (k : Int) (H : Heap) (locs : List Loc) (ls : Array Slot), ((i < k ∧ k ≤ j) ∧ (∀ q, i < q → q < k → near fT fX e1 i q j ∧ near fT fY e1 i q j)) → (j - k) < (N22 : Int) → va_P D vwCl [(hm, .inr (7, [.int (iI th), .ref rS, .ref rM, .ref rB, .ref rT, .ref rX, .ref rY, .ref rL, .int (iI sz1), .ref rR, .int (iI at1), .long (lI nu), .ref rt, .ref rx, .ref ry, .int (iI fo), .ref rF, .ref rG, .ref rU, .ref rV, .long (lI lo), .long (lI lB), .long (lI hi), .long (lI hB1)])), (rT, .inl (cI, 80, .inl (zA fT))), (rX, .inl (cI, 80, .inl (zA fX))), (rY, .inl (cI, 80, .inl (zA fY)))] H → va_D A [(hm, .inr (7, [.int (iI th), .ref rS, .ref rM, .ref rB, .ref rT, .ref rX, .ref rY, .ref rL, .int (iI sz1), .ref rR, .int (iI at1), .long (lI nu), .ref rt, .ref rx, .ref ry, .int (iI fo), .ref rF, .ref rG, .ref rU, .ref rV, .long (lI lo), .long (lI lB), .long (lI hi), .long (lI hB1)])), (rT, .inl (cI, 80, .inl (zA fT))), (rX, .inl (cI, 80, .inl (zA fX))), (rY, .inl (cI, 80, .inl (zA fY)))] → va_S A s.heap H locs → lv_has ls 13 [(0, .ref hm), (1, .int (iI i)), (2, .int (iI j)), (3, .int (iI e1)), (4, .long (lI ((fT j) - (fT i)))), (6, .int (iI k))] → W p l e { frames := 1, cells := 0, slots := 0, locals := 21 } s m ([.ref hm, .int (iI i), .int (iI j), .int (iI e1)] : List Value).toArray below meth c H locs 0 0 Q (F0 m 22 ls []) := by
    intro N22
    induction N22 with
    | zero =>
      intro k H locs ls hI hm
      obtain ⟨a1, a2⟩ := hI
      exfalso; omega
    | succ N22 ih22 =>
      intro k H locs ls hI hm22 hP hD hS hl
      obtain ⟨a1, a2⟩ := hI
      refine lv_iload hx hb dX7_follows_22 (lv_at hl 5 rfl) ?_
      refine lv_iload_n hx hb dX7_follows_24 rfl (lv_at hl 2 rfl) ?_
      refine wz_icmp_ge (tgt := 162) hx hb dX7_follows_25 (by decide) ⟨by omega, by omega⟩ ⟨by omega, by omega⟩ (fun c25 => ?_) (fun c25 => ?_)
      · skip
        refine lv_iconst (v := iI 1) hx hb dX7_follows_162 rfl ?_
        rw [hQ]
        exact wz_retz (tys := TY cI cJ cT) () hx hb hr hlocks hK hP hD hS (by first | decide | exact bz_01 _ | omega) ((bz_t (fun q h1 h2 => a2 q h1 (by omega))).symm) dX7_follows_163
      · skip
        refine lv_aload_n hx hb dX7_follows_28 rfl (lv_at hl 0 rfl) ?_
        refine va_get (D := D) (ci := 7) (v := .ref rT) (C := RX7) (T := TX7) (N := 24) hx hb hts hin7 hown hK hP 0 rfl rfl 4 (by decide) (hts (.fieldLink RX7 19 "DriftLogModel" "time" "[I") (by decide +kernel)) (fun _ h9 => h9) rfl dX7_follows_29 ?_
        refine lv_iload hx hb dX7_follows_32 (lv_at hl 5 rfl) ?_
        refine wz_iald (tys := TY cI cJ cT) hx hb hK hP 1 0 rfl rfl (by decide) (by constructor <;> omega) dX7_follows_34 ?_
        refine wz_i2l hx hb dX7_follows_35 (by have := ht k; constructor <;> omega) ?_
        refine lv_aload_n hx hb dX7_follows_36 rfl (lv_at hl 0 rfl) ?_
        refine va_get (D := D) (ci := 7) (v := .ref rT) (C := RX7) (T := TX7) (N := 24) hx hb hts hin7 hown hK hP 0 rfl rfl 4 (by decide) (hts (.fieldLink RX7 19 "DriftLogModel" "time" "[I") (by decide +kernel)) (fun _ h9 => h9) rfl dX7_follows_37 ?_
        refine lv_iload_n hx hb dX7_follows_40 rfl (lv_at hl 1 rfl) ?_
        refine wz_iald (tys := TY cI cJ cT) hx hb hK hP 1 0 rfl rfl (by decide) (by constructor <;> omega) dX7_follows_41 ?_
        refine wz_i2l hx hb dX7_follows_42 (by have := ht i; constructor <;> omega) ?_
        refine wz_lsub hx hb dX7_follows_43 ?_
        refine lv_lstore (lv' := [(7, .long (lI ((fT k) - (fT i)))), (0, .ref hm), (1, .int (iI i)), (2, .int (iI j)), (3, .int (iI e1)), (4, .long (lI ((fT j) - (fT i)))), (6, .int (iI k))]) hx hb dX7_follows_44 hl (by decide) rfl (fun ls hl => ?_)
        refine lv_aload_n hx hb dX7_follows_46 rfl (lv_at hl 1 rfl) ?_
        refine va_get (D := D) (ci := 7) (v := .ref rX) (C := RX7) (T := TX7) (N := 24) hx hb hts hin7 hown hK hP 0 rfl rfl 5 (by decide) (hts (.fieldLink RX7 22 "DriftLogModel" "px" "[I") (by decide +kernel)) (fun _ h9 => h9) rfl dX7_follows_47 ?_
        refine lv_iload hx hb dX7_follows_50 (lv_at hl 6 rfl) ?_
        refine wz_iald (tys := TY cI cJ cT) hx hb hK hP 2 0 rfl rfl (by decide) (by constructor <;> omega) dX7_follows_52 ?_
        refine wz_i2l hx hb dX7_follows_53 (by have := hx1 k; constructor <;> omega) ?_
        refine lv_aload_n hx hb dX7_follows_54 rfl (lv_at hl 1 rfl) ?_
        refine va_get (D := D) (ci := 7) (v := .ref rX) (C := RX7) (T := TX7) (N := 24) hx hb hts hin7 hown hK hP 0 rfl rfl 5 (by decide) (hts (.fieldLink RX7 22 "DriftLogModel" "px" "[I") (by decide +kernel)) (fun _ h9 => h9) rfl dX7_follows_55 ?_
        refine lv_iload_n hx hb dX7_follows_58 rfl (lv_at hl 2 rfl) ?_
        refine wz_iald (tys := TY cI cJ cT) hx hb hK hP 2 0 rfl rfl (by decide) (by constructor <;> omega) dX7_follows_59 ?_
        refine wz_i2l hx hb dX7_follows_60 (by have := hx1 i; constructor <;> omega) ?_
        refine wz_lsub hx hb dX7_follows_61 ?_
        refine lv_lload hx hb dX7_follows_62 (lv_at hl 5 rfl) ?_
        refine wz_lmul hx hb dX7_follows_64 ?_
        refine lv_aload_n hx hb dX7_follows_65 rfl (lv_at hl 1 rfl) ?_
        refine va_get (D := D) (ci := 7) (v := .ref rX) (C := RX7) (T := TX7) (N := 24) hx hb hts hin7 hown hK hP 0 rfl rfl 5 (by decide) (hts (.fieldLink RX7 22 "DriftLogModel" "px" "[I") (by decide +kernel)) (fun _ h9 => h9) rfl dX7_follows_66 ?_
        refine lv_iload_n hx hb dX7_follows_69 rfl (lv_at hl 3 rfl) ?_
        refine wz_iald (tys := TY cI cJ cT) hx hb hK hP 2 0 rfl rfl (by decide) (by constructor <;> omega) dX7_follows_70 ?_
        refine wz_i2l hx hb dX7_follows_71 (by have := hx1 j; constructor <;> omega) ?_
        refine lv_aload_n hx hb dX7_follows_72 rfl (lv_at hl 1 rfl) ?_
        refine va_get (D := D) (ci := 7) (v := .ref rX) (C := RX7) (T := TX7) (N := 24) hx hb hts hin7 hown hK hP 0 rfl rfl 5 (by decide) (hts (.fieldLink RX7 22 "DriftLogModel" "px" "[I") (by decide +kernel)) (fun _ h9 => h9) rfl dX7_follows_73 ?_
        refine lv_iload_n hx hb dX7_follows_76 rfl (lv_at hl 2 rfl) ?_
        refine wz_iald (tys := TY cI cJ cT) hx hb hK hP 2 0 rfl rfl (by decide) (by constructor <;> omega) dX7_follows_77 ?_
        refine wz_i2l hx hb dX7_follows_78 (by have := hx1 i; constructor <;> omega) ?_
        refine wz_lsub hx hb dX7_follows_79 ?_
        refine lv_lload hx hb dX7_follows_80 (lv_at hl 0 rfl) ?_
        refine wz_lmul hx hb dX7_follows_82 ?_
        refine wz_lsub hx hb dX7_follows_83 ?_
        refine lv_lstore (lv' := [(9, .long (lI ((((fX k) - (fX i)) * ((fT j) - (fT i))) - (((fX j) - (fX i)) * ((fT k) - (fT i)))))), (7, .long (lI ((fT k) - (fT i)))), (0, .ref hm), (1, .int (iI i)), (2, .int (iI j)), (3, .int (iI e1)), (4, .long (lI ((fT j) - (fT i)))), (6, .int (iI k))]) hx hb dX7_follows_84 hl (by decide) rfl (fun ls hl => ?_)
        refine lv_aload_n hx hb dX7_follows_86 rfl (lv_at hl 2 rfl) ?_
        refine va_get (D := D) (ci := 7) (v := .ref rY) (C := RX7) (T := TX7) (N := 24) hx hb hts hin7 hown hK hP 0 rfl rfl 6 (by decide) (hts (.fieldLink RX7 25 "DriftLogModel" "py" "[I") (by decide +kernel)) (fun _ h9 => h9) rfl dX7_follows_87 ?_
        refine lv_iload hx hb dX7_follows_90 (lv_at hl 7 rfl) ?_
        refine wz_iald (tys := TY cI cJ cT) hx hb hK hP 3 0 rfl rfl (by decide) (by constructor <;> omega) dX7_follows_92 ?_
        refine wz_i2l hx hb dX7_follows_93 (by have := hy1 k; constructor <;> omega) ?_
        refine lv_aload_n hx hb dX7_follows_94 rfl (lv_at hl 2 rfl) ?_
        refine va_get (D := D) (ci := 7) (v := .ref rY) (C := RX7) (T := TX7) (N := 24) hx hb hts hin7 hown hK hP 0 rfl rfl 6 (by decide) (hts (.fieldLink RX7 25 "DriftLogModel" "py" "[I") (by decide +kernel)) (fun _ h9 => h9) rfl dX7_follows_95 ?_
        refine lv_iload_n hx hb dX7_follows_98 rfl (lv_at hl 3 rfl) ?_
        refine wz_iald (tys := TY cI cJ cT) hx hb hK hP 3 0 rfl rfl (by decide) (by constructor <;> omega) dX7_follows_99 ?_
        refine wz_i2l hx hb dX7_follows_100 (by have := hy1 i; constructor <;> omega) ?_
        refine wz_lsub hx hb dX7_follows_101 ?_
        refine lv_lload hx hb dX7_follows_102 (lv_at hl 6 rfl) ?_
        refine wz_lmul hx hb dX7_follows_104 ?_
        refine lv_aload_n hx hb dX7_follows_105 rfl (lv_at hl 2 rfl) ?_
        refine va_get (D := D) (ci := 7) (v := .ref rY) (C := RX7) (T := TX7) (N := 24) hx hb hts hin7 hown hK hP 0 rfl rfl 6 (by decide) (hts (.fieldLink RX7 25 "DriftLogModel" "py" "[I") (by decide +kernel)) (fun _ h9 => h9) rfl dX7_follows_106 ?_
        refine lv_iload_n hx hb dX7_follows_109 rfl (lv_at hl 4 rfl) ?_
        refine wz_iald (tys := TY cI cJ cT) hx hb hK hP 3 0 rfl rfl (by decide) (by constructor <;> omega) dX7_follows_110 ?_
        refine wz_i2l hx hb dX7_follows_111 (by have := hy1 j; constructor <;> omega) ?_
        refine lv_aload_n hx hb dX7_follows_112 rfl (lv_at hl 2 rfl) ?_
        refine va_get (D := D) (ci := 7) (v := .ref rY) (C := RX7) (T := TX7) (N := 24) hx hb hts hin7 hown hK hP 0 rfl rfl 6 (by decide) (hts (.fieldLink RX7 25 "DriftLogModel" "py" "[I") (by decide +kernel)) (fun _ h9 => h9) rfl dX7_follows_113 ?_
        refine lv_iload_n hx hb dX7_follows_116 rfl (lv_at hl 3 rfl) ?_
        refine wz_iald (tys := TY cI cJ cT) hx hb hK hP 3 0 rfl rfl (by decide) (by constructor <;> omega) dX7_follows_117 ?_
        refine wz_i2l hx hb dX7_follows_118 (by have := hy1 i; constructor <;> omega) ?_
        refine wz_lsub hx hb dX7_follows_119 ?_
        refine lv_lload hx hb dX7_follows_120 (lv_at hl 1 rfl) ?_
        refine wz_lmul hx hb dX7_follows_122 ?_
        refine wz_lsub hx hb dX7_follows_123 ?_
        refine lv_lstore (lv' := [(11, .long (lI ((((fY k) - (fY i)) * ((fT j) - (fT i))) - (((fY j) - (fY i)) * ((fT k) - (fT i)))))), (9, .long (lI ((((fX k) - (fX i)) * ((fT j) - (fT i))) - (((fX j) - (fX i)) * ((fT k) - (fT i)))))), (7, .long (lI ((fT k) - (fT i)))), (0, .ref hm), (1, .int (iI i)), (2, .int (iI j)), (3, .int (iI e1)), (4, .long (lI ((fT j) - (fT i)))), (6, .int (iI k))]) hx hb dX7_follows_124 hl (by decide) rfl (fun ls hl => ?_)
        refine lv_lload hx hb dX7_follows_126 (lv_at hl 1 rfl) ?_
        refine wz_calll (wr := [(hm, .inr (7, [.int (iI th), .ref rS, .ref rM, .ref rB, .ref rT, .ref rX, .ref rY, .ref rL, .int (iI sz1), .ref rR, .int (iI at1), .long (lI nu), .ref rt, .ref rx, .ref ry, .int (iI fo), .ref rF, .ref rG, .ref rU, .ref rV, .long (lI lo), .long (lI lB), .long (lI hi), .long (lI hB1)])), (rT, .inl (cI, 80, .inl (zA fT))), (rX, .inl (cI, 80, .inl (zA fX))), (rY, .inl (cI, 80, .inl (zA fY)))]) (va_runS (As := [.long (lI ((((fX k) - (fX i)) * ((fT j) - (fT i))) - (((fX j) - (fX i)) * ((fT k) - (fT i)))))]) (rest := []) ⟨hx, hb, hml, hown, hts⟩ (k_X7_amount l D cI cJ cT H.size ((((fX k) - (fX i)) * ((fT j) - (fT i))) - (((fX j) - (fX i)) * ((fT k) - (fT i)))) ) (va_cwS 1 hts gX7_follows_X7_amount rfl rfl rfl (by decide +kernel) ⟨Nat.le_of_ble_eq_true rfl, Nat.le_of_ble_eq_true rfl⟩) (wz_preS hK hP hD [] (by decide) rfl rfl) rfl rfl hl.1 rfl (lv_room (Nat.le_of_ble_eq_true rfl)) dX7_follows_128 ⟨Nat.le_of_ble_eq_true rfl, Nat.le_of_ble_eq_true rfl⟩) hP hD hS hA [] [0, 1, 2, 3] rfl rfl rfl (by decide) (fun z128 u H locs hw128 hP hD hS => ?_)
        have hP : va_P D vwCl [(hm, .inr (7, [.int (iI th), .ref rS, .ref rM, .ref rB, .ref rT, .ref rX, .ref rY, .ref rL, .int (iI sz1), .ref rR, .int (iI at1), .long (lI nu), .ref rt, .ref rx, .ref ry, .int (iI fo), .ref rF, .ref rG, .ref rU, .ref rV, .long (lI lo), .long (lI lB), .long (lI hi), .long (lI hB1)])), (rT, .inl (cI, 80, .inl (zA fT))), (rX, .inl (cI, 80, .inl (zA fX))), (rY, .inl (cI, 80, .inl (zA fY)))] H := hP.sub [0, 1, 2, 3] rfl
        have hD : va_D A [(hm, .inr (7, [.int (iI th), .ref rS, .ref rM, .ref rB, .ref rT, .ref rX, .ref rY, .ref rL, .int (iI sz1), .ref rR, .int (iI at1), .long (lI nu), .ref rt, .ref rx, .ref ry, .int (iI fo), .ref rF, .ref rG, .ref rU, .ref rV, .long (lI lo), .long (lI lB), .long (lI hi), .long (lI hB1)])), (rT, .inl (cI, 80, .inl (zA fT))), (rX, .inl (cI, 80, .inl (zA fX))), (rY, .inl (cI, 80, .inl (zA fY)))] := hD.sub [0, 1, 2, 3] (by decide) rfl
        subst hw128
        refine lv_iload_n hx hb dX7_follows_131 rfl (lv_at hl 6 rfl) ?_
        refine wz_i2l hx hb dX7_follows_132 (he) ?_
        refine lv_lload hx hb dX7_follows_133 (lv_at hl 7 rfl) ?_
        refine wz_lmul hx hb dX7_follows_135 ?_
        refine W.lcmp hx hb dX7_follows_136 ?_
        refine wz_lraw_gt (tgt := 154) hx hb dX7_follows_137 (by decide) (fun c137 => ?_) (fun c137 => ?_)
        · skip
          refine lv_iconst (v := iI 0) hx hb dX7_follows_154 rfl ?_
          rw [hQ]
          exact wz_retz (tys := TY cI cJ cT) () hx hb hr hlocks hK hP hD hS (by first | decide | exact bz_01 _ | omega) ((bz_f (fun q => by have w := q k a1.1 (by omega); unfold near at w; rw [labs_lab, labs_lab] at w; first | exact w.1 c137 | exact c151 (Int64.not_lt.mp w.2))).symm) dX7_follows_155
        · skip
          refine lv_lload hx hb dX7_follows_140 (lv_at hl 0 rfl) ?_
          refine wz_calll (wr := [(hm, .inr (7, [.int (iI th), .ref rS, .ref rM, .ref rB, .ref rT, .ref rX, .ref rY, .ref rL, .int (iI sz1), .ref rR, .int (iI at1), .long (lI nu), .ref rt, .ref rx, .ref ry, .int (iI fo), .ref rF, .ref rG, .ref rU, .ref rV, .long (lI lo), .long (lI lB), .long (lI hi), .long (lI hB1)])), (rT, .inl (cI, 80, .inl (zA fT))), (rX, .inl (cI, 80, .inl (zA fX))), (rY, .inl (cI, 80, .inl (zA fY)))]) (va_runS (As := [.long (lI ((((fY k) - (fY i)) * ((fT j) - (fT i))) - (((fY j) - (fY i)) * ((fT k) - (fT i)))))]) (rest := []) ⟨hx, hb, hml, hown, hts⟩ (k_X7_amount l D cI cJ cT H.size ((((fY k) - (fY i)) * ((fT j) - (fT i))) - (((fY j) - (fY i)) * ((fT k) - (fT i)))) ) (va_cwS 1 hts gX7_follows_X7_amount rfl rfl rfl (by decide +kernel) ⟨Nat.le_of_ble_eq_true rfl, Nat.le_of_ble_eq_true rfl⟩) (wz_preS hK hP hD [] (by decide) rfl rfl) rfl rfl hl.1 rfl (lv_room (Nat.le_of_ble_eq_true rfl)) dX7_follows_142 ⟨Nat.le_of_ble_eq_true rfl, Nat.le_of_ble_eq_true rfl⟩) hP hD hS hA [] [0, 1, 2, 3] rfl rfl rfl (by decide) (fun z142 u H locs hw142 hP hD hS => ?_)
          have hP : va_P D vwCl [(hm, .inr (7, [.int (iI th), .ref rS, .ref rM, .ref rB, .ref rT, .ref rX, .ref rY, .ref rL, .int (iI sz1), .ref rR, .int (iI at1), .long (lI nu), .ref rt, .ref rx, .ref ry, .int (iI fo), .ref rF, .ref rG, .ref rU, .ref rV, .long (lI lo), .long (lI lB), .long (lI hi), .long (lI hB1)])), (rT, .inl (cI, 80, .inl (zA fT))), (rX, .inl (cI, 80, .inl (zA fX))), (rY, .inl (cI, 80, .inl (zA fY)))] H := hP.sub [0, 1, 2, 3] rfl
          have hD : va_D A [(hm, .inr (7, [.int (iI th), .ref rS, .ref rM, .ref rB, .ref rT, .ref rX, .ref rY, .ref rL, .int (iI sz1), .ref rR, .int (iI at1), .long (lI nu), .ref rt, .ref rx, .ref ry, .int (iI fo), .ref rF, .ref rG, .ref rU, .ref rV, .long (lI lo), .long (lI lB), .long (lI hi), .long (lI hB1)])), (rT, .inl (cI, 80, .inl (zA fT))), (rX, .inl (cI, 80, .inl (zA fX))), (rY, .inl (cI, 80, .inl (zA fY)))] := hD.sub [0, 1, 2, 3] (by decide) rfl
          subst hw142
          refine lv_iload_n hx hb dX7_follows_145 rfl (lv_at hl 6 rfl) ?_
          refine wz_i2l hx hb dX7_follows_146 (he) ?_
          refine lv_lload hx hb dX7_follows_147 (lv_at hl 7 rfl) ?_
          refine wz_lmul hx hb dX7_follows_149 ?_
          refine W.lcmp hx hb dX7_follows_150 ?_
          refine wz_lraw_le (tgt := 156) hx hb dX7_follows_151 (by decide) (fun c151 => ?_) (fun c151 => ?_)
          · skip
            refine lv_iinc (v := iI (k + 1)) (lv' := [(6, .int (iI (k + 1))), (11, .long (lI ((((fY k) - (fY i)) * ((fT j) - (fT i))) - (((fY j) - (fY i)) * ((fT k) - (fT i)))))), (9, .long (lI ((((fX k) - (fX i)) * ((fT j) - (fT i))) - (((fX j) - (fX i)) * ((fT k) - (fT i)))))), (7, .long (lI ((fT k) - (fT i)))), (0, .ref hm), (1, .int (iI i)), (2, .int (iI j)), (3, .int (iI e1)), (4, .long (lI ((fT j) - (fT i))))]) hx hb dX7_follows_156 hl (k := 8) rfl (iI_add _ _) (by decide) rfl (fun ls hl => ?_)
            refine lv_goto (tgt := 22) hx hb dX7_follows_159 (by decide) ?_
            exact ih22 (k + 1) _ _ _ ⟨(by constructor <;> omega), (fun q h1 h2 => by rcases Int.lt_or_eq_of_le (Int.le_of_lt_add_one h2) with w | w; exact a2 q h1 w; subst w; exact ⟨fun w => c137 (by rw [← labs_lab]; exact w), fun w => absurd (show lI (e1 * (fT j - fT i)) < lI (lab _) by rw [← labs_lab]; exact w) (Int64.not_lt.mpr c151)⟩)⟩ (by omega) hP hD hS (lv_sub hl [4, 5, 6, 7, 8, 0] rfl)
          · skip
            refine lv_iconst (v := iI 0) hx hb dX7_follows_154 rfl ?_
            rw [hQ]
            exact wz_retz (tys := TY cI cJ cT) () hx hb hr hlocks hK hP hD hS (by first | decide | exact bz_01 _ | omega) ((bz_f (fun q => by have w := q k a1.1 (by omega); unfold near at w; rw [labs_lab, labs_lab] at w; first | exact w.1 c137 | exact c151 (Int64.not_lt.mp w.2))).symm) dX7_follows_155
  exact LP22 (Int.toNat (j - (i + 1)) + 1) (i + 1) _ _ _ ⟨(by constructor <;> omega), (fun q h1 h2 => absurd h2 (by omega))⟩ (by omega) hP hD hS (lv_sub hl [2, 3, 4, 5, 1, 0] rfl)
set_option maxHeartbeats 4000000 in
set_option maxRecDepth 100000 in
theorem k_X7_keep (l : Launch) (D : va_G) (cI cJ cT : ClassId) (sz : Nat) (hm : Nat) (th : Int) (rS : Nat) (rM : Nat) (rB : Nat) (rT : Nat) (rX : Nat) (rY : Nat) (rL : Nat) (sz1 : Int) (rR : Nat) (at1 : Int) (nu : Int) (rt : Nat) (rx : Nat) (ry : Nat) (fo : Int) (rF : Nat) (rG : Nat) (rU : Nat) (rV : Nat) (lo : Int) (lB : Int) (hi : Int) (hB1 : Int) (fT : Int → Int) (fX : Int → Int) (fY : Int → Int) (i : Int) (j : Int) (hi1 : 0 ≤ i ∧ i < 80) (hj : 0 ≤ j ∧ j < 80) : Met l yX7_keep wsX7_keep { frames := 0, cells := 0, slots := 0, locals := 0 } (zPc D (TY cI cJ cT) [.ref hm, .int (iI i), .int (iI j)] [(hm, .inr (7, [.int (iI th), .ref rS, .ref rM, .ref rB, .ref rT, .ref rX, .ref rY, .ref rL, .int (iI sz1), .ref rR, .int (iI at1), .long (lI nu), .ref rt, .ref rx, .ref ry, .int (iI fo), .ref rF, .ref rG, .ref rU, .ref rV, .long (lI lo), .long (lI lB), .long (lI hi), .long (lI hB1)])), (rT, .inl (cI, 80, .inl (zA fT))), (rX, .inl (cI, 80, .inl (zA fX))), (rY, .inl (cI, 80, .inl (zA fY)))] sz) (zQv D (TY cI cJ cT) (va_A [(hm, .inr (7, [.int (iI th), .ref rS, .ref rM, .ref rB, .ref rT, .ref rX, .ref rY, .ref rL, .int (iI sz1), .ref rR, .int (iI at1), .long (lI nu), .ref rt, .ref rx, .ref ry, .int (iI fo), .ref rF, .ref rG, .ref rU, .ref rV, .long (lI lo), .long (lI lB), .long (lI hi), .long (lI hB1)])), (rT, .inl (cI, 80, .inl (zA fT))), (rX, .inl (cI, 80, .inl (zA fX))), (rY, .inl (cI, 80, .inl (zA fY)))] sz) (fun (u : Unit) => True) (fun (u : Unit) => [(hm, .inr (7, [.int (iI th), .ref rS, .ref rM, .ref rB, .ref rT, .ref rX, .ref rY, .ref rL, .int (iI sz1), .ref rR, .int (iI at1), .long (lI nu), .ref rt, .ref rx, .ref ry, .int (iI fo), .ref rF, .ref rG, .ref rU, .ref rV, .long (lI lo), .long (lI lB), .long (lI hi), .long (lI hB1)])), (rT, .inl (cI, 80, .inl (zA (uZ fT i (fT j))))), (rX, .inl (cI, 80, .inl (zA (uZ fX i (fX j))))), (rY, .inl (cI, 80, .inl (zA (uZ fY i (fY j)))))])) 0 0 (va_A [(hm, .inr (7, [.int (iI th), .ref rS, .ref rM, .ref rB, .ref rT, .ref rX, .ref rY, .ref rL, .int (iI sz1), .ref rR, .int (iI at1), .long (lI nu), .ref rt, .ref rx, .ref ry, .int (iI fo), .ref rF, .ref rG, .ref rU, .ref rV, .long (lI lo), .long (lI lB), .long (lI hi), .long (lI hB1)])), (rT, .inl (cI, 80, .inl (zA fT))), (rX, .inl (cI, 80, .inl (zA fX))), (rY, .inl (cI, 80, .inl (zA fY)))] sz) := by
  refine zMv (cc := cX7_keep) (maxL := 3) (ret := none) (by decide) rfl (Nat.le_of_ble_eq_true rfl) ?_
  intro p e s m below meth c A ls hE
  obtain ⟨hx, hb, hr, hts, hown, hlocks, hml, hnm, hP, hK, hD, hA, hS, hl⟩ := hE
  have hown : s.vm.findClass RX7 = some m.cls := hown
  have hl : lv_has ls 3 [(0, .ref hm), (1, .int (iI i)), (2, .int (iI j))] := hl
  have hin7 : ∀ w ∈ wsX70, w ∈ wsX7_keep := by decide +kernel
  obtain ⟨Q, hQ⟩ : ∃ Q, Q = MQ below (zQv D (TY cI cJ cT) A (fun (u : Unit) => True) (fun (u : Unit) => [(hm, .inr (7, [.int (iI th), .ref rS, .ref rM, .ref rB, .ref rT, .ref rX, .ref rY, .ref rL, .int (iI sz1), .ref rR, .int (iI at1), .long (lI nu), .ref rt, .ref rx, .ref ry, .int (iI fo), .ref rF, .ref rG, .ref rU, .ref rV, .long (lI lo), .long (lI lB), .long (lI hi), .long (lI hB1)])), (rT, .inl (cI, 80, .inl (zA (uZ fT i (fT j))))), (rX, .inl (cI, 80, .inl (zA (uZ fX i (fX j))))), (rY, .inl (cI, 80, .inl (zA (uZ fY i (fY j)))))])) ([.ref hm, .int (iI i), .int (iI j)] : List Value).toArray s 0 0 A := ⟨_, rfl⟩
  rw [← hQ]
  refine lv_aload_n hx hb dX7_keep_0 rfl (lv_at hl 0 rfl) ?_
  refine va_get (D := D) (ci := 7) (v := .ref rT) (C := RX7) (T := TX7) (N := 24) hx hb hts hin7 hown hK hP 0 rfl rfl 4 (by decide) (hts (.fieldLink RX7 19 "DriftLogModel" "time" "[I") (by decide +kernel)) (fun _ h9 => h9) rfl dX7_keep_1 ?_
  refine lv_iload_n hx hb dX7_keep_4 rfl (lv_at hl 1 rfl) ?_
  refine lv_aload_n hx hb dX7_keep_5 rfl (lv_at hl 0 rfl) ?_
  refine va_get (D := D) (ci := 7) (v := .ref rT) (C := RX7) (T := TX7) (N := 24) hx hb hts hin7 hown hK hP 0 rfl rfl 4 (by decide) (hts (.fieldLink RX7 19 "DriftLogModel" "time" "[I") (by decide +kernel)) (fun _ h9 => h9) rfl dX7_keep_6 ?_
  refine lv_iload_n hx hb dX7_keep_9 rfl (lv_at hl 2 rfl) ?_
  refine wz_iald (tys := TY cI cJ cT) hx hb hK hP 1 0 rfl rfl (by decide) (by constructor <;> omega) dX7_keep_10 ?_
  refine wz_iast (tys := TY cI cJ cT) hx hb hK hP hD hS 1 0 rfl rfl (by decide) (by constructor <;> omega) dX7_keep_11 (fun H locs hP hD hS => ?_)
  have hP : va_P D vwCl [(hm, .inr (7, [.int (iI th), .ref rS, .ref rM, .ref rB, .ref rT, .ref rX, .ref rY, .ref rL, .int (iI sz1), .ref rR, .int (iI at1), .long (lI nu), .ref rt, .ref rx, .ref ry, .int (iI fo), .ref rF, .ref rG, .ref rU, .ref rV, .long (lI lo), .long (lI lB), .long (lI hi), .long (lI hB1)])), (rT, .inl (cI, 80, .inl (zA (uZ fT i (fT j))))), (rX, .inl (cI, 80, .inl (zA fX))), (rY, .inl (cI, 80, .inl (zA fY)))] H := hP
  have hD : va_D A [(hm, .inr (7, [.int (iI th), .ref rS, .ref rM, .ref rB, .ref rT, .ref rX, .ref rY, .ref rL, .int (iI sz1), .ref rR, .int (iI at1), .long (lI nu), .ref rt, .ref rx, .ref ry, .int (iI fo), .ref rF, .ref rG, .ref rU, .ref rV, .long (lI lo), .long (lI lB), .long (lI hi), .long (lI hB1)])), (rT, .inl (cI, 80, .inl (zA (uZ fT i (fT j))))), (rX, .inl (cI, 80, .inl (zA fX))), (rY, .inl (cI, 80, .inl (zA fY)))] := hD
  refine lv_aload_n hx hb dX7_keep_12 rfl (lv_at hl 0 rfl) ?_
  refine va_get (D := D) (ci := 7) (v := .ref rX) (C := RX7) (T := TX7) (N := 24) hx hb hts hin7 hown hK hP 0 rfl rfl 5 (by decide) (hts (.fieldLink RX7 22 "DriftLogModel" "px" "[I") (by decide +kernel)) (fun _ h9 => h9) rfl dX7_keep_13 ?_
  refine lv_iload_n hx hb dX7_keep_16 rfl (lv_at hl 1 rfl) ?_
  refine lv_aload_n hx hb dX7_keep_17 rfl (lv_at hl 0 rfl) ?_
  refine va_get (D := D) (ci := 7) (v := .ref rX) (C := RX7) (T := TX7) (N := 24) hx hb hts hin7 hown hK hP 0 rfl rfl 5 (by decide) (hts (.fieldLink RX7 22 "DriftLogModel" "px" "[I") (by decide +kernel)) (fun _ h9 => h9) rfl dX7_keep_18 ?_
  refine lv_iload_n hx hb dX7_keep_21 rfl (lv_at hl 2 rfl) ?_
  refine wz_iald (tys := TY cI cJ cT) hx hb hK hP 2 0 rfl rfl (by decide) (by constructor <;> omega) dX7_keep_22 ?_
  refine wz_iast (tys := TY cI cJ cT) hx hb hK hP hD hS 2 0 rfl rfl (by decide) (by constructor <;> omega) dX7_keep_23 (fun H locs hP hD hS => ?_)
  have hP : va_P D vwCl [(hm, .inr (7, [.int (iI th), .ref rS, .ref rM, .ref rB, .ref rT, .ref rX, .ref rY, .ref rL, .int (iI sz1), .ref rR, .int (iI at1), .long (lI nu), .ref rt, .ref rx, .ref ry, .int (iI fo), .ref rF, .ref rG, .ref rU, .ref rV, .long (lI lo), .long (lI lB), .long (lI hi), .long (lI hB1)])), (rT, .inl (cI, 80, .inl (zA (uZ fT i (fT j))))), (rX, .inl (cI, 80, .inl (zA (uZ fX i (fX j))))), (rY, .inl (cI, 80, .inl (zA fY)))] H := hP
  have hD : va_D A [(hm, .inr (7, [.int (iI th), .ref rS, .ref rM, .ref rB, .ref rT, .ref rX, .ref rY, .ref rL, .int (iI sz1), .ref rR, .int (iI at1), .long (lI nu), .ref rt, .ref rx, .ref ry, .int (iI fo), .ref rF, .ref rG, .ref rU, .ref rV, .long (lI lo), .long (lI lB), .long (lI hi), .long (lI hB1)])), (rT, .inl (cI, 80, .inl (zA (uZ fT i (fT j))))), (rX, .inl (cI, 80, .inl (zA (uZ fX i (fX j))))), (rY, .inl (cI, 80, .inl (zA fY)))] := hD
  refine lv_aload_n hx hb dX7_keep_24 rfl (lv_at hl 0 rfl) ?_
  refine va_get (D := D) (ci := 7) (v := .ref rY) (C := RX7) (T := TX7) (N := 24) hx hb hts hin7 hown hK hP 0 rfl rfl 6 (by decide) (hts (.fieldLink RX7 25 "DriftLogModel" "py" "[I") (by decide +kernel)) (fun _ h9 => h9) rfl dX7_keep_25 ?_
  refine lv_iload_n hx hb dX7_keep_28 rfl (lv_at hl 1 rfl) ?_
  refine lv_aload_n hx hb dX7_keep_29 rfl (lv_at hl 0 rfl) ?_
  refine va_get (D := D) (ci := 7) (v := .ref rY) (C := RX7) (T := TX7) (N := 24) hx hb hts hin7 hown hK hP 0 rfl rfl 6 (by decide) (hts (.fieldLink RX7 25 "DriftLogModel" "py" "[I") (by decide +kernel)) (fun _ h9 => h9) rfl dX7_keep_30 ?_
  refine lv_iload_n hx hb dX7_keep_33 rfl (lv_at hl 2 rfl) ?_
  refine wz_iald (tys := TY cI cJ cT) hx hb hK hP 3 0 rfl rfl (by decide) (by constructor <;> omega) dX7_keep_34 ?_
  refine wz_iast (tys := TY cI cJ cT) hx hb hK hP hD hS 3 0 rfl rfl (by decide) (by constructor <;> omega) dX7_keep_35 (fun H locs hP hD hS => ?_)
  have hP : va_P D vwCl [(hm, .inr (7, [.int (iI th), .ref rS, .ref rM, .ref rB, .ref rT, .ref rX, .ref rY, .ref rL, .int (iI sz1), .ref rR, .int (iI at1), .long (lI nu), .ref rt, .ref rx, .ref ry, .int (iI fo), .ref rF, .ref rG, .ref rU, .ref rV, .long (lI lo), .long (lI lB), .long (lI hi), .long (lI hB1)])), (rT, .inl (cI, 80, .inl (zA (uZ fT i (fT j))))), (rX, .inl (cI, 80, .inl (zA (uZ fX i (fX j))))), (rY, .inl (cI, 80, .inl (zA (uZ fY i (fY j)))))] H := hP
  have hD : va_D A [(hm, .inr (7, [.int (iI th), .ref rS, .ref rM, .ref rB, .ref rT, .ref rX, .ref rY, .ref rL, .int (iI sz1), .ref rR, .int (iI at1), .long (lI nu), .ref rt, .ref rx, .ref ry, .int (iI fo), .ref rF, .ref rG, .ref rU, .ref rV, .long (lI lo), .long (lI lB), .long (lI hi), .long (lI hB1)])), (rT, .inl (cI, 80, .inl (zA (uZ fT i (fT j))))), (rX, .inl (cI, 80, .inl (zA (uZ fX i (fX j))))), (rY, .inl (cI, 80, .inl (zA (uZ fY i (fY j)))))] := hD
  rw [hQ]
  exact wz_retv (tys := TY cI cJ cT) () hx hb hr hlocks hK hP hD hS (trivial) dX7_keep_36
