set_option maxHeartbeats 4000000 in
set_option maxRecDepth 100000 in
theorem k_X7_whole (l : Launch) (D : va_G) (cI cJ cT : ClassId) (sz : Nat) (a : Int) (b : Int) (ha : r60 a) (hb1 : 0 < b ∧ b ≤ 134217728) : Met l yX7_whole wsX7_whole { frames := 0, cells := 0, slots := 0, locals := 0 } (zPc D (TY cI cJ cT) [.long (lI a), .long (lI b)] [] sz) (zQl D (TY cI cJ cT) (va_A [] sz) (fun (z : Int) (u : Unit) => z = (a / b)) (fun (u : Unit) => [])) 0 0 (va_A [] sz) := by
  refine zMl (cc := cX7_whole) (maxL := 6) (ret := (some .long)) (by decide) rfl (Nat.le_of_ble_eq_true rfl) ?_
  intro p e s m below meth c A ls hE
  obtain ⟨hx, hb, hr, hts, hown, hlocks, hml, hnm, hP, hK, hD, hA, hS, hl⟩ := hE
  have hown : s.vm.findClass RX7 = some m.cls := hown
  have hl : lv_has ls 6 [(0, .long (lI a)), (2, .long (lI b))] := hl
  obtain ⟨Q, hQ⟩ : ∃ Q, Q = MQ below (zQl D (TY cI cJ cT) A (fun (z : Int) (u : Unit) => z = (a / b)) (fun (u : Unit) => [])) ([.long (lI a), .long (lI b)] : List Value).toArray s 0 0 A := ⟨_, rfl⟩
  rw [← hQ]
  refine lv_lload_n hx hb dX7_whole_0 rfl (lv_at hl 0 rfl) ?_
  refine lv_lload_n hx hb dX7_whole_1 rfl (lv_at hl 1 rfl) ?_
  refine lv_ldiv hx hb dX7_whole_2 (lI_ne0 ⟨by omega, by omega⟩ (by omega)) ?_
  refine wz_topl (y := lI (a.tdiv b)) (lI_div ⟨by omega, by omega⟩ ⟨by omega, by omega⟩ (by left; omega)) ?_
  refine lv_lstore (lv' := [(4, .long (lI (a.tdiv b))), (0, .long (lI a)), (2, .long (lI b))]) hx hb dX7_whole_3 hl (by decide) rfl (fun ls hl => ?_)
  refine lv_lload_n hx hb dX7_whole_5 rfl (lv_at hl 1 rfl) ?_
  refine lv_lload_n hx hb dX7_whole_6 rfl (lv_at hl 2 rfl) ?_
  refine lv_lrem hx hb dX7_whole_7 (lI_ne0 ⟨by omega, by omega⟩ (by omega)) ?_
  refine wz_topl (y := lI (a.tmod b)) (lI_rem ⟨by omega, by omega⟩ ⟨by omega, by omega⟩ (by left; omega)) ?_
  refine lv_lconst (v := lI 0) hx hb dX7_whole_8 (by decide) ?_
  refine W.lcmp hx hb dX7_whole_9 ?_
  refine wz_lif_ge (tgt := 20) hx hb dX7_whole_10 (by decide) (by have h1 := Int.natAbs_tmod a b; have h2 : a.natAbs % b.natAbs < b.natAbs := Nat.mod_lt _ (by omega); constructor <;> omega) (by decide) (fun c10 => ?_) (fun c10 => ?_)
  · skip
    refine lv_lload hx hb dX7_whole_20 (lv_at hl 0 rfl) ?_
    rw [hQ]
    exact wz_retl (tys := TY cI cJ cT) () hx hb hr hlocks hK hP hD hS (whole_p hb1.1 c10) dX7_whole_22
  · skip
    refine lv_lload hx hb dX7_whole_13 (lv_at hl 0 rfl) ?_
    refine lv_lconst (v := lI 1) hx hb dX7_whole_15 (by decide) ?_
    refine wz_lsub hx hb dX7_whole_16 ?_
    refine lv_goto (tgt := 22) hx hb dX7_whole_17 (by decide) ?_
    rw [hQ]
    exact wz_retl (tys := TY cI cJ cT) () hx hb hr hlocks hK hP hD hS (whole_n hb1.1 c10) dX7_whole_22
set_option maxHeartbeats 4000000 in
set_option maxRecDepth 100000 in
theorem k_X7_below (l : Launch) (D : va_G) (cI cJ cT : ClassId) (sz : Nat) (a : Int) (b : Int) (cc : Int) (d : Int) (h1 : frM a b) (h2 : frM cc d) : Met l yX7_below wsX7_below { frames := 1, cells := 0, slots := 0, locals := 25 } (zPc D (TY cI cJ cT) [.long (lI a), .long (lI b), .long (lI cc), .long (lI d)] [] sz) (zQi D (TY cI cJ cT) (va_A [] sz) (fun (z : Int) (u : Unit) => z = (bz (a * d < cc * b))) (fun (u : Unit) => [])) 0 0 (va_A [] sz) := by
  refine zMi (cc := cX7_below) (maxL := 12) (ret := (some .boolean)) (by decide) rfl (Nat.le_of_ble_eq_true rfl) ?_
  intro p e s m below meth c A ls hE
  obtain ⟨hx, hb, hr, hts, hown, hlocks, hml, hnm, hP, hK, hD, hA, hS, hl⟩ := hE
  have hown : s.vm.findClass RX7 = some m.cls := hown
  have hl : lv_has ls 12 [(0, .long (lI a)), (2, .long (lI b)), (4, .long (lI cc)), (6, .long (lI d))] := hl
  obtain ⟨Q, hQ⟩ : ∃ Q, Q = MQ below (zQi D (TY cI cJ cT) A (fun (z : Int) (u : Unit) => z = (bz (a * d < cc * b))) (fun (u : Unit) => [])) ([.long (lI a), .long (lI b), .long (lI cc), .long (lI d)] : List Value).toArray s 0 0 A := ⟨_, rfl⟩
  rw [← hQ]
  refine lv_lload_n hx hb dX7_below_0 rfl (lv_at hl 0 rfl) ?_
  refine lv_lload_n hx hb dX7_below_1 rfl (lv_at hl 1 rfl) ?_
  refine wz_calll (wr := []) (va_runS (As := [.long (lI a), .long (lI b)]) (rest := []) ⟨hx, hb, hml, hown, hts⟩ (k_X7_whole l D cI cJ cT s.heap.size a b (h1.1) (h1.2)) (va_cwS 2 hts gX7_below_X7_whole rfl rfl rfl (by decide +kernel) ⟨Nat.le_of_ble_eq_true rfl, Nat.le_of_ble_eq_true rfl⟩) (wz_preS hK hP hD [] (by decide) rfl rfl) rfl rfl hl.1 rfl (lv_room (Nat.le_of_ble_eq_true rfl)) dX7_below_2 ⟨Nat.le_of_ble_eq_true rfl, Nat.le_of_ble_eq_true rfl⟩) hP hD hS hA [] [] rfl rfl rfl (by decide) (fun z2 u H locs hw2 hP hD hS => ?_)
  have hP : va_P D vwCl [] H := hP.sub [] rfl
  have hD : va_D A [] := hD.sub [] (by decide) rfl
  subst hw2
  refine lv_lstore (lv' := [(8, .long (lI (a / b))), (0, .long (lI a)), (2, .long (lI b)), (4, .long (lI cc)), (6, .long (lI d))]) hx hb dX7_below_5 hl (by decide) rfl (fun ls hl => ?_)
  refine lv_lload hx hb dX7_below_7 (lv_at hl 3 rfl) ?_
  refine lv_lload hx hb dX7_below_9 (lv_at hl 4 rfl) ?_
  refine wz_calll (wr := []) (va_runS (As := [.long (lI cc), .long (lI d)]) (rest := []) ⟨hx, hb, hml, hown, hts⟩ (k_X7_whole l D cI cJ cT H.size cc d (h2.1) (h2.2)) (va_cwS 2 hts gX7_below_X7_whole rfl rfl rfl (by decide +kernel) ⟨Nat.le_of_ble_eq_true rfl, Nat.le_of_ble_eq_true rfl⟩) (wz_preS hK hP hD [] (by decide) rfl rfl) rfl rfl hl.1 rfl (lv_room (Nat.le_of_ble_eq_true rfl)) dX7_below_11 ⟨Nat.le_of_ble_eq_true rfl, Nat.le_of_ble_eq_true rfl⟩) hP hD hS hA [] [] rfl rfl rfl (by decide) (fun z11 u H locs hw11 hP hD hS => ?_)
  have hP : va_P D vwCl [] H := hP.sub [] rfl
  have hD : va_D A [] := hD.sub [] (by decide) rfl
  subst hw11
  have d1 := div60 h1.1 h1.2.1
  have d2 := div60 h2.1 h2.2.1
  have m1 := mul27 (rem27 (a := a) h1.2.1 h1.2.2) (show r27 d by have := h2.2; constructor <;> omega)
  have m2 := mul27 (rem27 (a := cc) h2.2.1 h2.2.2) (show r27 b by have := h1.2; constructor <;> omega)
  refine lv_lstore (lv' := [(10, .long (lI (cc / d))), (8, .long (lI (a / b))), (0, .long (lI a)), (2, .long (lI b)), (4, .long (lI cc)), (6, .long (lI d))]) hx hb dX7_below_14 hl (by decide) rfl (fun ls hl => ?_)
  refine lv_lload hx hb dX7_below_16 (lv_at hl 1 rfl) ?_
  refine lv_lload hx hb dX7_below_18 (lv_at hl 0 rfl) ?_
  refine W.lcmp hx hb dX7_below_20 ?_
  refine wz_lif_eq (tgt := 40) hx hb dX7_below_21 (by decide) ⟨by omega, by omega⟩ ⟨by omega, by omega⟩ (fun c21 => ?_) (fun c21 => ?_)
  · skip
    refine lv_lload_n hx hb dX7_below_40 rfl (lv_at hl 2 rfl) ?_
    refine lv_lload hx hb dX7_below_41 (lv_at hl 1 rfl) ?_
    refine lv_lload_n hx hb dX7_below_43 rfl (lv_at hl 3 rfl) ?_
    refine wz_lmul hx hb dX7_below_44 ?_
    refine wz_lsub hx hb dX7_below_45 ?_
    refine lv_lload hx hb dX7_below_46 (lv_at hl 5 rfl) ?_
    refine wz_lmul hx hb dX7_below_48 ?_
    refine lv_lload hx hb dX7_below_49 (lv_at hl 4 rfl) ?_
    refine lv_lload hx hb dX7_below_51 (lv_at hl 0 rfl) ?_
    refine lv_lload hx hb dX7_below_53 (lv_at hl 5 rfl) ?_
    refine wz_lmul hx hb dX7_below_55 ?_
    refine wz_lsub hx hb dX7_below_56 ?_
    refine lv_lload_n hx hb dX7_below_57 rfl (lv_at hl 3 rfl) ?_
    refine wz_lmul hx hb dX7_below_58 ?_
    refine W.lcmp hx hb dX7_below_59 ?_
    refine wz_lif_ge (tgt := 67) hx hb dX7_below_60 (by decide) ⟨by omega, by omega⟩ ⟨by omega, by omega⟩ (fun c60 => ?_) (fun c60 => ?_)
    · skip
      refine lv_iconst (v := iI 0) hx hb dX7_below_67 rfl ?_
      rw [hQ]
      exact wz_retz (tys := TY cI cJ cT) () hx hb hr hlocks hK hP hD hS (by first | decide | exact bz_01 _ | omega) ((bz_f (fun q => absurd ((below_eq c21).mpr q) (by omega))).symm) dX7_below_68
    · skip
      refine lv_iconst (v := iI 1) hx hb dX7_below_63 rfl ?_
      refine lv_goto (tgt := 68) hx hb dX7_below_64 (by decide) ?_
      rw [hQ]
      exact wz_retz (tys := TY cI cJ cT) () hx hb hr hlocks hK hP hD hS (by first | decide | exact bz_01 _ | omega) ((bz_t ((below_eq c21).mp c60)).symm) dX7_below_68
  · skip
    refine lv_lload hx hb dX7_below_24 (lv_at hl 1 rfl) ?_
    refine lv_lload hx hb dX7_below_26 (lv_at hl 0 rfl) ?_
    refine W.lcmp hx hb dX7_below_28 ?_
    refine wz_lif_ge (tgt := 36) hx hb dX7_below_29 (by decide) ⟨by omega, by omega⟩ ⟨by omega, by omega⟩ (fun c29 => ?_) (fun c29 => ?_)
    · skip
      refine lv_iconst (v := iI 0) hx hb dX7_below_36 rfl ?_
      refine lv_goto (tgt := 68) hx hb dX7_below_37 (by decide) ?_
      rw [hQ]
      exact wz_retz (tys := TY cI cJ cT) () hx hb hr hlocks hK hP hD hS (by first | decide | exact bz_01 _ | omega) ((bz_f (below_ge h1.2.1 h2.2.1 (by omega))).symm) dX7_below_68
    · skip
      refine lv_iconst (v := iI 1) hx hb dX7_below_32 rfl ?_
      refine lv_goto (tgt := 68) hx hb dX7_below_33 (by decide) ?_
      rw [hQ]
      exact wz_retz (tys := TY cI cJ cT) () hx hb hr hlocks hK hP hD hS (by first | decide | exact bz_01 _ | omega) ((bz_t (below_lt h1.2.1 h2.2.1 c29)).symm) dX7_below_68
set_option maxHeartbeats 4000000 in
set_option maxRecDepth 100000 in
theorem k_X7_raise (l : Launch) (D : va_G) (cI cJ cT : ClassId) (sz : Nat) (hm : Nat) (th : Int) (rS : Nat) (rM : Nat) (rB : Nat) (rT : Nat) (rX : Nat) (rY : Nat) (rL : Nat) (sz1 : Int) (rR : Nat) (at1 : Int) (nu : Int) (rt : Nat) (rx : Nat) (ry : Nat) (fo : Int) (rF : Nat) (rG : Nat) (rU : Nat) (rV : Nat) (lo : Int) (lB : Int) (hi : Int) (hB1 : Int) (a : Int) (b : Int) (h1 : frM lo lB) (h2 : frM a b) : Met l yX7_raise wsX7_raise { frames := 2, cells := 0, slots := 0, locals := 56 } (zPc D (TY cI cJ cT) [.ref hm, .long (lI a), .long (lI b)] [(hm, .inr (7, [.int (iI th), .ref rS, .ref rM, .ref rB, .ref rT, .ref rX, .ref rY, .ref rL, .int (iI sz1), .ref rR, .int (iI at1), .long (lI nu), .ref rt, .ref rx, .ref ry, .int (iI fo), .ref rF, .ref rG, .ref rU, .ref rV, .long (lI lo), .long (lI lB), .long (lI hi), .long (lI hB1)]))] sz) (zQv D (TY cI cJ cT) (va_A [(hm, .inr (7, [.int (iI th), .ref rS, .ref rM, .ref rB, .ref rT, .ref rX, .ref rY, .ref rL, .int (iI sz1), .ref rR, .int (iI at1), .long (lI nu), .ref rt, .ref rx, .ref ry, .int (iI fo), .ref rF, .ref rG, .ref rU, .ref rV, .long (lI lo), .long (lI lB), .long (lI hi), .long (lI hB1)]))] sz) (fun (u : Int × Int) => raiseZ lo lB a b = (u.1, u.2) ∧ frM u.1 u.2) (fun (u : Int × Int) => [(hm, .inr (7, [.int (iI th), .ref rS, .ref rM, .ref rB, .ref rT, .ref rX, .ref rY, .ref rL, .int (iI sz1), .ref rR, .int (iI at1), .long (lI nu), .ref rt, .ref rx, .ref ry, .int (iI fo), .ref rF, .ref rG, .ref rU, .ref rV, .long (lI u.1), .long (lI u.2), .long (lI hi), .long (lI hB1)]))])) 0 0 (va_A [(hm, .inr (7, [.int (iI th), .ref rS, .ref rM, .ref rB, .ref rT, .ref rX, .ref rY, .ref rL, .int (iI sz1), .ref rR, .int (iI at1), .long (lI nu), .ref rt, .ref rx, .ref ry, .int (iI fo), .ref rF, .ref rG, .ref rU, .ref rV, .long (lI lo), .long (lI lB), .long (lI hi), .long (lI hB1)]))] sz) := by
  refine zMv (cc := cX7_raise) (maxL := 5) (ret := none) (by decide) rfl (Nat.le_of_ble_eq_true rfl) ?_
  intro p e s m below meth c A ls hE
  obtain ⟨hx, hb, hr, hts, hown, hlocks, hml, hnm, hP, hK, hD, hA, hS, hl⟩ := hE
  have hown : s.vm.findClass RX7 = some m.cls := hown
  have hl : lv_has ls 5 [(0, .ref hm), (1, .long (lI a)), (3, .long (lI b))] := hl
  have hin7 : ∀ w ∈ wsX70, w ∈ wsX7_raise := by decide +kernel
  obtain ⟨Q, hQ⟩ : ∃ Q, Q = MQ below (zQv D (TY cI cJ cT) A (fun (u : Int × Int) => raiseZ lo lB a b = (u.1, u.2) ∧ frM u.1 u.2) (fun (u : Int × Int) => [(hm, .inr (7, [.int (iI th), .ref rS, .ref rM, .ref rB, .ref rT, .ref rX, .ref rY, .ref rL, .int (iI sz1), .ref rR, .int (iI at1), .long (lI nu), .ref rt, .ref rx, .ref ry, .int (iI fo), .ref rF, .ref rG, .ref rU, .ref rV, .long (lI u.1), .long (lI u.2), .long (lI hi), .long (lI hB1)]))])) ([.ref hm, .long (lI a), .long (lI b)] : List Value).toArray s 0 0 A := ⟨_, rfl⟩
  rw [← hQ]
  refine lv_aload_n hx hb dX7_raise_0 rfl (lv_at hl 0 rfl) ?_
  refine va_get (D := D) (ci := 7) (v := .long (lI lo)) (C := RX7) (T := TX7) (N := 24) hx hb hts hin7 hown hK hP 0 rfl rfl 20 (by decide) (hts (.fieldLink RX7 142 "DriftLogModel" "low" "J") (by decide +kernel)) (fun _ h9 => h9) rfl dX7_raise_1 ?_
  refine lv_aload_n hx hb dX7_raise_4 rfl (lv_at hl 0 rfl) ?_
  refine va_get (D := D) (ci := 7) (v := .long (lI lB)) (C := RX7) (T := TX7) (N := 24) hx hb hts hin7 hown hK hP 0 rfl rfl 21 (by decide) (hts (.fieldLink RX7 145 "DriftLogModel" "lowBy" "J") (by decide +kernel)) (fun _ h9 => h9) rfl dX7_raise_5 ?_
  refine lv_lload_n hx hb dX7_raise_8 rfl (lv_at hl 1 rfl) ?_
  refine lv_lload_n hx hb dX7_raise_9 rfl (lv_at hl 2 rfl) ?_
  refine wz_calli (wr := [(hm, .inr (7, [.int (iI th), .ref rS, .ref rM, .ref rB, .ref rT, .ref rX, .ref rY, .ref rL, .int (iI sz1), .ref rR, .int (iI at1), .long (lI nu), .ref rt, .ref rx, .ref ry, .int (iI fo), .ref rF, .ref rG, .ref rU, .ref rV, .long (lI lo), .long (lI lB), .long (lI hi), .long (lI hB1)]))]) (va_runS (As := [.long (lI lo), .long (lI lB), .long (lI a), .long (lI b)]) (rest := []) ⟨hx, hb, hml, hown, hts⟩ (k_X7_below l D cI cJ cT s.heap.size lo lB a b (h1) (h2)) (va_cwS 4 hts gX7_raise_X7_below rfl rfl rfl (by decide +kernel) ⟨Nat.le_of_ble_eq_true rfl, Nat.le_of_ble_eq_true rfl⟩) (wz_preS hK hP hD [] (by decide) rfl rfl) rfl rfl hl.1 rfl (lv_room (Nat.le_of_ble_eq_true rfl)) dX7_raise_10 ⟨Nat.le_of_ble_eq_true rfl, Nat.le_of_ble_eq_true rfl⟩) hP hD hS hA [] [0] rfl rfl rfl (by decide) (fun z10 u H locs hw10 hP hD hS => ?_)
  have hP : va_P D vwCl [(hm, .inr (7, [.int (iI th), .ref rS, .ref rM, .ref rB, .ref rT, .ref rX, .ref rY, .ref rL, .int (iI sz1), .ref rR, .int (iI at1), .long (lI nu), .ref rt, .ref rx, .ref ry, .int (iI fo), .ref rF, .ref rG, .ref rU, .ref rV, .long (lI lo), .long (lI lB), .long (lI hi), .long (lI hB1)]))] H := hP.sub [0] rfl
  have hD : va_D A [(hm, .inr (7, [.int (iI th), .ref rS, .ref rM, .ref rB, .ref rT, .ref rX, .ref rY, .ref rL, .int (iI sz1), .ref rR, .int (iI at1), .long (lI nu), .ref rt, .ref rx, .ref ry, .int (iI fo), .ref rF, .ref rG, .ref rU, .ref rV, .long (lI lo), .long (lI lB), .long (lI hi), .long (lI hB1)]))] := hD.sub [0] (by decide) rfl
  subst hw10
  refine wz_ifb_eq (tgt := 26) hx hb dX7_raise_13 (by decide) (fun c13 => ?_) (fun c13 => ?_)
  · skip
    rw [hQ]
    exact wz_retv (tys := TY cI cJ cT) (lo, lB) hx hb hr hlocks hK hP hD hS (by (try dsimp only); exact (⟨if_neg c13, h1⟩)) dX7_raise_26
  · skip
    refine lv_aload_n hx hb dX7_raise_16 rfl (lv_at hl 0 rfl) ?_
    refine lv_lload_n hx hb dX7_raise_17 rfl (lv_at hl 1 rfl) ?_
    refine va_put (D := D) (ci := 7) (v := .long (lI a)) (ty := .long) (C := RX7) (T := TX7) (N := 24) hx hb hts hin7 tyX7 tyX7_ok nmX7 hown hK hP hD hS 0 rfl rfl 20 (by decide) (hts (.fieldLink RX7 142 "DriftLogModel" "low" "J") (by decide +kernel)) (fun _ h9 => h9) rfl (by decide +kernel) rfl rfl (Nat.le_of_ble_eq_true rfl) dX7_raise_18 (fun H locs hP hD hS => ?_)
    have hP : va_P D vwCl [(hm, .inr (7, [.int (iI th), .ref rS, .ref rM, .ref rB, .ref rT, .ref rX, .ref rY, .ref rL, .int (iI sz1), .ref rR, .int (iI at1), .long (lI nu), .ref rt, .ref rx, .ref ry, .int (iI fo), .ref rF, .ref rG, .ref rU, .ref rV, .long (lI a), .long (lI lB), .long (lI hi), .long (lI hB1)]))] H := hP
    have hD : va_D A [(hm, .inr (7, [.int (iI th), .ref rS, .ref rM, .ref rB, .ref rT, .ref rX, .ref rY, .ref rL, .int (iI sz1), .ref rR, .int (iI at1), .long (lI nu), .ref rt, .ref rx, .ref ry, .int (iI fo), .ref rF, .ref rG, .ref rU, .ref rV, .long (lI a), .long (lI lB), .long (lI hi), .long (lI hB1)]))] := hD
    refine lv_aload_n hx hb dX7_raise_21 rfl (lv_at hl 0 rfl) ?_
    refine lv_lload_n hx hb dX7_raise_22 rfl (lv_at hl 2 rfl) ?_
    refine va_put (D := D) (ci := 7) (v := .long (lI b)) (ty := .long) (C := RX7) (T := TX7) (N := 24) hx hb hts hin7 tyX7 tyX7_ok nmX7 hown hK hP hD hS 0 rfl rfl 21 (by decide) (hts (.fieldLink RX7 145 "DriftLogModel" "lowBy" "J") (by decide +kernel)) (fun _ h9 => h9) rfl (by decide +kernel) rfl rfl (Nat.le_of_ble_eq_true rfl) dX7_raise_23 (fun H locs hP hD hS => ?_)
    have hP : va_P D vwCl [(hm, .inr (7, [.int (iI th), .ref rS, .ref rM, .ref rB, .ref rT, .ref rX, .ref rY, .ref rL, .int (iI sz1), .ref rR, .int (iI at1), .long (lI nu), .ref rt, .ref rx, .ref ry, .int (iI fo), .ref rF, .ref rG, .ref rU, .ref rV, .long (lI a), .long (lI b), .long (lI hi), .long (lI hB1)]))] H := hP
    have hD : va_D A [(hm, .inr (7, [.int (iI th), .ref rS, .ref rM, .ref rB, .ref rT, .ref rX, .ref rY, .ref rL, .int (iI sz1), .ref rR, .int (iI at1), .long (lI nu), .ref rt, .ref rx, .ref ry, .int (iI fo), .ref rF, .ref rG, .ref rU, .ref rV, .long (lI a), .long (lI b), .long (lI hi), .long (lI hB1)]))] := hD
    rw [hQ]
    exact wz_retv (tys := TY cI cJ cT) (a, b) hx hb hr hlocks hK hP hD hS (by (try dsimp only); exact (⟨if_pos c13, h2⟩)) dX7_raise_26
set_option maxHeartbeats 4000000 in
set_option maxRecDepth 100000 in
theorem k_X7_lower (l : Launch) (D : va_G) (cI cJ cT : ClassId) (sz : Nat) (hm : Nat) (th : Int) (rS : Nat) (rM : Nat) (rB : Nat) (rT : Nat) (rX : Nat) (rY : Nat) (rL : Nat) (sz1 : Int) (rR : Nat) (at1 : Int) (nu : Int) (rt : Nat) (rx : Nat) (ry : Nat) (fo : Int) (rF : Nat) (rG : Nat) (rU : Nat) (rV : Nat) (lo : Int) (lB : Int) (hi : Int) (hB1 : Int) (a : Int) (b : Int) (h1 : frM hi hB1) (h2 : frM a b) : Met l yX7_lower wsX7_lower { frames := 2, cells := 0, slots := 0, locals := 56 } (zPc D (TY cI cJ cT) [.ref hm, .long (lI a), .long (lI b)] [(hm, .inr (7, [.int (iI th), .ref rS, .ref rM, .ref rB, .ref rT, .ref rX, .ref rY, .ref rL, .int (iI sz1), .ref rR, .int (iI at1), .long (lI nu), .ref rt, .ref rx, .ref ry, .int (iI fo), .ref rF, .ref rG, .ref rU, .ref rV, .long (lI lo), .long (lI lB), .long (lI hi), .long (lI hB1)]))] sz) (zQv D (TY cI cJ cT) (va_A [(hm, .inr (7, [.int (iI th), .ref rS, .ref rM, .ref rB, .ref rT, .ref rX, .ref rY, .ref rL, .int (iI sz1), .ref rR, .int (iI at1), .long (lI nu), .ref rt, .ref rx, .ref ry, .int (iI fo), .ref rF, .ref rG, .ref rU, .ref rV, .long (lI lo), .long (lI lB), .long (lI hi), .long (lI hB1)]))] sz) (fun (u : Int × Int) => lowerZ hi hB1 a b = (u.1, u.2) ∧ frM u.1 u.2) (fun (u : Int × Int) => [(hm, .inr (7, [.int (iI th), .ref rS, .ref rM, .ref rB, .ref rT, .ref rX, .ref rY, .ref rL, .int (iI sz1), .ref rR, .int (iI at1), .long (lI nu), .ref rt, .ref rx, .ref ry, .int (iI fo), .ref rF, .ref rG, .ref rU, .ref rV, .long (lI lo), .long (lI lB), .long (lI u.1), .long (lI u.2)]))])) 0 0 (va_A [(hm, .inr (7, [.int (iI th), .ref rS, .ref rM, .ref rB, .ref rT, .ref rX, .ref rY, .ref rL, .int (iI sz1), .ref rR, .int (iI at1), .long (lI nu), .ref rt, .ref rx, .ref ry, .int (iI fo), .ref rF, .ref rG, .ref rU, .ref rV, .long (lI lo), .long (lI lB), .long (lI hi), .long (lI hB1)]))] sz) := by
  refine zMv (cc := cX7_lower) (maxL := 5) (ret := none) (by decide) rfl (Nat.le_of_ble_eq_true rfl) ?_
  intro p e s m below meth c A ls hE
  obtain ⟨hx, hb, hr, hts, hown, hlocks, hml, hnm, hP, hK, hD, hA, hS, hl⟩ := hE
  have hown : s.vm.findClass RX7 = some m.cls := hown
  have hl : lv_has ls 5 [(0, .ref hm), (1, .long (lI a)), (3, .long (lI b))] := hl
  have hin7 : ∀ w ∈ wsX70, w ∈ wsX7_lower := by decide +kernel
  obtain ⟨Q, hQ⟩ : ∃ Q, Q = MQ below (zQv D (TY cI cJ cT) A (fun (u : Int × Int) => lowerZ hi hB1 a b = (u.1, u.2) ∧ frM u.1 u.2) (fun (u : Int × Int) => [(hm, .inr (7, [.int (iI th), .ref rS, .ref rM, .ref rB, .ref rT, .ref rX, .ref rY, .ref rL, .int (iI sz1), .ref rR, .int (iI at1), .long (lI nu), .ref rt, .ref rx, .ref ry, .int (iI fo), .ref rF, .ref rG, .ref rU, .ref rV, .long (lI lo), .long (lI lB), .long (lI u.1), .long (lI u.2)]))])) ([.ref hm, .long (lI a), .long (lI b)] : List Value).toArray s 0 0 A := ⟨_, rfl⟩
  rw [← hQ]
  refine lv_lload_n hx hb dX7_lower_0 rfl (lv_at hl 1 rfl) ?_
  refine lv_lload_n hx hb dX7_lower_1 rfl (lv_at hl 2 rfl) ?_
  refine lv_aload_n hx hb dX7_lower_2 rfl (lv_at hl 0 rfl) ?_
  refine va_get (D := D) (ci := 7) (v := .long (lI hi)) (C := RX7) (T := TX7) (N := 24) hx hb hts hin7 hown hK hP 0 rfl rfl 22 (by decide) (hts (.fieldLink RX7 152 "DriftLogModel" "high" "J") (by decide +kernel)) (fun _ h9 => h9) rfl dX7_lower_3 ?_
  refine lv_aload_n hx hb dX7_lower_6 rfl (lv_at hl 0 rfl) ?_
  refine va_get (D := D) (ci := 7) (v := .long (lI hB1)) (C := RX7) (T := TX7) (N := 24) hx hb hts hin7 hown hK hP 0 rfl rfl 23 (by decide) (hts (.fieldLink RX7 155 "DriftLogModel" "highBy" "J") (by decide +kernel)) (fun _ h9 => h9) rfl dX7_lower_7 ?_
  refine wz_calli (wr := [(hm, .inr (7, [.int (iI th), .ref rS, .ref rM, .ref rB, .ref rT, .ref rX, .ref rY, .ref rL, .int (iI sz1), .ref rR, .int (iI at1), .long (lI nu), .ref rt, .ref rx, .ref ry, .int (iI fo), .ref rF, .ref rG, .ref rU, .ref rV, .long (lI lo), .long (lI lB), .long (lI hi), .long (lI hB1)]))]) (va_runS (As := [.long (lI a), .long (lI b), .long (lI hi), .long (lI hB1)]) (rest := []) ⟨hx, hb, hml, hown, hts⟩ (k_X7_below l D cI cJ cT s.heap.size a b hi hB1 (h2) (h1)) (va_cwS 4 hts gX7_lower_X7_below rfl rfl rfl (by decide +kernel) ⟨Nat.le_of_ble_eq_true rfl, Nat.le_of_ble_eq_true rfl⟩) (wz_preS hK hP hD [] (by decide) rfl rfl) rfl rfl hl.1 rfl (lv_room (Nat.le_of_ble_eq_true rfl)) dX7_lower_10 ⟨Nat.le_of_ble_eq_true rfl, Nat.le_of_ble_eq_true rfl⟩) hP hD hS hA [] [0] rfl rfl rfl (by decide) (fun z10 u H locs hw10 hP hD hS => ?_)
  have hP : va_P D vwCl [(hm, .inr (7, [.int (iI th), .ref rS, .ref rM, .ref rB, .ref rT, .ref rX, .ref rY, .ref rL, .int (iI sz1), .ref rR, .int (iI at1), .long (lI nu), .ref rt, .ref rx, .ref ry, .int (iI fo), .ref rF, .ref rG, .ref rU, .ref rV, .long (lI lo), .long (lI lB), .long (lI hi), .long (lI hB1)]))] H := hP.sub [0] rfl
  have hD : va_D A [(hm, .inr (7, [.int (iI th), .ref rS, .ref rM, .ref rB, .ref rT, .ref rX, .ref rY, .ref rL, .int (iI sz1), .ref rR, .int (iI at1), .long (lI nu), .ref rt, .ref rx, .ref ry, .int (iI fo), .ref rF, .ref rG, .ref rU, .ref rV, .long (lI lo), .long (lI lB), .long (lI hi), .long (lI hB1)]))] := hD.sub [0] (by decide) rfl
  subst hw10
  refine wz_ifb_eq (tgt := 26) hx hb dX7_lower_13 (by decide) (fun c13 => ?_) (fun c13 => ?_)
  · skip
    rw [hQ]
    exact wz_retv (tys := TY cI cJ cT) (hi, hB1) hx hb hr hlocks hK hP hD hS (by (try dsimp only); exact (⟨if_neg c13, h1⟩)) dX7_lower_26
  · skip
    refine lv_aload_n hx hb dX7_lower_16 rfl (lv_at hl 0 rfl) ?_
    refine lv_lload_n hx hb dX7_lower_17 rfl (lv_at hl 1 rfl) ?_
    refine va_put (D := D) (ci := 7) (v := .long (lI a)) (ty := .long) (C := RX7) (T := TX7) (N := 24) hx hb hts hin7 tyX7 tyX7_ok nmX7 hown hK hP hD hS 0 rfl rfl 22 (by decide) (hts (.fieldLink RX7 152 "DriftLogModel" "high" "J") (by decide +kernel)) (fun _ h9 => h9) rfl (by decide +kernel) rfl rfl (Nat.le_of_ble_eq_true rfl) dX7_lower_18 (fun H locs hP hD hS => ?_)
    have hP : va_P D vwCl [(hm, .inr (7, [.int (iI th), .ref rS, .ref rM, .ref rB, .ref rT, .ref rX, .ref rY, .ref rL, .int (iI sz1), .ref rR, .int (iI at1), .long (lI nu), .ref rt, .ref rx, .ref ry, .int (iI fo), .ref rF, .ref rG, .ref rU, .ref rV, .long (lI lo), .long (lI lB), .long (lI a), .long (lI hB1)]))] H := hP
    have hD : va_D A [(hm, .inr (7, [.int (iI th), .ref rS, .ref rM, .ref rB, .ref rT, .ref rX, .ref rY, .ref rL, .int (iI sz1), .ref rR, .int (iI at1), .long (lI nu), .ref rt, .ref rx, .ref ry, .int (iI fo), .ref rF, .ref rG, .ref rU, .ref rV, .long (lI lo), .long (lI lB), .long (lI a), .long (lI hB1)]))] := hD
    refine lv_aload_n hx hb dX7_lower_21 rfl (lv_at hl 0 rfl) ?_
    refine lv_lload_n hx hb dX7_lower_22 rfl (lv_at hl 2 rfl) ?_
    refine va_put (D := D) (ci := 7) (v := .long (lI b)) (ty := .long) (C := RX7) (T := TX7) (N := 24) hx hb hts hin7 tyX7 tyX7_ok nmX7 hown hK hP hD hS 0 rfl rfl 23 (by decide) (hts (.fieldLink RX7 155 "DriftLogModel" "highBy" "J") (by decide +kernel)) (fun _ h9 => h9) rfl (by decide +kernel) rfl rfl (Nat.le_of_ble_eq_true rfl) dX7_lower_23 (fun H locs hP hD hS => ?_)
    have hP : va_P D vwCl [(hm, .inr (7, [.int (iI th), .ref rS, .ref rM, .ref rB, .ref rT, .ref rX, .ref rY, .ref rL, .int (iI sz1), .ref rR, .int (iI at1), .long (lI nu), .ref rt, .ref rx, .ref ry, .int (iI fo), .ref rF, .ref rG, .ref rU, .ref rV, .long (lI lo), .long (lI lB), .long (lI a), .long (lI b)]))] H := hP
    have hD : va_D A [(hm, .inr (7, [.int (iI th), .ref rS, .ref rM, .ref rB, .ref rT, .ref rX, .ref rY, .ref rL, .int (iI sz1), .ref rR, .int (iI at1), .long (lI nu), .ref rt, .ref rx, .ref ry, .int (iI fo), .ref rF, .ref rG, .ref rU, .ref rV, .long (lI lo), .long (lI lB), .long (lI a), .long (lI b)]))] := hD
    rw [hQ]
    exact wz_retv (tys := TY cI cJ cT) (a, b) hx hb hr hlocks hK hP hD hS (by (try dsimp only); exact (⟨if_pos c13, h2⟩)) dX7_lower_26
set_option maxHeartbeats 4000000 in
set_option maxRecDepth 100000 in
theorem k_X7_within (l : Launch) (D : va_G) (cI cJ cT : ClassId) (sz : Nat) (hm : Nat) (th : Int) (rS : Nat) (rM : Nat) (rB : Nat) (rT : Nat) (rX : Nat) (rY : Nat) (rL : Nat) (sz1 : Int) (rR : Nat) (at1 : Int) (nu : Int) (rt : Nat) (rx : Nat) (ry : Nat) (fo : Int) (rF : Nat) (rG : Nat) (rU : Nat) (rV : Nat) (lo : Int) (lB : Int) (hi : Int) (hB1 : Int) (fT : Int → Int) (fX : Int → Int) (fY : Int → Int) (k : Int) (yy : Int) (le : Int) (mo : Int) (h1 : frM lo lB) (h2 : frM hi hB1) (ht : okT fT) (hx1 : okC fX) (hy1 : okC fY) (hk : 0 ≤ k ∧ k < 79) (hya : rI yy) (hle : -33554432 ≤ le ∧ le ≤ 33554432) (hmo : -33554432 ≤ mo ∧ mo ≤ 33554432) : Met l yX7_within wsX7_within { frames := 3, cells := 0, slots := 0, locals := 80 } (zPc D (TY cI cJ cT) [.ref hm, .int (iI k), .int (iI yy), .long (lI le), .long (lI mo)] [(hm, .inr (7, [.int (iI th), .ref rS, .ref rM, .ref rB, .ref rT, .ref rX, .ref rY, .ref rL, .int (iI sz1), .ref rR, .int (iI at1), .long (lI nu), .ref rt, .ref rx, .ref ry, .int (iI fo), .ref rF, .ref rG, .ref rU, .ref rV, .long (lI lo), .long (lI lB), .long (lI hi), .long (lI hB1)])), (rT, .inl (cI, 80, .inl (zA fT))), (rX, .inl (cI, 80, .inl (zA fX))), (rY, .inl (cI, 80, .inl (zA fY)))] sz) (zQi D (TY cI cJ cT) (va_A [(hm, .inr (7, [.int (iI th), .ref rS, .ref rM, .ref rB, .ref rT, .ref rX, .ref rY, .ref rL, .int (iI sz1), .ref rR, .int (iI at1), .long (lI nu), .ref rt, .ref rx, .ref ry, .int (iI fo), .ref rF, .ref rG, .ref rU, .ref rV, .long (lI lo), .long (lI lB), .long (lI hi), .long (lI hB1)])), (rT, .inl (cI, 80, .inl (zA fT))), (rX, .inl (cI, 80, .inl (zA fX))), (rY, .inl (cI, 80, .inl (zA fY)))] sz) (fun (z : Int) (u : Int × Int × Int × Int) => wiZ ((if yy = 0 then fX else fY) k) ((if yy = 0 then fX else fY) (k + 1)) (fT k) (fT (k + 1) - fT k) le mo (lo, lB, hi, hB1) = (z, u.1, u.2.1, u.2.2.1, u.2.2.2) ∧ frM u.1 u.2.1 ∧ frM u.2.2.1 u.2.2.2) (fun (u : Int × Int × Int × Int) => [(hm, .inr (7, [.int (iI th), .ref rS, .ref rM, .ref rB, .ref rT, .ref rX, .ref rY, .ref rL, .int (iI sz1), .ref rR, .int (iI at1), .long (lI nu), .ref rt, .ref rx, .ref ry, .int (iI fo), .ref rF, .ref rG, .ref rU, .ref rV, .long (lI u.1), .long (lI u.2.1), .long (lI u.2.2.1), .long (lI u.2.2.2)])), (rT, .inl (cI, 80, .inl (zA fT))), (rX, .inl (cI, 80, .inl (zA fX))), (rY, .inl (cI, 80, .inl (zA fY)))])) 0 0 (va_A [(hm, .inr (7, [.int (iI th), .ref rS, .ref rM, .ref rB, .ref rT, .ref rX, .ref rY, .ref rL, .int (iI sz1), .ref rR, .int (iI at1), .long (lI nu), .ref rt, .ref rx, .ref ry, .int (iI fo), .ref rF, .ref rG, .ref rU, .ref rV, .long (lI lo), .long (lI lB), .long (lI hi), .long (lI hB1)])), (rT, .inl (cI, 80, .inl (zA fT))), (rX, .inl (cI, 80, .inl (zA fX))), (rY, .inl (cI, 80, .inl (zA fY)))] sz) := by
  refine zMi (cc := cX7_within) (maxL := 21) (ret := (some .boolean)) (by decide) rfl (Nat.le_of_ble_eq_true rfl) ?_
  intro p e s m below meth c A ls hE
  obtain ⟨hx, hb, hr, hts, hown, hlocks, hml, hnm, hP, hK, hD, hA, hS, hl⟩ := hE
  have hown : s.vm.findClass RX7 = some m.cls := hown
  have hl : lv_has ls 21 [(0, .ref hm), (1, .int (iI k)), (2, .int (iI yy)), (3, .long (lI le)), (5, .long (lI mo))] := hl
  have hin7 : ∀ w ∈ wsX70, w ∈ wsX7_within := by decide +kernel
  obtain ⟨Q, hQ⟩ : ∃ Q, Q = MQ below (zQi D (TY cI cJ cT) A (fun (z : Int) (u : Int × Int × Int × Int) => wiZ ((if yy = 0 then fX else fY) k) ((if yy = 0 then fX else fY) (k + 1)) (fT k) (fT (k + 1) - fT k) le mo (lo, lB, hi, hB1) = (z, u.1, u.2.1, u.2.2.1, u.2.2.2) ∧ frM u.1 u.2.1 ∧ frM u.2.2.1 u.2.2.2) (fun (u : Int × Int × Int × Int) => [(hm, .inr (7, [.int (iI th), .ref rS, .ref rM, .ref rB, .ref rT, .ref rX, .ref rY, .ref rL, .int (iI sz1), .ref rR, .int (iI at1), .long (lI nu), .ref rt, .ref rx, .ref ry, .int (iI fo), .ref rF, .ref rG, .ref rU, .ref rV, .long (lI u.1), .long (lI u.2.1), .long (lI u.2.2.1), .long (lI u.2.2.2)])), (rT, .inl (cI, 80, .inl (zA fT))), (rX, .inl (cI, 80, .inl (zA fX))), (rY, .inl (cI, 80, .inl (zA fY)))])) ([.ref hm, .int (iI k), .int (iI yy), .long (lI le), .long (lI mo)] : List Value).toArray s 0 0 A := ⟨_, rfl⟩
  rw [← hQ]
  refine lv_iload_n hx hb dX7_within_0 rfl (lv_at hl 2 rfl) ?_
  refine wz_if_eq (tgt := 14) hx hb dX7_within_1 (by decide) (hya) (fun c1 => ?_) (fun c1 => ?_)
  · skip
    have v0 := hx1 k
    have v1 := hx1 (k + 1)
    have t0 := ht k
    have t1 := ht (k + 1)
    refine lv_aload_n hx hb dX7_within_14 rfl (lv_at hl 0 rfl) ?_
    refine va_get (D := D) (ci := 7) (v := .ref rX) (C := RX7) (T := TX7) (N := 24) hx hb hts hin7 hown hK hP 0 rfl rfl 5 (by decide) (hts (.fieldLink RX7 22 "DriftLogModel" "px" "[I") (by decide +kernel)) (fun _ h9 => h9) rfl dX7_within_15 ?_
    refine lv_iload_n hx hb dX7_within_18 rfl (lv_at hl 1 rfl) ?_
    refine wz_iald (tys := TY cI cJ cT) hx hb hK hP 2 0 rfl rfl (by decide) (by constructor <;> omega) dX7_within_19 ?_
    refine wz_i2l hx hb dX7_within_20 ⟨by omega, by omega⟩ ?_
    refine lv_lstore (lv' := [(7, .long (lI (fX k))), (0, .ref hm), (1, .int (iI k)), (2, .int (iI yy)), (3, .long (lI le)), (5, .long (lI mo))]) hx hb dX7_within_21 hl (by decide) rfl (fun ls hl => ?_)
    refine lv_iload_n hx hb dX7_within_23 rfl (lv_at hl 3 rfl) ?_
    refine wz_if_eq (tgt := 39) hx hb dX7_within_24 (by decide) (hya) (fun c24 => ?_) (fun c24 => ?_)
    · skip
      refine lv_aload_n hx hb dX7_within_39 rfl (lv_at hl 1 rfl) ?_
      refine va_get (D := D) (ci := 7) (v := .ref rX) (C := RX7) (T := TX7) (N := 24) hx hb hts hin7 hown hK hP 0 rfl rfl 5 (by decide) (hts (.fieldLink RX7 22 "DriftLogModel" "px" "[I") (by decide +kernel)) (fun _ h9 => h9) rfl dX7_within_40 ?_
      refine lv_iload_n hx hb dX7_within_43 rfl (lv_at hl 2 rfl) ?_
      refine lv_iconst (v := iI 1) hx hb dX7_within_44 rfl ?_
      refine wz_iadd hx hb dX7_within_45 ?_
      refine wz_iald (tys := TY cI cJ cT) hx hb hK hP 2 0 rfl rfl (by decide) (by constructor <;> omega) dX7_within_46 ?_
      refine wz_i2l hx hb dX7_within_47 ⟨by omega, by omega⟩ ?_
      refine lv_lstore (lv' := [(9, .long (lI (fX (k + 1)))), (7, .long (lI (fX k))), (0, .ref hm), (1, .int (iI k)), (2, .int (iI yy)), (3, .long (lI le)), (5, .long (lI mo))]) hx hb dX7_within_48 hl (by decide) rfl (fun ls hl => ?_)
      refine lv_lload hx hb dX7_within_50 (lv_at hl 0 rfl) ?_
      refine lv_lload hx hb dX7_within_52 (lv_at hl 1 rfl) ?_
      refine wz_lsub hx hb dX7_within_54 ?_
      refine lv_lstore (lv' := [(11, .long (lI ((fX (k + 1)) - (fX k)))), (9, .long (lI (fX (k + 1)))), (7, .long (lI (fX k))), (0, .ref hm), (1, .int (iI k)), (2, .int (iI yy)), (3, .long (lI le)), (5, .long (lI mo))]) hx hb dX7_within_55 hl (by decide) rfl (fun ls hl => ?_)
      refine lv_aload_n hx hb dX7_within_57 rfl (lv_at hl 3 rfl) ?_
      refine va_get (D := D) (ci := 7) (v := .ref rT) (C := RX7) (T := TX7) (N := 24) hx hb hts hin7 hown hK hP 0 rfl rfl 4 (by decide) (hts (.fieldLink RX7 19 "DriftLogModel" "time" "[I") (by decide +kernel)) (fun _ h9 => h9) rfl dX7_within_58 ?_
      refine lv_iload_n hx hb dX7_within_61 rfl (lv_at hl 4 rfl) ?_
      refine wz_iald (tys := TY cI cJ cT) hx hb hK hP 1 0 rfl rfl (by decide) (by constructor <;> omega) dX7_within_62 ?_
      refine wz_i2l hx hb dX7_within_63 ⟨by omega, by omega⟩ ?_
      refine lv_lstore (lv' := [(13, .long (lI (fT k))), (11, .long (lI ((fX (k + 1)) - (fX k)))), (9, .long (lI (fX (k + 1)))), (7, .long (lI (fX k))), (0, .ref hm), (1, .int (iI k)), (2, .int (iI yy)), (3, .long (lI le)), (5, .long (lI mo))]) hx hb dX7_within_64 hl (by decide) rfl (fun ls hl => ?_)
      refine lv_aload_n hx hb dX7_within_66 rfl (lv_at hl 4 rfl) ?_
      refine va_get (D := D) (ci := 7) (v := .ref rT) (C := RX7) (T := TX7) (N := 24) hx hb hts hin7 hown hK hP 0 rfl rfl 4 (by decide) (hts (.fieldLink RX7 19 "DriftLogModel" "time" "[I") (by decide +kernel)) (fun _ h9 => h9) rfl dX7_within_67 ?_
      refine lv_iload_n hx hb dX7_within_70 rfl (lv_at hl 5 rfl) ?_
      refine lv_iconst (v := iI 1) hx hb dX7_within_71 rfl ?_
      refine wz_iadd hx hb dX7_within_72 ?_
      refine wz_iald (tys := TY cI cJ cT) hx hb hK hP 1 0 rfl rfl (by decide) (by constructor <;> omega) dX7_within_73 ?_
      refine wz_i2l hx hb dX7_within_74 ⟨by omega, by omega⟩ ?_
      refine lv_lload hx hb dX7_within_75 (lv_at hl 0 rfl) ?_
      refine wz_lsub hx hb dX7_within_77 ?_
      refine lv_lstore (lv' := [(15, .long (lI ((fT (k + 1)) - (fT k)))), (13, .long (lI (fT k))), (11, .long (lI ((fX (k + 1)) - (fX k)))), (9, .long (lI (fX (k + 1)))), (7, .long (lI (fX k))), (0, .ref hm), (1, .int (iI k)), (2, .int (iI yy)), (3, .long (lI le)), (5, .long (lI mo))]) hx hb dX7_within_78 hl (by decide) rfl (fun ls hl => ?_)
      refine lv_lload hx hb dX7_within_80 (lv_at hl 2 rfl) ?_
      refine lv_lconst (v := lI 0) hx hb dX7_within_82 (by decide) ?_
      refine W.lcmp hx hb dX7_within_83 ?_
      refine wz_lif_ne (tgt := 108) hx hb dX7_within_84 (by decide) ⟨by omega, by omega⟩ (by decide) (fun c84 => ?_) (fun c84 => ?_)
      · skip
        refine lv_lload hx hb dX7_within_108 (lv_at hl 1 rfl) ?_
        refine lv_lload hx hb dX7_within_110 (lv_at hl 2 rfl) ?_
        refine wz_lmul hx hb dX7_within_112 ?_
        refine lv_lload_n hx hb dX7_within_113 rfl (lv_at hl 8 rfl) ?_
        refine lv_lload hx hb dX7_within_114 (lv_at hl 4 rfl) ?_
        refine wz_lsub hx hb dX7_within_116 ?_
        refine lv_lload hx hb dX7_within_117 (lv_at hl 0 rfl) ?_
        refine wz_lmul hx hb dX7_within_119 ?_
        refine wz_ladd hx hb dX7_within_120 ?_
        refine lv_lstore (lv' := [(17, .long (lI (((fT k) * ((fX (k + 1)) - (fX k))) + ((le - (fX k)) * ((fT (k + 1)) - (fT k)))))), (15, .long (lI ((fT (k + 1)) - (fT k)))), (13, .long (lI (fT k))), (11, .long (lI ((fX (k + 1)) - (fX k)))), (9, .long (lI (fX (k + 1)))), (7, .long (lI (fX k))), (0, .ref hm), (1, .int (iI k)), (2, .int (iI yy)), (3, .long (lI le)), (5, .long (lI mo))]) hx hb dX7_within_121 hl (by decide) rfl (fun ls hl => ?_)
        refine lv_lload hx hb dX7_within_123 (lv_at hl 2 rfl) ?_
        refine lv_lload hx hb dX7_within_125 (lv_at hl 3 rfl) ?_
        refine wz_lmul hx hb dX7_within_127 ?_
        refine lv_lload hx hb dX7_within_128 (lv_at hl 10 rfl) ?_
        refine lv_lload hx hb dX7_within_130 (lv_at hl 5 rfl) ?_
        refine wz_lsub hx hb dX7_within_132 ?_
        refine lv_lload hx hb dX7_within_133 (lv_at hl 1 rfl) ?_
        refine wz_lmul hx hb dX7_within_135 ?_
        refine wz_ladd hx hb dX7_within_136 ?_
        refine lv_lstore (lv' := [(19, .long (lI (((fT k) * ((fX (k + 1)) - (fX k))) + ((mo - (fX k)) * ((fT (k + 1)) - (fT k)))))), (17, .long (lI (((fT k) * ((fX (k + 1)) - (fX k))) + ((le - (fX k)) * ((fT (k + 1)) - (fT k)))))), (15, .long (lI ((fT (k + 1)) - (fT k)))), (13, .long (lI (fT k))), (11, .long (lI ((fX (k + 1)) - (fX k)))), (9, .long (lI (fX (k + 1)))), (7, .long (lI (fX k))), (0, .ref hm), (1, .int (iI k)), (2, .int (iI yy)), (3, .long (lI le)), (5, .long (lI mo))]) hx hb dX7_within_137 hl (by decide) rfl (fun ls hl => ?_)
        have cA := cutM (t := fT k) (d := fX (k + 1) - fX k) (x := le - fX k) (dt := fT (k + 1) - fT k) (by constructor <;> omega) (by constructor <;> omega) (by constructor <;> omega) (by constructor <;> omega)
        have cB := cutM (t := fT k) (d := fX (k + 1) - fX k) (x := mo - fX k) (dt := fT (k + 1) - fT k) (by constructor <;> omega) (by constructor <;> omega) (by constructor <;> omega) (by constructor <;> omega)
        refine lv_lload hx hb dX7_within_139 (lv_at hl 4 rfl) ?_
        refine lv_lconst (v := lI 0) hx hb dX7_within_141 (by decide) ?_
        refine W.lcmp hx hb dX7_within_142 ?_
        refine wz_lif_le (tgt := 165) hx hb dX7_within_143 (by decide) ⟨by omega, by omega⟩ (by decide) (fun c143 => ?_) (fun c143 => ?_)
        · skip
          refine lv_aload_n hx hb dX7_within_165 rfl (lv_at hl 7 rfl) ?_
          refine lv_lload hx hb dX7_within_166 (lv_at hl 0 rfl) ?_
          refine wz_lneg hx hb dX7_within_168 ?_
          refine lv_lload hx hb dX7_within_169 (lv_at hl 4 rfl) ?_
          refine wz_lneg hx hb dX7_within_171 ?_
          refine wz_callv (wr := [(rT, .inl (cI, 80, .inl (zA fT))), (rX, .inl (cI, 80, .inl (zA fX))), (rY, .inl (cI, 80, .inl (zA fY)))]) (va_runV (As := [.long (lI (-(((fT k) * ((fX (k + 1)) - (fX k))) + ((mo - (fX k)) * ((fT (k + 1)) - (fT k)))))), .long (lI (-((fX (k + 1)) - (fX k))))]) (rest := []) ⟨hx, hb, hml, hown, hts⟩ (k_X7_raise l D cI cJ cT s.heap.size hm th rS rM rB rT rX rY rL sz1 rR at1 nu rt rx ry fo rF rG rU rV lo lB hi hB1 (-(((fT k) * ((fX (k + 1)) - (fX k))) + ((mo - (fX k)) * ((fT (k + 1)) - (fT k))))) (-((fX (k + 1)) - (fX k))) (h1) (⟨⟨by omega, by omega⟩, by omega, by omega⟩)) (cwV 2 hts gX7_within_X7_raise rfl rfl rfl (by decide +kernel) ⟨Nat.le_of_ble_eq_true rfl, Nat.le_of_ble_eq_true rfl⟩) (wz_preV hK hP hD [0] (by decide) rfl rfl 7 0 rfl rfl) rfl rfl hl.1 rfl (lv_room (Nat.le_of_ble_eq_true rfl)) dX7_within_172 ⟨Nat.le_of_ble_eq_true rfl, Nat.le_of_ble_eq_true rfl⟩) hP hD hS hA [0] [1, 2, 3] rfl rfl rfl (by decide) (fun  u H locs hw172 hP hD hS => ?_)
          obtain ⟨fa, sa⟩ := u
          try dsimp only at hw172
          have hP : va_P D vwCl [(hm, .inr (7, [.int (iI th), .ref rS, .ref rM, .ref rB, .ref rT, .ref rX, .ref rY, .ref rL, .int (iI sz1), .ref rR, .int (iI at1), .long (lI nu), .ref rt, .ref rx, .ref ry, .int (iI fo), .ref rF, .ref rG, .ref rU, .ref rV, .long (lI fa), .long (lI sa), .long (lI hi), .long (lI hB1)])), (rT, .inl (cI, 80, .inl (zA fT))), (rX, .inl (cI, 80, .inl (zA fX))), (rY, .inl (cI, 80, .inl (zA fY)))] H := hP.sub [3, 0, 1, 2] rfl
          have hD : va_D A [(hm, .inr (7, [.int (iI th), .ref rS, .ref rM, .ref rB, .ref rT, .ref rX, .ref rY, .ref rL, .int (iI sz1), .ref rR, .int (iI at1), .long (lI nu), .ref rt, .ref rx, .ref ry, .int (iI fo), .ref rF, .ref rG, .ref rU, .ref rV, .long (lI fa), .long (lI sa), .long (lI hi), .long (lI hB1)])), (rT, .inl (cI, 80, .inl (zA fT))), (rX, .inl (cI, 80, .inl (zA fX))), (rY, .inl (cI, 80, .inl (zA fY)))] := hD.sub [3, 0, 1, 2] (by decide) rfl
          refine lv_aload_n hx hb dX7_within_175 rfl (lv_at hl 7 rfl) ?_
          refine lv_lload hx hb dX7_within_176 (lv_at hl 1 rfl) ?_
          refine wz_lneg hx hb dX7_within_178 ?_
          refine lv_lload hx hb dX7_within_179 (lv_at hl 4 rfl) ?_
          refine wz_lneg hx hb dX7_within_181 ?_
          refine wz_callv (wr := [(rT, .inl (cI, 80, .inl (zA fT))), (rX, .inl (cI, 80, .inl (zA fX))), (rY, .inl (cI, 80, .inl (zA fY)))]) (va_runV (As := [.long (lI (-(((fT k) * ((fX (k + 1)) - (fX k))) + ((le - (fX k)) * ((fT (k + 1)) - (fT k)))))), .long (lI (-((fX (k + 1)) - (fX k))))]) (rest := []) ⟨hx, hb, hml, hown, hts⟩ (k_X7_lower l D cI cJ cT H.size hm th rS rM rB rT rX rY rL sz1 rR at1 nu rt rx ry fo rF rG rU rV fa sa hi hB1 (-(((fT k) * ((fX (k + 1)) - (fX k))) + ((le - (fX k)) * ((fT (k + 1)) - (fT k))))) (-((fX (k + 1)) - (fX k))) (h2) (⟨⟨by omega, by omega⟩, by omega, by omega⟩)) (cwV 2 hts gX7_within_X7_lower rfl rfl rfl (by decide +kernel) ⟨Nat.le_of_ble_eq_true rfl, Nat.le_of_ble_eq_true rfl⟩) (wz_preV hK hP hD [0] (by decide) rfl rfl 7 0 rfl rfl) rfl rfl hl.1 rfl (lv_room (Nat.le_of_ble_eq_true rfl)) dX7_within_182 ⟨Nat.le_of_ble_eq_true rfl, Nat.le_of_ble_eq_true rfl⟩) hP hD hS hA [0] [1, 2, 3] rfl rfl rfl (by decide) (fun  u H locs hw182 hP hD hS => ?_)
          obtain ⟨fb, sb⟩ := u
          try dsimp only at hw182
          have hP : va_P D vwCl [(hm, .inr (7, [.int (iI th), .ref rS, .ref rM, .ref rB, .ref rT, .ref rX, .ref rY, .ref rL, .int (iI sz1), .ref rR, .int (iI at1), .long (lI nu), .ref rt, .ref rx, .ref ry, .int (iI fo), .ref rF, .ref rG, .ref rU, .ref rV, .long (lI fa), .long (lI sa), .long (lI fb), .long (lI sb)])), (rT, .inl (cI, 80, .inl (zA fT))), (rX, .inl (cI, 80, .inl (zA fX))), (rY, .inl (cI, 80, .inl (zA fY)))] H := hP.sub [3, 0, 1, 2] rfl
          have hD : va_D A [(hm, .inr (7, [.int (iI th), .ref rS, .ref rM, .ref rB, .ref rT, .ref rX, .ref rY, .ref rL, .int (iI sz1), .ref rR, .int (iI at1), .long (lI nu), .ref rt, .ref rx, .ref ry, .int (iI fo), .ref rF, .ref rG, .ref rU, .ref rV, .long (lI fa), .long (lI sa), .long (lI fb), .long (lI sb)])), (rT, .inl (cI, 80, .inl (zA fT))), (rX, .inl (cI, 80, .inl (zA fX))), (rY, .inl (cI, 80, .inl (zA fY)))] := hD.sub [3, 0, 1, 2] (by decide) rfl
          refine lv_iconst (v := iI 1) hx hb dX7_within_185 rfl ?_
          rw [hQ]
          exact wz_retz (tys := TY cI cJ cT) (fa, sa, fb, sb) hx hb hr hlocks hK hP hD hS (by first | decide | exact bz_01 _ | omega) (by (try dsimp only); exact (by rw [if_pos c1]; unfold wiZ; rw [if_neg c84, if_neg (by omega)]; dsimp only; rw [hw172.1, hw182.1]; exact ⟨rfl, hw172.2, hw182.2⟩)) dX7_within_186
        · skip
          refine lv_aload_n hx hb dX7_within_146 rfl (lv_at hl 7 rfl) ?_
          refine lv_lload hx hb dX7_within_147 (lv_at hl 1 rfl) ?_
          refine lv_lload hx hb dX7_within_149 (lv_at hl 4 rfl) ?_
          refine wz_callv (wr := [(rT, .inl (cI, 80, .inl (zA fT))), (rX, .inl (cI, 80, .inl (zA fX))), (rY, .inl (cI, 80, .inl (zA fY)))]) (va_runV (As := [.long (lI (((fT k) * ((fX (k + 1)) - (fX k))) + ((le - (fX k)) * ((fT (k + 1)) - (fT k))))), .long (lI ((fX (k + 1)) - (fX k)))]) (rest := []) ⟨hx, hb, hml, hown, hts⟩ (k_X7_raise l D cI cJ cT s.heap.size hm th rS rM rB rT rX rY rL sz1 rR at1 nu rt rx ry fo rF rG rU rV lo lB hi hB1 (((fT k) * ((fX (k + 1)) - (fX k))) + ((le - (fX k)) * ((fT (k + 1)) - (fT k)))) ((fX (k + 1)) - (fX k)) (h1) (⟨⟨by omega, by omega⟩, by omega, by omega⟩)) (cwV 2 hts gX7_within_X7_raise rfl rfl rfl (by decide +kernel) ⟨Nat.le_of_ble_eq_true rfl, Nat.le_of_ble_eq_true rfl⟩) (wz_preV hK hP hD [0] (by decide) rfl rfl 7 0 rfl rfl) rfl rfl hl.1 rfl (lv_room (Nat.le_of_ble_eq_true rfl)) dX7_within_151 ⟨Nat.le_of_ble_eq_true rfl, Nat.le_of_ble_eq_true rfl⟩) hP hD hS hA [0] [1, 2, 3] rfl rfl rfl (by decide) (fun  u H locs hw151 hP hD hS => ?_)
          obtain ⟨fa, sa⟩ := u
          try dsimp only at hw151
          have hP : va_P D vwCl [(hm, .inr (7, [.int (iI th), .ref rS, .ref rM, .ref rB, .ref rT, .ref rX, .ref rY, .ref rL, .int (iI sz1), .ref rR, .int (iI at1), .long (lI nu), .ref rt, .ref rx, .ref ry, .int (iI fo), .ref rF, .ref rG, .ref rU, .ref rV, .long (lI fa), .long (lI sa), .long (lI hi), .long (lI hB1)])), (rT, .inl (cI, 80, .inl (zA fT))), (rX, .inl (cI, 80, .inl (zA fX))), (rY, .inl (cI, 80, .inl (zA fY)))] H := hP.sub [3, 0, 1, 2] rfl
          have hD : va_D A [(hm, .inr (7, [.int (iI th), .ref rS, .ref rM, .ref rB, .ref rT, .ref rX, .ref rY, .ref rL, .int (iI sz1), .ref rR, .int (iI at1), .long (lI nu), .ref rt, .ref rx, .ref ry, .int (iI fo), .ref rF, .ref rG, .ref rU, .ref rV, .long (lI fa), .long (lI sa), .long (lI hi), .long (lI hB1)])), (rT, .inl (cI, 80, .inl (zA fT))), (rX, .inl (cI, 80, .inl (zA fX))), (rY, .inl (cI, 80, .inl (zA fY)))] := hD.sub [3, 0, 1, 2] (by decide) rfl
          refine lv_aload_n hx hb dX7_within_154 rfl (lv_at hl 7 rfl) ?_
          refine lv_lload hx hb dX7_within_155 (lv_at hl 0 rfl) ?_
          refine lv_lload hx hb dX7_within_157 (lv_at hl 4 rfl) ?_
          refine wz_callv (wr := [(rT, .inl (cI, 80, .inl (zA fT))), (rX, .inl (cI, 80, .inl (zA fX))), (rY, .inl (cI, 80, .inl (zA fY)))]) (va_runV (As := [.long (lI (((fT k) * ((fX (k + 1)) - (fX k))) + ((mo - (fX k)) * ((fT (k + 1)) - (fT k))))), .long (lI ((fX (k + 1)) - (fX k)))]) (rest := []) ⟨hx, hb, hml, hown, hts⟩ (k_X7_lower l D cI cJ cT H.size hm th rS rM rB rT rX rY rL sz1 rR at1 nu rt rx ry fo rF rG rU rV fa sa hi hB1 (((fT k) * ((fX (k + 1)) - (fX k))) + ((mo - (fX k)) * ((fT (k + 1)) - (fT k)))) ((fX (k + 1)) - (fX k)) (h2) (⟨⟨by omega, by omega⟩, by omega, by omega⟩)) (cwV 2 hts gX7_within_X7_lower rfl rfl rfl (by decide +kernel) ⟨Nat.le_of_ble_eq_true rfl, Nat.le_of_ble_eq_true rfl⟩) (wz_preV hK hP hD [0] (by decide) rfl rfl 7 0 rfl rfl) rfl rfl hl.1 rfl (lv_room (Nat.le_of_ble_eq_true rfl)) dX7_within_159 ⟨Nat.le_of_ble_eq_true rfl, Nat.le_of_ble_eq_true rfl⟩) hP hD hS hA [0] [1, 2, 3] rfl rfl rfl (by decide) (fun  u H locs hw159 hP hD hS => ?_)
          obtain ⟨fb, sb⟩ := u
          try dsimp only at hw159
          have hP : va_P D vwCl [(hm, .inr (7, [.int (iI th), .ref rS, .ref rM, .ref rB, .ref rT, .ref rX, .ref rY, .ref rL, .int (iI sz1), .ref rR, .int (iI at1), .long (lI nu), .ref rt, .ref rx, .ref ry, .int (iI fo), .ref rF, .ref rG, .ref rU, .ref rV, .long (lI fa), .long (lI sa), .long (lI fb), .long (lI sb)])), (rT, .inl (cI, 80, .inl (zA fT))), (rX, .inl (cI, 80, .inl (zA fX))), (rY, .inl (cI, 80, .inl (zA fY)))] H := hP.sub [3, 0, 1, 2] rfl
          have hD : va_D A [(hm, .inr (7, [.int (iI th), .ref rS, .ref rM, .ref rB, .ref rT, .ref rX, .ref rY, .ref rL, .int (iI sz1), .ref rR, .int (iI at1), .long (lI nu), .ref rt, .ref rx, .ref ry, .int (iI fo), .ref rF, .ref rG, .ref rU, .ref rV, .long (lI fa), .long (lI sa), .long (lI fb), .long (lI sb)])), (rT, .inl (cI, 80, .inl (zA fT))), (rX, .inl (cI, 80, .inl (zA fX))), (rY, .inl (cI, 80, .inl (zA fY)))] := hD.sub [3, 0, 1, 2] (by decide) rfl
          refine lv_goto (tgt := 185) hx hb dX7_within_162 (by decide) ?_
          refine lv_iconst (v := iI 1) hx hb dX7_within_185 rfl ?_
          rw [hQ]
          exact wz_retz (tys := TY cI cJ cT) (fa, sa, fb, sb) hx hb hr hlocks hK hP hD hS (by first | decide | exact bz_01 _ | omega) (by (try dsimp only); exact (by rw [if_pos c1]; unfold wiZ; rw [if_neg c84, if_pos c143]; dsimp only; rw [hw151.1, hw159.1]; exact ⟨rfl, hw151.2, hw159.2⟩)) dX7_within_186
      · skip
        refine lv_lload hx hb dX7_within_87 (lv_at hl 4 rfl) ?_
        refine lv_lload_n hx hb dX7_within_89 rfl (lv_at hl 8 rfl) ?_
        refine W.lcmp hx hb dX7_within_90 ?_
        refine wz_lif_lt (tgt := 106) hx hb dX7_within_91 (by decide) ⟨by omega, by omega⟩ ⟨by omega, by omega⟩ (fun c91 => ?_) (fun c91 => ?_)
        · skip
          refine lv_iconst (v := iI 0) hx hb dX7_within_106 rfl ?_
          rw [hQ]
          exact wz_retz (tys := TY cI cJ cT) (lo, lB, hi, hB1) hx hb hr hlocks hK hP hD hS (by first | decide | exact bz_01 _ | omega) (by (try dsimp only); exact (by rw [if_pos c1]; unfold wiZ; rw [if_pos c84]; rw [if_neg (by omega)]; exact ⟨rfl, h1, h2⟩)) dX7_within_107
        · skip
          refine lv_lload hx hb dX7_within_94 (lv_at hl 4 rfl) ?_
          refine lv_lload hx hb dX7_within_96 (lv_at hl 9 rfl) ?_
          refine W.lcmp hx hb dX7_within_98 ?_
          refine wz_lif_gt (tgt := 106) hx hb dX7_within_99 (by decide) ⟨by omega, by omega⟩ ⟨by omega, by omega⟩ (fun c99 => ?_) (fun c99 => ?_)
          · skip
            refine lv_iconst (v := iI 0) hx hb dX7_within_106 rfl ?_
            rw [hQ]
            exact wz_retz (tys := TY cI cJ cT) (lo, lB, hi, hB1) hx hb hr hlocks hK hP hD hS (by first | decide | exact bz_01 _ | omega) (by (try dsimp only); exact (by rw [if_pos c1]; unfold wiZ; rw [if_pos c84]; rw [if_neg (by omega)]; exact ⟨rfl, h1, h2⟩)) dX7_within_107
          · skip
            refine lv_iconst (v := iI 1) hx hb dX7_within_102 rfl ?_
            refine lv_goto (tgt := 107) hx hb dX7_within_103 (by decide) ?_
            rw [hQ]
            exact wz_retz (tys := TY cI cJ cT) (lo, lB, hi, hB1) hx hb hr hlocks hK hP hD hS (by first | decide | exact bz_01 _ | omega) (by (try dsimp only); exact (by rw [if_pos c1]; unfold wiZ; rw [if_pos c84]; rw [if_pos (by omega)]; exact ⟨rfl, h1, h2⟩)) dX7_within_107
    · skip
      exfalso; omega
  · skip
    have v0 := hy1 k
    have v1 := hy1 (k + 1)
    have t0 := ht k
    have t1 := ht (k + 1)
    refine lv_aload_n hx hb dX7_within_4 rfl (lv_at hl 0 rfl) ?_
    refine va_get (D := D) (ci := 7) (v := .ref rY) (C := RX7) (T := TX7) (N := 24) hx hb hts hin7 hown hK hP 0 rfl rfl 6 (by decide) (hts (.fieldLink RX7 25 "DriftLogModel" "py" "[I") (by decide +kernel)) (fun _ h9 => h9) rfl dX7_within_5 ?_
    refine lv_iload_n hx hb dX7_within_8 rfl (lv_at hl 1 rfl) ?_
    refine wz_iald (tys := TY cI cJ cT) hx hb hK hP 3 0 rfl rfl (by decide) (by constructor <;> omega) dX7_within_9 ?_
    refine wz_i2l hx hb dX7_within_10 ⟨by omega, by omega⟩ ?_
    refine lv_goto (tgt := 21) hx hb dX7_within_11 (by decide) ?_
    refine lv_lstore (lv' := [(7, .long (lI (fY k))), (0, .ref hm), (1, .int (iI k)), (2, .int (iI yy)), (3, .long (lI le)), (5, .long (lI mo))]) hx hb dX7_within_21 hl (by decide) rfl (fun ls hl => ?_)
    refine lv_iload_n hx hb dX7_within_23 rfl (lv_at hl 3 rfl) ?_
    refine wz_if_eq (tgt := 39) hx hb dX7_within_24 (by decide) (hya) (fun c24 => ?_) (fun c24 => ?_)
    · skip
      exfalso; omega
    · skip
      refine lv_aload_n hx hb dX7_within_27 rfl (lv_at hl 1 rfl) ?_
      refine va_get (D := D) (ci := 7) (v := .ref rY) (C := RX7) (T := TX7) (N := 24) hx hb hts hin7 hown hK hP 0 rfl rfl 6 (by decide) (hts (.fieldLink RX7 25 "DriftLogModel" "py" "[I") (by decide +kernel)) (fun _ h9 => h9) rfl dX7_within_28 ?_
      refine lv_iload_n hx hb dX7_within_31 rfl (lv_at hl 2 rfl) ?_
      refine lv_iconst (v := iI 1) hx hb dX7_within_32 rfl ?_
      refine wz_iadd hx hb dX7_within_33 ?_
      refine wz_iald (tys := TY cI cJ cT) hx hb hK hP 3 0 rfl rfl (by decide) (by constructor <;> omega) dX7_within_34 ?_
      refine wz_i2l hx hb dX7_within_35 ⟨by omega, by omega⟩ ?_
      refine lv_goto (tgt := 48) hx hb dX7_within_36 (by decide) ?_
      refine lv_lstore (lv' := [(9, .long (lI (fY (k + 1)))), (7, .long (lI (fY k))), (0, .ref hm), (1, .int (iI k)), (2, .int (iI yy)), (3, .long (lI le)), (5, .long (lI mo))]) hx hb dX7_within_48 hl (by decide) rfl (fun ls hl => ?_)
      refine lv_lload hx hb dX7_within_50 (lv_at hl 0 rfl) ?_
      refine lv_lload hx hb dX7_within_52 (lv_at hl 1 rfl) ?_
      refine wz_lsub hx hb dX7_within_54 ?_
      refine lv_lstore (lv' := [(11, .long (lI ((fY (k + 1)) - (fY k)))), (9, .long (lI (fY (k + 1)))), (7, .long (lI (fY k))), (0, .ref hm), (1, .int (iI k)), (2, .int (iI yy)), (3, .long (lI le)), (5, .long (lI mo))]) hx hb dX7_within_55 hl (by decide) rfl (fun ls hl => ?_)
      refine lv_aload_n hx hb dX7_within_57 rfl (lv_at hl 3 rfl) ?_
      refine va_get (D := D) (ci := 7) (v := .ref rT) (C := RX7) (T := TX7) (N := 24) hx hb hts hin7 hown hK hP 0 rfl rfl 4 (by decide) (hts (.fieldLink RX7 19 "DriftLogModel" "time" "[I") (by decide +kernel)) (fun _ h9 => h9) rfl dX7_within_58 ?_
      refine lv_iload_n hx hb dX7_within_61 rfl (lv_at hl 4 rfl) ?_
      refine wz_iald (tys := TY cI cJ cT) hx hb hK hP 1 0 rfl rfl (by decide) (by constructor <;> omega) dX7_within_62 ?_
      refine wz_i2l hx hb dX7_within_63 ⟨by omega, by omega⟩ ?_
      refine lv_lstore (lv' := [(13, .long (lI (fT k))), (11, .long (lI ((fY (k + 1)) - (fY k)))), (9, .long (lI (fY (k + 1)))), (7, .long (lI (fY k))), (0, .ref hm), (1, .int (iI k)), (2, .int (iI yy)), (3, .long (lI le)), (5, .long (lI mo))]) hx hb dX7_within_64 hl (by decide) rfl (fun ls hl => ?_)
      refine lv_aload_n hx hb dX7_within_66 rfl (lv_at hl 4 rfl) ?_
      refine va_get (D := D) (ci := 7) (v := .ref rT) (C := RX7) (T := TX7) (N := 24) hx hb hts hin7 hown hK hP 0 rfl rfl 4 (by decide) (hts (.fieldLink RX7 19 "DriftLogModel" "time" "[I") (by decide +kernel)) (fun _ h9 => h9) rfl dX7_within_67 ?_
      refine lv_iload_n hx hb dX7_within_70 rfl (lv_at hl 5 rfl) ?_
      refine lv_iconst (v := iI 1) hx hb dX7_within_71 rfl ?_
      refine wz_iadd hx hb dX7_within_72 ?_
      refine wz_iald (tys := TY cI cJ cT) hx hb hK hP 1 0 rfl rfl (by decide) (by constructor <;> omega) dX7_within_73 ?_
      refine wz_i2l hx hb dX7_within_74 ⟨by omega, by omega⟩ ?_
      refine lv_lload hx hb dX7_within_75 (lv_at hl 0 rfl) ?_
      refine wz_lsub hx hb dX7_within_77 ?_
      refine lv_lstore (lv' := [(15, .long (lI ((fT (k + 1)) - (fT k)))), (13, .long (lI (fT k))), (11, .long (lI ((fY (k + 1)) - (fY k)))), (9, .long (lI (fY (k + 1)))), (7, .long (lI (fY k))), (0, .ref hm), (1, .int (iI k)), (2, .int (iI yy)), (3, .long (lI le)), (5, .long (lI mo))]) hx hb dX7_within_78 hl (by decide) rfl (fun ls hl => ?_)
      refine lv_lload hx hb dX7_within_80 (lv_at hl 2 rfl) ?_
      refine lv_lconst (v := lI 0) hx hb dX7_within_82 (by decide) ?_
      refine W.lcmp hx hb dX7_within_83 ?_
      refine wz_lif_ne (tgt := 108) hx hb dX7_within_84 (by decide) ⟨by omega, by omega⟩ (by decide) (fun c84 => ?_) (fun c84 => ?_)
      · skip
        refine lv_lload hx hb dX7_within_108 (lv_at hl 1 rfl) ?_
        refine lv_lload hx hb dX7_within_110 (lv_at hl 2 rfl) ?_
        refine wz_lmul hx hb dX7_within_112 ?_
        refine lv_lload_n hx hb dX7_within_113 rfl (lv_at hl 8 rfl) ?_
        refine lv_lload hx hb dX7_within_114 (lv_at hl 4 rfl) ?_
        refine wz_lsub hx hb dX7_within_116 ?_
        refine lv_lload hx hb dX7_within_117 (lv_at hl 0 rfl) ?_
        refine wz_lmul hx hb dX7_within_119 ?_
        refine wz_ladd hx hb dX7_within_120 ?_
        refine lv_lstore (lv' := [(17, .long (lI (((fT k) * ((fY (k + 1)) - (fY k))) + ((le - (fY k)) * ((fT (k + 1)) - (fT k)))))), (15, .long (lI ((fT (k + 1)) - (fT k)))), (13, .long (lI (fT k))), (11, .long (lI ((fY (k + 1)) - (fY k)))), (9, .long (lI (fY (k + 1)))), (7, .long (lI (fY k))), (0, .ref hm), (1, .int (iI k)), (2, .int (iI yy)), (3, .long (lI le)), (5, .long (lI mo))]) hx hb dX7_within_121 hl (by decide) rfl (fun ls hl => ?_)
        refine lv_lload hx hb dX7_within_123 (lv_at hl 2 rfl) ?_
        refine lv_lload hx hb dX7_within_125 (lv_at hl 3 rfl) ?_
        refine wz_lmul hx hb dX7_within_127 ?_
        refine lv_lload hx hb dX7_within_128 (lv_at hl 10 rfl) ?_
        refine lv_lload hx hb dX7_within_130 (lv_at hl 5 rfl) ?_
        refine wz_lsub hx hb dX7_within_132 ?_
        refine lv_lload hx hb dX7_within_133 (lv_at hl 1 rfl) ?_
        refine wz_lmul hx hb dX7_within_135 ?_
        refine wz_ladd hx hb dX7_within_136 ?_
        refine lv_lstore (lv' := [(19, .long (lI (((fT k) * ((fY (k + 1)) - (fY k))) + ((mo - (fY k)) * ((fT (k + 1)) - (fT k)))))), (17, .long (lI (((fT k) * ((fY (k + 1)) - (fY k))) + ((le - (fY k)) * ((fT (k + 1)) - (fT k)))))), (15, .long (lI ((fT (k + 1)) - (fT k)))), (13, .long (lI (fT k))), (11, .long (lI ((fY (k + 1)) - (fY k)))), (9, .long (lI (fY (k + 1)))), (7, .long (lI (fY k))), (0, .ref hm), (1, .int (iI k)), (2, .int (iI yy)), (3, .long (lI le)), (5, .long (lI mo))]) hx hb dX7_within_137 hl (by decide) rfl (fun ls hl => ?_)
        have cA := cutM (t := fT k) (d := fY (k + 1) - fY k) (x := le - fY k) (dt := fT (k + 1) - fT k) (by constructor <;> omega) (by constructor <;> omega) (by constructor <;> omega) (by constructor <;> omega)
        have cB := cutM (t := fT k) (d := fY (k + 1) - fY k) (x := mo - fY k) (dt := fT (k + 1) - fT k) (by constructor <;> omega) (by constructor <;> omega) (by constructor <;> omega) (by constructor <;> omega)
        refine lv_lload hx hb dX7_within_139 (lv_at hl 4 rfl) ?_
        refine lv_lconst (v := lI 0) hx hb dX7_within_141 (by decide) ?_
        refine W.lcmp hx hb dX7_within_142 ?_
        refine wz_lif_le (tgt := 165) hx hb dX7_within_143 (by decide) ⟨by omega, by omega⟩ (by decide) (fun c143 => ?_) (fun c143 => ?_)
        · skip
          refine lv_aload_n hx hb dX7_within_165 rfl (lv_at hl 7 rfl) ?_
          refine lv_lload hx hb dX7_within_166 (lv_at hl 0 rfl) ?_
          refine wz_lneg hx hb dX7_within_168 ?_
          refine lv_lload hx hb dX7_within_169 (lv_at hl 4 rfl) ?_
          refine wz_lneg hx hb dX7_within_171 ?_
          refine wz_callv (wr := [(rT, .inl (cI, 80, .inl (zA fT))), (rX, .inl (cI, 80, .inl (zA fX))), (rY, .inl (cI, 80, .inl (zA fY)))]) (va_runV (As := [.long (lI (-(((fT k) * ((fY (k + 1)) - (fY k))) + ((mo - (fY k)) * ((fT (k + 1)) - (fT k)))))), .long (lI (-((fY (k + 1)) - (fY k))))]) (rest := []) ⟨hx, hb, hml, hown, hts⟩ (k_X7_raise l D cI cJ cT s.heap.size hm th rS rM rB rT rX rY rL sz1 rR at1 nu rt rx ry fo rF rG rU rV lo lB hi hB1 (-(((fT k) * ((fY (k + 1)) - (fY k))) + ((mo - (fY k)) * ((fT (k + 1)) - (fT k))))) (-((fY (k + 1)) - (fY k))) (h1) (⟨⟨by omega, by omega⟩, by omega, by omega⟩)) (cwV 2 hts gX7_within_X7_raise rfl rfl rfl (by decide +kernel) ⟨Nat.le_of_ble_eq_true rfl, Nat.le_of_ble_eq_true rfl⟩) (wz_preV hK hP hD [0] (by decide) rfl rfl 7 0 rfl rfl) rfl rfl hl.1 rfl (lv_room (Nat.le_of_ble_eq_true rfl)) dX7_within_172 ⟨Nat.le_of_ble_eq_true rfl, Nat.le_of_ble_eq_true rfl⟩) hP hD hS hA [0] [1, 2, 3] rfl rfl rfl (by decide) (fun  u H locs hw172 hP hD hS => ?_)
          obtain ⟨fa, sa⟩ := u
          try dsimp only at hw172
          have hP : va_P D vwCl [(hm, .inr (7, [.int (iI th), .ref rS, .ref rM, .ref rB, .ref rT, .ref rX, .ref rY, .ref rL, .int (iI sz1), .ref rR, .int (iI at1), .long (lI nu), .ref rt, .ref rx, .ref ry, .int (iI fo), .ref rF, .ref rG, .ref rU, .ref rV, .long (lI fa), .long (lI sa), .long (lI hi), .long (lI hB1)])), (rT, .inl (cI, 80, .inl (zA fT))), (rX, .inl (cI, 80, .inl (zA fX))), (rY, .inl (cI, 80, .inl (zA fY)))] H := hP.sub [3, 0, 1, 2] rfl
          have hD : va_D A [(hm, .inr (7, [.int (iI th), .ref rS, .ref rM, .ref rB, .ref rT, .ref rX, .ref rY, .ref rL, .int (iI sz1), .ref rR, .int (iI at1), .long (lI nu), .ref rt, .ref rx, .ref ry, .int (iI fo), .ref rF, .ref rG, .ref rU, .ref rV, .long (lI fa), .long (lI sa), .long (lI hi), .long (lI hB1)])), (rT, .inl (cI, 80, .inl (zA fT))), (rX, .inl (cI, 80, .inl (zA fX))), (rY, .inl (cI, 80, .inl (zA fY)))] := hD.sub [3, 0, 1, 2] (by decide) rfl
          refine lv_aload_n hx hb dX7_within_175 rfl (lv_at hl 7 rfl) ?_
          refine lv_lload hx hb dX7_within_176 (lv_at hl 1 rfl) ?_
          refine wz_lneg hx hb dX7_within_178 ?_
          refine lv_lload hx hb dX7_within_179 (lv_at hl 4 rfl) ?_
          refine wz_lneg hx hb dX7_within_181 ?_
          refine wz_callv (wr := [(rT, .inl (cI, 80, .inl (zA fT))), (rX, .inl (cI, 80, .inl (zA fX))), (rY, .inl (cI, 80, .inl (zA fY)))]) (va_runV (As := [.long (lI (-(((fT k) * ((fY (k + 1)) - (fY k))) + ((le - (fY k)) * ((fT (k + 1)) - (fT k)))))), .long (lI (-((fY (k + 1)) - (fY k))))]) (rest := []) ⟨hx, hb, hml, hown, hts⟩ (k_X7_lower l D cI cJ cT H.size hm th rS rM rB rT rX rY rL sz1 rR at1 nu rt rx ry fo rF rG rU rV fa sa hi hB1 (-(((fT k) * ((fY (k + 1)) - (fY k))) + ((le - (fY k)) * ((fT (k + 1)) - (fT k))))) (-((fY (k + 1)) - (fY k))) (h2) (⟨⟨by omega, by omega⟩, by omega, by omega⟩)) (cwV 2 hts gX7_within_X7_lower rfl rfl rfl (by decide +kernel) ⟨Nat.le_of_ble_eq_true rfl, Nat.le_of_ble_eq_true rfl⟩) (wz_preV hK hP hD [0] (by decide) rfl rfl 7 0 rfl rfl) rfl rfl hl.1 rfl (lv_room (Nat.le_of_ble_eq_true rfl)) dX7_within_182 ⟨Nat.le_of_ble_eq_true rfl, Nat.le_of_ble_eq_true rfl⟩) hP hD hS hA [0] [1, 2, 3] rfl rfl rfl (by decide) (fun  u H locs hw182 hP hD hS => ?_)
          obtain ⟨fb, sb⟩ := u
          try dsimp only at hw182
          have hP : va_P D vwCl [(hm, .inr (7, [.int (iI th), .ref rS, .ref rM, .ref rB, .ref rT, .ref rX, .ref rY, .ref rL, .int (iI sz1), .ref rR, .int (iI at1), .long (lI nu), .ref rt, .ref rx, .ref ry, .int (iI fo), .ref rF, .ref rG, .ref rU, .ref rV, .long (lI fa), .long (lI sa), .long (lI fb), .long (lI sb)])), (rT, .inl (cI, 80, .inl (zA fT))), (rX, .inl (cI, 80, .inl (zA fX))), (rY, .inl (cI, 80, .inl (zA fY)))] H := hP.sub [3, 0, 1, 2] rfl
          have hD : va_D A [(hm, .inr (7, [.int (iI th), .ref rS, .ref rM, .ref rB, .ref rT, .ref rX, .ref rY, .ref rL, .int (iI sz1), .ref rR, .int (iI at1), .long (lI nu), .ref rt, .ref rx, .ref ry, .int (iI fo), .ref rF, .ref rG, .ref rU, .ref rV, .long (lI fa), .long (lI sa), .long (lI fb), .long (lI sb)])), (rT, .inl (cI, 80, .inl (zA fT))), (rX, .inl (cI, 80, .inl (zA fX))), (rY, .inl (cI, 80, .inl (zA fY)))] := hD.sub [3, 0, 1, 2] (by decide) rfl
          refine lv_iconst (v := iI 1) hx hb dX7_within_185 rfl ?_
          rw [hQ]
          exact wz_retz (tys := TY cI cJ cT) (fa, sa, fb, sb) hx hb hr hlocks hK hP hD hS (by first | decide | exact bz_01 _ | omega) (by (try dsimp only); exact (by rw [if_neg c1]; unfold wiZ; rw [if_neg c84, if_neg (by omega)]; dsimp only; rw [hw172.1, hw182.1]; exact ⟨rfl, hw172.2, hw182.2⟩)) dX7_within_186
        · skip
          refine lv_aload_n hx hb dX7_within_146 rfl (lv_at hl 7 rfl) ?_
          refine lv_lload hx hb dX7_within_147 (lv_at hl 1 rfl) ?_
          refine lv_lload hx hb dX7_within_149 (lv_at hl 4 rfl) ?_
          refine wz_callv (wr := [(rT, .inl (cI, 80, .inl (zA fT))), (rX, .inl (cI, 80, .inl (zA fX))), (rY, .inl (cI, 80, .inl (zA fY)))]) (va_runV (As := [.long (lI (((fT k) * ((fY (k + 1)) - (fY k))) + ((le - (fY k)) * ((fT (k + 1)) - (fT k))))), .long (lI ((fY (k + 1)) - (fY k)))]) (rest := []) ⟨hx, hb, hml, hown, hts⟩ (k_X7_raise l D cI cJ cT s.heap.size hm th rS rM rB rT rX rY rL sz1 rR at1 nu rt rx ry fo rF rG rU rV lo lB hi hB1 (((fT k) * ((fY (k + 1)) - (fY k))) + ((le - (fY k)) * ((fT (k + 1)) - (fT k)))) ((fY (k + 1)) - (fY k)) (h1) (⟨⟨by omega, by omega⟩, by omega, by omega⟩)) (cwV 2 hts gX7_within_X7_raise rfl rfl rfl (by decide +kernel) ⟨Nat.le_of_ble_eq_true rfl, Nat.le_of_ble_eq_true rfl⟩) (wz_preV hK hP hD [0] (by decide) rfl rfl 7 0 rfl rfl) rfl rfl hl.1 rfl (lv_room (Nat.le_of_ble_eq_true rfl)) dX7_within_151 ⟨Nat.le_of_ble_eq_true rfl, Nat.le_of_ble_eq_true rfl⟩) hP hD hS hA [0] [1, 2, 3] rfl rfl rfl (by decide) (fun  u H locs hw151 hP hD hS => ?_)
          obtain ⟨fa, sa⟩ := u
          try dsimp only at hw151
          have hP : va_P D vwCl [(hm, .inr (7, [.int (iI th), .ref rS, .ref rM, .ref rB, .ref rT, .ref rX, .ref rY, .ref rL, .int (iI sz1), .ref rR, .int (iI at1), .long (lI nu), .ref rt, .ref rx, .ref ry, .int (iI fo), .ref rF, .ref rG, .ref rU, .ref rV, .long (lI fa), .long (lI sa), .long (lI hi), .long (lI hB1)])), (rT, .inl (cI, 80, .inl (zA fT))), (rX, .inl (cI, 80, .inl (zA fX))), (rY, .inl (cI, 80, .inl (zA fY)))] H := hP.sub [3, 0, 1, 2] rfl
          have hD : va_D A [(hm, .inr (7, [.int (iI th), .ref rS, .ref rM, .ref rB, .ref rT, .ref rX, .ref rY, .ref rL, .int (iI sz1), .ref rR, .int (iI at1), .long (lI nu), .ref rt, .ref rx, .ref ry, .int (iI fo), .ref rF, .ref rG, .ref rU, .ref rV, .long (lI fa), .long (lI sa), .long (lI hi), .long (lI hB1)])), (rT, .inl (cI, 80, .inl (zA fT))), (rX, .inl (cI, 80, .inl (zA fX))), (rY, .inl (cI, 80, .inl (zA fY)))] := hD.sub [3, 0, 1, 2] (by decide) rfl
          refine lv_aload_n hx hb dX7_within_154 rfl (lv_at hl 7 rfl) ?_
          refine lv_lload hx hb dX7_within_155 (lv_at hl 0 rfl) ?_
          refine lv_lload hx hb dX7_within_157 (lv_at hl 4 rfl) ?_
          refine wz_callv (wr := [(rT, .inl (cI, 80, .inl (zA fT))), (rX, .inl (cI, 80, .inl (zA fX))), (rY, .inl (cI, 80, .inl (zA fY)))]) (va_runV (As := [.long (lI (((fT k) * ((fY (k + 1)) - (fY k))) + ((mo - (fY k)) * ((fT (k + 1)) - (fT k))))), .long (lI ((fY (k + 1)) - (fY k)))]) (rest := []) ⟨hx, hb, hml, hown, hts⟩ (k_X7_lower l D cI cJ cT H.size hm th rS rM rB rT rX rY rL sz1 rR at1 nu rt rx ry fo rF rG rU rV fa sa hi hB1 (((fT k) * ((fY (k + 1)) - (fY k))) + ((mo - (fY k)) * ((fT (k + 1)) - (fT k)))) ((fY (k + 1)) - (fY k)) (h2) (⟨⟨by omega, by omega⟩, by omega, by omega⟩)) (cwV 2 hts gX7_within_X7_lower rfl rfl rfl (by decide +kernel) ⟨Nat.le_of_ble_eq_true rfl, Nat.le_of_ble_eq_true rfl⟩) (wz_preV hK hP hD [0] (by decide) rfl rfl 7 0 rfl rfl) rfl rfl hl.1 rfl (lv_room (Nat.le_of_ble_eq_true rfl)) dX7_within_159 ⟨Nat.le_of_ble_eq_true rfl, Nat.le_of_ble_eq_true rfl⟩) hP hD hS hA [0] [1, 2, 3] rfl rfl rfl (by decide) (fun  u H locs hw159 hP hD hS => ?_)
          obtain ⟨fb, sb⟩ := u
          try dsimp only at hw159
          have hP : va_P D vwCl [(hm, .inr (7, [.int (iI th), .ref rS, .ref rM, .ref rB, .ref rT, .ref rX, .ref rY, .ref rL, .int (iI sz1), .ref rR, .int (iI at1), .long (lI nu), .ref rt, .ref rx, .ref ry, .int (iI fo), .ref rF, .ref rG, .ref rU, .ref rV, .long (lI fa), .long (lI sa), .long (lI fb), .long (lI sb)])), (rT, .inl (cI, 80, .inl (zA fT))), (rX, .inl (cI, 80, .inl (zA fX))), (rY, .inl (cI, 80, .inl (zA fY)))] H := hP.sub [3, 0, 1, 2] rfl
          have hD : va_D A [(hm, .inr (7, [.int (iI th), .ref rS, .ref rM, .ref rB, .ref rT, .ref rX, .ref rY, .ref rL, .int (iI sz1), .ref rR, .int (iI at1), .long (lI nu), .ref rt, .ref rx, .ref ry, .int (iI fo), .ref rF, .ref rG, .ref rU, .ref rV, .long (lI fa), .long (lI sa), .long (lI fb), .long (lI sb)])), (rT, .inl (cI, 80, .inl (zA fT))), (rX, .inl (cI, 80, .inl (zA fX))), (rY, .inl (cI, 80, .inl (zA fY)))] := hD.sub [3, 0, 1, 2] (by decide) rfl
          refine lv_goto (tgt := 185) hx hb dX7_within_162 (by decide) ?_
          refine lv_iconst (v := iI 1) hx hb dX7_within_185 rfl ?_
          rw [hQ]
          exact wz_retz (tys := TY cI cJ cT) (fa, sa, fb, sb) hx hb hr hlocks hK hP hD hS (by first | decide | exact bz_01 _ | omega) (by (try dsimp only); exact (by rw [if_neg c1]; unfold wiZ; rw [if_neg c84, if_pos c143]; dsimp only; rw [hw151.1, hw159.1]; exact ⟨rfl, hw151.2, hw159.2⟩)) dX7_within_186
      · skip
        refine lv_lload hx hb dX7_within_87 (lv_at hl 4 rfl) ?_
        refine lv_lload_n hx hb dX7_within_89 rfl (lv_at hl 8 rfl) ?_
        refine W.lcmp hx hb dX7_within_90 ?_
        refine wz_lif_lt (tgt := 106) hx hb dX7_within_91 (by decide) ⟨by omega, by omega⟩ ⟨by omega, by omega⟩ (fun c91 => ?_) (fun c91 => ?_)
        · skip
          refine lv_iconst (v := iI 0) hx hb dX7_within_106 rfl ?_
          rw [hQ]
          exact wz_retz (tys := TY cI cJ cT) (lo, lB, hi, hB1) hx hb hr hlocks hK hP hD hS (by first | decide | exact bz_01 _ | omega) (by (try dsimp only); exact (by rw [if_neg c1]; unfold wiZ; rw [if_pos c84]; rw [if_neg (by omega)]; exact ⟨rfl, h1, h2⟩)) dX7_within_107
        · skip
          refine lv_lload hx hb dX7_within_94 (lv_at hl 4 rfl) ?_
          refine lv_lload hx hb dX7_within_96 (lv_at hl 9 rfl) ?_
          refine W.lcmp hx hb dX7_within_98 ?_
          refine wz_lif_gt (tgt := 106) hx hb dX7_within_99 (by decide) ⟨by omega, by omega⟩ ⟨by omega, by omega⟩ (fun c99 => ?_) (fun c99 => ?_)
          · skip
            refine lv_iconst (v := iI 0) hx hb dX7_within_106 rfl ?_
            rw [hQ]
            exact wz_retz (tys := TY cI cJ cT) (lo, lB, hi, hB1) hx hb hr hlocks hK hP hD hS (by first | decide | exact bz_01 _ | omega) (by (try dsimp only); exact (by rw [if_neg c1]; unfold wiZ; rw [if_pos c84]; rw [if_neg (by omega)]; exact ⟨rfl, h1, h2⟩)) dX7_within_107
          · skip
            refine lv_iconst (v := iI 1) hx hb dX7_within_102 rfl ?_
            refine lv_goto (tgt := 107) hx hb dX7_within_103 (by decide) ?_
            rw [hQ]
            exact wz_retz (tys := TY cI cJ cT) (lo, lB, hi, hB1) hx hb hr hlocks hK hP hD hS (by first | decide | exact bz_01 _ | omega) (by (try dsimp only); exact (by rw [if_neg c1]; unfold wiZ; rw [if_pos c84]; rw [if_pos (by omega)]; exact ⟨rfl, h1, h2⟩)) dX7_within_107
