set_option maxHeartbeats 4000000 in
set_option maxRecDepth 100000 in
theorem k_X7_note (l : Launch) (D : va_G) (cI cJ cT : ClassId) (sz : Nat) (hm : Nat) (th : Int) (rS : Nat) (rM : Nat) (rB : Nat) (rT : Nat) (rX : Nat) (rY : Nat) (rL : Nat) (sz1 : Int) (rR : Nat) (at1 : Int) (nu : Int) (rt : Nat) (rx : Nat) (ry : Nat) (fo : Int) (rF : Nat) (rG : Nat) (rU : Nat) (rV : Nat) (lo : Int) (lB : Int) (hi : Int) (hB1 : Int) (fF : Int → Int) (fG : Int → Int) (fU : Int → Int) (fV : Int → Int) (h1 : frM lo lB) (h2 : frM hi hB1) (hf : 0 ≤ fo ∧ fo < 20) (hU : okE fU) (hV : okE fV) : Met l yX7_note wsX7_note { frames := 2, cells := 0, slots := 0, locals := 50 } (zPc D (TY cI cJ cT) [.ref hm] [(hm, .inr (7, [.int (iI th), .ref rS, .ref rM, .ref rB, .ref rT, .ref rX, .ref rY, .ref rL, .int (iI sz1), .ref rR, .int (iI at1), .long (lI nu), .ref rt, .ref rx, .ref ry, .int (iI fo), .ref rF, .ref rG, .ref rU, .ref rV, .long (lI lo), .long (lI lB), .long (lI hi), .long (lI hB1)])), (rF, .inl (cJ, 20, .inr (.inl (zJ fF)))), (rG, .inl (cJ, 20, .inr (.inl (zJ fG)))), (rU, .inl (cJ, 20, .inr (.inl (zJ fU)))), (rV, .inl (cJ, 20, .inr (.inl (zJ fV))))] sz) (zQv D (TY cI cJ cT) (va_A [(hm, .inr (7, [.int (iI th), .ref rS, .ref rM, .ref rB, .ref rT, .ref rX, .ref rY, .ref rL, .int (iI sz1), .ref rR, .int (iI at1), .long (lI nu), .ref rt, .ref rx, .ref ry, .int (iI fo), .ref rF, .ref rG, .ref rU, .ref rV, .long (lI lo), .long (lI lB), .long (lI hi), .long (lI hB1)])), (rF, .inl (cJ, 20, .inr (.inl (zJ fF)))), (rG, .inl (cJ, 20, .inr (.inl (zJ fG)))), (rU, .inl (cJ, 20, .inr (.inl (zJ fU)))), (rV, .inl (cJ, 20, .inr (.inl (zJ fV))))] sz) (fun (u : Int × (Int → Int) × (Int → Int) × (Int → Int) × (Int → Int)) => noteM (lo, lB, hi, hB1) (fo, fF, fG, fU, fV) = (u.1, u.2.1, u.2.2.1, u.2.2.2.1, u.2.2.2.2)) (fun (u : Int × (Int → Int) × (Int → Int) × (Int → Int) × (Int → Int)) => [(hm, .inr (7, [.int (iI th), .ref rS, .ref rM, .ref rB, .ref rT, .ref rX, .ref rY, .ref rL, .int (iI sz1), .ref rR, .int (iI at1), .long (lI nu), .ref rt, .ref rx, .ref ry, .int (iI u.1), .ref rF, .ref rG, .ref rU, .ref rV, .long (lI lo), .long (lI lB), .long (lI hi), .long (lI hB1)])), (rF, .inl (cJ, 20, .inr (.inl (zJ u.2.1)))), (rG, .inl (cJ, 20, .inr (.inl (zJ u.2.2.1)))), (rU, .inl (cJ, 20, .inr (.inl (zJ u.2.2.2.1)))), (rV, .inl (cJ, 20, .inr (.inl (zJ u.2.2.2.2))))])) 0 0 (va_A [(hm, .inr (7, [.int (iI th), .ref rS, .ref rM, .ref rB, .ref rT, .ref rX, .ref rY, .ref rL, .int (iI sz1), .ref rR, .int (iI at1), .long (lI nu), .ref rt, .ref rx, .ref ry, .int (iI fo), .ref rF, .ref rG, .ref rU, .ref rV, .long (lI lo), .long (lI lB), .long (lI hi), .long (lI hB1)])), (rF, .inl (cJ, 20, .inr (.inl (zJ fF)))), (rG, .inl (cJ, 20, .inr (.inl (zJ fG)))), (rU, .inl (cJ, 20, .inr (.inl (zJ fU)))), (rV, .inl (cJ, 20, .inr (.inl (zJ fV))))] sz) := by
  refine zMv (cc := cX7_note) (maxL := 6) (ret := none) (by decide) rfl (Nat.le_of_ble_eq_true rfl) ?_
  intro p e s m below meth c A ls hE
  obtain ⟨hx, hb, hr, hts, hown, hlocks, hml, hnm, hP, hK, hD, hA, hS, hl⟩ := hE
  have hown : s.vm.findClass RX7 = some m.cls := hown
  have hl : lv_has ls 6 [(0, .ref hm)] := hl
  have hin7 : ∀ w ∈ wsX70, w ∈ wsX7_note := by decide +kernel
  obtain ⟨Q, hQ⟩ : ∃ Q, Q = MQ below (zQv D (TY cI cJ cT) A (fun (u : Int × (Int → Int) × (Int → Int) × (Int → Int) × (Int → Int)) => noteM (lo, lB, hi, hB1) (fo, fF, fG, fU, fV) = (u.1, u.2.1, u.2.2.1, u.2.2.2.1, u.2.2.2.2)) (fun (u : Int × (Int → Int) × (Int → Int) × (Int → Int) × (Int → Int)) => [(hm, .inr (7, [.int (iI th), .ref rS, .ref rM, .ref rB, .ref rT, .ref rX, .ref rY, .ref rL, .int (iI sz1), .ref rR, .int (iI at1), .long (lI nu), .ref rt, .ref rx, .ref ry, .int (iI u.1), .ref rF, .ref rG, .ref rU, .ref rV, .long (lI lo), .long (lI lB), .long (lI hi), .long (lI hB1)])), (rF, .inl (cJ, 20, .inr (.inl (zJ u.2.1)))), (rG, .inl (cJ, 20, .inr (.inl (zJ u.2.2.1)))), (rU, .inl (cJ, 20, .inr (.inl (zJ u.2.2.2.1)))), (rV, .inl (cJ, 20, .inr (.inl (zJ u.2.2.2.2))))])) ([.ref hm] : List Value).toArray s 0 0 A := ⟨_, rfl⟩
  rw [← hQ]
  refine lv_aload_n hx hb dX7_note_0 rfl (lv_at hl 0 rfl) ?_
  refine va_get (D := D) (ci := 7) (v := .long (lI lo)) (C := RX7) (T := TX7) (N := 24) hx hb hts hin7 hown hK hP 0 rfl rfl 20 (by decide) (hts (.fieldLink RX7 142 "DriftLogModel" "low" "J") (by decide +kernel)) (fun _ h9 => h9) rfl dX7_note_1 ?_
  refine lv_aload_n hx hb dX7_note_4 rfl (lv_at hl 0 rfl) ?_
  refine va_get (D := D) (ci := 7) (v := .long (lI lB)) (C := RX7) (T := TX7) (N := 24) hx hb hts hin7 hown hK hP 0 rfl rfl 21 (by decide) (hts (.fieldLink RX7 145 "DriftLogModel" "lowBy" "J") (by decide +kernel)) (fun _ h9 => h9) rfl dX7_note_5 ?_
  refine wz_calll (wr := [(hm, .inr (7, [.int (iI th), .ref rS, .ref rM, .ref rB, .ref rT, .ref rX, .ref rY, .ref rL, .int (iI sz1), .ref rR, .int (iI at1), .long (lI nu), .ref rt, .ref rx, .ref ry, .int (iI fo), .ref rF, .ref rG, .ref rU, .ref rV, .long (lI lo), .long (lI lB), .long (lI hi), .long (lI hB1)])), (rF, .inl (cJ, 20, .inr (.inl (zJ fF)))), (rG, .inl (cJ, 20, .inr (.inl (zJ fG)))), (rU, .inl (cJ, 20, .inr (.inl (zJ fU)))), (rV, .inl (cJ, 20, .inr (.inl (zJ fV))))]) (va_runS (As := [.long (lI lo), .long (lI lB)]) (rest := []) ⟨hx, hb, hml, hown, hts⟩ (k_X7_divisor l D cI cJ cT s.heap.size lo lB (by have := h1.1; constructor <;> omega) (by have := h1.2; constructor <;> omega)) (va_cwS 2 hts gX7_note_X7_divisor rfl rfl rfl (by decide +kernel) ⟨Nat.le_of_ble_eq_true rfl, Nat.le_of_ble_eq_true rfl⟩) (wz_preS hK hP hD [] (by decide) rfl rfl) rfl rfl hl.1 rfl (lv_room (Nat.le_of_ble_eq_true rfl)) dX7_note_8 ⟨Nat.le_of_ble_eq_true rfl, Nat.le_of_ble_eq_true rfl⟩) hP hD hS hA [] [0, 1, 2, 3, 4] rfl rfl rfl (by decide) (fun z8 u H locs hw8 hP hD hS => ?_)
  have hP : va_P D vwCl [(hm, .inr (7, [.int (iI th), .ref rS, .ref rM, .ref rB, .ref rT, .ref rX, .ref rY, .ref rL, .int (iI sz1), .ref rR, .int (iI at1), .long (lI nu), .ref rt, .ref rx, .ref ry, .int (iI fo), .ref rF, .ref rG, .ref rU, .ref rV, .long (lI lo), .long (lI lB), .long (lI hi), .long (lI hB1)])), (rF, .inl (cJ, 20, .inr (.inl (zJ fF)))), (rG, .inl (cJ, 20, .inr (.inl (zJ fG)))), (rU, .inl (cJ, 20, .inr (.inl (zJ fU)))), (rV, .inl (cJ, 20, .inr (.inl (zJ fV))))] H := hP.sub [0, 1, 2, 3, 4] rfl
  have hD : va_D A [(hm, .inr (7, [.int (iI th), .ref rS, .ref rM, .ref rB, .ref rT, .ref rX, .ref rY, .ref rL, .int (iI sz1), .ref rR, .int (iI at1), .long (lI nu), .ref rt, .ref rx, .ref ry, .int (iI fo), .ref rF, .ref rG, .ref rU, .ref rV, .long (lI lo), .long (lI lB), .long (lI hi), .long (lI hB1)])), (rF, .inl (cJ, 20, .inr (.inl (zJ fF)))), (rG, .inl (cJ, 20, .inr (.inl (zJ fG)))), (rU, .inl (cJ, 20, .inr (.inl (zJ fU)))), (rV, .inl (cJ, 20, .inr (.inl (zJ fV))))] := hD.sub [0, 1, 2, 3, 4] (by decide) rfl
  subst hw8
  refine lv_lstore_n (lv' := [(1, .long (lI (gZ lo lB))), (0, .ref hm)]) hx hb dX7_note_11 rfl hl (by decide) rfl (fun ls hl => ?_)
  refine lv_aload_n hx hb dX7_note_12 rfl (lv_at hl 1 rfl) ?_
  refine va_get (D := D) (ci := 7) (v := .long (lI hi)) (C := RX7) (T := TX7) (N := 24) hx hb hts hin7 hown hK hP 0 rfl rfl 22 (by decide) (hts (.fieldLink RX7 152 "DriftLogModel" "high" "J") (by decide +kernel)) (fun _ h9 => h9) rfl dX7_note_13 ?_
  refine lv_aload_n hx hb dX7_note_16 rfl (lv_at hl 1 rfl) ?_
  refine va_get (D := D) (ci := 7) (v := .long (lI hB1)) (C := RX7) (T := TX7) (N := 24) hx hb hts hin7 hown hK hP 0 rfl rfl 23 (by decide) (hts (.fieldLink RX7 155 "DriftLogModel" "highBy" "J") (by decide +kernel)) (fun _ h9 => h9) rfl dX7_note_17 ?_
  refine wz_calll (wr := [(hm, .inr (7, [.int (iI th), .ref rS, .ref rM, .ref rB, .ref rT, .ref rX, .ref rY, .ref rL, .int (iI sz1), .ref rR, .int (iI at1), .long (lI nu), .ref rt, .ref rx, .ref ry, .int (iI fo), .ref rF, .ref rG, .ref rU, .ref rV, .long (lI lo), .long (lI lB), .long (lI hi), .long (lI hB1)])), (rF, .inl (cJ, 20, .inr (.inl (zJ fF)))), (rG, .inl (cJ, 20, .inr (.inl (zJ fG)))), (rU, .inl (cJ, 20, .inr (.inl (zJ fU)))), (rV, .inl (cJ, 20, .inr (.inl (zJ fV))))]) (va_runS (As := [.long (lI hi), .long (lI hB1)]) (rest := []) ⟨hx, hb, hml, hown, hts⟩ (k_X7_divisor l D cI cJ cT H.size hi hB1 (by have := h2.1; constructor <;> omega) (by have := h2.2; constructor <;> omega)) (va_cwS 2 hts gX7_note_X7_divisor rfl rfl rfl (by decide +kernel) ⟨Nat.le_of_ble_eq_true rfl, Nat.le_of_ble_eq_true rfl⟩) (wz_preS hK hP hD [] (by decide) rfl rfl) rfl rfl hl.1 rfl (lv_room (Nat.le_of_ble_eq_true rfl)) dX7_note_20 ⟨Nat.le_of_ble_eq_true rfl, Nat.le_of_ble_eq_true rfl⟩) hP hD hS hA [] [0, 1, 2, 3, 4] rfl rfl rfl (by decide) (fun z20 u H locs hw20 hP hD hS => ?_)
  have hP : va_P D vwCl [(hm, .inr (7, [.int (iI th), .ref rS, .ref rM, .ref rB, .ref rT, .ref rX, .ref rY, .ref rL, .int (iI sz1), .ref rR, .int (iI at1), .long (lI nu), .ref rt, .ref rx, .ref ry, .int (iI fo), .ref rF, .ref rG, .ref rU, .ref rV, .long (lI lo), .long (lI lB), .long (lI hi), .long (lI hB1)])), (rF, .inl (cJ, 20, .inr (.inl (zJ fF)))), (rG, .inl (cJ, 20, .inr (.inl (zJ fG)))), (rU, .inl (cJ, 20, .inr (.inl (zJ fU)))), (rV, .inl (cJ, 20, .inr (.inl (zJ fV))))] H := hP.sub [0, 1, 2, 3, 4] rfl
  have hD : va_D A [(hm, .inr (7, [.int (iI th), .ref rS, .ref rM, .ref rB, .ref rT, .ref rX, .ref rY, .ref rL, .int (iI sz1), .ref rR, .int (iI at1), .long (lI nu), .ref rt, .ref rx, .ref ry, .int (iI fo), .ref rF, .ref rG, .ref rU, .ref rV, .long (lI lo), .long (lI lB), .long (lI hi), .long (lI hB1)])), (rF, .inl (cJ, 20, .inr (.inl (zJ fF)))), (rG, .inl (cJ, 20, .inr (.inl (zJ fG)))), (rU, .inl (cJ, 20, .inr (.inl (zJ fU)))), (rV, .inl (cJ, 20, .inr (.inl (zJ fV))))] := hD.sub [0, 1, 2, 3, 4] (by decide) rfl
  subst hw20
  obtain ⟨⟨p1, p2⟩, p3, p4⟩ := id h1
  obtain ⟨⟨q1, q2⟩, q3, q4⟩ := id h2
  have gp := gZ_pos (a := lo) p3
  have gl := gZ_le (a := lo) p3
  have gq := gZ_pos (a := hi) q3
  have gm := gZ_le (a := hi) q3
  have uu := hU (fo - 1)
  have vv := hV (fo - 1)
  have tl := tdiv_r (M := 1152921504606846976) gp h1.1
  have tb := tdiv_r (M := 1152921504606846976) gp (a := lB) (by constructor <;> omega)
  refine lv_lstore_n (lv' := [(3, .long (lI (gZ hi hB1))), (1, .long (lI (gZ lo lB))), (0, .ref hm)]) hx hb dX7_note_23 rfl hl (by decide) rfl (fun ls hl => ?_)
  refine lv_aload_n hx hb dX7_note_24 rfl (lv_at hl 2 rfl) ?_
  refine va_get (D := D) (ci := 7) (v := .int (iI fo)) (C := RX7) (T := TX7) (N := 24) hx hb hts hin7 hown hK hP 0 rfl rfl 15 (by decide) (hts (.fieldLink RX7 165 "DriftLogModel" "found" "I") (by decide +kernel)) (fun _ h9 => h9) rfl dX7_note_25 ?_
  refine wz_if_le (tgt := 99) hx hb dX7_note_28 (by decide) ⟨by omega, by omega⟩ (fun c28 => ?_) (fun c28 => ?_)
  · skip
    refine lv_iconst (v := iI 0) hx hb dX7_note_99 rfl ?_
    refine lv_istore (lv' := [(5, .int (iI 0)), (3, .long (lI (gZ hi hB1))), (1, .long (lI (gZ lo lB))), (0, .ref hm)]) hx hb dX7_note_100 hl (by decide) rfl (fun ls hl => ?_)
    refine lv_iload hx hb dX7_note_102 (lv_at hl 0 rfl) ?_
    refine wz_if_ne (tgt := 147) hx hb dX7_note_104 (by decide) (by decide) (fun c104 => ?_) (fun c104 => ?_)
    · skip
      exact absurd c104 (by decide)
    · skip
      refine lv_aload_n hx hb dX7_note_107 rfl (lv_at hl 3 rfl) ?_
      refine va_get (D := D) (ci := 7) (v := .ref rF) (C := RX7) (T := TX7) (N := 24) hx hb hts hin7 hown hK hP 0 rfl rfl 16 (by decide) (hts (.fieldLink RX7 43 "DriftLogModel" "from" "[J") (by decide +kernel)) (fun _ h9 => h9) rfl dX7_note_108 ?_
      refine lv_aload_n hx hb dX7_note_111 rfl (lv_at hl 3 rfl) ?_
      refine va_get (D := D) (ci := 7) (v := .int (iI fo)) (C := RX7) (T := TX7) (N := 24) hx hb hts hin7 hown hK hP 0 rfl rfl 15 (by decide) (hts (.fieldLink RX7 165 "DriftLogModel" "found" "I") (by decide +kernel)) (fun _ h9 => h9) rfl dX7_note_112 ?_
      refine lv_aload_n hx hb dX7_note_115 rfl (lv_at hl 3 rfl) ?_
      refine va_get (D := D) (ci := 7) (v := .long (lI lo)) (C := RX7) (T := TX7) (N := 24) hx hb hts hin7 hown hK hP 0 rfl rfl 20 (by decide) (hts (.fieldLink RX7 142 "DriftLogModel" "low" "J") (by decide +kernel)) (fun _ h9 => h9) rfl dX7_note_116 ?_
      refine lv_lload_n hx hb dX7_note_119 rfl (lv_at hl 2 rfl) ?_
      refine lv_ldiv hx hb dX7_note_120 (lI_ne0 ⟨by omega, by omega⟩ (by omega)) ?_
      refine wz_topl (y := lI (lo.tdiv (gZ lo lB))) (lI_div ⟨by omega, by omega⟩ ⟨by omega, by omega⟩ (by left; omega)) ?_
      refine wz_last (tys := TY cI cJ cT) hx hb hK hP hD hS 1 1 rfl rfl (by decide) (by constructor <;> omega) dX7_note_121 (fun H locs hP hD hS => ?_)
      have hP : va_P D vwCl [(hm, .inr (7, [.int (iI th), .ref rS, .ref rM, .ref rB, .ref rT, .ref rX, .ref rY, .ref rL, .int (iI sz1), .ref rR, .int (iI at1), .long (lI nu), .ref rt, .ref rx, .ref ry, .int (iI fo), .ref rF, .ref rG, .ref rU, .ref rV, .long (lI lo), .long (lI lB), .long (lI hi), .long (lI hB1)])), (rF, .inl (cJ, 20, .inr (.inl (zJ (uZ fF fo (lo.tdiv (gZ lo lB))))))), (rG, .inl (cJ, 20, .inr (.inl (zJ fG)))), (rU, .inl (cJ, 20, .inr (.inl (zJ fU)))), (rV, .inl (cJ, 20, .inr (.inl (zJ fV))))] H := hP
      have hD : va_D A [(hm, .inr (7, [.int (iI th), .ref rS, .ref rM, .ref rB, .ref rT, .ref rX, .ref rY, .ref rL, .int (iI sz1), .ref rR, .int (iI at1), .long (lI nu), .ref rt, .ref rx, .ref ry, .int (iI fo), .ref rF, .ref rG, .ref rU, .ref rV, .long (lI lo), .long (lI lB), .long (lI hi), .long (lI hB1)])), (rF, .inl (cJ, 20, .inr (.inl (zJ (uZ fF fo (lo.tdiv (gZ lo lB))))))), (rG, .inl (cJ, 20, .inr (.inl (zJ fG)))), (rU, .inl (cJ, 20, .inr (.inl (zJ fU)))), (rV, .inl (cJ, 20, .inr (.inl (zJ fV))))] := hD
      refine lv_aload_n hx hb dX7_note_122 rfl (lv_at hl 3 rfl) ?_
      refine va_get (D := D) (ci := 7) (v := .ref rG) (C := RX7) (T := TX7) (N := 24) hx hb hts hin7 hown hK hP 0 rfl rfl 17 (by decide) (hts (.fieldLink RX7 47 "DriftLogModel" "fromBy" "[J") (by decide +kernel)) (fun _ h9 => h9) rfl dX7_note_123 ?_
      refine lv_aload_n hx hb dX7_note_126 rfl (lv_at hl 3 rfl) ?_
      refine va_get (D := D) (ci := 7) (v := .int (iI fo)) (C := RX7) (T := TX7) (N := 24) hx hb hts hin7 hown hK hP 0 rfl rfl 15 (by decide) (hts (.fieldLink RX7 165 "DriftLogModel" "found" "I") (by decide +kernel)) (fun _ h9 => h9) rfl dX7_note_127 ?_
      refine lv_aload_n hx hb dX7_note_130 rfl (lv_at hl 3 rfl) ?_
      refine va_get (D := D) (ci := 7) (v := .long (lI lB)) (C := RX7) (T := TX7) (N := 24) hx hb hts hin7 hown hK hP 0 rfl rfl 21 (by decide) (hts (.fieldLink RX7 145 "DriftLogModel" "lowBy" "J") (by decide +kernel)) (fun _ h9 => h9) rfl dX7_note_131 ?_
      refine lv_lload_n hx hb dX7_note_134 rfl (lv_at hl 2 rfl) ?_
      refine lv_ldiv hx hb dX7_note_135 (lI_ne0 ⟨by omega, by omega⟩ (by omega)) ?_
      refine wz_topl (y := lI (lB.tdiv (gZ lo lB))) (lI_div ⟨by omega, by omega⟩ ⟨by omega, by omega⟩ (by left; omega)) ?_
      refine wz_last (tys := TY cI cJ cT) hx hb hK hP hD hS 2 1 rfl rfl (by decide) (by constructor <;> omega) dX7_note_136 (fun H locs hP hD hS => ?_)
      have hP : va_P D vwCl [(hm, .inr (7, [.int (iI th), .ref rS, .ref rM, .ref rB, .ref rT, .ref rX, .ref rY, .ref rL, .int (iI sz1), .ref rR, .int (iI at1), .long (lI nu), .ref rt, .ref rx, .ref ry, .int (iI fo), .ref rF, .ref rG, .ref rU, .ref rV, .long (lI lo), .long (lI lB), .long (lI hi), .long (lI hB1)])), (rF, .inl (cJ, 20, .inr (.inl (zJ (uZ fF fo (lo.tdiv (gZ lo lB))))))), (rG, .inl (cJ, 20, .inr (.inl (zJ (uZ fG fo (lB.tdiv (gZ lo lB))))))), (rU, .inl (cJ, 20, .inr (.inl (zJ fU)))), (rV, .inl (cJ, 20, .inr (.inl (zJ fV))))] H := hP
      have hD : va_D A [(hm, .inr (7, [.int (iI th), .ref rS, .ref rM, .ref rB, .ref rT, .ref rX, .ref rY, .ref rL, .int (iI sz1), .ref rR, .int (iI at1), .long (lI nu), .ref rt, .ref rx, .ref ry, .int (iI fo), .ref rF, .ref rG, .ref rU, .ref rV, .long (lI lo), .long (lI lB), .long (lI hi), .long (lI hB1)])), (rF, .inl (cJ, 20, .inr (.inl (zJ (uZ fF fo (lo.tdiv (gZ lo lB))))))), (rG, .inl (cJ, 20, .inr (.inl (zJ (uZ fG fo (lB.tdiv (gZ lo lB))))))), (rU, .inl (cJ, 20, .inr (.inl (zJ fU)))), (rV, .inl (cJ, 20, .inr (.inl (zJ fV))))] := hD
      refine lv_aload_n hx hb dX7_note_137 rfl (lv_at hl 3 rfl) ?_
      refine lv_dup hx hb dX7_note_138 rfl ?_
      refine va_get (D := D) (ci := 7) (v := .int (iI fo)) (C := RX7) (T := TX7) (N := 24) hx hb hts hin7 hown hK hP 0 rfl rfl 15 (by decide) (hts (.fieldLink RX7 165 "DriftLogModel" "found" "I") (by decide +kernel)) (fun _ h9 => h9) rfl dX7_note_139 ?_
      refine lv_iconst (v := iI 1) hx hb dX7_note_142 rfl ?_
      refine wz_iadd hx hb dX7_note_143 ?_
      refine va_put (D := D) (ci := 7) (v := .int (iI (fo + 1))) (ty := .int) (C := RX7) (T := TX7) (N := 24) hx hb hts hin7 tyX7 tyX7_ok nmX7 hown hK hP hD hS 0 rfl rfl 15 (by decide) (hts (.fieldLink RX7 165 "DriftLogModel" "found" "I") (by decide +kernel)) (fun _ h9 => h9) rfl (by decide +kernel) rfl rfl (Nat.le_of_ble_eq_true rfl) dX7_note_144 (fun H locs hP hD hS => ?_)
      have hP : va_P D vwCl [(hm, .inr (7, [.int (iI th), .ref rS, .ref rM, .ref rB, .ref rT, .ref rX, .ref rY, .ref rL, .int (iI sz1), .ref rR, .int (iI at1), .long (lI nu), .ref rt, .ref rx, .ref ry, .int (iI (fo + 1)), .ref rF, .ref rG, .ref rU, .ref rV, .long (lI lo), .long (lI lB), .long (lI hi), .long (lI hB1)])), (rF, .inl (cJ, 20, .inr (.inl (zJ (uZ fF fo (lo.tdiv (gZ lo lB))))))), (rG, .inl (cJ, 20, .inr (.inl (zJ (uZ fG fo (lB.tdiv (gZ lo lB))))))), (rU, .inl (cJ, 20, .inr (.inl (zJ fU)))), (rV, .inl (cJ, 20, .inr (.inl (zJ fV))))] H := hP
      have hD : va_D A [(hm, .inr (7, [.int (iI th), .ref rS, .ref rM, .ref rB, .ref rT, .ref rX, .ref rY, .ref rL, .int (iI sz1), .ref rR, .int (iI at1), .long (lI nu), .ref rt, .ref rx, .ref ry, .int (iI (fo + 1)), .ref rF, .ref rG, .ref rU, .ref rV, .long (lI lo), .long (lI lB), .long (lI hi), .long (lI hB1)])), (rF, .inl (cJ, 20, .inr (.inl (zJ (uZ fF fo (lo.tdiv (gZ lo lB))))))), (rG, .inl (cJ, 20, .inr (.inl (zJ (uZ fG fo (lB.tdiv (gZ lo lB))))))), (rU, .inl (cJ, 20, .inr (.inl (zJ fU)))), (rV, .inl (cJ, 20, .inr (.inl (zJ fV))))] := hD
      refine lv_aload_n hx hb dX7_note_147 rfl (lv_at hl 3 rfl) ?_
      refine va_get (D := D) (ci := 7) (v := .ref rU) (C := RX7) (T := TX7) (N := 24) hx hb hts hin7 hown hK hP 0 rfl rfl 18 (by decide) (hts (.fieldLink RX7 50 "DriftLogModel" "until" "[J") (by decide +kernel)) (fun _ h9 => h9) rfl dX7_note_148 ?_
      refine lv_aload_n hx hb dX7_note_151 rfl (lv_at hl 3 rfl) ?_
      refine va_get (D := D) (ci := 7) (v := .int (iI (fo + 1))) (C := RX7) (T := TX7) (N := 24) hx hb hts hin7 hown hK hP 0 rfl rfl 15 (by decide) (hts (.fieldLink RX7 165 "DriftLogModel" "found" "I") (by decide +kernel)) (fun _ h9 => h9) rfl dX7_note_152 ?_
      refine lv_iconst (v := iI 1) hx hb dX7_note_155 rfl ?_
      refine wz_isub hx hb dX7_note_156 ?_
      refine lv_aload_n hx hb dX7_note_157 rfl (lv_at hl 3 rfl) ?_
      refine va_get (D := D) (ci := 7) (v := .long (lI hi)) (C := RX7) (T := TX7) (N := 24) hx hb hts hin7 hown hK hP 0 rfl rfl 22 (by decide) (hts (.fieldLink RX7 152 "DriftLogModel" "high" "J") (by decide +kernel)) (fun _ h9 => h9) rfl dX7_note_158 ?_
      refine lv_lload_n hx hb dX7_note_161 rfl (lv_at hl 1 rfl) ?_
      refine lv_ldiv hx hb dX7_note_162 (lI_ne0 ⟨by omega, by omega⟩ (by omega)) ?_
      refine wz_topl (y := lI (hi.tdiv (gZ hi hB1))) (lI_div ⟨by omega, by omega⟩ ⟨by omega, by omega⟩ (by left; omega)) ?_
      refine wz_last (tys := TY cI cJ cT) hx hb hK hP hD hS 3 1 rfl rfl (by decide) (by constructor <;> omega) dX7_note_163 (fun H locs hP hD hS => ?_)
      have hP : va_P D vwCl [(hm, .inr (7, [.int (iI th), .ref rS, .ref rM, .ref rB, .ref rT, .ref rX, .ref rY, .ref rL, .int (iI sz1), .ref rR, .int (iI at1), .long (lI nu), .ref rt, .ref rx, .ref ry, .int (iI (fo + 1)), .ref rF, .ref rG, .ref rU, .ref rV, .long (lI lo), .long (lI lB), .long (lI hi), .long (lI hB1)])), (rF, .inl (cJ, 20, .inr (.inl (zJ (uZ fF fo (lo.tdiv (gZ lo lB))))))), (rG, .inl (cJ, 20, .inr (.inl (zJ (uZ fG fo (lB.tdiv (gZ lo lB))))))), (rU, .inl (cJ, 20, .inr (.inl (zJ (uZ fU ((fo + 1) - 1) (hi.tdiv (gZ hi hB1))))))), (rV, .inl (cJ, 20, .inr (.inl (zJ fV))))] H := hP
      have hD : va_D A [(hm, .inr (7, [.int (iI th), .ref rS, .ref rM, .ref rB, .ref rT, .ref rX, .ref rY, .ref rL, .int (iI sz1), .ref rR, .int (iI at1), .long (lI nu), .ref rt, .ref rx, .ref ry, .int (iI (fo + 1)), .ref rF, .ref rG, .ref rU, .ref rV, .long (lI lo), .long (lI lB), .long (lI hi), .long (lI hB1)])), (rF, .inl (cJ, 20, .inr (.inl (zJ (uZ fF fo (lo.tdiv (gZ lo lB))))))), (rG, .inl (cJ, 20, .inr (.inl (zJ (uZ fG fo (lB.tdiv (gZ lo lB))))))), (rU, .inl (cJ, 20, .inr (.inl (zJ (uZ fU ((fo + 1) - 1) (hi.tdiv (gZ hi hB1))))))), (rV, .inl (cJ, 20, .inr (.inl (zJ fV))))] := hD
      refine lv_aload_n hx hb dX7_note_164 rfl (lv_at hl 3 rfl) ?_
      refine va_get (D := D) (ci := 7) (v := .ref rV) (C := RX7) (T := TX7) (N := 24) hx hb hts hin7 hown hK hP 0 rfl rfl 19 (by decide) (hts (.fieldLink RX7 53 "DriftLogModel" "untilBy" "[J") (by decide +kernel)) (fun _ h9 => h9) rfl dX7_note_165 ?_
      refine lv_aload_n hx hb dX7_note_168 rfl (lv_at hl 3 rfl) ?_
      refine va_get (D := D) (ci := 7) (v := .int (iI (fo + 1))) (C := RX7) (T := TX7) (N := 24) hx hb hts hin7 hown hK hP 0 rfl rfl 15 (by decide) (hts (.fieldLink RX7 165 "DriftLogModel" "found" "I") (by decide +kernel)) (fun _ h9 => h9) rfl dX7_note_169 ?_
      refine lv_iconst (v := iI 1) hx hb dX7_note_172 rfl ?_
      refine wz_isub hx hb dX7_note_173 ?_
      refine lv_aload_n hx hb dX7_note_174 rfl (lv_at hl 3 rfl) ?_
      refine va_get (D := D) (ci := 7) (v := .long (lI hB1)) (C := RX7) (T := TX7) (N := 24) hx hb hts hin7 hown hK hP 0 rfl rfl 23 (by decide) (hts (.fieldLink RX7 155 "DriftLogModel" "highBy" "J") (by decide +kernel)) (fun _ h9 => h9) rfl dX7_note_175 ?_
      refine lv_lload_n hx hb dX7_note_178 rfl (lv_at hl 1 rfl) ?_
      refine lv_ldiv hx hb dX7_note_179 (lI_ne0 ⟨by omega, by omega⟩ (by omega)) ?_
      refine wz_topl (y := lI (hB1.tdiv (gZ hi hB1))) (lI_div ⟨by omega, by omega⟩ ⟨by omega, by omega⟩ (by left; omega)) ?_
      refine wz_last (tys := TY cI cJ cT) hx hb hK hP hD hS 4 1 rfl rfl (by decide) (by constructor <;> omega) dX7_note_180 (fun H locs hP hD hS => ?_)
      have hP : va_P D vwCl [(hm, .inr (7, [.int (iI th), .ref rS, .ref rM, .ref rB, .ref rT, .ref rX, .ref rY, .ref rL, .int (iI sz1), .ref rR, .int (iI at1), .long (lI nu), .ref rt, .ref rx, .ref ry, .int (iI (fo + 1)), .ref rF, .ref rG, .ref rU, .ref rV, .long (lI lo), .long (lI lB), .long (lI hi), .long (lI hB1)])), (rF, .inl (cJ, 20, .inr (.inl (zJ (uZ fF fo (lo.tdiv (gZ lo lB))))))), (rG, .inl (cJ, 20, .inr (.inl (zJ (uZ fG fo (lB.tdiv (gZ lo lB))))))), (rU, .inl (cJ, 20, .inr (.inl (zJ (uZ fU ((fo + 1) - 1) (hi.tdiv (gZ hi hB1))))))), (rV, .inl (cJ, 20, .inr (.inl (zJ (uZ fV ((fo + 1) - 1) (hB1.tdiv (gZ hi hB1)))))))] H := hP
      have hD : va_D A [(hm, .inr (7, [.int (iI th), .ref rS, .ref rM, .ref rB, .ref rT, .ref rX, .ref rY, .ref rL, .int (iI sz1), .ref rR, .int (iI at1), .long (lI nu), .ref rt, .ref rx, .ref ry, .int (iI (fo + 1)), .ref rF, .ref rG, .ref rU, .ref rV, .long (lI lo), .long (lI lB), .long (lI hi), .long (lI hB1)])), (rF, .inl (cJ, 20, .inr (.inl (zJ (uZ fF fo (lo.tdiv (gZ lo lB))))))), (rG, .inl (cJ, 20, .inr (.inl (zJ (uZ fG fo (lB.tdiv (gZ lo lB))))))), (rU, .inl (cJ, 20, .inr (.inl (zJ (uZ fU ((fo + 1) - 1) (hi.tdiv (gZ hi hB1))))))), (rV, .inl (cJ, 20, .inr (.inl (zJ (uZ fV ((fo + 1) - 1) (hB1.tdiv (gZ hi hB1)))))))] := hD
      rw [hQ]
      exact wz_retv (tys := TY cI cJ cT) ((fo + 1), (uZ fF fo (lo.tdiv (gZ lo lB))), (uZ fG fo (lB.tdiv (gZ lo lB))), (uZ fU ((fo + 1) - 1) (hi.tdiv (gZ hi hB1))), (uZ fV ((fo + 1) - 1) (hB1.tdiv (gZ hi hB1)))) hx hb hr hlocks hK hP hD hS (by (try dsimp only); exact (by rw [show fo + 1 - 1 = fo by omega]; unfold noteM; dsimp only; rw [loT_0, loT_1, loT_0, loT_1]; exact if_neg (fun q => by first | omega | exact c60 q.2.1 | exact c92 q.2.2))) dX7_note_181
  · skip
    refine lv_aload_n hx hb dX7_note_31 rfl (lv_at hl 2 rfl) ?_
    refine va_get (D := D) (ci := 7) (v := .ref rU) (C := RX7) (T := TX7) (N := 24) hx hb hts hin7 hown hK hP 0 rfl rfl 18 (by decide) (hts (.fieldLink RX7 50 "DriftLogModel" "until" "[J") (by decide +kernel)) (fun _ h9 => h9) rfl dX7_note_32 ?_
    refine lv_aload_n hx hb dX7_note_35 rfl (lv_at hl 2 rfl) ?_
    refine va_get (D := D) (ci := 7) (v := .int (iI fo)) (C := RX7) (T := TX7) (N := 24) hx hb hts hin7 hown hK hP 0 rfl rfl 15 (by decide) (hts (.fieldLink RX7 165 "DriftLogModel" "found" "I") (by decide +kernel)) (fun _ h9 => h9) rfl dX7_note_36 ?_
    refine wz_if_le (tgt := 51) hx hb dX7_note_39 (by decide) ⟨by omega, by omega⟩ (fun c39 => ?_) (fun c39 => ?_)
    · skip
      exfalso; omega
    · skip
      refine lv_aload_n hx hb dX7_note_42 rfl (lv_at hl 2 rfl) ?_
      refine va_get (D := D) (ci := 7) (v := .int (iI fo)) (C := RX7) (T := TX7) (N := 24) hx hb hts hin7 hown hK hP 0 rfl rfl 15 (by decide) (hts (.fieldLink RX7 165 "DriftLogModel" "found" "I") (by decide +kernel)) (fun _ h9 => h9) rfl dX7_note_43 ?_
      refine lv_iconst (v := iI 1) hx hb dX7_note_46 rfl ?_
      refine wz_isub hx hb dX7_note_47 ?_
      refine lv_goto (tgt := 52) hx hb dX7_note_48 (by decide) ?_
      refine wz_lald (tys := TY cI cJ cT) hx hb hK hP 3 1 rfl rfl (by decide) (by constructor <;> omega) dX7_note_52 ?_
      refine lv_aload_n hx hb dX7_note_53 rfl (lv_at hl 2 rfl) ?_
      refine va_get (D := D) (ci := 7) (v := .long (lI lo)) (C := RX7) (T := TX7) (N := 24) hx hb hts hin7 hown hK hP 0 rfl rfl 20 (by decide) (hts (.fieldLink RX7 142 "DriftLogModel" "low" "J") (by decide +kernel)) (fun _ h9 => h9) rfl dX7_note_54 ?_
      refine lv_lload_n hx hb dX7_note_57 rfl (lv_at hl 1 rfl) ?_
      refine lv_ldiv hx hb dX7_note_58 (lI_ne0 ⟨by omega, by omega⟩ (by omega)) ?_
      refine wz_topl (y := lI (lo.tdiv (gZ lo lB))) (lI_div ⟨by omega, by omega⟩ ⟨by omega, by omega⟩ (by left; omega)) ?_
      refine W.lcmp hx hb dX7_note_59 ?_
      refine wz_lif_ne (tgt := 99) hx hb dX7_note_60 (by decide) ⟨by omega, by omega⟩ ⟨by omega, by omega⟩ (fun c60 => ?_) (fun c60 => ?_)
      · skip
        refine lv_iconst (v := iI 0) hx hb dX7_note_99 rfl ?_
        refine lv_istore (lv' := [(5, .int (iI 0)), (3, .long (lI (gZ hi hB1))), (1, .long (lI (gZ lo lB))), (0, .ref hm)]) hx hb dX7_note_100 hl (by decide) rfl (fun ls hl => ?_)
        refine lv_iload hx hb dX7_note_102 (lv_at hl 0 rfl) ?_
        refine wz_if_ne (tgt := 147) hx hb dX7_note_104 (by decide) (by decide) (fun c104 => ?_) (fun c104 => ?_)
        · skip
          exact absurd c104 (by decide)
        · skip
          refine lv_aload_n hx hb dX7_note_107 rfl (lv_at hl 3 rfl) ?_
          refine va_get (D := D) (ci := 7) (v := .ref rF) (C := RX7) (T := TX7) (N := 24) hx hb hts hin7 hown hK hP 0 rfl rfl 16 (by decide) (hts (.fieldLink RX7 43 "DriftLogModel" "from" "[J") (by decide +kernel)) (fun _ h9 => h9) rfl dX7_note_108 ?_
          refine lv_aload_n hx hb dX7_note_111 rfl (lv_at hl 3 rfl) ?_
          refine va_get (D := D) (ci := 7) (v := .int (iI fo)) (C := RX7) (T := TX7) (N := 24) hx hb hts hin7 hown hK hP 0 rfl rfl 15 (by decide) (hts (.fieldLink RX7 165 "DriftLogModel" "found" "I") (by decide +kernel)) (fun _ h9 => h9) rfl dX7_note_112 ?_
          refine lv_aload_n hx hb dX7_note_115 rfl (lv_at hl 3 rfl) ?_
          refine va_get (D := D) (ci := 7) (v := .long (lI lo)) (C := RX7) (T := TX7) (N := 24) hx hb hts hin7 hown hK hP 0 rfl rfl 20 (by decide) (hts (.fieldLink RX7 142 "DriftLogModel" "low" "J") (by decide +kernel)) (fun _ h9 => h9) rfl dX7_note_116 ?_
          refine lv_lload_n hx hb dX7_note_119 rfl (lv_at hl 2 rfl) ?_
          refine lv_ldiv hx hb dX7_note_120 (lI_ne0 ⟨by omega, by omega⟩ (by omega)) ?_
          refine wz_topl (y := lI (lo.tdiv (gZ lo lB))) (lI_div ⟨by omega, by omega⟩ ⟨by omega, by omega⟩ (by left; omega)) ?_
          refine wz_last (tys := TY cI cJ cT) hx hb hK hP hD hS 1 1 rfl rfl (by decide) (by constructor <;> omega) dX7_note_121 (fun H locs hP hD hS => ?_)
          have hP : va_P D vwCl [(hm, .inr (7, [.int (iI th), .ref rS, .ref rM, .ref rB, .ref rT, .ref rX, .ref rY, .ref rL, .int (iI sz1), .ref rR, .int (iI at1), .long (lI nu), .ref rt, .ref rx, .ref ry, .int (iI fo), .ref rF, .ref rG, .ref rU, .ref rV, .long (lI lo), .long (lI lB), .long (lI hi), .long (lI hB1)])), (rF, .inl (cJ, 20, .inr (.inl (zJ (uZ fF fo (lo.tdiv (gZ lo lB))))))), (rG, .inl (cJ, 20, .inr (.inl (zJ fG)))), (rU, .inl (cJ, 20, .inr (.inl (zJ fU)))), (rV, .inl (cJ, 20, .inr (.inl (zJ fV))))] H := hP
          have hD : va_D A [(hm, .inr (7, [.int (iI th), .ref rS, .ref rM, .ref rB, .ref rT, .ref rX, .ref rY, .ref rL, .int (iI sz1), .ref rR, .int (iI at1), .long (lI nu), .ref rt, .ref rx, .ref ry, .int (iI fo), .ref rF, .ref rG, .ref rU, .ref rV, .long (lI lo), .long (lI lB), .long (lI hi), .long (lI hB1)])), (rF, .inl (cJ, 20, .inr (.inl (zJ (uZ fF fo (lo.tdiv (gZ lo lB))))))), (rG, .inl (cJ, 20, .inr (.inl (zJ fG)))), (rU, .inl (cJ, 20, .inr (.inl (zJ fU)))), (rV, .inl (cJ, 20, .inr (.inl (zJ fV))))] := hD
          refine lv_aload_n hx hb dX7_note_122 rfl (lv_at hl 3 rfl) ?_
          refine va_get (D := D) (ci := 7) (v := .ref rG) (C := RX7) (T := TX7) (N := 24) hx hb hts hin7 hown hK hP 0 rfl rfl 17 (by decide) (hts (.fieldLink RX7 47 "DriftLogModel" "fromBy" "[J") (by decide +kernel)) (fun _ h9 => h9) rfl dX7_note_123 ?_
          refine lv_aload_n hx hb dX7_note_126 rfl (lv_at hl 3 rfl) ?_
          refine va_get (D := D) (ci := 7) (v := .int (iI fo)) (C := RX7) (T := TX7) (N := 24) hx hb hts hin7 hown hK hP 0 rfl rfl 15 (by decide) (hts (.fieldLink RX7 165 "DriftLogModel" "found" "I") (by decide +kernel)) (fun _ h9 => h9) rfl dX7_note_127 ?_
          refine lv_aload_n hx hb dX7_note_130 rfl (lv_at hl 3 rfl) ?_
          refine va_get (D := D) (ci := 7) (v := .long (lI lB)) (C := RX7) (T := TX7) (N := 24) hx hb hts hin7 hown hK hP 0 rfl rfl 21 (by decide) (hts (.fieldLink RX7 145 "DriftLogModel" "lowBy" "J") (by decide +kernel)) (fun _ h9 => h9) rfl dX7_note_131 ?_
          refine lv_lload_n hx hb dX7_note_134 rfl (lv_at hl 2 rfl) ?_
          refine lv_ldiv hx hb dX7_note_135 (lI_ne0 ⟨by omega, by omega⟩ (by omega)) ?_
          refine wz_topl (y := lI (lB.tdiv (gZ lo lB))) (lI_div ⟨by omega, by omega⟩ ⟨by omega, by omega⟩ (by left; omega)) ?_
          refine wz_last (tys := TY cI cJ cT) hx hb hK hP hD hS 2 1 rfl rfl (by decide) (by constructor <;> omega) dX7_note_136 (fun H locs hP hD hS => ?_)
          have hP : va_P D vwCl [(hm, .inr (7, [.int (iI th), .ref rS, .ref rM, .ref rB, .ref rT, .ref rX, .ref rY, .ref rL, .int (iI sz1), .ref rR, .int (iI at1), .long (lI nu), .ref rt, .ref rx, .ref ry, .int (iI fo), .ref rF, .ref rG, .ref rU, .ref rV, .long (lI lo), .long (lI lB), .long (lI hi), .long (lI hB1)])), (rF, .inl (cJ, 20, .inr (.inl (zJ (uZ fF fo (lo.tdiv (gZ lo lB))))))), (rG, .inl (cJ, 20, .inr (.inl (zJ (uZ fG fo (lB.tdiv (gZ lo lB))))))), (rU, .inl (cJ, 20, .inr (.inl (zJ fU)))), (rV, .inl (cJ, 20, .inr (.inl (zJ fV))))] H := hP
          have hD : va_D A [(hm, .inr (7, [.int (iI th), .ref rS, .ref rM, .ref rB, .ref rT, .ref rX, .ref rY, .ref rL, .int (iI sz1), .ref rR, .int (iI at1), .long (lI nu), .ref rt, .ref rx, .ref ry, .int (iI fo), .ref rF, .ref rG, .ref rU, .ref rV, .long (lI lo), .long (lI lB), .long (lI hi), .long (lI hB1)])), (rF, .inl (cJ, 20, .inr (.inl (zJ (uZ fF fo (lo.tdiv (gZ lo lB))))))), (rG, .inl (cJ, 20, .inr (.inl (zJ (uZ fG fo (lB.tdiv (gZ lo lB))))))), (rU, .inl (cJ, 20, .inr (.inl (zJ fU)))), (rV, .inl (cJ, 20, .inr (.inl (zJ fV))))] := hD
          refine lv_aload_n hx hb dX7_note_137 rfl (lv_at hl 3 rfl) ?_
          refine lv_dup hx hb dX7_note_138 rfl ?_
          refine va_get (D := D) (ci := 7) (v := .int (iI fo)) (C := RX7) (T := TX7) (N := 24) hx hb hts hin7 hown hK hP 0 rfl rfl 15 (by decide) (hts (.fieldLink RX7 165 "DriftLogModel" "found" "I") (by decide +kernel)) (fun _ h9 => h9) rfl dX7_note_139 ?_
          refine lv_iconst (v := iI 1) hx hb dX7_note_142 rfl ?_
          refine wz_iadd hx hb dX7_note_143 ?_
          refine va_put (D := D) (ci := 7) (v := .int (iI (fo + 1))) (ty := .int) (C := RX7) (T := TX7) (N := 24) hx hb hts hin7 tyX7 tyX7_ok nmX7 hown hK hP hD hS 0 rfl rfl 15 (by decide) (hts (.fieldLink RX7 165 "DriftLogModel" "found" "I") (by decide +kernel)) (fun _ h9 => h9) rfl (by decide +kernel) rfl rfl (Nat.le_of_ble_eq_true rfl) dX7_note_144 (fun H locs hP hD hS => ?_)
          have hP : va_P D vwCl [(hm, .inr (7, [.int (iI th), .ref rS, .ref rM, .ref rB, .ref rT, .ref rX, .ref rY, .ref rL, .int (iI sz1), .ref rR, .int (iI at1), .long (lI nu), .ref rt, .ref rx, .ref ry, .int (iI (fo + 1)), .ref rF, .ref rG, .ref rU, .ref rV, .long (lI lo), .long (lI lB), .long (lI hi), .long (lI hB1)])), (rF, .inl (cJ, 20, .inr (.inl (zJ (uZ fF fo (lo.tdiv (gZ lo lB))))))), (rG, .inl (cJ, 20, .inr (.inl (zJ (uZ fG fo (lB.tdiv (gZ lo lB))))))), (rU, .inl (cJ, 20, .inr (.inl (zJ fU)))), (rV, .inl (cJ, 20, .inr (.inl (zJ fV))))] H := hP
          have hD : va_D A [(hm, .inr (7, [.int (iI th), .ref rS, .ref rM, .ref rB, .ref rT, .ref rX, .ref rY, .ref rL, .int (iI sz1), .ref rR, .int (iI at1), .long (lI nu), .ref rt, .ref rx, .ref ry, .int (iI (fo + 1)), .ref rF, .ref rG, .ref rU, .ref rV, .long (lI lo), .long (lI lB), .long (lI hi), .long (lI hB1)])), (rF, .inl (cJ, 20, .inr (.inl (zJ (uZ fF fo (lo.tdiv (gZ lo lB))))))), (rG, .inl (cJ, 20, .inr (.inl (zJ (uZ fG fo (lB.tdiv (gZ lo lB))))))), (rU, .inl (cJ, 20, .inr (.inl (zJ fU)))), (rV, .inl (cJ, 20, .inr (.inl (zJ fV))))] := hD
          refine lv_aload_n hx hb dX7_note_147 rfl (lv_at hl 3 rfl) ?_
          refine va_get (D := D) (ci := 7) (v := .ref rU) (C := RX7) (T := TX7) (N := 24) hx hb hts hin7 hown hK hP 0 rfl rfl 18 (by decide) (hts (.fieldLink RX7 50 "DriftLogModel" "until" "[J") (by decide +kernel)) (fun _ h9 => h9) rfl dX7_note_148 ?_
          refine lv_aload_n hx hb dX7_note_151 rfl (lv_at hl 3 rfl) ?_
          refine va_get (D := D) (ci := 7) (v := .int (iI (fo + 1))) (C := RX7) (T := TX7) (N := 24) hx hb hts hin7 hown hK hP 0 rfl rfl 15 (by decide) (hts (.fieldLink RX7 165 "DriftLogModel" "found" "I") (by decide +kernel)) (fun _ h9 => h9) rfl dX7_note_152 ?_
          refine lv_iconst (v := iI 1) hx hb dX7_note_155 rfl ?_
          refine wz_isub hx hb dX7_note_156 ?_
          refine lv_aload_n hx hb dX7_note_157 rfl (lv_at hl 3 rfl) ?_
          refine va_get (D := D) (ci := 7) (v := .long (lI hi)) (C := RX7) (T := TX7) (N := 24) hx hb hts hin7 hown hK hP 0 rfl rfl 22 (by decide) (hts (.fieldLink RX7 152 "DriftLogModel" "high" "J") (by decide +kernel)) (fun _ h9 => h9) rfl dX7_note_158 ?_
          refine lv_lload_n hx hb dX7_note_161 rfl (lv_at hl 1 rfl) ?_
          refine lv_ldiv hx hb dX7_note_162 (lI_ne0 ⟨by omega, by omega⟩ (by omega)) ?_
          refine wz_topl (y := lI (hi.tdiv (gZ hi hB1))) (lI_div ⟨by omega, by omega⟩ ⟨by omega, by omega⟩ (by left; omega)) ?_
          refine wz_last (tys := TY cI cJ cT) hx hb hK hP hD hS 3 1 rfl rfl (by decide) (by constructor <;> omega) dX7_note_163 (fun H locs hP hD hS => ?_)
          have hP : va_P D vwCl [(hm, .inr (7, [.int (iI th), .ref rS, .ref rM, .ref rB, .ref rT, .ref rX, .ref rY, .ref rL, .int (iI sz1), .ref rR, .int (iI at1), .long (lI nu), .ref rt, .ref rx, .ref ry, .int (iI (fo + 1)), .ref rF, .ref rG, .ref rU, .ref rV, .long (lI lo), .long (lI lB), .long (lI hi), .long (lI hB1)])), (rF, .inl (cJ, 20, .inr (.inl (zJ (uZ fF fo (lo.tdiv (gZ lo lB))))))), (rG, .inl (cJ, 20, .inr (.inl (zJ (uZ fG fo (lB.tdiv (gZ lo lB))))))), (rU, .inl (cJ, 20, .inr (.inl (zJ (uZ fU ((fo + 1) - 1) (hi.tdiv (gZ hi hB1))))))), (rV, .inl (cJ, 20, .inr (.inl (zJ fV))))] H := hP
          have hD : va_D A [(hm, .inr (7, [.int (iI th), .ref rS, .ref rM, .ref rB, .ref rT, .ref rX, .ref rY, .ref rL, .int (iI sz1), .ref rR, .int (iI at1), .long (lI nu), .ref rt, .ref rx, .ref ry, .int (iI (fo + 1)), .ref rF, .ref rG, .ref rU, .ref rV, .long (lI lo), .long (lI lB), .long (lI hi), .long (lI hB1)])), (rF, .inl (cJ, 20, .inr (.inl (zJ (uZ fF fo (lo.tdiv (gZ lo lB))))))), (rG, .inl (cJ, 20, .inr (.inl (zJ (uZ fG fo (lB.tdiv (gZ lo lB))))))), (rU, .inl (cJ, 20, .inr (.inl (zJ (uZ fU ((fo + 1) - 1) (hi.tdiv (gZ hi hB1))))))), (rV, .inl (cJ, 20, .inr (.inl (zJ fV))))] := hD
          refine lv_aload_n hx hb dX7_note_164 rfl (lv_at hl 3 rfl) ?_
          refine va_get (D := D) (ci := 7) (v := .ref rV) (C := RX7) (T := TX7) (N := 24) hx hb hts hin7 hown hK hP 0 rfl rfl 19 (by decide) (hts (.fieldLink RX7 53 "DriftLogModel" "untilBy" "[J") (by decide +kernel)) (fun _ h9 => h9) rfl dX7_note_165 ?_
          refine lv_aload_n hx hb dX7_note_168 rfl (lv_at hl 3 rfl) ?_
          refine va_get (D := D) (ci := 7) (v := .int (iI (fo + 1))) (C := RX7) (T := TX7) (N := 24) hx hb hts hin7 hown hK hP 0 rfl rfl 15 (by decide) (hts (.fieldLink RX7 165 "DriftLogModel" "found" "I") (by decide +kernel)) (fun _ h9 => h9) rfl dX7_note_169 ?_
          refine lv_iconst (v := iI 1) hx hb dX7_note_172 rfl ?_
          refine wz_isub hx hb dX7_note_173 ?_
          refine lv_aload_n hx hb dX7_note_174 rfl (lv_at hl 3 rfl) ?_
          refine va_get (D := D) (ci := 7) (v := .long (lI hB1)) (C := RX7) (T := TX7) (N := 24) hx hb hts hin7 hown hK hP 0 rfl rfl 23 (by decide) (hts (.fieldLink RX7 155 "DriftLogModel" "highBy" "J") (by decide +kernel)) (fun _ h9 => h9) rfl dX7_note_175 ?_
          refine lv_lload_n hx hb dX7_note_178 rfl (lv_at hl 1 rfl) ?_
          refine lv_ldiv hx hb dX7_note_179 (lI_ne0 ⟨by omega, by omega⟩ (by omega)) ?_
          refine wz_topl (y := lI (hB1.tdiv (gZ hi hB1))) (lI_div ⟨by omega, by omega⟩ ⟨by omega, by omega⟩ (by left; omega)) ?_
          refine wz_last (tys := TY cI cJ cT) hx hb hK hP hD hS 4 1 rfl rfl (by decide) (by constructor <;> omega) dX7_note_180 (fun H locs hP hD hS => ?_)
          have hP : va_P D vwCl [(hm, .inr (7, [.int (iI th), .ref rS, .ref rM, .ref rB, .ref rT, .ref rX, .ref rY, .ref rL, .int (iI sz1), .ref rR, .int (iI at1), .long (lI nu), .ref rt, .ref rx, .ref ry, .int (iI (fo + 1)), .ref rF, .ref rG, .ref rU, .ref rV, .long (lI lo), .long (lI lB), .long (lI hi), .long (lI hB1)])), (rF, .inl (cJ, 20, .inr (.inl (zJ (uZ fF fo (lo.tdiv (gZ lo lB))))))), (rG, .inl (cJ, 20, .inr (.inl (zJ (uZ fG fo (lB.tdiv (gZ lo lB))))))), (rU, .inl (cJ, 20, .inr (.inl (zJ (uZ fU ((fo + 1) - 1) (hi.tdiv (gZ hi hB1))))))), (rV, .inl (cJ, 20, .inr (.inl (zJ (uZ fV ((fo + 1) - 1) (hB1.tdiv (gZ hi hB1)))))))] H := hP
          have hD : va_D A [(hm, .inr (7, [.int (iI th), .ref rS, .ref rM, .ref rB, .ref rT, .ref rX, .ref rY, .ref rL, .int (iI sz1), .ref rR, .int (iI at1), .long (lI nu), .ref rt, .ref rx, .ref ry, .int (iI (fo + 1)), .ref rF, .ref rG, .ref rU, .ref rV, .long (lI lo), .long (lI lB), .long (lI hi), .long (lI hB1)])), (rF, .inl (cJ, 20, .inr (.inl (zJ (uZ fF fo (lo.tdiv (gZ lo lB))))))), (rG, .inl (cJ, 20, .inr (.inl (zJ (uZ fG fo (lB.tdiv (gZ lo lB))))))), (rU, .inl (cJ, 20, .inr (.inl (zJ (uZ fU ((fo + 1) - 1) (hi.tdiv (gZ hi hB1))))))), (rV, .inl (cJ, 20, .inr (.inl (zJ (uZ fV ((fo + 1) - 1) (hB1.tdiv (gZ hi hB1)))))))] := hD
          rw [hQ]
          exact wz_retv (tys := TY cI cJ cT) ((fo + 1), (uZ fF fo (lo.tdiv (gZ lo lB))), (uZ fG fo (lB.tdiv (gZ lo lB))), (uZ fU ((fo + 1) - 1) (hi.tdiv (gZ hi hB1))), (uZ fV ((fo + 1) - 1) (hB1.tdiv (gZ hi hB1)))) hx hb hr hlocks hK hP hD hS (by (try dsimp only); exact (by rw [show fo + 1 - 1 = fo by omega]; unfold noteM; dsimp only; rw [loT_0, loT_1, loT_0, loT_1]; exact if_neg (fun q => by first | omega | exact c60 q.2.1 | exact c92 q.2.2))) dX7_note_181
      · skip
        refine lv_aload_n hx hb dX7_note_63 rfl (lv_at hl 2 rfl) ?_
        refine va_get (D := D) (ci := 7) (v := .ref rV) (C := RX7) (T := TX7) (N := 24) hx hb hts hin7 hown hK hP 0 rfl rfl 19 (by decide) (hts (.fieldLink RX7 53 "DriftLogModel" "untilBy" "[J") (by decide +kernel)) (fun _ h9 => h9) rfl dX7_note_64 ?_
        refine lv_aload_n hx hb dX7_note_67 rfl (lv_at hl 2 rfl) ?_
        refine va_get (D := D) (ci := 7) (v := .int (iI fo)) (C := RX7) (T := TX7) (N := 24) hx hb hts hin7 hown hK hP 0 rfl rfl 15 (by decide) (hts (.fieldLink RX7 165 "DriftLogModel" "found" "I") (by decide +kernel)) (fun _ h9 => h9) rfl dX7_note_68 ?_
        refine wz_if_le (tgt := 83) hx hb dX7_note_71 (by decide) ⟨by omega, by omega⟩ (fun c71 => ?_) (fun c71 => ?_)
        · skip
          exfalso; omega
        · skip
          refine lv_aload_n hx hb dX7_note_74 rfl (lv_at hl 2 rfl) ?_
          refine va_get (D := D) (ci := 7) (v := .int (iI fo)) (C := RX7) (T := TX7) (N := 24) hx hb hts hin7 hown hK hP 0 rfl rfl 15 (by decide) (hts (.fieldLink RX7 165 "DriftLogModel" "found" "I") (by decide +kernel)) (fun _ h9 => h9) rfl dX7_note_75 ?_
          refine lv_iconst (v := iI 1) hx hb dX7_note_78 rfl ?_
          refine wz_isub hx hb dX7_note_79 ?_
          refine lv_goto (tgt := 84) hx hb dX7_note_80 (by decide) ?_
          refine wz_lald (tys := TY cI cJ cT) hx hb hK hP 4 1 rfl rfl (by decide) (by constructor <;> omega) dX7_note_84 ?_
          refine lv_aload_n hx hb dX7_note_85 rfl (lv_at hl 2 rfl) ?_
          refine va_get (D := D) (ci := 7) (v := .long (lI lB)) (C := RX7) (T := TX7) (N := 24) hx hb hts hin7 hown hK hP 0 rfl rfl 21 (by decide) (hts (.fieldLink RX7 145 "DriftLogModel" "lowBy" "J") (by decide +kernel)) (fun _ h9 => h9) rfl dX7_note_86 ?_
          refine lv_lload_n hx hb dX7_note_89 rfl (lv_at hl 1 rfl) ?_
          refine lv_ldiv hx hb dX7_note_90 (lI_ne0 ⟨by omega, by omega⟩ (by omega)) ?_
          refine wz_topl (y := lI (lB.tdiv (gZ lo lB))) (lI_div ⟨by omega, by omega⟩ ⟨by omega, by omega⟩ (by left; omega)) ?_
          refine W.lcmp hx hb dX7_note_91 ?_
          refine wz_lif_ne (tgt := 99) hx hb dX7_note_92 (by decide) ⟨by omega, by omega⟩ ⟨by omega, by omega⟩ (fun c92 => ?_) (fun c92 => ?_)
          · skip
            refine lv_iconst (v := iI 0) hx hb dX7_note_99 rfl ?_
            refine lv_istore (lv' := [(5, .int (iI 0)), (3, .long (lI (gZ hi hB1))), (1, .long (lI (gZ lo lB))), (0, .ref hm)]) hx hb dX7_note_100 hl (by decide) rfl (fun ls hl => ?_)
            refine lv_iload hx hb dX7_note_102 (lv_at hl 0 rfl) ?_
            refine wz_if_ne (tgt := 147) hx hb dX7_note_104 (by decide) (by decide) (fun c104 => ?_) (fun c104 => ?_)
            · skip
              exact absurd c104 (by decide)
            · skip
              refine lv_aload_n hx hb dX7_note_107 rfl (lv_at hl 3 rfl) ?_
              refine va_get (D := D) (ci := 7) (v := .ref rF) (C := RX7) (T := TX7) (N := 24) hx hb hts hin7 hown hK hP 0 rfl rfl 16 (by decide) (hts (.fieldLink RX7 43 "DriftLogModel" "from" "[J") (by decide +kernel)) (fun _ h9 => h9) rfl dX7_note_108 ?_
              refine lv_aload_n hx hb dX7_note_111 rfl (lv_at hl 3 rfl) ?_
              refine va_get (D := D) (ci := 7) (v := .int (iI fo)) (C := RX7) (T := TX7) (N := 24) hx hb hts hin7 hown hK hP 0 rfl rfl 15 (by decide) (hts (.fieldLink RX7 165 "DriftLogModel" "found" "I") (by decide +kernel)) (fun _ h9 => h9) rfl dX7_note_112 ?_
              refine lv_aload_n hx hb dX7_note_115 rfl (lv_at hl 3 rfl) ?_
              refine va_get (D := D) (ci := 7) (v := .long (lI lo)) (C := RX7) (T := TX7) (N := 24) hx hb hts hin7 hown hK hP 0 rfl rfl 20 (by decide) (hts (.fieldLink RX7 142 "DriftLogModel" "low" "J") (by decide +kernel)) (fun _ h9 => h9) rfl dX7_note_116 ?_
              refine lv_lload_n hx hb dX7_note_119 rfl (lv_at hl 2 rfl) ?_
              refine lv_ldiv hx hb dX7_note_120 (lI_ne0 ⟨by omega, by omega⟩ (by omega)) ?_
              refine wz_topl (y := lI (lo.tdiv (gZ lo lB))) (lI_div ⟨by omega, by omega⟩ ⟨by omega, by omega⟩ (by left; omega)) ?_
              refine wz_last (tys := TY cI cJ cT) hx hb hK hP hD hS 1 1 rfl rfl (by decide) (by constructor <;> omega) dX7_note_121 (fun H locs hP hD hS => ?_)
              have hP : va_P D vwCl [(hm, .inr (7, [.int (iI th), .ref rS, .ref rM, .ref rB, .ref rT, .ref rX, .ref rY, .ref rL, .int (iI sz1), .ref rR, .int (iI at1), .long (lI nu), .ref rt, .ref rx, .ref ry, .int (iI fo), .ref rF, .ref rG, .ref rU, .ref rV, .long (lI lo), .long (lI lB), .long (lI hi), .long (lI hB1)])), (rF, .inl (cJ, 20, .inr (.inl (zJ (uZ fF fo (lo.tdiv (gZ lo lB))))))), (rG, .inl (cJ, 20, .inr (.inl (zJ fG)))), (rU, .inl (cJ, 20, .inr (.inl (zJ fU)))), (rV, .inl (cJ, 20, .inr (.inl (zJ fV))))] H := hP
              have hD : va_D A [(hm, .inr (7, [.int (iI th), .ref rS, .ref rM, .ref rB, .ref rT, .ref rX, .ref rY, .ref rL, .int (iI sz1), .ref rR, .int (iI at1), .long (lI nu), .ref rt, .ref rx, .ref ry, .int (iI fo), .ref rF, .ref rG, .ref rU, .ref rV, .long (lI lo), .long (lI lB), .long (lI hi), .long (lI hB1)])), (rF, .inl (cJ, 20, .inr (.inl (zJ (uZ fF fo (lo.tdiv (gZ lo lB))))))), (rG, .inl (cJ, 20, .inr (.inl (zJ fG)))), (rU, .inl (cJ, 20, .inr (.inl (zJ fU)))), (rV, .inl (cJ, 20, .inr (.inl (zJ fV))))] := hD
              refine lv_aload_n hx hb dX7_note_122 rfl (lv_at hl 3 rfl) ?_
              refine va_get (D := D) (ci := 7) (v := .ref rG) (C := RX7) (T := TX7) (N := 24) hx hb hts hin7 hown hK hP 0 rfl rfl 17 (by decide) (hts (.fieldLink RX7 47 "DriftLogModel" "fromBy" "[J") (by decide +kernel)) (fun _ h9 => h9) rfl dX7_note_123 ?_
              refine lv_aload_n hx hb dX7_note_126 rfl (lv_at hl 3 rfl) ?_
              refine va_get (D := D) (ci := 7) (v := .int (iI fo)) (C := RX7) (T := TX7) (N := 24) hx hb hts hin7 hown hK hP 0 rfl rfl 15 (by decide) (hts (.fieldLink RX7 165 "DriftLogModel" "found" "I") (by decide +kernel)) (fun _ h9 => h9) rfl dX7_note_127 ?_
              refine lv_aload_n hx hb dX7_note_130 rfl (lv_at hl 3 rfl) ?_
              refine va_get (D := D) (ci := 7) (v := .long (lI lB)) (C := RX7) (T := TX7) (N := 24) hx hb hts hin7 hown hK hP 0 rfl rfl 21 (by decide) (hts (.fieldLink RX7 145 "DriftLogModel" "lowBy" "J") (by decide +kernel)) (fun _ h9 => h9) rfl dX7_note_131 ?_
              refine lv_lload_n hx hb dX7_note_134 rfl (lv_at hl 2 rfl) ?_
              refine lv_ldiv hx hb dX7_note_135 (lI_ne0 ⟨by omega, by omega⟩ (by omega)) ?_
              refine wz_topl (y := lI (lB.tdiv (gZ lo lB))) (lI_div ⟨by omega, by omega⟩ ⟨by omega, by omega⟩ (by left; omega)) ?_
              refine wz_last (tys := TY cI cJ cT) hx hb hK hP hD hS 2 1 rfl rfl (by decide) (by constructor <;> omega) dX7_note_136 (fun H locs hP hD hS => ?_)
              have hP : va_P D vwCl [(hm, .inr (7, [.int (iI th), .ref rS, .ref rM, .ref rB, .ref rT, .ref rX, .ref rY, .ref rL, .int (iI sz1), .ref rR, .int (iI at1), .long (lI nu), .ref rt, .ref rx, .ref ry, .int (iI fo), .ref rF, .ref rG, .ref rU, .ref rV, .long (lI lo), .long (lI lB), .long (lI hi), .long (lI hB1)])), (rF, .inl (cJ, 20, .inr (.inl (zJ (uZ fF fo (lo.tdiv (gZ lo lB))))))), (rG, .inl (cJ, 20, .inr (.inl (zJ (uZ fG fo (lB.tdiv (gZ lo lB))))))), (rU, .inl (cJ, 20, .inr (.inl (zJ fU)))), (rV, .inl (cJ, 20, .inr (.inl (zJ fV))))] H := hP
              have hD : va_D A [(hm, .inr (7, [.int (iI th), .ref rS, .ref rM, .ref rB, .ref rT, .ref rX, .ref rY, .ref rL, .int (iI sz1), .ref rR, .int (iI at1), .long (lI nu), .ref rt, .ref rx, .ref ry, .int (iI fo), .ref rF, .ref rG, .ref rU, .ref rV, .long (lI lo), .long (lI lB), .long (lI hi), .long (lI hB1)])), (rF, .inl (cJ, 20, .inr (.inl (zJ (uZ fF fo (lo.tdiv (gZ lo lB))))))), (rG, .inl (cJ, 20, .inr (.inl (zJ (uZ fG fo (lB.tdiv (gZ lo lB))))))), (rU, .inl (cJ, 20, .inr (.inl (zJ fU)))), (rV, .inl (cJ, 20, .inr (.inl (zJ fV))))] := hD
              refine lv_aload_n hx hb dX7_note_137 rfl (lv_at hl 3 rfl) ?_
              refine lv_dup hx hb dX7_note_138 rfl ?_
              refine va_get (D := D) (ci := 7) (v := .int (iI fo)) (C := RX7) (T := TX7) (N := 24) hx hb hts hin7 hown hK hP 0 rfl rfl 15 (by decide) (hts (.fieldLink RX7 165 "DriftLogModel" "found" "I") (by decide +kernel)) (fun _ h9 => h9) rfl dX7_note_139 ?_
              refine lv_iconst (v := iI 1) hx hb dX7_note_142 rfl ?_
              refine wz_iadd hx hb dX7_note_143 ?_
              refine va_put (D := D) (ci := 7) (v := .int (iI (fo + 1))) (ty := .int) (C := RX7) (T := TX7) (N := 24) hx hb hts hin7 tyX7 tyX7_ok nmX7 hown hK hP hD hS 0 rfl rfl 15 (by decide) (hts (.fieldLink RX7 165 "DriftLogModel" "found" "I") (by decide +kernel)) (fun _ h9 => h9) rfl (by decide +kernel) rfl rfl (Nat.le_of_ble_eq_true rfl) dX7_note_144 (fun H locs hP hD hS => ?_)
              have hP : va_P D vwCl [(hm, .inr (7, [.int (iI th), .ref rS, .ref rM, .ref rB, .ref rT, .ref rX, .ref rY, .ref rL, .int (iI sz1), .ref rR, .int (iI at1), .long (lI nu), .ref rt, .ref rx, .ref ry, .int (iI (fo + 1)), .ref rF, .ref rG, .ref rU, .ref rV, .long (lI lo), .long (lI lB), .long (lI hi), .long (lI hB1)])), (rF, .inl (cJ, 20, .inr (.inl (zJ (uZ fF fo (lo.tdiv (gZ lo lB))))))), (rG, .inl (cJ, 20, .inr (.inl (zJ (uZ fG fo (lB.tdiv (gZ lo lB))))))), (rU, .inl (cJ, 20, .inr (.inl (zJ fU)))), (rV, .inl (cJ, 20, .inr (.inl (zJ fV))))] H := hP
              have hD : va_D A [(hm, .inr (7, [.int (iI th), .ref rS, .ref rM, .ref rB, .ref rT, .ref rX, .ref rY, .ref rL, .int (iI sz1), .ref rR, .int (iI at1), .long (lI nu), .ref rt, .ref rx, .ref ry, .int (iI (fo + 1)), .ref rF, .ref rG, .ref rU, .ref rV, .long (lI lo), .long (lI lB), .long (lI hi), .long (lI hB1)])), (rF, .inl (cJ, 20, .inr (.inl (zJ (uZ fF fo (lo.tdiv (gZ lo lB))))))), (rG, .inl (cJ, 20, .inr (.inl (zJ (uZ fG fo (lB.tdiv (gZ lo lB))))))), (rU, .inl (cJ, 20, .inr (.inl (zJ fU)))), (rV, .inl (cJ, 20, .inr (.inl (zJ fV))))] := hD
              refine lv_aload_n hx hb dX7_note_147 rfl (lv_at hl 3 rfl) ?_
              refine va_get (D := D) (ci := 7) (v := .ref rU) (C := RX7) (T := TX7) (N := 24) hx hb hts hin7 hown hK hP 0 rfl rfl 18 (by decide) (hts (.fieldLink RX7 50 "DriftLogModel" "until" "[J") (by decide +kernel)) (fun _ h9 => h9) rfl dX7_note_148 ?_
              refine lv_aload_n hx hb dX7_note_151 rfl (lv_at hl 3 rfl) ?_
              refine va_get (D := D) (ci := 7) (v := .int (iI (fo + 1))) (C := RX7) (T := TX7) (N := 24) hx hb hts hin7 hown hK hP 0 rfl rfl 15 (by decide) (hts (.fieldLink RX7 165 "DriftLogModel" "found" "I") (by decide +kernel)) (fun _ h9 => h9) rfl dX7_note_152 ?_
              refine lv_iconst (v := iI 1) hx hb dX7_note_155 rfl ?_
              refine wz_isub hx hb dX7_note_156 ?_
              refine lv_aload_n hx hb dX7_note_157 rfl (lv_at hl 3 rfl) ?_
              refine va_get (D := D) (ci := 7) (v := .long (lI hi)) (C := RX7) (T := TX7) (N := 24) hx hb hts hin7 hown hK hP 0 rfl rfl 22 (by decide) (hts (.fieldLink RX7 152 "DriftLogModel" "high" "J") (by decide +kernel)) (fun _ h9 => h9) rfl dX7_note_158 ?_
              refine lv_lload_n hx hb dX7_note_161 rfl (lv_at hl 1 rfl) ?_
              refine lv_ldiv hx hb dX7_note_162 (lI_ne0 ⟨by omega, by omega⟩ (by omega)) ?_
              refine wz_topl (y := lI (hi.tdiv (gZ hi hB1))) (lI_div ⟨by omega, by omega⟩ ⟨by omega, by omega⟩ (by left; omega)) ?_
              refine wz_last (tys := TY cI cJ cT) hx hb hK hP hD hS 3 1 rfl rfl (by decide) (by constructor <;> omega) dX7_note_163 (fun H locs hP hD hS => ?_)
              have hP : va_P D vwCl [(hm, .inr (7, [.int (iI th), .ref rS, .ref rM, .ref rB, .ref rT, .ref rX, .ref rY, .ref rL, .int (iI sz1), .ref rR, .int (iI at1), .long (lI nu), .ref rt, .ref rx, .ref ry, .int (iI (fo + 1)), .ref rF, .ref rG, .ref rU, .ref rV, .long (lI lo), .long (lI lB), .long (lI hi), .long (lI hB1)])), (rF, .inl (cJ, 20, .inr (.inl (zJ (uZ fF fo (lo.tdiv (gZ lo lB))))))), (rG, .inl (cJ, 20, .inr (.inl (zJ (uZ fG fo (lB.tdiv (gZ lo lB))))))), (rU, .inl (cJ, 20, .inr (.inl (zJ (uZ fU ((fo + 1) - 1) (hi.tdiv (gZ hi hB1))))))), (rV, .inl (cJ, 20, .inr (.inl (zJ fV))))] H := hP
              have hD : va_D A [(hm, .inr (7, [.int (iI th), .ref rS, .ref rM, .ref rB, .ref rT, .ref rX, .ref rY, .ref rL, .int (iI sz1), .ref rR, .int (iI at1), .long (lI nu), .ref rt, .ref rx, .ref ry, .int (iI (fo + 1)), .ref rF, .ref rG, .ref rU, .ref rV, .long (lI lo), .long (lI lB), .long (lI hi), .long (lI hB1)])), (rF, .inl (cJ, 20, .inr (.inl (zJ (uZ fF fo (lo.tdiv (gZ lo lB))))))), (rG, .inl (cJ, 20, .inr (.inl (zJ (uZ fG fo (lB.tdiv (gZ lo lB))))))), (rU, .inl (cJ, 20, .inr (.inl (zJ (uZ fU ((fo + 1) - 1) (hi.tdiv (gZ hi hB1))))))), (rV, .inl (cJ, 20, .inr (.inl (zJ fV))))] := hD
              refine lv_aload_n hx hb dX7_note_164 rfl (lv_at hl 3 rfl) ?_
              refine va_get (D := D) (ci := 7) (v := .ref rV) (C := RX7) (T := TX7) (N := 24) hx hb hts hin7 hown hK hP 0 rfl rfl 19 (by decide) (hts (.fieldLink RX7 53 "DriftLogModel" "untilBy" "[J") (by decide +kernel)) (fun _ h9 => h9) rfl dX7_note_165 ?_
              refine lv_aload_n hx hb dX7_note_168 rfl (lv_at hl 3 rfl) ?_
              refine va_get (D := D) (ci := 7) (v := .int (iI (fo + 1))) (C := RX7) (T := TX7) (N := 24) hx hb hts hin7 hown hK hP 0 rfl rfl 15 (by decide) (hts (.fieldLink RX7 165 "DriftLogModel" "found" "I") (by decide +kernel)) (fun _ h9 => h9) rfl dX7_note_169 ?_
              refine lv_iconst (v := iI 1) hx hb dX7_note_172 rfl ?_
              refine wz_isub hx hb dX7_note_173 ?_
              refine lv_aload_n hx hb dX7_note_174 rfl (lv_at hl 3 rfl) ?_
              refine va_get (D := D) (ci := 7) (v := .long (lI hB1)) (C := RX7) (T := TX7) (N := 24) hx hb hts hin7 hown hK hP 0 rfl rfl 23 (by decide) (hts (.fieldLink RX7 155 "DriftLogModel" "highBy" "J") (by decide +kernel)) (fun _ h9 => h9) rfl dX7_note_175 ?_
              refine lv_lload_n hx hb dX7_note_178 rfl (lv_at hl 1 rfl) ?_
              refine lv_ldiv hx hb dX7_note_179 (lI_ne0 ⟨by omega, by omega⟩ (by omega)) ?_
              refine wz_topl (y := lI (hB1.tdiv (gZ hi hB1))) (lI_div ⟨by omega, by omega⟩ ⟨by omega, by omega⟩ (by left; omega)) ?_
              refine wz_last (tys := TY cI cJ cT) hx hb hK hP hD hS 4 1 rfl rfl (by decide) (by constructor <;> omega) dX7_note_180 (fun H locs hP hD hS => ?_)
              have hP : va_P D vwCl [(hm, .inr (7, [.int (iI th), .ref rS, .ref rM, .ref rB, .ref rT, .ref rX, .ref rY, .ref rL, .int (iI sz1), .ref rR, .int (iI at1), .long (lI nu), .ref rt, .ref rx, .ref ry, .int (iI (fo + 1)), .ref rF, .ref rG, .ref rU, .ref rV, .long (lI lo), .long (lI lB), .long (lI hi), .long (lI hB1)])), (rF, .inl (cJ, 20, .inr (.inl (zJ (uZ fF fo (lo.tdiv (gZ lo lB))))))), (rG, .inl (cJ, 20, .inr (.inl (zJ (uZ fG fo (lB.tdiv (gZ lo lB))))))), (rU, .inl (cJ, 20, .inr (.inl (zJ (uZ fU ((fo + 1) - 1) (hi.tdiv (gZ hi hB1))))))), (rV, .inl (cJ, 20, .inr (.inl (zJ (uZ fV ((fo + 1) - 1) (hB1.tdiv (gZ hi hB1)))))))] H := hP
              have hD : va_D A [(hm, .inr (7, [.int (iI th), .ref rS, .ref rM, .ref rB, .ref rT, .ref rX, .ref rY, .ref rL, .int (iI sz1), .ref rR, .int (iI at1), .long (lI nu), .ref rt, .ref rx, .ref ry, .int (iI (fo + 1)), .ref rF, .ref rG, .ref rU, .ref rV, .long (lI lo), .long (lI lB), .long (lI hi), .long (lI hB1)])), (rF, .inl (cJ, 20, .inr (.inl (zJ (uZ fF fo (lo.tdiv (gZ lo lB))))))), (rG, .inl (cJ, 20, .inr (.inl (zJ (uZ fG fo (lB.tdiv (gZ lo lB))))))), (rU, .inl (cJ, 20, .inr (.inl (zJ (uZ fU ((fo + 1) - 1) (hi.tdiv (gZ hi hB1))))))), (rV, .inl (cJ, 20, .inr (.inl (zJ (uZ fV ((fo + 1) - 1) (hB1.tdiv (gZ hi hB1)))))))] := hD
              rw [hQ]
              exact wz_retv (tys := TY cI cJ cT) ((fo + 1), (uZ fF fo (lo.tdiv (gZ lo lB))), (uZ fG fo (lB.tdiv (gZ lo lB))), (uZ fU ((fo + 1) - 1) (hi.tdiv (gZ hi hB1))), (uZ fV ((fo + 1) - 1) (hB1.tdiv (gZ hi hB1)))) hx hb hr hlocks hK hP hD hS (by (try dsimp only); exact (by rw [show fo + 1 - 1 = fo by omega]; unfold noteM; dsimp only; rw [loT_0, loT_1, loT_0, loT_1]; exact if_neg (fun q => by first | omega | exact c60 q.2.1 | exact c92 q.2.2))) dX7_note_181
          · skip
            refine lv_iconst (v := iI 1) hx hb dX7_note_95 rfl ?_
            refine lv_goto (tgt := 100) hx hb dX7_note_96 (by decide) ?_
            refine lv_istore (lv' := [(5, .int (iI 1)), (3, .long (lI (gZ hi hB1))), (1, .long (lI (gZ lo lB))), (0, .ref hm)]) hx hb dX7_note_100 hl (by decide) rfl (fun ls hl => ?_)
            refine lv_iload hx hb dX7_note_102 (lv_at hl 0 rfl) ?_
            refine wz_if_ne (tgt := 147) hx hb dX7_note_104 (by decide) (by decide) (fun c104 => ?_) (fun c104 => ?_)
            · skip
              refine lv_aload_n hx hb dX7_note_147 rfl (lv_at hl 3 rfl) ?_
              refine va_get (D := D) (ci := 7) (v := .ref rU) (C := RX7) (T := TX7) (N := 24) hx hb hts hin7 hown hK hP 0 rfl rfl 18 (by decide) (hts (.fieldLink RX7 50 "DriftLogModel" "until" "[J") (by decide +kernel)) (fun _ h9 => h9) rfl dX7_note_148 ?_
              refine lv_aload_n hx hb dX7_note_151 rfl (lv_at hl 3 rfl) ?_
              refine va_get (D := D) (ci := 7) (v := .int (iI fo)) (C := RX7) (T := TX7) (N := 24) hx hb hts hin7 hown hK hP 0 rfl rfl 15 (by decide) (hts (.fieldLink RX7 165 "DriftLogModel" "found" "I") (by decide +kernel)) (fun _ h9 => h9) rfl dX7_note_152 ?_
              refine lv_iconst (v := iI 1) hx hb dX7_note_155 rfl ?_
              refine wz_isub hx hb dX7_note_156 ?_
              refine lv_aload_n hx hb dX7_note_157 rfl (lv_at hl 3 rfl) ?_
              refine va_get (D := D) (ci := 7) (v := .long (lI hi)) (C := RX7) (T := TX7) (N := 24) hx hb hts hin7 hown hK hP 0 rfl rfl 22 (by decide) (hts (.fieldLink RX7 152 "DriftLogModel" "high" "J") (by decide +kernel)) (fun _ h9 => h9) rfl dX7_note_158 ?_
              refine lv_lload_n hx hb dX7_note_161 rfl (lv_at hl 1 rfl) ?_
              refine lv_ldiv hx hb dX7_note_162 (lI_ne0 ⟨by omega, by omega⟩ (by omega)) ?_
              refine wz_topl (y := lI (hi.tdiv (gZ hi hB1))) (lI_div ⟨by omega, by omega⟩ ⟨by omega, by omega⟩ (by left; omega)) ?_
              refine wz_last (tys := TY cI cJ cT) hx hb hK hP hD hS 3 1 rfl rfl (by decide) (by constructor <;> omega) dX7_note_163 (fun H locs hP hD hS => ?_)
              have hP : va_P D vwCl [(hm, .inr (7, [.int (iI th), .ref rS, .ref rM, .ref rB, .ref rT, .ref rX, .ref rY, .ref rL, .int (iI sz1), .ref rR, .int (iI at1), .long (lI nu), .ref rt, .ref rx, .ref ry, .int (iI fo), .ref rF, .ref rG, .ref rU, .ref rV, .long (lI lo), .long (lI lB), .long (lI hi), .long (lI hB1)])), (rF, .inl (cJ, 20, .inr (.inl (zJ fF)))), (rG, .inl (cJ, 20, .inr (.inl (zJ fG)))), (rU, .inl (cJ, 20, .inr (.inl (zJ (uZ fU (fo - 1) (hi.tdiv (gZ hi hB1))))))), (rV, .inl (cJ, 20, .inr (.inl (zJ fV))))] H := hP
              have hD : va_D A [(hm, .inr (7, [.int (iI th), .ref rS, .ref rM, .ref rB, .ref rT, .ref rX, .ref rY, .ref rL, .int (iI sz1), .ref rR, .int (iI at1), .long (lI nu), .ref rt, .ref rx, .ref ry, .int (iI fo), .ref rF, .ref rG, .ref rU, .ref rV, .long (lI lo), .long (lI lB), .long (lI hi), .long (lI hB1)])), (rF, .inl (cJ, 20, .inr (.inl (zJ fF)))), (rG, .inl (cJ, 20, .inr (.inl (zJ fG)))), (rU, .inl (cJ, 20, .inr (.inl (zJ (uZ fU (fo - 1) (hi.tdiv (gZ hi hB1))))))), (rV, .inl (cJ, 20, .inr (.inl (zJ fV))))] := hD
              refine lv_aload_n hx hb dX7_note_164 rfl (lv_at hl 3 rfl) ?_
              refine va_get (D := D) (ci := 7) (v := .ref rV) (C := RX7) (T := TX7) (N := 24) hx hb hts hin7 hown hK hP 0 rfl rfl 19 (by decide) (hts (.fieldLink RX7 53 "DriftLogModel" "untilBy" "[J") (by decide +kernel)) (fun _ h9 => h9) rfl dX7_note_165 ?_
              refine lv_aload_n hx hb dX7_note_168 rfl (lv_at hl 3 rfl) ?_
              refine va_get (D := D) (ci := 7) (v := .int (iI fo)) (C := RX7) (T := TX7) (N := 24) hx hb hts hin7 hown hK hP 0 rfl rfl 15 (by decide) (hts (.fieldLink RX7 165 "DriftLogModel" "found" "I") (by decide +kernel)) (fun _ h9 => h9) rfl dX7_note_169 ?_
              refine lv_iconst (v := iI 1) hx hb dX7_note_172 rfl ?_
              refine wz_isub hx hb dX7_note_173 ?_
              refine lv_aload_n hx hb dX7_note_174 rfl (lv_at hl 3 rfl) ?_
              refine va_get (D := D) (ci := 7) (v := .long (lI hB1)) (C := RX7) (T := TX7) (N := 24) hx hb hts hin7 hown hK hP 0 rfl rfl 23 (by decide) (hts (.fieldLink RX7 155 "DriftLogModel" "highBy" "J") (by decide +kernel)) (fun _ h9 => h9) rfl dX7_note_175 ?_
              refine lv_lload_n hx hb dX7_note_178 rfl (lv_at hl 1 rfl) ?_
              refine lv_ldiv hx hb dX7_note_179 (lI_ne0 ⟨by omega, by omega⟩ (by omega)) ?_
              refine wz_topl (y := lI (hB1.tdiv (gZ hi hB1))) (lI_div ⟨by omega, by omega⟩ ⟨by omega, by omega⟩ (by left; omega)) ?_
              refine wz_last (tys := TY cI cJ cT) hx hb hK hP hD hS 4 1 rfl rfl (by decide) (by constructor <;> omega) dX7_note_180 (fun H locs hP hD hS => ?_)
              have hP : va_P D vwCl [(hm, .inr (7, [.int (iI th), .ref rS, .ref rM, .ref rB, .ref rT, .ref rX, .ref rY, .ref rL, .int (iI sz1), .ref rR, .int (iI at1), .long (lI nu), .ref rt, .ref rx, .ref ry, .int (iI fo), .ref rF, .ref rG, .ref rU, .ref rV, .long (lI lo), .long (lI lB), .long (lI hi), .long (lI hB1)])), (rF, .inl (cJ, 20, .inr (.inl (zJ fF)))), (rG, .inl (cJ, 20, .inr (.inl (zJ fG)))), (rU, .inl (cJ, 20, .inr (.inl (zJ (uZ fU (fo - 1) (hi.tdiv (gZ hi hB1))))))), (rV, .inl (cJ, 20, .inr (.inl (zJ (uZ fV (fo - 1) (hB1.tdiv (gZ hi hB1)))))))] H := hP
              have hD : va_D A [(hm, .inr (7, [.int (iI th), .ref rS, .ref rM, .ref rB, .ref rT, .ref rX, .ref rY, .ref rL, .int (iI sz1), .ref rR, .int (iI at1), .long (lI nu), .ref rt, .ref rx, .ref ry, .int (iI fo), .ref rF, .ref rG, .ref rU, .ref rV, .long (lI lo), .long (lI lB), .long (lI hi), .long (lI hB1)])), (rF, .inl (cJ, 20, .inr (.inl (zJ fF)))), (rG, .inl (cJ, 20, .inr (.inl (zJ fG)))), (rU, .inl (cJ, 20, .inr (.inl (zJ (uZ fU (fo - 1) (hi.tdiv (gZ hi hB1))))))), (rV, .inl (cJ, 20, .inr (.inl (zJ (uZ fV (fo - 1) (hB1.tdiv (gZ hi hB1)))))))] := hD
              rw [hQ]
              exact wz_retv (tys := TY cI cJ cT) (fo, fF, fG, (uZ fU (fo - 1) (hi.tdiv (gZ hi hB1))), (uZ fV (fo - 1) (hB1.tdiv (gZ hi hB1)))) hx hb hr hlocks hK hP hD hS (by (try dsimp only); exact (by unfold noteM; dsimp only; rw [loT_0, loT_1, loT_0, loT_1]; exact if_pos ⟨by omega, c60, c92⟩)) dX7_note_181
            · skip
              exact absurd c104 (by decide)
