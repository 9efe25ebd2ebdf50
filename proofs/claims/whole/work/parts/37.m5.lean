set_option maxHeartbeats 4000000 in
set_option maxRecDepth 100000 in
theorem k_X7_write (l : Launch) (D : va_G) (cI cJ cT : ClassId) (sz : Nat) (hm : Nat) (th : Int) (rS : Nat) (rM : Nat) (rB : Nat) (rT : Nat) (rX : Nat) (rY : Nat) (rL : Nat) (sz1 : Int) (rR : Nat) (at1 : Int) (nu : Int) (rt : Nat) (rx : Nat) (ry : Nat) (fo : Int) (rF : Nat) (rG : Nat) (rU : Nat) (rV : Nat) (lo : Int) (lB : Int) (hi : Int) (hB1 : Int) (fR : Int → Int) (v : Int) (h1 : 0 ≤ sz1 ∧ sz1 ≤ 295) (h2 : 0 ≤ v ∧ v ≤ 2147483647) : Met l yX7_write wsX7_write { frames := 0, cells := 0, slots := 0, locals := 0 } (zPc D (TY cI cJ cT) [.ref hm, .long (lI v)] [(hm, .inr (7, [.int (iI th), .ref rS, .ref rM, .ref rB, .ref rT, .ref rX, .ref rY, .ref rL, .int (iI sz1), .ref rR, .int (iI at1), .long (lI nu), .ref rt, .ref rx, .ref ry, .int (iI fo), .ref rF, .ref rG, .ref rU, .ref rV, .long (lI lo), .long (lI lB), .long (lI hi), .long (lI hB1)])), (rR, .inl (cI, 300, .inl (zA fR)))] sz) (zQv D (TY cI cJ cT) (va_A [(hm, .inr (7, [.int (iI th), .ref rS, .ref rM, .ref rB, .ref rT, .ref rX, .ref rY, .ref rL, .int (iI sz1), .ref rR, .int (iI at1), .long (lI nu), .ref rt, .ref rx, .ref ry, .int (iI fo), .ref rF, .ref rG, .ref rU, .ref rV, .long (lI lo), .long (lI lB), .long (lI hi), .long (lI hB1)])), (rR, .inl (cI, 300, .inl (zA fR)))] sz) (fun (u : (Int → Int) × Int) => wrN 4 fR sz1 v = (u.1, u.2)) (fun (u : (Int → Int) × Int) => [(hm, .inr (7, [.int (iI th), .ref rS, .ref rM, .ref rB, .ref rT, .ref rX, .ref rY, .ref rL, .int (iI u.2), .ref rR, .int (iI at1), .long (lI nu), .ref rt, .ref rx, .ref ry, .int (iI fo), .ref rF, .ref rG, .ref rU, .ref rV, .long (lI lo), .long (lI lB), .long (lI hi), .long (lI hB1)])), (rR, .inl (cI, 300, .inl (zA u.1)))])) 0 0 (va_A [(hm, .inr (7, [.int (iI th), .ref rS, .ref rM, .ref rB, .ref rT, .ref rX, .ref rY, .ref rL, .int (iI sz1), .ref rR, .int (iI at1), .long (lI nu), .ref rt, .ref rx, .ref ry, .int (iI fo), .ref rF, .ref rG, .ref rU, .ref rV, .long (lI lo), .long (lI lB), .long (lI hi), .long (lI hB1)])), (rR, .inl (cI, 300, .inl (zA fR)))] sz) := by
  refine zMv (cc := cX7_write) (maxL := 5) (ret := none) (by decide) rfl (Nat.le_of_ble_eq_true rfl) ?_
  intro p e s m below meth c A ls hE
  obtain ⟨hx, hb, hr, hts, hown, hlocks, hml, hnm, hP, hK, hD, hA, hS, hl⟩ := hE
  have hown : s.vm.findClass RX7 = some m.cls := hown
  have hl : lv_has ls 5 [(0, .ref hm), (1, .long (lI v))] := hl
  have hin7 : ∀ w ∈ wsX70, w ∈ wsX7_write := by decide +kernel
  obtain ⟨Q, hQ⟩ : ∃ Q, Q = MQ below (zQv D (TY cI cJ cT) A (fun (u : (Int → Int) × Int) => wrN 4 fR sz1 v = (u.1, u.2)) (fun (u : (Int → Int) × Int) => [(hm, .inr (7, [.int (iI th), .ref rS, .ref rM, .ref rB, .ref rT, .ref rX, .ref rY, .ref rL, .int (iI u.2), .ref rR, .int (iI at1), .long (lI nu), .ref rt, .ref rx, .ref ry, .int (iI fo), .ref rF, .ref rG, .ref rU, .ref rV, .long (lI lo), .long (lI lB), .long (lI hi), .long (lI hB1)])), (rR, .inl (cI, 300, .inl (zA u.1)))])) ([.ref hm, .long (lI v)] : List Value).toArray s 0 0 A := ⟨_, rfl⟩
  rw [← hQ]
  refine lv_lload_n hx hb dX7_write_0 rfl (lv_at hl 1 rfl) ?_
  refine lv_lstore_n (lv' := [(3, .long (lI v)), (0, .ref hm), (1, .long (lI v))]) hx hb dX7_write_1 rfl hl (by decide) rfl (fun ls hl => ?_)
  have LP2 : ∀ (N2 : Nat) (w : Int) (gR : Int → Int) (gn : Int) (H : Heap) (locs : List Loc) (ls : Array Slot), ((sz1 ≤ gn ∧ gn ≤ sz1 + 4) ∧ (0 ≤ w ∧ w ≤ 2147483647 ∧ (sz1 + 1 ≤ gn → w ≤ 16777215) ∧ (sz1 + 2 ≤ gn → w ≤ 131071) ∧ (sz1 + 3 ≤ gn → w ≤ 1023) ∧ (sz1 + 4 ≤ gn → w ≤ 7)) ∧ wrN 4 fR sz1 v = wrN (4 - (gn - sz1)).toNat gR gn w) → (w) < (N2 : Int) → va_P D vwCl [(hm, .inr (7, [.int (iI th), .ref rS, .ref rM, .ref rB, .ref rT, .ref rX, .ref rY, .ref rL, .int (iI gn), .ref rR, .int (iI at1), .long (lI nu), .ref rt, .ref rx, .ref ry, .int (iI fo), .ref rF, .ref rG, .ref rU, .ref rV, .long (lI lo), .long (lI lB), .long (lI hi), .long (lI hB1)])), (rR, .inl (cI, 300, .inl (zA gR)))] H → va_D A [(hm, .inr (7, [.int (iI th), .ref rS, .ref rM, .ref rB, .ref rT, .ref rX, .ref rY, .ref rL, .int (iI gn), .ref rR, .int (iI at1), .long (lI nu), .ref rt, .ref rx, .ref ry, .int (iI fo), .ref rF, .ref rG, .ref rU, .ref rV, .long (lI lo), .long (lI lB), .long (lI hi), .long (lI hB1)])), (rR, .inl (cI, 300, .inl (zA gR)))] → va_S A s.heap H locs → lv_has ls 5 [(0, .ref hm), (1, .long (lI v)), (3, .long (lI w))] → W p l e { frames := 0, cells := 0, slots := 0, locals := 0 } s m ([.ref hm, .long (lI v)] : List Value).toArray below meth c H locs 0 0 Q (F0 m 2 ls []) := by
    intro N2
    induction N2 with
    | zero =>
      intro w gR gn H locs ls hI hm
      obtain ⟨a1, a2, a4⟩ := hI
      exfalso; omega
    | succ N2 ih2 =>
      intro w gR gn H locs ls hI hm2 hP hD hS hl
      obtain ⟨a1, a2, a4⟩ := hI
      refine lv_lload_n hx hb dX7_write_2 rfl (lv_at hl 2 rfl) ?_
      refine lv_ldc2 (v := 127) hx hb hown (hts (.constantLong RX7 93 (127)) (by decide +kernel)) dX7_write_3 ?_
      refine wz_topl (show (127 : Int64) = lI 127 by decide) ?_
      refine W.lcmp hx hb dX7_write_6 ?_
      refine wz_lif_le (tgt := 47) hx hb dX7_write_7 (by decide) ⟨by omega, by omega⟩ (by decide) (fun c7 => ?_) (fun c7 => ?_)
      · skip
        refine lv_aload_n hx hb dX7_write_47 rfl (lv_at hl 0 rfl) ?_
        refine va_get (D := D) (ci := 7) (v := .ref rR) (C := RX7) (T := TX7) (N := 24) hx hb hts hin7 hown hK hP 0 rfl rfl 9 (by decide) (hts (.fieldLink RX7 31 "DriftLogModel" "row" "[I") (by decide +kernel)) (fun _ h9 => h9) rfl dX7_write_48 ?_
        refine lv_aload_n hx hb dX7_write_51 rfl (lv_at hl 0 rfl) ?_
        refine va_get (D := D) (ci := 7) (v := .int (iI gn)) (C := RX7) (T := TX7) (N := 24) hx hb hts hin7 hown hK hP 0 rfl rfl 8 (by decide) (hts (.fieldLink RX7 95 "DriftLogModel" "size" "I") (by decide +kernel)) (fun _ h9 => h9) rfl dX7_write_52 ?_
        refine lv_lload_n hx hb dX7_write_55 rfl (lv_at hl 2 rfl) ?_
        refine wz_l2i hx hb dX7_write_56 ?_
        refine wz_iast (tys := TY cI cJ cT) hx hb hK hP hD hS 1 0 rfl rfl (by decide) (by constructor <;> omega) dX7_write_57 (fun H locs hP hD hS => ?_)
        have hP : va_P D vwCl [(hm, .inr (7, [.int (iI th), .ref rS, .ref rM, .ref rB, .ref rT, .ref rX, .ref rY, .ref rL, .int (iI gn), .ref rR, .int (iI at1), .long (lI nu), .ref rt, .ref rx, .ref ry, .int (iI fo), .ref rF, .ref rG, .ref rU, .ref rV, .long (lI lo), .long (lI lB), .long (lI hi), .long (lI hB1)])), (rR, .inl (cI, 300, .inl (zA (uZ gR gn w))))] H := hP
        have hD : va_D A [(hm, .inr (7, [.int (iI th), .ref rS, .ref rM, .ref rB, .ref rT, .ref rX, .ref rY, .ref rL, .int (iI gn), .ref rR, .int (iI at1), .long (lI nu), .ref rt, .ref rx, .ref ry, .int (iI fo), .ref rF, .ref rG, .ref rU, .ref rV, .long (lI lo), .long (lI lB), .long (lI hi), .long (lI hB1)])), (rR, .inl (cI, 300, .inl (zA (uZ gR gn w))))] := hD
        refine lv_aload_n hx hb dX7_write_58 rfl (lv_at hl 0 rfl) ?_
        refine lv_dup hx hb dX7_write_59 rfl ?_
        refine va_get (D := D) (ci := 7) (v := .int (iI gn)) (C := RX7) (T := TX7) (N := 24) hx hb hts hin7 hown hK hP 0 rfl rfl 8 (by decide) (hts (.fieldLink RX7 95 "DriftLogModel" "size" "I") (by decide +kernel)) (fun _ h9 => h9) rfl dX7_write_60 ?_
        refine lv_iconst (v := iI 1) hx hb dX7_write_63 rfl ?_
        refine wz_iadd hx hb dX7_write_64 ?_
        refine va_put (D := D) (ci := 7) (v := .int (iI (gn + 1))) (ty := .int) (C := RX7) (T := TX7) (N := 24) hx hb hts hin7 tyX7 tyX7_ok nmX7 hown hK hP hD hS 0 rfl rfl 8 (by decide) (hts (.fieldLink RX7 95 "DriftLogModel" "size" "I") (by decide +kernel)) (fun _ h9 => h9) rfl (by decide +kernel) rfl rfl (Nat.le_of_ble_eq_true rfl) dX7_write_65 (fun H locs hP hD hS => ?_)
        have hP : va_P D vwCl [(hm, .inr (7, [.int (iI th), .ref rS, .ref rM, .ref rB, .ref rT, .ref rX, .ref rY, .ref rL, .int (iI (gn + 1)), .ref rR, .int (iI at1), .long (lI nu), .ref rt, .ref rx, .ref ry, .int (iI fo), .ref rF, .ref rG, .ref rU, .ref rV, .long (lI lo), .long (lI lB), .long (lI hi), .long (lI hB1)])), (rR, .inl (cI, 300, .inl (zA (uZ gR gn w))))] H := hP
        have hD : va_D A [(hm, .inr (7, [.int (iI th), .ref rS, .ref rM, .ref rB, .ref rT, .ref rX, .ref rY, .ref rL, .int (iI (gn + 1)), .ref rR, .int (iI at1), .long (lI nu), .ref rt, .ref rx, .ref ry, .int (iI fo), .ref rF, .ref rG, .ref rU, .ref rV, .long (lI lo), .long (lI lB), .long (lI hi), .long (lI hB1)])), (rR, .inl (cI, 300, .inl (zA (uZ gR gn w))))] := hD
        rw [hQ]
        exact wz_retv (tys := TY cI cJ cT) ((uZ gR gn w), (gn + 1)) hx hb hr hlocks hK hP hD hS (by (try dsimp only); exact (by rw [a4]; exact wrN_s c7)) dX7_write_68
      · skip
        refine lv_aload_n hx hb dX7_write_10 rfl (lv_at hl 0 rfl) ?_
        refine va_get (D := D) (ci := 7) (v := .ref rR) (C := RX7) (T := TX7) (N := 24) hx hb hts hin7 hown hK hP 0 rfl rfl 9 (by decide) (hts (.fieldLink RX7 31 "DriftLogModel" "row" "[I") (by decide +kernel)) (fun _ h9 => h9) rfl dX7_write_11 ?_
        refine lv_aload_n hx hb dX7_write_14 rfl (lv_at hl 0 rfl) ?_
        refine va_get (D := D) (ci := 7) (v := .int (iI gn)) (C := RX7) (T := TX7) (N := 24) hx hb hts hin7 hown hK hP 0 rfl rfl 8 (by decide) (hts (.fieldLink RX7 95 "DriftLogModel" "size" "I") (by decide +kernel)) (fun _ h9 => h9) rfl dX7_write_15 ?_
        refine lv_lload_n hx hb dX7_write_18 rfl (lv_at hl 2 rfl) ?_
        refine lv_ldc2 (v := 127) hx hb hown (hts (.constantLong RX7 93 (127)) (by decide +kernel)) dX7_write_19 ?_
        refine wz_topl (show (127 : Int64) = lI 127 by decide) ?_
        refine lv_land hx hb dX7_write_22 ?_
        refine wz_topl (y := lI (w % 128)) (lI_and127 (by omega) (by omega)) ?_
        refine wz_l2i hx hb dX7_write_23 ?_
        refine lv_sipush (v := iI 128) hx hb dX7_write_24 (by decide) ?_
        refine wz_iadd hx hb dX7_write_27 ?_
        refine wz_iast (tys := TY cI cJ cT) hx hb hK hP hD hS 1 0 rfl rfl (by decide) (by constructor <;> omega) dX7_write_28 (fun H locs hP hD hS => ?_)
        have hP : va_P D vwCl [(hm, .inr (7, [.int (iI th), .ref rS, .ref rM, .ref rB, .ref rT, .ref rX, .ref rY, .ref rL, .int (iI gn), .ref rR, .int (iI at1), .long (lI nu), .ref rt, .ref rx, .ref ry, .int (iI fo), .ref rF, .ref rG, .ref rU, .ref rV, .long (lI lo), .long (lI lB), .long (lI hi), .long (lI hB1)])), (rR, .inl (cI, 300, .inl (zA (uZ gR gn ((w % 128) + 128)))))] H := hP
        have hD : va_D A [(hm, .inr (7, [.int (iI th), .ref rS, .ref rM, .ref rB, .ref rT, .ref rX, .ref rY, .ref rL, .int (iI gn), .ref rR, .int (iI at1), .long (lI nu), .ref rt, .ref rx, .ref ry, .int (iI fo), .ref rF, .ref rG, .ref rU, .ref rV, .long (lI lo), .long (lI lB), .long (lI hi), .long (lI hB1)])), (rR, .inl (cI, 300, .inl (zA (uZ gR gn ((w % 128) + 128)))))] := hD
        refine lv_aload_n hx hb dX7_write_29 rfl (lv_at hl 0 rfl) ?_
        refine lv_dup hx hb dX7_write_30 rfl ?_
        refine va_get (D := D) (ci := 7) (v := .int (iI gn)) (C := RX7) (T := TX7) (N := 24) hx hb hts hin7 hown hK hP 0 rfl rfl 8 (by decide) (hts (.fieldLink RX7 95 "DriftLogModel" "size" "I") (by decide +kernel)) (fun _ h9 => h9) rfl dX7_write_31 ?_
        refine lv_iconst (v := iI 1) hx hb dX7_write_34 rfl ?_
        refine wz_iadd hx hb dX7_write_35 ?_
        refine va_put (D := D) (ci := 7) (v := .int (iI (gn + 1))) (ty := .int) (C := RX7) (T := TX7) (N := 24) hx hb hts hin7 tyX7 tyX7_ok nmX7 hown hK hP hD hS 0 rfl rfl 8 (by decide) (hts (.fieldLink RX7 95 "DriftLogModel" "size" "I") (by decide +kernel)) (fun _ h9 => h9) rfl (by decide +kernel) rfl rfl (Nat.le_of_ble_eq_true rfl) dX7_write_36 (fun H locs hP hD hS => ?_)
        have hP : va_P D vwCl [(hm, .inr (7, [.int (iI th), .ref rS, .ref rM, .ref rB, .ref rT, .ref rX, .ref rY, .ref rL, .int (iI (gn + 1)), .ref rR, .int (iI at1), .long (lI nu), .ref rt, .ref rx, .ref ry, .int (iI fo), .ref rF, .ref rG, .ref rU, .ref rV, .long (lI lo), .long (lI lB), .long (lI hi), .long (lI hB1)])), (rR, .inl (cI, 300, .inl (zA (uZ gR gn ((w % 128) + 128)))))] H := hP
        have hD : va_D A [(hm, .inr (7, [.int (iI th), .ref rS, .ref rM, .ref rB, .ref rT, .ref rX, .ref rY, .ref rL, .int (iI (gn + 1)), .ref rR, .int (iI at1), .long (lI nu), .ref rt, .ref rx, .ref ry, .int (iI fo), .ref rF, .ref rG, .ref rU, .ref rV, .long (lI lo), .long (lI lB), .long (lI hi), .long (lI hB1)])), (rR, .inl (cI, 300, .inl (zA (uZ gR gn ((w % 128) + 128)))))] := hD
        refine lv_lload_n hx hb dX7_write_39 rfl (lv_at hl 2 rfl) ?_
        refine lv_bipush (v := iI 7) hx hb dX7_write_40 (by decide) ?_
        refine lv_lshr hx hb dX7_write_42 rfl ?_
        refine wz_topl (y := lI (w / 128)) (lI_shr7 ⟨by omega, by omega⟩) ?_
        refine lv_lstore_n (lv' := [(3, .long (lI (w / 128))), (0, .ref hm), (1, .long (lI v))]) hx hb dX7_write_43 rfl hl (by decide) rfl (fun ls hl => ?_)
        refine lv_goto (tgt := 2) hx hb dX7_write_44 (by decide) ?_
        exact ih2 (w / 128) (uZ gR gn ((w % 128) + 128)) (gn + 1) _ _ _ ⟨(by omega), (by omega), (by rw [a4, show (4 - (gn - sz1)).toNat = (4 - (gn + 1 - sz1)).toNat + 1 by omega, wrN_b c7])⟩ (by omega) hP hD hS (lv_sub hl [1, 2, 0] rfl)
  exact LP2 (Int.toNat (v) + 1) v fR sz1 _ _ _ ⟨(by omega), (by omega), (by rw [show (4 - (sz1 - sz1)).toNat = 4 by omega])⟩ (by omega) hP hD hS (lv_sub hl [1, 2, 0] rfl)
set_option maxHeartbeats 4000000 in
set_option maxRecDepth 100000 in
theorem k_X7_turned (l : Launch) (D : va_G) (cI cJ cT : ClassId) (sz : Nat) (v : Int) (h1 : -4611686018427387904 ≤ v ∧ v ≤ 4611686018427387903) : Met l yX7_turned wsX7_turned { frames := 0, cells := 0, slots := 0, locals := 0 } (zPc D (TY cI cJ cT) [.long (lI v)] [] sz) (zQl D (TY cI cJ cT) (va_A [] sz) (fun (z : Int) (u : Unit) => z = (foldZ v)) (fun (u : Unit) => [])) 0 0 (va_A [] sz) := by
  refine zMl (cc := cX7_turned) (maxL := 2) (ret := (some .long)) (by decide) rfl (Nat.le_of_ble_eq_true rfl) ?_
  intro p e s m below meth c A ls hE
  obtain ⟨hx, hb, hr, hts, hown, hlocks, hml, hnm, hP, hK, hD, hA, hS, hl⟩ := hE
  have hown : s.vm.findClass RX7 = some m.cls := hown
  have hl : lv_has ls 2 [(0, .long (lI v))] := hl
  obtain ⟨Q, hQ⟩ : ∃ Q, Q = MQ below (zQl D (TY cI cJ cT) A (fun (z : Int) (u : Unit) => z = (foldZ v)) (fun (u : Unit) => [])) ([.long (lI v)] : List Value).toArray s 0 0 A := ⟨_, rfl⟩
  rw [← hQ]
  refine lv_lload_n hx hb dX7_turned_0 rfl (lv_at hl 0 rfl) ?_
  refine lv_lconst (v := lI 0) hx hb dX7_turned_1 (by decide) ?_
  refine W.lcmp hx hb dX7_turned_2 ?_
  refine wz_lif_ge (tgt := 16) hx hb dX7_turned_3 (by decide) ⟨by omega, by omega⟩ (by decide) (fun c3 => ?_) (fun c3 => ?_)
  · skip
    refine lv_ldc2 (v := 2) hx hb hown (hts (.constantLong RX7 100 (2)) (by decide +kernel)) dX7_turned_16 ?_
    refine wz_topl (show (2 : Int64) = lI 2 by decide) ?_
    refine lv_lload_n hx hb dX7_turned_19 rfl (lv_at hl 0 rfl) ?_
    refine wz_lmul hx hb dX7_turned_20 ?_
    rw [hQ]
    exact wz_retl (tys := TY cI cJ cT) () hx hb hr hlocks hK hP hD hS (by unfold foldZ; first | (rw [if_pos c3]; omega) | (rw [if_neg (by omega)])) dX7_turned_21
  · skip
    refine lv_ldc2 (v := (-2)) hx hb hown (hts (.constantLong RX7 98 (-2)) (by decide +kernel)) dX7_turned_6 ?_
    refine wz_topl (show ((-2) : Int64) = lI (-2) by decide) ?_
    refine lv_lload_n hx hb dX7_turned_9 rfl (lv_at hl 0 rfl) ?_
    refine wz_lmul hx hb dX7_turned_10 ?_
    refine lv_lconst (v := lI 1) hx hb dX7_turned_11 (by decide) ?_
    refine wz_lsub hx hb dX7_turned_12 ?_
    refine lv_goto (tgt := 21) hx hb dX7_turned_13 (by decide) ?_
    rw [hQ]
    exact wz_retl (tys := TY cI cJ cT) () hx hb hr hlocks hK hP hD hS (by unfold foldZ; first | (rw [if_pos c3]; omega) | (rw [if_neg (by omega)])) dX7_turned_21
set_option maxHeartbeats 4000000 in
set_option maxRecDepth 100000 in
theorem k_X7_pack (l : Launch) (D : va_G) (cI cJ cT : ClassId) (sz : Nat) (hm : Nat) (th : Int) (rS : Nat) (rM : Nat) (rB : Nat) (rT : Nat) (rX : Nat) (rY : Nat) (rL : Nat) (sz1 : Int) (rR : Nat) (at1 : Int) (nu : Int) (rt : Nat) (rx : Nat) (ry : Nat) (fo : Int) (rF : Nat) (rG : Nat) (rU : Nat) (rV : Nat) (lo : Int) (lB : Int) (hi : Int) (hB1 : Int) (fS : Int → Int) (fM : Int → Int) (fT : Int → Int) (fX : Int → Int) (fY : Int → Int) (fR : Int → Int) (a : Int) (hS1 : ∀ i, 0 ≤ fS i ∧ fS i ≤ 2) (hM1 : ∀ i, 0 ≤ fM i ∧ fM i ≤ 20) (hM2 : ∀ i, fS i = 2 → 1 ≤ fM i) (ht : okT fT) (hx1 : okC fX) (hy1 : okC fY) (hinc : ∀ i, 0 ≤ i → i < 4 → fS i = 2 → incP (fM i) (sh fT (20 * i))) (hBb : okB fR) (ha : rI a) : Met l yX7_pack wsX7_pack { frames := 2, cells := 0, slots := 0, locals := 42 } (zPc D (TY cI cJ cT) [.ref hm, .int (iI a)] [(hm, .inr (7, [.int (iI th), .ref rS, .ref rM, .ref rB, .ref rT, .ref rX, .ref rY, .ref rL, .int (iI sz1), .ref rR, .int (iI at1), .long (lI nu), .ref rt, .ref rx, .ref ry, .int (iI fo), .ref rF, .ref rG, .ref rU, .ref rV, .long (lI lo), .long (lI lB), .long (lI hi), .long (lI hB1)])), (rS, .inl (cI, 4, .inl (zA fS))), (rM, .inl (cI, 4, .inl (zA fM))), (rT, .inl (cI, 80, .inl (zA fT))), (rX, .inl (cI, 80, .inl (zA fX))), (rY, .inl (cI, 80, .inl (zA fY))), (rR, .inl (cI, 300, .inl (zA fR)))] sz) (zQi D (TY cI cJ cT) (va_A [(hm, .inr (7, [.int (iI th), .ref rS, .ref rM, .ref rB, .ref rT, .ref rX, .ref rY, .ref rL, .int (iI sz1), .ref rR, .int (iI at1), .long (lI nu), .ref rt, .ref rx, .ref ry, .int (iI fo), .ref rF, .ref rG, .ref rU, .ref rV, .long (lI lo), .long (lI lB), .long (lI hi), .long (lI hB1)])), (rS, .inl (cI, 4, .inl (zA fS))), (rM, .inl (cI, 4, .inl (zA fM))), (rT, .inl (cI, 80, .inl (zA fT))), (rX, .inl (cI, 80, .inl (zA fX))), (rY, .inl (cI, 80, .inl (zA fY))), (rR, .inl (cI, 300, .inl (zA fR)))] sz) (fun (z : Int) (u : Int × (Int → Int) × Int) => (¬ (0 ≤ a ∧ a < 4) → u.1 = 1 ∧ u.2.1 = fR ∧ u.2.2 = sz1) ∧ ((0 ≤ a ∧ a < 4) → fS a ≠ 2 → u.1 = 2 ∧ u.2.1 = fR ∧ u.2.2 = sz1) ∧ ((0 ≤ a ∧ a < 4) → fS a = 2 → u.1 = 0 ∧ z = u.2.2 ∧ pkR (sh fT (20 * a)) (sh fX (20 * a)) (sh fY (20 * a)) (Int.toNat (fM a)) (wrN 4 fR 0 (fM a)) = (u.2.1, u.2.2) ∧ 1 ≤ u.2.2 ∧ u.2.2 ≤ 261 ∧ okB (u.2.1))) (fun (u : Int × (Int → Int) × Int) => [(hm, .inr (7, [.int (iI u.1), .ref rS, .ref rM, .ref rB, .ref rT, .ref rX, .ref rY, .ref rL, .int (iI u.2.2), .ref rR, .int (iI at1), .long (lI nu), .ref rt, .ref rx, .ref ry, .int (iI fo), .ref rF, .ref rG, .ref rU, .ref rV, .long (lI lo), .long (lI lB), .long (lI hi), .long (lI hB1)])), (rS, .inl (cI, 4, .inl (zA fS))), (rM, .inl (cI, 4, .inl (zA fM))), (rT, .inl (cI, 80, .inl (zA fT))), (rX, .inl (cI, 80, .inl (zA fX))), (rY, .inl (cI, 80, .inl (zA fY))), (rR, .inl (cI, 300, .inl (zA u.2.1)))])) 0 0 (va_A [(hm, .inr (7, [.int (iI th), .ref rS, .ref rM, .ref rB, .ref rT, .ref rX, .ref rY, .ref rL, .int (iI sz1), .ref rR, .int (iI at1), .long (lI nu), .ref rt, .ref rx, .ref ry, .int (iI fo), .ref rF, .ref rG, .ref rU, .ref rV, .long (lI lo), .long (lI lB), .long (lI hi), .long (lI hB1)])), (rS, .inl (cI, 4, .inl (zA fS))), (rM, .inl (cI, 4, .inl (zA fM))), (rT, .inl (cI, 80, .inl (zA fT))), (rX, .inl (cI, 80, .inl (zA fX))), (rY, .inl (cI, 80, .inl (zA fY))), (rR, .inl (cI, 300, .inl (zA fR)))] sz) := by
  refine zMi (cc := cX7_pack) (maxL := 4) (ret := (some .int)) (by decide) rfl (Nat.le_of_ble_eq_true rfl) ?_
  intro p e s m below meth c A ls hE
  obtain ⟨hx, hb, hr, hts, hown, hlocks, hml, hnm, hP, hK, hD, hA, hS, hl⟩ := hE
  have hown : s.vm.findClass RX7 = some m.cls := hown
  have hl : lv_has ls 4 [(0, .ref hm), (1, .int (iI a))] := hl
  have hin7 : ∀ w ∈ wsX70, w ∈ wsX7_pack := by decide +kernel
  obtain ⟨Q, hQ⟩ : ∃ Q, Q = MQ below (zQi D (TY cI cJ cT) A (fun (z : Int) (u : Int × (Int → Int) × Int) => (¬ (0 ≤ a ∧ a < 4) → u.1 = 1 ∧ u.2.1 = fR ∧ u.2.2 = sz1) ∧ ((0 ≤ a ∧ a < 4) → fS a ≠ 2 → u.1 = 2 ∧ u.2.1 = fR ∧ u.2.2 = sz1) ∧ ((0 ≤ a ∧ a < 4) → fS a = 2 → u.1 = 0 ∧ z = u.2.2 ∧ pkR (sh fT (20 * a)) (sh fX (20 * a)) (sh fY (20 * a)) (Int.toNat (fM a)) (wrN 4 fR 0 (fM a)) = (u.2.1, u.2.2) ∧ 1 ≤ u.2.2 ∧ u.2.2 ≤ 261 ∧ okB (u.2.1))) (fun (u : Int × (Int → Int) × Int) => [(hm, .inr (7, [.int (iI u.1), .ref rS, .ref rM, .ref rB, .ref rT, .ref rX, .ref rY, .ref rL, .int (iI u.2.2), .ref rR, .int (iI at1), .long (lI nu), .ref rt, .ref rx, .ref ry, .int (iI fo), .ref rF, .ref rG, .ref rU, .ref rV, .long (lI lo), .long (lI lB), .long (lI hi), .long (lI hB1)])), (rS, .inl (cI, 4, .inl (zA fS))), (rM, .inl (cI, 4, .inl (zA fM))), (rT, .inl (cI, 80, .inl (zA fT))), (rX, .inl (cI, 80, .inl (zA fX))), (rY, .inl (cI, 80, .inl (zA fY))), (rR, .inl (cI, 300, .inl (zA u.2.1)))])) ([.ref hm, .int (iI a)] : List Value).toArray s 0 0 A := ⟨_, rfl⟩
  rw [← hQ]
  refine lv_aload_n hx hb dX7_pack_0 rfl (lv_at hl 0 rfl) ?_
  refine lv_iload_n hx hb dX7_pack_1 rfl (lv_at hl 1 rfl) ?_
  refine wz_calli (wr := [(hm, .inr (7, [.int (iI th), .ref rS, .ref rM, .ref rB, .ref rT, .ref rX, .ref rY, .ref rL, .int (iI sz1), .ref rR, .int (iI at1), .long (lI nu), .ref rt, .ref rx, .ref ry, .int (iI fo), .ref rF, .ref rG, .ref rU, .ref rV, .long (lI lo), .long (lI lB), .long (lI hi), .long (lI hB1)])), (rS, .inl (cI, 4, .inl (zA fS))), (rM, .inl (cI, 4, .inl (zA fM))), (rT, .inl (cI, 80, .inl (zA fT))), (rX, .inl (cI, 80, .inl (zA fX))), (rY, .inl (cI, 80, .inl (zA fY))), (rR, .inl (cI, 300, .inl (zA fR)))]) (va_runS (As := [.int (iI a)]) (rest := [.ref hm]) ⟨hx, hb, hml, hown, hts⟩ (k_X7_isTrack l D cI cJ cT s.heap.size a (ha)) (va_cwS 1 hts gX7_pack_X7_isTrack rfl rfl rfl (by decide +kernel) ⟨Nat.le_of_ble_eq_true rfl, Nat.le_of_ble_eq_true rfl⟩) (wz_preS hK hP hD [] (by decide) rfl rfl) rfl rfl hl.1 rfl (lv_room (Nat.le_of_ble_eq_true rfl)) dX7_pack_2 ⟨Nat.le_of_ble_eq_true rfl, Nat.le_of_ble_eq_true rfl⟩) hP hD hS hA [] [0, 1, 2, 3, 4, 5, 6] rfl rfl rfl (by decide) (fun z2 u H locs hw2 hP hD hS => ?_)
  have hP : va_P D vwCl [(hm, .inr (7, [.int (iI th), .ref rS, .ref rM, .ref rB, .ref rT, .ref rX, .ref rY, .ref rL, .int (iI sz1), .ref rR, .int (iI at1), .long (lI nu), .ref rt, .ref rx, .ref ry, .int (iI fo), .ref rF, .ref rG, .ref rU, .ref rV, .long (lI lo), .long (lI lB), .long (lI hi), .long (lI hB1)])), (rS, .inl (cI, 4, .inl (zA fS))), (rM, .inl (cI, 4, .inl (zA fM))), (rT, .inl (cI, 80, .inl (zA fT))), (rX, .inl (cI, 80, .inl (zA fX))), (rY, .inl (cI, 80, .inl (zA fY))), (rR, .inl (cI, 300, .inl (zA fR)))] H := hP.sub [0, 1, 2, 3, 4, 5, 6] rfl
  have hD : va_D A [(hm, .inr (7, [.int (iI th), .ref rS, .ref rM, .ref rB, .ref rT, .ref rX, .ref rY, .ref rL, .int (iI sz1), .ref rR, .int (iI at1), .long (lI nu), .ref rt, .ref rx, .ref ry, .int (iI fo), .ref rF, .ref rG, .ref rU, .ref rV, .long (lI lo), .long (lI lB), .long (lI hi), .long (lI hB1)])), (rS, .inl (cI, 4, .inl (zA fS))), (rM, .inl (cI, 4, .inl (zA fM))), (rT, .inl (cI, 80, .inl (zA fT))), (rX, .inl (cI, 80, .inl (zA fX))), (rY, .inl (cI, 80, .inl (zA fY))), (rR, .inl (cI, 300, .inl (zA fR)))] := hD.sub [0, 1, 2, 3, 4, 5, 6] (by decide) rfl
  subst hw2
  refine wz_ifb_ne (tgt := 12) hx hb dX7_pack_5 (by decide) (fun c5 => ?_) (fun c5 => ?_)
  · skip
    refine lv_aload_n hx hb dX7_pack_12 rfl (lv_at hl 0 rfl) ?_
    refine lv_iload_n hx hb dX7_pack_13 rfl (lv_at hl 1 rfl) ?_
    refine lv_iconst (v := iI 2) hx hb dX7_pack_14 rfl ?_
    refine wz_calli (wr := [(rM, .inl (cI, 4, .inl (zA fM))), (rT, .inl (cI, 80, .inl (zA fT))), (rX, .inl (cI, 80, .inl (zA fX))), (rY, .inl (cI, 80, .inl (zA fY))), (rR, .inl (cI, 300, .inl (zA fR)))]) (va_runV (As := [.int (iI a), .int (iI 2)]) (rest := [.ref hm]) ⟨hx, hb, hml, hown, hts⟩ (k_X7_is l D cI cJ cT H.size hm th rS rM rB rT rX rY rL sz1 rR at1 nu rt rx ry fo rF rG rU rV lo lB hi hB1 fS a 2 (c5) (by decide) (hS1)) (cwV 2 hts gX7_pack_X7_is rfl rfl rfl (by decide +kernel) ⟨Nat.le_of_ble_eq_true rfl, Nat.le_of_ble_eq_true rfl⟩) (wz_preV hK hP hD [0, 1] (by decide) rfl rfl 7 0 rfl rfl) rfl rfl hl.1 rfl (lv_room (Nat.le_of_ble_eq_true rfl)) dX7_pack_15 ⟨Nat.le_of_ble_eq_true rfl, Nat.le_of_ble_eq_true rfl⟩) hP hD hS hA [0, 1] [2, 3, 4, 5, 6] rfl rfl rfl (by decide) (fun z15 u H locs hw15 hP hD hS => ?_)
    have hP : va_P D vwCl [(hm, .inr (7, [.int (iI th), .ref rS, .ref rM, .ref rB, .ref rT, .ref rX, .ref rY, .ref rL, .int (iI sz1), .ref rR, .int (iI at1), .long (lI nu), .ref rt, .ref rx, .ref ry, .int (iI fo), .ref rF, .ref rG, .ref rU, .ref rV, .long (lI lo), .long (lI lB), .long (lI hi), .long (lI hB1)])), (rS, .inl (cI, 4, .inl (zA fS))), (rM, .inl (cI, 4, .inl (zA fM))), (rT, .inl (cI, 80, .inl (zA fT))), (rX, .inl (cI, 80, .inl (zA fX))), (rY, .inl (cI, 80, .inl (zA fY))), (rR, .inl (cI, 300, .inl (zA fR)))] H := hP.sub [5, 6, 0, 1, 2, 3, 4] rfl
    have hD : va_D A [(hm, .inr (7, [.int (iI th), .ref rS, .ref rM, .ref rB, .ref rT, .ref rX, .ref rY, .ref rL, .int (iI sz1), .ref rR, .int (iI at1), .long (lI nu), .ref rt, .ref rx, .ref ry, .int (iI fo), .ref rF, .ref rG, .ref rU, .ref rV, .long (lI lo), .long (lI lB), .long (lI hi), .long (lI hB1)])), (rS, .inl (cI, 4, .inl (zA fS))), (rM, .inl (cI, 4, .inl (zA fM))), (rT, .inl (cI, 80, .inl (zA fT))), (rX, .inl (cI, 80, .inl (zA fX))), (rY, .inl (cI, 80, .inl (zA fY))), (rR, .inl (cI, 300, .inl (zA fR)))] := hD.sub [5, 6, 0, 1, 2, 3, 4] (by decide) rfl
    subst hw15
    refine wz_ifb_ne (tgt := 25) hx hb dX7_pack_18 (by decide) (fun c18 => ?_) (fun c18 => ?_)
    · skip
      refine lv_iconst (v := iI 0) hx hb dX7_pack_25 rfl ?_
      refine va_put (D := D) (ci := 7) (v := .int (iI 0)) (ty := .int) (C := RX7) (T := TX7) (N := 24) hx hb hts hin7 tyX7 tyX7_ok nmX7 hown hK hP hD hS 0 rfl rfl 0 (by decide) (hts (.fieldLink RX7 56 "DriftLogModel" "thrown" "I") (by decide +kernel)) (fun _ h9 => h9) rfl (by decide +kernel) rfl rfl (Nat.le_of_ble_eq_true rfl) dX7_pack_26 (fun H locs hP hD hS => ?_)
      have hP : va_P D vwCl [(hm, .inr (7, [.int (iI 0), .ref rS, .ref rM, .ref rB, .ref rT, .ref rX, .ref rY, .ref rL, .int (iI sz1), .ref rR, .int (iI at1), .long (lI nu), .ref rt, .ref rx, .ref ry, .int (iI fo), .ref rF, .ref rG, .ref rU, .ref rV, .long (lI lo), .long (lI lB), .long (lI hi), .long (lI hB1)])), (rS, .inl (cI, 4, .inl (zA fS))), (rM, .inl (cI, 4, .inl (zA fM))), (rT, .inl (cI, 80, .inl (zA fT))), (rX, .inl (cI, 80, .inl (zA fX))), (rY, .inl (cI, 80, .inl (zA fY))), (rR, .inl (cI, 300, .inl (zA fR)))] H := hP
      have hD : va_D A [(hm, .inr (7, [.int (iI 0), .ref rS, .ref rM, .ref rB, .ref rT, .ref rX, .ref rY, .ref rL, .int (iI sz1), .ref rR, .int (iI at1), .long (lI nu), .ref rt, .ref rx, .ref ry, .int (iI fo), .ref rF, .ref rG, .ref rU, .ref rV, .long (lI lo), .long (lI lB), .long (lI hi), .long (lI hB1)])), (rS, .inl (cI, 4, .inl (zA fS))), (rM, .inl (cI, 4, .inl (zA fM))), (rT, .inl (cI, 80, .inl (zA fT))), (rX, .inl (cI, 80, .inl (zA fX))), (rY, .inl (cI, 80, .inl (zA fY))), (rR, .inl (cI, 300, .inl (zA fR)))] := hD
      refine lv_aload_n hx hb dX7_pack_29 rfl (lv_at hl 0 rfl) ?_
      refine va_get (D := D) (ci := 7) (v := .int (iI 0)) (C := RX7) (T := TX7) (N := 24) hx hb hts hin7 hown hK hP 0 rfl rfl 0 (by decide) (hts (.fieldLink RX7 56 "DriftLogModel" "thrown" "I") (by decide +kernel)) (fun _ h9 => h9) rfl dX7_pack_30 ?_
      refine wz_if_le (tgt := 38) hx hb dX7_pack_33 (by decide) (by decide) (fun c33 => ?_) (fun c33 => ?_)
      · skip
        refine lv_aload_n hx hb dX7_pack_38 rfl (lv_at hl 0 rfl) ?_
        refine lv_iconst (v := iI 0) hx hb dX7_pack_39 rfl ?_
        refine va_put (D := D) (ci := 7) (v := .int (iI 0)) (ty := .int) (C := RX7) (T := TX7) (N := 24) hx hb hts hin7 tyX7 tyX7_ok nmX7 hown hK hP hD hS 0 rfl rfl 8 (by decide) (hts (.fieldLink RX7 95 "DriftLogModel" "size" "I") (by decide +kernel)) (fun _ h9 => h9) rfl (by decide +kernel) rfl rfl (Nat.le_of_ble_eq_true rfl) dX7_pack_40 (fun H locs hP hD hS => ?_)
        have hP : va_P D vwCl [(hm, .inr (7, [.int (iI 0), .ref rS, .ref rM, .ref rB, .ref rT, .ref rX, .ref rY, .ref rL, .int (iI 0), .ref rR, .int (iI at1), .long (lI nu), .ref rt, .ref rx, .ref ry, .int (iI fo), .ref rF, .ref rG, .ref rU, .ref rV, .long (lI lo), .long (lI lB), .long (lI hi), .long (lI hB1)])), (rS, .inl (cI, 4, .inl (zA fS))), (rM, .inl (cI, 4, .inl (zA fM))), (rT, .inl (cI, 80, .inl (zA fT))), (rX, .inl (cI, 80, .inl (zA fX))), (rY, .inl (cI, 80, .inl (zA fY))), (rR, .inl (cI, 300, .inl (zA fR)))] H := hP
        have hD : va_D A [(hm, .inr (7, [.int (iI 0), .ref rS, .ref rM, .ref rB, .ref rT, .ref rX, .ref rY, .ref rL, .int (iI 0), .ref rR, .int (iI at1), .long (lI nu), .ref rt, .ref rx, .ref ry, .int (iI fo), .ref rF, .ref rG, .ref rU, .ref rV, .long (lI lo), .long (lI lB), .long (lI hi), .long (lI hB1)])), (rS, .inl (cI, 4, .inl (zA fS))), (rM, .inl (cI, 4, .inl (zA fM))), (rT, .inl (cI, 80, .inl (zA fT))), (rX, .inl (cI, 80, .inl (zA fX))), (rY, .inl (cI, 80, .inl (zA fY))), (rR, .inl (cI, 300, .inl (zA fR)))] := hD
        have rMa := hM1 a
        have rM1 := hM2 a c18
        have hinc1 := hinc a c5.1 c5.2 c18
        refine lv_aload_n hx hb dX7_pack_43 rfl (lv_at hl 0 rfl) ?_
        refine lv_aload_n hx hb dX7_pack_44 rfl (lv_at hl 0 rfl) ?_
        refine va_get (D := D) (ci := 7) (v := .ref rM) (C := RX7) (T := TX7) (N := 24) hx hb hts hin7 hown hK hP 0 rfl rfl 2 (by decide) (hts (.fieldLink RX7 13 "DriftLogModel" "many" "[I") (by decide +kernel)) (fun _ h9 => h9) rfl dX7_pack_45 ?_
        refine lv_iload_n hx hb dX7_pack_48 rfl (lv_at hl 1 rfl) ?_
        refine wz_iald (tys := TY cI cJ cT) hx hb hK hP 2 0 rfl rfl (by decide) (by constructor <;> omega) dX7_pack_49 ?_
        refine wz_i2l hx hb dX7_pack_50 ⟨by omega, by omega⟩ ?_
        refine wz_callv (wr := [(rS, .inl (cI, 4, .inl (zA fS))), (rM, .inl (cI, 4, .inl (zA fM))), (rT, .inl (cI, 80, .inl (zA fT))), (rX, .inl (cI, 80, .inl (zA fX))), (rY, .inl (cI, 80, .inl (zA fY)))]) (va_runV (As := [.long (lI (fM a))]) (rest := []) ⟨hx, hb, hml, hown, hts⟩ (k_X7_write l D cI cJ cT H.size hm 0 rS rM rB rT rX rY rL 0 rR at1 nu rt rx ry fo rF rG rU rV lo lB hi hB1 fR (fM a) (by decide) (by constructor <;> omega)) (cwV 1 hts gX7_pack_X7_write rfl rfl rfl (by decide +kernel) ⟨Nat.le_of_ble_eq_true rfl, Nat.le_of_ble_eq_true rfl⟩) (wz_preV hK hP hD [0, 6] (by decide) rfl rfl 7 0 rfl rfl) rfl rfl hl.1 rfl (lv_room (Nat.le_of_ble_eq_true rfl)) dX7_pack_51 ⟨Nat.le_of_ble_eq_true rfl, Nat.le_of_ble_eq_true rfl⟩) hP hD hS hA [0, 6] [1, 2, 3, 4, 5] rfl rfl rfl (by decide) (fun  u H locs hw51 hP hD hS => ?_)
        obtain ⟨b0, n0⟩ := u
        try dsimp only at hw51
        have hP : va_P D vwCl [(hm, .inr (7, [.int (iI 0), .ref rS, .ref rM, .ref rB, .ref rT, .ref rX, .ref rY, .ref rL, .int (iI n0), .ref rR, .int (iI at1), .long (lI nu), .ref rt, .ref rx, .ref ry, .int (iI fo), .ref rF, .ref rG, .ref rU, .ref rV, .long (lI lo), .long (lI lB), .long (lI hi), .long (lI hB1)])), (rS, .inl (cI, 4, .inl (zA fS))), (rM, .inl (cI, 4, .inl (zA fM))), (rT, .inl (cI, 80, .inl (zA fT))), (rX, .inl (cI, 80, .inl (zA fX))), (rY, .inl (cI, 80, .inl (zA fY))), (rR, .inl (cI, 300, .inl (zA b0)))] H := hP.sub [5, 0, 1, 2, 3, 4, 6] rfl
        have hD : va_D A [(hm, .inr (7, [.int (iI 0), .ref rS, .ref rM, .ref rB, .ref rT, .ref rX, .ref rY, .ref rL, .int (iI n0), .ref rR, .int (iI at1), .long (lI nu), .ref rt, .ref rx, .ref ry, .int (iI fo), .ref rF, .ref rG, .ref rU, .ref rV, .long (lI lo), .long (lI lB), .long (lI hi), .long (lI hB1)])), (rS, .inl (cI, 4, .inl (zA fS))), (rM, .inl (cI, 4, .inl (zA fM))), (rT, .inl (cI, 80, .inl (zA fT))), (rX, .inl (cI, 80, .inl (zA fX))), (rY, .inl (cI, 80, .inl (zA fY))), (rR, .inl (cI, 300, .inl (zA b0)))] := hD.sub [5, 0, 1, 2, 3, 4, 6] (by decide) rfl
        have gB0 := wrN_B hw51 hBb (by omega) (by omega)
        have gl0 := wrN_1 hw51 (by omega)
        refine lv_iconst (v := iI 0) hx hb dX7_pack_54 rfl ?_
        refine lv_istore_n (lv' := [(2, .int (iI 0)), (0, .ref hm), (1, .int (iI a))]) hx hb dX7_pack_55 rfl hl (by decide) rfl (fun ls hl => ?_)
        have LP56 : ∀ (N56 : Nat) (i : Int) (gR : Int → Int) (gn : Int) (H : Heap) (locs : List Loc) (ls : Array Slot), ((0 ≤ i ∧ i ≤ fM a) ∧ pkR (sh fT (20 * a)) (sh fX (20 * a)) (sh fY (20 * a)) (Int.toNat i) (wrN 4 fR 0 (fM a)) = (gR, gn) ∧ okB gR ∧ (1 ≤ gn ∧ gn ≤ 1 + 13 * i)) → (20 - i) < (N56 : Int) → va_P D vwCl [(hm, .inr (7, [.int (iI 0), .ref rS, .ref rM, .ref rB, .ref rT, .ref rX, .ref rY, .ref rL, .int (iI gn), .ref rR, .int (iI at1), .long (lI nu), .ref rt, .ref rx, .ref ry, .int (iI fo), .ref rF, .ref rG, .ref rU, .ref rV, .long (lI lo), .long (lI lB), .long (lI hi), .long (lI hB1)])), (rS, .inl (cI, 4, .inl (zA fS))), (rM, .inl (cI, 4, .inl (zA fM))), (rT, .inl (cI, 80, .inl (zA fT))), (rX, .inl (cI, 80, .inl (zA fX))), (rY, .inl (cI, 80, .inl (zA fY))), (rR, .inl (cI, 300, .inl (zA gR)))] H → va_D A [(hm, .inr (7, [.int (iI 0), .ref rS, .ref rM, .ref rB, .ref rT, .ref rX, .ref rY, .ref rL, .int (iI gn), .ref rR, .int (iI at1), .long (lI nu), .ref rt, .ref rx, .ref ry, .int (iI fo), .ref rF, .ref rG, .ref rU, .ref rV, .long (lI lo), .long (lI lB), .long (lI hi), .long (lI hB1)])), (rS, .inl (cI, 4, .inl (zA fS))), (rM, .inl (cI, 4, .inl (zA fM))), (rT, .inl (cI, 80, .inl (zA fT))), (rX, .inl (cI, 80, .inl (zA fX))), (rY, .inl (cI, 80, .inl (zA fY))), (rR, .inl (cI, 300, .inl (zA gR)))] → va_S A s.heap H locs → lv_has ls 4 [(0, .ref hm), (1, .int (iI a)), (2, .int (iI i))] → W p l e { frames := 2, cells := 0, slots := 0, locals := 42 } s m ([.ref hm, .int (iI a)] : List Value).toArray below meth c H locs 0 0 Q (F0 m 56 ls []) := by
          intro N56
          induction N56 with
          | zero =>
            intro i gR gn H locs ls hI hm
            obtain ⟨a1, a5, a6, a7⟩ := hI
            exfalso; omega
          | succ N56 ih56 =>
            intro i gR gn H locs ls hI hm56 hP hD hS hl
            obtain ⟨a1, a5, a6, a7⟩ := hI
            refine lv_iload_n hx hb dX7_pack_56 rfl (lv_at hl 2 rfl) ?_
            refine lv_aload_n hx hb dX7_pack_57 rfl (lv_at hl 0 rfl) ?_
            refine va_get (D := D) (ci := 7) (v := .ref rM) (C := RX7) (T := TX7) (N := 24) hx hb hts hin7 hown hK hP 0 rfl rfl 2 (by decide) (hts (.fieldLink RX7 13 "DriftLogModel" "many" "[I") (by decide +kernel)) (fun _ h9 => h9) rfl dX7_pack_58 ?_
            refine lv_iload_n hx hb dX7_pack_61 rfl (lv_at hl 1 rfl) ?_
            refine wz_iald (tys := TY cI cJ cT) hx hb hK hP 2 0 rfl rfl (by decide) (by constructor <;> omega) dX7_pack_62 ?_
            refine wz_icmp_ge (tgt := 196) hx hb dX7_pack_63 (by decide) ⟨by omega, by omega⟩ ⟨by omega, by omega⟩ (fun c63 => ?_) (fun c63 => ?_)
            · skip
              refine lv_aload_n hx hb dX7_pack_196 rfl (lv_at hl 0 rfl) ?_
              refine va_get (D := D) (ci := 7) (v := .int (iI gn)) (C := RX7) (T := TX7) (N := 24) hx hb hts hin7 hown hK hP 0 rfl rfl 8 (by decide) (hts (.fieldLink RX7 95 "DriftLogModel" "size" "I") (by decide +kernel)) (fun _ h9 => h9) rfl dX7_pack_197 ?_
              rw [hQ]
              exact wz_reti (tys := TY cI cJ cT) (0, gR, gn) hx hb hr hlocks hK hP hD hS (by (try dsimp only); exact (⟨fun h => (by exfalso; omega), fun h h2 => (by exfalso; omega), fun h h2 => ⟨rfl, rfl, (by rw [show (fM a).toNat = i.toNat by omega]; exact a5), by omega, by omega, a6⟩⟩)) dX7_pack_200
            · skip
              refine lv_bipush (v := iI 20) hx hb dX7_pack_66 (by decide) ?_
              refine lv_iload_n hx hb dX7_pack_68 rfl (lv_at hl 1 rfl) ?_
              refine wz_imul hx hb dX7_pack_69 ?_
              refine lv_iload_n hx hb dX7_pack_70 rfl (lv_at hl 2 rfl) ?_
              refine wz_iadd hx hb dX7_pack_71 ?_
              refine lv_istore_n (lv' := [(3, .int (iI ((20 * a) + i))), (0, .ref hm), (1, .int (iI a)), (2, .int (iI i))]) hx hb dX7_pack_72 rfl hl (by decide) rfl (fun ls hl => ?_)
              have pt := pvZ_T (f := sh fT (20 * a)) (okT_sh ht _) hinc1 a1.1 (by omega)
              have rxx := pvZ_C (okC_sh hx1 (20 * a)) i
              have ryy := pvZ_C (okC_sh hy1 (20 * a)) i
              have kx := hx1 (20 * a + i)
              have ky := hy1 (20 * a + i)
              have kt := ht (20 * a + i)
              have kx2 := hx1 (20 * a + i - 1)
              have ky2 := hy1 (20 * a + i - 1)
              have kt2 := ht (20 * a + i - 1)
              have pt : 0 ≤ fT (20 * a + i) - pvZ (sh fT (20 * a)) i ∧ fT (20 * a + i) - pvZ (sh fT (20 * a)) i ≤ 2147483647 := pt
              refine lv_aload_n hx hb dX7_pack_73 rfl (lv_at hl 1 rfl) ?_
              refine lv_aload_n hx hb dX7_pack_74 rfl (lv_at hl 1 rfl) ?_
              refine va_get (D := D) (ci := 7) (v := .ref rT) (C := RX7) (T := TX7) (N := 24) hx hb hts hin7 hown hK hP 0 rfl rfl 4 (by decide) (hts (.fieldLink RX7 19 "DriftLogModel" "time" "[I") (by decide +kernel)) (fun _ h9 => h9) rfl dX7_pack_75 ?_
              refine lv_iload_n hx hb dX7_pack_78 rfl (lv_at hl 0 rfl) ?_
              refine wz_iald (tys := TY cI cJ cT) hx hb hK hP 3 0 rfl rfl (by decide) (by constructor <;> omega) dX7_pack_79 ?_
              refine wz_i2l hx hb dX7_pack_80 ⟨by omega, by omega⟩ ?_
              refine lv_iload_n hx hb dX7_pack_81 rfl (lv_at hl 3 rfl) ?_
              refine wz_if_ne (tgt := 89) hx hb dX7_pack_82 (by decide) ⟨by omega, by omega⟩ (fun c82 => ?_) (fun c82 => ?_)
              · skip
                have eT : pvZ (sh fT (20 * a)) i = fT (20 * a + i - 1) := pv_s _ c82
                have eX : pvZ (sh fX (20 * a)) i = fX (20 * a + i - 1) := pv_s _ c82
                have eY : pvZ (sh fY (20 * a)) i = fY (20 * a + i - 1) := pv_s _ c82
                rw [eT] at pt
                rw [eX] at rxx
                rw [eY] at ryy
                have fo1 := foldZ_r (v := fX (20 * a + i) - fX (20 * a + i - 1)) (by constructor <;> omega)
                have fo2 := foldZ_r (v := fY (20 * a + i) - fY (20 * a + i - 1)) (by constructor <;> omega)
                refine lv_aload_n hx hb dX7_pack_89 rfl (lv_at hl 1 rfl) ?_
                refine va_get (D := D) (ci := 7) (v := .ref rT) (C := RX7) (T := TX7) (N := 24) hx hb hts hin7 hown hK hP 0 rfl rfl 4 (by decide) (hts (.fieldLink RX7 19 "DriftLogModel" "time" "[I") (by decide +kernel)) (fun _ h9 => h9) rfl dX7_pack_90 ?_
                refine lv_iload_n hx hb dX7_pack_93 rfl (lv_at hl 3 rfl) ?_
                refine wz_if_ne (tgt := 101) hx hb dX7_pack_94 (by decide) ⟨by omega, by omega⟩ (fun c94 => ?_) (fun c94 => ?_)
                · skip
                  refine lv_iload_n hx hb dX7_pack_101 rfl (lv_at hl 0 rfl) ?_
                  refine lv_iconst (v := iI 1) hx hb dX7_pack_102 rfl ?_
                  refine wz_isub hx hb dX7_pack_103 ?_
                  refine wz_iald (tys := TY cI cJ cT) hx hb hK hP 3 0 rfl rfl (by decide) (by constructor <;> omega) dX7_pack_104 ?_
                  refine wz_i2l hx hb dX7_pack_105 ⟨by omega, by omega⟩ ?_
                  refine wz_lsub hx hb dX7_pack_106 ?_
                  refine wz_callv (wr := [(rS, .inl (cI, 4, .inl (zA fS))), (rM, .inl (cI, 4, .inl (zA fM))), (rT, .inl (cI, 80, .inl (zA fT))), (rX, .inl (cI, 80, .inl (zA fX))), (rY, .inl (cI, 80, .inl (zA fY)))]) (va_runV (As := [.long (lI ((fT ((20 * a) + i)) - (fT (((20 * a) + i) - 1))))]) (rest := []) ⟨hx, hb, hml, hown, hts⟩ (k_X7_write l D cI cJ cT H.size hm 0 rS rM rB rT rX rY rL gn rR at1 nu rt rx ry fo rF rG rU rV lo lB hi hB1 gR ((fT ((20 * a) + i)) - (fT (((20 * a) + i) - 1))) (by constructor <;> omega) (by omega)) (cwV 1 hts gX7_pack_X7_write rfl rfl rfl (by decide +kernel) ⟨Nat.le_of_ble_eq_true rfl, Nat.le_of_ble_eq_true rfl⟩) (wz_preV hK hP hD [0, 6] (by decide) rfl rfl 7 0 rfl rfl) rfl rfl hl.1 rfl (lv_room (Nat.le_of_ble_eq_true rfl)) dX7_pack_107 ⟨Nat.le_of_ble_eq_true rfl, Nat.le_of_ble_eq_true rfl⟩) hP hD hS hA [0, 6] [1, 2, 3, 4, 5] rfl rfl rfl (by decide) (fun  u H locs hw107 hP hD hS => ?_)
                  obtain ⟨b1, n1⟩ := u
                  try dsimp only at hw107
                  have hP : va_P D vwCl [(hm, .inr (7, [.int (iI 0), .ref rS, .ref rM, .ref rB, .ref rT, .ref rX, .ref rY, .ref rL, .int (iI n1), .ref rR, .int (iI at1), .long (lI nu), .ref rt, .ref rx, .ref ry, .int (iI fo), .ref rF, .ref rG, .ref rU, .ref rV, .long (lI lo), .long (lI lB), .long (lI hi), .long (lI hB1)])), (rS, .inl (cI, 4, .inl (zA fS))), (rM, .inl (cI, 4, .inl (zA fM))), (rT, .inl (cI, 80, .inl (zA fT))), (rX, .inl (cI, 80, .inl (zA fX))), (rY, .inl (cI, 80, .inl (zA fY))), (rR, .inl (cI, 300, .inl (zA b1)))] H := hP.sub [5, 0, 1, 2, 3, 4, 6] rfl
                  have hD : va_D A [(hm, .inr (7, [.int (iI 0), .ref rS, .ref rM, .ref rB, .ref rT, .ref rX, .ref rY, .ref rL, .int (iI n1), .ref rR, .int (iI at1), .long (lI nu), .ref rt, .ref rx, .ref ry, .int (iI fo), .ref rF, .ref rG, .ref rU, .ref rV, .long (lI lo), .long (lI lB), .long (lI hi), .long (lI hB1)])), (rS, .inl (cI, 4, .inl (zA fS))), (rM, .inl (cI, 4, .inl (zA fM))), (rT, .inl (cI, 80, .inl (zA fT))), (rX, .inl (cI, 80, .inl (zA fX))), (rY, .inl (cI, 80, .inl (zA fY))), (rR, .inl (cI, 300, .inl (zA b1)))] := hD.sub [5, 0, 1, 2, 3, 4, 6] (by decide) rfl
                  have gB1 := wrN_B hw107 a6 (by omega) (by omega)
                  have gl1 := wrN_5 hw107 (by omega) (by omega)
                  refine lv_aload_n hx hb dX7_pack_110 rfl (lv_at hl 1 rfl) ?_
                  refine lv_aload_n hx hb dX7_pack_111 rfl (lv_at hl 1 rfl) ?_
                  refine va_get (D := D) (ci := 7) (v := .ref rX) (C := RX7) (T := TX7) (N := 24) hx hb hts hin7 hown hK hP 0 rfl rfl 5 (by decide) (hts (.fieldLink RX7 22 "DriftLogModel" "px" "[I") (by decide +kernel)) (fun _ h9 => h9) rfl dX7_pack_112 ?_
                  refine lv_iload_n hx hb dX7_pack_115 rfl (lv_at hl 0 rfl) ?_
                  refine wz_iald (tys := TY cI cJ cT) hx hb hK hP 4 0 rfl rfl (by decide) (by constructor <;> omega) dX7_pack_116 ?_
                  refine wz_i2l hx hb dX7_pack_117 ⟨by omega, by omega⟩ ?_
                  refine lv_iload_n hx hb dX7_pack_118 rfl (lv_at hl 3 rfl) ?_
                  refine wz_if_ne (tgt := 126) hx hb dX7_pack_119 (by decide) ⟨by omega, by omega⟩ (fun c119 => ?_) (fun c119 => ?_)
                  · skip
                    refine lv_aload_n hx hb dX7_pack_126 rfl (lv_at hl 1 rfl) ?_
                    refine va_get (D := D) (ci := 7) (v := .ref rX) (C := RX7) (T := TX7) (N := 24) hx hb hts hin7 hown hK hP 0 rfl rfl 5 (by decide) (hts (.fieldLink RX7 22 "DriftLogModel" "px" "[I") (by decide +kernel)) (fun _ h9 => h9) rfl dX7_pack_127 ?_
                    refine lv_iload_n hx hb dX7_pack_130 rfl (lv_at hl 3 rfl) ?_
                    refine wz_if_ne (tgt := 138) hx hb dX7_pack_131 (by decide) ⟨by omega, by omega⟩ (fun c131 => ?_) (fun c131 => ?_)
                    · skip
                      refine lv_iload_n hx hb dX7_pack_138 rfl (lv_at hl 0 rfl) ?_
                      refine lv_iconst (v := iI 1) hx hb dX7_pack_139 rfl ?_
                      refine wz_isub hx hb dX7_pack_140 ?_
                      refine wz_iald (tys := TY cI cJ cT) hx hb hK hP 4 0 rfl rfl (by decide) (by constructor <;> omega) dX7_pack_141 ?_
                      refine wz_i2l hx hb dX7_pack_142 ⟨by omega, by omega⟩ ?_
                      refine wz_lsub hx hb dX7_pack_143 ?_
                      refine wz_calll (wr := [(hm, .inr (7, [.int (iI 0), .ref rS, .ref rM, .ref rB, .ref rT, .ref rX, .ref rY, .ref rL, .int (iI n1), .ref rR, .int (iI at1), .long (lI nu), .ref rt, .ref rx, .ref ry, .int (iI fo), .ref rF, .ref rG, .ref rU, .ref rV, .long (lI lo), .long (lI lB), .long (lI hi), .long (lI hB1)])), (rS, .inl (cI, 4, .inl (zA fS))), (rM, .inl (cI, 4, .inl (zA fM))), (rT, .inl (cI, 80, .inl (zA fT))), (rX, .inl (cI, 80, .inl (zA fX))), (rY, .inl (cI, 80, .inl (zA fY))), (rR, .inl (cI, 300, .inl (zA b1)))]) (va_runS (As := [.long (lI ((fX ((20 * a) + i)) - (fX (((20 * a) + i) - 1))))]) (rest := [.ref hm]) ⟨hx, hb, hml, hown, hts⟩ (k_X7_turned l D cI cJ cT H.size ((fX ((20 * a) + i)) - (fX (((20 * a) + i) - 1))) (by constructor <;> omega)) (va_cwS 1 hts gX7_pack_X7_turned rfl rfl rfl (by decide +kernel) ⟨Nat.le_of_ble_eq_true rfl, Nat.le_of_ble_eq_true rfl⟩) (wz_preS hK hP hD [] (by decide) rfl rfl) rfl rfl hl.1 rfl (lv_room (Nat.le_of_ble_eq_true rfl)) dX7_pack_144 ⟨Nat.le_of_ble_eq_true rfl, Nat.le_of_ble_eq_true rfl⟩) hP hD hS hA [] [0, 1, 2, 3, 4, 5, 6] rfl rfl rfl (by decide) (fun z144 u H locs hw144 hP hD hS => ?_)
                      have hP : va_P D vwCl [(hm, .inr (7, [.int (iI 0), .ref rS, .ref rM, .ref rB, .ref rT, .ref rX, .ref rY, .ref rL, .int (iI n1), .ref rR, .int (iI at1), .long (lI nu), .ref rt, .ref rx, .ref ry, .int (iI fo), .ref rF, .ref rG, .ref rU, .ref rV, .long (lI lo), .long (lI lB), .long (lI hi), .long (lI hB1)])), (rS, .inl (cI, 4, .inl (zA fS))), (rM, .inl (cI, 4, .inl (zA fM))), (rT, .inl (cI, 80, .inl (zA fT))), (rX, .inl (cI, 80, .inl (zA fX))), (rY, .inl (cI, 80, .inl (zA fY))), (rR, .inl (cI, 300, .inl (zA b1)))] H := hP.sub [0, 1, 2, 3, 4, 5, 6] rfl
                      have hD : va_D A [(hm, .inr (7, [.int (iI 0), .ref rS, .ref rM, .ref rB, .ref rT, .ref rX, .ref rY, .ref rL, .int (iI n1), .ref rR, .int (iI at1), .long (lI nu), .ref rt, .ref rx, .ref ry, .int (iI fo), .ref rF, .ref rG, .ref rU, .ref rV, .long (lI lo), .long (lI lB), .long (lI hi), .long (lI hB1)])), (rS, .inl (cI, 4, .inl (zA fS))), (rM, .inl (cI, 4, .inl (zA fM))), (rT, .inl (cI, 80, .inl (zA fT))), (rX, .inl (cI, 80, .inl (zA fX))), (rY, .inl (cI, 80, .inl (zA fY))), (rR, .inl (cI, 300, .inl (zA b1)))] := hD.sub [0, 1, 2, 3, 4, 5, 6] (by decide) rfl
                      subst hw144
                      refine wz_callv (wr := [(rS, .inl (cI, 4, .inl (zA fS))), (rM, .inl (cI, 4, .inl (zA fM))), (rT, .inl (cI, 80, .inl (zA fT))), (rX, .inl (cI, 80, .inl (zA fX))), (rY, .inl (cI, 80, .inl (zA fY)))]) (va_runV (As := [.long (lI (foldZ ((fX ((20 * a) + i)) - (fX (((20 * a) + i) - 1)))))]) (rest := []) ⟨hx, hb, hml, hown, hts⟩ (k_X7_write l D cI cJ cT H.size hm 0 rS rM rB rT rX rY rL n1 rR at1 nu rt rx ry fo rF rG rU rV lo lB hi hB1 b1 (foldZ ((fX ((20 * a) + i)) - (fX (((20 * a) + i) - 1)))) (by constructor <;> omega) (by omega)) (cwV 1 hts gX7_pack_X7_write rfl rfl rfl (by decide +kernel) ⟨Nat.le_of_ble_eq_true rfl, Nat.le_of_ble_eq_true rfl⟩) (wz_preV hK hP hD [0, 6] (by decide) rfl rfl 7 0 rfl rfl) rfl rfl hl.1 rfl (lv_room (Nat.le_of_ble_eq_true rfl)) dX7_pack_147 ⟨Nat.le_of_ble_eq_true rfl, Nat.le_of_ble_eq_true rfl⟩) hP hD hS hA [0, 6] [1, 2, 3, 4, 5] rfl rfl rfl (by decide) (fun  u H locs hw147 hP hD hS => ?_)
                      obtain ⟨b2, n2⟩ := u
                      try dsimp only at hw147
                      have hP : va_P D vwCl [(hm, .inr (7, [.int (iI 0), .ref rS, .ref rM, .ref rB, .ref rT, .ref rX, .ref rY, .ref rL, .int (iI n2), .ref rR, .int (iI at1), .long (lI nu), .ref rt, .ref rx, .ref ry, .int (iI fo), .ref rF, .ref rG, .ref rU, .ref rV, .long (lI lo), .long (lI lB), .long (lI hi), .long (lI hB1)])), (rS, .inl (cI, 4, .inl (zA fS))), (rM, .inl (cI, 4, .inl (zA fM))), (rT, .inl (cI, 80, .inl (zA fT))), (rX, .inl (cI, 80, .inl (zA fX))), (rY, .inl (cI, 80, .inl (zA fY))), (rR, .inl (cI, 300, .inl (zA b2)))] H := hP.sub [5, 0, 1, 2, 3, 4, 6] rfl
                      have hD : va_D A [(hm, .inr (7, [.int (iI 0), .ref rS, .ref rM, .ref rB, .ref rT, .ref rX, .ref rY, .ref rL, .int (iI n2), .ref rR, .int (iI at1), .long (lI nu), .ref rt, .ref rx, .ref ry, .int (iI fo), .ref rF, .ref rG, .ref rU, .ref rV, .long (lI lo), .long (lI lB), .long (lI hi), .long (lI hB1)])), (rS, .inl (cI, 4, .inl (zA fS))), (rM, .inl (cI, 4, .inl (zA fM))), (rT, .inl (cI, 80, .inl (zA fT))), (rX, .inl (cI, 80, .inl (zA fX))), (rY, .inl (cI, 80, .inl (zA fY))), (rR, .inl (cI, 300, .inl (zA b2)))] := hD.sub [5, 0, 1, 2, 3, 4, 6] (by decide) rfl
                      have gB2 := wrN_B hw147 gB1 (by omega) (by omega)
                      have gl2 := wrN_4 hw147 (by omega) (by omega)
                      refine lv_aload_n hx hb dX7_pack_150 rfl (lv_at hl 1 rfl) ?_
                      refine lv_aload_n hx hb dX7_pack_151 rfl (lv_at hl 1 rfl) ?_
                      refine va_get (D := D) (ci := 7) (v := .ref rY) (C := RX7) (T := TX7) (N := 24) hx hb hts hin7 hown hK hP 0 rfl rfl 6 (by decide) (hts (.fieldLink RX7 25 "DriftLogModel" "py" "[I") (by decide +kernel)) (fun _ h9 => h9) rfl dX7_pack_152 ?_
                      refine lv_iload_n hx hb dX7_pack_155 rfl (lv_at hl 0 rfl) ?_
                      refine wz_iald (tys := TY cI cJ cT) hx hb hK hP 5 0 rfl rfl (by decide) (by constructor <;> omega) dX7_pack_156 ?_
                      refine wz_i2l hx hb dX7_pack_157 ⟨by omega, by omega⟩ ?_
                      refine lv_iload_n hx hb dX7_pack_158 rfl (lv_at hl 3 rfl) ?_
                      refine wz_if_ne (tgt := 166) hx hb dX7_pack_159 (by decide) ⟨by omega, by omega⟩ (fun c159 => ?_) (fun c159 => ?_)
                      · skip
                        refine lv_aload_n hx hb dX7_pack_166 rfl (lv_at hl 1 rfl) ?_
                        refine va_get (D := D) (ci := 7) (v := .ref rY) (C := RX7) (T := TX7) (N := 24) hx hb hts hin7 hown hK hP 0 rfl rfl 6 (by decide) (hts (.fieldLink RX7 25 "DriftLogModel" "py" "[I") (by decide +kernel)) (fun _ h9 => h9) rfl dX7_pack_167 ?_
                        refine lv_iload_n hx hb dX7_pack_170 rfl (lv_at hl 3 rfl) ?_
                        refine wz_if_ne (tgt := 178) hx hb dX7_pack_171 (by decide) ⟨by omega, by omega⟩ (fun c171 => ?_) (fun c171 => ?_)
                        · skip
                          refine lv_iload_n hx hb dX7_pack_178 rfl (lv_at hl 0 rfl) ?_
                          refine lv_iconst (v := iI 1) hx hb dX7_pack_179 rfl ?_
                          refine wz_isub hx hb dX7_pack_180 ?_
                          refine wz_iald (tys := TY cI cJ cT) hx hb hK hP 5 0 rfl rfl (by decide) (by constructor <;> omega) dX7_pack_181 ?_
                          refine wz_i2l hx hb dX7_pack_182 ⟨by omega, by omega⟩ ?_
                          refine wz_lsub hx hb dX7_pack_183 ?_
                          refine wz_calll (wr := [(hm, .inr (7, [.int (iI 0), .ref rS, .ref rM, .ref rB, .ref rT, .ref rX, .ref rY, .ref rL, .int (iI n2), .ref rR, .int (iI at1), .long (lI nu), .ref rt, .ref rx, .ref ry, .int (iI fo), .ref rF, .ref rG, .ref rU, .ref rV, .long (lI lo), .long (lI lB), .long (lI hi), .long (lI hB1)])), (rS, .inl (cI, 4, .inl (zA fS))), (rM, .inl (cI, 4, .inl (zA fM))), (rT, .inl (cI, 80, .inl (zA fT))), (rX, .inl (cI, 80, .inl (zA fX))), (rY, .inl (cI, 80, .inl (zA fY))), (rR, .inl (cI, 300, .inl (zA b2)))]) (va_runS (As := [.long (lI ((fY ((20 * a) + i)) - (fY (((20 * a) + i) - 1))))]) (rest := [.ref hm]) ⟨hx, hb, hml, hown, hts⟩ (k_X7_turned l D cI cJ cT H.size ((fY ((20 * a) + i)) - (fY (((20 * a) + i) - 1))) (by constructor <;> omega)) (va_cwS 1 hts gX7_pack_X7_turned rfl rfl rfl (by decide +kernel) ⟨Nat.le_of_ble_eq_true rfl, Nat.le_of_ble_eq_true rfl⟩) (wz_preS hK hP hD [] (by decide) rfl rfl) rfl rfl hl.1 rfl (lv_room (Nat.le_of_ble_eq_true rfl)) dX7_pack_184 ⟨Nat.le_of_ble_eq_true rfl, Nat.le_of_ble_eq_true rfl⟩) hP hD hS hA [] [0, 1, 2, 3, 4, 5, 6] rfl rfl rfl (by decide) (fun z184 u H locs hw184 hP hD hS => ?_)
                          have hP : va_P D vwCl [(hm, .inr (7, [.int (iI 0), .ref rS, .ref rM, .ref rB, .ref rT, .ref rX, .ref rY, .ref rL, .int (iI n2), .ref rR, .int (iI at1), .long (lI nu), .ref rt, .ref rx, .ref ry, .int (iI fo), .ref rF, .ref rG, .ref rU, .ref rV, .long (lI lo), .long (lI lB), .long (lI hi), .long (lI hB1)])), (rS, .inl (cI, 4, .inl (zA fS))), (rM, .inl (cI, 4, .inl (zA fM))), (rT, .inl (cI, 80, .inl (zA fT))), (rX, .inl (cI, 80, .inl (zA fX))), (rY, .inl (cI, 80, .inl (zA fY))), (rR, .inl (cI, 300, .inl (zA b2)))] H := hP.sub [0, 1, 2, 3, 4, 5, 6] rfl
                          have hD : va_D A [(hm, .inr (7, [.int (iI 0), .ref rS, .ref rM, .ref rB, .ref rT, .ref rX, .ref rY, .ref rL, .int (iI n2), .ref rR, .int (iI at1), .long (lI nu), .ref rt, .ref rx, .ref ry, .int (iI fo), .ref rF, .ref rG, .ref rU, .ref rV, .long (lI lo), .long (lI lB), .long (lI hi), .long (lI hB1)])), (rS, .inl (cI, 4, .inl (zA fS))), (rM, .inl (cI, 4, .inl (zA fM))), (rT, .inl (cI, 80, .inl (zA fT))), (rX, .inl (cI, 80, .inl (zA fX))), (rY, .inl (cI, 80, .inl (zA fY))), (rR, .inl (cI, 300, .inl (zA b2)))] := hD.sub [0, 1, 2, 3, 4, 5, 6] (by decide) rfl
                          subst hw184
                          refine wz_callv (wr := [(rS, .inl (cI, 4, .inl (zA fS))), (rM, .inl (cI, 4, .inl (zA fM))), (rT, .inl (cI, 80, .inl (zA fT))), (rX, .inl (cI, 80, .inl (zA fX))), (rY, .inl (cI, 80, .inl (zA fY)))]) (va_runV (As := [.long (lI (foldZ ((fY ((20 * a) + i)) - (fY (((20 * a) + i) - 1)))))]) (rest := []) ⟨hx, hb, hml, hown, hts⟩ (k_X7_write l D cI cJ cT H.size hm 0 rS rM rB rT rX rY rL n2 rR at1 nu rt rx ry fo rF rG rU rV lo lB hi hB1 b2 (foldZ ((fY ((20 * a) + i)) - (fY (((20 * a) + i) - 1)))) (by constructor <;> omega) (by omega)) (cwV 1 hts gX7_pack_X7_write rfl rfl rfl (by decide +kernel) ⟨Nat.le_of_ble_eq_true rfl, Nat.le_of_ble_eq_true rfl⟩) (wz_preV hK hP hD [0, 6] (by decide) rfl rfl 7 0 rfl rfl) rfl rfl hl.1 rfl (lv_room (Nat.le_of_ble_eq_true rfl)) dX7_pack_187 ⟨Nat.le_of_ble_eq_true rfl, Nat.le_of_ble_eq_true rfl⟩) hP hD hS hA [0, 6] [1, 2, 3, 4, 5] rfl rfl rfl (by decide) (fun  u H locs hw187 hP hD hS => ?_)
                          obtain ⟨b3, n3⟩ := u
                          try dsimp only at hw187
                          have hP : va_P D vwCl [(hm, .inr (7, [.int (iI 0), .ref rS, .ref rM, .ref rB, .ref rT, .ref rX, .ref rY, .ref rL, .int (iI n3), .ref rR, .int (iI at1), .long (lI nu), .ref rt, .ref rx, .ref ry, .int (iI fo), .ref rF, .ref rG, .ref rU, .ref rV, .long (lI lo), .long (lI lB), .long (lI hi), .long (lI hB1)])), (rS, .inl (cI, 4, .inl (zA fS))), (rM, .inl (cI, 4, .inl (zA fM))), (rT, .inl (cI, 80, .inl (zA fT))), (rX, .inl (cI, 80, .inl (zA fX))), (rY, .inl (cI, 80, .inl (zA fY))), (rR, .inl (cI, 300, .inl (zA b3)))] H := hP.sub [5, 0, 1, 2, 3, 4, 6] rfl
                          have hD : va_D A [(hm, .inr (7, [.int (iI 0), .ref rS, .ref rM, .ref rB, .ref rT, .ref rX, .ref rY, .ref rL, .int (iI n3), .ref rR, .int (iI at1), .long (lI nu), .ref rt, .ref rx, .ref ry, .int (iI fo), .ref rF, .ref rG, .ref rU, .ref rV, .long (lI lo), .long (lI lB), .long (lI hi), .long (lI hB1)])), (rS, .inl (cI, 4, .inl (zA fS))), (rM, .inl (cI, 4, .inl (zA fM))), (rT, .inl (cI, 80, .inl (zA fT))), (rX, .inl (cI, 80, .inl (zA fX))), (rY, .inl (cI, 80, .inl (zA fY))), (rR, .inl (cI, 300, .inl (zA b3)))] := hD.sub [5, 0, 1, 2, 3, 4, 6] (by decide) rfl
                          have gB3 := wrN_B hw187 gB2 (by omega) (by omega)
                          have gl3 := wrN_4 hw187 (by omega) (by omega)
                          refine lv_iinc (v := iI (i + 1)) (lv' := [(2, .int (iI (i + 1))), (3, .int (iI ((20 * a) + i))), (0, .ref hm), (1, .int (iI a))]) hx hb dX7_pack_190 hl (k := 3) rfl (iI_add _ _) (by decide) rfl (fun ls hl => ?_)
                          refine lv_goto (tgt := 56) hx hb dX7_pack_193 (by decide) ?_
                          exact ih56 (i + 1) b3 n3 _ _ _ ⟨(by omega), (pkR_s (s1 := (b1, n1)) (s2 := (b2, n2)) (s3 := (b3, n3)) a1.1 a5 (by show wrN 4 _ _ (fT (20 * a + i) - pvZ (sh fT (20 * a)) i) = _; rw [eT]; exact hw107) (by show wrN 4 _ _ (foldZ (fX (20 * a + i) - pvZ (sh fX (20 * a)) i)) = _; rw [eX]; exact hw147) (by show wrN 4 _ _ (foldZ (fY (20 * a + i) - pvZ (sh fY (20 * a)) i)) = _; rw [eY]; exact hw187)), (gB3), (by omega)⟩ (by omega) hP hD hS (lv_sub hl [2, 3, 0] rfl)
                        · skip
                          exfalso; omega
                      · skip
                        exfalso; omega
                    · skip
                      exfalso; omega
                  · skip
                    exfalso; omega
                · skip
                  exfalso; omega
              · skip
                have eT : pvZ (sh fT (20 * a)) i = 0 := pv_0 _ c82
                have eX : pvZ (sh fX (20 * a)) i = 0 := pv_0 _ c82
                have eY : pvZ (sh fY (20 * a)) i = 0 := pv_0 _ c82
                rw [eT] at pt
                rw [eX] at rxx
                rw [eY] at ryy
                have fo1 := foldZ_r (v := fX (20 * a + i) - 0) (by constructor <;> omega)
                have fo2 := foldZ_r (v := fY (20 * a + i) - 0) (by constructor <;> omega)
                refine lv_iconst (v := iI 0) hx hb dX7_pack_85 rfl ?_
                refine lv_goto (tgt := 105) hx hb dX7_pack_86 (by decide) ?_
                refine wz_i2l hx hb dX7_pack_105 (by decide) ?_
                refine wz_lsub hx hb dX7_pack_106 ?_
                refine wz_callv (wr := [(rS, .inl (cI, 4, .inl (zA fS))), (rM, .inl (cI, 4, .inl (zA fM))), (rT, .inl (cI, 80, .inl (zA fT))), (rX, .inl (cI, 80, .inl (zA fX))), (rY, .inl (cI, 80, .inl (zA fY)))]) (va_runV (As := [.long (lI ((fT ((20 * a) + i)) - 0))]) (rest := []) ⟨hx, hb, hml, hown, hts⟩ (k_X7_write l D cI cJ cT H.size hm 0 rS rM rB rT rX rY rL gn rR at1 nu rt rx ry fo rF rG rU rV lo lB hi hB1 gR ((fT ((20 * a) + i)) - 0) (by constructor <;> omega) (by omega)) (cwV 1 hts gX7_pack_X7_write rfl rfl rfl (by decide +kernel) ⟨Nat.le_of_ble_eq_true rfl, Nat.le_of_ble_eq_true rfl⟩) (wz_preV hK hP hD [0, 6] (by decide) rfl rfl 7 0 rfl rfl) rfl rfl hl.1 rfl (lv_room (Nat.le_of_ble_eq_true rfl)) dX7_pack_107 ⟨Nat.le_of_ble_eq_true rfl, Nat.le_of_ble_eq_true rfl⟩) hP hD hS hA [0, 6] [1, 2, 3, 4, 5] rfl rfl rfl (by decide) (fun  u H locs hw107 hP hD hS => ?_)
                obtain ⟨b1, n1⟩ := u
                try dsimp only at hw107
                have hP : va_P D vwCl [(hm, .inr (7, [.int (iI 0), .ref rS, .ref rM, .ref rB, .ref rT, .ref rX, .ref rY, .ref rL, .int (iI n1), .ref rR, .int (iI at1), .long (lI nu), .ref rt, .ref rx, .ref ry, .int (iI fo), .ref rF, .ref rG, .ref rU, .ref rV, .long (lI lo), .long (lI lB), .long (lI hi), .long (lI hB1)])), (rS, .inl (cI, 4, .inl (zA fS))), (rM, .inl (cI, 4, .inl (zA fM))), (rT, .inl (cI, 80, .inl (zA fT))), (rX, .inl (cI, 80, .inl (zA fX))), (rY, .inl (cI, 80, .inl (zA fY))), (rR, .inl (cI, 300, .inl (zA b1)))] H := hP.sub [5, 0, 1, 2, 3, 4, 6] rfl
                have hD : va_D A [(hm, .inr (7, [.int (iI 0), .ref rS, .ref rM, .ref rB, .ref rT, .ref rX, .ref rY, .ref rL, .int (iI n1), .ref rR, .int (iI at1), .long (lI nu), .ref rt, .ref rx, .ref ry, .int (iI fo), .ref rF, .ref rG, .ref rU, .ref rV, .long (lI lo), .long (lI lB), .long (lI hi), .long (lI hB1)])), (rS, .inl (cI, 4, .inl (zA fS))), (rM, .inl (cI, 4, .inl (zA fM))), (rT, .inl (cI, 80, .inl (zA fT))), (rX, .inl (cI, 80, .inl (zA fX))), (rY, .inl (cI, 80, .inl (zA fY))), (rR, .inl (cI, 300, .inl (zA b1)))] := hD.sub [5, 0, 1, 2, 3, 4, 6] (by decide) rfl
                have gB1 := wrN_B hw107 a6 (by omega) (by omega)
                have gl1 := wrN_5 hw107 (by omega) (by omega)
                refine lv_aload_n hx hb dX7_pack_110 rfl (lv_at hl 1 rfl) ?_
                refine lv_aload_n hx hb dX7_pack_111 rfl (lv_at hl 1 rfl) ?_
                refine va_get (D := D) (ci := 7) (v := .ref rX) (C := RX7) (T := TX7) (N := 24) hx hb hts hin7 hown hK hP 0 rfl rfl 5 (by decide) (hts (.fieldLink RX7 22 "DriftLogModel" "px" "[I") (by decide +kernel)) (fun _ h9 => h9) rfl dX7_pack_112 ?_
                refine lv_iload_n hx hb dX7_pack_115 rfl (lv_at hl 0 rfl) ?_
                refine wz_iald (tys := TY cI cJ cT) hx hb hK hP 4 0 rfl rfl (by decide) (by constructor <;> omega) dX7_pack_116 ?_
                refine wz_i2l hx hb dX7_pack_117 ⟨by omega, by omega⟩ ?_
                refine lv_iload_n hx hb dX7_pack_118 rfl (lv_at hl 3 rfl) ?_
                refine wz_if_ne (tgt := 126) hx hb dX7_pack_119 (by decide) ⟨by omega, by omega⟩ (fun c119 => ?_) (fun c119 => ?_)
                · skip
                  exfalso; omega
                · skip
                  refine lv_iconst (v := iI 0) hx hb dX7_pack_122 rfl ?_
                  refine lv_goto (tgt := 142) hx hb dX7_pack_123 (by decide) ?_
                  refine wz_i2l hx hb dX7_pack_142 (by decide) ?_
                  refine wz_lsub hx hb dX7_pack_143 ?_
                  refine wz_calll (wr := [(hm, .inr (7, [.int (iI 0), .ref rS, .ref rM, .ref rB, .ref rT, .ref rX, .ref rY, .ref rL, .int (iI n1), .ref rR, .int (iI at1), .long (lI nu), .ref rt, .ref rx, .ref ry, .int (iI fo), .ref rF, .ref rG, .ref rU, .ref rV, .long (lI lo), .long (lI lB), .long (lI hi), .long (lI hB1)])), (rS, .inl (cI, 4, .inl (zA fS))), (rM, .inl (cI, 4, .inl (zA fM))), (rT, .inl (cI, 80, .inl (zA fT))), (rX, .inl (cI, 80, .inl (zA fX))), (rY, .inl (cI, 80, .inl (zA fY))), (rR, .inl (cI, 300, .inl (zA b1)))]) (va_runS (As := [.long (lI ((fX ((20 * a) + i)) - 0))]) (rest := [.ref hm]) ⟨hx, hb, hml, hown, hts⟩ (k_X7_turned l D cI cJ cT H.size ((fX ((20 * a) + i)) - 0) (by constructor <;> omega)) (va_cwS 1 hts gX7_pack_X7_turned rfl rfl rfl (by decide +kernel) ⟨Nat.le_of_ble_eq_true rfl, Nat.le_of_ble_eq_true rfl⟩) (wz_preS hK hP hD [] (by decide) rfl rfl) rfl rfl hl.1 rfl (lv_room (Nat.le_of_ble_eq_true rfl)) dX7_pack_144 ⟨Nat.le_of_ble_eq_true rfl, Nat.le_of_ble_eq_true rfl⟩) hP hD hS hA [] [0, 1, 2, 3, 4, 5, 6] rfl rfl rfl (by decide) (fun z144 u H locs hw144 hP hD hS => ?_)
                  have hP : va_P D vwCl [(hm, .inr (7, [.int (iI 0), .ref rS, .ref rM, .ref rB, .ref rT, .ref rX, .ref rY, .ref rL, .int (iI n1), .ref rR, .int (iI at1), .long (lI nu), .ref rt, .ref rx, .ref ry, .int (iI fo), .ref rF, .ref rG, .ref rU, .ref rV, .long (lI lo), .long (lI lB), .long (lI hi), .long (lI hB1)])), (rS, .inl (cI, 4, .inl (zA fS))), (rM, .inl (cI, 4, .inl (zA fM))), (rT, .inl (cI, 80, .inl (zA fT))), (rX, .inl (cI, 80, .inl (zA fX))), (rY, .inl (cI, 80, .inl (zA fY))), (rR, .inl (cI, 300, .inl (zA b1)))] H := hP.sub [0, 1, 2, 3, 4, 5, 6] rfl
                  have hD : va_D A [(hm, .inr (7, [.int (iI 0), .ref rS, .ref rM, .ref rB, .ref rT, .ref rX, .ref rY, .ref rL, .int (iI n1), .ref rR, .int (iI at1), .long (lI nu), .ref rt, .ref rx, .ref ry, .int (iI fo), .ref rF, .ref rG, .ref rU, .ref rV, .long (lI lo), .long (lI lB), .long (lI hi), .long (lI hB1)])), (rS, .inl (cI, 4, .inl (zA fS))), (rM, .inl (cI, 4, .inl (zA fM))), (rT, .inl (cI, 80, .inl (zA fT))), (rX, .inl (cI, 80, .inl (zA fX))), (rY, .inl (cI, 80, .inl (zA fY))), (rR, .inl (cI, 300, .inl (zA b1)))] := hD.sub [0, 1, 2, 3, 4, 5, 6] (by decide) rfl
                  subst hw144
                  refine wz_callv (wr := [(rS, .inl (cI, 4, .inl (zA fS))), (rM, .inl (cI, 4, .inl (zA fM))), (rT, .inl (cI, 80, .inl (zA fT))), (rX, .inl (cI, 80, .inl (zA fX))), (rY, .inl (cI, 80, .inl (zA fY)))]) (va_runV (As := [.long (lI (foldZ ((fX ((20 * a) + i)) - 0)))]) (rest := []) ⟨hx, hb, hml, hown, hts⟩ (k_X7_write l D cI cJ cT H.size hm 0 rS rM rB rT rX rY rL n1 rR at1 nu rt rx ry fo rF rG rU rV lo lB hi hB1 b1 (foldZ ((fX ((20 * a) + i)) - 0)) (by constructor <;> omega) (by omega)) (cwV 1 hts gX7_pack_X7_write rfl rfl rfl (by decide +kernel) ⟨Nat.le_of_ble_eq_true rfl, Nat.le_of_ble_eq_true rfl⟩) (wz_preV hK hP hD [0, 6] (by decide) rfl rfl 7 0 rfl rfl) rfl rfl hl.1 rfl (lv_room (Nat.le_of_ble_eq_true rfl)) dX7_pack_147 ⟨Nat.le_of_ble_eq_true rfl, Nat.le_of_ble_eq_true rfl⟩) hP hD hS hA [0, 6] [1, 2, 3, 4, 5] rfl rfl rfl (by decide) (fun  u H locs hw147 hP hD hS => ?_)
                  obtain ⟨b2, n2⟩ := u
                  try dsimp only at hw147
                  have hP : va_P D vwCl [(hm, .inr (7, [.int (iI 0), .ref rS, .ref rM, .ref rB, .ref rT, .ref rX, .ref rY, .ref rL, .int (iI n2), .ref rR, .int (iI at1), .long (lI nu), .ref rt, .ref rx, .ref ry, .int (iI fo), .ref rF, .ref rG, .ref rU, .ref rV, .long (lI lo), .long (lI lB), .long (lI hi), .long (lI hB1)])), (rS, .inl (cI, 4, .inl (zA fS))), (rM, .inl (cI, 4, .inl (zA fM))), (rT, .inl (cI, 80, .inl (zA fT))), (rX, .inl (cI, 80, .inl (zA fX))), (rY, .inl (cI, 80, .inl (zA fY))), (rR, .inl (cI, 300, .inl (zA b2)))] H := hP.sub [5, 0, 1, 2, 3, 4, 6] rfl
                  have hD : va_D A [(hm, .inr (7, [.int (iI 0), .ref rS, .ref rM, .ref rB, .ref rT, .ref rX, .ref rY, .ref rL, .int (iI n2), .ref rR, .int (iI at1), .long (lI nu), .ref rt, .ref rx, .ref ry, .int (iI fo), .ref rF, .ref rG, .ref rU, .ref rV, .long (lI lo), .long (lI lB), .long (lI hi), .long (lI hB1)])), (rS, .inl (cI, 4, .inl (zA fS))), (rM, .inl (cI, 4, .inl (zA fM))), (rT, .inl (cI, 80, .inl (zA fT))), (rX, .inl (cI, 80, .inl (zA fX))), (rY, .inl (cI, 80, .inl (zA fY))), (rR, .inl (cI, 300, .inl (zA b2)))] := hD.sub [5, 0, 1, 2, 3, 4, 6] (by decide) rfl
                  have gB2 := wrN_B hw147 gB1 (by omega) (by omega)
                  have gl2 := wrN_4 hw147 (by omega) (by omega)
                  refine lv_aload_n hx hb dX7_pack_150 rfl (lv_at hl 1 rfl) ?_
                  refine lv_aload_n hx hb dX7_pack_151 rfl (lv_at hl 1 rfl) ?_
                  refine va_get (D := D) (ci := 7) (v := .ref rY) (C := RX7) (T := TX7) (N := 24) hx hb hts hin7 hown hK hP 0 rfl rfl 6 (by decide) (hts (.fieldLink RX7 25 "DriftLogModel" "py" "[I") (by decide +kernel)) (fun _ h9 => h9) rfl dX7_pack_152 ?_
                  refine lv_iload_n hx hb dX7_pack_155 rfl (lv_at hl 0 rfl) ?_
                  refine wz_iald (tys := TY cI cJ cT) hx hb hK hP 5 0 rfl rfl (by decide) (by constructor <;> omega) dX7_pack_156 ?_
                  refine wz_i2l hx hb dX7_pack_157 ⟨by omega, by omega⟩ ?_
                  refine lv_iload_n hx hb dX7_pack_158 rfl (lv_at hl 3 rfl) ?_
                  refine wz_if_ne (tgt := 166) hx hb dX7_pack_159 (by decide) ⟨by omega, by omega⟩ (fun c159 => ?_) (fun c159 => ?_)
                  · skip
                    exfalso; omega
                  · skip
                    refine lv_iconst (v := iI 0) hx hb dX7_pack_162 rfl ?_
                    refine lv_goto (tgt := 182) hx hb dX7_pack_163 (by decide) ?_
                    refine wz_i2l hx hb dX7_pack_182 (by decide) ?_
                    refine wz_lsub hx hb dX7_pack_183 ?_
                    refine wz_calll (wr := [(hm, .inr (7, [.int (iI 0), .ref rS, .ref rM, .ref rB, .ref rT, .ref rX, .ref rY, .ref rL, .int (iI n2), .ref rR, .int (iI at1), .long (lI nu), .ref rt, .ref rx, .ref ry, .int (iI fo), .ref rF, .ref rG, .ref rU, .ref rV, .long (lI lo), .long (lI lB), .long (lI hi), .long (lI hB1)])), (rS, .inl (cI, 4, .inl (zA fS))), (rM, .inl (cI, 4, .inl (zA fM))), (rT, .inl (cI, 80, .inl (zA fT))), (rX, .inl (cI, 80, .inl (zA fX))), (rY, .inl (cI, 80, .inl (zA fY))), (rR, .inl (cI, 300, .inl (zA b2)))]) (va_runS (As := [.long (lI ((fY ((20 * a) + i)) - 0))]) (rest := [.ref hm]) ⟨hx, hb, hml, hown, hts⟩ (k_X7_turned l D cI cJ cT H.size ((fY ((20 * a) + i)) - 0) (by constructor <;> omega)) (va_cwS 1 hts gX7_pack_X7_turned rfl rfl rfl (by decide +kernel) ⟨Nat.le_of_ble_eq_true rfl, Nat.le_of_ble_eq_true rfl⟩) (wz_preS hK hP hD [] (by decide) rfl rfl) rfl rfl hl.1 rfl (lv_room (Nat.le_of_ble_eq_true rfl)) dX7_pack_184 ⟨Nat.le_of_ble_eq_true rfl, Nat.le_of_ble_eq_true rfl⟩) hP hD hS hA [] [0, 1, 2, 3, 4, 5, 6] rfl rfl rfl (by decide) (fun z184 u H locs hw184 hP hD hS => ?_)
                    have hP : va_P D vwCl [(hm, .inr (7, [.int (iI 0), .ref rS, .ref rM, .ref rB, .ref rT, .ref rX, .ref rY, .ref rL, .int (iI n2), .ref rR, .int (iI at1), .long (lI nu), .ref rt, .ref rx, .ref ry, .int (iI fo), .ref rF, .ref rG, .ref rU, .ref rV, .long (lI lo), .long (lI lB), .long (lI hi), .long (lI hB1)])), (rS, .inl (cI, 4, .inl (zA fS))), (rM, .inl (cI, 4, .inl (zA fM))), (rT, .inl (cI, 80, .inl (zA fT))), (rX, .inl (cI, 80, .inl (zA fX))), (rY, .inl (cI, 80, .inl (zA fY))), (rR, .inl (cI, 300, .inl (zA b2)))] H := hP.sub [0, 1, 2, 3, 4, 5, 6] rfl
                    have hD : va_D A [(hm, .inr (7, [.int (iI 0), .ref rS, .ref rM, .ref rB, .ref rT, .ref rX, .ref rY, .ref rL, .int (iI n2), .ref rR, .int (iI at1), .long (lI nu), .ref rt, .ref rx, .ref ry, .int (iI fo), .ref rF, .ref rG, .ref rU, .ref rV, .long (lI lo), .long (lI lB), .long (lI hi), .long (lI hB1)])), (rS, .inl (cI, 4, .inl (zA fS))), (rM, .inl (cI, 4, .inl (zA fM))), (rT, .inl (cI, 80, .inl (zA fT))), (rX, .inl (cI, 80, .inl (zA fX))), (rY, .inl (cI, 80, .inl (zA fY))), (rR, .inl (cI, 300, .inl (zA b2)))] := hD.sub [0, 1, 2, 3, 4, 5, 6] (by decide) rfl
                    subst hw184
                    refine wz_callv (wr := [(rS, .inl (cI, 4, .inl (zA fS))), (rM, .inl (cI, 4, .inl (zA fM))), (rT, .inl (cI, 80, .inl (zA fT))), (rX, .inl (cI, 80, .inl (zA fX))), (rY, .inl (cI, 80, .inl (zA fY)))]) (va_runV (As := [.long (lI (foldZ ((fY ((20 * a) + i)) - 0)))]) (rest := []) ⟨hx, hb, hml, hown, hts⟩ (k_X7_write l D cI cJ cT H.size hm 0 rS rM rB rT rX rY rL n2 rR at1 nu rt rx ry fo rF rG rU rV lo lB hi hB1 b2 (foldZ ((fY ((20 * a) + i)) - 0)) (by constructor <;> omega) (by omega)) (cwV 1 hts gX7_pack_X7_write rfl rfl rfl (by decide +kernel) ⟨Nat.le_of_ble_eq_true rfl, Nat.le_of_ble_eq_true rfl⟩) (wz_preV hK hP hD [0, 6] (by decide) rfl rfl 7 0 rfl rfl) rfl rfl hl.1 rfl (lv_room (Nat.le_of_ble_eq_true rfl)) dX7_pack_187 ⟨Nat.le_of_ble_eq_true rfl, Nat.le_of_ble_eq_true rfl⟩) hP hD hS hA [0, 6] [1, 2, 3, 4, 5] rfl rfl rfl (by decide) (fun  u H locs hw187 hP hD hS => ?_)
                    obtain ⟨b3, n3⟩ := u
                    try dsimp only at hw187
                    have hP : va_P D vwCl [(hm, .inr (7, [.int (iI 0), .ref rS, .ref rM, .ref rB, .ref rT, .ref rX, .ref rY, .ref rL, .int (iI n3), .ref rR, .int (iI at1), .long (lI nu), .ref rt, .ref rx, .ref ry, .int (iI fo), .ref rF, .ref rG, .ref rU, .ref rV, .long (lI lo), .long (lI lB), .long (lI hi), .long (lI hB1)])), (rS, .inl (cI, 4, .inl (zA fS))), (rM, .inl (cI, 4, .inl (zA fM))), (rT, .inl (cI, 80, .inl (zA fT))), (rX, .inl (cI, 80, .inl (zA fX))), (rY, .inl (cI, 80, .inl (zA fY))), (rR, .inl (cI, 300, .inl (zA b3)))] H := hP.sub [5, 0, 1, 2, 3, 4, 6] rfl
                    have hD : va_D A [(hm, .inr (7, [.int (iI 0), .ref rS, .ref rM, .ref rB, .ref rT, .ref rX, .ref rY, .ref rL, .int (iI n3), .ref rR, .int (iI at1), .long (lI nu), .ref rt, .ref rx, .ref ry, .int (iI fo), .ref rF, .ref rG, .ref rU, .ref rV, .long (lI lo), .long (lI lB), .long (lI hi), .long (lI hB1)])), (rS, .inl (cI, 4, .inl (zA fS))), (rM, .inl (cI, 4, .inl (zA fM))), (rT, .inl (cI, 80, .inl (zA fT))), (rX, .inl (cI, 80, .inl (zA fX))), (rY, .inl (cI, 80, .inl (zA fY))), (rR, .inl (cI, 300, .inl (zA b3)))] := hD.sub [5, 0, 1, 2, 3, 4, 6] (by decide) rfl
                    have gB3 := wrN_B hw187 gB2 (by omega) (by omega)
                    have gl3 := wrN_4 hw187 (by omega) (by omega)
                    refine lv_iinc (v := iI (i + 1)) (lv' := [(2, .int (iI (i + 1))), (3, .int (iI ((20 * a) + i))), (0, .ref hm), (1, .int (iI a))]) hx hb dX7_pack_190 hl (k := 3) rfl (iI_add _ _) (by decide) rfl (fun ls hl => ?_)
                    refine lv_goto (tgt := 56) hx hb dX7_pack_193 (by decide) ?_
                    exact ih56 (i + 1) b3 n3 _ _ _ ⟨(by omega), (pkR_s (s1 := (b1, n1)) (s2 := (b2, n2)) (s3 := (b3, n3)) a1.1 a5 (by show wrN 4 _ _ (fT (20 * a + i) - pvZ (sh fT (20 * a)) i) = _; rw [eT]; exact hw107) (by show wrN 4 _ _ (foldZ (fX (20 * a + i) - pvZ (sh fX (20 * a)) i)) = _; rw [eX]; exact hw147) (by show wrN 4 _ _ (foldZ (fY (20 * a + i) - pvZ (sh fY (20 * a)) i)) = _; rw [eY]; exact hw187)), (gB3), (by omega)⟩ (by omega) hP hD hS (lv_sub hl [2, 3, 0] rfl)
        exact LP56 (Int.toNat (20 - 0) + 1) 0 b0 n0 _ _ _ ⟨(by omega), (hw51), (gB0), (by omega)⟩ (by omega) hP hD hS (lv_sub hl [1, 2, 0] rfl)
      · skip
        exact absurd c33 (by decide)
    · skip
      refine lv_iconst (v := iI 2) hx hb dX7_pack_21 rfl ?_
      refine lv_goto (tgt := 26) hx hb dX7_pack_22 (by decide) ?_
      refine va_put (D := D) (ci := 7) (v := .int (iI 2)) (ty := .int) (C := RX7) (T := TX7) (N := 24) hx hb hts hin7 tyX7 tyX7_ok nmX7 hown hK hP hD hS 0 rfl rfl 0 (by decide) (hts (.fieldLink RX7 56 "DriftLogModel" "thrown" "I") (by decide +kernel)) (fun _ h9 => h9) rfl (by decide +kernel) rfl rfl (Nat.le_of_ble_eq_true rfl) dX7_pack_26 (fun H locs hP hD hS => ?_)
      have hP : va_P D vwCl [(hm, .inr (7, [.int (iI 2), .ref rS, .ref rM, .ref rB, .ref rT, .ref rX, .ref rY, .ref rL, .int (iI sz1), .ref rR, .int (iI at1), .long (lI nu), .ref rt, .ref rx, .ref ry, .int (iI fo), .ref rF, .ref rG, .ref rU, .ref rV, .long (lI lo), .long (lI lB), .long (lI hi), .long (lI hB1)])), (rS, .inl (cI, 4, .inl (zA fS))), (rM, .inl (cI, 4, .inl (zA fM))), (rT, .inl (cI, 80, .inl (zA fT))), (rX, .inl (cI, 80, .inl (zA fX))), (rY, .inl (cI, 80, .inl (zA fY))), (rR, .inl (cI, 300, .inl (zA fR)))] H := hP
      have hD : va_D A [(hm, .inr (7, [.int (iI 2), .ref rS, .ref rM, .ref rB, .ref rT, .ref rX, .ref rY, .ref rL, .int (iI sz1), .ref rR, .int (iI at1), .long (lI nu), .ref rt, .ref rx, .ref ry, .int (iI fo), .ref rF, .ref rG, .ref rU, .ref rV, .long (lI lo), .long (lI lB), .long (lI hi), .long (lI hB1)])), (rS, .inl (cI, 4, .inl (zA fS))), (rM, .inl (cI, 4, .inl (zA fM))), (rT, .inl (cI, 80, .inl (zA fT))), (rX, .inl (cI, 80, .inl (zA fX))), (rY, .inl (cI, 80, .inl (zA fY))), (rR, .inl (cI, 300, .inl (zA fR)))] := hD
      refine lv_aload_n hx hb dX7_pack_29 rfl (lv_at hl 0 rfl) ?_
      refine va_get (D := D) (ci := 7) (v := .int (iI 2)) (C := RX7) (T := TX7) (N := 24) hx hb hts hin7 hown hK hP 0 rfl rfl 0 (by decide) (hts (.fieldLink RX7 56 "DriftLogModel" "thrown" "I") (by decide +kernel)) (fun _ h9 => h9) rfl dX7_pack_30 ?_
      refine wz_if_le (tgt := 38) hx hb dX7_pack_33 (by decide) (by decide) (fun c33 => ?_) (fun c33 => ?_)
      · skip
        exact absurd c33 (by decide)
      · skip
        refine lv_iconst (v := iI 0) hx hb dX7_pack_36 rfl ?_
        rw [hQ]
        exact wz_reti (tys := TY cI cJ cT) (2, fR, sz1) hx hb hr hlocks hK hP hD hS (by (try dsimp only); exact (⟨fun h => (by first | exact ⟨rfl, rfl, rfl⟩ | (exfalso; omega)), fun h h2 => (by first | exact ⟨rfl, rfl, rfl⟩ | (exfalso; omega)), fun h h2 => (by exfalso; omega)⟩)) dX7_pack_37
  · skip
    refine lv_iconst (v := iI 1) hx hb dX7_pack_8 rfl ?_
    refine lv_goto (tgt := 26) hx hb dX7_pack_9 (by decide) ?_
    refine va_put (D := D) (ci := 7) (v := .int (iI 1)) (ty := .int) (C := RX7) (T := TX7) (N := 24) hx hb hts hin7 tyX7 tyX7_ok nmX7 hown hK hP hD hS 0 rfl rfl 0 (by decide) (hts (.fieldLink RX7 56 "DriftLogModel" "thrown" "I") (by decide +kernel)) (fun _ h9 => h9) rfl (by decide +kernel) rfl rfl (Nat.le_of_ble_eq_true rfl) dX7_pack_26 (fun H locs hP hD hS => ?_)
    have hP : va_P D vwCl [(hm, .inr (7, [.int (iI 1), .ref rS, .ref rM, .ref rB, .ref rT, .ref rX, .ref rY, .ref rL, .int (iI sz1), .ref rR, .int (iI at1), .long (lI nu), .ref rt, .ref rx, .ref ry, .int (iI fo), .ref rF, .ref rG, .ref rU, .ref rV, .long (lI lo), .long (lI lB), .long (lI hi), .long (lI hB1)])), (rS, .inl (cI, 4, .inl (zA fS))), (rM, .inl (cI, 4, .inl (zA fM))), (rT, .inl (cI, 80, .inl (zA fT))), (rX, .inl (cI, 80, .inl (zA fX))), (rY, .inl (cI, 80, .inl (zA fY))), (rR, .inl (cI, 300, .inl (zA fR)))] H := hP
    have hD : va_D A [(hm, .inr (7, [.int (iI 1), .ref rS, .ref rM, .ref rB, .ref rT, .ref rX, .ref rY, .ref rL, .int (iI sz1), .ref rR, .int (iI at1), .long (lI nu), .ref rt, .ref rx, .ref ry, .int (iI fo), .ref rF, .ref rG, .ref rU, .ref rV, .long (lI lo), .long (lI lB), .long (lI hi), .long (lI hB1)])), (rS, .inl (cI, 4, .inl (zA fS))), (rM, .inl (cI, 4, .inl (zA fM))), (rT, .inl (cI, 80, .inl (zA fT))), (rX, .inl (cI, 80, .inl (zA fX))), (rY, .inl (cI, 80, .inl (zA fY))), (rR, .inl (cI, 300, .inl (zA fR)))] := hD
    refine lv_aload_n hx hb dX7_pack_29 rfl (lv_at hl 0 rfl) ?_
    refine va_get (D := D) (ci := 7) (v := .int (iI 1)) (C := RX7) (T := TX7) (N := 24) hx hb hts hin7 hown hK hP 0 rfl rfl 0 (by decide) (hts (.fieldLink RX7 56 "DriftLogModel" "thrown" "I") (by decide +kernel)) (fun _ h9 => h9) rfl dX7_pack_30 ?_
    refine wz_if_le (tgt := 38) hx hb dX7_pack_33 (by decide) (by decide) (fun c33 => ?_) (fun c33 => ?_)
    · skip
      exact absurd c33 (by decide)
    · skip
      refine lv_iconst (v := iI 0) hx hb dX7_pack_36 rfl ?_
      rw [hQ]
      exact wz_reti (tys := TY cI cJ cT) (1, fR, sz1) hx hb hr hlocks hK hP hD hS (by (try dsimp only); exact (⟨fun h => (by first | exact ⟨rfl, rfl, rfl⟩ | (exfalso; omega)), fun h h2 => (by first | exact ⟨rfl, rfl, rfl⟩ | (exfalso; omega)), fun h h2 => (by exfalso; omega)⟩)) dX7_pack_37
set_option maxHeartbeats 4000000 in
set_option maxRecDepth 100000 in
theorem k_X7_bytes (l : Launch) (D : va_G) (cI cJ cT : ClassId) (sz : Nat) (hm : Nat) (th : Int) (rS : Nat) (rM : Nat) (rB : Nat) (rT : Nat) (rX : Nat) (rY : Nat) (rL : Nat) (sz1 : Int) (rR : Nat) (at1 : Int) (nu : Int) (rt : Nat) (rx : Nat) (ry : Nat) (fo : Int) (rF : Nat) (rG : Nat) (rU : Nat) (rV : Nat) (lo : Int) (lB : Int) (hi : Int) (hB1 : Int) (fR : Int → Int) (k : Int) (h1 : 0 ≤ sz1 ∧ sz1 ≤ 300) (hk : rI k) : Met l yX7_bytes wsX7_bytes { frames := 0, cells := 0, slots := 0, locals := 0 } (zPc D (TY cI cJ cT) [.ref hm, .int (iI k)] [(hm, .inr (7, [.int (iI th), .ref rS, .ref rM, .ref rB, .ref rT, .ref rX, .ref rY, .ref rL, .int (iI sz1), .ref rR, .int (iI at1), .long (lI nu), .ref rt, .ref rx, .ref ry, .int (iI fo), .ref rF, .ref rG, .ref rU, .ref rV, .long (lI lo), .long (lI lB), .long (lI hi), .long (lI hB1)])), (rR, .inl (cI, 300, .inl (zA fR)))] sz) (zQi D (TY cI cJ cT) (va_A [(hm, .inr (7, [.int (iI th), .ref rS, .ref rM, .ref rB, .ref rT, .ref rX, .ref rY, .ref rL, .int (iI sz1), .ref rR, .int (iI at1), .long (lI nu), .ref rt, .ref rx, .ref ry, .int (iI fo), .ref rF, .ref rG, .ref rU, .ref rV, .long (lI lo), .long (lI lB), .long (lI hi), .long (lI hB1)])), (rR, .inl (cI, 300, .inl (zA fR)))] sz) (fun (z : Int) (u : Int) => u = 0 ∧ z = (if k = -1 then sz1 else if k < 0 ∨ sz1 ≤ k then -1 else fR k)) (fun (u : Int) => [(hm, .inr (7, [.int (iI u), .ref rS, .ref rM, .ref rB, .ref rT, .ref rX, .ref rY, .ref rL, .int (iI sz1), .ref rR, .int (iI at1), .long (lI nu), .ref rt, .ref rx, .ref ry, .int (iI fo), .ref rF, .ref rG, .ref rU, .ref rV, .long (lI lo), .long (lI lB), .long (lI hi), .long (lI hB1)])), (rR, .inl (cI, 300, .inl (zA fR)))])) 0 0 (va_A [(hm, .inr (7, [.int (iI th), .ref rS, .ref rM, .ref rB, .ref rT, .ref rX, .ref rY, .ref rL, .int (iI sz1), .ref rR, .int (iI at1), .long (lI nu), .ref rt, .ref rx, .ref ry, .int (iI fo), .ref rF, .ref rG, .ref rU, .ref rV, .long (lI lo), .long (lI lB), .long (lI hi), .long (lI hB1)])), (rR, .inl (cI, 300, .inl (zA fR)))] sz) := by
  refine zMi (cc := cX7_bytes) (maxL := 2) (ret := (some .int)) (by decide) rfl (Nat.le_of_ble_eq_true rfl) ?_
  intro p e s m below meth c A ls hE
  obtain ⟨hx, hb, hr, hts, hown, hlocks, hml, hnm, hP, hK, hD, hA, hS, hl⟩ := hE
  have hown : s.vm.findClass RX7 = some m.cls := hown
  have hl : lv_has ls 2 [(0, .ref hm), (1, .int (iI k))] := hl
  have hin7 : ∀ w ∈ wsX70, w ∈ wsX7_bytes := by decide +kernel
  obtain ⟨Q, hQ⟩ : ∃ Q, Q = MQ below (zQi D (TY cI cJ cT) A (fun (z : Int) (u : Int) => u = 0 ∧ z = (if k = -1 then sz1 else if k < 0 ∨ sz1 ≤ k then -1 else fR k)) (fun (u : Int) => [(hm, .inr (7, [.int (iI u), .ref rS, .ref rM, .ref rB, .ref rT, .ref rX, .ref rY, .ref rL, .int (iI sz1), .ref rR, .int (iI at1), .long (lI nu), .ref rt, .ref rx, .ref ry, .int (iI fo), .ref rF, .ref rG, .ref rU, .ref rV, .long (lI lo), .long (lI lB), .long (lI hi), .long (lI hB1)])), (rR, .inl (cI, 300, .inl (zA fR)))])) ([.ref hm, .int (iI k)] : List Value).toArray s 0 0 A := ⟨_, rfl⟩
  rw [← hQ]
  refine lv_aload_n hx hb dX7_bytes_0 rfl (lv_at hl 0 rfl) ?_
  refine lv_iconst (v := iI 0) hx hb dX7_bytes_1 rfl ?_
  refine va_put (D := D) (ci := 7) (v := .int (iI 0)) (ty := .int) (C := RX7) (T := TX7) (N := 24) hx hb hts hin7 tyX7 tyX7_ok nmX7 hown hK hP hD hS 0 rfl rfl 0 (by decide) (hts (.fieldLink RX7 56 "DriftLogModel" "thrown" "I") (by decide +kernel)) (fun _ h9 => h9) rfl (by decide +kernel) rfl rfl (Nat.le_of_ble_eq_true rfl) dX7_bytes_2 (fun H locs hP hD hS => ?_)
  have hP : va_P D vwCl [(hm, .inr (7, [.int (iI 0), .ref rS, .ref rM, .ref rB, .ref rT, .ref rX, .ref rY, .ref rL, .int (iI sz1), .ref rR, .int (iI at1), .long (lI nu), .ref rt, .ref rx, .ref ry, .int (iI fo), .ref rF, .ref rG, .ref rU, .ref rV, .long (lI lo), .long (lI lB), .long (lI hi), .long (lI hB1)])), (rR, .inl (cI, 300, .inl (zA fR)))] H := hP
  have hD : va_D A [(hm, .inr (7, [.int (iI 0), .ref rS, .ref rM, .ref rB, .ref rT, .ref rX, .ref rY, .ref rL, .int (iI sz1), .ref rR, .int (iI at1), .long (lI nu), .ref rt, .ref rx, .ref ry, .int (iI fo), .ref rF, .ref rG, .ref rU, .ref rV, .long (lI lo), .long (lI lB), .long (lI hi), .long (lI hB1)])), (rR, .inl (cI, 300, .inl (zA fR)))] := hD
  refine lv_iload_n hx hb dX7_bytes_5 rfl (lv_at hl 1 rfl) ?_
  refine lv_iconst (v := iI (-1)) hx hb dX7_bytes_6 rfl ?_
  refine wz_icmp_ne (tgt := 17) hx hb dX7_bytes_7 (by decide) ⟨by omega, by omega⟩ (by decide) (fun c7 => ?_) (fun c7 => ?_)
  · skip
    refine lv_iload_n hx hb dX7_bytes_17 rfl (lv_at hl 1 rfl) ?_
    refine wz_if_lt (tgt := 29) hx hb dX7_bytes_18 (by decide) ⟨by omega, by omega⟩ (fun c18 => ?_) (fun c18 => ?_)
    · skip
      refine lv_iconst (v := iI (-1)) hx hb dX7_bytes_29 rfl ?_
      refine lv_goto (tgt := 39) hx hb dX7_bytes_30 (by decide) ?_
      rw [hQ]
      exact wz_reti (tys := TY cI cJ cT) 0 hx hb hr hlocks hK hP hD hS (⟨rfl, by rw [if_neg c7, if_pos (by omega)]⟩) dX7_bytes_39
    · skip
      refine lv_iload_n hx hb dX7_bytes_21 rfl (lv_at hl 1 rfl) ?_
      refine lv_aload_n hx hb dX7_bytes_22 rfl (lv_at hl 0 rfl) ?_
      refine va_get (D := D) (ci := 7) (v := .int (iI sz1)) (C := RX7) (T := TX7) (N := 24) hx hb hts hin7 hown hK hP 0 rfl rfl 8 (by decide) (hts (.fieldLink RX7 95 "DriftLogModel" "size" "I") (by decide +kernel)) (fun _ h9 => h9) rfl dX7_bytes_23 ?_
      refine wz_icmp_lt (tgt := 33) hx hb dX7_bytes_26 (by decide) ⟨by omega, by omega⟩ ⟨by omega, by omega⟩ (fun c26 => ?_) (fun c26 => ?_)
      · skip
        refine lv_aload_n hx hb dX7_bytes_33 rfl (lv_at hl 0 rfl) ?_
        refine va_get (D := D) (ci := 7) (v := .ref rR) (C := RX7) (T := TX7) (N := 24) hx hb hts hin7 hown hK hP 0 rfl rfl 9 (by decide) (hts (.fieldLink RX7 31 "DriftLogModel" "row" "[I") (by decide +kernel)) (fun _ h9 => h9) rfl dX7_bytes_34 ?_
        refine lv_iload_n hx hb dX7_bytes_37 rfl (lv_at hl 1 rfl) ?_
        refine wz_iald (tys := TY cI cJ cT) hx hb hK hP 1 0 rfl rfl (by decide) (by constructor <;> omega) dX7_bytes_38 ?_
        rw [hQ]
        exact wz_reti (tys := TY cI cJ cT) 0 hx hb hr hlocks hK hP hD hS (⟨rfl, by rw [if_neg c7, if_neg (by omega)]⟩) dX7_bytes_39
      · skip
        refine lv_iconst (v := iI (-1)) hx hb dX7_bytes_29 rfl ?_
        refine lv_goto (tgt := 39) hx hb dX7_bytes_30 (by decide) ?_
        rw [hQ]
        exact wz_reti (tys := TY cI cJ cT) 0 hx hb hr hlocks hK hP hD hS (⟨rfl, by rw [if_neg c7, if_pos (by omega)]⟩) dX7_bytes_39
  · skip
    refine lv_aload_n hx hb dX7_bytes_10 rfl (lv_at hl 0 rfl) ?_
    refine va_get (D := D) (ci := 7) (v := .int (iI sz1)) (C := RX7) (T := TX7) (N := 24) hx hb hts hin7 hown hK hP 0 rfl rfl 8 (by decide) (hts (.fieldLink RX7 95 "DriftLogModel" "size" "I") (by decide +kernel)) (fun _ h9 => h9) rfl dX7_bytes_11 ?_
    refine lv_goto (tgt := 39) hx hb dX7_bytes_14 (by decide) ?_
    rw [hQ]
    exact wz_reti (tys := TY cI cJ cT) 0 hx hb hr hlocks hK hP hD hS (⟨rfl, by rw [if_pos c7]⟩) dX7_bytes_39
set_option maxHeartbeats 4000000 in
set_option maxRecDepth 100000 in
theorem k_X7_put (l : Launch) (D : va_G) (cI cJ cT : ClassId) (sz : Nat) (hm : Nat) (th : Int) (rS : Nat) (rM : Nat) (rB : Nat) (rT : Nat) (rX : Nat) (rY : Nat) (rL : Nat) (sz1 : Int) (rR : Nat) (at1 : Int) (nu : Int) (rt : Nat) (rx : Nat) (ry : Nat) (fo : Int) (rF : Nat) (rG : Nat) (rU : Nat) (rV : Nat) (lo : Int) (lB : Int) (hi : Int) (hB1 : Int) (fR : Int → Int) (n : Int) (pt : Int) (h1 : 0 ≤ sz1 ∧ sz1 ≤ 300) (hn : rI n) (hpt : -9223372036854775808 ≤ pt ∧ pt ≤ 9223372036854775807) : Met l yX7_put wsX7_put { frames := 0, cells := 0, slots := 0, locals := 0 } (zPc D (TY cI cJ cT) [.ref hm, .int (iI n), .long (lI pt)] [(hm, .inr (7, [.int (iI th), .ref rS, .ref rM, .ref rB, .ref rT, .ref rX, .ref rY, .ref rL, .int (iI sz1), .ref rR, .int (iI at1), .long (lI nu), .ref rt, .ref rx, .ref ry, .int (iI fo), .ref rF, .ref rG, .ref rU, .ref rV, .long (lI lo), .long (lI lB), .long (lI hi), .long (lI hB1)])), (rR, .inl (cI, 300, .inl (zA fR)))] sz) (zQi D (TY cI cJ cT) (va_A [(hm, .inr (7, [.int (iI th), .ref rS, .ref rM, .ref rB, .ref rT, .ref rX, .ref rY, .ref rL, .int (iI sz1), .ref rR, .int (iI at1), .long (lI nu), .ref rt, .ref rx, .ref ry, .int (iI fo), .ref rF, .ref rG, .ref rU, .ref rV, .long (lI lo), .long (lI lB), .long (lI hi), .long (lI hB1)])), (rR, .inl (cI, 300, .inl (zA fR)))] sz) (fun (z : Int) (u : Int × (Int → Int) × Int) => u.1 = 0 ∧ (¬ (1 ≤ n ∧ n ≤ 8 ∧ sz1 + n ≤ 300) → z = 0 ∧ u.2.1 = fR ∧ u.2.2 = sz1) ∧ ((1 ≤ n ∧ n ≤ 8 ∧ sz1 + n ≤ 300) → z = 1 ∧ ptN (Int.toNat n) fR sz1 pt = (u.2.1, u.2.2))) (fun (u : Int × (Int → Int) × Int) => [(hm, .inr (7, [.int (iI u.1), .ref rS, .ref rM, .ref rB, .ref rT, .ref rX, .ref rY, .ref rL, .int (iI u.2.2), .ref rR, .int (iI at1), .long (lI nu), .ref rt, .ref rx, .ref ry, .int (iI fo), .ref rF, .ref rG, .ref rU, .ref rV, .long (lI lo), .long (lI lB), .long (lI hi), .long (lI hB1)])), (rR, .inl (cI, 300, .inl (zA u.2.1)))])) 0 0 (va_A [(hm, .inr (7, [.int (iI th), .ref rS, .ref rM, .ref rB, .ref rT, .ref rX, .ref rY, .ref rL, .int (iI sz1), .ref rR, .int (iI at1), .long (lI nu), .ref rt, .ref rx, .ref ry, .int (iI fo), .ref rF, .ref rG, .ref rU, .ref rV, .long (lI lo), .long (lI lB), .long (lI hi), .long (lI hB1)])), (rR, .inl (cI, 300, .inl (zA fR)))] sz) := by
  refine zMi (cc := cX7_put) (maxL := 5) (ret := (some .boolean)) (by decide) rfl (Nat.le_of_ble_eq_true rfl) ?_
  intro p e s m below meth c A ls hE
  obtain ⟨hx, hb, hr, hts, hown, hlocks, hml, hnm, hP, hK, hD, hA, hS, hl⟩ := hE
  have hown : s.vm.findClass RX7 = some m.cls := hown
  have hl : lv_has ls 5 [(0, .ref hm), (1, .int (iI n)), (2, .long (lI pt))] := hl
  have hin7 : ∀ w ∈ wsX70, w ∈ wsX7_put := by decide +kernel
  obtain ⟨Q, hQ⟩ : ∃ Q, Q = MQ below (zQi D (TY cI cJ cT) A (fun (z : Int) (u : Int × (Int → Int) × Int) => u.1 = 0 ∧ (¬ (1 ≤ n ∧ n ≤ 8 ∧ sz1 + n ≤ 300) → z = 0 ∧ u.2.1 = fR ∧ u.2.2 = sz1) ∧ ((1 ≤ n ∧ n ≤ 8 ∧ sz1 + n ≤ 300) → z = 1 ∧ ptN (Int.toNat n) fR sz1 pt = (u.2.1, u.2.2))) (fun (u : Int × (Int → Int) × Int) => [(hm, .inr (7, [.int (iI u.1), .ref rS, .ref rM, .ref rB, .ref rT, .ref rX, .ref rY, .ref rL, .int (iI u.2.2), .ref rR, .int (iI at1), .long (lI nu), .ref rt, .ref rx, .ref ry, .int (iI fo), .ref rF, .ref rG, .ref rU, .ref rV, .long (lI lo), .long (lI lB), .long (lI hi), .long (lI hB1)])), (rR, .inl (cI, 300, .inl (zA u.2.1)))])) ([.ref hm, .int (iI n), .long (lI pt)] : List Value).toArray s 0 0 A := ⟨_, rfl⟩
  rw [← hQ]
  refine lv_aload_n hx hb dX7_put_0 rfl (lv_at hl 0 rfl) ?_
  refine lv_iconst (v := iI 0) hx hb dX7_put_1 rfl ?_
  refine va_put (D := D) (ci := 7) (v := .int (iI 0)) (ty := .int) (C := RX7) (T := TX7) (N := 24) hx hb hts hin7 tyX7 tyX7_ok nmX7 hown hK hP hD hS 0 rfl rfl 0 (by decide) (hts (.fieldLink RX7 56 "DriftLogModel" "thrown" "I") (by decide +kernel)) (fun _ h9 => h9) rfl (by decide +kernel) rfl rfl (Nat.le_of_ble_eq_true rfl) dX7_put_2 (fun H locs hP hD hS => ?_)
  have hP : va_P D vwCl [(hm, .inr (7, [.int (iI 0), .ref rS, .ref rM, .ref rB, .ref rT, .ref rX, .ref rY, .ref rL, .int (iI sz1), .ref rR, .int (iI at1), .long (lI nu), .ref rt, .ref rx, .ref ry, .int (iI fo), .ref rF, .ref rG, .ref rU, .ref rV, .long (lI lo), .long (lI lB), .long (lI hi), .long (lI hB1)])), (rR, .inl (cI, 300, .inl (zA fR)))] H := hP
  have hD : va_D A [(hm, .inr (7, [.int (iI 0), .ref rS, .ref rM, .ref rB, .ref rT, .ref rX, .ref rY, .ref rL, .int (iI sz1), .ref rR, .int (iI at1), .long (lI nu), .ref rt, .ref rx, .ref ry, .int (iI fo), .ref rF, .ref rG, .ref rU, .ref rV, .long (lI lo), .long (lI lB), .long (lI hi), .long (lI hB1)])), (rR, .inl (cI, 300, .inl (zA fR)))] := hD
  refine lv_iload_n hx hb dX7_put_5 rfl (lv_at hl 1 rfl) ?_
  refine lv_iconst (v := iI 1) hx hb dX7_put_6 rfl ?_
  refine wz_icmp_lt (tgt := 28) hx hb dX7_put_7 (by decide) ⟨by omega, by omega⟩ (by decide) (fun c7 => ?_) (fun c7 => ?_)
  · skip
    refine lv_iconst (v := iI 0) hx hb dX7_put_28 rfl ?_
    rw [hQ]
    exact wz_retz (tys := TY cI cJ cT) (0, fR, sz1) hx hb hr hlocks hK hP hD hS (by first | decide | exact bz_01 _ | omega) (by (try dsimp only); exact (⟨rfl, fun h => ⟨rfl, rfl, rfl⟩, fun h => (by exfalso; omega)⟩)) dX7_put_29
  · skip
    refine lv_iload_n hx hb dX7_put_10 rfl (lv_at hl 1 rfl) ?_
    refine lv_bipush (v := iI 8) hx hb dX7_put_11 (by decide) ?_
    refine wz_icmp_gt (tgt := 28) hx hb dX7_put_13 (by decide) ⟨by omega, by omega⟩ (by decide) (fun c13 => ?_) (fun c13 => ?_)
    · skip
      refine lv_iconst (v := iI 0) hx hb dX7_put_28 rfl ?_
      rw [hQ]
      exact wz_retz (tys := TY cI cJ cT) (0, fR, sz1) hx hb hr hlocks hK hP hD hS (by first | decide | exact bz_01 _ | omega) (by (try dsimp only); exact (⟨rfl, fun h => ⟨rfl, rfl, rfl⟩, fun h => (by exfalso; omega)⟩)) dX7_put_29
    · skip
      refine lv_aload_n hx hb dX7_put_16 rfl (lv_at hl 0 rfl) ?_
      refine va_get (D := D) (ci := 7) (v := .int (iI sz1)) (C := RX7) (T := TX7) (N := 24) hx hb hts hin7 hown hK hP 0 rfl rfl 8 (by decide) (hts (.fieldLink RX7 95 "DriftLogModel" "size" "I") (by decide +kernel)) (fun _ h9 => h9) rfl dX7_put_17 ?_
      refine lv_iload_n hx hb dX7_put_20 rfl (lv_at hl 1 rfl) ?_
      refine wz_iadd hx hb dX7_put_21 ?_
      refine lv_sipush (v := iI 300) hx hb dX7_put_22 (by decide) ?_
      refine wz_icmp_le (tgt := 30) hx hb dX7_put_25 (by decide) ⟨by omega, by omega⟩ (by decide) (fun c25 => ?_) (fun c25 => ?_)
      · skip
        refine lv_iload_n hx hb dX7_put_30 rfl (lv_at hl 1 rfl) ?_
        refine lv_iconst (v := iI 1) hx hb dX7_put_31 rfl ?_
        refine wz_isub hx hb dX7_put_32 ?_
        refine lv_istore (lv' := [(4, .int (iI (n - 1))), (0, .ref hm), (1, .int (iI n)), (2, .long (lI pt))]) hx hb dX7_put_33 hl (by decide) rfl (fun ls hl => ?_)
        have LP35 : ∀ (N35 : Nat) (k : Int) (gR : Int → Int) (gn : Int) (H : Heap) (locs : List Loc) (ls : Array Slot), ((-1 ≤ k ∧ k ≤ 7) ∧ (gn + k + 1 = sz1 + n ∧ 0 ≤ gn) ∧ ptN n.toNat fR sz1 pt = ptN (k + 1).toNat gR gn pt) → (k + 1) < (N35 : Int) → va_P D vwCl [(hm, .inr (7, [.int (iI 0), .ref rS, .ref rM, .ref rB, .ref rT, .ref rX, .ref rY, .ref rL, .int (iI gn), .ref rR, .int (iI at1), .long (lI nu), .ref rt, .ref rx, .ref ry, .int (iI fo), .ref rF, .ref rG, .ref rU, .ref rV, .long (lI lo), .long (lI lB), .long (lI hi), .long (lI hB1)])), (rR, .inl (cI, 300, .inl (zA gR)))] H → va_D A [(hm, .inr (7, [.int (iI 0), .ref rS, .ref rM, .ref rB, .ref rT, .ref rX, .ref rY, .ref rL, .int (iI gn), .ref rR, .int (iI at1), .long (lI nu), .ref rt, .ref rx, .ref ry, .int (iI fo), .ref rF, .ref rG, .ref rU, .ref rV, .long (lI lo), .long (lI lB), .long (lI hi), .long (lI hB1)])), (rR, .inl (cI, 300, .inl (zA gR)))] → va_S A s.heap H locs → lv_has ls 5 [(0, .ref hm), (1, .int (iI n)), (2, .long (lI pt)), (4, .int (iI k))] → W p l e { frames := 0, cells := 0, slots := 0, locals := 0 } s m ([.ref hm, .int (iI n), .long (lI pt)] : List Value).toArray below meth c H locs 0 0 Q (F0 m 35 ls []) := by
          intro N35
          induction N35 with
          | zero =>
            intro k gR gn H locs ls hI hm
            obtain ⟨a1, a2, a3⟩ := hI
            exfalso; omega
          | succ N35 ih35 =>
            intro k gR gn H locs ls hI hm35 hP hD hS hl
            obtain ⟨a1, a2, a3⟩ := hI
            refine lv_iload hx hb dX7_put_35 (lv_at hl 3 rfl) ?_
            refine wz_if_lt (tgt := 77) hx hb dX7_put_37 (by decide) ⟨by omega, by omega⟩ (fun c37 => ?_) (fun c37 => ?_)
            · skip
              refine lv_iconst (v := iI 1) hx hb dX7_put_77 rfl ?_
              rw [hQ]
              exact wz_retz (tys := TY cI cJ cT) (0, gR, gn) hx hb hr hlocks hK hP hD hS (by first | decide | exact bz_01 _ | omega) (by (try dsimp only); exact (⟨rfl, fun h => (by exfalso; omega), fun h => ⟨rfl, by rw [a3, show (k + 1).toNat = 0 by omega]; rfl⟩⟩)) dX7_put_78
            · skip
              refine lv_aload_n hx hb dX7_put_40 rfl (lv_at hl 0 rfl) ?_
              refine va_get (D := D) (ci := 7) (v := .ref rR) (C := RX7) (T := TX7) (N := 24) hx hb hts hin7 hown hK hP 0 rfl rfl 9 (by decide) (hts (.fieldLink RX7 31 "DriftLogModel" "row" "[I") (by decide +kernel)) (fun _ h9 => h9) rfl dX7_put_41 ?_
              refine lv_aload_n hx hb dX7_put_44 rfl (lv_at hl 0 rfl) ?_
              refine va_get (D := D) (ci := 7) (v := .int (iI gn)) (C := RX7) (T := TX7) (N := 24) hx hb hts hin7 hown hK hP 0 rfl rfl 8 (by decide) (hts (.fieldLink RX7 95 "DriftLogModel" "size" "I") (by decide +kernel)) (fun _ h9 => h9) rfl dX7_put_45 ?_
              refine lv_lload_n hx hb dX7_put_48 rfl (lv_at hl 2 rfl) ?_
              refine lv_bipush (v := iI 8) hx hb dX7_put_49 (by decide) ?_
              refine lv_iload hx hb dX7_put_51 (lv_at hl 3 rfl) ?_
              refine wz_imul hx hb dX7_put_53 ?_
              refine lv_lshr hx hb dX7_put_54 rfl ?_
              refine wz_topl (y := lI (pt / 2 ^ (8 * k).toNat)) (by_s hpt ⟨by omega, by omega⟩) ?_
              refine wz_l2i hx hb dX7_put_55 ?_
              refine lv_sipush (v := iI 255) hx hb dX7_put_56 (by decide) ?_
              refine lv_iand hx hb dX7_put_59 ?_
              refine wz_topi (y := iI (byZ pt k)) (iI_and255 _) ?_
              refine wz_iast (tys := TY cI cJ cT) hx hb hK hP hD hS 1 0 rfl rfl (by decide) (by constructor <;> omega) dX7_put_60 (fun H locs hP hD hS => ?_)
              have hP : va_P D vwCl [(hm, .inr (7, [.int (iI 0), .ref rS, .ref rM, .ref rB, .ref rT, .ref rX, .ref rY, .ref rL, .int (iI gn), .ref rR, .int (iI at1), .long (lI nu), .ref rt, .ref rx, .ref ry, .int (iI fo), .ref rF, .ref rG, .ref rU, .ref rV, .long (lI lo), .long (lI lB), .long (lI hi), .long (lI hB1)])), (rR, .inl (cI, 300, .inl (zA (uZ gR gn (byZ pt k)))))] H := hP
              have hD : va_D A [(hm, .inr (7, [.int (iI 0), .ref rS, .ref rM, .ref rB, .ref rT, .ref rX, .ref rY, .ref rL, .int (iI gn), .ref rR, .int (iI at1), .long (lI nu), .ref rt, .ref rx, .ref ry, .int (iI fo), .ref rF, .ref rG, .ref rU, .ref rV, .long (lI lo), .long (lI lB), .long (lI hi), .long (lI hB1)])), (rR, .inl (cI, 300, .inl (zA (uZ gR gn (byZ pt k)))))] := hD
              refine lv_aload_n hx hb dX7_put_61 rfl (lv_at hl 0 rfl) ?_
              refine lv_dup hx hb dX7_put_62 rfl ?_
              refine va_get (D := D) (ci := 7) (v := .int (iI gn)) (C := RX7) (T := TX7) (N := 24) hx hb hts hin7 hown hK hP 0 rfl rfl 8 (by decide) (hts (.fieldLink RX7 95 "DriftLogModel" "size" "I") (by decide +kernel)) (fun _ h9 => h9) rfl dX7_put_63 ?_
              refine lv_iconst (v := iI 1) hx hb dX7_put_66 rfl ?_
              refine wz_iadd hx hb dX7_put_67 ?_
              refine va_put (D := D) (ci := 7) (v := .int (iI (gn + 1))) (ty := .int) (C := RX7) (T := TX7) (N := 24) hx hb hts hin7 tyX7 tyX7_ok nmX7 hown hK hP hD hS 0 rfl rfl 8 (by decide) (hts (.fieldLink RX7 95 "DriftLogModel" "size" "I") (by decide +kernel)) (fun _ h9 => h9) rfl (by decide +kernel) rfl rfl (Nat.le_of_ble_eq_true rfl) dX7_put_68 (fun H locs hP hD hS => ?_)
              have hP : va_P D vwCl [(hm, .inr (7, [.int (iI 0), .ref rS, .ref rM, .ref rB, .ref rT, .ref rX, .ref rY, .ref rL, .int (iI (gn + 1)), .ref rR, .int (iI at1), .long (lI nu), .ref rt, .ref rx, .ref ry, .int (iI fo), .ref rF, .ref rG, .ref rU, .ref rV, .long (lI lo), .long (lI lB), .long (lI hi), .long (lI hB1)])), (rR, .inl (cI, 300, .inl (zA (uZ gR gn (byZ pt k)))))] H := hP
              have hD : va_D A [(hm, .inr (7, [.int (iI 0), .ref rS, .ref rM, .ref rB, .ref rT, .ref rX, .ref rY, .ref rL, .int (iI (gn + 1)), .ref rR, .int (iI at1), .long (lI nu), .ref rt, .ref rx, .ref ry, .int (iI fo), .ref rF, .ref rG, .ref rU, .ref rV, .long (lI lo), .long (lI lB), .long (lI hi), .long (lI hB1)])), (rR, .inl (cI, 300, .inl (zA (uZ gR gn (byZ pt k)))))] := hD
              refine lv_iinc (v := iI (k + (-1))) (lv' := [(4, .int (iI (k + (-1)))), (0, .ref hm), (1, .int (iI n)), (2, .long (lI pt))]) hx hb dX7_put_71 hl (k := 3) rfl (iI_add _ _) (by decide) rfl (fun ls hl => ?_)
              refine lv_goto (tgt := 35) hx hb dX7_put_74 (by decide) ?_
              exact ih35 (k + (-1)) (uZ gR gn (byZ pt k)) (gn + 1) _ _ _ ⟨(by omega), (by omega), (by rw [a3, show (k + 1).toNat = (k + (-1) + 1).toNat + 1 by omega]; show ptN _ (uZ gR gn (byZ pt ((k + (-1) + 1).toNat : Int))) (gn + 1) pt = _; rw [show (((k + (-1) + 1).toNat : Nat) : Int) = k by omega])⟩ (by omega) hP hD hS (lv_sub hl [1, 2, 3, 0] rfl)
        exact LP35 (Int.toNat ((n - 1) + 1) + 1) (n - 1) fR sz1 _ _ _ ⟨(by omega), (by omega), (by rw [show n - 1 + 1 = n by omega])⟩ (by omega) hP hD hS (lv_sub hl [1, 2, 3, 0] rfl)
      · skip
        refine lv_iconst (v := iI 0) hx hb dX7_put_28 rfl ?_
        rw [hQ]
        exact wz_retz (tys := TY cI cJ cT) (0, fR, sz1) hx hb hr hlocks hK hP hD hS (by first | decide | exact bz_01 _ | omega) (by (try dsimp only); exact (⟨rfl, fun h => ⟨rfl, rfl, rfl⟩, fun h => (by exfalso; omega)⟩)) dX7_put_29
set_option maxHeartbeats 4000000 in
set_option maxRecDepth 100000 in
theorem k_X7_cut (l : Launch) (D : va_G) (cI cJ cT : ClassId) (sz : Nat) (hm : Nat) (th : Int) (rS : Nat) (rM : Nat) (rB : Nat) (rT : Nat) (rX : Nat) (rY : Nat) (rL : Nat) (sz1 : Int) (rR : Nat) (at1 : Int) (nu : Int) (rt : Nat) (rx : Nat) (ry : Nat) (fo : Int) (rF : Nat) (rG : Nat) (rU : Nat) (rV : Nat) (lo : Int) (lB : Int) (hi : Int) (hB1 : Int) (n : Int) (h1 : 0 ≤ sz1 ∧ sz1 ≤ 300) (hn : rI n) : Met l yX7_cut wsX7_cut { frames := 0, cells := 0, slots := 0, locals := 0 } (zPc D (TY cI cJ cT) [.ref hm, .int (iI n)] [(hm, .inr (7, [.int (iI th), .ref rS, .ref rM, .ref rB, .ref rT, .ref rX, .ref rY, .ref rL, .int (iI sz1), .ref rR, .int (iI at1), .long (lI nu), .ref rt, .ref rx, .ref ry, .int (iI fo), .ref rF, .ref rG, .ref rU, .ref rV, .long (lI lo), .long (lI lB), .long (lI hi), .long (lI hB1)]))] sz) (zQi D (TY cI cJ cT) (va_A [(hm, .inr (7, [.int (iI th), .ref rS, .ref rM, .ref rB, .ref rT, .ref rX, .ref rY, .ref rL, .int (iI sz1), .ref rR, .int (iI at1), .long (lI nu), .ref rt, .ref rx, .ref ry, .int (iI fo), .ref rF, .ref rG, .ref rU, .ref rV, .long (lI lo), .long (lI lB), .long (lI hi), .long (lI hB1)]))] sz) (fun (z : Int) (u : Int × Int) => u.1 = 0 ∧ (¬ (0 ≤ n ∧ n ≤ sz1) → z = 0 ∧ u.2 = sz1) ∧ ((0 ≤ n ∧ n ≤ sz1) → z = 1 ∧ u.2 = n)) (fun (u : Int × Int) => [(hm, .inr (7, [.int (iI u.1), .ref rS, .ref rM, .ref rB, .ref rT, .ref rX, .ref rY, .ref rL, .int (iI u.2), .ref rR, .int (iI at1), .long (lI nu), .ref rt, .ref rx, .ref ry, .int (iI fo), .ref rF, .ref rG, .ref rU, .ref rV, .long (lI lo), .long (lI lB), .long (lI hi), .long (lI hB1)]))])) 0 0 (va_A [(hm, .inr (7, [.int (iI th), .ref rS, .ref rM, .ref rB, .ref rT, .ref rX, .ref rY, .ref rL, .int (iI sz1), .ref rR, .int (iI at1), .long (lI nu), .ref rt, .ref rx, .ref ry, .int (iI fo), .ref rF, .ref rG, .ref rU, .ref rV, .long (lI lo), .long (lI lB), .long (lI hi), .long (lI hB1)]))] sz) := by
  refine zMi (cc := cX7_cut) (maxL := 2) (ret := (some .boolean)) (by decide) rfl (Nat.le_of_ble_eq_true rfl) ?_
  intro p e s m below meth c A ls hE
  obtain ⟨hx, hb, hr, hts, hown, hlocks, hml, hnm, hP, hK, hD, hA, hS, hl⟩ := hE
  have hown : s.vm.findClass RX7 = some m.cls := hown
  have hl : lv_has ls 2 [(0, .ref hm), (1, .int (iI n))] := hl
  have hin7 : ∀ w ∈ wsX70, w ∈ wsX7_cut := by decide +kernel
  obtain ⟨Q, hQ⟩ : ∃ Q, Q = MQ below (zQi D (TY cI cJ cT) A (fun (z : Int) (u : Int × Int) => u.1 = 0 ∧ (¬ (0 ≤ n ∧ n ≤ sz1) → z = 0 ∧ u.2 = sz1) ∧ ((0 ≤ n ∧ n ≤ sz1) → z = 1 ∧ u.2 = n)) (fun (u : Int × Int) => [(hm, .inr (7, [.int (iI u.1), .ref rS, .ref rM, .ref rB, .ref rT, .ref rX, .ref rY, .ref rL, .int (iI u.2), .ref rR, .int (iI at1), .long (lI nu), .ref rt, .ref rx, .ref ry, .int (iI fo), .ref rF, .ref rG, .ref rU, .ref rV, .long (lI lo), .long (lI lB), .long (lI hi), .long (lI hB1)]))])) ([.ref hm, .int (iI n)] : List Value).toArray s 0 0 A := ⟨_, rfl⟩
  rw [← hQ]
  refine lv_aload_n hx hb dX7_cut_0 rfl (lv_at hl 0 rfl) ?_
  refine lv_iconst (v := iI 0) hx hb dX7_cut_1 rfl ?_
  refine va_put (D := D) (ci := 7) (v := .int (iI 0)) (ty := .int) (C := RX7) (T := TX7) (N := 24) hx hb hts hin7 tyX7 tyX7_ok nmX7 hown hK hP hD hS 0 rfl rfl 0 (by decide) (hts (.fieldLink RX7 56 "DriftLogModel" "thrown" "I") (by decide +kernel)) (fun _ h9 => h9) rfl (by decide +kernel) rfl rfl (Nat.le_of_ble_eq_true rfl) dX7_cut_2 (fun H locs hP hD hS => ?_)
  have hP : va_P D vwCl [(hm, .inr (7, [.int (iI 0), .ref rS, .ref rM, .ref rB, .ref rT, .ref rX, .ref rY, .ref rL, .int (iI sz1), .ref rR, .int (iI at1), .long (lI nu), .ref rt, .ref rx, .ref ry, .int (iI fo), .ref rF, .ref rG, .ref rU, .ref rV, .long (lI lo), .long (lI lB), .long (lI hi), .long (lI hB1)]))] H := hP
  have hD : va_D A [(hm, .inr (7, [.int (iI 0), .ref rS, .ref rM, .ref rB, .ref rT, .ref rX, .ref rY, .ref rL, .int (iI sz1), .ref rR, .int (iI at1), .long (lI nu), .ref rt, .ref rx, .ref ry, .int (iI fo), .ref rF, .ref rG, .ref rU, .ref rV, .long (lI lo), .long (lI lB), .long (lI hi), .long (lI hB1)]))] := hD
  refine lv_iload_n hx hb dX7_cut_5 rfl (lv_at hl 1 rfl) ?_
  refine wz_if_lt (tgt := 17) hx hb dX7_cut_6 (by decide) ⟨by omega, by omega⟩ (fun c6 => ?_) (fun c6 => ?_)
  · skip
    refine lv_iconst (v := iI 0) hx hb dX7_cut_17 rfl ?_
    rw [hQ]
    exact wz_retz (tys := TY cI cJ cT) (0, sz1) hx hb hr hlocks hK hP hD hS (by first | decide | exact bz_01 _ | omega) (by (try dsimp only); exact (⟨rfl, fun h => (by first | exact ⟨rfl, rfl⟩ | (exfalso; omega)), fun h => (by first | exact ⟨rfl, rfl⟩ | (exfalso; omega))⟩)) dX7_cut_18
  · skip
    refine lv_iload_n hx hb dX7_cut_9 rfl (lv_at hl 1 rfl) ?_
    refine lv_aload_n hx hb dX7_cut_10 rfl (lv_at hl 0 rfl) ?_
    refine va_get (D := D) (ci := 7) (v := .int (iI sz1)) (C := RX7) (T := TX7) (N := 24) hx hb hts hin7 hown hK hP 0 rfl rfl 8 (by decide) (hts (.fieldLink RX7 95 "DriftLogModel" "size" "I") (by decide +kernel)) (fun _ h9 => h9) rfl dX7_cut_11 ?_
    refine wz_icmp_le (tgt := 19) hx hb dX7_cut_14 (by decide) ⟨by omega, by omega⟩ ⟨by omega, by omega⟩ (fun c14 => ?_) (fun c14 => ?_)
    · skip
      refine lv_aload_n hx hb dX7_cut_19 rfl (lv_at hl 0 rfl) ?_
      refine lv_iload_n hx hb dX7_cut_20 rfl (lv_at hl 1 rfl) ?_
      refine va_put (D := D) (ci := 7) (v := .int (iI n)) (ty := .int) (C := RX7) (T := TX7) (N := 24) hx hb hts hin7 tyX7 tyX7_ok nmX7 hown hK hP hD hS 0 rfl rfl 8 (by decide) (hts (.fieldLink RX7 95 "DriftLogModel" "size" "I") (by decide +kernel)) (fun _ h9 => h9) rfl (by decide +kernel) rfl rfl (Nat.le_of_ble_eq_true rfl) dX7_cut_21 (fun H locs hP hD hS => ?_)
      have hP : va_P D vwCl [(hm, .inr (7, [.int (iI 0), .ref rS, .ref rM, .ref rB, .ref rT, .ref rX, .ref rY, .ref rL, .int (iI n), .ref rR, .int (iI at1), .long (lI nu), .ref rt, .ref rx, .ref ry, .int (iI fo), .ref rF, .ref rG, .ref rU, .ref rV, .long (lI lo), .long (lI lB), .long (lI hi), .long (lI hB1)]))] H := hP
      have hD : va_D A [(hm, .inr (7, [.int (iI 0), .ref rS, .ref rM, .ref rB, .ref rT, .ref rX, .ref rY, .ref rL, .int (iI n), .ref rR, .int (iI at1), .long (lI nu), .ref rt, .ref rx, .ref ry, .int (iI fo), .ref rF, .ref rG, .ref rU, .ref rV, .long (lI lo), .long (lI lB), .long (lI hi), .long (lI hB1)]))] := hD
      refine lv_iconst (v := iI 1) hx hb dX7_cut_24 rfl ?_
      rw [hQ]
      exact wz_retz (tys := TY cI cJ cT) (0, n) hx hb hr hlocks hK hP hD hS (by first | decide | exact bz_01 _ | omega) (by (try dsimp only); exact (⟨rfl, fun h => (by first | exact ⟨rfl, rfl⟩ | (exfalso; omega)), fun h => (by first | exact ⟨rfl, rfl⟩ | (exfalso; omega))⟩)) dX7_cut_25
    · skip
      refine lv_iconst (v := iI 0) hx hb dX7_cut_17 rfl ?_
      rw [hQ]
      exact wz_retz (tys := TY cI cJ cT) (0, sz1) hx hb hr hlocks hK hP hD hS (by first | decide | exact bz_01 _ | omega) (by (try dsimp only); exact (⟨rfl, fun h => (by first | exact ⟨rfl, rfl⟩ | (exfalso; omega)), fun h => (by first | exact ⟨rfl, rfl⟩ | (exfalso; omega))⟩)) dX7_cut_18
