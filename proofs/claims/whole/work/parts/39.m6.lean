set_option maxHeartbeats 4000000 in
set_option maxRecDepth 100000 in
theorem k_X7_take (l : Launch) (D : va_G) (cI cJ cT : ClassId) (sz : Nat) (hm : Nat) (th : Int) (rS : Nat) (rM : Nat) (rB : Nat) (rT : Nat) (rX : Nat) (rY : Nat) (rL : Nat) (sz1 : Int) (rR : Nat) (at1 : Int) (nu : Int) (rt : Nat) (rx : Nat) (ry : Nat) (fo : Int) (rF : Nat) (rG : Nat) (rU : Nat) (rV : Nat) (lo : Int) (lB : Int) (hi : Int) (hB1 : Int) (fR : Int → Int) (le : Int) (ev : Int) (od : Int) (hBb : okB fR) (hnb : 0 ≤ sz1 ∧ sz1 ≤ 300) (hat : 0 ≤ at1 ∧ at1 ≤ sz1) (hle : 0 ≤ le ∧ le ≤ 1) (hev : -2147483648 ≤ ev ∧ ev ≤ 2147483647) (hod : -2147483648 ≤ od ∧ od ≤ 2147483647) : Met l yX7_take wsX7_take { frames := 0, cells := 0, slots := 0, locals := 0 } (zPc D (TY cI cJ cT) [.ref hm, .long (lI le), .long (lI ev), .long (lI od)] [(hm, .inr (7, [.int (iI th), .ref rS, .ref rM, .ref rB, .ref rT, .ref rX, .ref rY, .ref rL, .int (iI sz1), .ref rR, .int (iI at1), .long (lI nu), .ref rt, .ref rx, .ref ry, .int (iI fo), .ref rF, .ref rG, .ref rU, .ref rV, .long (lI lo), .long (lI lB), .long (lI hi), .long (lI hB1)])), (rR, .inl (cI, 300, .inl (zA fR)))] sz) (zQi D (TY cI cJ cT) (va_A [(hm, .inr (7, [.int (iI th), .ref rS, .ref rM, .ref rB, .ref rT, .ref rX, .ref rY, .ref rL, .int (iI sz1), .ref rR, .int (iI at1), .long (lI nu), .ref rt, .ref rx, .ref ry, .int (iI fo), .ref rF, .ref rG, .ref rU, .ref rV, .long (lI lo), .long (lI lB), .long (lI hi), .long (lI hB1)])), (rR, .inl (cI, 300, .inl (zA fR)))] sz) (fun (z : Int) (u : Int × Int) => rdN 5 fR sz1 at1 1 0 le ev od = (z, u.1, u.2)) (fun (u : Int × Int) => [(hm, .inr (7, [.int (iI th), .ref rS, .ref rM, .ref rB, .ref rT, .ref rX, .ref rY, .ref rL, .int (iI sz1), .ref rR, .int (iI u.2), .long (lI u.1), .ref rt, .ref rx, .ref ry, .int (iI fo), .ref rF, .ref rG, .ref rU, .ref rV, .long (lI lo), .long (lI lB), .long (lI hi), .long (lI hB1)])), (rR, .inl (cI, 300, .inl (zA fR)))])) 0 0 (va_A [(hm, .inr (7, [.int (iI th), .ref rS, .ref rM, .ref rB, .ref rT, .ref rX, .ref rY, .ref rL, .int (iI sz1), .ref rR, .int (iI at1), .long (lI nu), .ref rt, .ref rx, .ref ry, .int (iI fo), .ref rF, .ref rG, .ref rU, .ref rV, .long (lI lo), .long (lI lB), .long (lI hi), .long (lI hB1)])), (rR, .inl (cI, 300, .inl (zA fR)))] sz) := by
  refine zMi (cc := cX7_take) (maxL := 13) (ret := (some .boolean)) (by decide) rfl (Nat.le_of_ble_eq_true rfl) ?_
  intro p e s m below meth c A ls hE
  obtain ⟨hx, hb, hr, hts, hown, hlocks, hml, hnm, hP, hK, hD, hA, hS, hl⟩ := hE
  have hown : s.vm.findClass RX7 = some m.cls := hown
  have hl : lv_has ls 13 [(0, .ref hm), (1, .long (lI le)), (3, .long (lI ev)), (5, .long (lI od))] := hl
  have hin7 : ∀ w ∈ wsX70, w ∈ wsX7_take := by decide +kernel
  obtain ⟨Q, hQ⟩ : ∃ Q, Q = MQ below (zQi D (TY cI cJ cT) A (fun (z : Int) (u : Int × Int) => rdN 5 fR sz1 at1 1 0 le ev od = (z, u.1, u.2)) (fun (u : Int × Int) => [(hm, .inr (7, [.int (iI th), .ref rS, .ref rM, .ref rB, .ref rT, .ref rX, .ref rY, .ref rL, .int (iI sz1), .ref rR, .int (iI u.2), .long (lI u.1), .ref rt, .ref rx, .ref ry, .int (iI fo), .ref rF, .ref rG, .ref rU, .ref rV, .long (lI lo), .long (lI lB), .long (lI hi), .long (lI hB1)])), (rR, .inl (cI, 300, .inl (zA fR)))])) ([.ref hm, .long (lI le), .long (lI ev), .long (lI od)] : List Value).toArray s 0 0 A := ⟨_, rfl⟩
  rw [← hQ]
  refine lv_aload_n hx hb dX7_take_0 rfl (lv_at hl 0 rfl) ?_
  refine lv_lconst (v := lI 0) hx hb dX7_take_1 (by decide) ?_
  refine va_put (D := D) (ci := 7) (v := .long (lI 0)) (ty := .long) (C := RX7) (T := TX7) (N := 24) hx hb hts hin7 tyX7 tyX7_ok nmX7 hown hK hP hD hS 0 rfl rfl 11 (by decide) (hts (.fieldLink RX7 109 "DriftLogModel" "number" "J") (by decide +kernel)) (fun _ h9 => h9) rfl (by decide +kernel) rfl rfl (Nat.le_of_ble_eq_true rfl) dX7_take_2 (fun H locs hP hD hS => ?_)
  have hP : va_P D vwCl [(hm, .inr (7, [.int (iI th), .ref rS, .ref rM, .ref rB, .ref rT, .ref rX, .ref rY, .ref rL, .int (iI sz1), .ref rR, .int (iI at1), .long (lI 0), .ref rt, .ref rx, .ref ry, .int (iI fo), .ref rF, .ref rG, .ref rU, .ref rV, .long (lI lo), .long (lI lB), .long (lI hi), .long (lI hB1)])), (rR, .inl (cI, 300, .inl (zA fR)))] H := hP
  have hD : va_D A [(hm, .inr (7, [.int (iI th), .ref rS, .ref rM, .ref rB, .ref rT, .ref rX, .ref rY, .ref rL, .int (iI sz1), .ref rR, .int (iI at1), .long (lI 0), .ref rt, .ref rx, .ref ry, .int (iI fo), .ref rF, .ref rG, .ref rU, .ref rV, .long (lI lo), .long (lI lB), .long (lI hi), .long (lI hB1)])), (rR, .inl (cI, 300, .inl (zA fR)))] := hD
  refine lv_lconst (v := lI 1) hx hb dX7_take_5 (by decide) ?_
  refine lv_lstore (lv' := [(7, .long (lI 1)), (0, .ref hm), (1, .long (lI le)), (3, .long (lI ev)), (5, .long (lI od))]) hx hb dX7_take_6 hl (by decide) rfl (fun ls hl => ?_)
  have LP8 : ∀ (N8 : Nat) (g : Int) (num : Int) (unit : Int) (at2 : Int) (H : Heap) (locs : List Loc) (ls : Array Slot), ((0 ≤ g ∧ g ≤ 4) ∧ unit = 128 ^ (g).toNat ∧ (0 ≤ num ∧ num < unit) ∧ (0 ≤ at2 ∧ at2 ≤ sz1) ∧ rdN 5 fR sz1 at1 1 0 le ev od = rdN (5 - g).toNat fR sz1 at2 unit num le ev od) → (5 - g) < (N8 : Int) → va_P D vwCl [(hm, .inr (7, [.int (iI th), .ref rS, .ref rM, .ref rB, .ref rT, .ref rX, .ref rY, .ref rL, .int (iI sz1), .ref rR, .int (iI at2), .long (lI num), .ref rt, .ref rx, .ref ry, .int (iI fo), .ref rF, .ref rG, .ref rU, .ref rV, .long (lI lo), .long (lI lB), .long (lI hi), .long (lI hB1)])), (rR, .inl (cI, 300, .inl (zA fR)))] H → va_D A [(hm, .inr (7, [.int (iI th), .ref rS, .ref rM, .ref rB, .ref rT, .ref rX, .ref rY, .ref rL, .int (iI sz1), .ref rR, .int (iI at2), .long (lI num), .ref rt, .ref rx, .ref ry, .int (iI fo), .ref rF, .ref rG, .ref rU, .ref rV, .long (lI lo), .long (lI lB), .long (lI hi), .long (lI hB1)])), (rR, .inl (cI, 300, .inl (zA fR)))] → va_S A s.heap H locs → lv_has ls 13 [(0, .ref hm), (1, .long (lI le)), (3, .long (lI ev)), (5, .long (lI od)), (7, .long (lI unit))] → W p l e { frames := 0, cells := 0, slots := 0, locals := 0 } s m ([.ref hm, .long (lI le), .long (lI ev), .long (lI od)] : List Value).toArray below meth c H locs 0 0 Q (F0 m 8 ls []) := by
    intro N8
    induction N8 with
    | zero =>
      intro g num unit at2 H locs ls hI hm
      obtain ⟨a1, a2, a3, a4, a5⟩ := hI
      exfalso; omega
    | succ N8 ih8 =>
      intro g num unit at2 H locs ls hI hm8 hP hD hS hl
      obtain ⟨a1, a2, a3, a4, a5⟩ := hI
      obtain ⟨u1, u2, u3, u4, u5⟩ := p128 a1.1 a1.2
      rw [← a2] at u1 u2 u3 u4 u5
      have hbm : 0 ≤ fR at2 % 128 * unit ∧ fR at2 % 128 * unit ≤ 127 * unit := ⟨Int.mul_nonneg (by omega) (by omega), Int.mul_le_mul_of_nonneg_right (by omega) (by omega)⟩
      refine lv_aload_n hx hb dX7_take_8 rfl (lv_at hl 0 rfl) ?_
      refine va_get (D := D) (ci := 7) (v := .int (iI at2)) (C := RX7) (T := TX7) (N := 24) hx hb hts hin7 hown hK hP 0 rfl rfl 10 (by decide) (hts (.fieldLink RX7 113 "DriftLogModel" "at" "I") (by decide +kernel)) (fun _ h9 => h9) rfl dX7_take_9 ?_
      refine lv_aload_n hx hb dX7_take_12 rfl (lv_at hl 0 rfl) ?_
      refine va_get (D := D) (ci := 7) (v := .int (iI sz1)) (C := RX7) (T := TX7) (N := 24) hx hb hts hin7 hown hK hP 0 rfl rfl 8 (by decide) (hts (.fieldLink RX7 95 "DriftLogModel" "size" "I") (by decide +kernel)) (fun _ h9 => h9) rfl dX7_take_13 ?_
      refine wz_icmp_ge (tgt := 171) hx hb dX7_take_16 (by decide) ⟨by omega, by omega⟩ ⟨by omega, by omega⟩ (fun c16 => ?_) (fun c16 => ?_)
      · skip
        refine lv_iconst (v := iI 0) hx hb dX7_take_171 rfl ?_
        rw [hQ]
        exact wz_retz (tys := TY cI cJ cT) (num, at2) hx hb hr hlocks hK hP hD hS (by first | decide | exact bz_01 _ | omega) (by (try dsimp only); exact (by rw [a5, show (5 - g).toNat = (4 - g).toNat + 1 by omega, rdN_end c16])) dX7_take_172
      · skip
        refine lv_aload_n hx hb dX7_take_19 rfl (lv_at hl 0 rfl) ?_
        refine va_get (D := D) (ci := 7) (v := .ref rR) (C := RX7) (T := TX7) (N := 24) hx hb hts hin7 hown hK hP 0 rfl rfl 9 (by decide) (hts (.fieldLink RX7 31 "DriftLogModel" "row" "[I") (by decide +kernel)) (fun _ h9 => h9) rfl dX7_take_20 ?_
        refine lv_aload_n hx hb dX7_take_23 rfl (lv_at hl 0 rfl) ?_
        refine va_get (D := D) (ci := 7) (v := .int (iI at2)) (C := RX7) (T := TX7) (N := 24) hx hb hts hin7 hown hK hP 0 rfl rfl 10 (by decide) (hts (.fieldLink RX7 113 "DriftLogModel" "at" "I") (by decide +kernel)) (fun _ h9 => h9) rfl dX7_take_24 ?_
        refine wz_iald (tys := TY cI cJ cT) hx hb hK hP 1 0 rfl rfl (by decide) (by constructor <;> omega) dX7_take_27 ?_
        obtain ⟨b, eb⟩ : ∃ y : Int, y = (fR at2) := ⟨_, rfl⟩
        rw [← eb]
        refine lv_istore (lv' := [(9, .int (iI b)), (0, .ref hm), (1, .long (lI le)), (3, .long (lI ev)), (5, .long (lI od)), (7, .long (lI unit))]) hx hb dX7_take_28 hl (by decide) rfl (fun ls hl => ?_)
        have rb : 0 ≤ b ∧ b ≤ 255 := by rw [eb]; exact hBb _
        refine lv_aload_n hx hb dX7_take_30 rfl (lv_at hl 1 rfl) ?_
        refine lv_dup hx hb dX7_take_31 rfl ?_
        refine va_get (D := D) (ci := 7) (v := .long (lI num)) (C := RX7) (T := TX7) (N := 24) hx hb hts hin7 hown hK hP 0 rfl rfl 11 (by decide) (hts (.fieldLink RX7 109 "DriftLogModel" "number" "J") (by decide +kernel)) (fun _ h9 => h9) rfl dX7_take_32 ?_
        refine lv_iload hx hb dX7_take_35 (lv_at hl 0 rfl) ?_
        refine lv_bipush (v := iI 127) hx hb dX7_take_37 (by decide) ?_
        refine lv_iand hx hb dX7_take_39 ?_
        refine wz_topi (y := iI (b % 128)) (iI_and127 (by omega) (by omega)) ?_
        refine wz_i2l hx hb dX7_take_40 ⟨by omega, by omega⟩ ?_
        refine lv_lload hx hb dX7_take_41 (lv_at hl 5 rfl) ?_
        refine wz_lmul hx hb dX7_take_43 ?_
        refine wz_ladd hx hb dX7_take_44 ?_
        obtain ⟨vn, evn⟩ : ∃ y : Int, y = (num + ((b % 128) * unit)) := ⟨_, rfl⟩
        rw [← evn]
        refine va_put (D := D) (ci := 7) (v := .long (lI vn)) (ty := .long) (C := RX7) (T := TX7) (N := 24) hx hb hts hin7 tyX7 tyX7_ok nmX7 hown hK hP hD hS 0 rfl rfl 11 (by decide) (hts (.fieldLink RX7 109 "DriftLogModel" "number" "J") (by decide +kernel)) (fun _ h9 => h9) rfl (by decide +kernel) rfl rfl (Nat.le_of_ble_eq_true rfl) dX7_take_45 (fun H locs hP hD hS => ?_)
        have hP : va_P D vwCl [(hm, .inr (7, [.int (iI th), .ref rS, .ref rM, .ref rB, .ref rT, .ref rX, .ref rY, .ref rL, .int (iI sz1), .ref rR, .int (iI at2), .long (lI vn), .ref rt, .ref rx, .ref ry, .int (iI fo), .ref rF, .ref rG, .ref rU, .ref rV, .long (lI lo), .long (lI lB), .long (lI hi), .long (lI hB1)])), (rR, .inl (cI, 300, .inl (zA fR)))] H := hP
        have hD : va_D A [(hm, .inr (7, [.int (iI th), .ref rS, .ref rM, .ref rB, .ref rT, .ref rX, .ref rY, .ref rL, .int (iI sz1), .ref rR, .int (iI at2), .long (lI vn), .ref rt, .ref rx, .ref ry, .int (iI fo), .ref rF, .ref rG, .ref rU, .ref rV, .long (lI lo), .long (lI lB), .long (lI hi), .long (lI hB1)])), (rR, .inl (cI, 300, .inl (zA fR)))] := hD
        rw [eb] at evn
        refine lv_aload_n hx hb dX7_take_48 rfl (lv_at hl 1 rfl) ?_
        refine va_get (D := D) (ci := 7) (v := .long (lI vn)) (C := RX7) (T := TX7) (N := 24) hx hb hts hin7 hown hK hP 0 rfl rfl 11 (by decide) (hts (.fieldLink RX7 109 "DriftLogModel" "number" "J") (by decide +kernel)) (fun _ h9 => h9) rfl dX7_take_49 ?_
        refine lv_lconst (v := lI 1) hx hb dX7_take_52 (by decide) ?_
        refine lv_land hx hb dX7_take_53 ?_
        refine wz_topl (y := lI (vn % 2)) (lI_and1 (by omega) (by omega)) ?_
        refine lv_lconst (v := lI 0) hx hb dX7_take_54 (by decide) ?_
        refine W.lcmp hx hb dX7_take_55 ?_
        refine wz_lif_ne (tgt := 63) hx hb dX7_take_56 (by decide) ⟨by omega, by omega⟩ (by decide) (fun c56 => ?_) (fun c56 => ?_)
        · skip
          refine lv_lload hx hb dX7_take_63 (lv_at hl 4 rfl) ?_
          refine lv_lstore (lv' := [(10, .long (lI od)), (9, .int (iI b)), (0, .ref hm), (1, .long (lI le)), (3, .long (lI ev)), (5, .long (lI od)), (7, .long (lI unit))]) hx hb dX7_take_65 hl (by decide) rfl (fun ls hl => ?_)
          refine lv_iload hx hb dX7_take_67 (lv_at hl 1 rfl) ?_
          refine lv_sipush (v := iI 128) hx hb dX7_take_69 (by decide) ?_
          refine wz_icmp_ge (tgt := 135) hx hb dX7_take_72 (by decide) ⟨by omega, by omega⟩ (by decide) (fun c72 => ?_) (fun c72 => ?_)
          · skip
            refine lv_lload hx hb dX7_take_135 (lv_at hl 6 rfl) ?_
            refine lv_ldc2 (v := 128) hx hb hown (hts (.constantLong RX7 116 (128)) (by decide +kernel)) dX7_take_137 ?_
            refine wz_topl (show (128 : Int64) = lI 128 by decide) ?_
            refine wz_lmul hx hb dX7_take_140 ?_
            refine lv_lstore (lv' := [(7, .long (lI (unit * 128))), (10, .long (lI od)), (9, .int (iI b)), (0, .ref hm), (1, .long (lI le)), (3, .long (lI ev)), (5, .long (lI od))]) hx hb dX7_take_141 hl (by decide) rfl (fun ls hl => ?_)
            refine lv_aload_n hx hb dX7_take_143 rfl (lv_at hl 3 rfl) ?_
            refine va_get (D := D) (ci := 7) (v := .long (lI vn)) (C := RX7) (T := TX7) (N := 24) hx hb hts hin7 hown hK hP 0 rfl rfl 11 (by decide) (hts (.fieldLink RX7 109 "DriftLogModel" "number" "J") (by decide +kernel)) (fun _ h9 => h9) rfl dX7_take_144 ?_
            refine lv_lload hx hb dX7_take_147 (lv_at hl 0 rfl) ?_
            refine wz_ladd hx hb dX7_take_149 ?_
            refine lv_lload hx hb dX7_take_150 (lv_at hl 1 rfl) ?_
            refine W.lcmp hx hb dX7_take_152 ?_
            refine wz_lif_le (tgt := 158) hx hb dX7_take_153 (by decide) ⟨by omega, by omega⟩ ⟨by omega, by omega⟩ (fun c153 => ?_) (fun c153 => ?_)
            · skip
              refine lv_aload_n hx hb dX7_take_158 rfl (lv_at hl 3 rfl) ?_
              refine lv_dup hx hb dX7_take_159 rfl ?_
              refine va_get (D := D) (ci := 7) (v := .int (iI at2)) (C := RX7) (T := TX7) (N := 24) hx hb hts hin7 hown hK hP 0 rfl rfl 10 (by decide) (hts (.fieldLink RX7 113 "DriftLogModel" "at" "I") (by decide +kernel)) (fun _ h9 => h9) rfl dX7_take_160 ?_
              refine lv_iconst (v := iI 1) hx hb dX7_take_163 rfl ?_
              refine wz_iadd hx hb dX7_take_164 ?_
              refine va_put (D := D) (ci := 7) (v := .int (iI (at2 + 1))) (ty := .int) (C := RX7) (T := TX7) (N := 24) hx hb hts hin7 tyX7 tyX7_ok nmX7 hown hK hP hD hS 0 rfl rfl 10 (by decide) (hts (.fieldLink RX7 113 "DriftLogModel" "at" "I") (by decide +kernel)) (fun _ h9 => h9) rfl (by decide +kernel) rfl rfl (Nat.le_of_ble_eq_true rfl) dX7_take_165 (fun H locs hP hD hS => ?_)
              have hP : va_P D vwCl [(hm, .inr (7, [.int (iI th), .ref rS, .ref rM, .ref rB, .ref rT, .ref rX, .ref rY, .ref rL, .int (iI sz1), .ref rR, .int (iI (at2 + 1)), .long (lI vn), .ref rt, .ref rx, .ref ry, .int (iI fo), .ref rF, .ref rG, .ref rU, .ref rV, .long (lI lo), .long (lI lB), .long (lI hi), .long (lI hB1)])), (rR, .inl (cI, 300, .inl (zA fR)))] H := hP
              have hD : va_D A [(hm, .inr (7, [.int (iI th), .ref rS, .ref rM, .ref rB, .ref rT, .ref rX, .ref rY, .ref rL, .int (iI sz1), .ref rR, .int (iI (at2 + 1)), .long (lI vn), .ref rt, .ref rx, .ref ry, .int (iI fo), .ref rF, .ref rG, .ref rU, .ref rV, .long (lI lo), .long (lI lB), .long (lI hi), .long (lI hB1)])), (rR, .inl (cI, 300, .inl (zA fR)))] := hD
              refine lv_goto (tgt := 8) hx hb dX7_take_168 (by decide) ?_
              exact ih8 (g + 1) vn (unit * 128) (at2 + 1) _ _ _ ⟨(by constructor <;> omega), (by rw [a2, show (g + 1).toNat = g.toNat + 1 by omega, Int.pow_succ]), (by constructor <;> omega), (by constructor <;> omega), (by rw [a5, show (5 - g).toNat = (5 - (g + 1)).toNat + 1 by omega, rdN_go c16 (by omega) evn (by first | (rw [mostZ_e c56]; omega) | (rw [mostZ_o c56]; omega))])⟩ (by omega) hP hD hS (lv_sub hl [3, 4, 5, 6, 0] rfl)
            · skip
              refine lv_iconst (v := iI 0) hx hb dX7_take_156 rfl ?_
              rw [hQ]
              exact wz_retz (tys := TY cI cJ cT) (vn, at2) hx hb hr hlocks hK hP hD hS (by first | decide | exact bz_01 _ | omega) (by (try dsimp only); exact (by rw [a5, show (5 - g).toNat = (4 - g).toNat + 1 by omega, rdN_long c16 (by omega) evn (by first | (rw [mostZ_e c56]; omega) | (rw [mostZ_o c56]; omega))])) dX7_take_157
          · skip
            refine lv_aload_n hx hb dX7_take_75 rfl (lv_at hl 2 rfl) ?_
            refine va_get (D := D) (ci := 7) (v := .long (lI vn)) (C := RX7) (T := TX7) (N := 24) hx hb hts hin7 hown hK hP 0 rfl rfl 11 (by decide) (hts (.fieldLink RX7 109 "DriftLogModel" "number" "J") (by decide +kernel)) (fun _ h9 => h9) rfl dX7_take_76 ?_
            refine lv_lload_n hx hb dX7_take_79 rfl (lv_at hl 3 rfl) ?_
            refine W.lcmp hx hb dX7_take_80 ?_
            refine wz_lif_lt (tgt := 110) hx hb dX7_take_81 (by decide) ⟨by omega, by omega⟩ ⟨by omega, by omega⟩ (fun c81 => ?_) (fun c81 => ?_)
            · skip
              refine lv_iconst (v := iI 0) hx hb dX7_take_110 rfl ?_
              refine lv_istore (lv' := [(12, .int (iI 0)), (10, .long (lI od)), (9, .int (iI b)), (0, .ref hm), (1, .long (lI le)), (3, .long (lI ev)), (5, .long (lI od)), (7, .long (lI unit))]) hx hb dX7_take_111 hl (by decide) rfl (fun ls hl => ?_)
              refine lv_aload_n hx hb dX7_take_113 rfl (lv_at hl 3 rfl) ?_
              refine lv_dup hx hb dX7_take_114 rfl ?_
              refine va_get (D := D) (ci := 7) (v := .int (iI at2)) (C := RX7) (T := TX7) (N := 24) hx hb hts hin7 hown hK hP 0 rfl rfl 10 (by decide) (hts (.fieldLink RX7 113 "DriftLogModel" "at" "I") (by decide +kernel)) (fun _ h9 => h9) rfl dX7_take_115 ?_
              refine lv_iload hx hb dX7_take_118 (lv_at hl 0 rfl) ?_
              refine wz_if_eq (tgt := 127) hx hb dX7_take_120 (by decide) (by decide) (fun c120 => ?_) (fun c120 => ?_)
              · skip
                refine lv_iconst (v := iI 0) hx hb dX7_take_127 rfl ?_
                refine wz_iadd hx hb dX7_take_128 ?_
                refine va_put (D := D) (ci := 7) (v := .int (iI (at2 + 0))) (ty := .int) (C := RX7) (T := TX7) (N := 24) hx hb hts hin7 tyX7 tyX7_ok nmX7 hown hK hP hD hS 0 rfl rfl 10 (by decide) (hts (.fieldLink RX7 113 "DriftLogModel" "at" "I") (by decide +kernel)) (fun _ h9 => h9) rfl (by decide +kernel) rfl rfl (Nat.le_of_ble_eq_true rfl) dX7_take_129 (fun H locs hP hD hS => ?_)
                have hP : va_P D vwCl [(hm, .inr (7, [.int (iI th), .ref rS, .ref rM, .ref rB, .ref rT, .ref rX, .ref rY, .ref rL, .int (iI sz1), .ref rR, .int (iI (at2 + 0)), .long (lI vn), .ref rt, .ref rx, .ref ry, .int (iI fo), .ref rF, .ref rG, .ref rU, .ref rV, .long (lI lo), .long (lI lB), .long (lI hi), .long (lI hB1)])), (rR, .inl (cI, 300, .inl (zA fR)))] H := hP
                have hD : va_D A [(hm, .inr (7, [.int (iI th), .ref rS, .ref rM, .ref rB, .ref rT, .ref rX, .ref rY, .ref rL, .int (iI sz1), .ref rR, .int (iI (at2 + 0)), .long (lI vn), .ref rt, .ref rx, .ref ry, .int (iI fo), .ref rF, .ref rG, .ref rU, .ref rV, .long (lI lo), .long (lI lB), .long (lI hi), .long (lI hB1)])), (rR, .inl (cI, 300, .inl (zA fR)))] := hD
                refine lv_iload hx hb dX7_take_132 (lv_at hl 0 rfl) ?_
                rw [hQ]
                exact wz_retz (tys := TY cI cJ cT) (vn, (at2 + 0)) hx hb hr hlocks hK hP hD hS (by first | decide | exact bz_01 _ | omega) (by (try dsimp only); exact (by rw [show at2 + 0 = at2 by omega, a5, show (5 - g).toNat = (4 - g).toNat + 1 by omega, rdN_bad c16 (by omega) evn (fun q => by rcases q with ⟨q1, q2, q3⟩; first | omega | (rw [mostZ_e c56] at q2; omega) | (rw [mostZ_o c56] at q2; omega))])) dX7_take_134
              · skip
                exact absurd c120 (by decide)
            · skip
              refine lv_aload_n hx hb dX7_take_84 rfl (lv_at hl 2 rfl) ?_
              refine va_get (D := D) (ci := 7) (v := .long (lI vn)) (C := RX7) (T := TX7) (N := 24) hx hb hts hin7 hown hK hP 0 rfl rfl 11 (by decide) (hts (.fieldLink RX7 109 "DriftLogModel" "number" "J") (by decide +kernel)) (fun _ h9 => h9) rfl dX7_take_85 ?_
              refine lv_lload hx hb dX7_take_88 (lv_at hl 0 rfl) ?_
              refine W.lcmp hx hb dX7_take_90 ?_
              refine wz_lif_gt (tgt := 110) hx hb dX7_take_91 (by decide) ⟨by omega, by omega⟩ ⟨by omega, by omega⟩ (fun c91 => ?_) (fun c91 => ?_)
              · skip
                refine lv_iconst (v := iI 0) hx hb dX7_take_110 rfl ?_
                refine lv_istore (lv' := [(12, .int (iI 0)), (10, .long (lI od)), (9, .int (iI b)), (0, .ref hm), (1, .long (lI le)), (3, .long (lI ev)), (5, .long (lI od)), (7, .long (lI unit))]) hx hb dX7_take_111 hl (by decide) rfl (fun ls hl => ?_)
                refine lv_aload_n hx hb dX7_take_113 rfl (lv_at hl 3 rfl) ?_
                refine lv_dup hx hb dX7_take_114 rfl ?_
                refine va_get (D := D) (ci := 7) (v := .int (iI at2)) (C := RX7) (T := TX7) (N := 24) hx hb hts hin7 hown hK hP 0 rfl rfl 10 (by decide) (hts (.fieldLink RX7 113 "DriftLogModel" "at" "I") (by decide +kernel)) (fun _ h9 => h9) rfl dX7_take_115 ?_
                refine lv_iload hx hb dX7_take_118 (lv_at hl 0 rfl) ?_
                refine wz_if_eq (tgt := 127) hx hb dX7_take_120 (by decide) (by decide) (fun c120 => ?_) (fun c120 => ?_)
                · skip
                  refine lv_iconst (v := iI 0) hx hb dX7_take_127 rfl ?_
                  refine wz_iadd hx hb dX7_take_128 ?_
                  refine va_put (D := D) (ci := 7) (v := .int (iI (at2 + 0))) (ty := .int) (C := RX7) (T := TX7) (N := 24) hx hb hts hin7 tyX7 tyX7_ok nmX7 hown hK hP hD hS 0 rfl rfl 10 (by decide) (hts (.fieldLink RX7 113 "DriftLogModel" "at" "I") (by decide +kernel)) (fun _ h9 => h9) rfl (by decide +kernel) rfl rfl (Nat.le_of_ble_eq_true rfl) dX7_take_129 (fun H locs hP hD hS => ?_)
                  have hP : va_P D vwCl [(hm, .inr (7, [.int (iI th), .ref rS, .ref rM, .ref rB, .ref rT, .ref rX, .ref rY, .ref rL, .int (iI sz1), .ref rR, .int (iI (at2 + 0)), .long (lI vn), .ref rt, .ref rx, .ref ry, .int (iI fo), .ref rF, .ref rG, .ref rU, .ref rV, .long (lI lo), .long (lI lB), .long (lI hi), .long (lI hB1)])), (rR, .inl (cI, 300, .inl (zA fR)))] H := hP
                  have hD : va_D A [(hm, .inr (7, [.int (iI th), .ref rS, .ref rM, .ref rB, .ref rT, .ref rX, .ref rY, .ref rL, .int (iI sz1), .ref rR, .int (iI (at2 + 0)), .long (lI vn), .ref rt, .ref rx, .ref ry, .int (iI fo), .ref rF, .ref rG, .ref rU, .ref rV, .long (lI lo), .long (lI lB), .long (lI hi), .long (lI hB1)])), (rR, .inl (cI, 300, .inl (zA fR)))] := hD
                  refine lv_iload hx hb dX7_take_132 (lv_at hl 0 rfl) ?_
                  rw [hQ]
                  exact wz_retz (tys := TY cI cJ cT) (vn, (at2 + 0)) hx hb hr hlocks hK hP hD hS (by first | decide | exact bz_01 _ | omega) (by (try dsimp only); exact (by rw [show at2 + 0 = at2 by omega, a5, show (5 - g).toNat = (4 - g).toNat + 1 by omega, rdN_bad c16 (by omega) evn (fun q => by rcases q with ⟨q1, q2, q3⟩; first | omega | (rw [mostZ_e c56] at q2; omega) | (rw [mostZ_o c56] at q2; omega))])) dX7_take_134
                · skip
                  exact absurd c120 (by decide)
              · skip
                refine lv_iload hx hb dX7_take_94 (lv_at hl 1 rfl) ?_
                refine wz_if_gt (tgt := 106) hx hb dX7_take_96 (by decide) ⟨by omega, by omega⟩ (fun c96 => ?_) (fun c96 => ?_)
                · skip
                  refine lv_iconst (v := iI 1) hx hb dX7_take_106 rfl ?_
                  refine lv_goto (tgt := 111) hx hb dX7_take_107 (by decide) ?_
                  refine lv_istore (lv' := [(12, .int (iI 1)), (10, .long (lI od)), (9, .int (iI b)), (0, .ref hm), (1, .long (lI le)), (3, .long (lI ev)), (5, .long (lI od)), (7, .long (lI unit))]) hx hb dX7_take_111 hl (by decide) rfl (fun ls hl => ?_)
                  refine lv_aload_n hx hb dX7_take_113 rfl (lv_at hl 3 rfl) ?_
                  refine lv_dup hx hb dX7_take_114 rfl ?_
                  refine va_get (D := D) (ci := 7) (v := .int (iI at2)) (C := RX7) (T := TX7) (N := 24) hx hb hts hin7 hown hK hP 0 rfl rfl 10 (by decide) (hts (.fieldLink RX7 113 "DriftLogModel" "at" "I") (by decide +kernel)) (fun _ h9 => h9) rfl dX7_take_115 ?_
                  refine lv_iload hx hb dX7_take_118 (lv_at hl 0 rfl) ?_
                  refine wz_if_eq (tgt := 127) hx hb dX7_take_120 (by decide) (by decide) (fun c120 => ?_) (fun c120 => ?_)
                  · skip
                    exact absurd c120 (by decide)
                  · skip
                    refine lv_iconst (v := iI 1) hx hb dX7_take_123 rfl ?_
                    refine lv_goto (tgt := 128) hx hb dX7_take_124 (by decide) ?_
                    refine wz_iadd hx hb dX7_take_128 ?_
                    refine va_put (D := D) (ci := 7) (v := .int (iI (at2 + 1))) (ty := .int) (C := RX7) (T := TX7) (N := 24) hx hb hts hin7 tyX7 tyX7_ok nmX7 hown hK hP hD hS 0 rfl rfl 10 (by decide) (hts (.fieldLink RX7 113 "DriftLogModel" "at" "I") (by decide +kernel)) (fun _ h9 => h9) rfl (by decide +kernel) rfl rfl (Nat.le_of_ble_eq_true rfl) dX7_take_129 (fun H locs hP hD hS => ?_)
                    have hP : va_P D vwCl [(hm, .inr (7, [.int (iI th), .ref rS, .ref rM, .ref rB, .ref rT, .ref rX, .ref rY, .ref rL, .int (iI sz1), .ref rR, .int (iI (at2 + 1)), .long (lI vn), .ref rt, .ref rx, .ref ry, .int (iI fo), .ref rF, .ref rG, .ref rU, .ref rV, .long (lI lo), .long (lI lB), .long (lI hi), .long (lI hB1)])), (rR, .inl (cI, 300, .inl (zA fR)))] H := hP
                    have hD : va_D A [(hm, .inr (7, [.int (iI th), .ref rS, .ref rM, .ref rB, .ref rT, .ref rX, .ref rY, .ref rL, .int (iI sz1), .ref rR, .int (iI (at2 + 1)), .long (lI vn), .ref rt, .ref rx, .ref ry, .int (iI fo), .ref rF, .ref rG, .ref rU, .ref rV, .long (lI lo), .long (lI lB), .long (lI hi), .long (lI hB1)])), (rR, .inl (cI, 300, .inl (zA fR)))] := hD
                    refine lv_iload hx hb dX7_take_132 (lv_at hl 0 rfl) ?_
                    rw [hQ]
                    exact wz_retz (tys := TY cI cJ cT) (vn, (at2 + 1)) hx hb hr hlocks hK hP hD hS (by first | decide | exact bz_01 _ | omega) (by (try dsimp only); exact (by rw [a5, show (5 - g).toNat = (4 - g).toNat + 1 by omega, rdN_good c16 (by omega) evn (by omega) (by first | (rw [mostZ_e c56]; omega) | (rw [mostZ_o c56]; omega)) (by first | (left; omega) | (right; omega))])) dX7_take_134
                · skip
                  refine lv_lload hx hb dX7_take_99 (lv_at hl 6 rfl) ?_
                  refine lv_lconst (v := lI 1) hx hb dX7_take_101 (by decide) ?_
                  refine W.lcmp hx hb dX7_take_102 ?_
                  refine wz_lif_ne (tgt := 110) hx hb dX7_take_103 (by decide) ⟨by omega, by omega⟩ (by decide) (fun c103 => ?_) (fun c103 => ?_)
                  · skip
                    refine lv_iconst (v := iI 0) hx hb dX7_take_110 rfl ?_
                    refine lv_istore (lv' := [(12, .int (iI 0)), (10, .long (lI od)), (9, .int (iI b)), (0, .ref hm), (1, .long (lI le)), (3, .long (lI ev)), (5, .long (lI od)), (7, .long (lI unit))]) hx hb dX7_take_111 hl (by decide) rfl (fun ls hl => ?_)
                    refine lv_aload_n hx hb dX7_take_113 rfl (lv_at hl 3 rfl) ?_
                    refine lv_dup hx hb dX7_take_114 rfl ?_
                    refine va_get (D := D) (ci := 7) (v := .int (iI at2)) (C := RX7) (T := TX7) (N := 24) hx hb hts hin7 hown hK hP 0 rfl rfl 10 (by decide) (hts (.fieldLink RX7 113 "DriftLogModel" "at" "I") (by decide +kernel)) (fun _ h9 => h9) rfl dX7_take_115 ?_
                    refine lv_iload hx hb dX7_take_118 (lv_at hl 0 rfl) ?_
                    refine wz_if_eq (tgt := 127) hx hb dX7_take_120 (by decide) (by decide) (fun c120 => ?_) (fun c120 => ?_)
                    · skip
                      refine lv_iconst (v := iI 0) hx hb dX7_take_127 rfl ?_
                      refine wz_iadd hx hb dX7_take_128 ?_
                      refine va_put (D := D) (ci := 7) (v := .int (iI (at2 + 0))) (ty := .int) (C := RX7) (T := TX7) (N := 24) hx hb hts hin7 tyX7 tyX7_ok nmX7 hown hK hP hD hS 0 rfl rfl 10 (by decide) (hts (.fieldLink RX7 113 "DriftLogModel" "at" "I") (by decide +kernel)) (fun _ h9 => h9) rfl (by decide +kernel) rfl rfl (Nat.le_of_ble_eq_true rfl) dX7_take_129 (fun H locs hP hD hS => ?_)
                      have hP : va_P D vwCl [(hm, .inr (7, [.int (iI th), .ref rS, .ref rM, .ref rB, .ref rT, .ref rX, .ref rY, .ref rL, .int (iI sz1), .ref rR, .int (iI (at2 + 0)), .long (lI vn), .ref rt, .ref rx, .ref ry, .int (iI fo), .ref rF, .ref rG, .ref rU, .ref rV, .long (lI lo), .long (lI lB), .long (lI hi), .long (lI hB1)])), (rR, .inl (cI, 300, .inl (zA fR)))] H := hP
                      have hD : va_D A [(hm, .inr (7, [.int (iI th), .ref rS, .ref rM, .ref rB, .ref rT, .ref rX, .ref rY, .ref rL, .int (iI sz1), .ref rR, .int (iI (at2 + 0)), .long (lI vn), .ref rt, .ref rx, .ref ry, .int (iI fo), .ref rF, .ref rG, .ref rU, .ref rV, .long (lI lo), .long (lI lB), .long (lI hi), .long (lI hB1)])), (rR, .inl (cI, 300, .inl (zA fR)))] := hD
                      refine lv_iload hx hb dX7_take_132 (lv_at hl 0 rfl) ?_
                      rw [hQ]
                      exact wz_retz (tys := TY cI cJ cT) (vn, (at2 + 0)) hx hb hr hlocks hK hP hD hS (by first | decide | exact bz_01 _ | omega) (by (try dsimp only); exact (by rw [show at2 + 0 = at2 by omega, a5, show (5 - g).toNat = (4 - g).toNat + 1 by omega, rdN_bad c16 (by omega) evn (fun q => by rcases q with ⟨q1, q2, q3⟩; first | omega | (rw [mostZ_e c56] at q2; omega) | (rw [mostZ_o c56] at q2; omega))])) dX7_take_134
                    · skip
                      exact absurd c120 (by decide)
                  · skip
                    refine lv_iconst (v := iI 1) hx hb dX7_take_106 rfl ?_
                    refine lv_goto (tgt := 111) hx hb dX7_take_107 (by decide) ?_
                    refine lv_istore (lv' := [(12, .int (iI 1)), (10, .long (lI od)), (9, .int (iI b)), (0, .ref hm), (1, .long (lI le)), (3, .long (lI ev)), (5, .long (lI od)), (7, .long (lI unit))]) hx hb dX7_take_111 hl (by decide) rfl (fun ls hl => ?_)
                    refine lv_aload_n hx hb dX7_take_113 rfl (lv_at hl 3 rfl) ?_
                    refine lv_dup hx hb dX7_take_114 rfl ?_
                    refine va_get (D := D) (ci := 7) (v := .int (iI at2)) (C := RX7) (T := TX7) (N := 24) hx hb hts hin7 hown hK hP 0 rfl rfl 10 (by decide) (hts (.fieldLink RX7 113 "DriftLogModel" "at" "I") (by decide +kernel)) (fun _ h9 => h9) rfl dX7_take_115 ?_
                    refine lv_iload hx hb dX7_take_118 (lv_at hl 0 rfl) ?_
                    refine wz_if_eq (tgt := 127) hx hb dX7_take_120 (by decide) (by decide) (fun c120 => ?_) (fun c120 => ?_)
                    · skip
                      exact absurd c120 (by decide)
                    · skip
                      refine lv_iconst (v := iI 1) hx hb dX7_take_123 rfl ?_
                      refine lv_goto (tgt := 128) hx hb dX7_take_124 (by decide) ?_
                      refine wz_iadd hx hb dX7_take_128 ?_
                      refine va_put (D := D) (ci := 7) (v := .int (iI (at2 + 1))) (ty := .int) (C := RX7) (T := TX7) (N := 24) hx hb hts hin7 tyX7 tyX7_ok nmX7 hown hK hP hD hS 0 rfl rfl 10 (by decide) (hts (.fieldLink RX7 113 "DriftLogModel" "at" "I") (by decide +kernel)) (fun _ h9 => h9) rfl (by decide +kernel) rfl rfl (Nat.le_of_ble_eq_true rfl) dX7_take_129 (fun H locs hP hD hS => ?_)
                      have hP : va_P D vwCl [(hm, .inr (7, [.int (iI th), .ref rS, .ref rM, .ref rB, .ref rT, .ref rX, .ref rY, .ref rL, .int (iI sz1), .ref rR, .int (iI (at2 + 1)), .long (lI vn), .ref rt, .ref rx, .ref ry, .int (iI fo), .ref rF, .ref rG, .ref rU, .ref rV, .long (lI lo), .long (lI lB), .long (lI hi), .long (lI hB1)])), (rR, .inl (cI, 300, .inl (zA fR)))] H := hP
                      have hD : va_D A [(hm, .inr (7, [.int (iI th), .ref rS, .ref rM, .ref rB, .ref rT, .ref rX, .ref rY, .ref rL, .int (iI sz1), .ref rR, .int (iI (at2 + 1)), .long (lI vn), .ref rt, .ref rx, .ref ry, .int (iI fo), .ref rF, .ref rG, .ref rU, .ref rV, .long (lI lo), .long (lI lB), .long (lI hi), .long (lI hB1)])), (rR, .inl (cI, 300, .inl (zA fR)))] := hD
                      refine lv_iload hx hb dX7_take_132 (lv_at hl 0 rfl) ?_
                      rw [hQ]
                      exact wz_retz (tys := TY cI cJ cT) (vn, (at2 + 1)) hx hb hr hlocks hK hP hD hS (by first | decide | exact bz_01 _ | omega) (by (try dsimp only); exact (by rw [a5, show (5 - g).toNat = (4 - g).toNat + 1 by omega, rdN_good c16 (by omega) evn (by omega) (by first | (rw [mostZ_e c56]; omega) | (rw [mostZ_o c56]; omega)) (by first | (left; omega) | (right; omega))])) dX7_take_134
        · skip
          refine lv_lload_n hx hb dX7_take_59 rfl (lv_at hl 3 rfl) ?_
          refine lv_goto (tgt := 65) hx hb dX7_take_60 (by decide) ?_
          refine lv_lstore (lv' := [(10, .long (lI ev)), (9, .int (iI b)), (0, .ref hm), (1, .long (lI le)), (3, .long (lI ev)), (5, .long (lI od)), (7, .long (lI unit))]) hx hb dX7_take_65 hl (by decide) rfl (fun ls hl => ?_)
          refine lv_iload hx hb dX7_take_67 (lv_at hl 1 rfl) ?_
          refine lv_sipush (v := iI 128) hx hb dX7_take_69 (by decide) ?_
          refine wz_icmp_ge (tgt := 135) hx hb dX7_take_72 (by decide) ⟨by omega, by omega⟩ (by decide) (fun c72 => ?_) (fun c72 => ?_)
          · skip
            refine lv_lload hx hb dX7_take_135 (lv_at hl 6 rfl) ?_
            refine lv_ldc2 (v := 128) hx hb hown (hts (.constantLong RX7 116 (128)) (by decide +kernel)) dX7_take_137 ?_
            refine wz_topl (show (128 : Int64) = lI 128 by decide) ?_
            refine wz_lmul hx hb dX7_take_140 ?_
            refine lv_lstore (lv' := [(7, .long (lI (unit * 128))), (10, .long (lI ev)), (9, .int (iI b)), (0, .ref hm), (1, .long (lI le)), (3, .long (lI ev)), (5, .long (lI od))]) hx hb dX7_take_141 hl (by decide) rfl (fun ls hl => ?_)
            refine lv_aload_n hx hb dX7_take_143 rfl (lv_at hl 3 rfl) ?_
            refine va_get (D := D) (ci := 7) (v := .long (lI vn)) (C := RX7) (T := TX7) (N := 24) hx hb hts hin7 hown hK hP 0 rfl rfl 11 (by decide) (hts (.fieldLink RX7 109 "DriftLogModel" "number" "J") (by decide +kernel)) (fun _ h9 => h9) rfl dX7_take_144 ?_
            refine lv_lload hx hb dX7_take_147 (lv_at hl 0 rfl) ?_
            refine wz_ladd hx hb dX7_take_149 ?_
            refine lv_lload hx hb dX7_take_150 (lv_at hl 1 rfl) ?_
            refine W.lcmp hx hb dX7_take_152 ?_
            refine wz_lif_le (tgt := 158) hx hb dX7_take_153 (by decide) ⟨by omega, by omega⟩ ⟨by omega, by omega⟩ (fun c153 => ?_) (fun c153 => ?_)
            · skip
              refine lv_aload_n hx hb dX7_take_158 rfl (lv_at hl 3 rfl) ?_
              refine lv_dup hx hb dX7_take_159 rfl ?_
              refine va_get (D := D) (ci := 7) (v := .int (iI at2)) (C := RX7) (T := TX7) (N := 24) hx hb hts hin7 hown hK hP 0 rfl rfl 10 (by decide) (hts (.fieldLink RX7 113 "DriftLogModel" "at" "I") (by decide +kernel)) (fun _ h9 => h9) rfl dX7_take_160 ?_
              refine lv_iconst (v := iI 1) hx hb dX7_take_163 rfl ?_
              refine wz_iadd hx hb dX7_take_164 ?_
              refine va_put (D := D) (ci := 7) (v := .int (iI (at2 + 1))) (ty := .int) (C := RX7) (T := TX7) (N := 24) hx hb hts hin7 tyX7 tyX7_ok nmX7 hown hK hP hD hS 0 rfl rfl 10 (by decide) (hts (.fieldLink RX7 113 "DriftLogModel" "at" "I") (by decide +kernel)) (fun _ h9 => h9) rfl (by decide +kernel) rfl rfl (Nat.le_of_ble_eq_true rfl) dX7_take_165 (fun H locs hP hD hS => ?_)
              have hP : va_P D vwCl [(hm, .inr (7, [.int (iI th), .ref rS, .ref rM, .ref rB, .ref rT, .ref rX, .ref rY, .ref rL, .int (iI sz1), .ref rR, .int (iI (at2 + 1)), .long (lI vn), .ref rt, .ref rx, .ref ry, .int (iI fo), .ref rF, .ref rG, .ref rU, .ref rV, .long (lI lo), .long (lI lB), .long (lI hi), .long (lI hB1)])), (rR, .inl (cI, 300, .inl (zA fR)))] H := hP
              have hD : va_D A [(hm, .inr (7, [.int (iI th), .ref rS, .ref rM, .ref rB, .ref rT, .ref rX, .ref rY, .ref rL, .int (iI sz1), .ref rR, .int (iI (at2 + 1)), .long (lI vn), .ref rt, .ref rx, .ref ry, .int (iI fo), .ref rF, .ref rG, .ref rU, .ref rV, .long (lI lo), .long (lI lB), .long (lI hi), .long (lI hB1)])), (rR, .inl (cI, 300, .inl (zA fR)))] := hD
              refine lv_goto (tgt := 8) hx hb dX7_take_168 (by decide) ?_
              exact ih8 (g + 1) vn (unit * 128) (at2 + 1) _ _ _ ⟨(by constructor <;> omega), (by rw [a2, show (g + 1).toNat = g.toNat + 1 by omega, Int.pow_succ]), (by constructor <;> omega), (by constructor <;> omega), (by rw [a5, show (5 - g).toNat = (5 - (g + 1)).toNat + 1 by omega, rdN_go c16 (by omega) evn (by first | (rw [mostZ_e c56]; omega) | (rw [mostZ_o c56]; omega))])⟩ (by omega) hP hD hS (lv_sub hl [3, 4, 5, 6, 0] rfl)
            · skip
              refine lv_iconst (v := iI 0) hx hb dX7_take_156 rfl ?_
              rw [hQ]
              exact wz_retz (tys := TY cI cJ cT) (vn, at2) hx hb hr hlocks hK hP hD hS (by first | decide | exact bz_01 _ | omega) (by (try dsimp only); exact (by rw [a5, show (5 - g).toNat = (4 - g).toNat + 1 by omega, rdN_long c16 (by omega) evn (by first | (rw [mostZ_e c56]; omega) | (rw [mostZ_o c56]; omega))])) dX7_take_157
          · skip
            refine lv_aload_n hx hb dX7_take_75 rfl (lv_at hl 2 rfl) ?_
            refine va_get (D := D) (ci := 7) (v := .long (lI vn)) (C := RX7) (T := TX7) (N := 24) hx hb hts hin7 hown hK hP 0 rfl rfl 11 (by decide) (hts (.fieldLink RX7 109 "DriftLogModel" "number" "J") (by decide +kernel)) (fun _ h9 => h9) rfl dX7_take_76 ?_
            refine lv_lload_n hx hb dX7_take_79 rfl (lv_at hl 3 rfl) ?_
            refine W.lcmp hx hb dX7_take_80 ?_
            refine wz_lif_lt (tgt := 110) hx hb dX7_take_81 (by decide) ⟨by omega, by omega⟩ ⟨by omega, by omega⟩ (fun c81 => ?_) (fun c81 => ?_)
            · skip
              refine lv_iconst (v := iI 0) hx hb dX7_take_110 rfl ?_
              refine lv_istore (lv' := [(12, .int (iI 0)), (10, .long (lI ev)), (9, .int (iI b)), (0, .ref hm), (1, .long (lI le)), (3, .long (lI ev)), (5, .long (lI od)), (7, .long (lI unit))]) hx hb dX7_take_111 hl (by decide) rfl (fun ls hl => ?_)
              refine lv_aload_n hx hb dX7_take_113 rfl (lv_at hl 3 rfl) ?_
              refine lv_dup hx hb dX7_take_114 rfl ?_
              refine va_get (D := D) (ci := 7) (v := .int (iI at2)) (C := RX7) (T := TX7) (N := 24) hx hb hts hin7 hown hK hP 0 rfl rfl 10 (by decide) (hts (.fieldLink RX7 113 "DriftLogModel" "at" "I") (by decide +kernel)) (fun _ h9 => h9) rfl dX7_take_115 ?_
              refine lv_iload hx hb dX7_take_118 (lv_at hl 0 rfl) ?_
              refine wz_if_eq (tgt := 127) hx hb dX7_take_120 (by decide) (by decide) (fun c120 => ?_) (fun c120 => ?_)
              · skip
                refine lv_iconst (v := iI 0) hx hb dX7_take_127 rfl ?_
                refine wz_iadd hx hb dX7_take_128 ?_
                refine va_put (D := D) (ci := 7) (v := .int (iI (at2 + 0))) (ty := .int) (C := RX7) (T := TX7) (N := 24) hx hb hts hin7 tyX7 tyX7_ok nmX7 hown hK hP hD hS 0 rfl rfl 10 (by decide) (hts (.fieldLink RX7 113 "DriftLogModel" "at" "I") (by decide +kernel)) (fun _ h9 => h9) rfl (by decide +kernel) rfl rfl (Nat.le_of_ble_eq_true rfl) dX7_take_129 (fun H locs hP hD hS => ?_)
                have hP : va_P D vwCl [(hm, .inr (7, [.int (iI th), .ref rS, .ref rM, .ref rB, .ref rT, .ref rX, .ref rY, .ref rL, .int (iI sz1), .ref rR, .int (iI (at2 + 0)), .long (lI vn), .ref rt, .ref rx, .ref ry, .int (iI fo), .ref rF, .ref rG, .ref rU, .ref rV, .long (lI lo), .long (lI lB), .long (lI hi), .long (lI hB1)])), (rR, .inl (cI, 300, .inl (zA fR)))] H := hP
                have hD : va_D A [(hm, .inr (7, [.int (iI th), .ref rS, .ref rM, .ref rB, .ref rT, .ref rX, .ref rY, .ref rL, .int (iI sz1), .ref rR, .int (iI (at2 + 0)), .long (lI vn), .ref rt, .ref rx, .ref ry, .int (iI fo), .ref rF, .ref rG, .ref rU, .ref rV, .long (lI lo), .long (lI lB), .long (lI hi), .long (lI hB1)])), (rR, .inl (cI, 300, .inl (zA fR)))] := hD
                refine lv_iload hx hb dX7_take_132 (lv_at hl 0 rfl) ?_
                rw [hQ]
                exact wz_retz (tys := TY cI cJ cT) (vn, (at2 + 0)) hx hb hr hlocks hK hP hD hS (by first | decide | exact bz_01 _ | omega) (by (try dsimp only); exact (by rw [show at2 + 0 = at2 by omega, a5, show (5 - g).toNat = (4 - g).toNat + 1 by omega, rdN_bad c16 (by omega) evn (fun q => by rcases q with ⟨q1, q2, q3⟩; first | omega | (rw [mostZ_e c56] at q2; omega) | (rw [mostZ_o c56] at q2; omega))])) dX7_take_134
              · skip
                exact absurd c120 (by decide)
            · skip
              refine lv_aload_n hx hb dX7_take_84 rfl (lv_at hl 2 rfl) ?_
              refine va_get (D := D) (ci := 7) (v := .long (lI vn)) (C := RX7) (T := TX7) (N := 24) hx hb hts hin7 hown hK hP 0 rfl rfl 11 (by decide) (hts (.fieldLink RX7 109 "DriftLogModel" "number" "J") (by decide +kernel)) (fun _ h9 => h9) rfl dX7_take_85 ?_
              refine lv_lload hx hb dX7_take_88 (lv_at hl 0 rfl) ?_
              refine W.lcmp hx hb dX7_take_90 ?_
              refine wz_lif_gt (tgt := 110) hx hb dX7_take_91 (by decide) ⟨by omega, by omega⟩ ⟨by omega, by omega⟩ (fun c91 => ?_) (fun c91 => ?_)
              · skip
                refine lv_iconst (v := iI 0) hx hb dX7_take_110 rfl ?_
                refine lv_istore (lv' := [(12, .int (iI 0)), (10, .long (lI ev)), (9, .int (iI b)), (0, .ref hm), (1, .long (lI le)), (3, .long (lI ev)), (5, .long (lI od)), (7, .long (lI unit))]) hx hb dX7_take_111 hl (by decide) rfl (fun ls hl => ?_)
                refine lv_aload_n hx hb dX7_take_113 rfl (lv_at hl 3 rfl) ?_
                refine lv_dup hx hb dX7_take_114 rfl ?_
                refine va_get (D := D) (ci := 7) (v := .int (iI at2)) (C := RX7) (T := TX7) (N := 24) hx hb hts hin7 hown hK hP 0 rfl rfl 10 (by decide) (hts (.fieldLink RX7 113 "DriftLogModel" "at" "I") (by decide +kernel)) (fun _ h9 => h9) rfl dX7_take_115 ?_
                refine lv_iload hx hb dX7_take_118 (lv_at hl 0 rfl) ?_
                refine wz_if_eq (tgt := 127) hx hb dX7_take_120 (by decide) (by decide) (fun c120 => ?_) (fun c120 => ?_)
                · skip
                  refine lv_iconst (v := iI 0) hx hb dX7_take_127 rfl ?_
                  refine wz_iadd hx hb dX7_take_128 ?_
                  refine va_put (D := D) (ci := 7) (v := .int (iI (at2 + 0))) (ty := .int) (C := RX7) (T := TX7) (N := 24) hx hb hts hin7 tyX7 tyX7_ok nmX7 hown hK hP hD hS 0 rfl rfl 10 (by decide) (hts (.fieldLink RX7 113 "DriftLogModel" "at" "I") (by decide +kernel)) (fun _ h9 => h9) rfl (by decide +kernel) rfl rfl (Nat.le_of_ble_eq_true rfl) dX7_take_129 (fun H locs hP hD hS => ?_)
                  have hP : va_P D vwCl [(hm, .inr (7, [.int (iI th), .ref rS, .ref rM, .ref rB, .ref rT, .ref rX, .ref rY, .ref rL, .int (iI sz1), .ref rR, .int (iI (at2 + 0)), .long (lI vn), .ref rt, .ref rx, .ref ry, .int (iI fo), .ref rF, .ref rG, .ref rU, .ref rV, .long (lI lo), .long (lI lB), .long (lI hi), .long (lI hB1)])), (rR, .inl (cI, 300, .inl (zA fR)))] H := hP
                  have hD : va_D A [(hm, .inr (7, [.int (iI th), .ref rS, .ref rM, .ref rB, .ref rT, .ref rX, .ref rY, .ref rL, .int (iI sz1), .ref rR, .int (iI (at2 + 0)), .long (lI vn), .ref rt, .ref rx, .ref ry, .int (iI fo), .ref rF, .ref rG, .ref rU, .ref rV, .long (lI lo), .long (lI lB), .long (lI hi), .long (lI hB1)])), (rR, .inl (cI, 300, .inl (zA fR)))] := hD
                  refine lv_iload hx hb dX7_take_132 (lv_at hl 0 rfl) ?_
                  rw [hQ]
                  exact wz_retz (tys := TY cI cJ cT) (vn, (at2 + 0)) hx hb hr hlocks hK hP hD hS (by first | decide | exact bz_01 _ | omega) (by (try dsimp only); exact (by rw [show at2 + 0 = at2 by omega, a5, show (5 - g).toNat = (4 - g).toNat + 1 by omega, rdN_bad c16 (by omega) evn (fun q => by rcases q with ⟨q1, q2, q3⟩; first | omega | (rw [mostZ_e c56] at q2; omega) | (rw [mostZ_o c56] at q2; omega))])) dX7_take_134
                · skip
                  exact absurd c120 (by decide)
              · skip
                refine lv_iload hx hb dX7_take_94 (lv_at hl 1 rfl) ?_
                refine wz_if_gt (tgt := 106) hx hb dX7_take_96 (by decide) ⟨by omega, by omega⟩ (fun c96 => ?_) (fun c96 => ?_)
                · skip
                  refine lv_iconst (v := iI 1) hx hb dX7_take_106 rfl ?_
                  refine lv_goto (tgt := 111) hx hb dX7_take_107 (by decide) ?_
                  refine lv_istore (lv' := [(12, .int (iI 1)), (10, .long (lI ev)), (9, .int (iI b)), (0, .ref hm), (1, .long (lI le)), (3, .long (lI ev)), (5, .long (lI od)), (7, .long (lI unit))]) hx hb dX7_take_111 hl (by decide) rfl (fun ls hl => ?_)
                  refine lv_aload_n hx hb dX7_take_113 rfl (lv_at hl 3 rfl) ?_
                  refine lv_dup hx hb dX7_take_114 rfl ?_
                  refine va_get (D := D) (ci := 7) (v := .int (iI at2)) (C := RX7) (T := TX7) (N := 24) hx hb hts hin7 hown hK hP 0 rfl rfl 10 (by decide) (hts (.fieldLink RX7 113 "DriftLogModel" "at" "I") (by decide +kernel)) (fun _ h9 => h9) rfl dX7_take_115 ?_
                  refine lv_iload hx hb dX7_take_118 (lv_at hl 0 rfl) ?_
                  refine wz_if_eq (tgt := 127) hx hb dX7_take_120 (by decide) (by decide) (fun c120 => ?_) (fun c120 => ?_)
                  · skip
                    exact absurd c120 (by decide)
                  · skip
                    refine lv_iconst (v := iI 1) hx hb dX7_take_123 rfl ?_
                    refine lv_goto (tgt := 128) hx hb dX7_take_124 (by decide) ?_
                    refine wz_iadd hx hb dX7_take_128 ?_
                    refine va_put (D := D) (ci := 7) (v := .int (iI (at2 + 1))) (ty := .int) (C := RX7) (T := TX7) (N := 24) hx hb hts hin7 tyX7 tyX7_ok nmX7 hown hK hP hD hS 0 rfl rfl 10 (by decide) (hts (.fieldLink RX7 113 "DriftLogModel" "at" "I") (by decide +kernel)) (fun _ h9 => h9) rfl (by decide +kernel) rfl rfl (Nat.le_of_ble_eq_true rfl) dX7_take_129 (fun H locs hP hD hS => ?_)
                    have hP : va_P D vwCl [(hm, .inr (7, [.int (iI th), .ref rS, .ref rM, .ref rB, .ref rT, .ref rX, .ref rY, .ref rL, .int (iI sz1), .ref rR, .int (iI (at2 + 1)), .long (lI vn), .ref rt, .ref rx, .ref ry, .int (iI fo), .ref rF, .ref rG, .ref rU, .ref rV, .long (lI lo), .long (lI lB), .long (lI hi), .long (lI hB1)])), (rR, .inl (cI, 300, .inl (zA fR)))] H := hP
                    have hD : va_D A [(hm, .inr (7, [.int (iI th), .ref rS, .ref rM, .ref rB, .ref rT, .ref rX, .ref rY, .ref rL, .int (iI sz1), .ref rR, .int (iI (at2 + 1)), .long (lI vn), .ref rt, .ref rx, .ref ry, .int (iI fo), .ref rF, .ref rG, .ref rU, .ref rV, .long (lI lo), .long (lI lB), .long (lI hi), .long (lI hB1)])), (rR, .inl (cI, 300, .inl (zA fR)))] := hD
                    refine lv_iload hx hb dX7_take_132 (lv_at hl 0 rfl) ?_
                    rw [hQ]
                    exact wz_retz (tys := TY cI cJ cT) (vn, (at2 + 1)) hx hb hr hlocks hK hP hD hS (by first | decide | exact bz_01 _ | omega) (by (try dsimp only); exact (by rw [a5, show (5 - g).toNat = (4 - g).toNat + 1 by omega, rdN_good c16 (by omega) evn (by omega) (by first | (rw [mostZ_e c56]; omega) | (rw [mostZ_o c56]; omega)) (by first | (left; omega) | (right; omega))])) dX7_take_134
                · skip
                  refine lv_lload hx hb dX7_take_99 (lv_at hl 6 rfl) ?_
                  refine lv_lconst (v := lI 1) hx hb dX7_take_101 (by decide) ?_
                  refine W.lcmp hx hb dX7_take_102 ?_
                  refine wz_lif_ne (tgt := 110) hx hb dX7_take_103 (by decide) ⟨by omega, by omega⟩ (by decide) (fun c103 => ?_) (fun c103 => ?_)
                  · skip
                    refine lv_iconst (v := iI 0) hx hb dX7_take_110 rfl ?_
                    refine lv_istore (lv' := [(12, .int (iI 0)), (10, .long (lI ev)), (9, .int (iI b)), (0, .ref hm), (1, .long (lI le)), (3, .long (lI ev)), (5, .long (lI od)), (7, .long (lI unit))]) hx hb dX7_take_111 hl (by decide) rfl (fun ls hl => ?_)
                    refine lv_aload_n hx hb dX7_take_113 rfl (lv_at hl 3 rfl) ?_
                    refine lv_dup hx hb dX7_take_114 rfl ?_
                    refine va_get (D := D) (ci := 7) (v := .int (iI at2)) (C := RX7) (T := TX7) (N := 24) hx hb hts hin7 hown hK hP 0 rfl rfl 10 (by decide) (hts (.fieldLink RX7 113 "DriftLogModel" "at" "I") (by decide +kernel)) (fun _ h9 => h9) rfl dX7_take_115 ?_
                    refine lv_iload hx hb dX7_take_118 (lv_at hl 0 rfl) ?_
                    refine wz_if_eq (tgt := 127) hx hb dX7_take_120 (by decide) (by decide) (fun c120 => ?_) (fun c120 => ?_)
                    · skip
                      refine lv_iconst (v := iI 0) hx hb dX7_take_127 rfl ?_
                      refine wz_iadd hx hb dX7_take_128 ?_
                      refine va_put (D := D) (ci := 7) (v := .int (iI (at2 + 0))) (ty := .int) (C := RX7) (T := TX7) (N := 24) hx hb hts hin7 tyX7 tyX7_ok nmX7 hown hK hP hD hS 0 rfl rfl 10 (by decide) (hts (.fieldLink RX7 113 "DriftLogModel" "at" "I") (by decide +kernel)) (fun _ h9 => h9) rfl (by decide +kernel) rfl rfl (Nat.le_of_ble_eq_true rfl) dX7_take_129 (fun H locs hP hD hS => ?_)
                      have hP : va_P D vwCl [(hm, .inr (7, [.int (iI th), .ref rS, .ref rM, .ref rB, .ref rT, .ref rX, .ref rY, .ref rL, .int (iI sz1), .ref rR, .int (iI (at2 + 0)), .long (lI vn), .ref rt, .ref rx, .ref ry, .int (iI fo), .ref rF, .ref rG, .ref rU, .ref rV, .long (lI lo), .long (lI lB), .long (lI hi), .long (lI hB1)])), (rR, .inl (cI, 300, .inl (zA fR)))] H := hP
                      have hD : va_D A [(hm, .inr (7, [.int (iI th), .ref rS, .ref rM, .ref rB, .ref rT, .ref rX, .ref rY, .ref rL, .int (iI sz1), .ref rR, .int (iI (at2 + 0)), .long (lI vn), .ref rt, .ref rx, .ref ry, .int (iI fo), .ref rF, .ref rG, .ref rU, .ref rV, .long (lI lo), .long (lI lB), .long (lI hi), .long (lI hB1)])), (rR, .inl (cI, 300, .inl (zA fR)))] := hD
                      refine lv_iload hx hb dX7_take_132 (lv_at hl 0 rfl) ?_
                      rw [hQ]
                      exact wz_retz (tys := TY cI cJ cT) (vn, (at2 + 0)) hx hb hr hlocks hK hP hD hS (by first | decide | exact bz_01 _ | omega) (by (try dsimp only); exact (by rw [show at2 + 0 = at2 by omega, a5, show (5 - g).toNat = (4 - g).toNat + 1 by omega, rdN_bad c16 (by omega) evn (fun q => by rcases q with ⟨q1, q2, q3⟩; first | omega | (rw [mostZ_e c56] at q2; omega) | (rw [mostZ_o c56] at q2; omega))])) dX7_take_134
                    · skip
                      exact absurd c120 (by decide)
                  · skip
                    refine lv_iconst (v := iI 1) hx hb dX7_take_106 rfl ?_
                    refine lv_goto (tgt := 111) hx hb dX7_take_107 (by decide) ?_
                    refine lv_istore (lv' := [(12, .int (iI 1)), (10, .long (lI ev)), (9, .int (iI b)), (0, .ref hm), (1, .long (lI le)), (3, .long (lI ev)), (5, .long (lI od)), (7, .long (lI unit))]) hx hb dX7_take_111 hl (by decide) rfl (fun ls hl => ?_)
                    refine lv_aload_n hx hb dX7_take_113 rfl (lv_at hl 3 rfl) ?_
                    refine lv_dup hx hb dX7_take_114 rfl ?_
                    refine va_get (D := D) (ci := 7) (v := .int (iI at2)) (C := RX7) (T := TX7) (N := 24) hx hb hts hin7 hown hK hP 0 rfl rfl 10 (by decide) (hts (.fieldLink RX7 113 "DriftLogModel" "at" "I") (by decide +kernel)) (fun _ h9 => h9) rfl dX7_take_115 ?_
                    refine lv_iload hx hb dX7_take_118 (lv_at hl 0 rfl) ?_
                    refine wz_if_eq (tgt := 127) hx hb dX7_take_120 (by decide) (by decide) (fun c120 => ?_) (fun c120 => ?_)
                    · skip
                      exact absurd c120 (by decide)
                    · skip
                      refine lv_iconst (v := iI 1) hx hb dX7_take_123 rfl ?_
                      refine lv_goto (tgt := 128) hx hb dX7_take_124 (by decide) ?_
                      refine wz_iadd hx hb dX7_take_128 ?_
                      refine va_put (D := D) (ci := 7) (v := .int (iI (at2 + 1))) (ty := .int) (C := RX7) (T := TX7) (N := 24) hx hb hts hin7 tyX7 tyX7_ok nmX7 hown hK hP hD hS 0 rfl rfl 10 (by decide) (hts (.fieldLink RX7 113 "DriftLogModel" "at" "I") (by decide +kernel)) (fun _ h9 => h9) rfl (by decide +kernel) rfl rfl (Nat.le_of_ble_eq_true rfl) dX7_take_129 (fun H locs hP hD hS => ?_)
                      have hP : va_P D vwCl [(hm, .inr (7, [.int (iI th), .ref rS, .ref rM, .ref rB, .ref rT, .ref rX, .ref rY, .ref rL, .int (iI sz1), .ref rR, .int (iI (at2 + 1)), .long (lI vn), .ref rt, .ref rx, .ref ry, .int (iI fo), .ref rF, .ref rG, .ref rU, .ref rV, .long (lI lo), .long (lI lB), .long (lI hi), .long (lI hB1)])), (rR, .inl (cI, 300, .inl (zA fR)))] H := hP
                      have hD : va_D A [(hm, .inr (7, [.int (iI th), .ref rS, .ref rM, .ref rB, .ref rT, .ref rX, .ref rY, .ref rL, .int (iI sz1), .ref rR, .int (iI (at2 + 1)), .long (lI vn), .ref rt, .ref rx, .ref ry, .int (iI fo), .ref rF, .ref rG, .ref rU, .ref rV, .long (lI lo), .long (lI lB), .long (lI hi), .long (lI hB1)])), (rR, .inl (cI, 300, .inl (zA fR)))] := hD
                      refine lv_iload hx hb dX7_take_132 (lv_at hl 0 rfl) ?_
                      rw [hQ]
                      exact wz_retz (tys := TY cI cJ cT) (vn, (at2 + 1)) hx hb hr hlocks hK hP hD hS (by first | decide | exact bz_01 _ | omega) (by (try dsimp only); exact (by rw [a5, show (5 - g).toNat = (4 - g).toNat + 1 by omega, rdN_good c16 (by omega) evn (by omega) (by first | (rw [mostZ_e c56]; omega) | (rw [mostZ_o c56]; omega)) (by first | (left; omega) | (right; omega))])) dX7_take_134
  exact LP8 (Int.toNat (5 - 0) + 1) 0 0 1 at1 _ _ _ ⟨(by decide), (rfl), (by decide), (hat), (rfl)⟩ (by omega) hP hD hS (lv_sub hl [1, 2, 3, 4, 0] rfl)
set_option maxHeartbeats 4000000 in
set_option maxRecDepth 100000 in
theorem k_X7_back (l : Launch) (D : va_G) (cI cJ cT : ClassId) (sz : Nat) (v : Int) (h1 : 0 ≤ v ∧ v ≤ 4611686018427387904) : Met l yX7_back wsX7_back { frames := 0, cells := 0, slots := 0, locals := 0 } (zPc D (TY cI cJ cT) [.long (lI v)] [] sz) (zQl D (TY cI cJ cT) (va_A [] sz) (fun (z : Int) (u : Unit) => z = (backZ v)) (fun (u : Unit) => [])) 0 0 (va_A [] sz) := by
  refine zMl (cc := cX7_back) (maxL := 2) (ret := (some .long)) (by decide) rfl (Nat.le_of_ble_eq_true rfl) ?_
  intro p e s m below meth c A ls hE
  obtain ⟨hx, hb, hr, hts, hown, hlocks, hml, hnm, hP, hK, hD, hA, hS, hl⟩ := hE
  have hown : s.vm.findClass RX7 = some m.cls := hown
  have hl : lv_has ls 2 [(0, .long (lI v))] := hl
  obtain ⟨Q, hQ⟩ : ∃ Q, Q = MQ below (zQl D (TY cI cJ cT) A (fun (z : Int) (u : Unit) => z = (backZ v)) (fun (u : Unit) => [])) ([.long (lI v)] : List Value).toArray s 0 0 A := ⟨_, rfl⟩
  rw [← hQ]
  refine lv_lload_n hx hb dX7_back_0 rfl (lv_at hl 0 rfl) ?_
  refine lv_lconst (v := lI 1) hx hb dX7_back_1 (by decide) ?_
  refine lv_land hx hb dX7_back_2 ?_
  refine wz_topl (y := lI (v % 2)) (lI_and1 (by omega) (by omega)) ?_
  refine lv_lconst (v := lI 0) hx hb dX7_back_3 (by decide) ?_
  refine W.lcmp hx hb dX7_back_4 ?_
  refine wz_lif_ne (tgt := 16) hx hb dX7_back_5 (by decide) ⟨by omega, by omega⟩ (by decide) (fun c5 => ?_) (fun c5 => ?_)
  · skip
    refine lv_lload_n hx hb dX7_back_16 rfl (lv_at hl 0 rfl) ?_
    refine lv_lconst (v := lI 1) hx hb dX7_back_17 (by decide) ?_
    refine wz_ladd hx hb dX7_back_18 ?_
    refine wz_lneg hx hb dX7_back_19 ?_
    refine lv_ldc2 (v := 2) hx hb hown (hts (.constantLong RX7 100 (2)) (by decide +kernel)) dX7_back_20 ?_
    refine wz_topl (show (2 : Int64) = lI 2 by decide) ?_
    refine lv_ldiv hx hb dX7_back_23 (by decide) ?_
    refine wz_topl (y := lI ((-(v + 1)).tdiv 2)) (lI_div ⟨by omega, by omega⟩ (by decide) (by left; decide)) ?_
    rw [hQ]
    exact wz_retl (tys := TY cI cJ cT) () hx hb hr hlocks hK hP hD hS (back_o h1.1 c5) dX7_back_24
  · skip
    refine lv_lload_n hx hb dX7_back_8 rfl (lv_at hl 0 rfl) ?_
    refine lv_ldc2 (v := 2) hx hb hown (hts (.constantLong RX7 100 (2)) (by decide +kernel)) dX7_back_9 ?_
    refine wz_topl (show (2 : Int64) = lI 2 by decide) ?_
    refine lv_ldiv hx hb dX7_back_12 (by decide) ?_
    refine wz_topl (y := lI (v.tdiv 2)) (lI_div ⟨by omega, by omega⟩ (by decide) (by left; decide)) ?_
    refine lv_goto (tgt := 24) hx hb dX7_back_13 (by decide) ?_
    rw [hQ]
    exact wz_retl (tys := TY cI cJ cT) () hx hb hr hlocks hK hP hD hS (back_e h1.1 c5) dX7_back_24
set_option maxHeartbeats 4000000 in
set_option maxRecDepth 100000 in
theorem k_X7_takePlace (l : Launch) (D : va_G) (cI cJ cT : ClassId) (sz : Nat) (hm : Nat) (th : Int) (rS : Nat) (rM : Nat) (rB : Nat) (rT : Nat) (rX : Nat) (rY : Nat) (rL : Nat) (sz1 : Int) (rR : Nat) (at1 : Int) (nu : Int) (rt : Nat) (rx : Nat) (ry : Nat) (fo : Int) (rF : Nat) (rG : Nat) (rU : Nat) (rV : Nat) (lo : Int) (lB : Int) (hi : Int) (hB1 : Int) (fR : Int → Int) (bf : Int) (hBb : okB fR) (hnb : 0 ≤ sz1 ∧ sz1 ≤ 300) (hat : 0 ≤ at1 ∧ at1 ≤ sz1) (hbf : -8388608 ≤ bf ∧ bf ≤ 8388608) : Met l yX7_takePlace wsX7_takePlace { frames := 1, cells := 0, slots := 0, locals := 32 } (zPc D (TY cI cJ cT) [.ref hm, .long (lI bf)] [(hm, .inr (7, [.int (iI th), .ref rS, .ref rM, .ref rB, .ref rT, .ref rX, .ref rY, .ref rL, .int (iI sz1), .ref rR, .int (iI at1), .long (lI nu), .ref rt, .ref rx, .ref ry, .int (iI fo), .ref rF, .ref rG, .ref rU, .ref rV, .long (lI lo), .long (lI lB), .long (lI hi), .long (lI hB1)])), (rR, .inl (cI, 300, .inl (zA fR)))] sz) (zQi D (TY cI cJ cT) (va_A [(hm, .inr (7, [.int (iI th), .ref rS, .ref rM, .ref rB, .ref rT, .ref rX, .ref rY, .ref rL, .int (iI sz1), .ref rR, .int (iI at1), .long (lI nu), .ref rt, .ref rx, .ref ry, .int (iI fo), .ref rF, .ref rG, .ref rU, .ref rV, .long (lI lo), .long (lI lB), .long (lI hi), .long (lI hB1)])), (rR, .inl (cI, 300, .inl (zA fR)))] sz) (fun (z : Int) (u : Int × Int) => (z = 1 ∧ (rdM fR sz1 at1 bf) = (1, u.1, u.2)) ∨ (z = 0 ∧ (rdM fR sz1 at1 bf).1 = 0 ∧ (rdM fR sz1 at1 bf).2.2 = u.2)) (fun (u : Int × Int) => [(hm, .inr (7, [.int (iI th), .ref rS, .ref rM, .ref rB, .ref rT, .ref rX, .ref rY, .ref rL, .int (iI sz1), .ref rR, .int (iI u.2), .long (lI u.1), .ref rt, .ref rx, .ref ry, .int (iI fo), .ref rF, .ref rG, .ref rU, .ref rV, .long (lI lo), .long (lI lB), .long (lI hi), .long (lI hB1)])), (rR, .inl (cI, 300, .inl (zA fR)))])) 0 0 (va_A [(hm, .inr (7, [.int (iI th), .ref rS, .ref rM, .ref rB, .ref rT, .ref rX, .ref rY, .ref rL, .int (iI sz1), .ref rR, .int (iI at1), .long (lI nu), .ref rt, .ref rx, .ref ry, .int (iI fo), .ref rF, .ref rG, .ref rU, .ref rV, .long (lI lo), .long (lI lB), .long (lI hi), .long (lI hB1)])), (rR, .inl (cI, 300, .inl (zA fR)))] sz) := by
  refine zMi (cc := cX7_takePlace) (maxL := 3) (ret := (some .boolean)) (by decide) rfl (Nat.le_of_ble_eq_true rfl) ?_
  intro p e s m below meth c A ls hE
  obtain ⟨hx, hb, hr, hts, hown, hlocks, hml, hnm, hP, hK, hD, hA, hS, hl⟩ := hE
  have hown : s.vm.findClass RX7 = some m.cls := hown
  have hl : lv_has ls 3 [(0, .ref hm), (1, .long (lI bf))] := hl
  have hin7 : ∀ w ∈ wsX70, w ∈ wsX7_takePlace := by decide +kernel
  obtain ⟨Q, hQ⟩ : ∃ Q, Q = MQ below (zQi D (TY cI cJ cT) A (fun (z : Int) (u : Int × Int) => (z = 1 ∧ (rdM fR sz1 at1 bf) = (1, u.1, u.2)) ∨ (z = 0 ∧ (rdM fR sz1 at1 bf).1 = 0 ∧ (rdM fR sz1 at1 bf).2.2 = u.2)) (fun (u : Int × Int) => [(hm, .inr (7, [.int (iI th), .ref rS, .ref rM, .ref rB, .ref rT, .ref rX, .ref rY, .ref rL, .int (iI sz1), .ref rR, .int (iI u.2), .long (lI u.1), .ref rt, .ref rx, .ref ry, .int (iI fo), .ref rF, .ref rG, .ref rU, .ref rV, .long (lI lo), .long (lI lB), .long (lI hi), .long (lI hB1)])), (rR, .inl (cI, 300, .inl (zA fR)))])) ([.ref hm, .long (lI bf)] : List Value).toArray s 0 0 A := ⟨_, rfl⟩
  rw [← hQ]
  refine lv_aload_n hx hb dX7_takePlace_0 rfl (lv_at hl 0 rfl) ?_
  refine lv_lconst (v := lI 0) hx hb dX7_takePlace_1 (by decide) ?_
  refine lv_ldc2 (v := 2) hx hb hown (hts (.constantLong RX7 100 (2)) (by decide +kernel)) dX7_takePlace_2 ?_
  refine wz_topl (show (2 : Int64) = lI 2 by decide) ?_
  refine lv_ldc2 (v := 8388608) hx hb hown (hts (.constantLong RX7 118 (8388608)) (by decide +kernel)) dX7_takePlace_5 ?_
  refine wz_topl (show (8388608 : Int64) = lI 8388608 by decide) ?_
  refine lv_lload_n hx hb dX7_takePlace_8 rfl (lv_at hl 1 rfl) ?_
  refine wz_lsub hx hb dX7_takePlace_9 ?_
  refine wz_lmul hx hb dX7_takePlace_10 ?_
  refine lv_ldc2 (v := 2) hx hb hown (hts (.constantLong RX7 100 (2)) (by decide +kernel)) dX7_takePlace_11 ?_
  refine wz_topl (show (2 : Int64) = lI 2 by decide) ?_
  refine lv_ldc2 (v := 8388608) hx hb hown (hts (.constantLong RX7 118 (8388608)) (by decide +kernel)) dX7_takePlace_14 ?_
  refine wz_topl (show (8388608 : Int64) = lI 8388608 by decide) ?_
  refine lv_lload_n hx hb dX7_takePlace_17 rfl (lv_at hl 1 rfl) ?_
  refine wz_ladd hx hb dX7_takePlace_18 ?_
  refine wz_lmul hx hb dX7_takePlace_19 ?_
  refine lv_lconst (v := lI 1) hx hb dX7_takePlace_20 (by decide) ?_
  refine wz_lsub hx hb dX7_takePlace_21 ?_
  refine wz_calli (wr := []) (va_runV (As := [.long (lI 0), .long (lI (2 * (8388608 - bf))), .long (lI ((2 * (8388608 + bf)) - 1))]) (rest := []) ⟨hx, hb, hml, hown, hts⟩ (k_X7_take l D cI cJ cT s.heap.size hm th rS rM rB rT rX rY rL sz1 rR at1 nu rt rx ry fo rF rG rU rV lo lB hi hB1 fR 0 (2 * (8388608 - bf)) ((2 * (8388608 + bf)) - 1) (hBb) (hnb) (hat) (by decide) (by constructor <;> omega) (by constructor <;> omega)) (cwV 3 hts gX7_takePlace_X7_take rfl rfl rfl (by decide +kernel) ⟨Nat.le_of_ble_eq_true rfl, Nat.le_of_ble_eq_true rfl⟩) (wz_preV hK hP hD [0, 1] (by decide) rfl rfl 7 0 rfl rfl) rfl rfl hl.1 rfl (lv_room (Nat.le_of_ble_eq_true rfl)) dX7_takePlace_22 ⟨Nat.le_of_ble_eq_true rfl, Nat.le_of_ble_eq_true rfl⟩) hP hD hS hA [0, 1] [] rfl rfl rfl (by decide) (fun z22 u H locs hw22 hP hD hS => ?_)
  obtain ⟨nu2, at2⟩ := u
  try dsimp only at hw22
  have hP : va_P D vwCl [(hm, .inr (7, [.int (iI th), .ref rS, .ref rM, .ref rB, .ref rT, .ref rX, .ref rY, .ref rL, .int (iI sz1), .ref rR, .int (iI at2), .long (lI nu2), .ref rt, .ref rx, .ref ry, .int (iI fo), .ref rF, .ref rG, .ref rU, .ref rV, .long (lI lo), .long (lI lB), .long (lI hi), .long (lI hB1)])), (rR, .inl (cI, 300, .inl (zA fR)))] H := hP.sub [0, 1] rfl
  have hD : va_D A [(hm, .inr (7, [.int (iI th), .ref rS, .ref rM, .ref rB, .ref rT, .ref rX, .ref rY, .ref rL, .int (iI sz1), .ref rR, .int (iI at2), .long (lI nu2), .ref rt, .ref rx, .ref ry, .int (iI fo), .ref rF, .ref rG, .ref rU, .ref rV, .long (lI lo), .long (lI lB), .long (lI hi), .long (lI hB1)])), (rR, .inl (cI, 300, .inl (zA fR)))] := hD.sub [0, 1] (by decide) rfl
  have g := rdN_r 5 fR sz1 at1 1 0 0 (2 * (8388608 - bf)) (2 * (8388608 + bf) - 1) hBb hat.1 hat.2 (by decide) (by decide)
  rw [hw22] at g
  obtain ⟨g1, g2, g3, g4⟩ := g
  dsimp only at g1 g2 g3 g4
  have g5 := mostZ_le (v := nu2) (M := 33554432) (show 2 * (8388608 - bf) ≤ 33554432 by omega) (show 2 * (8388608 + bf) - 1 ≤ 33554432 by omega)
  refine wz_if_ne (tgt := 30) hx hb dX7_takePlace_25 (by decide) ⟨by omega, by omega⟩ (fun c25 => ?_) (fun c25 => ?_)
  · skip
    have z1 : z22 = 1 := by omega
    refine lv_aload_n hx hb dX7_takePlace_30 rfl (lv_at hl 0 rfl) ?_
    refine lv_lload_n hx hb dX7_takePlace_31 rfl (lv_at hl 1 rfl) ?_
    refine lv_aload_n hx hb dX7_takePlace_32 rfl (lv_at hl 0 rfl) ?_
    refine va_get (D := D) (ci := 7) (v := .long (lI nu2)) (C := RX7) (T := TX7) (N := 24) hx hb hts hin7 hown hK hP 0 rfl rfl 11 (by decide) (hts (.fieldLink RX7 109 "DriftLogModel" "number" "J") (by decide +kernel)) (fun _ h9 => h9) rfl dX7_takePlace_33 ?_
    refine wz_calll (wr := [(hm, .inr (7, [.int (iI th), .ref rS, .ref rM, .ref rB, .ref rT, .ref rX, .ref rY, .ref rL, .int (iI sz1), .ref rR, .int (iI at2), .long (lI nu2), .ref rt, .ref rx, .ref ry, .int (iI fo), .ref rF, .ref rG, .ref rU, .ref rV, .long (lI lo), .long (lI lB), .long (lI hi), .long (lI hB1)])), (rR, .inl (cI, 300, .inl (zA fR)))]) (va_runS (As := [.long (lI nu2)]) (rest := [.long (lI bf), .ref hm]) ⟨hx, hb, hml, hown, hts⟩ (k_X7_back l D cI cJ cT H.size nu2 (by constructor <;> omega)) (va_cwS 1 hts gX7_takePlace_X7_back rfl rfl rfl (by decide +kernel) ⟨Nat.le_of_ble_eq_true rfl, Nat.le_of_ble_eq_true rfl⟩) (wz_preS hK hP hD [] (by decide) rfl rfl) rfl rfl hl.1 rfl (lv_room (Nat.le_of_ble_eq_true rfl)) dX7_takePlace_36 ⟨Nat.le_of_ble_eq_true rfl, Nat.le_of_ble_eq_true rfl⟩) hP hD hS hA [] [0, 1] rfl rfl rfl (by decide) (fun z36 u H locs hw36 hP hD hS => ?_)
    have hP : va_P D vwCl [(hm, .inr (7, [.int (iI th), .ref rS, .ref rM, .ref rB, .ref rT, .ref rX, .ref rY, .ref rL, .int (iI sz1), .ref rR, .int (iI at2), .long (lI nu2), .ref rt, .ref rx, .ref ry, .int (iI fo), .ref rF, .ref rG, .ref rU, .ref rV, .long (lI lo), .long (lI lB), .long (lI hi), .long (lI hB1)])), (rR, .inl (cI, 300, .inl (zA fR)))] H := hP.sub [0, 1] rfl
    have hD : va_D A [(hm, .inr (7, [.int (iI th), .ref rS, .ref rM, .ref rB, .ref rT, .ref rX, .ref rY, .ref rL, .int (iI sz1), .ref rR, .int (iI at2), .long (lI nu2), .ref rt, .ref rx, .ref ry, .int (iI fo), .ref rF, .ref rG, .ref rU, .ref rV, .long (lI lo), .long (lI lB), .long (lI hi), .long (lI hB1)])), (rR, .inl (cI, 300, .inl (zA fR)))] := hD.sub [0, 1] (by decide) rfl
    subst hw36
    refine wz_ladd hx hb dX7_takePlace_39 ?_
    refine va_put (D := D) (ci := 7) (v := .long (lI (bf + (backZ nu2)))) (ty := .long) (C := RX7) (T := TX7) (N := 24) hx hb hts hin7 tyX7 tyX7_ok nmX7 hown hK hP hD hS 0 rfl rfl 11 (by decide) (hts (.fieldLink RX7 109 "DriftLogModel" "number" "J") (by decide +kernel)) (fun _ h9 => h9) rfl (by decide +kernel) rfl rfl (Nat.le_of_ble_eq_true rfl) dX7_takePlace_40 (fun H locs hP hD hS => ?_)
    have hP : va_P D vwCl [(hm, .inr (7, [.int (iI th), .ref rS, .ref rM, .ref rB, .ref rT, .ref rX, .ref rY, .ref rL, .int (iI sz1), .ref rR, .int (iI at2), .long (lI (bf + (backZ nu2))), .ref rt, .ref rx, .ref ry, .int (iI fo), .ref rF, .ref rG, .ref rU, .ref rV, .long (lI lo), .long (lI lB), .long (lI hi), .long (lI hB1)])), (rR, .inl (cI, 300, .inl (zA fR)))] H := hP
    have hD : va_D A [(hm, .inr (7, [.int (iI th), .ref rS, .ref rM, .ref rB, .ref rT, .ref rX, .ref rY, .ref rL, .int (iI sz1), .ref rR, .int (iI at2), .long (lI (bf + (backZ nu2))), .ref rt, .ref rx, .ref ry, .int (iI fo), .ref rF, .ref rG, .ref rU, .ref rV, .long (lI lo), .long (lI lB), .long (lI hi), .long (lI hB1)])), (rR, .inl (cI, 300, .inl (zA fR)))] := hD
    refine lv_iconst (v := iI 1) hx hb dX7_takePlace_43 rfl ?_
    rw [hQ]
    exact wz_retz (tys := TY cI cJ cT) ((bf + (backZ nu2)), at2) hx hb hr hlocks hK hP hD hS (by first | decide | exact bz_01 _ | omega) (by (try dsimp only); exact (Or.inl ⟨rfl, by unfold rdM upZ dnZ; rw [hw22, z1]⟩)) dX7_takePlace_44
  · skip
    refine lv_iconst (v := iI 0) hx hb dX7_takePlace_28 rfl ?_
    rw [hQ]
    exact wz_retz (tys := TY cI cJ cT) (nu2, at2) hx hb hr hlocks hK hP hD hS (by first | decide | exact bz_01 _ | omega) (by (try dsimp only); exact (Or.inr ⟨rfl, by unfold rdM upZ dnZ; rw [hw22]; exact c25, by unfold rdM upZ dnZ; rw [hw22]⟩)) dX7_takePlace_29
