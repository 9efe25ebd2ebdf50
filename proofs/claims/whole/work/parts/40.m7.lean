set_option maxHeartbeats 4000000 in
set_option maxRecDepth 100000 in
theorem k_X7_readAll (l : Launch) (D : va_G) (cI cJ cT : ClassId) (sz : Nat) (hm : Nat) (th : Int) (rS : Nat) (rM : Nat) (rB : Nat) (rT : Nat) (rX : Nat) (rY : Nat) (rL : Nat) (sz1 : Int) (rR : Nat) (at1 : Int) (nu : Int) (rt : Nat) (rx : Nat) (ry : Nat) (fo : Int) (rF : Nat) (rG : Nat) (rU : Nat) (rV : Nat) (lo : Int) (lB : Int) (hi : Int) (hB1 : Int) (fR : Int → Int) (ft : Int → Int) (fx : Int → Int) (fy : Int → Int) (hBb : okB fR) (hnb : 0 ≤ sz1 ∧ sz1 ≤ 300) (ht : okT ft) (hx1 : okC fx) (hy1 : okC fy) : Met l yX7_readAll wsX7_readAll { frames := 2, cells := 0, slots := 0, locals := 54 } (zPc D (TY cI cJ cT) [.ref hm] [(hm, .inr (7, [.int (iI th), .ref rS, .ref rM, .ref rB, .ref rT, .ref rX, .ref rY, .ref rL, .int (iI sz1), .ref rR, .int (iI at1), .long (lI nu), .ref rt, .ref rx, .ref ry, .int (iI fo), .ref rF, .ref rG, .ref rU, .ref rV, .long (lI lo), .long (lI lB), .long (lI hi), .long (lI hB1)])), (rR, .inl (cI, 300, .inl (zA fR))), (rt, .inl (cI, 20, .inl (zA ft))), (rx, .inl (cI, 20, .inl (zA fx))), (ry, .inl (cI, 20, .inl (zA fy)))] sz) (zQi D (TY cI cJ cT) (va_A [(hm, .inr (7, [.int (iI th), .ref rS, .ref rM, .ref rB, .ref rT, .ref rX, .ref rY, .ref rL, .int (iI sz1), .ref rR, .int (iI at1), .long (lI nu), .ref rt, .ref rx, .ref ry, .int (iI fo), .ref rF, .ref rG, .ref rU, .ref rV, .long (lI lo), .long (lI lB), .long (lI hi), .long (lI hB1)])), (rR, .inl (cI, 300, .inl (zA fR))), (rt, .inl (cI, 20, .inl (zA ft))), (rx, .inl (cI, 20, .inl (zA fx))), (ry, .inl (cI, 20, .inl (zA fy)))] sz) (fun (z : Int) (u : Int × Int × (Int → Int) × (Int → Int) × (Int → Int)) => (1 ≤ z ∧ z ≤ 20 ∧ (rdA fR sz1 ft fx fy) = (-1, z, u.2.2.1, u.2.2.2.1, u.2.2.2.2) ∧ (okT (u.2.2.1) ∧ okC (u.2.2.2.1) ∧ okC (u.2.2.2.2)) ∧ incP z (u.2.2.1)) ∨ (z = -1 ∧ (rdA fR sz1 ft fx fy).1 = u.1 ∧ 0 ≤ u.1 ∧ u.1 ≤ 300 ∧ okT (u.2.2.1) ∧ okC (u.2.2.2.1) ∧ okC (u.2.2.2.2))) (fun (u : Int × Int × (Int → Int) × (Int → Int) × (Int → Int)) => [(hm, .inr (7, [.int (iI th), .ref rS, .ref rM, .ref rB, .ref rT, .ref rX, .ref rY, .ref rL, .int (iI sz1), .ref rR, .int (iI u.1), .long (lI u.2.1), .ref rt, .ref rx, .ref ry, .int (iI fo), .ref rF, .ref rG, .ref rU, .ref rV, .long (lI lo), .long (lI lB), .long (lI hi), .long (lI hB1)])), (rR, .inl (cI, 300, .inl (zA fR))), (rt, .inl (cI, 20, .inl (zA u.2.2.1))), (rx, .inl (cI, 20, .inl (zA u.2.2.2.1))), (ry, .inl (cI, 20, .inl (zA u.2.2.2.2)))])) 0 0 (va_A [(hm, .inr (7, [.int (iI th), .ref rS, .ref rM, .ref rB, .ref rT, .ref rX, .ref rY, .ref rL, .int (iI sz1), .ref rR, .int (iI at1), .long (lI nu), .ref rt, .ref rx, .ref ry, .int (iI fo), .ref rF, .ref rG, .ref rU, .ref rV, .long (lI lo), .long (lI lB), .long (lI hi), .long (lI hB1)])), (rR, .inl (cI, 300, .inl (zA fR))), (rt, .inl (cI, 20, .inl (zA ft))), (rx, .inl (cI, 20, .inl (zA fx))), (ry, .inl (cI, 20, .inl (zA fy)))] sz) := by
  refine zMi (cc := cX7_readAll) (maxL := 11) (ret := (some .int)) (by decide) rfl (Nat.le_of_ble_eq_true rfl) ?_
  intro p e s m below meth c A ls hE
  obtain ⟨hx, hb, hr, hts, hown, hlocks, hml, hnm, hP, hK, hD, hA, hS, hl⟩ := hE
  have hown : s.vm.findClass RX7 = some m.cls := hown
  have hl : lv_has ls 11 [(0, .ref hm)] := hl
  have hin7 : ∀ w ∈ wsX70, w ∈ wsX7_readAll := by decide +kernel
  obtain ⟨Q, hQ⟩ : ∃ Q, Q = MQ below (zQi D (TY cI cJ cT) A (fun (z : Int) (u : Int × Int × (Int → Int) × (Int → Int) × (Int → Int)) => (1 ≤ z ∧ z ≤ 20 ∧ (rdA fR sz1 ft fx fy) = (-1, z, u.2.2.1, u.2.2.2.1, u.2.2.2.2) ∧ (okT (u.2.2.1) ∧ okC (u.2.2.2.1) ∧ okC (u.2.2.2.2)) ∧ incP z (u.2.2.1)) ∨ (z = -1 ∧ (rdA fR sz1 ft fx fy).1 = u.1 ∧ 0 ≤ u.1 ∧ u.1 ≤ 300 ∧ okT (u.2.2.1) ∧ okC (u.2.2.2.1) ∧ okC (u.2.2.2.2))) (fun (u : Int × Int × (Int → Int) × (Int → Int) × (Int → Int)) => [(hm, .inr (7, [.int (iI th), .ref rS, .ref rM, .ref rB, .ref rT, .ref rX, .ref rY, .ref rL, .int (iI sz1), .ref rR, .int (iI u.1), .long (lI u.2.1), .ref rt, .ref rx, .ref ry, .int (iI fo), .ref rF, .ref rG, .ref rU, .ref rV, .long (lI lo), .long (lI lB), .long (lI hi), .long (lI hB1)])), (rR, .inl (cI, 300, .inl (zA fR))), (rt, .inl (cI, 20, .inl (zA u.2.2.1))), (rx, .inl (cI, 20, .inl (zA u.2.2.2.1))), (ry, .inl (cI, 20, .inl (zA u.2.2.2.2)))])) ([.ref hm] : List Value).toArray s 0 0 A := ⟨_, rfl⟩
  rw [← hQ]
  refine lv_aload_n hx hb dX7_readAll_0 rfl (lv_at hl 0 rfl) ?_
  refine lv_iconst (v := iI 0) hx hb dX7_readAll_1 rfl ?_
  refine va_put (D := D) (ci := 7) (v := .int (iI 0)) (ty := .int) (C := RX7) (T := TX7) (N := 24) hx hb hts hin7 tyX7 tyX7_ok nmX7 hown hK hP hD hS 0 rfl rfl 10 (by decide) (hts (.fieldLink RX7 113 "DriftLogModel" "at" "I") (by decide +kernel)) (fun _ h9 => h9) rfl (by decide +kernel) rfl rfl (Nat.le_of_ble_eq_true rfl) dX7_readAll_2 (fun H locs hP hD hS => ?_)
  have hP : va_P D vwCl [(hm, .inr (7, [.int (iI th), .ref rS, .ref rM, .ref rB, .ref rT, .ref rX, .ref rY, .ref rL, .int (iI sz1), .ref rR, .int (iI 0), .long (lI nu), .ref rt, .ref rx, .ref ry, .int (iI fo), .ref rF, .ref rG, .ref rU, .ref rV, .long (lI lo), .long (lI lB), .long (lI hi), .long (lI hB1)])), (rR, .inl (cI, 300, .inl (zA fR))), (rt, .inl (cI, 20, .inl (zA ft))), (rx, .inl (cI, 20, .inl (zA fx))), (ry, .inl (cI, 20, .inl (zA fy)))] H := hP
  have hD : va_D A [(hm, .inr (7, [.int (iI th), .ref rS, .ref rM, .ref rB, .ref rT, .ref rX, .ref rY, .ref rL, .int (iI sz1), .ref rR, .int (iI 0), .long (lI nu), .ref rt, .ref rx, .ref ry, .int (iI fo), .ref rF, .ref rG, .ref rU, .ref rV, .long (lI lo), .long (lI lB), .long (lI hi), .long (lI hB1)])), (rR, .inl (cI, 300, .inl (zA fR))), (rt, .inl (cI, 20, .inl (zA ft))), (rx, .inl (cI, 20, .inl (zA fx))), (ry, .inl (cI, 20, .inl (zA fy)))] := hD
  refine lv_aload_n hx hb dX7_readAll_5 rfl (lv_at hl 0 rfl) ?_
  refine lv_lconst (v := lI 1) hx hb dX7_readAll_6 (by decide) ?_
  refine lv_ldc2 (v := 20) hx hb hown (hts (.constantLong RX7 127 (20)) (by decide +kernel)) dX7_readAll_7 ?_
  refine wz_topl (show (20 : Int64) = lI 20 by decide) ?_
  refine lv_ldc2 (v := 20) hx hb hown (hts (.constantLong RX7 127 (20)) (by decide +kernel)) dX7_readAll_10 ?_
  refine wz_topl (show (20 : Int64) = lI 20 by decide) ?_
  refine wz_calli (wr := [(rt, .inl (cI, 20, .inl (zA ft))), (rx, .inl (cI, 20, .inl (zA fx))), (ry, .inl (cI, 20, .inl (zA fy)))]) (va_runV (As := [.long (lI 1), .long (lI 20), .long (lI 20)]) (rest := []) ⟨hx, hb, hml, hown, hts⟩ (k_X7_take l D cI cJ cT H.size hm th rS rM rB rT rX rY rL sz1 rR 0 nu rt rx ry fo rF rG rU rV lo lB hi hB1 fR 1 20 20 (hBb) (hnb) (by constructor <;> omega) (by decide) (by decide) (by decide)) (cwV 3 hts gX7_readAll_X7_take rfl rfl rfl (by decide +kernel) ⟨Nat.le_of_ble_eq_true rfl, Nat.le_of_ble_eq_true rfl⟩) (wz_preV hK hP hD [0, 1] (by decide) rfl rfl 7 0 rfl rfl) rfl rfl hl.1 rfl (lv_room (Nat.le_of_ble_eq_true rfl)) dX7_readAll_13 ⟨Nat.le_of_ble_eq_true rfl, Nat.le_of_ble_eq_true rfl⟩) hP hD hS hA [0, 1] [2, 3, 4] rfl rfl rfl (by decide) (fun z13 u H locs hw13 hP hD hS => ?_)
  obtain ⟨cn, a0⟩ := u
  try dsimp only at hw13
  have hP : va_P D vwCl [(hm, .inr (7, [.int (iI th), .ref rS, .ref rM, .ref rB, .ref rT, .ref rX, .ref rY, .ref rL, .int (iI sz1), .ref rR, .int (iI a0), .long (lI cn), .ref rt, .ref rx, .ref ry, .int (iI fo), .ref rF, .ref rG, .ref rU, .ref rV, .long (lI lo), .long (lI lB), .long (lI hi), .long (lI hB1)])), (rR, .inl (cI, 300, .inl (zA fR))), (rt, .inl (cI, 20, .inl (zA ft))), (rx, .inl (cI, 20, .inl (zA fx))), (ry, .inl (cI, 20, .inl (zA fy)))] H := hP.sub [3, 4, 0, 1, 2] rfl
  have hD : va_D A [(hm, .inr (7, [.int (iI th), .ref rS, .ref rM, .ref rB, .ref rT, .ref rX, .ref rY, .ref rL, .int (iI sz1), .ref rR, .int (iI a0), .long (lI cn), .ref rt, .ref rx, .ref ry, .int (iI fo), .ref rF, .ref rG, .ref rU, .ref rV, .long (lI lo), .long (lI lB), .long (lI hi), .long (lI hB1)])), (rR, .inl (cI, 300, .inl (zA fR))), (rt, .inl (cI, 20, .inl (zA ft))), (rx, .inl (cI, 20, .inl (zA fx))), (ry, .inl (cI, 20, .inl (zA fy)))] := hD.sub [3, 4, 0, 1, 2] (by decide) rfl
  have g := rdN_r 5 fR sz1 0 1 0 1 20 20 hBb (Int.le_refl _) hnb.1 (by decide) (by decide)
  rw [hw13] at g
  obtain ⟨g1, g2, g3, g4⟩ := g
  dsimp only at g1 g2 g3 g4
  have g5 := mostZ_le (v := cn) (M := 20) (Int.le_refl 20) (Int.le_refl 20)
  refine wz_if_ne (tgt := 21) hx hb dX7_readAll_16 (by decide) (by omega) (fun c16 => ?_) (fun c16 => ?_)
  · skip
    have z1 : z13 = 1 := by omega
    have g6 := g4 z1
    refine lv_aload_n hx hb dX7_readAll_21 rfl (lv_at hl 0 rfl) ?_
    refine va_get (D := D) (ci := 7) (v := .long (lI cn)) (C := RX7) (T := TX7) (N := 24) hx hb hts hin7 hown hK hP 0 rfl rfl 11 (by decide) (hts (.fieldLink RX7 109 "DriftLogModel" "number" "J") (by decide +kernel)) (fun _ h9 => h9) rfl dX7_readAll_22 ?_
    refine wz_l2i hx hb dX7_readAll_25 ?_
    refine lv_istore_n (lv' := [(1, .int (iI cn)), (0, .ref hm)]) hx hb dX7_readAll_26 rfl hl (by decide) rfl (fun ls hl => ?_)
    refine lv_lconst (v := lI 0) hx hb dX7_readAll_27 (by decide) ?_
    refine lv_lstore_n (lv' := [(2, .long (lI 0)), (1, .int (iI cn)), (0, .ref hm)]) hx hb dX7_readAll_28 rfl hl (by decide) rfl (fun ls hl => ?_)
    refine lv_lconst (v := lI 0) hx hb dX7_readAll_29 (by decide) ?_
    refine lv_lstore (lv' := [(4, .long (lI 0)), (2, .long (lI 0)), (1, .int (iI cn)), (0, .ref hm)]) hx hb dX7_readAll_30 hl (by decide) rfl (fun ls hl => ?_)
    refine lv_lconst (v := lI 0) hx hb dX7_readAll_32 (by decide) ?_
    refine lv_lstore (lv' := [(6, .long (lI 0)), (4, .long (lI 0)), (2, .long (lI 0)), (1, .int (iI cn)), (0, .ref hm)]) hx hb dX7_readAll_33 hl (by decide) rfl (fun ls hl => ?_)
    refine lv_iconst (v := iI 0) hx hb dX7_readAll_35 rfl ?_
    refine lv_istore (lv' := [(8, .int (iI 0)), (6, .long (lI 0)), (4, .long (lI 0)), (2, .long (lI 0)), (1, .int (iI cn)), (0, .ref hm)]) hx hb dX7_readAll_36 hl (by decide) rfl (fun ls hl => ?_)
    have LP38 : ∀ (N38 : Nat) (i : Int) (t : Int) (x : Int) (y : Int) (at2 : Int) (nu2 : Int) (gt : Int → Int) (gx : Int → Int) (gy : Int → Int) (H : Heap) (locs : List Loc) (ls : Array Slot), ((0 ≤ i ∧ i ≤ cn) ∧ t = pvZ gt i ∧ x = pvZ gx i ∧ y = pvZ gy i ∧ (0 ≤ at2 ∧ at2 ≤ sz1) ∧ rdL fR sz1 cn a0 ft fx fy (i).toNat = (1, at2, gt, gx, gy) ∧ (okT gt ∧ okC gx ∧ okC gy) ∧ (0 ≤ t ∧ t ≤ 2147483647) ∧ incP i gt) → (20 - i) < (N38 : Int) → va_P D vwCl [(hm, .inr (7, [.int (iI th), .ref rS, .ref rM, .ref rB, .ref rT, .ref rX, .ref rY, .ref rL, .int (iI sz1), .ref rR, .int (iI at2), .long (lI nu2), .ref rt, .ref rx, .ref ry, .int (iI fo), .ref rF, .ref rG, .ref rU, .ref rV, .long (lI lo), .long (lI lB), .long (lI hi), .long (lI hB1)])), (rR, .inl (cI, 300, .inl (zA fR))), (rt, .inl (cI, 20, .inl (zA gt))), (rx, .inl (cI, 20, .inl (zA gx))), (ry, .inl (cI, 20, .inl (zA gy)))] H → va_D A [(hm, .inr (7, [.int (iI th), .ref rS, .ref rM, .ref rB, .ref rT, .ref rX, .ref rY, .ref rL, .int (iI sz1), .ref rR, .int (iI at2), .long (lI nu2), .ref rt, .ref rx, .ref ry, .int (iI fo), .ref rF, .ref rG, .ref rU, .ref rV, .long (lI lo), .long (lI lB), .long (lI hi), .long (lI hB1)])), (rR, .inl (cI, 300, .inl (zA fR))), (rt, .inl (cI, 20, .inl (zA gt))), (rx, .inl (cI, 20, .inl (zA gx))), (ry, .inl (cI, 20, .inl (zA gy)))] → va_S A s.heap H locs → lv_has ls 11 [(0, .ref hm), (1, .int (iI cn)), (2, .long (lI t)), (4, .long (lI x)), (6, .long (lI y)), (8, .int (iI i))] → W p l e { frames := 2, cells := 0, slots := 0, locals := 54 } s m ([.ref hm] : List Value).toArray below meth c H locs 0 0 Q (F0 m 38 ls []) := by
      intro N38
      induction N38 with
      | zero =>
        intro i t x y at2 nu2 gt gx gy H locs ls hI hm
        obtain ⟨a1, t1, x1, y1, a4, a5, a6, a7, a8⟩ := hI
        exfalso; omega
      | succ N38 ih38 =>
        intro i t x y at2 nu2 gt gx gy H locs ls hI hm38 hP hD hS hl
        obtain ⟨a1, t1, x1, y1, a4, a5, a6, a7, a8⟩ := hI
        have rxx := pvZ_C a6.2.1 i
        have ryy := pvZ_C a6.2.2 i
        rw [← x1] at rxx
        rw [← y1] at ryy
        refine lv_iload hx hb dX7_readAll_38 (lv_at hl 5 rfl) ?_
        refine lv_iload_n hx hb dX7_readAll_40 rfl (lv_at hl 1 rfl) ?_
        refine wz_icmp_ge (tgt := 158) hx hb dX7_readAll_41 (by decide) ⟨by omega, by omega⟩ ⟨by omega, by omega⟩ (fun c41 => ?_) (fun c41 => ?_)
        · skip
          refine lv_aload_n hx hb dX7_readAll_158 rfl (lv_at hl 0 rfl) ?_
          refine va_get (D := D) (ci := 7) (v := .int (iI at2)) (C := RX7) (T := TX7) (N := 24) hx hb hts hin7 hown hK hP 0 rfl rfl 10 (by decide) (hts (.fieldLink RX7 113 "DriftLogModel" "at" "I") (by decide +kernel)) (fun _ h9 => h9) rfl dX7_readAll_159 ?_
          refine lv_aload_n hx hb dX7_readAll_162 rfl (lv_at hl 0 rfl) ?_
          refine va_get (D := D) (ci := 7) (v := .int (iI sz1)) (C := RX7) (T := TX7) (N := 24) hx hb hts hin7 hown hK hP 0 rfl rfl 8 (by decide) (hts (.fieldLink RX7 95 "DriftLogModel" "size" "I") (by decide +kernel)) (fun _ h9 => h9) rfl dX7_readAll_163 ?_
          refine wz_icmp_ge (tgt := 173) hx hb dX7_readAll_166 (by decide) ⟨by omega, by omega⟩ ⟨by omega, by omega⟩ (fun c166 => ?_) (fun c166 => ?_)
          · skip
            refine lv_iload_n hx hb dX7_readAll_173 rfl (lv_at hl 1 rfl) ?_
            rw [hQ]
            exact wz_reti (tys := TY cI cJ cT) (at2, nu2, gt, gx, gy) hx hb hr hlocks hK hP hD hS (by (try dsimp only); exact (Or.inl ⟨by omega, by omega, (by have q : i = cn := (by omega); rw [q] at a5; exact (mrE hw13 z1 (by omega) a5).2 c166), a6, (by have q : i = cn := (by omega); rw [q] at a8; exact a8)⟩)) dX7_readAll_174
          · skip
            refine lv_iconst (v := iI (-1)) hx hb dX7_readAll_169 rfl ?_
            refine lv_goto (tgt := 174) hx hb dX7_readAll_170 (by decide) ?_
            rw [hQ]
            exact wz_reti (tys := TY cI cJ cT) (at2, nu2, gt, gx, gy) hx hb hr hlocks hK hP hD hS (by (try dsimp only); exact (Or.inr ⟨rfl, (by have q : i = cn := (by omega); rw [q] at a5; exact (mrE hw13 z1 (by omega) a5).1 c166), by omega, by omega, a6⟩)) dX7_readAll_174
        · skip
          refine lv_ldc2 (v := 2147483647) hx hb hown (hts (.constantLong RX7 129 (2147483647)) (by decide +kernel)) dX7_readAll_44 ?_
          refine wz_topl (show (2147483647 : Int64) = lI 2147483647 by decide) ?_
          refine lv_iload_n hx hb dX7_readAll_47 rfl (lv_at hl 1 rfl) ?_
          refine lv_iconst (v := iI 1) hx hb dX7_readAll_48 rfl ?_
          refine wz_isub hx hb dX7_readAll_49 ?_
          refine lv_iload hx hb dX7_readAll_50 (lv_at hl 5 rfl) ?_
          refine wz_isub hx hb dX7_readAll_52 ?_
          refine wz_i2l hx hb dX7_readAll_53 ⟨by omega, by omega⟩ ?_
          refine wz_lsub hx hb dX7_readAll_54 ?_
          refine lv_lload_n hx hb dX7_readAll_55 rfl (lv_at hl 2 rfl) ?_
          refine wz_lsub hx hb dX7_readAll_56 ?_
          refine lv_lstore (lv' := [(9, .long (lI ((2147483647 - ((cn - 1) - i)) - t))), (0, .ref hm), (1, .int (iI cn)), (2, .long (lI t)), (4, .long (lI x)), (6, .long (lI y)), (8, .int (iI i))]) hx hb dX7_readAll_57 hl (by decide) rfl (fun ls hl => ?_)
          refine lv_aload_n hx hb dX7_readAll_59 rfl (lv_at hl 1 rfl) ?_
          refine lv_iload hx hb dX7_readAll_60 (lv_at hl 6 rfl) ?_
          refine wz_if_ne (tgt := 69) hx hb dX7_readAll_62 (by decide) ⟨by omega, by omega⟩ (fun c62 => ?_) (fun c62 => ?_)
          · skip
            refine lv_lconst (v := lI 1) hx hb dX7_readAll_69 (by decide) ?_
            refine lv_lload hx hb dX7_readAll_70 (lv_at hl 0 rfl) ?_
            refine lv_lload hx hb dX7_readAll_72 (lv_at hl 0 rfl) ?_
            refine wz_calli (wr := [(rt, .inl (cI, 20, .inl (zA gt))), (rx, .inl (cI, 20, .inl (zA gx))), (ry, .inl (cI, 20, .inl (zA gy)))]) (va_runV (As := [.long (lI 1), .long (lI ((2147483647 - ((cn - 1) - i)) - t)), .long (lI ((2147483647 - ((cn - 1) - i)) - t))]) (rest := []) ⟨hx, hb, hml, hown, hts⟩ (k_X7_take l D cI cJ cT H.size hm th rS rM rB rT rX rY rL sz1 rR at2 nu2 rt rx ry fo rF rG rU rV lo lB hi hB1 fR 1 ((2147483647 - ((cn - 1) - i)) - t) ((2147483647 - ((cn - 1) - i)) - t) (hBb) (hnb) (a4) (by decide) (by constructor <;> omega) (by constructor <;> omega)) (cwV 3 hts gX7_readAll_X7_take rfl rfl rfl (by decide +kernel) ⟨Nat.le_of_ble_eq_true rfl, Nat.le_of_ble_eq_true rfl⟩) (wz_preV hK hP hD [0, 1] (by decide) rfl rfl 7 0 rfl rfl) rfl rfl hl.1 rfl (lv_room (Nat.le_of_ble_eq_true rfl)) dX7_readAll_74 ⟨Nat.le_of_ble_eq_true rfl, Nat.le_of_ble_eq_true rfl⟩) hP hD hS hA [0, 1] [2, 3, 4] rfl rfl rfl (by decide) (fun z74 u H locs hw74 hP hD hS => ?_)
            obtain ⟨nt, aa⟩ := u
            try dsimp only at hw74
            have hP : va_P D vwCl [(hm, .inr (7, [.int (iI th), .ref rS, .ref rM, .ref rB, .ref rT, .ref rX, .ref rY, .ref rL, .int (iI sz1), .ref rR, .int (iI aa), .long (lI nt), .ref rt, .ref rx, .ref ry, .int (iI fo), .ref rF, .ref rG, .ref rU, .ref rV, .long (lI lo), .long (lI lB), .long (lI hi), .long (lI hB1)])), (rR, .inl (cI, 300, .inl (zA fR))), (rt, .inl (cI, 20, .inl (zA gt))), (rx, .inl (cI, 20, .inl (zA gx))), (ry, .inl (cI, 20, .inl (zA gy)))] H := hP.sub [3, 4, 0, 1, 2] rfl
            have hD : va_D A [(hm, .inr (7, [.int (iI th), .ref rS, .ref rM, .ref rB, .ref rT, .ref rX, .ref rY, .ref rL, .int (iI sz1), .ref rR, .int (iI aa), .long (lI nt), .ref rt, .ref rx, .ref ry, .int (iI fo), .ref rF, .ref rG, .ref rU, .ref rV, .long (lI lo), .long (lI lB), .long (lI hi), .long (lI hB1)])), (rR, .inl (cI, 300, .inl (zA fR))), (rt, .inl (cI, 20, .inl (zA gt))), (rx, .inl (cI, 20, .inl (zA gx))), (ry, .inl (cI, 20, .inl (zA gy)))] := hD.sub [3, 4, 0, 1, 2] (by decide) rfl
            have n74 : rdN 5 fR sz1 at2 1 0 (if i = 0 then 0 else 1) (2147483647 - (cn - 1 - i) - pvZ gt i) (2147483647 - (cn - 1 - i) - pvZ gt i) = (z74, nt, aa) := by rw [if_neg c62, ← t1]; exact hw74
            have h := rdN_r 5 fR sz1 at2 1 0 1 ((2147483647 - ((cn - 1) - i)) - t) ((2147483647 - ((cn - 1) - i)) - t) hBb a4.1 a4.2 (by decide) (by decide)
            rw [hw74] at h
            obtain ⟨h1, h2, h3, h4⟩ := h
            dsimp only at h1 h2 h3 h4
            have h5 := mostZ_le (v := nt) (M := ((2147483647 - ((cn - 1) - i)) - t)) (Int.le_refl ((2147483647 - ((cn - 1) - i)) - t)) (Int.le_refl ((2147483647 - ((cn - 1) - i)) - t))
            refine wz_if_ne (tgt := 82) hx hb dX7_readAll_77 (by decide) (by omega) (fun c77 => ?_) (fun c77 => ?_)
            · skip
              refine lv_lload_n hx hb dX7_readAll_82 rfl (lv_at hl 3 rfl) ?_
              refine lv_aload_n hx hb dX7_readAll_83 rfl (lv_at hl 1 rfl) ?_
              refine va_get (D := D) (ci := 7) (v := .long (lI nt)) (C := RX7) (T := TX7) (N := 24) hx hb hts hin7 hown hK hP 0 rfl rfl 11 (by decide) (hts (.fieldLink RX7 109 "DriftLogModel" "number" "J") (by decide +kernel)) (fun _ h9 => h9) rfl dX7_readAll_84 ?_
              refine wz_ladd hx hb dX7_readAll_87 ?_
              refine lv_lstore_n (lv' := [(2, .long (lI (t + nt))), (9, .long (lI ((2147483647 - ((cn - 1) - i)) - t))), (0, .ref hm), (1, .int (iI cn)), (4, .long (lI x)), (6, .long (lI y)), (8, .int (iI i))]) hx hb dX7_readAll_88 rfl hl (by decide) rfl (fun ls hl => ?_)
              refine lv_aload_n hx hb dX7_readAll_89 rfl (lv_at hl 2 rfl) ?_
              refine lv_lload hx hb dX7_readAll_90 (lv_at hl 4 rfl) ?_
              refine wz_calli (wr := [(rt, .inl (cI, 20, .inl (zA gt))), (rx, .inl (cI, 20, .inl (zA gx))), (ry, .inl (cI, 20, .inl (zA gy)))]) (va_runV (As := [.long (lI x)]) (rest := []) ⟨hx, hb, hml, hown, hts⟩ (k_X7_takePlace l D cI cJ cT H.size hm th rS rM rB rT rX rY rL sz1 rR aa nt rt rx ry fo rF rG rU rV lo lB hi hB1 fR x (hBb) (hnb) (by constructor <;> omega) (by omega)) (cwV 1 hts gX7_readAll_X7_takePlace rfl rfl rfl (by decide +kernel) ⟨Nat.le_of_ble_eq_true rfl, Nat.le_of_ble_eq_true rfl⟩) (wz_preV hK hP hD [0, 1] (by decide) rfl rfl 7 0 rfl rfl) rfl rfl hl.1 rfl (lv_room (Nat.le_of_ble_eq_true rfl)) dX7_readAll_92 ⟨Nat.le_of_ble_eq_true rfl, Nat.le_of_ble_eq_true rfl⟩) hP hD hS hA [0, 1] [2, 3, 4] rfl rfl rfl (by decide) (fun z92 u H locs hw92 hP hD hS => ?_)
              obtain ⟨xn, ab⟩ := u
              try dsimp only at hw92
              have hP : va_P D vwCl [(hm, .inr (7, [.int (iI th), .ref rS, .ref rM, .ref rB, .ref rT, .ref rX, .ref rY, .ref rL, .int (iI sz1), .ref rR, .int (iI ab), .long (lI xn), .ref rt, .ref rx, .ref ry, .int (iI fo), .ref rF, .ref rG, .ref rU, .ref rV, .long (lI lo), .long (lI lB), .long (lI hi), .long (lI hB1)])), (rR, .inl (cI, 300, .inl (zA fR))), (rt, .inl (cI, 20, .inl (zA gt))), (rx, .inl (cI, 20, .inl (zA gx))), (ry, .inl (cI, 20, .inl (zA gy)))] H := hP.sub [3, 4, 0, 1, 2] rfl
              have hD : va_D A [(hm, .inr (7, [.int (iI th), .ref rS, .ref rM, .ref rB, .ref rT, .ref rX, .ref rY, .ref rL, .int (iI sz1), .ref rR, .int (iI ab), .long (lI xn), .ref rt, .ref rx, .ref ry, .int (iI fo), .ref rF, .ref rG, .ref rU, .ref rV, .long (lI lo), .long (lI lB), .long (lI hi), .long (lI hB1)])), (rR, .inl (cI, 300, .inl (zA fR))), (rt, .inl (cI, 20, .inl (zA gt))), (rx, .inl (cI, 20, .inl (zA gx))), (ry, .inl (cI, 20, .inl (zA gy)))] := hD.sub [3, 4, 0, 1, 2] (by decide) rfl
              have k := rdM_r hBb (show 0 ≤ aa by omega) h1.2 (show -8388608 ≤ x ∧ x ≤ 8388608 by omega)
              rw [x1] at hw92 k
              refine wz_if_ne (tgt := 100) hx hb dX7_readAll_95 (by decide) (by rcases hw92 with q | q <;> omega) (fun c95 => ?_) (fun c95 => ?_)
              · skip
                have m92 : rdM fR sz1 aa (pvZ gx i) = (1, xn, ab) := by rcases hw92 with q | q; exact q.2; exfalso; omega
                rw [m92] at k
                obtain ⟨m1, m2, m3⟩ := k
                dsimp only at m1 m2 m3
                have m4 := m3 rfl
                refine lv_aload_n hx hb dX7_readAll_100 rfl (lv_at hl 2 rfl) ?_
                refine va_get (D := D) (ci := 7) (v := .long (lI xn)) (C := RX7) (T := TX7) (N := 24) hx hb hts hin7 hown hK hP 0 rfl rfl 11 (by decide) (hts (.fieldLink RX7 109 "DriftLogModel" "number" "J") (by decide +kernel)) (fun _ h9 => h9) rfl dX7_readAll_101 ?_
                refine lv_lstore (lv' := [(4, .long (lI xn)), (2, .long (lI (t + nt))), (9, .long (lI ((2147483647 - ((cn - 1) - i)) - t))), (0, .ref hm), (1, .int (iI cn)), (6, .long (lI y)), (8, .int (iI i))]) hx hb dX7_readAll_104 hl (by decide) rfl (fun ls hl => ?_)
                refine lv_aload_n hx hb dX7_readAll_106 rfl (lv_at hl 3 rfl) ?_
                refine lv_lload hx hb dX7_readAll_107 (lv_at hl 5 rfl) ?_
                refine wz_calli (wr := [(rt, .inl (cI, 20, .inl (zA gt))), (rx, .inl (cI, 20, .inl (zA gx))), (ry, .inl (cI, 20, .inl (zA gy)))]) (va_runV (As := [.long (lI y)]) (rest := []) ⟨hx, hb, hml, hown, hts⟩ (k_X7_takePlace l D cI cJ cT H.size hm th rS rM rB rT rX rY rL sz1 rR ab xn rt rx ry fo rF rG rU rV lo lB hi hB1 fR y (hBb) (hnb) (by constructor <;> omega) (by omega)) (cwV 1 hts gX7_readAll_X7_takePlace rfl rfl rfl (by decide +kernel) ⟨Nat.le_of_ble_eq_true rfl, Nat.le_of_ble_eq_true rfl⟩) (wz_preV hK hP hD [0, 1] (by decide) rfl rfl 7 0 rfl rfl) rfl rfl hl.1 rfl (lv_room (Nat.le_of_ble_eq_true rfl)) dX7_readAll_109 ⟨Nat.le_of_ble_eq_true rfl, Nat.le_of_ble_eq_true rfl⟩) hP hD hS hA [0, 1] [2, 3, 4] rfl rfl rfl (by decide) (fun z109 u H locs hw109 hP hD hS => ?_)
                obtain ⟨yn, ac⟩ := u
                try dsimp only at hw109
                have hP : va_P D vwCl [(hm, .inr (7, [.int (iI th), .ref rS, .ref rM, .ref rB, .ref rT, .ref rX, .ref rY, .ref rL, .int (iI sz1), .ref rR, .int (iI ac), .long (lI yn), .ref rt, .ref rx, .ref ry, .int (iI fo), .ref rF, .ref rG, .ref rU, .ref rV, .long (lI lo), .long (lI lB), .long (lI hi), .long (lI hB1)])), (rR, .inl (cI, 300, .inl (zA fR))), (rt, .inl (cI, 20, .inl (zA gt))), (rx, .inl (cI, 20, .inl (zA gx))), (ry, .inl (cI, 20, .inl (zA gy)))] H := hP.sub [3, 4, 0, 1, 2] rfl
                have hD : va_D A [(hm, .inr (7, [.int (iI th), .ref rS, .ref rM, .ref rB, .ref rT, .ref rX, .ref rY, .ref rL, .int (iI sz1), .ref rR, .int (iI ac), .long (lI yn), .ref rt, .ref rx, .ref ry, .int (iI fo), .ref rF, .ref rG, .ref rU, .ref rV, .long (lI lo), .long (lI lB), .long (lI hi), .long (lI hB1)])), (rR, .inl (cI, 300, .inl (zA fR))), (rt, .inl (cI, 20, .inl (zA gt))), (rx, .inl (cI, 20, .inl (zA gx))), (ry, .inl (cI, 20, .inl (zA gy)))] := hD.sub [3, 4, 0, 1, 2] (by decide) rfl
                have k2 := rdM_r hBb (show 0 ≤ ab by omega) m1.2 (show -8388608 ≤ y ∧ y ≤ 8388608 by omega)
                rw [y1] at hw109 k2
                refine wz_if_ne (tgt := 117) hx hb dX7_readAll_112 (by decide) (by rcases hw109 with q | q <;> omega) (fun c112 => ?_) (fun c112 => ?_)
                · skip
                  have m109 : rdM fR sz1 ab (pvZ gy i) = (1, yn, ac) := by rcases hw109 with q | q; exact q.2; exfalso; omega
                  rw [m109] at k2
                  obtain ⟨w1, w2, w3⟩ := k2
                  dsimp only at w1 w2 w3
                  have w4 := w3 rfl
                  have y74 : z74 = 1 := by omega
                  have h6 := h4 y74
                  rw [y74] at n74
                  refine lv_aload_n hx hb dX7_readAll_117 rfl (lv_at hl 3 rfl) ?_
                  refine va_get (D := D) (ci := 7) (v := .long (lI yn)) (C := RX7) (T := TX7) (N := 24) hx hb hts hin7 hown hK hP 0 rfl rfl 11 (by decide) (hts (.fieldLink RX7 109 "DriftLogModel" "number" "J") (by decide +kernel)) (fun _ h9 => h9) rfl dX7_readAll_118 ?_
                  refine lv_lstore (lv' := [(6, .long (lI yn)), (4, .long (lI xn)), (2, .long (lI (t + nt))), (9, .long (lI ((2147483647 - ((cn - 1) - i)) - t))), (0, .ref hm), (1, .int (iI cn)), (8, .int (iI i))]) hx hb dX7_readAll_121 hl (by decide) rfl (fun ls hl => ?_)
                  refine lv_aload_n hx hb dX7_readAll_123 rfl (lv_at hl 4 rfl) ?_
                  refine va_get (D := D) (ci := 7) (v := .ref rt) (C := RX7) (T := TX7) (N := 24) hx hb hts hin7 hown hK hP 0 rfl rfl 12 (by decide) (hts (.fieldLink RX7 34 "DriftLogModel" "readTime" "[I") (by decide +kernel)) (fun _ h9 => h9) rfl dX7_readAll_124 ?_
                  refine lv_iload hx hb dX7_readAll_127 (lv_at hl 6 rfl) ?_
                  refine lv_lload_n hx hb dX7_readAll_129 rfl (lv_at hl 2 rfl) ?_
                  refine wz_l2i hx hb dX7_readAll_130 ?_
                  refine wz_iast (tys := TY cI cJ cT) hx hb hK hP hD hS 2 0 rfl rfl (by decide) (by constructor <;> omega) dX7_readAll_131 (fun H locs hP hD hS => ?_)
                  have hP : va_P D vwCl [(hm, .inr (7, [.int (iI th), .ref rS, .ref rM, .ref rB, .ref rT, .ref rX, .ref rY, .ref rL, .int (iI sz1), .ref rR, .int (iI ac), .long (lI yn), .ref rt, .ref rx, .ref ry, .int (iI fo), .ref rF, .ref rG, .ref rU, .ref rV, .long (lI lo), .long (lI lB), .long (lI hi), .long (lI hB1)])), (rR, .inl (cI, 300, .inl (zA fR))), (rt, .inl (cI, 20, .inl (zA (uZ gt i (t + nt))))), (rx, .inl (cI, 20, .inl (zA gx))), (ry, .inl (cI, 20, .inl (zA gy)))] H := hP
                  have hD : va_D A [(hm, .inr (7, [.int (iI th), .ref rS, .ref rM, .ref rB, .ref rT, .ref rX, .ref rY, .ref rL, .int (iI sz1), .ref rR, .int (iI ac), .long (lI yn), .ref rt, .ref rx, .ref ry, .int (iI fo), .ref rF, .ref rG, .ref rU, .ref rV, .long (lI lo), .long (lI lB), .long (lI hi), .long (lI hB1)])), (rR, .inl (cI, 300, .inl (zA fR))), (rt, .inl (cI, 20, .inl (zA (uZ gt i (t + nt))))), (rx, .inl (cI, 20, .inl (zA gx))), (ry, .inl (cI, 20, .inl (zA gy)))] := hD
                  refine lv_aload_n hx hb dX7_readAll_132 rfl (lv_at hl 4 rfl) ?_
                  refine va_get (D := D) (ci := 7) (v := .ref rx) (C := RX7) (T := TX7) (N := 24) hx hb hts hin7 hown hK hP 0 rfl rfl 13 (by decide) (hts (.fieldLink RX7 37 "DriftLogModel" "readX" "[I") (by decide +kernel)) (fun _ h9 => h9) rfl dX7_readAll_133 ?_
                  refine lv_iload hx hb dX7_readAll_136 (lv_at hl 6 rfl) ?_
                  refine lv_lload hx hb dX7_readAll_138 (lv_at hl 1 rfl) ?_
                  refine wz_l2i hx hb dX7_readAll_140 ?_
                  refine wz_iast (tys := TY cI cJ cT) hx hb hK hP hD hS 3 0 rfl rfl (by decide) (by constructor <;> omega) dX7_readAll_141 (fun H locs hP hD hS => ?_)
                  have hP : va_P D vwCl [(hm, .inr (7, [.int (iI th), .ref rS, .ref rM, .ref rB, .ref rT, .ref rX, .ref rY, .ref rL, .int (iI sz1), .ref rR, .int (iI ac), .long (lI yn), .ref rt, .ref rx, .ref ry, .int (iI fo), .ref rF, .ref rG, .ref rU, .ref rV, .long (lI lo), .long (lI lB), .long (lI hi), .long (lI hB1)])), (rR, .inl (cI, 300, .inl (zA fR))), (rt, .inl (cI, 20, .inl (zA (uZ gt i (t + nt))))), (rx, .inl (cI, 20, .inl (zA (uZ gx i xn)))), (ry, .inl (cI, 20, .inl (zA gy)))] H := hP
                  have hD : va_D A [(hm, .inr (7, [.int (iI th), .ref rS, .ref rM, .ref rB, .ref rT, .ref rX, .ref rY, .ref rL, .int (iI sz1), .ref rR, .int (iI ac), .long (lI yn), .ref rt, .ref rx, .ref ry, .int (iI fo), .ref rF, .ref rG, .ref rU, .ref rV, .long (lI lo), .long (lI lB), .long (lI hi), .long (lI hB1)])), (rR, .inl (cI, 300, .inl (zA fR))), (rt, .inl (cI, 20, .inl (zA (uZ gt i (t + nt))))), (rx, .inl (cI, 20, .inl (zA (uZ gx i xn)))), (ry, .inl (cI, 20, .inl (zA gy)))] := hD
                  refine lv_aload_n hx hb dX7_readAll_142 rfl (lv_at hl 4 rfl) ?_
                  refine va_get (D := D) (ci := 7) (v := .ref ry) (C := RX7) (T := TX7) (N := 24) hx hb hts hin7 hown hK hP 0 rfl rfl 14 (by decide) (hts (.fieldLink RX7 40 "DriftLogModel" "readY" "[I") (by decide +kernel)) (fun _ h9 => h9) rfl dX7_readAll_143 ?_
                  refine lv_iload hx hb dX7_readAll_146 (lv_at hl 6 rfl) ?_
                  refine lv_lload hx hb dX7_readAll_148 (lv_at hl 0 rfl) ?_
                  refine wz_l2i hx hb dX7_readAll_150 ?_
                  refine wz_iast (tys := TY cI cJ cT) hx hb hK hP hD hS 4 0 rfl rfl (by decide) (by constructor <;> omega) dX7_readAll_151 (fun H locs hP hD hS => ?_)
                  have hP : va_P D vwCl [(hm, .inr (7, [.int (iI th), .ref rS, .ref rM, .ref rB, .ref rT, .ref rX, .ref rY, .ref rL, .int (iI sz1), .ref rR, .int (iI ac), .long (lI yn), .ref rt, .ref rx, .ref ry, .int (iI fo), .ref rF, .ref rG, .ref rU, .ref rV, .long (lI lo), .long (lI lB), .long (lI hi), .long (lI hB1)])), (rR, .inl (cI, 300, .inl (zA fR))), (rt, .inl (cI, 20, .inl (zA (uZ gt i (t + nt))))), (rx, .inl (cI, 20, .inl (zA (uZ gx i xn)))), (ry, .inl (cI, 20, .inl (zA (uZ gy i yn))))] H := hP
                  have hD : va_D A [(hm, .inr (7, [.int (iI th), .ref rS, .ref rM, .ref rB, .ref rT, .ref rX, .ref rY, .ref rL, .int (iI sz1), .ref rR, .int (iI ac), .long (lI yn), .ref rt, .ref rx, .ref ry, .int (iI fo), .ref rF, .ref rG, .ref rU, .ref rV, .long (lI lo), .long (lI lB), .long (lI hi), .long (lI hB1)])), (rR, .inl (cI, 300, .inl (zA fR))), (rt, .inl (cI, 20, .inl (zA (uZ gt i (t + nt))))), (rx, .inl (cI, 20, .inl (zA (uZ gx i xn)))), (ry, .inl (cI, 20, .inl (zA (uZ gy i yn))))] := hD
                  refine lv_iinc (v := iI (i + 1)) (lv' := [(8, .int (iI (i + 1))), (6, .long (lI yn)), (4, .long (lI xn)), (2, .long (lI (t + nt))), (9, .long (lI ((2147483647 - ((cn - 1) - i)) - t))), (0, .ref hm), (1, .int (iI cn))]) hx hb dX7_readAll_152 hl (k := 6) rfl (iI_add _ _) (by decide) rfl (fun ls hl => ?_)
                  refine lv_goto (tgt := 38) hx hb dX7_readAll_155 (by decide) ?_
                  exact ih38 (i + 1) (t + nt) xn yn ac yn (uZ gt i (t + nt)) (uZ gx i xn) (uZ gy i yn) _ _ _ ⟨(by omega), (by rw [pvZ_s _ a1.1, uZ_s]), (by rw [pvZ_s _ a1.1, uZ_s]), (by rw [pvZ_s _ a1.1, uZ_s]), (by omega), (by rw [t1]; exact mrG (c := (1, cn, a0)) a1.1 a5 n74 m92 m109), (⟨okT_u a6.1 (by omega) (by omega), okC_u a6.2.1 m4.1 m4.2, okC_u a6.2.2 w4.1 w4.2⟩), (by omega), (incP_u a8 (fun q => by have e : pvZ gt i = gt (i - 1) := if_neg (by omega); rw [e] at t1; first | omega | (have := h6.1; omega)))⟩ (by omega) hP hD hS (lv_sub hl [5, 6, 3, 2, 1, 0] rfl)
                · skip
                  have pp : (rdM fR sz1 ab (pvZ gy i)).2.2 = ac := by rcases hw109 with q | q; exfalso; omega; exact q.2.2
                  rw [pp] at k2
                  refine lv_iconst (v := iI (-1)) hx hb dX7_readAll_115 rfl ?_
                  rw [hQ]
                  exact wz_reti (tys := TY cI cJ cT) (ac, yn, gt, gx, gy) hx hb hr hlocks hK hP hD hS (by (try dsimp only); exact (Or.inr ⟨rfl, (by have q := mrF hw13 z1 ⟨a1.1, by dsimp only; omega⟩ a5 (rdS_3 n74 (by dsimp only; omega) m92 rfl rfl) (by rcases hw109 with q | q; exfalso; omega; dsimp only; rw [q.2.1]; decide) (by dsimp only; first | omega | (rw [(by rcases hw109 with q | q; exfalso; omega; exact q.2.2)]; omega)); exact q.trans (by first | rfl | exact (by rcases hw109 with q | q; exfalso; omega; exact q.2.2))), by omega, by omega, a6⟩)) dX7_readAll_116
              · skip
                have pp : (rdM fR sz1 aa (pvZ gx i)).2.2 = ab := by rcases hw92 with q | q; exfalso; omega; exact q.2.2
                rw [pp] at k
                refine lv_iconst (v := iI (-1)) hx hb dX7_readAll_98 rfl ?_
                rw [hQ]
                exact wz_reti (tys := TY cI cJ cT) (ab, xn, gt, gx, gy) hx hb hr hlocks hK hP hD hS (by (try dsimp only); exact (Or.inr ⟨rfl, (by have q := mrF hw13 z1 ⟨a1.1, by dsimp only; omega⟩ a5 (rdS_2 n74 (by dsimp only; omega) rfl (by rcases hw92 with q | q; exfalso; omega; rw [q.2.1]; decide)) (by dsimp only; decide) (by dsimp only; first | omega | (rw [(by rcases hw92 with q | q; exfalso; omega; exact q.2.2)]; omega)); exact q.trans (by first | rfl | exact (by rcases hw92 with q | q; exfalso; omega; exact q.2.2))), by omega, by omega, a6⟩)) dX7_readAll_99
            · skip
              refine lv_iconst (v := iI (-1)) hx hb dX7_readAll_80 rfl ?_
              rw [hQ]
              exact wz_reti (tys := TY cI cJ cT) (aa, nt, gt, gx, gy) hx hb hr hlocks hK hP hD hS (by (try dsimp only); exact (Or.inr ⟨rfl, (by have q := mrF hw13 z1 ⟨a1.1, by dsimp only; omega⟩ a5 (rdS_1 n74 (by dsimp only; omega)) (by dsimp only; decide) (by dsimp only; first | omega | (rw [rfl]; omega)); exact q.trans (by first | rfl | exact rfl)), by omega, by omega, a6⟩)) dX7_readAll_81
          · skip
            refine lv_lconst (v := lI 0) hx hb dX7_readAll_65 (by decide) ?_
            refine lv_goto (tgt := 70) hx hb dX7_readAll_66 (by decide) ?_
            refine lv_lload hx hb dX7_readAll_70 (lv_at hl 0 rfl) ?_
            refine lv_lload hx hb dX7_readAll_72 (lv_at hl 0 rfl) ?_
            refine wz_calli (wr := [(rt, .inl (cI, 20, .inl (zA gt))), (rx, .inl (cI, 20, .inl (zA gx))), (ry, .inl (cI, 20, .inl (zA gy)))]) (va_runV (As := [.long (lI 0), .long (lI ((2147483647 - ((cn - 1) - i)) - t)), .long (lI ((2147483647 - ((cn - 1) - i)) - t))]) (rest := []) ⟨hx, hb, hml, hown, hts⟩ (k_X7_take l D cI cJ cT H.size hm th rS rM rB rT rX rY rL sz1 rR at2 nu2 rt rx ry fo rF rG rU rV lo lB hi hB1 fR 0 ((2147483647 - ((cn - 1) - i)) - t) ((2147483647 - ((cn - 1) - i)) - t) (hBb) (hnb) (a4) (by decide) (by constructor <;> omega) (by constructor <;> omega)) (cwV 3 hts gX7_readAll_X7_take rfl rfl rfl (by decide +kernel) ⟨Nat.le_of_ble_eq_true rfl, Nat.le_of_ble_eq_true rfl⟩) (wz_preV hK hP hD [0, 1] (by decide) rfl rfl 7 0 rfl rfl) rfl rfl hl.1 rfl (lv_room (Nat.le_of_ble_eq_true rfl)) dX7_readAll_74 ⟨Nat.le_of_ble_eq_true rfl, Nat.le_of_ble_eq_true rfl⟩) hP hD hS hA [0, 1] [2, 3, 4] rfl rfl rfl (by decide) (fun z74 u H locs hw74 hP hD hS => ?_)
            obtain ⟨nt, aa⟩ := u
            try dsimp only at hw74
            have hP : va_P D vwCl [(hm, .inr (7, [.int (iI th), .ref rS, .ref rM, .ref rB, .ref rT, .ref rX, .ref rY, .ref rL, .int (iI sz1), .ref rR, .int (iI aa), .long (lI nt), .ref rt, .ref rx, .ref ry, .int (iI fo), .ref rF, .ref rG, .ref rU, .ref rV, .long (lI lo), .long (lI lB), .long (lI hi), .long (lI hB1)])), (rR, .inl (cI, 300, .inl (zA fR))), (rt, .inl (cI, 20, .inl (zA gt))), (rx, .inl (cI, 20, .inl (zA gx))), (ry, .inl (cI, 20, .inl (zA gy)))] H := hP.sub [3, 4, 0, 1, 2] rfl
            have hD : va_D A [(hm, .inr (7, [.int (iI th), .ref rS, .ref rM, .ref rB, .ref rT, .ref rX, .ref rY, .ref rL, .int (iI sz1), .ref rR, .int (iI aa), .long (lI nt), .ref rt, .ref rx, .ref ry, .int (iI fo), .ref rF, .ref rG, .ref rU, .ref rV, .long (lI lo), .long (lI lB), .long (lI hi), .long (lI hB1)])), (rR, .inl (cI, 300, .inl (zA fR))), (rt, .inl (cI, 20, .inl (zA gt))), (rx, .inl (cI, 20, .inl (zA gx))), (ry, .inl (cI, 20, .inl (zA gy)))] := hD.sub [3, 4, 0, 1, 2] (by decide) rfl
            have n74 : rdN 5 fR sz1 at2 1 0 (if i = 0 then 0 else 1) (2147483647 - (cn - 1 - i) - pvZ gt i) (2147483647 - (cn - 1 - i) - pvZ gt i) = (z74, nt, aa) := by rw [if_pos c62, ← t1]; exact hw74
            have h := rdN_r 5 fR sz1 at2 1 0 0 ((2147483647 - ((cn - 1) - i)) - t) ((2147483647 - ((cn - 1) - i)) - t) hBb a4.1 a4.2 (by decide) (by decide)
            rw [hw74] at h
            obtain ⟨h1, h2, h3, h4⟩ := h
            dsimp only at h1 h2 h3 h4
            have h5 := mostZ_le (v := nt) (M := ((2147483647 - ((cn - 1) - i)) - t)) (Int.le_refl ((2147483647 - ((cn - 1) - i)) - t)) (Int.le_refl ((2147483647 - ((cn - 1) - i)) - t))
            refine wz_if_ne (tgt := 82) hx hb dX7_readAll_77 (by decide) (by omega) (fun c77 => ?_) (fun c77 => ?_)
            · skip
              refine lv_lload_n hx hb dX7_readAll_82 rfl (lv_at hl 3 rfl) ?_
              refine lv_aload_n hx hb dX7_readAll_83 rfl (lv_at hl 1 rfl) ?_
              refine va_get (D := D) (ci := 7) (v := .long (lI nt)) (C := RX7) (T := TX7) (N := 24) hx hb hts hin7 hown hK hP 0 rfl rfl 11 (by decide) (hts (.fieldLink RX7 109 "DriftLogModel" "number" "J") (by decide +kernel)) (fun _ h9 => h9) rfl dX7_readAll_84 ?_
              refine wz_ladd hx hb dX7_readAll_87 ?_
              refine lv_lstore_n (lv' := [(2, .long (lI (t + nt))), (9, .long (lI ((2147483647 - ((cn - 1) - i)) - t))), (0, .ref hm), (1, .int (iI cn)), (4, .long (lI x)), (6, .long (lI y)), (8, .int (iI i))]) hx hb dX7_readAll_88 rfl hl (by decide) rfl (fun ls hl => ?_)
              refine lv_aload_n hx hb dX7_readAll_89 rfl (lv_at hl 2 rfl) ?_
              refine lv_lload hx hb dX7_readAll_90 (lv_at hl 4 rfl) ?_
              refine wz_calli (wr := [(rt, .inl (cI, 20, .inl (zA gt))), (rx, .inl (cI, 20, .inl (zA gx))), (ry, .inl (cI, 20, .inl (zA gy)))]) (va_runV (As := [.long (lI x)]) (rest := []) ⟨hx, hb, hml, hown, hts⟩ (k_X7_takePlace l D cI cJ cT H.size hm th rS rM rB rT rX rY rL sz1 rR aa nt rt rx ry fo rF rG rU rV lo lB hi hB1 fR x (hBb) (hnb) (by constructor <;> omega) (by omega)) (cwV 1 hts gX7_readAll_X7_takePlace rfl rfl rfl (by decide +kernel) ⟨Nat.le_of_ble_eq_true rfl, Nat.le_of_ble_eq_true rfl⟩) (wz_preV hK hP hD [0, 1] (by decide) rfl rfl 7 0 rfl rfl) rfl rfl hl.1 rfl (lv_room (Nat.le_of_ble_eq_true rfl)) dX7_readAll_92 ⟨Nat.le_of_ble_eq_true rfl, Nat.le_of_ble_eq_true rfl⟩) hP hD hS hA [0, 1] [2, 3, 4] rfl rfl rfl (by decide) (fun z92 u H locs hw92 hP hD hS => ?_)
              obtain ⟨xn, ab⟩ := u
              try dsimp only at hw92
              have hP : va_P D vwCl [(hm, .inr (7, [.int (iI th), .ref rS, .ref rM, .ref rB, .ref rT, .ref rX, .ref rY, .ref rL, .int (iI sz1), .ref rR, .int (iI ab), .long (lI xn), .ref rt, .ref rx, .ref ry, .int (iI fo), .ref rF, .ref rG, .ref rU, .ref rV, .long (lI lo), .long (lI lB), .long (lI hi), .long (lI hB1)])), (rR, .inl (cI, 300, .inl (zA fR))), (rt, .inl (cI, 20, .inl (zA gt))), (rx, .inl (cI, 20, .inl (zA gx))), (ry, .inl (cI, 20, .inl (zA gy)))] H := hP.sub [3, 4, 0, 1, 2] rfl
              have hD : va_D A [(hm, .inr (7, [.int (iI th), .ref rS, .ref rM, .ref rB, .ref rT, .ref rX, .ref rY, .ref rL, .int (iI sz1), .ref rR, .int (iI ab), .long (lI xn), .ref rt, .ref rx, .ref ry, .int (iI fo), .ref rF, .ref rG, .ref rU, .ref rV, .long (lI lo), .long (lI lB), .long (lI hi), .long (lI hB1)])), (rR, .inl (cI, 300, .inl (zA fR))), (rt, .inl (cI, 20, .inl (zA gt))), (rx, .inl (cI, 20, .inl (zA gx))), (ry, .inl (cI, 20, .inl (zA gy)))] := hD.sub [3, 4, 0, 1, 2] (by decide) rfl
              have k := rdM_r hBb (show 0 ≤ aa by omega) h1.2 (show -8388608 ≤ x ∧ x ≤ 8388608 by omega)
              rw [x1] at hw92 k
              refine wz_if_ne (tgt := 100) hx hb dX7_readAll_95 (by decide) (by rcases hw92 with q | q <;> omega) (fun c95 => ?_) (fun c95 => ?_)
              · skip
                have m92 : rdM fR sz1 aa (pvZ gx i) = (1, xn, ab) := by rcases hw92 with q | q; exact q.2; exfalso; omega
                rw [m92] at k
                obtain ⟨m1, m2, m3⟩ := k
                dsimp only at m1 m2 m3
                have m4 := m3 rfl
                refine lv_aload_n hx hb dX7_readAll_100 rfl (lv_at hl 2 rfl) ?_
                refine va_get (D := D) (ci := 7) (v := .long (lI xn)) (C := RX7) (T := TX7) (N := 24) hx hb hts hin7 hown hK hP 0 rfl rfl 11 (by decide) (hts (.fieldLink RX7 109 "DriftLogModel" "number" "J") (by decide +kernel)) (fun _ h9 => h9) rfl dX7_readAll_101 ?_
                refine lv_lstore (lv' := [(4, .long (lI xn)), (2, .long (lI (t + nt))), (9, .long (lI ((2147483647 - ((cn - 1) - i)) - t))), (0, .ref hm), (1, .int (iI cn)), (6, .long (lI y)), (8, .int (iI i))]) hx hb dX7_readAll_104 hl (by decide) rfl (fun ls hl => ?_)
                refine lv_aload_n hx hb dX7_readAll_106 rfl (lv_at hl 3 rfl) ?_
                refine lv_lload hx hb dX7_readAll_107 (lv_at hl 5 rfl) ?_
                refine wz_calli (wr := [(rt, .inl (cI, 20, .inl (zA gt))), (rx, .inl (cI, 20, .inl (zA gx))), (ry, .inl (cI, 20, .inl (zA gy)))]) (va_runV (As := [.long (lI y)]) (rest := []) ⟨hx, hb, hml, hown, hts⟩ (k_X7_takePlace l D cI cJ cT H.size hm th rS rM rB rT rX rY rL sz1 rR ab xn rt rx ry fo rF rG rU rV lo lB hi hB1 fR y (hBb) (hnb) (by constructor <;> omega) (by omega)) (cwV 1 hts gX7_readAll_X7_takePlace rfl rfl rfl (by decide +kernel) ⟨Nat.le_of_ble_eq_true rfl, Nat.le_of_ble_eq_true rfl⟩) (wz_preV hK hP hD [0, 1] (by decide) rfl rfl 7 0 rfl rfl) rfl rfl hl.1 rfl (lv_room (Nat.le_of_ble_eq_true rfl)) dX7_readAll_109 ⟨Nat.le_of_ble_eq_true rfl, Nat.le_of_ble_eq_true rfl⟩) hP hD hS hA [0, 1] [2, 3, 4] rfl rfl rfl (by decide) (fun z109 u H locs hw109 hP hD hS => ?_)
                obtain ⟨yn, ac⟩ := u
                try dsimp only at hw109
                have hP : va_P D vwCl [(hm, .inr (7, [.int (iI th), .ref rS, .ref rM, .ref rB, .ref rT, .ref rX, .ref rY, .ref rL, .int (iI sz1), .ref rR, .int (iI ac), .long (lI yn), .ref rt, .ref rx, .ref ry, .int (iI fo), .ref rF, .ref rG, .ref rU, .ref rV, .long (lI lo), .long (lI lB), .long (lI hi), .long (lI hB1)])), (rR, .inl (cI, 300, .inl (zA fR))), (rt, .inl (cI, 20, .inl (zA gt))), (rx, .inl (cI, 20, .inl (zA gx))), (ry, .inl (cI, 20, .inl (zA gy)))] H := hP.sub [3, 4, 0, 1, 2] rfl
                have hD : va_D A [(hm, .inr (7, [.int (iI th), .ref rS, .ref rM, .ref rB, .ref rT, .ref rX, .ref rY, .ref rL, .int (iI sz1), .ref rR, .int (iI ac), .long (lI yn), .ref rt, .ref rx, .ref ry, .int (iI fo), .ref rF, .ref rG, .ref rU, .ref rV, .long (lI lo), .long (lI lB), .long (lI hi), .long (lI hB1)])), (rR, .inl (cI, 300, .inl (zA fR))), (rt, .inl (cI, 20, .inl (zA gt))), (rx, .inl (cI, 20, .inl (zA gx))), (ry, .inl (cI, 20, .inl (zA gy)))] := hD.sub [3, 4, 0, 1, 2] (by decide) rfl
                have k2 := rdM_r hBb (show 0 ≤ ab by omega) m1.2 (show -8388608 ≤ y ∧ y ≤ 8388608 by omega)
                rw [y1] at hw109 k2
                refine wz_if_ne (tgt := 117) hx hb dX7_readAll_112 (by decide) (by rcases hw109 with q | q <;> omega) (fun c112 => ?_) (fun c112 => ?_)
                · skip
                  have m109 : rdM fR sz1 ab (pvZ gy i) = (1, yn, ac) := by rcases hw109 with q | q; exact q.2; exfalso; omega
                  rw [m109] at k2
                  obtain ⟨w1, w2, w3⟩ := k2
                  dsimp only at w1 w2 w3
                  have w4 := w3 rfl
                  have y74 : z74 = 1 := by omega
                  have h6 := h4 y74
                  rw [y74] at n74
                  refine lv_aload_n hx hb dX7_readAll_117 rfl (lv_at hl 3 rfl) ?_
                  refine va_get (D := D) (ci := 7) (v := .long (lI yn)) (C := RX7) (T := TX7) (N := 24) hx hb hts hin7 hown hK hP 0 rfl rfl 11 (by decide) (hts (.fieldLink RX7 109 "DriftLogModel" "number" "J") (by decide +kernel)) (fun _ h9 => h9) rfl dX7_readAll_118 ?_
                  refine lv_lstore (lv' := [(6, .long (lI yn)), (4, .long (lI xn)), (2, .long (lI (t + nt))), (9, .long (lI ((2147483647 - ((cn - 1) - i)) - t))), (0, .ref hm), (1, .int (iI cn)), (8, .int (iI i))]) hx hb dX7_readAll_121 hl (by decide) rfl (fun ls hl => ?_)
                  refine lv_aload_n hx hb dX7_readAll_123 rfl (lv_at hl 4 rfl) ?_
                  refine va_get (D := D) (ci := 7) (v := .ref rt) (C := RX7) (T := TX7) (N := 24) hx hb hts hin7 hown hK hP 0 rfl rfl 12 (by decide) (hts (.fieldLink RX7 34 "DriftLogModel" "readTime" "[I") (by decide +kernel)) (fun _ h9 => h9) rfl dX7_readAll_124 ?_
                  refine lv_iload hx hb dX7_readAll_127 (lv_at hl 6 rfl) ?_
                  refine lv_lload_n hx hb dX7_readAll_129 rfl (lv_at hl 2 rfl) ?_
                  refine wz_l2i hx hb dX7_readAll_130 ?_
                  refine wz_iast (tys := TY cI cJ cT) hx hb hK hP hD hS 2 0 rfl rfl (by decide) (by constructor <;> omega) dX7_readAll_131 (fun H locs hP hD hS => ?_)
                  have hP : va_P D vwCl [(hm, .inr (7, [.int (iI th), .ref rS, .ref rM, .ref rB, .ref rT, .ref rX, .ref rY, .ref rL, .int (iI sz1), .ref rR, .int (iI ac), .long (lI yn), .ref rt, .ref rx, .ref ry, .int (iI fo), .ref rF, .ref rG, .ref rU, .ref rV, .long (lI lo), .long (lI lB), .long (lI hi), .long (lI hB1)])), (rR, .inl (cI, 300, .inl (zA fR))), (rt, .inl (cI, 20, .inl (zA (uZ gt i (t + nt))))), (rx, .inl (cI, 20, .inl (zA gx))), (ry, .inl (cI, 20, .inl (zA gy)))] H := hP
                  have hD : va_D A [(hm, .inr (7, [.int (iI th), .ref rS, .ref rM, .ref rB, .ref rT, .ref rX, .ref rY, .ref rL, .int (iI sz1), .ref rR, .int (iI ac), .long (lI yn), .ref rt, .ref rx, .ref ry, .int (iI fo), .ref rF, .ref rG, .ref rU, .ref rV, .long (lI lo), .long (lI lB), .long (lI hi), .long (lI hB1)])), (rR, .inl (cI, 300, .inl (zA fR))), (rt, .inl (cI, 20, .inl (zA (uZ gt i (t + nt))))), (rx, .inl (cI, 20, .inl (zA gx))), (ry, .inl (cI, 20, .inl (zA gy)))] := hD
                  refine lv_aload_n hx hb dX7_readAll_132 rfl (lv_at hl 4 rfl) ?_
                  refine va_get (D := D) (ci := 7) (v := .ref rx) (C := RX7) (T := TX7) (N := 24) hx hb hts hin7 hown hK hP 0 rfl rfl 13 (by decide) (hts (.fieldLink RX7 37 "DriftLogModel" "readX" "[I") (by decide +kernel)) (fun _ h9 => h9) rfl dX7_readAll_133 ?_
                  refine lv_iload hx hb dX7_readAll_136 (lv_at hl 6 rfl) ?_
                  refine lv_lload hx hb dX7_readAll_138 (lv_at hl 1 rfl) ?_
                  refine wz_l2i hx hb dX7_readAll_140 ?_
                  refine wz_iast (tys := TY cI cJ cT) hx hb hK hP hD hS 3 0 rfl rfl (by decide) (by constructor <;> omega) dX7_readAll_141 (fun H locs hP hD hS => ?_)
                  have hP : va_P D vwCl [(hm, .inr (7, [.int (iI th), .ref rS, .ref rM, .ref rB, .ref rT, .ref rX, .ref rY, .ref rL, .int (iI sz1), .ref rR, .int (iI ac), .long (lI yn), .ref rt, .ref rx, .ref ry, .int (iI fo), .ref rF, .ref rG, .ref rU, .ref rV, .long (lI lo), .long (lI lB), .long (lI hi), .long (lI hB1)])), (rR, .inl (cI, 300, .inl (zA fR))), (rt, .inl (cI, 20, .inl (zA (uZ gt i (t + nt))))), (rx, .inl (cI, 20, .inl (zA (uZ gx i xn)))), (ry, .inl (cI, 20, .inl (zA gy)))] H := hP
                  have hD : va_D A [(hm, .inr (7, [.int (iI th), .ref rS, .ref rM, .ref rB, .ref rT, .ref rX, .ref rY, .ref rL, .int (iI sz1), .ref rR, .int (iI ac), .long (lI yn), .ref rt, .ref rx, .ref ry, .int (iI fo), .ref rF, .ref rG, .ref rU, .ref rV, .long (lI lo), .long (lI lB), .long (lI hi), .long (lI hB1)])), (rR, .inl (cI, 300, .inl (zA fR))), (rt, .inl (cI, 20, .inl (zA (uZ gt i (t + nt))))), (rx, .inl (cI, 20, .inl (zA (uZ gx i xn)))), (ry, .inl (cI, 20, .inl (zA gy)))] := hD
                  refine lv_aload_n hx hb dX7_readAll_142 rfl (lv_at hl 4 rfl) ?_
                  refine va_get (D := D) (ci := 7) (v := .ref ry) (C := RX7) (T := TX7) (N := 24) hx hb hts hin7 hown hK hP 0 rfl rfl 14 (by decide) (hts (.fieldLink RX7 40 "DriftLogModel" "readY" "[I") (by decide +kernel)) (fun _ h9 => h9) rfl dX7_readAll_143 ?_
                  refine lv_iload hx hb dX7_readAll_146 (lv_at hl 6 rfl) ?_
                  refine lv_lload hx hb dX7_readAll_148 (lv_at hl 0 rfl) ?_
                  refine wz_l2i hx hb dX7_readAll_150 ?_
                  refine wz_iast (tys := TY cI cJ cT) hx hb hK hP hD hS 4 0 rfl rfl (by decide) (by constructor <;> omega) dX7_readAll_151 (fun H locs hP hD hS => ?_)
                  have hP : va_P D vwCl [(hm, .inr (7, [.int (iI th), .ref rS, .ref rM, .ref rB, .ref rT, .ref rX, .ref rY, .ref rL, .int (iI sz1), .ref rR, .int (iI ac), .long (lI yn), .ref rt, .ref rx, .ref ry, .int (iI fo), .ref rF, .ref rG, .ref rU, .ref rV, .long (lI lo), .long (lI lB), .long (lI hi), .long (lI hB1)])), (rR, .inl (cI, 300, .inl (zA fR))), (rt, .inl (cI, 20, .inl (zA (uZ gt i (t + nt))))), (rx, .inl (cI, 20, .inl (zA (uZ gx i xn)))), (ry, .inl (cI, 20, .inl (zA (uZ gy i yn))))] H := hP
                  have hD : va_D A [(hm, .inr (7, [.int (iI th), .ref rS, .ref rM, .ref rB, .ref rT, .ref rX, .ref rY, .ref rL, .int (iI sz1), .ref rR, .int (iI ac), .long (lI yn), .ref rt, .ref rx, .ref ry, .int (iI fo), .ref rF, .ref rG, .ref rU, .ref rV, .long (lI lo), .long (lI lB), .long (lI hi), .long (lI hB1)])), (rR, .inl (cI, 300, .inl (zA fR))), (rt, .inl (cI, 20, .inl (zA (uZ gt i (t + nt))))), (rx, .inl (cI, 20, .inl (zA (uZ gx i xn)))), (ry, .inl (cI, 20, .inl (zA (uZ gy i yn))))] := hD
                  refine lv_iinc (v := iI (i + 1)) (lv' := [(8, .int (iI (i + 1))), (6, .long (lI yn)), (4, .long (lI xn)), (2, .long (lI (t + nt))), (9, .long (lI ((2147483647 - ((cn - 1) - i)) - t))), (0, .ref hm), (1, .int (iI cn))]) hx hb dX7_readAll_152 hl (k := 6) rfl (iI_add _ _) (by decide) rfl (fun ls hl => ?_)
                  refine lv_goto (tgt := 38) hx hb dX7_readAll_155 (by decide) ?_
                  exact ih38 (i + 1) (t + nt) xn yn ac yn (uZ gt i (t + nt)) (uZ gx i xn) (uZ gy i yn) _ _ _ ⟨(by omega), (by rw [pvZ_s _ a1.1, uZ_s]), (by rw [pvZ_s _ a1.1, uZ_s]), (by rw [pvZ_s _ a1.1, uZ_s]), (by omega), (by rw [t1]; exact mrG (c := (1, cn, a0)) a1.1 a5 n74 m92 m109), (⟨okT_u a6.1 (by omega) (by omega), okC_u a6.2.1 m4.1 m4.2, okC_u a6.2.2 w4.1 w4.2⟩), (by omega), (incP_u a8 (fun q => by have e : pvZ gt i = gt (i - 1) := if_neg (by omega); rw [e] at t1; first | omega | (have := h6.1; omega)))⟩ (by omega) hP hD hS (lv_sub hl [5, 6, 3, 2, 1, 0] rfl)
                · skip
                  have pp : (rdM fR sz1 ab (pvZ gy i)).2.2 = ac := by rcases hw109 with q | q; exfalso; omega; exact q.2.2
                  rw [pp] at k2
                  refine lv_iconst (v := iI (-1)) hx hb dX7_readAll_115 rfl ?_
                  rw [hQ]
                  exact wz_reti (tys := TY cI cJ cT) (ac, yn, gt, gx, gy) hx hb hr hlocks hK hP hD hS (by (try dsimp only); exact (Or.inr ⟨rfl, (by have q := mrF hw13 z1 ⟨a1.1, by dsimp only; omega⟩ a5 (rdS_3 n74 (by dsimp only; omega) m92 rfl rfl) (by rcases hw109 with q | q; exfalso; omega; dsimp only; rw [q.2.1]; decide) (by dsimp only; first | omega | (rw [(by rcases hw109 with q | q; exfalso; omega; exact q.2.2)]; omega)); exact q.trans (by first | rfl | exact (by rcases hw109 with q | q; exfalso; omega; exact q.2.2))), by omega, by omega, a6⟩)) dX7_readAll_116
              · skip
                have pp : (rdM fR sz1 aa (pvZ gx i)).2.2 = ab := by rcases hw92 with q | q; exfalso; omega; exact q.2.2
                rw [pp] at k
                refine lv_iconst (v := iI (-1)) hx hb dX7_readAll_98 rfl ?_
                rw [hQ]
                exact wz_reti (tys := TY cI cJ cT) (ab, xn, gt, gx, gy) hx hb hr hlocks hK hP hD hS (by (try dsimp only); exact (Or.inr ⟨rfl, (by have q := mrF hw13 z1 ⟨a1.1, by dsimp only; omega⟩ a5 (rdS_2 n74 (by dsimp only; omega) rfl (by rcases hw92 with q | q; exfalso; omega; rw [q.2.1]; decide)) (by dsimp only; decide) (by dsimp only; first | omega | (rw [(by rcases hw92 with q | q; exfalso; omega; exact q.2.2)]; omega)); exact q.trans (by first | rfl | exact (by rcases hw92 with q | q; exfalso; omega; exact q.2.2))), by omega, by omega, a6⟩)) dX7_readAll_99
            · skip
              refine lv_iconst (v := iI (-1)) hx hb dX7_readAll_80 rfl ?_
              rw [hQ]
              exact wz_reti (tys := TY cI cJ cT) (aa, nt, gt, gx, gy) hx hb hr hlocks hK hP hD hS (by (try dsimp only); exact (Or.inr ⟨rfl, (by have q := mrF hw13 z1 ⟨a1.1, by dsimp only; omega⟩ a5 (rdS_1 n74 (by dsimp only; omega)) (by dsimp only; decide) (by dsimp only; first | omega | (rw [rfl]; omega)); exact q.trans (by first | rfl | exact rfl)), by omega, by omega, a6⟩)) dX7_readAll_81
    exact LP38 (Int.toNat (20 - 0) + 1) 0 0 0 0 a0 cn ft fx fy _ _ _ ⟨(by omega), (rfl), (rfl), (rfl), (g1), (rfl), (⟨ht, hx1, hy1⟩), (by decide), (fun j q1 q2 => by omega)⟩ (by omega) hP hD hS (lv_sub hl [5, 4, 3, 2, 1, 0] rfl)
  · skip
    refine lv_iconst (v := iI (-1)) hx hb dX7_readAll_19 rfl ?_
    rw [hQ]
    exact wz_reti (tys := TY cI cJ cT) (a0, cn, ft, fx, fy) hx hb hr hlocks hK hP hD hS (by (try dsimp only); exact (Or.inr ⟨rfl, mrF0 hw13 (by dsimp only; omega), by omega, by omega, ht, hx1, hy1⟩)) dX7_readAll_20
