set_option maxHeartbeats 4000000 in
set_option maxRecDepth 100000 in
theorem k_X1_read (l : Launch) (D : va_G) (cI cJ cT : ClassId) (sz : Nat) (h1r : Nat) (qr : Nat) (at1 : Int) (fa : Int) (hb0 : Nat) (qb : Nat) (fb : Int → Int) (nb : Int) (q1 : Nat) (q2 : Nat) (q3 : Nat) (ft : Int → Int) (fx : Int → Int) (fy : Int → Int) (n : Int) (hB : okB fb) (hnb : 0 ≤ nb ∧ nb ≤ 300) (ht : okT ft) (hx1 : okC fx) (hy1 : okC fy) : Met l yX1_read wsX1_read { frames := 3, cells := 0, slots := 0, locals := 93 } (zPc D (TY cI cJ cT) [.ref h1r, .ref hb0] [(h1r, .inr (1, [.ref qr, .int (iI at1), .int (iI fa)])), (hb0, .inr (0, [.ref qb, .int (iI nb)])), (qb, .inl (cI, 300, .inl (zA fb))), (qr, .inr (2, [.ref q1, .ref q2, .ref q3, .int (iI n)])), (q1, .inl (cI, 20, .inl (zA ft))), (q2, .inl (cI, 20, .inl (zA fx))), (q3, .inl (cI, 20, .inl (zA fy)))] sz) (zQi D (TY cI cJ cT) (va_A [(h1r, .inr (1, [.ref qr, .int (iI at1), .int (iI fa)])), (hb0, .inr (0, [.ref qb, .int (iI nb)])), (qb, .inl (cI, 300, .inl (zA fb))), (qr, .inr (2, [.ref q1, .ref q2, .ref q3, .int (iI n)])), (q1, .inl (cI, 20, .inl (zA ft))), (q2, .inl (cI, 20, .inl (zA fx))), (q3, .inl (cI, 20, .inl (zA fy)))] sz) (fun (z : Int) (u : Int × Int × Int × (Int → Int) × (Int → Int) × (Int → Int)) => z = u.2.1 ∧ z = (rdA fb nb ft fx fy).1 ∧ (z = -1 → (rdA fb nb ft fx fy) = (-1, u.2.2.1, u.2.2.2.1, u.2.2.2.2.1, u.2.2.2.2.2) ∧ (okT (u.2.2.2.1) ∧ okC (u.2.2.2.2.1) ∧ okC (u.2.2.2.2.2)) ∧ 1 ≤ u.2.2.1 ∧ u.2.2.1 ≤ 20 ∧ incP (u.2.2.1) (u.2.2.2.1)) ∧ (-1 ≤ z ∧ z ≤ 300) ∧ okT (u.2.2.2.1) ∧ okC (u.2.2.2.2.1) ∧ okC (u.2.2.2.2.2)) (fun (u : Int × Int × Int × (Int → Int) × (Int → Int) × (Int → Int)) => [(h1r, .inr (1, [.ref qr, .int (iI u.1), .int (iI u.2.1)])), (hb0, .inr (0, [.ref qb, .int (iI nb)])), (qb, .inl (cI, 300, .inl (zA fb))), (qr, .inr (2, [.ref q1, .ref q2, .ref q3, .int (iI u.2.2.1)])), (q1, .inl (cI, 20, .inl (zA u.2.2.2.1))), (q2, .inl (cI, 20, .inl (zA u.2.2.2.2.1))), (q3, .inl (cI, 20, .inl (zA u.2.2.2.2.2)))])) 0 0 (va_A [(h1r, .inr (1, [.ref qr, .int (iI at1), .int (iI fa)])), (hb0, .inr (0, [.ref qb, .int (iI nb)])), (qb, .inl (cI, 300, .inl (zA fb))), (qr, .inr (2, [.ref q1, .ref q2, .ref q3, .int (iI n)])), (q1, .inl (cI, 20, .inl (zA ft))), (q2, .inl (cI, 20, .inl (zA fx))), (q3, .inl (cI, 20, .inl (zA fy)))] sz) := by
  refine zMi (cc := cX1_read) (maxL := 4) (ret := (some .int)) (by decide) rfl (Nat.le_of_ble_eq_true rfl) ?_
  intro p e s m below meth c A ls hE
  obtain ⟨hx, hb, hr, hts, hown, hlocks, hml, hnm, hP, hK, hD, hA, hS, hl⟩ := hE
  have hown : s.vm.findClass RX1 = some m.cls := hown
  have hl : lv_has ls 4 [(0, .ref h1r), (1, .ref hb0)] := hl
  have hin0 : ∀ w ∈ wsX00, w ∈ wsX1_read := by decide +kernel
  have hin1 : ∀ w ∈ wsX10, w ∈ wsX1_read := by decide +kernel
  have hin2 : ∀ w ∈ wsX20, w ∈ wsX1_read := by decide +kernel
  obtain ⟨Q, hQ⟩ : ∃ Q, Q = MQ below (zQi D (TY cI cJ cT) A (fun (z : Int) (u : Int × Int × Int × (Int → Int) × (Int → Int) × (Int → Int)) => z = u.2.1 ∧ z = (rdA fb nb ft fx fy).1 ∧ (z = -1 → (rdA fb nb ft fx fy) = (-1, u.2.2.1, u.2.2.2.1, u.2.2.2.2.1, u.2.2.2.2.2) ∧ (okT (u.2.2.2.1) ∧ okC (u.2.2.2.2.1) ∧ okC (u.2.2.2.2.2)) ∧ 1 ≤ u.2.2.1 ∧ u.2.2.1 ≤ 20 ∧ incP (u.2.2.1) (u.2.2.2.1)) ∧ (-1 ≤ z ∧ z ≤ 300) ∧ okT (u.2.2.2.1) ∧ okC (u.2.2.2.2.1) ∧ okC (u.2.2.2.2.2)) (fun (u : Int × Int × Int × (Int → Int) × (Int → Int) × (Int → Int)) => [(h1r, .inr (1, [.ref qr, .int (iI u.1), .int (iI u.2.1)])), (hb0, .inr (0, [.ref qb, .int (iI nb)])), (qb, .inl (cI, 300, .inl (zA fb))), (qr, .inr (2, [.ref q1, .ref q2, .ref q3, .int (iI u.2.2.1)])), (q1, .inl (cI, 20, .inl (zA u.2.2.2.1))), (q2, .inl (cI, 20, .inl (zA u.2.2.2.2.1))), (q3, .inl (cI, 20, .inl (zA u.2.2.2.2.2)))])) ([.ref h1r, .ref hb0] : List Value).toArray s 0 0 A := ⟨_, rfl⟩
  rw [← hQ]
  refine lv_aload_n hx hb dX1_read_0 rfl (lv_at hl 0 rfl) ?_
  refine lv_iconst (v := iI 0) hx hb dX1_read_1 rfl ?_
  refine va_put (D := D) (ci := 1) (v := .int (iI 0)) (ty := .int) (C := RX1) (T := TX1) (N := 3) hx hb hts hin1 tyX1 tyX1_ok nmX1 hown hK hP hD hS 0 rfl rfl 1 (by decide) (hts (.fieldLink RX1 18 "DriftLog$Reader" "at" "I") (by decide +kernel)) (fun _ h9 => h9) rfl (by decide +kernel) rfl rfl (Nat.le_of_ble_eq_true rfl) dX1_read_2 (fun H locs hP hD hS => ?_)
  have hP : va_P D vwCl [(h1r, .inr (1, [.ref qr, .int (iI 0), .int (iI fa)])), (hb0, .inr (0, [.ref qb, .int (iI nb)])), (qb, .inl (cI, 300, .inl (zA fb))), (qr, .inr (2, [.ref q1, .ref q2, .ref q3, .int (iI n)])), (q1, .inl (cI, 20, .inl (zA ft))), (q2, .inl (cI, 20, .inl (zA fx))), (q3, .inl (cI, 20, .inl (zA fy)))] H := hP
  have hD : va_D A [(h1r, .inr (1, [.ref qr, .int (iI 0), .int (iI fa)])), (hb0, .inr (0, [.ref qb, .int (iI nb)])), (qb, .inl (cI, 300, .inl (zA fb))), (qr, .inr (2, [.ref q1, .ref q2, .ref q3, .int (iI n)])), (q1, .inl (cI, 20, .inl (zA ft))), (q2, .inl (cI, 20, .inl (zA fx))), (q3, .inl (cI, 20, .inl (zA fy)))] := hD
  refine lv_aload_n hx hb dX1_read_5 rfl (lv_at hl 0 rfl) ?_
  refine lv_iconst (v := iI (-1)) hx hb dX1_read_6 rfl ?_
  refine va_put (D := D) (ci := 1) (v := .int (iI (-1))) (ty := .int) (C := RX1) (T := TX1) (N := 3) hx hb hts hin1 tyX1 tyX1_ok nmX1 hown hK hP hD hS 0 rfl rfl 2 (by decide) (hts (.fieldLink RX1 22 "DriftLog$Reader" "fault" "I") (by decide +kernel)) (fun _ h9 => h9) rfl (by decide +kernel) rfl rfl (Nat.le_of_ble_eq_true rfl) dX1_read_7 (fun H locs hP hD hS => ?_)
  have hP : va_P D vwCl [(h1r, .inr (1, [.ref qr, .int (iI 0), .int (iI (-1))])), (hb0, .inr (0, [.ref qb, .int (iI nb)])), (qb, .inl (cI, 300, .inl (zA fb))), (qr, .inr (2, [.ref q1, .ref q2, .ref q3, .int (iI n)])), (q1, .inl (cI, 20, .inl (zA ft))), (q2, .inl (cI, 20, .inl (zA fx))), (q3, .inl (cI, 20, .inl (zA fy)))] H := hP
  have hD : va_D A [(h1r, .inr (1, [.ref qr, .int (iI 0), .int (iI (-1))])), (hb0, .inr (0, [.ref qb, .int (iI nb)])), (qb, .inl (cI, 300, .inl (zA fb))), (qr, .inr (2, [.ref q1, .ref q2, .ref q3, .int (iI n)])), (q1, .inl (cI, 20, .inl (zA ft))), (q2, .inl (cI, 20, .inl (zA fx))), (q3, .inl (cI, 20, .inl (zA fy)))] := hD
  refine lv_aload_n hx hb dX1_read_10 rfl (lv_at hl 0 rfl) ?_
  refine va_get (D := D) (ci := 1) (v := .ref qr) (C := RX1) (T := TX1) (N := 3) hx hb hts hin1 hown hK hP 0 rfl rfl 0 (by decide) (hts (.fieldLink RX1 12 "DriftLog$Reader" "row" "LDriftLog$Row;") (by decide +kernel)) (fun _ h9 => h9) rfl dX1_read_11 ?_
  refine lv_iconst (v := iI 0) hx hb dX1_read_14 rfl ?_
  refine va_put (D := D) (ci := 2) (v := .int (iI 0)) (ty := .int) (C := RX2) (T := TX2) (N := 4) hx hb hts hin2 tyX2 tyX2_ok nmX2 hown hK hP hD hS 3 rfl rfl 3 (by decide) (hts (.fieldLink RX1 25 "DriftLog$Row" "size" "I") (by decide +kernel)) (fun _ h9 => h9) rfl (by decide +kernel) rfl rfl (Nat.le_of_ble_eq_true rfl) dX1_read_15 (fun H locs hP hD hS => ?_)
  have hP : va_P D vwCl [(h1r, .inr (1, [.ref qr, .int (iI 0), .int (iI (-1))])), (hb0, .inr (0, [.ref qb, .int (iI nb)])), (qb, .inl (cI, 300, .inl (zA fb))), (qr, .inr (2, [.ref q1, .ref q2, .ref q3, .int (iI 0)])), (q1, .inl (cI, 20, .inl (zA ft))), (q2, .inl (cI, 20, .inl (zA fx))), (q3, .inl (cI, 20, .inl (zA fy)))] H := hP
  have hD : va_D A [(h1r, .inr (1, [.ref qr, .int (iI 0), .int (iI (-1))])), (hb0, .inr (0, [.ref qb, .int (iI nb)])), (qb, .inl (cI, 300, .inl (zA fb))), (qr, .inr (2, [.ref q1, .ref q2, .ref q3, .int (iI 0)])), (q1, .inl (cI, 20, .inl (zA ft))), (q2, .inl (cI, 20, .inl (zA fx))), (q3, .inl (cI, 20, .inl (zA fy)))] := hD
  refine lv_aload_n hx hb dX1_read_18 rfl (lv_at hl 0 rfl) ?_
  refine lv_aload_n hx hb dX1_read_19 rfl (lv_at hl 1 rfl) ?_
  refine lv_lconst (v := lI 1) hx hb dX1_read_20 (by decide) ?_
  refine lv_ldc2 (v := 20) hx hb hown (hts (.constantLong RX1 28 (20)) (by decide +kernel)) dX1_read_21 ?_
  refine wz_topl (show (20 : Int64) = lI 20 by decide) ?_
  refine lv_ldc2 (v := 20) hx hb hown (hts (.constantLong RX1 28 (20)) (by decide +kernel)) dX1_read_24 ?_
  refine wz_topl (show (20 : Int64) = lI 20 by decide) ?_
  refine wz_calll (wr := [(qr, .inr (2, [.ref q1, .ref q2, .ref q3, .int (iI 0)])), (q1, .inl (cI, 20, .inl (zA ft))), (q2, .inl (cI, 20, .inl (zA fx))), (q3, .inl (cI, 20, .inl (zA fy)))]) (va_runV (As := [.ref hb0, .long (lI 1), .long (lI 20), .long (lI 20)]) (rest := []) ⟨hx, hb, hml, hown, hts⟩ (k_X1_readNumber l D cI cJ cT H.size h1r qr 0 (-1) hb0 qb fb nb 1 20 20 (hB) (hnb) (by constructor <;> omega) (by decide) (by decide) (by decide) (by decide)) (cwV 4 hts gX1_read_X1_readNumber rfl rfl rfl (by decide +kernel) ⟨Nat.le_of_ble_eq_true rfl, Nat.le_of_ble_eq_true rfl⟩) (wz_preV hK hP hD [0, 1, 2] (by decide) rfl rfl 1 0 rfl rfl) rfl rfl hl.1 rfl (lv_room (Nat.le_of_ble_eq_true rfl)) dX1_read_27 ⟨Nat.le_of_ble_eq_true rfl, Nat.le_of_ble_eq_true rfl⟩) hP hD hS hA [0, 1, 2] [3, 4, 5, 6] rfl rfl rfl (by decide) (fun z27 u H locs hw27 hP hD hS => ?_)
  obtain ⟨aa, fa0⟩ := u
  try dsimp only at hw27
  have hP : va_P D vwCl [(h1r, .inr (1, [.ref qr, .int (iI aa), .int (iI fa0)])), (hb0, .inr (0, [.ref qb, .int (iI nb)])), (qb, .inl (cI, 300, .inl (zA fb))), (qr, .inr (2, [.ref q1, .ref q2, .ref q3, .int (iI 0)])), (q1, .inl (cI, 20, .inl (zA ft))), (q2, .inl (cI, 20, .inl (zA fx))), (q3, .inl (cI, 20, .inl (zA fy)))] H := hP.sub [4, 5, 6, 0, 1, 2, 3] rfl
  have hD : va_D A [(h1r, .inr (1, [.ref qr, .int (iI aa), .int (iI fa0)])), (hb0, .inr (0, [.ref qb, .int (iI nb)])), (qb, .inl (cI, 300, .inl (zA fb))), (qr, .inr (2, [.ref q1, .ref q2, .ref q3, .int (iI 0)])), (q1, .inl (cI, 20, .inl (zA ft))), (q2, .inl (cI, 20, .inl (zA fx))), (q3, .inl (cI, 20, .inl (zA fy)))] := hD.sub [4, 5, 6, 0, 1, 2, 3] (by decide) rfl
  have n0 : nrP fb nb 0 1 20 20 z27 aa fa0 := hw27.1 rfl
  have b0 := nrB hB hnb.2 ⟨by decide, hnb.1⟩ n0
  obtain ⟨i0, rz, rz1⟩ := rdI_0 (ft := ft) (fx := fx) (fy := fy) hB hnb.1 n0
  have a4 : (rdN 5 fb nb 0 1 0 1 20 20).1 = 1 → 1 ≤ z27 := fun q => rz1 (by rcases n0.2 with w | w; exact w.2.2; rw [w.1] at q; exact absurd q (by decide))
  refine wz_l2i hx hb dX1_read_30 ?_
  refine lv_istore_n (lv' := [(2, .int (iI z27)), (0, .ref h1r), (1, .ref hb0)]) hx hb dX1_read_31 rfl hl (by decide) rfl (fun ls hl => ?_)
  refine lv_iconst (v := iI 0) hx hb dX1_read_32 rfl ?_
  refine lv_istore_n (lv' := [(3, .int (iI 0)), (2, .int (iI z27)), (0, .ref h1r), (1, .ref hb0)]) hx hb dX1_read_33 rfl hl (by decide) rfl (fun ls hl => ?_)
  have LP34 : ∀ (N34 : Nat) (i : Int) (at2 : Int) (fa : Int) (k : Int) (gt : Int → Int) (gx : Int → Int) (gy : Int → Int) (H : Heap) (locs : List Loc) (ls : Array Slot), ((0 ≤ i ∧ i ≤ z27) ∧ rdI fb nb ft fx fy (rdN 5 fb nb 0 1 0 1 20 20) z27 i at2 fa k gt gx gy ∧ rdJ k i at2 fa nb gt gx gy) → (z27 - i) < (N34 : Int) → va_P D vwCl [(h1r, .inr (1, [.ref qr, .int (iI at2), .int (iI fa)])), (hb0, .inr (0, [.ref qb, .int (iI nb)])), (qb, .inl (cI, 300, .inl (zA fb))), (qr, .inr (2, [.ref q1, .ref q2, .ref q3, .int (iI k)])), (q1, .inl (cI, 20, .inl (zA gt))), (q2, .inl (cI, 20, .inl (zA gx))), (q3, .inl (cI, 20, .inl (zA gy)))] H → va_D A [(h1r, .inr (1, [.ref qr, .int (iI at2), .int (iI fa)])), (hb0, .inr (0, [.ref qb, .int (iI nb)])), (qb, .inl (cI, 300, .inl (zA fb))), (qr, .inr (2, [.ref q1, .ref q2, .ref q3, .int (iI k)])), (q1, .inl (cI, 20, .inl (zA gt))), (q2, .inl (cI, 20, .inl (zA gx))), (q3, .inl (cI, 20, .inl (zA gy)))] → va_S A s.heap H locs → lv_has ls 4 [(0, .ref h1r), (1, .ref hb0), (2, .int (iI z27)), (3, .int (iI i))] → W p l e { frames := 3, cells := 0, slots := 0, locals := 93 } s m ([.ref h1r, .ref hb0] : List Value).toArray below meth c H locs 0 0 Q (F0 m 34 ls []) := by
    intro N34
    induction N34 with
    | zero =>
      intro i at2 fa k gt gx gy H locs ls hI hm
      obtain ⟨a1, a2, a3⟩ := hI
      exfalso; omega
    | succ N34 ih34 =>
      intro i at2 fa k gt gx gy H locs ls hI hm34 hP hD hS hl
      obtain ⟨a1, a2, a3⟩ := hI
      have rfa : rI fa := ⟨by have := a3.2.2.1.1; omega, by have := a3.2.2.1.2; omega⟩
      refine lv_iload_n hx hb dX1_read_34 rfl (lv_at hl 3 rfl) ?_
      refine lv_iload_n hx hb dX1_read_35 rfl (lv_at hl 2 rfl) ?_
      refine wz_icmp_ge (tgt := 63) hx hb dX1_read_36 (by decide) ⟨by omega, by omega⟩ ⟨by omega, by omega⟩ (fun c36 => ?_) (fun c36 => ?_)
      · skip
        have fin := rdA_end ⟨a1.1, a1.2⟩ a2 (by first | (left; assumption) | (right; omega))
        refine lv_aload_n hx hb dX1_read_63 rfl (lv_at hl 0 rfl) ?_
        refine va_get (D := D) (ci := 1) (v := .int (iI fa)) (C := RX1) (T := TX1) (N := 3) hx hb hts hin1 hown hK hP 0 rfl rfl 2 (by decide) (hts (.fieldLink RX1 22 "DriftLog$Reader" "fault" "I") (by decide +kernel)) (fun _ h9 => h9) rfl dX1_read_64 ?_
        refine lv_iconst (v := iI (-1)) hx hb dX1_read_67 rfl ?_
        refine wz_icmp_ne (tgt := 90) hx hb dX1_read_68 (by decide) (rfa) (by decide) (fun c68 => ?_) (fun c68 => ?_)
        · skip
          refine lv_aload_n hx hb dX1_read_90 rfl (lv_at hl 0 rfl) ?_
          refine va_get (D := D) (ci := 1) (v := .int (iI fa)) (C := RX1) (T := TX1) (N := 3) hx hb hts hin1 hown hK hP 0 rfl rfl 2 (by decide) (hts (.fieldLink RX1 22 "DriftLog$Reader" "fault" "I") (by decide +kernel)) (fun _ h9 => h9) rfl dX1_read_91 ?_
          rw [hQ]
          exact wz_reti (tys := TY cI cJ cT) (at2, fa, k, gt, gx, gy) hx hb hr hlocks hK hP hD hS (by (try dsimp only); exact (⟨rfl, (fin.1 c68).symm, fun q => absurd q c68, ⟨a3.2.2.1.1, by have := a3.2.2.1.2; omega⟩, a3.1⟩)) dX1_read_94
        · skip
          refine lv_aload_n hx hb dX1_read_71 rfl (lv_at hl 0 rfl) ?_
          refine va_get (D := D) (ci := 1) (v := .int (iI at2)) (C := RX1) (T := TX1) (N := 3) hx hb hts hin1 hown hK hP 0 rfl rfl 1 (by decide) (hts (.fieldLink RX1 18 "DriftLog$Reader" "at" "I") (by decide +kernel)) (fun _ h9 => h9) rfl dX1_read_72 ?_
          refine lv_aload_n hx hb dX1_read_75 rfl (lv_at hl 1 rfl) ?_
          refine va_get (D := D) (ci := 0) (v := .int (iI nb)) (C := RX0) (T := TX0) (N := 2) hx hb hts hin0 hown hK hP 1 rfl rfl 1 (by decide) (hts (.fieldLink RX1 38 "DriftLog$ByteRow" "size" "I") (by decide +kernel)) (fun _ h9 => h9) rfl dX1_read_76 ?_
          refine wz_icmp_ge (tgt := 90) hx hb dX1_read_79 (by decide) (by have := a3.2.1; constructor <;> omega) (by constructor <;> omega) (fun c79 => ?_) (fun c79 => ?_)
          · skip
            refine lv_aload_n hx hb dX1_read_90 rfl (lv_at hl 0 rfl) ?_
            refine va_get (D := D) (ci := 1) (v := .int (iI fa)) (C := RX1) (T := TX1) (N := 3) hx hb hts hin1 hown hK hP 0 rfl rfl 2 (by decide) (hts (.fieldLink RX1 22 "DriftLog$Reader" "fault" "I") (by decide +kernel)) (fun _ h9 => h9) rfl dX1_read_91 ?_
            rw [hQ]
            exact wz_reti (tys := TY cI cJ cT) (at2, fa, k, gt, gx, gy) hx hb hr hlocks hK hP hD hS (by (try dsimp only); exact (by have q := fin.2.2 c68 c79; have q1 := a4 (rdI_c a2 c68); obtain ⟨j1, j2, j3, j4, j5⟩ := a3; rw [q.1]; exact ⟨rfl, c68, fun _ => ⟨rfl, j1, by omega, by omega, j5⟩, by omega, j1⟩)) dX1_read_94
          · skip
            refine lv_aload_n hx hb dX1_read_82 rfl (lv_at hl 0 rfl) ?_
            refine lv_aload_n hx hb dX1_read_83 rfl (lv_at hl 0 rfl) ?_
            refine va_get (D := D) (ci := 1) (v := .int (iI at2)) (C := RX1) (T := TX1) (N := 3) hx hb hts hin1 hown hK hP 0 rfl rfl 1 (by decide) (hts (.fieldLink RX1 18 "DriftLog$Reader" "at" "I") (by decide +kernel)) (fun _ h9 => h9) rfl dX1_read_84 ?_
            refine va_put (D := D) (ci := 1) (v := .int (iI at2)) (ty := .int) (C := RX1) (T := TX1) (N := 3) hx hb hts hin1 tyX1 tyX1_ok nmX1 hown hK hP hD hS 0 rfl rfl 2 (by decide) (hts (.fieldLink RX1 22 "DriftLog$Reader" "fault" "I") (by decide +kernel)) (fun _ h9 => h9) rfl (by decide +kernel) rfl rfl (Nat.le_of_ble_eq_true rfl) dX1_read_87 (fun H locs hP hD hS => ?_)
            have hP : va_P D vwCl [(h1r, .inr (1, [.ref qr, .int (iI at2), .int (iI at2)])), (hb0, .inr (0, [.ref qb, .int (iI nb)])), (qb, .inl (cI, 300, .inl (zA fb))), (qr, .inr (2, [.ref q1, .ref q2, .ref q3, .int (iI k)])), (q1, .inl (cI, 20, .inl (zA gt))), (q2, .inl (cI, 20, .inl (zA gx))), (q3, .inl (cI, 20, .inl (zA gy)))] H := hP
            have hD : va_D A [(h1r, .inr (1, [.ref qr, .int (iI at2), .int (iI at2)])), (hb0, .inr (0, [.ref qb, .int (iI nb)])), (qb, .inl (cI, 300, .inl (zA fb))), (qr, .inr (2, [.ref q1, .ref q2, .ref q3, .int (iI k)])), (q1, .inl (cI, 20, .inl (zA gt))), (q2, .inl (cI, 20, .inl (zA gx))), (q3, .inl (cI, 20, .inl (zA gy)))] := hD
            refine lv_aload_n hx hb dX1_read_90 rfl (lv_at hl 0 rfl) ?_
            refine va_get (D := D) (ci := 1) (v := .int (iI at2)) (C := RX1) (T := TX1) (N := 3) hx hb hts hin1 hown hK hP 0 rfl rfl 2 (by decide) (hts (.fieldLink RX1 22 "DriftLog$Reader" "fault" "I") (by decide +kernel)) (fun _ h9 => h9) rfl dX1_read_91 ?_
            rw [hQ]
            exact wz_reti (tys := TY cI cJ cT) (at2, at2, k, gt, gx, gy) hx hb hr hlocks hK hP hD hS (by (try dsimp only); exact (⟨rfl, (fin.2.1 c68 c79).symm, fun q => by have := a3.2.1; exfalso; omega, by have := a3.2.1; omega, a3.1⟩)) dX1_read_94
      · skip
        refine lv_aload_n hx hb dX1_read_39 rfl (lv_at hl 0 rfl) ?_
        refine va_get (D := D) (ci := 1) (v := .int (iI fa)) (C := RX1) (T := TX1) (N := 3) hx hb hts hin1 hown hK hP 0 rfl rfl 2 (by decide) (hts (.fieldLink RX1 22 "DriftLog$Reader" "fault" "I") (by decide +kernel)) (fun _ h9 => h9) rfl dX1_read_40 ?_
        refine lv_iconst (v := iI (-1)) hx hb dX1_read_43 rfl ?_
        refine wz_icmp_ne (tgt := 63) hx hb dX1_read_44 (by decide) (rfa) (by decide) (fun c44 => ?_) (fun c44 => ?_)
        · skip
          have fin := rdA_end ⟨a1.1, a1.2⟩ a2 (by first | (left; assumption) | (right; omega))
          refine lv_aload_n hx hb dX1_read_63 rfl (lv_at hl 0 rfl) ?_
          refine va_get (D := D) (ci := 1) (v := .int (iI fa)) (C := RX1) (T := TX1) (N := 3) hx hb hts hin1 hown hK hP 0 rfl rfl 2 (by decide) (hts (.fieldLink RX1 22 "DriftLog$Reader" "fault" "I") (by decide +kernel)) (fun _ h9 => h9) rfl dX1_read_64 ?_
          refine lv_iconst (v := iI (-1)) hx hb dX1_read_67 rfl ?_
          refine wz_icmp_ne (tgt := 90) hx hb dX1_read_68 (by decide) (rfa) (by decide) (fun c68 => ?_) (fun c68 => ?_)
          · skip
            refine lv_aload_n hx hb dX1_read_90 rfl (lv_at hl 0 rfl) ?_
            refine va_get (D := D) (ci := 1) (v := .int (iI fa)) (C := RX1) (T := TX1) (N := 3) hx hb hts hin1 hown hK hP 0 rfl rfl 2 (by decide) (hts (.fieldLink RX1 22 "DriftLog$Reader" "fault" "I") (by decide +kernel)) (fun _ h9 => h9) rfl dX1_read_91 ?_
            rw [hQ]
            exact wz_reti (tys := TY cI cJ cT) (at2, fa, k, gt, gx, gy) hx hb hr hlocks hK hP hD hS (by (try dsimp only); exact (⟨rfl, (fin.1 c68).symm, fun q => absurd q c68, ⟨a3.2.2.1.1, by have := a3.2.2.1.2; omega⟩, a3.1⟩)) dX1_read_94
          · skip
            exfalso; omega
        · skip
          subst c44
          refine lv_aload_n hx hb dX1_read_47 rfl (lv_at hl 0 rfl) ?_
          refine lv_aload_n hx hb dX1_read_48 rfl (lv_at hl 1 rfl) ?_
          refine lv_iload_n hx hb dX1_read_49 rfl (lv_at hl 2 rfl) ?_
          refine lv_iconst (v := iI 1) hx hb dX1_read_50 rfl ?_
          refine wz_isub hx hb dX1_read_51 ?_
          refine lv_iload_n hx hb dX1_read_52 rfl (lv_at hl 3 rfl) ?_
          refine wz_isub hx hb dX1_read_53 ?_
          refine wz_callv (wr := []) (va_runV (As := [.ref hb0, .int (iI ((z27 - 1) - i))]) (rest := []) ⟨hx, hb, hml, hown, hts⟩ (k_X1_readSample l D cI cJ cT H.size h1r qr at2 hb0 qb fb nb q1 q2 q3 gt gx gy k ((z27 - 1) - i) (hB) (hnb) (a3.2.1) (a3.1.1) (a3.1.2.1) (a3.1.2.2) (by have := a3.2.2.2.1; constructor <;> omega) (by constructor <;> omega)) (cwV 2 hts gX1_read_X1_readSample rfl rfl rfl (by decide +kernel) ⟨Nat.le_of_ble_eq_true rfl, Nat.le_of_ble_eq_true rfl⟩) (wz_preV hK hP hD [0, 1, 2, 3, 4, 5, 6] (by decide) rfl rfl 1 0 rfl rfl) rfl rfl hl.1 rfl (lv_room (Nat.le_of_ble_eq_true rfl)) dX1_read_54 ⟨Nat.le_of_ble_eq_true rfl, Nat.le_of_ble_eq_true rfl⟩) hP hD hS hA [0, 1, 2, 3, 4, 5, 6] [] rfl rfl rfl (by decide) (fun  u H locs hw54 hP hD hS => ?_)
          obtain ⟨ab, fb1, kb, et, ex, ey⟩ := u
          try dsimp only at hw54
          have hP : va_P D vwCl [(h1r, .inr (1, [.ref qr, .int (iI ab), .int (iI fb1)])), (hb0, .inr (0, [.ref qb, .int (iI nb)])), (qb, .inl (cI, 300, .inl (zA fb))), (qr, .inr (2, [.ref q1, .ref q2, .ref q3, .int (iI kb)])), (q1, .inl (cI, 20, .inl (zA et))), (q2, .inl (cI, 20, .inl (zA ex))), (q3, .inl (cI, 20, .inl (zA ey)))] H := hP.sub [0, 1, 2, 3, 4, 5, 6] rfl
          have hD : va_D A [(h1r, .inr (1, [.ref qr, .int (iI ab), .int (iI fb1)])), (hb0, .inr (0, [.ref qb, .int (iI nb)])), (qb, .inl (cI, 300, .inl (zA fb))), (qr, .inr (2, [.ref q1, .ref q2, .ref q3, .int (iI kb)])), (q1, .inl (cI, 20, .inl (zA et))), (q2, .inl (cI, 20, .inl (zA ex))), (q3, .inl (cI, 20, .inl (zA ey)))] := hD.sub [0, 1, 2, 3, 4, 5, 6] (by decide) rfl
          have stp := rdI_step hB rz.2 ⟨a1.1, by omega⟩ a2 a3 hw54
          refine lv_iinc (v := iI (i + 1)) (lv' := [(3, .int (iI (i + 1))), (0, .ref h1r), (1, .ref hb0), (2, .int (iI z27))]) hx hb dX1_read_57 hl (k := 3) rfl (iI_add _ _) (by decide) rfl (fun ls hl => ?_)
          refine lv_goto (tgt := 34) hx hb dX1_read_60 (by decide) ?_
          exact ih34 (i + 1) ab fb1 kb et ex ey _ _ _ ⟨(by constructor <;> omega), (stp.1), (stp.2)⟩ (by omega) hP hD hS (lv_sub hl [1, 2, 3, 0] rfl)
  exact LP34 (Int.toNat (z27 - 0) + 1) 0 aa fa0 0 ft fx fy _ _ _ ⟨(by constructor <;> omega), (i0), (⟨⟨ht, hx1, hy1⟩, b0.1, b0.2.2, by decide, fun j q1 q2 => by omega⟩)⟩ (by omega) hP hD hS (lv_sub hl [2, 3, 1, 0] rfl)
