set_option maxHeartbeats 4000000 in
set_option maxRecDepth 100000 in
theorem k_X0_write (l : Launch) (D : va_G) (cI cJ cT : ClassId) (sz : Nat) (hb0 : Nat) (qb : Nat) (fb : Int → Int) (nb : Int) (h0 : Nat) (q1 : Nat) (q2 : Nat) (q3 : Nat) (ft : Int → Int) (fx : Int → Int) (fy : Int → Int) (n : Int) (ht : okT ft) (hx1 : okC fx) (hy1 : okC fy) (hinc : incP n ft) (hn : 1 ≤ n ∧ n ≤ 20) (hB : okB fb) : Met l yX0_write wsX0_write { frames := 2, cells := 0, slots := 0, locals := 44 } (zPc D (TY cI cJ cT) [.ref hb0, .ref h0] [(hb0, .inr (0, [.ref qb, .int (iI nb)])), (qb, .inl (cI, 300, .inl (zA fb))), (h0, .inr (2, [.ref q1, .ref q2, .ref q3, .int (iI n)])), (q1, .inl (cI, 20, .inl (zA ft))), (q2, .inl (cI, 20, .inl (zA fx))), (q3, .inl (cI, 20, .inl (zA fy)))] sz) (zQv D (TY cI cJ cT) (va_A [(hb0, .inr (0, [.ref qb, .int (iI nb)])), (qb, .inl (cI, 300, .inl (zA fb))), (h0, .inr (2, [.ref q1, .ref q2, .ref q3, .int (iI n)])), (q1, .inl (cI, 20, .inl (zA ft))), (q2, .inl (cI, 20, .inl (zA fx))), (q3, .inl (cI, 20, .inl (zA fy)))] sz) (fun (u : (Int → Int) × Int) => pkR ft fx fy (Int.toNat n) (wrN 4 fb 0 n) = (u.1, u.2) ∧ 1 ≤ u.2 ∧ u.2 ≤ 261 ∧ okB (u.1)) (fun (u : (Int → Int) × Int) => [(hb0, .inr (0, [.ref qb, .int (iI u.2)])), (qb, .inl (cI, 300, .inl (zA u.1))), (h0, .inr (2, [.ref q1, .ref q2, .ref q3, .int (iI n)])), (q1, .inl (cI, 20, .inl (zA ft))), (q2, .inl (cI, 20, .inl (zA fx))), (q3, .inl (cI, 20, .inl (zA fy)))])) 0 0 (va_A [(hb0, .inr (0, [.ref qb, .int (iI nb)])), (qb, .inl (cI, 300, .inl (zA fb))), (h0, .inr (2, [.ref q1, .ref q2, .ref q3, .int (iI n)])), (q1, .inl (cI, 20, .inl (zA ft))), (q2, .inl (cI, 20, .inl (zA fx))), (q3, .inl (cI, 20, .inl (zA fy)))] sz) := by
  refine zMv (cc := cX0_write) (maxL := 6) (ret := none) (by decide) rfl (Nat.le_of_ble_eq_true rfl) ?_
  intro p e s m below meth c A ls hE
  obtain ⟨hx, hb, hr, hts, hown, hlocks, hml, hnm, hP, hK, hD, hA, hS, hl⟩ := hE
  have hown : s.vm.findClass RX0 = some m.cls := hown
  have hl : lv_has ls 6 [(0, .ref hb0), (1, .ref h0)] := hl
  have hin0 : ∀ w ∈ wsX00, w ∈ wsX0_write := by decide +kernel
  have hin2 : ∀ w ∈ wsX20, w ∈ wsX0_write := by decide +kernel
  obtain ⟨Q, hQ⟩ : ∃ Q, Q = MQ below (zQv D (TY cI cJ cT) A (fun (u : (Int → Int) × Int) => pkR ft fx fy (Int.toNat n) (wrN 4 fb 0 n) = (u.1, u.2) ∧ 1 ≤ u.2 ∧ u.2 ≤ 261 ∧ okB (u.1)) (fun (u : (Int → Int) × Int) => [(hb0, .inr (0, [.ref qb, .int (iI u.2)])), (qb, .inl (cI, 300, .inl (zA u.1))), (h0, .inr (2, [.ref q1, .ref q2, .ref q3, .int (iI n)])), (q1, .inl (cI, 20, .inl (zA ft))), (q2, .inl (cI, 20, .inl (zA fx))), (q3, .inl (cI, 20, .inl (zA fy)))])) ([.ref hb0, .ref h0] : List Value).toArray s 0 0 A := ⟨_, rfl⟩
  rw [← hQ]
  refine lv_aload_n hx hb dX0_write_0 rfl (lv_at hl 0 rfl) ?_
  refine lv_iconst (v := iI 0) hx hb dX0_write_1 rfl ?_
  refine va_put (D := D) (ci := 0) (v := .int (iI 0)) (ty := .int) (C := RX0) (T := TX0) (N := 2) hx hb hts hin0 tyX0 tyX0_ok nmX0 hown hK hP hD hS 0 rfl rfl 1 (by decide) (hts (.fieldLink RX0 15 "DriftLog$ByteRow" "size" "I") (by decide +kernel)) (fun _ h9 => h9) rfl (by decide +kernel) rfl rfl (Nat.le_of_ble_eq_true rfl) dX0_write_2 (fun H locs hP hD hS => ?_)
  have hP : va_P D vwCl [(hb0, .inr (0, [.ref qb, .int (iI 0)])), (qb, .inl (cI, 300, .inl (zA fb))), (h0, .inr (2, [.ref q1, .ref q2, .ref q3, .int (iI n)])), (q1, .inl (cI, 20, .inl (zA ft))), (q2, .inl (cI, 20, .inl (zA fx))), (q3, .inl (cI, 20, .inl (zA fy)))] H := hP
  have hD : va_D A [(hb0, .inr (0, [.ref qb, .int (iI 0)])), (qb, .inl (cI, 300, .inl (zA fb))), (h0, .inr (2, [.ref q1, .ref q2, .ref q3, .int (iI n)])), (q1, .inl (cI, 20, .inl (zA ft))), (q2, .inl (cI, 20, .inl (zA fx))), (q3, .inl (cI, 20, .inl (zA fy)))] := hD
  refine lv_aload_n hx hb dX0_write_5 rfl (lv_at hl 0 rfl) ?_
  refine lv_aload_n hx hb dX0_write_6 rfl (lv_at hl 1 rfl) ?_
  refine va_get (D := D) (ci := 2) (v := .int (iI n)) (C := RX2) (T := TX2) (N := 4) hx hb hts hin2 hown hK hP 2 rfl rfl 3 (by decide) (hts (.fieldLink RX0 19 "DriftLog$Row" "size" "I") (by decide +kernel)) (fun _ h9 => h9) rfl dX0_write_7 ?_
  refine wz_callv (wr := [(h0, .inr (2, [.ref q1, .ref q2, .ref q3, .int (iI n)])), (q1, .inl (cI, 20, .inl (zA ft))), (q2, .inl (cI, 20, .inl (zA fx))), (q3, .inl (cI, 20, .inl (zA fy)))]) (va_runV (As := [.int (iI n)]) (rest := []) ⟨hx, hb, hml, hown, hts⟩ (k_X0_appendNumber l D cI cJ cT H.size hb0 qb fb 0 n (by decide) (by constructor <;> omega)) (cwV 1 hts gX0_write_X0_appendNumber rfl rfl rfl (by decide +kernel) ⟨Nat.le_of_ble_eq_true rfl, Nat.le_of_ble_eq_true rfl⟩) (wz_preV hK hP hD [0, 1] (by decide) rfl rfl 0 0 rfl rfl) rfl rfl hl.1 rfl (lv_room (Nat.le_of_ble_eq_true rfl)) dX0_write_10 ⟨Nat.le_of_ble_eq_true rfl, Nat.le_of_ble_eq_true rfl⟩) hP hD hS hA [0, 1] [2, 3, 4, 5] rfl rfl rfl (by decide) (fun  u H locs hw10 hP hD hS => ?_)
  obtain ⟨b0, n0⟩ := u
  try dsimp only at hw10
  have hP : va_P D vwCl [(hb0, .inr (0, [.ref qb, .int (iI n0)])), (qb, .inl (cI, 300, .inl (zA b0))), (h0, .inr (2, [.ref q1, .ref q2, .ref q3, .int (iI n)])), (q1, .inl (cI, 20, .inl (zA ft))), (q2, .inl (cI, 20, .inl (zA fx))), (q3, .inl (cI, 20, .inl (zA fy)))] H := hP.sub [4, 5, 0, 1, 2, 3] rfl
  have hD : va_D A [(hb0, .inr (0, [.ref qb, .int (iI n0)])), (qb, .inl (cI, 300, .inl (zA b0))), (h0, .inr (2, [.ref q1, .ref q2, .ref q3, .int (iI n)])), (q1, .inl (cI, 20, .inl (zA ft))), (q2, .inl (cI, 20, .inl (zA fx))), (q3, .inl (cI, 20, .inl (zA fy)))] := hD.sub [4, 5, 0, 1, 2, 3] (by decide) rfl
  have gB0 := wrN_B hw10 hB (by omega) (by omega)
  have gl0 := wrN_1 hw10 (by omega)
  refine lv_iconst (v := iI 0) hx hb dX0_write_13 rfl ?_
  refine lv_istore_n (lv' := [(2, .int (iI 0)), (0, .ref hb0), (1, .ref h0)]) hx hb dX0_write_14 rfl hl (by decide) rfl (fun ls hl => ?_)
  refine lv_iconst (v := iI 0) hx hb dX0_write_15 rfl ?_
  refine lv_istore_n (lv' := [(3, .int (iI 0)), (2, .int (iI 0)), (0, .ref hb0), (1, .ref h0)]) hx hb dX0_write_16 rfl hl (by decide) rfl (fun ls hl => ?_)
  refine lv_iconst (v := iI 0) hx hb dX0_write_17 rfl ?_
  refine lv_istore (lv' := [(4, .int (iI 0)), (3, .int (iI 0)), (2, .int (iI 0)), (0, .ref hb0), (1, .ref h0)]) hx hb dX0_write_18 hl (by decide) rfl (fun ls hl => ?_)
  refine lv_iconst (v := iI 0) hx hb dX0_write_20 rfl ?_
  refine lv_istore (lv' := [(5, .int (iI 0)), (4, .int (iI 0)), (3, .int (iI 0)), (2, .int (iI 0)), (0, .ref hb0), (1, .ref h0)]) hx hb dX0_write_21 hl (by decide) rfl (fun ls hl => ?_)
  have LP23 : ∀ (N23 : Nat) (i : Int) (gb : Int → Int) (gn : Int) (t : Int) (x : Int) (y : Int) (H : Heap) (locs : List Loc) (ls : Array Slot), ((0 ≤ i ∧ i ≤ n) ∧ t = pvZ ft i ∧ x = pvZ fx i ∧ y = pvZ fy i ∧ pkR ft fx fy (Int.toNat i) (wrN 4 fb 0 n) = (gb, gn) ∧ okB gb ∧ (1 ≤ gn ∧ gn ≤ 1 + 13 * i)) → (n - i) < (N23 : Int) → va_P D vwCl [(hb0, .inr (0, [.ref qb, .int (iI gn)])), (qb, .inl (cI, 300, .inl (zA gb))), (h0, .inr (2, [.ref q1, .ref q2, .ref q3, .int (iI n)])), (q1, .inl (cI, 20, .inl (zA ft))), (q2, .inl (cI, 20, .inl (zA fx))), (q3, .inl (cI, 20, .inl (zA fy)))] H → va_D A [(hb0, .inr (0, [.ref qb, .int (iI gn)])), (qb, .inl (cI, 300, .inl (zA gb))), (h0, .inr (2, [.ref q1, .ref q2, .ref q3, .int (iI n)])), (q1, .inl (cI, 20, .inl (zA ft))), (q2, .inl (cI, 20, .inl (zA fx))), (q3, .inl (cI, 20, .inl (zA fy)))] → va_S A s.heap H locs → lv_has ls 6 [(0, .ref hb0), (1, .ref h0), (2, .int (iI t)), (3, .int (iI x)), (4, .int (iI y)), (5, .int (iI i))] → W p l e { frames := 2, cells := 0, slots := 0, locals := 44 } s m ([.ref hb0, .ref h0] : List Value).toArray below meth c H locs 0 0 Q (F0 m 23 ls []) := by
    intro N23
    induction N23 with
    | zero =>
      intro i gb gn t x y H locs ls hI hm
      obtain ⟨a1, a2, a3, a4, a5, a6, a7⟩ := hI
      exfalso; omega
    | succ N23 ih23 =>
      intro i gb gn t x y H locs ls hI hm23 hP hD hS hl
      obtain ⟨a1, a2, a3, a4, a5, a6, a7⟩ := hI
      have rx := pvZ_C hx1 i
      have ry := pvZ_C hy1 i
      rw [← a3] at rx
      rw [← a4] at ry
      have kx := hx1 i
      have ky := hy1 i
      have fX := foldZ_r (v := fx i - x) (by constructor <;> omega)
      have fY := foldZ_r (v := fy i - y) (by constructor <;> omega)
      refine lv_iload hx hb dX0_write_23 (lv_at hl 5 rfl) ?_
      refine lv_aload_n hx hb dX0_write_25 rfl (lv_at hl 1 rfl) ?_
      refine va_get (D := D) (ci := 2) (v := .int (iI n)) (C := RX2) (T := TX2) (N := 4) hx hb hts hin2 hown hK hP 2 rfl rfl 3 (by decide) (hts (.fieldLink RX0 19 "DriftLog$Row" "size" "I") (by decide +kernel)) (fun _ h9 => h9) rfl dX0_write_26 ?_
      refine wz_icmp_ge (tgt := 109) hx hb dX0_write_29 (by decide) ⟨by omega, by omega⟩ ⟨by omega, by omega⟩ (fun c29 => ?_) (fun c29 => ?_)
      · skip
        rw [hQ]
        exact wz_retv (tys := TY cI cJ cT) (gb, gn) hx hb hr hlocks hK hP hD hS (by (try dsimp only); exact (by obtain rfl : i = n := (by omega); exact ⟨a5, by omega, by omega, a6⟩)) dX0_write_109
      · skip
        have pt := pvZ_T ht hinc a1.1 (by omega)
        rw [← a2] at pt
        refine lv_aload_n hx hb dX0_write_32 rfl (lv_at hl 0 rfl) ?_
        refine lv_aload_n hx hb dX0_write_33 rfl (lv_at hl 1 rfl) ?_
        refine va_get (D := D) (ci := 2) (v := .ref q1) (C := RX2) (T := TX2) (N := 4) hx hb hts hin2 hown hK hP 2 rfl rfl 0 (by decide) (hts (.fieldLink RX0 26 "DriftLog$Row" "times" "[I") (by decide +kernel)) (fun _ h9 => h9) rfl dX0_write_34 ?_
        refine lv_iload hx hb dX0_write_37 (lv_at hl 5 rfl) ?_
        refine wz_iald (tys := TY cI cJ cT) hx hb hK hP 3 0 rfl rfl (by decide) (by constructor <;> omega) dX0_write_39 ?_
        refine lv_iload_n hx hb dX0_write_40 rfl (lv_at hl 2 rfl) ?_
        refine wz_isub hx hb dX0_write_41 ?_
        refine wz_callv (wr := [(h0, .inr (2, [.ref q1, .ref q2, .ref q3, .int (iI n)])), (q1, .inl (cI, 20, .inl (zA ft))), (q2, .inl (cI, 20, .inl (zA fx))), (q3, .inl (cI, 20, .inl (zA fy)))]) (va_runV (As := [.int (iI ((ft i) - t))]) (rest := []) ⟨hx, hb, hml, hown, hts⟩ (k_X0_appendNumber l D cI cJ cT H.size hb0 qb gb gn ((ft i) - t) (by constructor <;> omega) (pt)) (cwV 1 hts gX0_write_X0_appendNumber rfl rfl rfl (by decide +kernel) ⟨Nat.le_of_ble_eq_true rfl, Nat.le_of_ble_eq_true rfl⟩) (wz_preV hK hP hD [0, 1] (by decide) rfl rfl 0 0 rfl rfl) rfl rfl hl.1 rfl (lv_room (Nat.le_of_ble_eq_true rfl)) dX0_write_42 ⟨Nat.le_of_ble_eq_true rfl, Nat.le_of_ble_eq_true rfl⟩) hP hD hS hA [0, 1] [2, 3, 4, 5] rfl rfl rfl (by decide) (fun  u H locs hw42 hP hD hS => ?_)
        obtain ⟨b1, n1⟩ := u
        try dsimp only at hw42
        have hP : va_P D vwCl [(hb0, .inr (0, [.ref qb, .int (iI n1)])), (qb, .inl (cI, 300, .inl (zA b1))), (h0, .inr (2, [.ref q1, .ref q2, .ref q3, .int (iI n)])), (q1, .inl (cI, 20, .inl (zA ft))), (q2, .inl (cI, 20, .inl (zA fx))), (q3, .inl (cI, 20, .inl (zA fy)))] H := hP.sub [4, 5, 0, 1, 2, 3] rfl
        have hD : va_D A [(hb0, .inr (0, [.ref qb, .int (iI n1)])), (qb, .inl (cI, 300, .inl (zA b1))), (h0, .inr (2, [.ref q1, .ref q2, .ref q3, .int (iI n)])), (q1, .inl (cI, 20, .inl (zA ft))), (q2, .inl (cI, 20, .inl (zA fx))), (q3, .inl (cI, 20, .inl (zA fy)))] := hD.sub [4, 5, 0, 1, 2, 3] (by decide) rfl
        have gB1 := wrN_B hw42 a6 pt.1 pt.2
        have gl1 := wrN_5 hw42 pt.1 pt.2
        refine lv_aload_n hx hb dX0_write_45 rfl (lv_at hl 0 rfl) ?_
        refine lv_aload_n hx hb dX0_write_46 rfl (lv_at hl 1 rfl) ?_
        refine va_get (D := D) (ci := 2) (v := .ref q2) (C := RX2) (T := TX2) (N := 4) hx hb hts hin2 hown hK hP 2 rfl rfl 1 (by decide) (hts (.fieldLink RX0 29 "DriftLog$Row" "xs" "[I") (by decide +kernel)) (fun _ h9 => h9) rfl dX0_write_47 ?_
        refine lv_iload hx hb dX0_write_50 (lv_at hl 5 rfl) ?_
        refine wz_iald (tys := TY cI cJ cT) hx hb hK hP 4 0 rfl rfl (by decide) (by constructor <;> omega) dX0_write_52 ?_
        refine lv_iload_n hx hb dX0_write_53 rfl (lv_at hl 3 rfl) ?_
        refine wz_isub hx hb dX0_write_54 ?_
        refine wz_calli (wr := [(hb0, .inr (0, [.ref qb, .int (iI n1)])), (qb, .inl (cI, 300, .inl (zA b1))), (h0, .inr (2, [.ref q1, .ref q2, .ref q3, .int (iI n)])), (q1, .inl (cI, 20, .inl (zA ft))), (q2, .inl (cI, 20, .inl (zA fx))), (q3, .inl (cI, 20, .inl (zA fy)))]) (va_runS (As := [.int (iI ((fx i) - x))]) (rest := [.ref hb0]) ⟨hx, hb, hml, hown, hts⟩ (k_X0_folded l D cI cJ cT H.size ((fx i) - x) (by constructor <;> omega)) (va_cwS 1 hts gX0_write_X0_folded rfl rfl rfl (by decide +kernel) ⟨Nat.le_of_ble_eq_true rfl, Nat.le_of_ble_eq_true rfl⟩) (wz_preS hK hP hD [] (by decide) rfl rfl) rfl rfl hl.1 rfl (lv_room (Nat.le_of_ble_eq_true rfl)) dX0_write_55 ⟨Nat.le_of_ble_eq_true rfl, Nat.le_of_ble_eq_true rfl⟩) hP hD hS hA [] [0, 1, 2, 3, 4, 5] rfl rfl rfl (by decide) (fun z55 u H locs hw55 hP hD hS => ?_)
        have hP : va_P D vwCl [(hb0, .inr (0, [.ref qb, .int (iI n1)])), (qb, .inl (cI, 300, .inl (zA b1))), (h0, .inr (2, [.ref q1, .ref q2, .ref q3, .int (iI n)])), (q1, .inl (cI, 20, .inl (zA ft))), (q2, .inl (cI, 20, .inl (zA fx))), (q3, .inl (cI, 20, .inl (zA fy)))] H := hP.sub [0, 1, 2, 3, 4, 5] rfl
        have hD : va_D A [(hb0, .inr (0, [.ref qb, .int (iI n1)])), (qb, .inl (cI, 300, .inl (zA b1))), (h0, .inr (2, [.ref q1, .ref q2, .ref q3, .int (iI n)])), (q1, .inl (cI, 20, .inl (zA ft))), (q2, .inl (cI, 20, .inl (zA fx))), (q3, .inl (cI, 20, .inl (zA fy)))] := hD.sub [0, 1, 2, 3, 4, 5] (by decide) rfl
        subst hw55
        refine wz_callv (wr := [(h0, .inr (2, [.ref q1, .ref q2, .ref q3, .int (iI n)])), (q1, .inl (cI, 20, .inl (zA ft))), (q2, .inl (cI, 20, .inl (zA fx))), (q3, .inl (cI, 20, .inl (zA fy)))]) (va_runV (As := [.int (iI (foldZ ((fx i) - x)))]) (rest := []) ⟨hx, hb, hml, hown, hts⟩ (k_X0_appendNumber l D cI cJ cT H.size hb0 qb b1 n1 (foldZ ((fx i) - x)) (by constructor <;> omega) (by constructor <;> omega)) (cwV 1 hts gX0_write_X0_appendNumber rfl rfl rfl (by decide +kernel) ⟨Nat.le_of_ble_eq_true rfl, Nat.le_of_ble_eq_true rfl⟩) (wz_preV hK hP hD [0, 1] (by decide) rfl rfl 0 0 rfl rfl) rfl rfl hl.1 rfl (lv_room (Nat.le_of_ble_eq_true rfl)) dX0_write_58 ⟨Nat.le_of_ble_eq_true rfl, Nat.le_of_ble_eq_true rfl⟩) hP hD hS hA [0, 1] [2, 3, 4, 5] rfl rfl rfl (by decide) (fun  u H locs hw58 hP hD hS => ?_)
        obtain ⟨b2, n2⟩ := u
        try dsimp only at hw58
        have hP : va_P D vwCl [(hb0, .inr (0, [.ref qb, .int (iI n2)])), (qb, .inl (cI, 300, .inl (zA b2))), (h0, .inr (2, [.ref q1, .ref q2, .ref q3, .int (iI n)])), (q1, .inl (cI, 20, .inl (zA ft))), (q2, .inl (cI, 20, .inl (zA fx))), (q3, .inl (cI, 20, .inl (zA fy)))] H := hP.sub [4, 5, 0, 1, 2, 3] rfl
        have hD : va_D A [(hb0, .inr (0, [.ref qb, .int (iI n2)])), (qb, .inl (cI, 300, .inl (zA b2))), (h0, .inr (2, [.ref q1, .ref q2, .ref q3, .int (iI n)])), (q1, .inl (cI, 20, .inl (zA ft))), (q2, .inl (cI, 20, .inl (zA fx))), (q3, .inl (cI, 20, .inl (zA fy)))] := hD.sub [4, 5, 0, 1, 2, 3] (by decide) rfl
        have gB2 := wrN_B hw58 gB1 (by omega) (by omega)
        have gl2 := wrN_4 hw58 (by omega) (by omega)
        refine lv_aload_n hx hb dX0_write_61 rfl (lv_at hl 0 rfl) ?_
        refine lv_aload_n hx hb dX0_write_62 rfl (lv_at hl 1 rfl) ?_
        refine va_get (D := D) (ci := 2) (v := .ref q3) (C := RX2) (T := TX2) (N := 4) hx hb hts hin2 hown hK hP 2 rfl rfl 2 (by decide) (hts (.fieldLink RX0 36 "DriftLog$Row" "ys" "[I") (by decide +kernel)) (fun _ h9 => h9) rfl dX0_write_63 ?_
        refine lv_iload hx hb dX0_write_66 (lv_at hl 5 rfl) ?_
        refine wz_iald (tys := TY cI cJ cT) hx hb hK hP 5 0 rfl rfl (by decide) (by constructor <;> omega) dX0_write_68 ?_
        refine lv_iload hx hb dX0_write_69 (lv_at hl 4 rfl) ?_
        refine wz_isub hx hb dX0_write_71 ?_
        refine wz_calli (wr := [(hb0, .inr (0, [.ref qb, .int (iI n2)])), (qb, .inl (cI, 300, .inl (zA b2))), (h0, .inr (2, [.ref q1, .ref q2, .ref q3, .int (iI n)])), (q1, .inl (cI, 20, .inl (zA ft))), (q2, .inl (cI, 20, .inl (zA fx))), (q3, .inl (cI, 20, .inl (zA fy)))]) (va_runS (As := [.int (iI ((fy i) - y))]) (rest := [.ref hb0]) ⟨hx, hb, hml, hown, hts⟩ (k_X0_folded l D cI cJ cT H.size ((fy i) - y) (by constructor <;> omega)) (va_cwS 1 hts gX0_write_X0_folded rfl rfl rfl (by decide +kernel) ⟨Nat.le_of_ble_eq_true rfl, Nat.le_of_ble_eq_true rfl⟩) (wz_preS hK hP hD [] (by decide) rfl rfl) rfl rfl hl.1 rfl (lv_room (Nat.le_of_ble_eq_true rfl)) dX0_write_72 ⟨Nat.le_of_ble_eq_true rfl, Nat.le_of_ble_eq_true rfl⟩) hP hD hS hA [] [0, 1, 2, 3, 4, 5] rfl rfl rfl (by decide) (fun z72 u H locs hw72 hP hD hS => ?_)
        have hP : va_P D vwCl [(hb0, .inr (0, [.ref qb, .int (iI n2)])), (qb, .inl (cI, 300, .inl (zA b2))), (h0, .inr (2, [.ref q1, .ref q2, .ref q3, .int (iI n)])), (q1, .inl (cI, 20, .inl (zA ft))), (q2, .inl (cI, 20, .inl (zA fx))), (q3, .inl (cI, 20, .inl (zA fy)))] H := hP.sub [0, 1, 2, 3, 4, 5] rfl
        have hD : va_D A [(hb0, .inr (0, [.ref qb, .int (iI n2)])), (qb, .inl (cI, 300, .inl (zA b2))), (h0, .inr (2, [.ref q1, .ref q2, .ref q3, .int (iI n)])), (q1, .inl (cI, 20, .inl (zA ft))), (q2, .inl (cI, 20, .inl (zA fx))), (q3, .inl (cI, 20, .inl (zA fy)))] := hD.sub [0, 1, 2, 3, 4, 5] (by decide) rfl
        subst hw72
        refine wz_callv (wr := [(h0, .inr (2, [.ref q1, .ref q2, .ref q3, .int (iI n)])), (q1, .inl (cI, 20, .inl (zA ft))), (q2, .inl (cI, 20, .inl (zA fx))), (q3, .inl (cI, 20, .inl (zA fy)))]) (va_runV (As := [.int (iI (foldZ ((fy i) - y)))]) (rest := []) ⟨hx, hb, hml, hown, hts⟩ (k_X0_appendNumber l D cI cJ cT H.size hb0 qb b2 n2 (foldZ ((fy i) - y)) (by constructor <;> omega) (by constructor <;> omega)) (cwV 1 hts gX0_write_X0_appendNumber rfl rfl rfl (by decide +kernel) ⟨Nat.le_of_ble_eq_true rfl, Nat.le_of_ble_eq_true rfl⟩) (wz_preV hK hP hD [0, 1] (by decide) rfl rfl 0 0 rfl rfl) rfl rfl hl.1 rfl (lv_room (Nat.le_of_ble_eq_true rfl)) dX0_write_75 ⟨Nat.le_of_ble_eq_true rfl, Nat.le_of_ble_eq_true rfl⟩) hP hD hS hA [0, 1] [2, 3, 4, 5] rfl rfl rfl (by decide) (fun  u H locs hw75 hP hD hS => ?_)
        obtain ⟨b3, n3⟩ := u
        try dsimp only at hw75
        have hP : va_P D vwCl [(hb0, .inr (0, [.ref qb, .int (iI n3)])), (qb, .inl (cI, 300, .inl (zA b3))), (h0, .inr (2, [.ref q1, .ref q2, .ref q3, .int (iI n)])), (q1, .inl (cI, 20, .inl (zA ft))), (q2, .inl (cI, 20, .inl (zA fx))), (q3, .inl (cI, 20, .inl (zA fy)))] H := hP.sub [4, 5, 0, 1, 2, 3] rfl
        have hD : va_D A [(hb0, .inr (0, [.ref qb, .int (iI n3)])), (qb, .inl (cI, 300, .inl (zA b3))), (h0, .inr (2, [.ref q1, .ref q2, .ref q3, .int (iI n)])), (q1, .inl (cI, 20, .inl (zA ft))), (q2, .inl (cI, 20, .inl (zA fx))), (q3, .inl (cI, 20, .inl (zA fy)))] := hD.sub [4, 5, 0, 1, 2, 3] (by decide) rfl
        have gB3 := wrN_B hw75 gB2 (by omega) (by omega)
        have gl3 := wrN_4 hw75 (by omega) (by omega)
        refine lv_aload_n hx hb dX0_write_78 rfl (lv_at hl 1 rfl) ?_
        refine va_get (D := D) (ci := 2) (v := .ref q1) (C := RX2) (T := TX2) (N := 4) hx hb hts hin2 hown hK hP 2 rfl rfl 0 (by decide) (hts (.fieldLink RX0 26 "DriftLog$Row" "times" "[I") (by decide +kernel)) (fun _ h9 => h9) rfl dX0_write_79 ?_
        refine lv_iload hx hb dX0_write_82 (lv_at hl 5 rfl) ?_
        refine wz_iald (tys := TY cI cJ cT) hx hb hK hP 3 0 rfl rfl (by decide) (by constructor <;> omega) dX0_write_84 ?_
        refine lv_istore_n (lv' := [(2, .int (iI (ft i))), (0, .ref hb0), (1, .ref h0), (3, .int (iI x)), (4, .int (iI y)), (5, .int (iI i))]) hx hb dX0_write_85 rfl hl (by decide) rfl (fun ls hl => ?_)
        refine lv_aload_n hx hb dX0_write_86 rfl (lv_at hl 2 rfl) ?_
        refine va_get (D := D) (ci := 2) (v := .ref q2) (C := RX2) (T := TX2) (N := 4) hx hb hts hin2 hown hK hP 2 rfl rfl 1 (by decide) (hts (.fieldLink RX0 29 "DriftLog$Row" "xs" "[I") (by decide +kernel)) (fun _ h9 => h9) rfl dX0_write_87 ?_
        refine lv_iload hx hb dX0_write_90 (lv_at hl 5 rfl) ?_
        refine wz_iald (tys := TY cI cJ cT) hx hb hK hP 4 0 rfl rfl (by decide) (by constructor <;> omega) dX0_write_92 ?_
        refine lv_istore_n (lv' := [(3, .int (iI (fx i))), (2, .int (iI (ft i))), (0, .ref hb0), (1, .ref h0), (4, .int (iI y)), (5, .int (iI i))]) hx hb dX0_write_93 rfl hl (by decide) rfl (fun ls hl => ?_)
        refine lv_aload_n hx hb dX0_write_94 rfl (lv_at hl 3 rfl) ?_
        refine va_get (D := D) (ci := 2) (v := .ref q3) (C := RX2) (T := TX2) (N := 4) hx hb hts hin2 hown hK hP 2 rfl rfl 2 (by decide) (hts (.fieldLink RX0 36 "DriftLog$Row" "ys" "[I") (by decide +kernel)) (fun _ h9 => h9) rfl dX0_write_95 ?_
        refine lv_iload hx hb dX0_write_98 (lv_at hl 5 rfl) ?_
        refine wz_iald (tys := TY cI cJ cT) hx hb hK hP 5 0 rfl rfl (by decide) (by constructor <;> omega) dX0_write_100 ?_
        refine lv_istore (lv' := [(4, .int (iI (fy i))), (3, .int (iI (fx i))), (2, .int (iI (ft i))), (0, .ref hb0), (1, .ref h0), (5, .int (iI i))]) hx hb dX0_write_101 hl (by decide) rfl (fun ls hl => ?_)
        refine lv_iinc (v := iI (i + 1)) (lv' := [(5, .int (iI (i + 1))), (4, .int (iI (fy i))), (3, .int (iI (fx i))), (2, .int (iI (ft i))), (0, .ref hb0), (1, .ref h0)]) hx hb dX0_write_103 hl (k := 5) rfl (iI_add _ _) (by decide) rfl (fun ls hl => ?_)
        refine lv_goto (tgt := 23) hx hb dX0_write_106 (by decide) ?_
        exact ih23 (i + 1) b3 n3 (ft i) (fx i) (fy i) _ _ _ ⟨(by constructor <;> omega), ((pvZ_s ft a1.1).symm), ((pvZ_s fx a1.1).symm), ((pvZ_s fy a1.1).symm), (pkR_s a1.1 a5 (a2 ▸ hw42) (a3 ▸ hw58) (a4 ▸ hw75)), (gB3), (by constructor <;> omega)⟩ (by omega) hP hD hS (lv_sub hl [4, 5, 3, 2, 1, 0] rfl)
  exact LP23 (Int.toNat (n - 0) + 1) 0 b0 n0 0 0 0 _ _ _ ⟨(by constructor <;> omega), (rfl), (rfl), (rfl), (hw10), (gB0), (by constructor <;> omega)⟩ (by omega) hP hD hS (lv_sub hl [4, 5, 3, 2, 1, 0] rfl)
