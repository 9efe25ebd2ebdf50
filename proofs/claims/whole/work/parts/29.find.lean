set_option maxHeartbeats 4000000 in
set_option maxRecDepth 100000 in
theorem k_X3_find (l : Launch) (D : va_G) (cI cJ cT : ClassId) (sz : Nat) (hs : Nat) (b1 : Nat) (b2 : Nat) (e1 : Nat) (e2 : Nat) (m1 : Int) (ff : Int) (fs : Int) (tf : Int) (ts : Int) (bF : Int → Int) (bS : Int → Int) (eF : Int → Int) (eS : Int → Int) (h0 : Nat) (q1 : Nat) (q2 : Nat) (q3 : Nat) (ft : Int → Int) (fx : Int → Int) (fy : Int → Int) (n : Int) (xl : Int) (xh : Int) (yl : Int) (yh : Int) (ht : okT ft) (hx1 : okC fx) (hy1 : okC fy) (hn : 1 ≤ n ∧ n ≤ 20) (hok : okSp (0, bF, bS, eF, eS)) (hxl : -33554432 ≤ xl ∧ xl ≤ 33554432) (hxh : -33554432 ≤ xh ∧ xh ≤ 33554432) (hyl : -33554432 ≤ yl ∧ yl ≤ 33554432) (hyh : -33554432 ≤ yh ∧ yh ≤ 33554432) : Met l yX3_find wsX3_find { frames := 2, cells := 0, slots := 0, locals := 48 } (zPc D (TY cI cJ cT) [.ref hs, .ref h0, .int (iI xl), .int (iI xh), .int (iI yl), .int (iI yh)] [(hs, .inr (3, [.ref b1, .ref b2, .ref e1, .ref e2, .int (iI m1), .long (lI ff), .long (lI fs), .long (lI tf), .long (lI ts)])), (b1, .inl (cJ, 20, .inr (.inl (zJ bF)))), (b2, .inl (cJ, 20, .inr (.inl (zJ bS)))), (e1, .inl (cJ, 20, .inr (.inl (zJ eF)))), (e2, .inl (cJ, 20, .inr (.inl (zJ eS)))), (h0, .inr (2, [.ref q1, .ref q2, .ref q3, .int (iI n)])), (q1, .inl (cI, 20, .inl (zA ft))), (q2, .inl (cI, 20, .inl (zA fx))), (q3, .inl (cI, 20, .inl (zA fy)))] sz) (zQv D (TY cI cJ cT) (va_A [(hs, .inr (3, [.ref b1, .ref b2, .ref e1, .ref e2, .int (iI m1), .long (lI ff), .long (lI fs), .long (lI tf), .long (lI ts)])), (b1, .inl (cJ, 20, .inr (.inl (zJ bF)))), (b2, .inl (cJ, 20, .inr (.inl (zJ bS)))), (e1, .inl (cJ, 20, .inr (.inl (zJ eF)))), (e2, .inl (cJ, 20, .inr (.inl (zJ eS)))), (h0, .inr (2, [.ref q1, .ref q2, .ref q3, .int (iI n)])), (q1, .inl (cI, 20, .inl (zA ft))), (q2, .inl (cI, 20, .inl (zA fx))), (q3, .inl (cI, 20, .inl (zA fy)))] sz) (fun (u : Int × (Int → Int) × (Int → Int) × (Int → Int) × (Int → Int) × Int × Int × Int × Int) => spX ft fx fy xl xh yl yh n n (0, bF, bS, eF, eS) = (u.1, u.2.1, u.2.2.1, u.2.2.2.1, u.2.2.2.2.1) ∧ okSp (u.1, u.2.1, u.2.2.1, u.2.2.2.1, u.2.2.2.2.1)) (fun (u : Int × (Int → Int) × (Int → Int) × (Int → Int) × (Int → Int) × Int × Int × Int × Int) => [(hs, .inr (3, [.ref b1, .ref b2, .ref e1, .ref e2, .int (iI u.1), .long (lI u.2.2.2.2.2.1), .long (lI u.2.2.2.2.2.2.1), .long (lI u.2.2.2.2.2.2.2.1), .long (lI u.2.2.2.2.2.2.2.2)])), (b1, .inl (cJ, 20, .inr (.inl (zJ u.2.1)))), (b2, .inl (cJ, 20, .inr (.inl (zJ u.2.2.1)))), (e1, .inl (cJ, 20, .inr (.inl (zJ u.2.2.2.1)))), (e2, .inl (cJ, 20, .inr (.inl (zJ u.2.2.2.2.1)))), (h0, .inr (2, [.ref q1, .ref q2, .ref q3, .int (iI n)])), (q1, .inl (cI, 20, .inl (zA ft))), (q2, .inl (cI, 20, .inl (zA fx))), (q3, .inl (cI, 20, .inl (zA fy)))])) 0 0 (va_A [(hs, .inr (3, [.ref b1, .ref b2, .ref e1, .ref e2, .int (iI m1), .long (lI ff), .long (lI fs), .long (lI tf), .long (lI ts)])), (b1, .inl (cJ, 20, .inr (.inl (zJ bF)))), (b2, .inl (cJ, 20, .inr (.inl (zJ bS)))), (e1, .inl (cJ, 20, .inr (.inl (zJ eF)))), (e2, .inl (cJ, 20, .inr (.inl (zJ eS)))), (h0, .inr (2, [.ref q1, .ref q2, .ref q3, .int (iI n)])), (q1, .inl (cI, 20, .inl (zA ft))), (q2, .inl (cI, 20, .inl (zA fx))), (q3, .inl (cI, 20, .inl (zA fy)))] sz) := by
  refine zMv (cc := cX3_find) (maxL := 9) (ret := none) (by decide) rfl (Nat.le_of_ble_eq_true rfl) ?_
  intro p e s m below meth c A ls hE
  obtain ⟨hx, hb, hr, hts, hown, hlocks, hml, hnm, hP, hK, hD, hA, hS, hl⟩ := hE
  have hown : s.vm.findClass RX3 = some m.cls := hown
  have hl : lv_has ls 9 [(0, .ref hs), (1, .ref h0), (2, .int (iI xl)), (3, .int (iI xh)), (4, .int (iI yl)), (5, .int (iI yh))] := hl
  have hin2 : ∀ w ∈ wsX20, w ∈ wsX3_find := by decide +kernel
  have hin3 : ∀ w ∈ wsX30, w ∈ wsX3_find := by decide +kernel
  obtain ⟨Q, hQ⟩ : ∃ Q, Q = MQ below (zQv D (TY cI cJ cT) A (fun (u : Int × (Int → Int) × (Int → Int) × (Int → Int) × (Int → Int) × Int × Int × Int × Int) => spX ft fx fy xl xh yl yh n n (0, bF, bS, eF, eS) = (u.1, u.2.1, u.2.2.1, u.2.2.2.1, u.2.2.2.2.1) ∧ okSp (u.1, u.2.1, u.2.2.1, u.2.2.2.1, u.2.2.2.2.1)) (fun (u : Int × (Int → Int) × (Int → Int) × (Int → Int) × (Int → Int) × Int × Int × Int × Int) => [(hs, .inr (3, [.ref b1, .ref b2, .ref e1, .ref e2, .int (iI u.1), .long (lI u.2.2.2.2.2.1), .long (lI u.2.2.2.2.2.2.1), .long (lI u.2.2.2.2.2.2.2.1), .long (lI u.2.2.2.2.2.2.2.2)])), (b1, .inl (cJ, 20, .inr (.inl (zJ u.2.1)))), (b2, .inl (cJ, 20, .inr (.inl (zJ u.2.2.1)))), (e1, .inl (cJ, 20, .inr (.inl (zJ u.2.2.2.1)))), (e2, .inl (cJ, 20, .inr (.inl (zJ u.2.2.2.2.1)))), (h0, .inr (2, [.ref q1, .ref q2, .ref q3, .int (iI n)])), (q1, .inl (cI, 20, .inl (zA ft))), (q2, .inl (cI, 20, .inl (zA fx))), (q3, .inl (cI, 20, .inl (zA fy)))])) ([.ref hs, .ref h0, .int (iI xl), .int (iI xh), .int (iI yl), .int (iI yh)] : List Value).toArray s 0 0 A := ⟨_, rfl⟩
  rw [← hQ]
  refine lv_aload_n hx hb dX3_find_0 rfl (lv_at hl 0 rfl) ?_
  refine lv_iconst (v := iI 0) hx hb dX3_find_1 rfl ?_
  refine va_put (D := D) (ci := 3) (v := .int (iI 0)) (ty := .int) (C := RX3) (T := TX3) (N := 9) hx hb hts hin3 tyX3 tyX3_ok nmX3 hown hK hP hD hS 0 rfl rfl 4 (by decide) (hts (.fieldLink RX3 24 "DriftLog$SpanRow" "size" "I") (by decide +kernel)) (fun _ h9 => h9) rfl (by decide +kernel) rfl rfl (Nat.le_of_ble_eq_true rfl) dX3_find_2 (fun H locs hP hD hS => ?_)
  have hP : va_P D vwCl [(hs, .inr (3, [.ref b1, .ref b2, .ref e1, .ref e2, .int (iI 0), .long (lI ff), .long (lI fs), .long (lI tf), .long (lI ts)])), (b1, .inl (cJ, 20, .inr (.inl (zJ bF)))), (b2, .inl (cJ, 20, .inr (.inl (zJ bS)))), (e1, .inl (cJ, 20, .inr (.inl (zJ eF)))), (e2, .inl (cJ, 20, .inr (.inl (zJ eS)))), (h0, .inr (2, [.ref q1, .ref q2, .ref q3, .int (iI n)])), (q1, .inl (cI, 20, .inl (zA ft))), (q2, .inl (cI, 20, .inl (zA fx))), (q3, .inl (cI, 20, .inl (zA fy)))] H := hP
  have hD : va_D A [(hs, .inr (3, [.ref b1, .ref b2, .ref e1, .ref e2, .int (iI 0), .long (lI ff), .long (lI fs), .long (lI tf), .long (lI ts)])), (b1, .inl (cJ, 20, .inr (.inl (zJ bF)))), (b2, .inl (cJ, 20, .inr (.inl (zJ bS)))), (e1, .inl (cJ, 20, .inr (.inl (zJ eF)))), (e2, .inl (cJ, 20, .inr (.inl (zJ eS)))), (h0, .inr (2, [.ref q1, .ref q2, .ref q3, .int (iI n)])), (q1, .inl (cI, 20, .inl (zA ft))), (q2, .inl (cI, 20, .inl (zA fx))), (q3, .inl (cI, 20, .inl (zA fy)))] := hD
  refine lv_aload_n hx hb dX3_find_5 rfl (lv_at hl 1 rfl) ?_
  refine va_get (D := D) (ci := 2) (v := .int (iI n)) (C := RX2) (T := TX2) (N := 4) hx hb hts hin2 hown hK hP 5 rfl rfl 3 (by decide) (hts (.fieldLink RX3 28 "DriftLog$Row" "size" "I") (by decide +kernel)) (fun _ h9 => h9) rfl dX3_find_6 ?_
  refine lv_iconst (v := iI 1) hx hb dX3_find_9 rfl ?_
  refine wz_icmp_ne (tgt := 17) hx hb dX3_find_10 (by decide) ⟨by omega, by omega⟩ (by decide) (fun c10 => ?_) (fun c10 => ?_)
  · skip
    refine lv_iconst (v := iI 1) hx hb dX3_find_17 rfl ?_
    refine lv_istore (lv' := [(6, .int (iI 1)), (0, .ref hs), (1, .ref h0), (2, .int (iI xl)), (3, .int (iI xh)), (4, .int (iI yl)), (5, .int (iI yh))]) hx hb dX3_find_18 hl (by decide) rfl (fun ls hl => ?_)
    refine lv_iload hx hb dX3_find_20 (lv_at hl 0 rfl) ?_
    refine lv_istore (lv' := [(7, .int (iI 1)), (6, .int (iI 1)), (0, .ref hs), (1, .ref h0), (2, .int (iI xl)), (3, .int (iI xh)), (4, .int (iI yl)), (5, .int (iI yh))]) hx hb dX3_find_22 hl (by decide) rfl (fun ls hl => ?_)
    have LP24 : ∀ (N24 : Nat) (b : Int) (m2 : Int) (c1 : Int → Int) (c2 : Int → Int) (d1 : Int → Int) (d2 : Int → Int) (f0 : Int) (s0 : Int) (f1 : Int) (s1 : Int) (H : Heap) (locs : List Loc) (ls : Array Slot), ((0 ≤ b ∧ b ≤ n) ∧ (n ≠ 1 → 1 ≤ b) ∧ spX ft fx fy xl xh yl yh n b (0, bF, bS, eF, eS) = (m2, c1, c2, d1, d2) ∧ okSp (m2, c1, c2, d1, d2) ∧ (m2 ≤ b ∧ (n ≠ 1 → m2 ≤ b - 1))) → (n - b) < (N24 : Int) → va_P D vwCl [(hs, .inr (3, [.ref b1, .ref b2, .ref e1, .ref e2, .int (iI m2), .long (lI f0), .long (lI s0), .long (lI f1), .long (lI s1)])), (b1, .inl (cJ, 20, .inr (.inl (zJ c1)))), (b2, .inl (cJ, 20, .inr (.inl (zJ c2)))), (e1, .inl (cJ, 20, .inr (.inl (zJ d1)))), (e2, .inl (cJ, 20, .inr (.inl (zJ d2)))), (h0, .inr (2, [.ref q1, .ref q2, .ref q3, .int (iI n)])), (q1, .inl (cI, 20, .inl (zA ft))), (q2, .inl (cI, 20, .inl (zA fx))), (q3, .inl (cI, 20, .inl (zA fy)))] H → va_D A [(hs, .inr (3, [.ref b1, .ref b2, .ref e1, .ref e2, .int (iI m2), .long (lI f0), .long (lI s0), .long (lI f1), .long (lI s1)])), (b1, .inl (cJ, 20, .inr (.inl (zJ c1)))), (b2, .inl (cJ, 20, .inr (.inl (zJ c2)))), (e1, .inl (cJ, 20, .inr (.inl (zJ d1)))), (e2, .inl (cJ, 20, .inr (.inl (zJ d2)))), (h0, .inr (2, [.ref q1, .ref q2, .ref q3, .int (iI n)])), (q1, .inl (cI, 20, .inl (zA ft))), (q2, .inl (cI, 20, .inl (zA fx))), (q3, .inl (cI, 20, .inl (zA fy)))] → va_S A s.heap H locs → lv_has ls 9 [(0, .ref hs), (1, .ref h0), (2, .int (iI xl)), (3, .int (iI xh)), (4, .int (iI yl)), (5, .int (iI yh)), (7, .int (iI b))] → W p l e { frames := 2, cells := 0, slots := 0, locals := 48 } s m ([.ref hs, .ref h0, .int (iI xl), .int (iI xh), .int (iI yl), .int (iI yh)] : List Value).toArray below meth c H locs 0 0 Q (F0 m 24 ls []) := by
      intro N24
      induction N24 with
      | zero =>
        intro b m2 c1 c2 d1 d2 f0 s0 f1 s1 H locs ls hI hm
        obtain ⟨a1, a2, a3, a4, a5⟩ := hI
        exfalso; omega
      | succ N24 ih24 =>
        intro b m2 c1 c2 d1 d2 f0 s0 f1 s1 H locs ls hI hm24 hP hD hS hl
        obtain ⟨a1, a2, a3, a4, a5⟩ := hI
        refine lv_iload hx hb dX3_find_24 (lv_at hl 6 rfl) ?_
        refine lv_aload_n hx hb dX3_find_26 rfl (lv_at hl 1 rfl) ?_
        refine va_get (D := D) (ci := 2) (v := .int (iI n)) (C := RX2) (T := TX2) (N := 4) hx hb hts hin2 hown hK hP 5 rfl rfl 3 (by decide) (hts (.fieldLink RX3 28 "DriftLog$Row" "size" "I") (by decide +kernel)) (fun _ h9 => h9) rfl dX3_find_27 ?_
        refine wz_icmp_ge (tgt := 142) hx hb dX3_find_30 (by decide) ⟨by omega, by omega⟩ ⟨by omega, by omega⟩ (fun c30 => ?_) (fun c30 => ?_)
        · skip
          rw [hQ]
          exact wz_retv (tys := TY cI cJ cT) (m2, c1, c2, d1, d2, f0, s0, f1, s1) hx hb hr hlocks hK hP hD hS (by (try dsimp only); exact (by have q : b = n := (by omega); rw [q] at a3; exact ⟨a3, a4⟩)) dX3_find_142
        · skip
          refine lv_iload hx hb dX3_find_33 (lv_at hl 6 rfl) ?_
          refine wz_if_le (tgt := 45) hx hb dX3_find_35 (by decide) ⟨by omega, by omega⟩ (fun c35 => ?_) (fun c35 => ?_)
          · skip
            refine lv_iconst (v := iI 0) hx hb dX3_find_45 rfl ?_
            refine lv_istore (lv' := [(8, .int (iI 0)), (0, .ref hs), (1, .ref h0), (2, .int (iI xl)), (3, .int (iI xh)), (4, .int (iI yl)), (5, .int (iI yh)), (7, .int (iI b))]) hx hb dX3_find_46 hl (by decide) rfl (fun ls hl => ?_)
            refine lv_aload_n hx hb dX3_find_48 rfl (lv_at hl 1 rfl) ?_
            refine wz_callv (wr := [(b1, .inl (cJ, 20, .inr (.inl (zJ c1)))), (b2, .inl (cJ, 20, .inr (.inl (zJ c2)))), (e1, .inl (cJ, 20, .inr (.inl (zJ d1)))), (e2, .inl (cJ, 20, .inr (.inl (zJ d2)))), (h0, .inr (2, [.ref q1, .ref q2, .ref q3, .int (iI n)])), (q1, .inl (cI, 20, .inl (zA ft))), (q2, .inl (cI, 20, .inl (zA fx))), (q3, .inl (cI, 20, .inl (zA fy)))]) (va_runV (As := []) (rest := []) ⟨hx, hb, hml, hown, hts⟩ (k_X3_takeWholeStretch l D cI cJ cT H.size hs b1 b2 e1 e2 m2 f0 s0 f1 s1 ) (cwV 0 hts gX3_find_X3_takeWholeStretch rfl rfl rfl (by decide +kernel) ⟨Nat.le_of_ble_eq_true rfl, Nat.le_of_ble_eq_true rfl⟩) (wz_preV hK hP hD [0] (by decide) rfl rfl 3 0 rfl rfl) rfl rfl hl.1 rfl (lv_room (Nat.le_of_ble_eq_true rfl)) dX3_find_49 ⟨Nat.le_of_ble_eq_true rfl, Nat.le_of_ble_eq_true rfl⟩) hP hD hS hA [0] [1, 2, 3, 4, 5, 6, 7, 8] rfl rfl rfl (by decide) (fun  u H locs hw49 hP hD hS => ?_)
            have hP : va_P D vwCl [(hs, .inr (3, [.ref b1, .ref b2, .ref e1, .ref e2, .int (iI m2), .long (lI 0), .long (lI 1), .long (lI 1), .long (lI 1)])), (b1, .inl (cJ, 20, .inr (.inl (zJ c1)))), (b2, .inl (cJ, 20, .inr (.inl (zJ c2)))), (e1, .inl (cJ, 20, .inr (.inl (zJ d1)))), (e2, .inl (cJ, 20, .inr (.inl (zJ d2)))), (h0, .inr (2, [.ref q1, .ref q2, .ref q3, .int (iI n)])), (q1, .inl (cI, 20, .inl (zA ft))), (q2, .inl (cI, 20, .inl (zA fx))), (q3, .inl (cI, 20, .inl (zA fy)))] H := hP.sub [8, 0, 1, 2, 3, 4, 5, 6, 7] rfl
            have hD : va_D A [(hs, .inr (3, [.ref b1, .ref b2, .ref e1, .ref e2, .int (iI m2), .long (lI 0), .long (lI 1), .long (lI 1), .long (lI 1)])), (b1, .inl (cJ, 20, .inr (.inl (zJ c1)))), (b2, .inl (cJ, 20, .inr (.inl (zJ c2)))), (e1, .inl (cJ, 20, .inr (.inl (zJ d1)))), (e2, .inl (cJ, 20, .inr (.inl (zJ d2)))), (h0, .inr (2, [.ref q1, .ref q2, .ref q3, .int (iI n)])), (q1, .inl (cI, 20, .inl (zA ft))), (q2, .inl (cI, 20, .inl (zA fx))), (q3, .inl (cI, 20, .inl (zA fy)))] := hD.sub [8, 0, 1, 2, 3, 4, 5, 6, 7] (by decide) rfl
            refine lv_aload_n hx hb dX3_find_52 rfl (lv_at hl 1 rfl) ?_
            refine lv_aload_n hx hb dX3_find_53 rfl (lv_at hl 2 rfl) ?_
            refine va_get (D := D) (ci := 2) (v := .ref q2) (C := RX2) (T := TX2) (N := 4) hx hb hts hin2 hown hK hP 5 rfl rfl 1 (by decide) (hts (.fieldLink RX3 34 "DriftLog$Row" "xs" "[I") (by decide +kernel)) (fun _ h9 => h9) rfl dX3_find_54 ?_
            refine lv_iload hx hb dX3_find_57 (lv_at hl 0 rfl) ?_
            refine wz_iald (tys := TY cI cJ cT) hx hb hK hP 7 0 rfl rfl (by decide) (by constructor <;> omega) dX3_find_59 ?_
            refine lv_aload_n hx hb dX3_find_60 rfl (lv_at hl 2 rfl) ?_
            refine va_get (D := D) (ci := 2) (v := .ref q2) (C := RX2) (T := TX2) (N := 4) hx hb hts hin2 hown hK hP 5 rfl rfl 1 (by decide) (hts (.fieldLink RX3 34 "DriftLog$Row" "xs" "[I") (by decide +kernel)) (fun _ h9 => h9) rfl dX3_find_61 ?_
            refine lv_iload hx hb dX3_find_64 (lv_at hl 7 rfl) ?_
            refine wz_iald (tys := TY cI cJ cT) hx hb hK hP 7 0 rfl rfl (by decide) (by constructor <;> omega) dX3_find_66 ?_
            refine lv_iload_n hx hb dX3_find_67 rfl (lv_at hl 3 rfl) ?_
            refine lv_iload_n hx hb dX3_find_68 rfl (lv_at hl 4 rfl) ?_
            refine wz_callv (wr := [(b1, .inl (cJ, 20, .inr (.inl (zJ c1)))), (b2, .inl (cJ, 20, .inr (.inl (zJ c2)))), (e1, .inl (cJ, 20, .inr (.inl (zJ d1)))), (e2, .inl (cJ, 20, .inr (.inl (zJ d2)))), (h0, .inr (2, [.ref q1, .ref q2, .ref q3, .int (iI n)])), (q1, .inl (cI, 20, .inl (zA ft))), (q2, .inl (cI, 20, .inl (zA fx))), (q3, .inl (cI, 20, .inl (zA fy)))]) (va_runV (As := [.int (iI (fx 0)), .int (iI (fx b)), .int (iI xl), .int (iI xh)]) (rest := []) ⟨hx, hb, hml, hown, hts⟩ (k_X3_narrow l D cI cJ cT H.size hs b1 b2 e1 e2 m2 0 1 1 1 (fx 0) (fx b) xl xh (⟨⟨by omega, by omega⟩, by omega, by omega⟩) (⟨⟨by omega, by omega⟩, by omega, by omega⟩) (hx1 _) (hx1 _) (hxl) (hxh)) (cwV 4 hts gX3_find_X3_narrow rfl rfl rfl (by decide +kernel) ⟨Nat.le_of_ble_eq_true rfl, Nat.le_of_ble_eq_true rfl⟩) (wz_preV hK hP hD [0] (by decide) rfl rfl 3 0 rfl rfl) rfl rfl hl.1 rfl (lv_room (Nat.le_of_ble_eq_true rfl)) dX3_find_69 ⟨Nat.le_of_ble_eq_true rfl, Nat.le_of_ble_eq_true rfl⟩) hP hD hS hA [0] [1, 2, 3, 4, 5, 6, 7, 8] rfl rfl rfl (by decide) (fun  u H locs hw69 hP hD hS => ?_)
            obtain ⟨fa, sa, fb, sb⟩ := u
            try dsimp only at hw69
            have hP : va_P D vwCl [(hs, .inr (3, [.ref b1, .ref b2, .ref e1, .ref e2, .int (iI m2), .long (lI fa), .long (lI sa), .long (lI fb), .long (lI sb)])), (b1, .inl (cJ, 20, .inr (.inl (zJ c1)))), (b2, .inl (cJ, 20, .inr (.inl (zJ c2)))), (e1, .inl (cJ, 20, .inr (.inl (zJ d1)))), (e2, .inl (cJ, 20, .inr (.inl (zJ d2)))), (h0, .inr (2, [.ref q1, .ref q2, .ref q3, .int (iI n)])), (q1, .inl (cI, 20, .inl (zA ft))), (q2, .inl (cI, 20, .inl (zA fx))), (q3, .inl (cI, 20, .inl (zA fy)))] H := hP.sub [8, 0, 1, 2, 3, 4, 5, 6, 7] rfl
            have hD : va_D A [(hs, .inr (3, [.ref b1, .ref b2, .ref e1, .ref e2, .int (iI m2), .long (lI fa), .long (lI sa), .long (lI fb), .long (lI sb)])), (b1, .inl (cJ, 20, .inr (.inl (zJ c1)))), (b2, .inl (cJ, 20, .inr (.inl (zJ c2)))), (e1, .inl (cJ, 20, .inr (.inl (zJ d1)))), (e2, .inl (cJ, 20, .inr (.inl (zJ d2)))), (h0, .inr (2, [.ref q1, .ref q2, .ref q3, .int (iI n)])), (q1, .inl (cI, 20, .inl (zA ft))), (q2, .inl (cI, 20, .inl (zA fx))), (q3, .inl (cI, 20, .inl (zA fy)))] := hD.sub [8, 0, 1, 2, 3, 4, 5, 6, 7] (by decide) rfl
            refine lv_aload_n hx hb dX3_find_72 rfl (lv_at hl 1 rfl) ?_
            refine lv_aload_n hx hb dX3_find_73 rfl (lv_at hl 2 rfl) ?_
            refine va_get (D := D) (ci := 2) (v := .ref q3) (C := RX2) (T := TX2) (N := 4) hx hb hts hin2 hown hK hP 5 rfl rfl 2 (by decide) (hts (.fieldLink RX3 42 "DriftLog$Row" "ys" "[I") (by decide +kernel)) (fun _ h9 => h9) rfl dX3_find_74 ?_
            refine lv_iload hx hb dX3_find_77 (lv_at hl 0 rfl) ?_
            refine wz_iald (tys := TY cI cJ cT) hx hb hK hP 8 0 rfl rfl (by decide) (by constructor <;> omega) dX3_find_79 ?_
            refine lv_aload_n hx hb dX3_find_80 rfl (lv_at hl 2 rfl) ?_
            refine va_get (D := D) (ci := 2) (v := .ref q3) (C := RX2) (T := TX2) (N := 4) hx hb hts hin2 hown hK hP 5 rfl rfl 2 (by decide) (hts (.fieldLink RX3 42 "DriftLog$Row" "ys" "[I") (by decide +kernel)) (fun _ h9 => h9) rfl dX3_find_81 ?_
            refine lv_iload hx hb dX3_find_84 (lv_at hl 7 rfl) ?_
            refine wz_iald (tys := TY cI cJ cT) hx hb hK hP 8 0 rfl rfl (by decide) (by constructor <;> omega) dX3_find_86 ?_
            refine lv_iload hx hb dX3_find_87 (lv_at hl 5 rfl) ?_
            refine lv_iload hx hb dX3_find_89 (lv_at hl 6 rfl) ?_
            refine wz_callv (wr := [(b1, .inl (cJ, 20, .inr (.inl (zJ c1)))), (b2, .inl (cJ, 20, .inr (.inl (zJ c2)))), (e1, .inl (cJ, 20, .inr (.inl (zJ d1)))), (e2, .inl (cJ, 20, .inr (.inl (zJ d2)))), (h0, .inr (2, [.ref q1, .ref q2, .ref q3, .int (iI n)])), (q1, .inl (cI, 20, .inl (zA ft))), (q2, .inl (cI, 20, .inl (zA fx))), (q3, .inl (cI, 20, .inl (zA fy)))]) (va_runV (As := [.int (iI (fy 0)), .int (iI (fy b)), .int (iI yl), .int (iI yh)]) (rest := []) ⟨hx, hb, hml, hown, hts⟩ (k_X3_narrow l D cI cJ cT H.size hs b1 b2 e1 e2 m2 fa sa fb sb (fy 0) (fy b) yl yh (hw69.2.1) (hw69.2.2) (hy1 _) (hy1 _) (hyl) (hyh)) (cwV 4 hts gX3_find_X3_narrow rfl rfl rfl (by decide +kernel) ⟨Nat.le_of_ble_eq_true rfl, Nat.le_of_ble_eq_true rfl⟩) (wz_preV hK hP hD [0] (by decide) rfl rfl 3 0 rfl rfl) rfl rfl hl.1 rfl (lv_room (Nat.le_of_ble_eq_true rfl)) dX3_find_91 ⟨Nat.le_of_ble_eq_true rfl, Nat.le_of_ble_eq_true rfl⟩) hP hD hS hA [0] [1, 2, 3, 4, 5, 6, 7, 8] rfl rfl rfl (by decide) (fun  u H locs hw91 hP hD hS => ?_)
            obtain ⟨fc, sc, fd, sd⟩ := u
            try dsimp only at hw91
            have hP : va_P D vwCl [(hs, .inr (3, [.ref b1, .ref b2, .ref e1, .ref e2, .int (iI m2), .long (lI fc), .long (lI sc), .long (lI fd), .long (lI sd)])), (b1, .inl (cJ, 20, .inr (.inl (zJ c1)))), (b2, .inl (cJ, 20, .inr (.inl (zJ c2)))), (e1, .inl (cJ, 20, .inr (.inl (zJ d1)))), (e2, .inl (cJ, 20, .inr (.inl (zJ d2)))), (h0, .inr (2, [.ref q1, .ref q2, .ref q3, .int (iI n)])), (q1, .inl (cI, 20, .inl (zA ft))), (q2, .inl (cI, 20, .inl (zA fx))), (q3, .inl (cI, 20, .inl (zA fy)))] H := hP.sub [8, 0, 1, 2, 3, 4, 5, 6, 7] rfl
            have hD : va_D A [(hs, .inr (3, [.ref b1, .ref b2, .ref e1, .ref e2, .int (iI m2), .long (lI fc), .long (lI sc), .long (lI fd), .long (lI sd)])), (b1, .inl (cJ, 20, .inr (.inl (zJ c1)))), (b2, .inl (cJ, 20, .inr (.inl (zJ c2)))), (e1, .inl (cJ, 20, .inr (.inl (zJ d1)))), (e2, .inl (cJ, 20, .inr (.inl (zJ d2)))), (h0, .inr (2, [.ref q1, .ref q2, .ref q3, .int (iI n)])), (q1, .inl (cI, 20, .inl (zA ft))), (q2, .inl (cI, 20, .inl (zA fx))), (q3, .inl (cI, 20, .inl (zA fy)))] := hD.sub [8, 0, 1, 2, 3, 4, 5, 6, 7] (by decide) rfl
            have hq : nwZ (fy 0) (fy b) yl yh (nwZ (fx 0) (fx b) xl xh (0, 1, 1, 1)) = (fc, sc, fd, sd) := by rw [hw69.1]; exact hw91.1
            have r1 := mul27 hw91.2.1.1 (frR_27 hw91.2.2)
            have r2 := mul27 hw91.2.2.1 (frR_27 hw91.2.1)
            refine lv_aload_n hx hb dX3_find_94 rfl (lv_at hl 1 rfl) ?_
            refine va_get (D := D) (ci := 3) (v := .long (lI fc)) (C := RX3) (T := TX3) (N := 9) hx hb hts hin3 hown hK hP 0 rfl rfl 5 (by decide) (hts (.fieldLink RX3 45 "DriftLog$SpanRow" "fromFirst" "J") (by decide +kernel)) (fun _ h9 => h9) rfl dX3_find_95 ?_
            refine lv_aload_n hx hb dX3_find_98 rfl (lv_at hl 1 rfl) ?_
            refine va_get (D := D) (ci := 3) (v := .long (lI sd)) (C := RX3) (T := TX3) (N := 9) hx hb hts hin3 hown hK hP 0 rfl rfl 8 (by decide) (hts (.fieldLink RX3 49 "DriftLog$SpanRow" "toSecond" "J") (by decide +kernel)) (fun _ h9 => h9) rfl dX3_find_99 ?_
            refine wz_lmul hx hb dX3_find_102 ?_
            refine lv_aload_n hx hb dX3_find_103 rfl (lv_at hl 1 rfl) ?_
            refine va_get (D := D) (ci := 3) (v := .long (lI fd)) (C := RX3) (T := TX3) (N := 9) hx hb hts hin3 hown hK hP 0 rfl rfl 7 (by decide) (hts (.fieldLink RX3 52 "DriftLog$SpanRow" "toFirst" "J") (by decide +kernel)) (fun _ h9 => h9) rfl dX3_find_104 ?_
            refine lv_aload_n hx hb dX3_find_107 rfl (lv_at hl 1 rfl) ?_
            refine va_get (D := D) (ci := 3) (v := .long (lI sc)) (C := RX3) (T := TX3) (N := 9) hx hb hts hin3 hown hK hP 0 rfl rfl 6 (by decide) (hts (.fieldLink RX3 55 "DriftLog$SpanRow" "fromSecond" "J") (by decide +kernel)) (fun _ h9 => h9) rfl dX3_find_108 ?_
            refine wz_lmul hx hb dX3_find_111 ?_
            refine W.lcmp hx hb dX3_find_112 ?_
            refine wz_lif_gt (tgt := 136) hx hb dX3_find_113 (by decide) (by constructor <;> omega) (by constructor <;> omega) (fun c113 => ?_) (fun c113 => ?_)
            · skip
              refine lv_iinc (v := iI (b + 1)) (lv' := [(7, .int (iI (b + 1))), (8, .int (iI 0)), (0, .ref hs), (1, .ref h0), (2, .int (iI xl)), (3, .int (iI xh)), (4, .int (iI yl)), (5, .int (iI yh))]) hx hb dX3_find_136 hl (k := 7) rfl (iI_add _ _) (by decide) rfl (fun ls hl => ?_)
              refine lv_goto (tgt := 24) hx hb dX3_find_139 (by decide) ?_
              exact ih24 (b + 1) m2 c1 c2 d1 d2 fc sc fd sd _ _ _ ⟨(by omega), (by omega), (by rw [spX_z (by omega) (by omega) a3]; rw [stpZ_n hq (by dsimp only; omega)]), (a4), (by omega)⟩ (by omega) hP hD hS (lv_sub hl [2, 3, 4, 5, 6, 7, 0] rfl)
            · skip
              refine lv_aload_n hx hb dX3_find_116 rfl (lv_at hl 1 rfl) ?_
              refine lv_aload_n hx hb dX3_find_117 rfl (lv_at hl 2 rfl) ?_
              refine va_get (D := D) (ci := 2) (v := .ref q1) (C := RX2) (T := TX2) (N := 4) hx hb hts hin2 hown hK hP 5 rfl rfl 0 (by decide) (hts (.fieldLink RX3 58 "DriftLog$Row" "times" "[I") (by decide +kernel)) (fun _ h9 => h9) rfl dX3_find_118 ?_
              refine lv_iload hx hb dX3_find_121 (lv_at hl 0 rfl) ?_
              refine wz_iald (tys := TY cI cJ cT) hx hb hK hP 6 0 rfl rfl (by decide) (by constructor <;> omega) dX3_find_123 ?_
              refine wz_i2l hx hb dX3_find_124 (by have := ht (b - 1); have := ht 0; constructor <;> omega) ?_
              refine lv_aload_n hx hb dX3_find_125 rfl (lv_at hl 2 rfl) ?_
              refine va_get (D := D) (ci := 2) (v := .ref q1) (C := RX2) (T := TX2) (N := 4) hx hb hts hin2 hown hK hP 5 rfl rfl 0 (by decide) (hts (.fieldLink RX3 58 "DriftLog$Row" "times" "[I") (by decide +kernel)) (fun _ h9 => h9) rfl dX3_find_126 ?_
              refine lv_iload hx hb dX3_find_129 (lv_at hl 7 rfl) ?_
              refine wz_iald (tys := TY cI cJ cT) hx hb hK hP 6 0 rfl rfl (by decide) (by constructor <;> omega) dX3_find_131 ?_
              refine wz_i2l hx hb dX3_find_132 (by have := ht b; constructor <;> omega) ?_
              refine wz_callv (wr := [(h0, .inr (2, [.ref q1, .ref q2, .ref q3, .int (iI n)])), (q1, .inl (cI, 20, .inl (zA ft))), (q2, .inl (cI, 20, .inl (zA fx))), (q3, .inl (cI, 20, .inl (zA fy)))]) (va_runV (As := [.long (lI (ft 0)), .long (lI (ft b))]) (rest := []) ⟨hx, hb, hml, hown, hts⟩ (k_X3_note l D cI cJ cT H.size hs b1 b2 e1 e2 m2 fc sc fd sd c1 c2 d1 d2 (ft 0) (ft b) (by have := a4.1; dsimp only at this; omega) (a4.2.2.1.1) (a4.2.2.1.2) (ht _)) (cwV 2 hts gX3_find_X3_note rfl rfl rfl (by decide +kernel) ⟨Nat.le_of_ble_eq_true rfl, Nat.le_of_ble_eq_true rfl⟩) (wz_preV hK hP hD [0, 1, 2, 3, 4] (by decide) rfl rfl 3 0 rfl rfl) rfl rfl hl.1 rfl (lv_room (Nat.le_of_ble_eq_true rfl)) dX3_find_133 ⟨Nat.le_of_ble_eq_true rfl, Nat.le_of_ble_eq_true rfl⟩) hP hD hS hA [0, 1, 2, 3, 4] [5, 6, 7, 8] rfl rfl rfl (by decide) (fun  u H locs hw133 hP hD hS => ?_)
              obtain ⟨m3, k1, k2, k3, k4⟩ := u
              try dsimp only at hw133
              have hP : va_P D vwCl [(hs, .inr (3, [.ref b1, .ref b2, .ref e1, .ref e2, .int (iI m3), .long (lI fc), .long (lI sc), .long (lI fd), .long (lI sd)])), (b1, .inl (cJ, 20, .inr (.inl (zJ k1)))), (b2, .inl (cJ, 20, .inr (.inl (zJ k2)))), (e1, .inl (cJ, 20, .inr (.inl (zJ k3)))), (e2, .inl (cJ, 20, .inr (.inl (zJ k4)))), (h0, .inr (2, [.ref q1, .ref q2, .ref q3, .int (iI n)])), (q1, .inl (cI, 20, .inl (zA ft))), (q2, .inl (cI, 20, .inl (zA fx))), (q3, .inl (cI, 20, .inl (zA fy)))] H := hP.sub [4, 5, 6, 7, 8, 0, 1, 2, 3] rfl
              have hD : va_D A [(hs, .inr (3, [.ref b1, .ref b2, .ref e1, .ref e2, .int (iI m3), .long (lI fc), .long (lI sc), .long (lI fd), .long (lI sd)])), (b1, .inl (cJ, 20, .inr (.inl (zJ k1)))), (b2, .inl (cJ, 20, .inr (.inl (zJ k2)))), (e1, .inl (cJ, 20, .inr (.inl (zJ k3)))), (e2, .inl (cJ, 20, .inr (.inl (zJ k4)))), (h0, .inr (2, [.ref q1, .ref q2, .ref q3, .int (iI n)])), (q1, .inl (cI, 20, .inl (zA ft))), (q2, .inl (cI, 20, .inl (zA fx))), (q3, .inl (cI, 20, .inl (zA fy)))] := hD.sub [4, 5, 6, 7, 8, 0, 1, 2, 3] (by decide) rfl
              have nok := noteZ_ok (ta := (ft 0)) (tb := (ft b)) (q := (fc, sc, fd, sd)) (s := (m2, c1, c2, d1, d2)) (ht _) (ht _) hw91.2.1 hw91.2.2 a4 (by have := a4.1; dsimp only at this ⊢; omega)
              rw [hw133] at nok
              refine lv_iinc (v := iI (b + 1)) (lv' := [(7, .int (iI (b + 1))), (8, .int (iI 0)), (0, .ref hs), (1, .ref h0), (2, .int (iI xl)), (3, .int (iI xh)), (4, .int (iI yl)), (5, .int (iI yh))]) hx hb dX3_find_136 hl (k := 7) rfl (iI_add _ _) (by decide) rfl (fun ls hl => ?_)
              refine lv_goto (tgt := 24) hx hb dX3_find_139 (by decide) ?_
              exact ih24 (b + 1) m3 k1 k2 k3 k4 fc sc fd sd _ _ _ ⟨(by omega), (by omega), (by rw [spX_z (by omega) (by omega) a3]; rw [stpZ_y hq (by omega), hw133]), (nok.1), (by have := nok.2; dsimp only at this; omega)⟩ (by omega) hP hD hS (lv_sub hl [2, 3, 4, 5, 6, 7, 0] rfl)
          · skip
            refine lv_iload hx hb dX3_find_38 (lv_at hl 6 rfl) ?_
            refine lv_iconst (v := iI 1) hx hb dX3_find_40 rfl ?_
            refine wz_isub hx hb dX3_find_41 ?_
            refine lv_goto (tgt := 46) hx hb dX3_find_42 (by decide) ?_
            refine lv_istore (lv' := [(8, .int (iI (b - 1))), (0, .ref hs), (1, .ref h0), (2, .int (iI xl)), (3, .int (iI xh)), (4, .int (iI yl)), (5, .int (iI yh)), (7, .int (iI b))]) hx hb dX3_find_46 hl (by decide) rfl (fun ls hl => ?_)
            refine lv_aload_n hx hb dX3_find_48 rfl (lv_at hl 1 rfl) ?_
            refine wz_callv (wr := [(b1, .inl (cJ, 20, .inr (.inl (zJ c1)))), (b2, .inl (cJ, 20, .inr (.inl (zJ c2)))), (e1, .inl (cJ, 20, .inr (.inl (zJ d1)))), (e2, .inl (cJ, 20, .inr (.inl (zJ d2)))), (h0, .inr (2, [.ref q1, .ref q2, .ref q3, .int (iI n)])), (q1, .inl (cI, 20, .inl (zA ft))), (q2, .inl (cI, 20, .inl (zA fx))), (q3, .inl (cI, 20, .inl (zA fy)))]) (va_runV (As := []) (rest := []) ⟨hx, hb, hml, hown, hts⟩ (k_X3_takeWholeStretch l D cI cJ cT H.size hs b1 b2 e1 e2 m2 f0 s0 f1 s1 ) (cwV 0 hts gX3_find_X3_takeWholeStretch rfl rfl rfl (by decide +kernel) ⟨Nat.le_of_ble_eq_true rfl, Nat.le_of_ble_eq_true rfl⟩) (wz_preV hK hP hD [0] (by decide) rfl rfl 3 0 rfl rfl) rfl rfl hl.1 rfl (lv_room (Nat.le_of_ble_eq_true rfl)) dX3_find_49 ⟨Nat.le_of_ble_eq_true rfl, Nat.le_of_ble_eq_true rfl⟩) hP hD hS hA [0] [1, 2, 3, 4, 5, 6, 7, 8] rfl rfl rfl (by decide) (fun  u H locs hw49 hP hD hS => ?_)
            have hP : va_P D vwCl [(hs, .inr (3, [.ref b1, .ref b2, .ref e1, .ref e2, .int (iI m2), .long (lI 0), .long (lI 1), .long (lI 1), .long (lI 1)])), (b1, .inl (cJ, 20, .inr (.inl (zJ c1)))), (b2, .inl (cJ, 20, .inr (.inl (zJ c2)))), (e1, .inl (cJ, 20, .inr (.inl (zJ d1)))), (e2, .inl (cJ, 20, .inr (.inl (zJ d2)))), (h0, .inr (2, [.ref q1, .ref q2, .ref q3, .int (iI n)])), (q1, .inl (cI, 20, .inl (zA ft))), (q2, .inl (cI, 20, .inl (zA fx))), (q3, .inl (cI, 20, .inl (zA fy)))] H := hP.sub [8, 0, 1, 2, 3, 4, 5, 6, 7] rfl
            have hD : va_D A [(hs, .inr (3, [.ref b1, .ref b2, .ref e1, .ref e2, .int (iI m2), .long (lI 0), .long (lI 1), .long (lI 1), .long (lI 1)])), (b1, .inl (cJ, 20, .inr (.inl (zJ c1)))), (b2, .inl (cJ, 20, .inr (.inl (zJ c2)))), (e1, .inl (cJ, 20, .inr (.inl (zJ d1)))), (e2, .inl (cJ, 20, .inr (.inl (zJ d2)))), (h0, .inr (2, [.ref q1, .ref q2, .ref q3, .int (iI n)])), (q1, .inl (cI, 20, .inl (zA ft))), (q2, .inl (cI, 20, .inl (zA fx))), (q3, .inl (cI, 20, .inl (zA fy)))] := hD.sub [8, 0, 1, 2, 3, 4, 5, 6, 7] (by decide) rfl
            refine lv_aload_n hx hb dX3_find_52 rfl (lv_at hl 1 rfl) ?_
            refine lv_aload_n hx hb dX3_find_53 rfl (lv_at hl 2 rfl) ?_
            refine va_get (D := D) (ci := 2) (v := .ref q2) (C := RX2) (T := TX2) (N := 4) hx hb hts hin2 hown hK hP 5 rfl rfl 1 (by decide) (hts (.fieldLink RX3 34 "DriftLog$Row" "xs" "[I") (by decide +kernel)) (fun _ h9 => h9) rfl dX3_find_54 ?_
            refine lv_iload hx hb dX3_find_57 (lv_at hl 0 rfl) ?_
            refine wz_iald (tys := TY cI cJ cT) hx hb hK hP 7 0 rfl rfl (by decide) (by constructor <;> omega) dX3_find_59 ?_
            refine lv_aload_n hx hb dX3_find_60 rfl (lv_at hl 2 rfl) ?_
            refine va_get (D := D) (ci := 2) (v := .ref q2) (C := RX2) (T := TX2) (N := 4) hx hb hts hin2 hown hK hP 5 rfl rfl 1 (by decide) (hts (.fieldLink RX3 34 "DriftLog$Row" "xs" "[I") (by decide +kernel)) (fun _ h9 => h9) rfl dX3_find_61 ?_
            refine lv_iload hx hb dX3_find_64 (lv_at hl 7 rfl) ?_
            refine wz_iald (tys := TY cI cJ cT) hx hb hK hP 7 0 rfl rfl (by decide) (by constructor <;> omega) dX3_find_66 ?_
            refine lv_iload_n hx hb dX3_find_67 rfl (lv_at hl 3 rfl) ?_
            refine lv_iload_n hx hb dX3_find_68 rfl (lv_at hl 4 rfl) ?_
            refine wz_callv (wr := [(b1, .inl (cJ, 20, .inr (.inl (zJ c1)))), (b2, .inl (cJ, 20, .inr (.inl (zJ c2)))), (e1, .inl (cJ, 20, .inr (.inl (zJ d1)))), (e2, .inl (cJ, 20, .inr (.inl (zJ d2)))), (h0, .inr (2, [.ref q1, .ref q2, .ref q3, .int (iI n)])), (q1, .inl (cI, 20, .inl (zA ft))), (q2, .inl (cI, 20, .inl (zA fx))), (q3, .inl (cI, 20, .inl (zA fy)))]) (va_runV (As := [.int (iI (fx (b - 1))), .int (iI (fx b)), .int (iI xl), .int (iI xh)]) (rest := []) ⟨hx, hb, hml, hown, hts⟩ (k_X3_narrow l D cI cJ cT H.size hs b1 b2 e1 e2 m2 0 1 1 1 (fx (b - 1)) (fx b) xl xh (⟨⟨by omega, by omega⟩, by omega, by omega⟩) (⟨⟨by omega, by omega⟩, by omega, by omega⟩) (hx1 _) (hx1 _) (hxl) (hxh)) (cwV 4 hts gX3_find_X3_narrow rfl rfl rfl (by decide +kernel) ⟨Nat.le_of_ble_eq_true rfl, Nat.le_of_ble_eq_true rfl⟩) (wz_preV hK hP hD [0] (by decide) rfl rfl 3 0 rfl rfl) rfl rfl hl.1 rfl (lv_room (Nat.le_of_ble_eq_true rfl)) dX3_find_69 ⟨Nat.le_of_ble_eq_true rfl, Nat.le_of_ble_eq_true rfl⟩) hP hD hS hA [0] [1, 2, 3, 4, 5, 6, 7, 8] rfl rfl rfl (by decide) (fun  u H locs hw69 hP hD hS => ?_)
            obtain ⟨fa, sa, fb, sb⟩ := u
            try dsimp only at hw69
            have hP : va_P D vwCl [(hs, .inr (3, [.ref b1, .ref b2, .ref e1, .ref e2, .int (iI m2), .long (lI fa), .long (lI sa), .long (lI fb), .long (lI sb)])), (b1, .inl (cJ, 20, .inr (.inl (zJ c1)))), (b2, .inl (cJ, 20, .inr (.inl (zJ c2)))), (e1, .inl (cJ, 20, .inr (.inl (zJ d1)))), (e2, .inl (cJ, 20, .inr (.inl (zJ d2)))), (h0, .inr (2, [.ref q1, .ref q2, .ref q3, .int (iI n)])), (q1, .inl (cI, 20, .inl (zA ft))), (q2, .inl (cI, 20, .inl (zA fx))), (q3, .inl (cI, 20, .inl (zA fy)))] H := hP.sub [8, 0, 1, 2, 3, 4, 5, 6, 7] rfl
            have hD : va_D A [(hs, .inr (3, [.ref b1, .ref b2, .ref e1, .ref e2, .int (iI m2), .long (lI fa), .long (lI sa), .long (lI fb), .long (lI sb)])), (b1, .inl (cJ, 20, .inr (.inl (zJ c1)))), (b2, .inl (cJ, 20, .inr (.inl (zJ c2)))), (e1, .inl (cJ, 20, .inr (.inl (zJ d1)))), (e2, .inl (cJ, 20, .inr (.inl (zJ d2)))), (h0, .inr (2, [.ref q1, .ref q2, .ref q3, .int (iI n)])), (q1, .inl (cI, 20, .inl (zA ft))), (q2, .inl (cI, 20, .inl (zA fx))), (q3, .inl (cI, 20, .inl (zA fy)))] := hD.sub [8, 0, 1, 2, 3, 4, 5, 6, 7] (by decide) rfl
            refine lv_aload_n hx hb dX3_find_72 rfl (lv_at hl 1 rfl) ?_
            refine lv_aload_n hx hb dX3_find_73 rfl (lv_at hl 2 rfl) ?_
            refine va_get (D := D) (ci := 2) (v := .ref q3) (C := RX2) (T := TX2) (N := 4) hx hb hts hin2 hown hK hP 5 rfl rfl 2 (by decide) (hts (.fieldLink RX3 42 "DriftLog$Row" "ys" "[I") (by decide +kernel)) (fun _ h9 => h9) rfl dX3_find_74 ?_
            refine lv_iload hx hb dX3_find_77 (lv_at hl 0 rfl) ?_
            refine wz_iald (tys := TY cI cJ cT) hx hb hK hP 8 0 rfl rfl (by decide) (by constructor <;> omega) dX3_find_79 ?_
            refine lv_aload_n hx hb dX3_find_80 rfl (lv_at hl 2 rfl) ?_
            refine va_get (D := D) (ci := 2) (v := .ref q3) (C := RX2) (T := TX2) (N := 4) hx hb hts hin2 hown hK hP 5 rfl rfl 2 (by decide) (hts (.fieldLink RX3 42 "DriftLog$Row" "ys" "[I") (by decide +kernel)) (fun _ h9 => h9) rfl dX3_find_81 ?_
            refine lv_iload hx hb dX3_find_84 (lv_at hl 7 rfl) ?_
            refine wz_iald (tys := TY cI cJ cT) hx hb hK hP 8 0 rfl rfl (by decide) (by constructor <;> omega) dX3_find_86 ?_
            refine lv_iload hx hb dX3_find_87 (lv_at hl 5 rfl) ?_
            refine lv_iload hx hb dX3_find_89 (lv_at hl 6 rfl) ?_
            refine wz_callv (wr := [(b1, .inl (cJ, 20, .inr (.inl (zJ c1)))), (b2, .inl (cJ, 20, .inr (.inl (zJ c2)))), (e1, .inl (cJ, 20, .inr (.inl (zJ d1)))), (e2, .inl (cJ, 20, .inr (.inl (zJ d2)))), (h0, .inr (2, [.ref q1, .ref q2, .ref q3, .int (iI n)])), (q1, .inl (cI, 20, .inl (zA ft))), (q2, .inl (cI, 20, .inl (zA fx))), (q3, .inl (cI, 20, .inl (zA fy)))]) (va_runV (As := [.int (iI (fy (b - 1))), .int (iI (fy b)), .int (iI yl), .int (iI yh)]) (rest := []) ⟨hx, hb, hml, hown, hts⟩ (k_X3_narrow l D cI cJ cT H.size hs b1 b2 e1 e2 m2 fa sa fb sb (fy (b - 1)) (fy b) yl yh (hw69.2.1) (hw69.2.2) (hy1 _) (hy1 _) (hyl) (hyh)) (cwV 4 hts gX3_find_X3_narrow rfl rfl rfl (by decide +kernel) ⟨Nat.le_of_ble_eq_true rfl, Nat.le_of_ble_eq_true rfl⟩) (wz_preV hK hP hD [0] (by decide) rfl rfl 3 0 rfl rfl) rfl rfl hl.1 rfl (lv_room (Nat.le_of_ble_eq_true rfl)) dX3_find_91 ⟨Nat.le_of_ble_eq_true rfl, Nat.le_of_ble_eq_true rfl⟩) hP hD hS hA [0] [1, 2, 3, 4, 5, 6, 7, 8] rfl rfl rfl (by decide) (fun  u H locs hw91 hP hD hS => ?_)
            obtain ⟨fc, sc, fd, sd⟩ := u
            try dsimp only at hw91
            have hP : va_P D vwCl [(hs, .inr (3, [.ref b1, .ref b2, .ref e1, .ref e2, .int (iI m2), .long (lI fc), .long (lI sc), .long (lI fd), .long (lI sd)])), (b1, .inl (cJ, 20, .inr (.inl (zJ c1)))), (b2, .inl (cJ, 20, .inr (.inl (zJ c2)))), (e1, .inl (cJ, 20, .inr (.inl (zJ d1)))), (e2, .inl (cJ, 20, .inr (.inl (zJ d2)))), (h0, .inr (2, [.ref q1, .ref q2, .ref q3, .int (iI n)])), (q1, .inl (cI, 20, .inl (zA ft))), (q2, .inl (cI, 20, .inl (zA fx))), (q3, .inl (cI, 20, .inl (zA fy)))] H := hP.sub [8, 0, 1, 2, 3, 4, 5, 6, 7] rfl
            have hD : va_D A [(hs, .inr (3, [.ref b1, .ref b2, .ref e1, .ref e2, .int (iI m2), .long (lI fc), .long (lI sc), .long (lI fd), .long (lI sd)])), (b1, .inl (cJ, 20, .inr (.inl (zJ c1)))), (b2, .inl (cJ, 20, .inr (.inl (zJ c2)))), (e1, .inl (cJ, 20, .inr (.inl (zJ d1)))), (e2, .inl (cJ, 20, .inr (.inl (zJ d2)))), (h0, .inr (2, [.ref q1, .ref q2, .ref q3, .int (iI n)])), (q1, .inl (cI, 20, .inl (zA ft))), (q2, .inl (cI, 20, .inl (zA fx))), (q3, .inl (cI, 20, .inl (zA fy)))] := hD.sub [8, 0, 1, 2, 3, 4, 5, 6, 7] (by decide) rfl
            have hq : nwZ (fy (b - 1)) (fy b) yl yh (nwZ (fx (b - 1)) (fx b) xl xh (0, 1, 1, 1)) = (fc, sc, fd, sd) := by rw [hw69.1]; exact hw91.1
            have r1 := mul27 hw91.2.1.1 (frR_27 hw91.2.2)
            have r2 := mul27 hw91.2.2.1 (frR_27 hw91.2.1)
            refine lv_aload_n hx hb dX3_find_94 rfl (lv_at hl 1 rfl) ?_
            refine va_get (D := D) (ci := 3) (v := .long (lI fc)) (C := RX3) (T := TX3) (N := 9) hx hb hts hin3 hown hK hP 0 rfl rfl 5 (by decide) (hts (.fieldLink RX3 45 "DriftLog$SpanRow" "fromFirst" "J") (by decide +kernel)) (fun _ h9 => h9) rfl dX3_find_95 ?_
            refine lv_aload_n hx hb dX3_find_98 rfl (lv_at hl 1 rfl) ?_
            refine va_get (D := D) (ci := 3) (v := .long (lI sd)) (C := RX3) (T := TX3) (N := 9) hx hb hts hin3 hown hK hP 0 rfl rfl 8 (by decide) (hts (.fieldLink RX3 49 "DriftLog$SpanRow" "toSecond" "J") (by decide +kernel)) (fun _ h9 => h9) rfl dX3_find_99 ?_
            refine wz_lmul hx hb dX3_find_102 ?_
            refine lv_aload_n hx hb dX3_find_103 rfl (lv_at hl 1 rfl) ?_
            refine va_get (D := D) (ci := 3) (v := .long (lI fd)) (C := RX3) (T := TX3) (N := 9) hx hb hts hin3 hown hK hP 0 rfl rfl 7 (by decide) (hts (.fieldLink RX3 52 "DriftLog$SpanRow" "toFirst" "J") (by decide +kernel)) (fun _ h9 => h9) rfl dX3_find_104 ?_
            refine lv_aload_n hx hb dX3_find_107 rfl (lv_at hl 1 rfl) ?_
            refine va_get (D := D) (ci := 3) (v := .long (lI sc)) (C := RX3) (T := TX3) (N := 9) hx hb hts hin3 hown hK hP 0 rfl rfl 6 (by decide) (hts (.fieldLink RX3 55 "DriftLog$SpanRow" "fromSecond" "J") (by decide +kernel)) (fun _ h9 => h9) rfl dX3_find_108 ?_
            refine wz_lmul hx hb dX3_find_111 ?_
            refine W.lcmp hx hb dX3_find_112 ?_
            refine wz_lif_gt (tgt := 136) hx hb dX3_find_113 (by decide) (by constructor <;> omega) (by constructor <;> omega) (fun c113 => ?_) (fun c113 => ?_)
            · skip
              refine lv_iinc (v := iI (b + 1)) (lv' := [(7, .int (iI (b + 1))), (8, .int (iI (b - 1))), (0, .ref hs), (1, .ref h0), (2, .int (iI xl)), (3, .int (iI xh)), (4, .int (iI yl)), (5, .int (iI yh))]) hx hb dX3_find_136 hl (k := 7) rfl (iI_add _ _) (by decide) rfl (fun ls hl => ?_)
              refine lv_goto (tgt := 24) hx hb dX3_find_139 (by decide) ?_
              exact ih24 (b + 1) m2 c1 c2 d1 d2 fc sc fd sd _ _ _ ⟨(by omega), (by omega), (by rw [spX_s (by omega) (by omega), a3]; rw [stpZ_n hq (by dsimp only; omega)]), (a4), (by omega)⟩ (by omega) hP hD hS (lv_sub hl [2, 3, 4, 5, 6, 7, 0] rfl)
            · skip
              refine lv_aload_n hx hb dX3_find_116 rfl (lv_at hl 1 rfl) ?_
              refine lv_aload_n hx hb dX3_find_117 rfl (lv_at hl 2 rfl) ?_
              refine va_get (D := D) (ci := 2) (v := .ref q1) (C := RX2) (T := TX2) (N := 4) hx hb hts hin2 hown hK hP 5 rfl rfl 0 (by decide) (hts (.fieldLink RX3 58 "DriftLog$Row" "times" "[I") (by decide +kernel)) (fun _ h9 => h9) rfl dX3_find_118 ?_
              refine lv_iload hx hb dX3_find_121 (lv_at hl 0 rfl) ?_
              refine wz_iald (tys := TY cI cJ cT) hx hb hK hP 6 0 rfl rfl (by decide) (by constructor <;> omega) dX3_find_123 ?_
              refine wz_i2l hx hb dX3_find_124 (by have := ht (b - 1); have := ht 0; constructor <;> omega) ?_
              refine lv_aload_n hx hb dX3_find_125 rfl (lv_at hl 2 rfl) ?_
              refine va_get (D := D) (ci := 2) (v := .ref q1) (C := RX2) (T := TX2) (N := 4) hx hb hts hin2 hown hK hP 5 rfl rfl 0 (by decide) (hts (.fieldLink RX3 58 "DriftLog$Row" "times" "[I") (by decide +kernel)) (fun _ h9 => h9) rfl dX3_find_126 ?_
              refine lv_iload hx hb dX3_find_129 (lv_at hl 7 rfl) ?_
              refine wz_iald (tys := TY cI cJ cT) hx hb hK hP 6 0 rfl rfl (by decide) (by constructor <;> omega) dX3_find_131 ?_
              refine wz_i2l hx hb dX3_find_132 (by have := ht b; constructor <;> omega) ?_
              refine wz_callv (wr := [(h0, .inr (2, [.ref q1, .ref q2, .ref q3, .int (iI n)])), (q1, .inl (cI, 20, .inl (zA ft))), (q2, .inl (cI, 20, .inl (zA fx))), (q3, .inl (cI, 20, .inl (zA fy)))]) (va_runV (As := [.long (lI (ft (b - 1))), .long (lI (ft b))]) (rest := []) ⟨hx, hb, hml, hown, hts⟩ (k_X3_note l D cI cJ cT H.size hs b1 b2 e1 e2 m2 fc sc fd sd c1 c2 d1 d2 (ft (b - 1)) (ft b) (by have := a4.1; dsimp only at this; omega) (a4.2.2.1.1) (a4.2.2.1.2) (ht _)) (cwV 2 hts gX3_find_X3_note rfl rfl rfl (by decide +kernel) ⟨Nat.le_of_ble_eq_true rfl, Nat.le_of_ble_eq_true rfl⟩) (wz_preV hK hP hD [0, 1, 2, 3, 4] (by decide) rfl rfl 3 0 rfl rfl) rfl rfl hl.1 rfl (lv_room (Nat.le_of_ble_eq_true rfl)) dX3_find_133 ⟨Nat.le_of_ble_eq_true rfl, Nat.le_of_ble_eq_true rfl⟩) hP hD hS hA [0, 1, 2, 3, 4] [5, 6, 7, 8] rfl rfl rfl (by decide) (fun  u H locs hw133 hP hD hS => ?_)
              obtain ⟨m3, k1, k2, k3, k4⟩ := u
              try dsimp only at hw133
              have hP : va_P D vwCl [(hs, .inr (3, [.ref b1, .ref b2, .ref e1, .ref e2, .int (iI m3), .long (lI fc), .long (lI sc), .long (lI fd), .long (lI sd)])), (b1, .inl (cJ, 20, .inr (.inl (zJ k1)))), (b2, .inl (cJ, 20, .inr (.inl (zJ k2)))), (e1, .inl (cJ, 20, .inr (.inl (zJ k3)))), (e2, .inl (cJ, 20, .inr (.inl (zJ k4)))), (h0, .inr (2, [.ref q1, .ref q2, .ref q3, .int (iI n)])), (q1, .inl (cI, 20, .inl (zA ft))), (q2, .inl (cI, 20, .inl (zA fx))), (q3, .inl (cI, 20, .inl (zA fy)))] H := hP.sub [4, 5, 6, 7, 8, 0, 1, 2, 3] rfl
              have hD : va_D A [(hs, .inr (3, [.ref b1, .ref b2, .ref e1, .ref e2, .int (iI m3), .long (lI fc), .long (lI sc), .long (lI fd), .long (lI sd)])), (b1, .inl (cJ, 20, .inr (.inl (zJ k1)))), (b2, .inl (cJ, 20, .inr (.inl (zJ k2)))), (e1, .inl (cJ, 20, .inr (.inl (zJ k3)))), (e2, .inl (cJ, 20, .inr (.inl (zJ k4)))), (h0, .inr (2, [.ref q1, .ref q2, .ref q3, .int (iI n)])), (q1, .inl (cI, 20, .inl (zA ft))), (q2, .inl (cI, 20, .inl (zA fx))), (q3, .inl (cI, 20, .inl (zA fy)))] := hD.sub [4, 5, 6, 7, 8, 0, 1, 2, 3] (by decide) rfl
              have nok := noteZ_ok (ta := (ft (b - 1))) (tb := (ft b)) (q := (fc, sc, fd, sd)) (s := (m2, c1, c2, d1, d2)) (ht _) (ht _) hw91.2.1 hw91.2.2 a4 (by have := a4.1; dsimp only at this ⊢; omega)
              rw [hw133] at nok
              refine lv_iinc (v := iI (b + 1)) (lv' := [(7, .int (iI (b + 1))), (8, .int (iI (b - 1))), (0, .ref hs), (1, .ref h0), (2, .int (iI xl)), (3, .int (iI xh)), (4, .int (iI yl)), (5, .int (iI yh))]) hx hb dX3_find_136 hl (k := 7) rfl (iI_add _ _) (by decide) rfl (fun ls hl => ?_)
              refine lv_goto (tgt := 24) hx hb dX3_find_139 (by decide) ?_
              exact ih24 (b + 1) m3 k1 k2 k3 k4 fc sc fd sd _ _ _ ⟨(by omega), (by omega), (by rw [spX_s (by omega) (by omega), a3]; rw [stpZ_y hq (by omega), hw133]), (nok.1), (by have := nok.2; dsimp only at this; omega)⟩ (by omega) hP hD hS (lv_sub hl [2, 3, 4, 5, 6, 7, 0] rfl)
    exact LP24 (Int.toNat (n - 1) + 1) 1 0 bF bS eF eS ff fs tf ts _ _ _ ⟨(by omega), (fun q => by omega), (by unfold spX; rw [if_neg c10]; rfl), (hok), (by omega)⟩ (by omega) hP hD hS (lv_sub hl [2, 3, 4, 5, 6, 7, 0] rfl)
  · skip
    refine lv_iconst (v := iI 0) hx hb dX3_find_13 rfl ?_
    refine lv_goto (tgt := 18) hx hb dX3_find_14 (by decide) ?_
    refine lv_istore (lv' := [(6, .int (iI 0)), (0, .ref hs), (1, .ref h0), (2, .int (iI xl)), (3, .int (iI xh)), (4, .int (iI yl)), (5, .int (iI yh))]) hx hb dX3_find_18 hl (by decide) rfl (fun ls hl => ?_)
    refine lv_iload hx hb dX3_find_20 (lv_at hl 0 rfl) ?_
    refine lv_istore (lv' := [(7, .int (iI 0)), (6, .int (iI 0)), (0, .ref hs), (1, .ref h0), (2, .int (iI xl)), (3, .int (iI xh)), (4, .int (iI yl)), (5, .int (iI yh))]) hx hb dX3_find_22 hl (by decide) rfl (fun ls hl => ?_)
    have LP24 : ∀ (N24 : Nat) (b : Int) (m2 : Int) (c1 : Int → Int) (c2 : Int → Int) (d1 : Int → Int) (d2 : Int → Int) (f0 : Int) (s0 : Int) (f1 : Int) (s1 : Int) (H : Heap) (locs : List Loc) (ls : Array Slot), ((0 ≤ b ∧ b ≤ n) ∧ (n ≠ 1 → 1 ≤ b) ∧ spX ft fx fy xl xh yl yh n b (0, bF, bS, eF, eS) = (m2, c1, c2, d1, d2) ∧ okSp (m2, c1, c2, d1, d2) ∧ (m2 ≤ b ∧ (n ≠ 1 → m2 ≤ b - 1))) → (n - b) < (N24 : Int) → va_P D vwCl [(hs, .inr (3, [.ref b1, .ref b2, .ref e1, .ref e2, .int (iI m2), .long (lI f0), .long (lI s0), .long (lI f1), .long (lI s1)])), (b1, .inl (cJ, 20, .inr (.inl (zJ c1)))), (b2, .inl (cJ, 20, .inr (.inl (zJ c2)))), (e1, .inl (cJ, 20, .inr (.inl (zJ d1)))), (e2, .inl (cJ, 20, .inr (.inl (zJ d2)))), (h0, .inr (2, [.ref q1, .ref q2, .ref q3, .int (iI n)])), (q1, .inl (cI, 20, .inl (zA ft))), (q2, .inl (cI, 20, .inl (zA fx))), (q3, .inl (cI, 20, .inl (zA fy)))] H → va_D A [(hs, .inr (3, [.ref b1, .ref b2, .ref e1, .ref e2, .int (iI m2), .long (lI f0), .long (lI s0), .long (lI f1), .long (lI s1)])), (b1, .inl (cJ, 20, .inr (.inl (zJ c1)))), (b2, .inl (cJ, 20, .inr (.inl (zJ c2)))), (e1, .inl (cJ, 20, .inr (.inl (zJ d1)))), (e2, .inl (cJ, 20, .inr (.inl (zJ d2)))), (h0, .inr (2, [.ref q1, .ref q2, .ref q3, .int (iI n)])), (q1, .inl (cI, 20, .inl (zA ft))), (q2, .inl (cI, 20, .inl (zA fx))), (q3, .inl (cI, 20, .inl (zA fy)))] → va_S A s.heap H locs → lv_has ls 9 [(0, .ref hs), (1, .ref h0), (2, .int (iI xl)), (3, .int (iI xh)), (4, .int (iI yl)), (5, .int (iI yh)), (7, .int (iI b))] → W p l e { frames := 2, cells := 0, slots := 0, locals := 48 } s m ([.ref hs, .ref h0, .int (iI xl), .int (iI xh), .int (iI yl), .int (iI yh)] : List Value).toArray below meth c H locs 0 0 Q (F0 m 24 ls []) := by
      intro N24
      induction N24 with
      | zero =>
        intro b m2 c1 c2 d1 d2 f0 s0 f1 s1 H locs ls hI hm
        obtain ⟨a1, a2, a3, a4, a5⟩ := hI
        exfalso; omega
      | succ N24 ih24 =>
        intro b m2 c1 c2 d1 d2 f0 s0 f1 s1 H locs ls hI hm24 hP hD hS hl
        obtain ⟨a1, a2, a3, a4, a5⟩ := hI
        refine lv_iload hx hb dX3_find_24 (lv_at hl 6 rfl) ?_
        refine lv_aload_n hx hb dX3_find_26 rfl (lv_at hl 1 rfl) ?_
        refine va_get (D := D) (ci := 2) (v := .int (iI n)) (C := RX2) (T := TX2) (N := 4) hx hb hts hin2 hown hK hP 5 rfl rfl 3 (by decide) (hts (.fieldLink RX3 28 "DriftLog$Row" "size" "I") (by decide +kernel)) (fun _ h9 => h9) rfl dX3_find_27 ?_
        refine wz_icmp_ge (tgt := 142) hx hb dX3_find_30 (by decide) ⟨by omega, by omega⟩ ⟨by omega, by omega⟩ (fun c30 => ?_) (fun c30 => ?_)
        · skip
          rw [hQ]
          exact wz_retv (tys := TY cI cJ cT) (m2, c1, c2, d1, d2, f0, s0, f1, s1) hx hb hr hlocks hK hP hD hS (by (try dsimp only); exact (by have q : b = n := (by omega); rw [q] at a3; exact ⟨a3, a4⟩)) dX3_find_142
        · skip
          refine lv_iload hx hb dX3_find_33 (lv_at hl 6 rfl) ?_
          refine wz_if_le (tgt := 45) hx hb dX3_find_35 (by decide) ⟨by omega, by omega⟩ (fun c35 => ?_) (fun c35 => ?_)
          · skip
            refine lv_iconst (v := iI 0) hx hb dX3_find_45 rfl ?_
            refine lv_istore (lv' := [(8, .int (iI 0)), (0, .ref hs), (1, .ref h0), (2, .int (iI xl)), (3, .int (iI xh)), (4, .int (iI yl)), (5, .int (iI yh)), (7, .int (iI b))]) hx hb dX3_find_46 hl (by decide) rfl (fun ls hl => ?_)
            refine lv_aload_n hx hb dX3_find_48 rfl (lv_at hl 1 rfl) ?_
            refine wz_callv (wr := [(b1, .inl (cJ, 20, .inr (.inl (zJ c1)))), (b2, .inl (cJ, 20, .inr (.inl (zJ c2)))), (e1, .inl (cJ, 20, .inr (.inl (zJ d1)))), (e2, .inl (cJ, 20, .inr (.inl (zJ d2)))), (h0, .inr (2, [.ref q1, .ref q2, .ref q3, .int (iI n)])), (q1, .inl (cI, 20, .inl (zA ft))), (q2, .inl (cI, 20, .inl (zA fx))), (q3, .inl (cI, 20, .inl (zA fy)))]) (va_runV (As := []) (rest := []) ⟨hx, hb, hml, hown, hts⟩ (k_X3_takeWholeStretch l D cI cJ cT H.size hs b1 b2 e1 e2 m2 f0 s0 f1 s1 ) (cwV 0 hts gX3_find_X3_takeWholeStretch rfl rfl rfl (by decide +kernel) ⟨Nat.le_of_ble_eq_true rfl, Nat.le_of_ble_eq_true rfl⟩) (wz_preV hK hP hD [0] (by decide) rfl rfl 3 0 rfl rfl) rfl rfl hl.1 rfl (lv_room (Nat.le_of_ble_eq_true rfl)) dX3_find_49 ⟨Nat.le_of_ble_eq_true rfl, Nat.le_of_ble_eq_true rfl⟩) hP hD hS hA [0] [1, 2, 3, 4, 5, 6, 7, 8] rfl rfl rfl (by decide) (fun  u H locs hw49 hP hD hS => ?_)
            have hP : va_P D vwCl [(hs, .inr (3, [.ref b1, .ref b2, .ref e1, .ref e2, .int (iI m2), .long (lI 0), .long (lI 1), .long (lI 1), .long (lI 1)])), (b1, .inl (cJ, 20, .inr (.inl (zJ c1)))), (b2, .inl (cJ, 20, .inr (.inl (zJ c2)))), (e1, .inl (cJ, 20, .inr (.inl (zJ d1)))), (e2, .inl (cJ, 20, .inr (.inl (zJ d2)))), (h0, .inr (2, [.ref q1, .ref q2, .ref q3, .int (iI n)])), (q1, .inl (cI, 20, .inl (zA ft))), (q2, .inl (cI, 20, .inl (zA fx))), (q3, .inl (cI, 20, .inl (zA fy)))] H := hP.sub [8, 0, 1, 2, 3, 4, 5, 6, 7] rfl
            have hD : va_D A [(hs, .inr (3, [.ref b1, .ref b2, .ref e1, .ref e2, .int (iI m2), .long (lI 0), .long (lI 1), .long (lI 1), .long (lI 1)])), (b1, .inl (cJ, 20, .inr (.inl (zJ c1)))), (b2, .inl (cJ, 20, .inr (.inl (zJ c2)))), (e1, .inl (cJ, 20, .inr (.inl (zJ d1)))), (e2, .inl (cJ, 20, .inr (.inl (zJ d2)))), (h0, .inr (2, [.ref q1, .ref q2, .ref q3, .int (iI n)])), (q1, .inl (cI, 20, .inl (zA ft))), (q2, .inl (cI, 20, .inl (zA fx))), (q3, .inl (cI, 20, .inl (zA fy)))] := hD.sub [8, 0, 1, 2, 3, 4, 5, 6, 7] (by decide) rfl
            refine lv_aload_n hx hb dX3_find_52 rfl (lv_at hl 1 rfl) ?_
            refine lv_aload_n hx hb dX3_find_53 rfl (lv_at hl 2 rfl) ?_
            refine va_get (D := D) (ci := 2) (v := .ref q2) (C := RX2) (T := TX2) (N := 4) hx hb hts hin2 hown hK hP 5 rfl rfl 1 (by decide) (hts (.fieldLink RX3 34 "DriftLog$Row" "xs" "[I") (by decide +kernel)) (fun _ h9 => h9) rfl dX3_find_54 ?_
            refine lv_iload hx hb dX3_find_57 (lv_at hl 0 rfl) ?_
            refine wz_iald (tys := TY cI cJ cT) hx hb hK hP 7 0 rfl rfl (by decide) (by constructor <;> omega) dX3_find_59 ?_
            refine lv_aload_n hx hb dX3_find_60 rfl (lv_at hl 2 rfl) ?_
            refine va_get (D := D) (ci := 2) (v := .ref q2) (C := RX2) (T := TX2) (N := 4) hx hb hts hin2 hown hK hP 5 rfl rfl 1 (by decide) (hts (.fieldLink RX3 34 "DriftLog$Row" "xs" "[I") (by decide +kernel)) (fun _ h9 => h9) rfl dX3_find_61 ?_
            refine lv_iload hx hb dX3_find_64 (lv_at hl 7 rfl) ?_
            refine wz_iald (tys := TY cI cJ cT) hx hb hK hP 7 0 rfl rfl (by decide) (by constructor <;> omega) dX3_find_66 ?_
            refine lv_iload_n hx hb dX3_find_67 rfl (lv_at hl 3 rfl) ?_
            refine lv_iload_n hx hb dX3_find_68 rfl (lv_at hl 4 rfl) ?_
            refine wz_callv (wr := [(b1, .inl (cJ, 20, .inr (.inl (zJ c1)))), (b2, .inl (cJ, 20, .inr (.inl (zJ c2)))), (e1, .inl (cJ, 20, .inr (.inl (zJ d1)))), (e2, .inl (cJ, 20, .inr (.inl (zJ d2)))), (h0, .inr (2, [.ref q1, .ref q2, .ref q3, .int (iI n)])), (q1, .inl (cI, 20, .inl (zA ft))), (q2, .inl (cI, 20, .inl (zA fx))), (q3, .inl (cI, 20, .inl (zA fy)))]) (va_runV (As := [.int (iI (fx 0)), .int (iI (fx b)), .int (iI xl), .int (iI xh)]) (rest := []) ⟨hx, hb, hml, hown, hts⟩ (k_X3_narrow l D cI cJ cT H.size hs b1 b2 e1 e2 m2 0 1 1 1 (fx 0) (fx b) xl xh (⟨⟨by omega, by omega⟩, by omega, by omega⟩) (⟨⟨by omega, by omega⟩, by omega, by omega⟩) (hx1 _) (hx1 _) (hxl) (hxh)) (cwV 4 hts gX3_find_X3_narrow rfl rfl rfl (by decide +kernel) ⟨Nat.le_of_ble_eq_true rfl, Nat.le_of_ble_eq_true rfl⟩) (wz_preV hK hP hD [0] (by decide) rfl rfl 3 0 rfl rfl) rfl rfl hl.1 rfl (lv_room (Nat.le_of_ble_eq_true rfl)) dX3_find_69 ⟨Nat.le_of_ble_eq_true rfl, Nat.le_of_ble_eq_true rfl⟩) hP hD hS hA [0] [1, 2, 3, 4, 5, 6, 7, 8] rfl rfl rfl (by decide) (fun  u H locs hw69 hP hD hS => ?_)
            obtain ⟨fa, sa, fb, sb⟩ := u
            try dsimp only at hw69
            have hP : va_P D vwCl [(hs, .inr (3, [.ref b1, .ref b2, .ref e1, .ref e2, .int (iI m2), .long (lI fa), .long (lI sa), .long (lI fb), .long (lI sb)])), (b1, .inl (cJ, 20, .inr (.inl (zJ c1)))), (b2, .inl (cJ, 20, .inr (.inl (zJ c2)))), (e1, .inl (cJ, 20, .inr (.inl (zJ d1)))), (e2, .inl (cJ, 20, .inr (.inl (zJ d2)))), (h0, .inr (2, [.ref q1, .ref q2, .ref q3, .int (iI n)])), (q1, .inl (cI, 20, .inl (zA ft))), (q2, .inl (cI, 20, .inl (zA fx))), (q3, .inl (cI, 20, .inl (zA fy)))] H := hP.sub [8, 0, 1, 2, 3, 4, 5, 6, 7] rfl
            have hD : va_D A [(hs, .inr (3, [.ref b1, .ref b2, .ref e1, .ref e2, .int (iI m2), .long (lI fa), .long (lI sa), .long (lI fb), .long (lI sb)])), (b1, .inl (cJ, 20, .inr (.inl (zJ c1)))), (b2, .inl (cJ, 20, .inr (.inl (zJ c2)))), (e1, .inl (cJ, 20, .inr (.inl (zJ d1)))), (e2, .inl (cJ, 20, .inr (.inl (zJ d2)))), (h0, .inr (2, [.ref q1, .ref q2, .ref q3, .int (iI n)])), (q1, .inl (cI, 20, .inl (zA ft))), (q2, .inl (cI, 20, .inl (zA fx))), (q3, .inl (cI, 20, .inl (zA fy)))] := hD.sub [8, 0, 1, 2, 3, 4, 5, 6, 7] (by decide) rfl
            refine lv_aload_n hx hb dX3_find_72 rfl (lv_at hl 1 rfl) ?_
            refine lv_aload_n hx hb dX3_find_73 rfl (lv_at hl 2 rfl) ?_
            refine va_get (D := D) (ci := 2) (v := .ref q3) (C := RX2) (T := TX2) (N := 4) hx hb hts hin2 hown hK hP 5 rfl rfl 2 (by decide) (hts (.fieldLink RX3 42 "DriftLog$Row" "ys" "[I") (by decide +kernel)) (fun _ h9 => h9) rfl dX3_find_74 ?_
            refine lv_iload hx hb dX3_find_77 (lv_at hl 0 rfl) ?_
            refine wz_iald (tys := TY cI cJ cT) hx hb hK hP 8 0 rfl rfl (by decide) (by constructor <;> omega) dX3_find_79 ?_
            refine lv_aload_n hx hb dX3_find_80 rfl (lv_at hl 2 rfl) ?_
            refine va_get (D := D) (ci := 2) (v := .ref q3) (C := RX2) (T := TX2) (N := 4) hx hb hts hin2 hown hK hP 5 rfl rfl 2 (by decide) (hts (.fieldLink RX3 42 "DriftLog$Row" "ys" "[I") (by decide +kernel)) (fun _ h9 => h9) rfl dX3_find_81 ?_
            refine lv_iload hx hb dX3_find_84 (lv_at hl 7 rfl) ?_
            refine wz_iald (tys := TY cI cJ cT) hx hb hK hP 8 0 rfl rfl (by decide) (by constructor <;> omega) dX3_find_86 ?_
            refine lv_iload hx hb dX3_find_87 (lv_at hl 5 rfl) ?_
            refine lv_iload hx hb dX3_find_89 (lv_at hl 6 rfl) ?_
            refine wz_callv (wr := [(b1, .inl (cJ, 20, .inr (.inl (zJ c1)))), (b2, .inl (cJ, 20, .inr (.inl (zJ c2)))), (e1, .inl (cJ, 20, .inr (.inl (zJ d1)))), (e2, .inl (cJ, 20, .inr (.inl (zJ d2)))), (h0, .inr (2, [.ref q1, .ref q2, .ref q3, .int (iI n)])), (q1, .inl (cI, 20, .inl (zA ft))), (q2, .inl (cI, 20, .inl (zA fx))), (q3, .inl (cI, 20, .inl (zA fy)))]) (va_runV (As := [.int (iI (fy 0)), .int (iI (fy b)), .int (iI yl), .int (iI yh)]) (rest := []) ⟨hx, hb, hml, hown, hts⟩ (k_X3_narrow l D cI cJ cT H.size hs b1 b2 e1 e2 m2 fa sa fb sb (fy 0) (fy b) yl yh (hw69.2.1) (hw69.2.2) (hy1 _) (hy1 _) (hyl) (hyh)) (cwV 4 hts gX3_find_X3_narrow rfl rfl rfl (by decide +kernel) ⟨Nat.le_of_ble_eq_true rfl, Nat.le_of_ble_eq_true rfl⟩) (wz_preV hK hP hD [0] (by decide) rfl rfl 3 0 rfl rfl) rfl rfl hl.1 rfl (lv_room (Nat.le_of_ble_eq_true rfl)) dX3_find_91 ⟨Nat.le_of_ble_eq_true rfl, Nat.le_of_ble_eq_true rfl⟩) hP hD hS hA [0] [1, 2, 3, 4, 5, 6, 7, 8] rfl rfl rfl (by decide) (fun  u H locs hw91 hP hD hS => ?_)
            obtain ⟨fc, sc, fd, sd⟩ := u
            try dsimp only at hw91
            have hP : va_P D vwCl [(hs, .inr (3, [.ref b1, .ref b2, .ref e1, .ref e2, .int (iI m2), .long (lI fc), .long (lI sc), .long (lI fd), .long (lI sd)])), (b1, .inl (cJ, 20, .inr (.inl (zJ c1)))), (b2, .inl (cJ, 20, .inr (.inl (zJ c2)))), (e1, .inl (cJ, 20, .inr (.inl (zJ d1)))), (e2, .inl (cJ, 20, .inr (.inl (zJ d2)))), (h0, .inr (2, [.ref q1, .ref q2, .ref q3, .int (iI n)])), (q1, .inl (cI, 20, .inl (zA ft))), (q2, .inl (cI, 20, .inl (zA fx))), (q3, .inl (cI, 20, .inl (zA fy)))] H := hP.sub [8, 0, 1, 2, 3, 4, 5, 6, 7] rfl
            have hD : va_D A [(hs, .inr (3, [.ref b1, .ref b2, .ref e1, .ref e2, .int (iI m2), .long (lI fc), .long (lI sc), .long (lI fd), .long (lI sd)])), (b1, .inl (cJ, 20, .inr (.inl (zJ c1)))), (b2, .inl (cJ, 20, .inr (.inl (zJ c2)))), (e1, .inl (cJ, 20, .inr (.inl (zJ d1)))), (e2, .inl (cJ, 20, .inr (.inl (zJ d2)))), (h0, .inr (2, [.ref q1, .ref q2, .ref q3, .int (iI n)])), (q1, .inl (cI, 20, .inl (zA ft))), (q2, .inl (cI, 20, .inl (zA fx))), (q3, .inl (cI, 20, .inl (zA fy)))] := hD.sub [8, 0, 1, 2, 3, 4, 5, 6, 7] (by decide) rfl
            have hq : nwZ (fy 0) (fy b) yl yh (nwZ (fx 0) (fx b) xl xh (0, 1, 1, 1)) = (fc, sc, fd, sd) := by rw [hw69.1]; exact hw91.1
            have r1 := mul27 hw91.2.1.1 (frR_27 hw91.2.2)
            have r2 := mul27 hw91.2.2.1 (frR_27 hw91.2.1)
            refine lv_aload_n hx hb dX3_find_94 rfl (lv_at hl 1 rfl) ?_
            refine va_get (D := D) (ci := 3) (v := .long (lI fc)) (C := RX3) (T := TX3) (N := 9) hx hb hts hin3 hown hK hP 0 rfl rfl 5 (by decide) (hts (.fieldLink RX3 45 "DriftLog$SpanRow" "fromFirst" "J") (by decide +kernel)) (fun _ h9 => h9) rfl dX3_find_95 ?_
            refine lv_aload_n hx hb dX3_find_98 rfl (lv_at hl 1 rfl) ?_
            refine va_get (D := D) (ci := 3) (v := .long (lI sd)) (C := RX3) (T := TX3) (N := 9) hx hb hts hin3 hown hK hP 0 rfl rfl 8 (by decide) (hts (.fieldLink RX3 49 "DriftLog$SpanRow" "toSecond" "J") (by decide +kernel)) (fun _ h9 => h9) rfl dX3_find_99 ?_
            refine wz_lmul hx hb dX3_find_102 ?_
            refine lv_aload_n hx hb dX3_find_103 rfl (lv_at hl 1 rfl) ?_
            refine va_get (D := D) (ci := 3) (v := .long (lI fd)) (C := RX3) (T := TX3) (N := 9) hx hb hts hin3 hown hK hP 0 rfl rfl 7 (by decide) (hts (.fieldLink RX3 52 "DriftLog$SpanRow" "toFirst" "J") (by decide +kernel)) (fun _ h9 => h9) rfl dX3_find_104 ?_
            refine lv_aload_n hx hb dX3_find_107 rfl (lv_at hl 1 rfl) ?_
            refine va_get (D := D) (ci := 3) (v := .long (lI sc)) (C := RX3) (T := TX3) (N := 9) hx hb hts hin3 hown hK hP 0 rfl rfl 6 (by decide) (hts (.fieldLink RX3 55 "DriftLog$SpanRow" "fromSecond" "J") (by decide +kernel)) (fun _ h9 => h9) rfl dX3_find_108 ?_
            refine wz_lmul hx hb dX3_find_111 ?_
            refine W.lcmp hx hb dX3_find_112 ?_
            refine wz_lif_gt (tgt := 136) hx hb dX3_find_113 (by decide) (by constructor <;> omega) (by constructor <;> omega) (fun c113 => ?_) (fun c113 => ?_)
            · skip
              refine lv_iinc (v := iI (b + 1)) (lv' := [(7, .int (iI (b + 1))), (8, .int (iI 0)), (0, .ref hs), (1, .ref h0), (2, .int (iI xl)), (3, .int (iI xh)), (4, .int (iI yl)), (5, .int (iI yh))]) hx hb dX3_find_136 hl (k := 7) rfl (iI_add _ _) (by decide) rfl (fun ls hl => ?_)
              refine lv_goto (tgt := 24) hx hb dX3_find_139 (by decide) ?_
              exact ih24 (b + 1) m2 c1 c2 d1 d2 fc sc fd sd _ _ _ ⟨(by omega), (by omega), (by rw [spX_z (by omega) (by omega) a3]; rw [stpZ_n hq (by dsimp only; omega)]), (a4), (by omega)⟩ (by omega) hP hD hS (lv_sub hl [2, 3, 4, 5, 6, 7, 0] rfl)
            · skip
              refine lv_aload_n hx hb dX3_find_116 rfl (lv_at hl 1 rfl) ?_
              refine lv_aload_n hx hb dX3_find_117 rfl (lv_at hl 2 rfl) ?_
              refine va_get (D := D) (ci := 2) (v := .ref q1) (C := RX2) (T := TX2) (N := 4) hx hb hts hin2 hown hK hP 5 rfl rfl 0 (by decide) (hts (.fieldLink RX3 58 "DriftLog$Row" "times" "[I") (by decide +kernel)) (fun _ h9 => h9) rfl dX3_find_118 ?_
              refine lv_iload hx hb dX3_find_121 (lv_at hl 0 rfl) ?_
              refine wz_iald (tys := TY cI cJ cT) hx hb hK hP 6 0 rfl rfl (by decide) (by constructor <;> omega) dX3_find_123 ?_
              refine wz_i2l hx hb dX3_find_124 (by have := ht (b - 1); have := ht 0; constructor <;> omega) ?_
              refine lv_aload_n hx hb dX3_find_125 rfl (lv_at hl 2 rfl) ?_
              refine va_get (D := D) (ci := 2) (v := .ref q1) (C := RX2) (T := TX2) (N := 4) hx hb hts hin2 hown hK hP 5 rfl rfl 0 (by decide) (hts (.fieldLink RX3 58 "DriftLog$Row" "times" "[I") (by decide +kernel)) (fun _ h9 => h9) rfl dX3_find_126 ?_
              refine lv_iload hx hb dX3_find_129 (lv_at hl 7 rfl) ?_
              refine wz_iald (tys := TY cI cJ cT) hx hb hK hP 6 0 rfl rfl (by decide) (by constructor <;> omega) dX3_find_131 ?_
              refine wz_i2l hx hb dX3_find_132 (by have := ht b; constructor <;> omega) ?_
              refine wz_callv (wr := [(h0, .inr (2, [.ref q1, .ref q2, .ref q3, .int (iI n)])), (q1, .inl (cI, 20, .inl (zA ft))), (q2, .inl (cI, 20, .inl (zA fx))), (q3, .inl (cI, 20, .inl (zA fy)))]) (va_runV (As := [.long (lI (ft 0)), .long (lI (ft b))]) (rest := []) ⟨hx, hb, hml, hown, hts⟩ (k_X3_note l D cI cJ cT H.size hs b1 b2 e1 e2 m2 fc sc fd sd c1 c2 d1 d2 (ft 0) (ft b) (by have := a4.1; dsimp only at this; omega) (a4.2.2.1.1) (a4.2.2.1.2) (ht _)) (cwV 2 hts gX3_find_X3_note rfl rfl rfl (by decide +kernel) ⟨Nat.le_of_ble_eq_true rfl, Nat.le_of_ble_eq_true rfl⟩) (wz_preV hK hP hD [0, 1, 2, 3, 4] (by decide) rfl rfl 3 0 rfl rfl) rfl rfl hl.1 rfl (lv_room (Nat.le_of_ble_eq_true rfl)) dX3_find_133 ⟨Nat.le_of_ble_eq_true rfl, Nat.le_of_ble_eq_true rfl⟩) hP hD hS hA [0, 1, 2, 3, 4] [5, 6, 7, 8] rfl rfl rfl (by decide) (fun  u H locs hw133 hP hD hS => ?_)
              obtain ⟨m3, k1, k2, k3, k4⟩ := u
              try dsimp only at hw133
              have hP : va_P D vwCl [(hs, .inr (3, [.ref b1, .ref b2, .ref e1, .ref e2, .int (iI m3), .long (lI fc), .long (lI sc), .long (lI fd), .long (lI sd)])), (b1, .inl (cJ, 20, .inr (.inl (zJ k1)))), (b2, .inl (cJ, 20, .inr (.inl (zJ k2)))), (e1, .inl (cJ, 20, .inr (.inl (zJ k3)))), (e2, .inl (cJ, 20, .inr (.inl (zJ k4)))), (h0, .inr (2, [.ref q1, .ref q2, .ref q3, .int (iI n)])), (q1, .inl (cI, 20, .inl (zA ft))), (q2, .inl (cI, 20, .inl (zA fx))), (q3, .inl (cI, 20, .inl (zA fy)))] H := hP.sub [4, 5, 6, 7, 8, 0, 1, 2, 3] rfl
              have hD : va_D A [(hs, .inr (3, [.ref b1, .ref b2, .ref e1, .ref e2, .int (iI m3), .long (lI fc), .long (lI sc), .long (lI fd), .long (lI sd)])), (b1, .inl (cJ, 20, .inr (.inl (zJ k1)))), (b2, .inl (cJ, 20, .inr (.inl (zJ k2)))), (e1, .inl (cJ, 20, .inr (.inl (zJ k3)))), (e2, .inl (cJ, 20, .inr (.inl (zJ k4)))), (h0, .inr (2, [.ref q1, .ref q2, .ref q3, .int (iI n)])), (q1, .inl (cI, 20, .inl (zA ft))), (q2, .inl (cI, 20, .inl (zA fx))), (q3, .inl (cI, 20, .inl (zA fy)))] := hD.sub [4, 5, 6, 7, 8, 0, 1, 2, 3] (by decide) rfl
              have nok := noteZ_ok (ta := (ft 0)) (tb := (ft b)) (q := (fc, sc, fd, sd)) (s := (m2, c1, c2, d1, d2)) (ht _) (ht _) hw91.2.1 hw91.2.2 a4 (by have := a4.1; dsimp only at this ⊢; omega)
              rw [hw133] at nok
              refine lv_iinc (v := iI (b + 1)) (lv' := [(7, .int (iI (b + 1))), (8, .int (iI 0)), (0, .ref hs), (1, .ref h0), (2, .int (iI xl)), (3, .int (iI xh)), (4, .int (iI yl)), (5, .int (iI yh))]) hx hb dX3_find_136 hl (k := 7) rfl (iI_add _ _) (by decide) rfl (fun ls hl => ?_)
              refine lv_goto (tgt := 24) hx hb dX3_find_139 (by decide) ?_
              exact ih24 (b + 1) m3 k1 k2 k3 k4 fc sc fd sd _ _ _ ⟨(by omega), (by omega), (by rw [spX_z (by omega) (by omega) a3]; rw [stpZ_y hq (by omega), hw133]), (nok.1), (by have := nok.2; dsimp only at this; omega)⟩ (by omega) hP hD hS (lv_sub hl [2, 3, 4, 5, 6, 7, 0] rfl)
          · skip
            refine lv_iload hx hb dX3_find_38 (lv_at hl 6 rfl) ?_
            refine lv_iconst (v := iI 1) hx hb dX3_find_40 rfl ?_
            refine wz_isub hx hb dX3_find_41 ?_
            refine lv_goto (tgt := 46) hx hb dX3_find_42 (by decide) ?_
            refine lv_istore (lv' := [(8, .int (iI (b - 1))), (0, .ref hs), (1, .ref h0), (2, .int (iI xl)), (3, .int (iI xh)), (4, .int (iI yl)), (5, .int (iI yh)), (7, .int (iI b))]) hx hb dX3_find_46 hl (by decide) rfl (fun ls hl => ?_)
            refine lv_aload_n hx hb dX3_find_48 rfl (lv_at hl 1 rfl) ?_
            refine wz_callv (wr := [(b1, .inl (cJ, 20, .inr (.inl (zJ c1)))), (b2, .inl (cJ, 20, .inr (.inl (zJ c2)))), (e1, .inl (cJ, 20, .inr (.inl (zJ d1)))), (e2, .inl (cJ, 20, .inr (.inl (zJ d2)))), (h0, .inr (2, [.ref q1, .ref q2, .ref q3, .int (iI n)])), (q1, .inl (cI, 20, .inl (zA ft))), (q2, .inl (cI, 20, .inl (zA fx))), (q3, .inl (cI, 20, .inl (zA fy)))]) (va_runV (As := []) (rest := []) ⟨hx, hb, hml, hown, hts⟩ (k_X3_takeWholeStretch l D cI cJ cT H.size hs b1 b2 e1 e2 m2 f0 s0 f1 s1 ) (cwV 0 hts gX3_find_X3_takeWholeStretch rfl rfl rfl (by decide +kernel) ⟨Nat.le_of_ble_eq_true rfl, Nat.le_of_ble_eq_true rfl⟩) (wz_preV hK hP hD [0] (by decide) rfl rfl 3 0 rfl rfl) rfl rfl hl.1 rfl (lv_room (Nat.le_of_ble_eq_true rfl)) dX3_find_49 ⟨Nat.le_of_ble_eq_true rfl, Nat.le_of_ble_eq_true rfl⟩) hP hD hS hA [0] [1, 2, 3, 4, 5, 6, 7, 8] rfl rfl rfl (by decide) (fun  u H locs hw49 hP hD hS => ?_)
            have hP : va_P D vwCl [(hs, .inr (3, [.ref b1, .ref b2, .ref e1, .ref e2, .int (iI m2), .long (lI 0), .long (lI 1), .long (lI 1), .long (lI 1)])), (b1, .inl (cJ, 20, .inr (.inl (zJ c1)))), (b2, .inl (cJ, 20, .inr (.inl (zJ c2)))), (e1, .inl (cJ, 20, .inr (.inl (zJ d1)))), (e2, .inl (cJ, 20, .inr (.inl (zJ d2)))), (h0, .inr (2, [.ref q1, .ref q2, .ref q3, .int (iI n)])), (q1, .inl (cI, 20, .inl (zA ft))), (q2, .inl (cI, 20, .inl (zA fx))), (q3, .inl (cI, 20, .inl (zA fy)))] H := hP.sub [8, 0, 1, 2, 3, 4, 5, 6, 7] rfl
            have hD : va_D A [(hs, .inr (3, [.ref b1, .ref b2, .ref e1, .ref e2, .int (iI m2), .long (lI 0), .long (lI 1), .long (lI 1), .long (lI 1)])), (b1, .inl (cJ, 20, .inr (.inl (zJ c1)))), (b2, .inl (cJ, 20, .inr (.inl (zJ c2)))), (e1, .inl (cJ, 20, .inr (.inl (zJ d1)))), (e2, .inl (cJ, 20, .inr (.inl (zJ d2)))), (h0, .inr (2, [.ref q1, .ref q2, .ref q3, .int (iI n)])), (q1, .inl (cI, 20, .inl (zA ft))), (q2, .inl (cI, 20, .inl (zA fx))), (q3, .inl (cI, 20, .inl (zA fy)))] := hD.sub [8, 0, 1, 2, 3, 4, 5, 6, 7] (by decide) rfl
            refine lv_aload_n hx hb dX3_find_52 rfl (lv_at hl 1 rfl) ?_
            refine lv_aload_n hx hb dX3_find_53 rfl (lv_at hl 2 rfl) ?_
            refine va_get (D := D) (ci := 2) (v := .ref q2) (C := RX2) (T := TX2) (N := 4) hx hb hts hin2 hown hK hP 5 rfl rfl 1 (by decide) (hts (.fieldLink RX3 34 "DriftLog$Row" "xs" "[I") (by decide +kernel)) (fun _ h9 => h9) rfl dX3_find_54 ?_
            refine lv_iload hx hb dX3_find_57 (lv_at hl 0 rfl) ?_
            refine wz_iald (tys := TY cI cJ cT) hx hb hK hP 7 0 rfl rfl (by decide) (by constructor <;> omega) dX3_find_59 ?_
            refine lv_aload_n hx hb dX3_find_60 rfl (lv_at hl 2 rfl) ?_
            refine va_get (D := D) (ci := 2) (v := .ref q2) (C := RX2) (T := TX2) (N := 4) hx hb hts hin2 hown hK hP 5 rfl rfl 1 (by decide) (hts (.fieldLink RX3 34 "DriftLog$Row" "xs" "[I") (by decide +kernel)) (fun _ h9 => h9) rfl dX3_find_61 ?_
            refine lv_iload hx hb dX3_find_64 (lv_at hl 7 rfl) ?_
            refine wz_iald (tys := TY cI cJ cT) hx hb hK hP 7 0 rfl rfl (by decide) (by constructor <;> omega) dX3_find_66 ?_
            refine lv_iload_n hx hb dX3_find_67 rfl (lv_at hl 3 rfl) ?_
            refine lv_iload_n hx hb dX3_find_68 rfl (lv_at hl 4 rfl) ?_
            refine wz_callv (wr := [(b1, .inl (cJ, 20, .inr (.inl (zJ c1)))), (b2, .inl (cJ, 20, .inr (.inl (zJ c2)))), (e1, .inl (cJ, 20, .inr (.inl (zJ d1)))), (e2, .inl (cJ, 20, .inr (.inl (zJ d2)))), (h0, .inr (2, [.ref q1, .ref q2, .ref q3, .int (iI n)])), (q1, .inl (cI, 20, .inl (zA ft))), (q2, .inl (cI, 20, .inl (zA fx))), (q3, .inl (cI, 20, .inl (zA fy)))]) (va_runV (As := [.int (iI (fx (b - 1))), .int (iI (fx b)), .int (iI xl), .int (iI xh)]) (rest := []) ⟨hx, hb, hml, hown, hts⟩ (k_X3_narrow l D cI cJ cT H.size hs b1 b2 e1 e2 m2 0 1 1 1 (fx (b - 1)) (fx b) xl xh (⟨⟨by omega, by omega⟩, by omega, by omega⟩) (⟨⟨by omega, by omega⟩, by omega, by omega⟩) (hx1 _) (hx1 _) (hxl) (hxh)) (cwV 4 hts gX3_find_X3_narrow rfl rfl rfl (by decide +kernel) ⟨Nat.le_of_ble_eq_true rfl, Nat.le_of_ble_eq_true rfl⟩) (wz_preV hK hP hD [0] (by decide) rfl rfl 3 0 rfl rfl) rfl rfl hl.1 rfl (lv_room (Nat.le_of_ble_eq_true rfl)) dX3_find_69 ⟨Nat.le_of_ble_eq_true rfl, Nat.le_of_ble_eq_true rfl⟩) hP hD hS hA [0] [1, 2, 3, 4, 5, 6, 7, 8] rfl rfl rfl (by decide) (fun  u H locs hw69 hP hD hS => ?_)
            obtain ⟨fa, sa, fb, sb⟩ := u
            try dsimp only at hw69
            have hP : va_P D vwCl [(hs, .inr (3, [.ref b1, .ref b2, .ref e1, .ref e2, .int (iI m2), .long (lI fa), .long (lI sa), .long (lI fb), .long (lI sb)])), (b1, .inl (cJ, 20, .inr (.inl (zJ c1)))), (b2, .inl (cJ, 20, .inr (.inl (zJ c2)))), (e1, .inl (cJ, 20, .inr (.inl (zJ d1)))), (e2, .inl (cJ, 20, .inr (.inl (zJ d2)))), (h0, .inr (2, [.ref q1, .ref q2, .ref q3, .int (iI n)])), (q1, .inl (cI, 20, .inl (zA ft))), (q2, .inl (cI, 20, .inl (zA fx))), (q3, .inl (cI, 20, .inl (zA fy)))] H := hP.sub [8, 0, 1, 2, 3, 4, 5, 6, 7] rfl
            have hD : va_D A [(hs, .inr (3, [.ref b1, .ref b2, .ref e1, .ref e2, .int (iI m2), .long (lI fa), .long (lI sa), .long (lI fb), .long (lI sb)])), (b1, .inl (cJ, 20, .inr (.inl (zJ c1)))), (b2, .inl (cJ, 20, .inr (.inl (zJ c2)))), (e1, .inl (cJ, 20, .inr (.inl (zJ d1)))), (e2, .inl (cJ, 20, .inr (.inl (zJ d2)))), (h0, .inr (2, [.ref q1, .ref q2, .ref q3, .int (iI n)])), (q1, .inl (cI, 20, .inl (zA ft))), (q2, .inl (cI, 20, .inl (zA fx))), (q3, .inl (cI, 20, .inl (zA fy)))] := hD.sub [8, 0, 1, 2, 3, 4, 5, 6, 7] (by decide) rfl
            refine lv_aload_n hx hb dX3_find_72 rfl (lv_at hl 1 rfl) ?_
            refine lv_aload_n hx hb dX3_find_73 rfl (lv_at hl 2 rfl) ?_
            refine va_get (D := D) (ci := 2) (v := .ref q3) (C := RX2) (T := TX2) (N := 4) hx hb hts hin2 hown hK hP 5 rfl rfl 2 (by decide) (hts (.fieldLink RX3 42 "DriftLog$Row" "ys" "[I") (by decide +kernel)) (fun _ h9 => h9) rfl dX3_find_74 ?_
            refine lv_iload hx hb dX3_find_77 (lv_at hl 0 rfl) ?_
            refine wz_iald (tys := TY cI cJ cT) hx hb hK hP 8 0 rfl rfl (by decide) (by constructor <;> omega) dX3_find_79 ?_
            refine lv_aload_n hx hb dX3_find_80 rfl (lv_at hl 2 rfl) ?_
            refine va_get (D := D) (ci := 2) (v := .ref q3) (C := RX2) (T := TX2) (N := 4) hx hb hts hin2 hown hK hP 5 rfl rfl 2 (by decide) (hts (.fieldLink RX3 42 "DriftLog$Row" "ys" "[I") (by decide +kernel)) (fun _ h9 => h9) rfl dX3_find_81 ?_
            refine lv_iload hx hb dX3_find_84 (lv_at hl 7 rfl) ?_
            refine wz_iald (tys := TY cI cJ cT) hx hb hK hP 8 0 rfl rfl (by decide) (by constructor <;> omega) dX3_find_86 ?_
            refine lv_iload hx hb dX3_find_87 (lv_at hl 5 rfl) ?_
            refine lv_iload hx hb dX3_find_89 (lv_at hl 6 rfl) ?_
            refine wz_callv (wr := [(b1, .inl (cJ, 20, .inr (.inl (zJ c1)))), (b2, .inl (cJ, 20, .inr (.inl (zJ c2)))), (e1, .inl (cJ, 20, .inr (.inl (zJ d1)))), (e2, .inl (cJ, 20, .inr (.inl (zJ d2)))), (h0, .inr (2, [.ref q1, .ref q2, .ref q3, .int (iI n)])), (q1, .inl (cI, 20, .inl (zA ft))), (q2, .inl (cI, 20, .inl (zA fx))), (q3, .inl (cI, 20, .inl (zA fy)))]) (va_runV (As := [.int (iI (fy (b - 1))), .int (iI (fy b)), .int (iI yl), .int (iI yh)]) (rest := []) ⟨hx, hb, hml, hown, hts⟩ (k_X3_narrow l D cI cJ cT H.size hs b1 b2 e1 e2 m2 fa sa fb sb (fy (b - 1)) (fy b) yl yh (hw69.2.1) (hw69.2.2) (hy1 _) (hy1 _) (hyl) (hyh)) (cwV 4 hts gX3_find_X3_narrow rfl rfl rfl (by decide +kernel) ⟨Nat.le_of_ble_eq_true rfl, Nat.le_of_ble_eq_true rfl⟩) (wz_preV hK hP hD [0] (by decide) rfl rfl 3 0 rfl rfl) rfl rfl hl.1 rfl (lv_room (Nat.le_of_ble_eq_true rfl)) dX3_find_91 ⟨Nat.le_of_ble_eq_true rfl, Nat.le_of_ble_eq_true rfl⟩) hP hD hS hA [0] [1, 2, 3, 4, 5, 6, 7, 8] rfl rfl rfl (by decide) (fun  u H locs hw91 hP hD hS => ?_)
            obtain ⟨fc, sc, fd, sd⟩ := u
            try dsimp only at hw91
            have hP : va_P D vwCl [(hs, .inr (3, [.ref b1, .ref b2, .ref e1, .ref e2, .int (iI m2), .long (lI fc), .long (lI sc), .long (lI fd), .long (lI sd)])), (b1, .inl (cJ, 20, .inr (.inl (zJ c1)))), (b2, .inl (cJ, 20, .inr (.inl (zJ c2)))), (e1, .inl (cJ, 20, .inr (.inl (zJ d1)))), (e2, .inl (cJ, 20, .inr (.inl (zJ d2)))), (h0, .inr (2, [.ref q1, .ref q2, .ref q3, .int (iI n)])), (q1, .inl (cI, 20, .inl (zA ft))), (q2, .inl (cI, 20, .inl (zA fx))), (q3, .inl (cI, 20, .inl (zA fy)))] H := hP.sub [8, 0, 1, 2, 3, 4, 5, 6, 7] rfl
            have hD : va_D A [(hs, .inr (3, [.ref b1, .ref b2, .ref e1, .ref e2, .int (iI m2), .long (lI fc), .long (lI sc), .long (lI fd), .long (lI sd)])), (b1, .inl (cJ, 20, .inr (.inl (zJ c1)))), (b2, .inl (cJ, 20, .inr (.inl (zJ c2)))), (e1, .inl (cJ, 20, .inr (.inl (zJ d1)))), (e2, .inl (cJ, 20, .inr (.inl (zJ d2)))), (h0, .inr (2, [.ref q1, .ref q2, .ref q3, .int (iI n)])), (q1, .inl (cI, 20, .inl (zA ft))), (q2, .inl (cI, 20, .inl (zA fx))), (q3, .inl (cI, 20, .inl (zA fy)))] := hD.sub [8, 0, 1, 2, 3, 4, 5, 6, 7] (by decide) rfl
            have hq : nwZ (fy (b - 1)) (fy b) yl yh (nwZ (fx (b - 1)) (fx b) xl xh (0, 1, 1, 1)) = (fc, sc, fd, sd) := by rw [hw69.1]; exact hw91.1
            have r1 := mul27 hw91.2.1.1 (frR_27 hw91.2.2)
            have r2 := mul27 hw91.2.2.1 (frR_27 hw91.2.1)
            refine lv_aload_n hx hb dX3_find_94 rfl (lv_at hl 1 rfl) ?_
            refine va_get (D := D) (ci := 3) (v := .long (lI fc)) (C := RX3) (T := TX3) (N := 9) hx hb hts hin3 hown hK hP 0 rfl rfl 5 (by decide) (hts (.fieldLink RX3 45 "DriftLog$SpanRow" "fromFirst" "J") (by decide +kernel)) (fun _ h9 => h9) rfl dX3_find_95 ?_
            refine lv_aload_n hx hb dX3_find_98 rfl (lv_at hl 1 rfl) ?_
            refine va_get (D := D) (ci := 3) (v := .long (lI sd)) (C := RX3) (T := TX3) (N := 9) hx hb hts hin3 hown hK hP 0 rfl rfl 8 (by decide) (hts (.fieldLink RX3 49 "DriftLog$SpanRow" "toSecond" "J") (by decide +kernel)) (fun _ h9 => h9) rfl dX3_find_99 ?_
            refine wz_lmul hx hb dX3_find_102 ?_
            refine lv_aload_n hx hb dX3_find_103 rfl (lv_at hl 1 rfl) ?_
            refine va_get (D := D) (ci := 3) (v := .long (lI fd)) (C := RX3) (T := TX3) (N := 9) hx hb hts hin3 hown hK hP 0 rfl rfl 7 (by decide) (hts (.fieldLink RX3 52 "DriftLog$SpanRow" "toFirst" "J") (by decide +kernel)) (fun _ h9 => h9) rfl dX3_find_104 ?_
            refine lv_aload_n hx hb dX3_find_107 rfl (lv_at hl 1 rfl) ?_
            refine va_get (D := D) (ci := 3) (v := .long (lI sc)) (C := RX3) (T := TX3) (N := 9) hx hb hts hin3 hown hK hP 0 rfl rfl 6 (by decide) (hts (.fieldLink RX3 55 "DriftLog$SpanRow" "fromSecond" "J") (by decide +kernel)) (fun _ h9 => h9) rfl dX3_find_108 ?_
            refine wz_lmul hx hb dX3_find_111 ?_
            refine W.lcmp hx hb dX3_find_112 ?_
            refine wz_lif_gt (tgt := 136) hx hb dX3_find_113 (by decide) (by constructor <;> omega) (by constructor <;> omega) (fun c113 => ?_) (fun c113 => ?_)
            · skip
              refine lv_iinc (v := iI (b + 1)) (lv' := [(7, .int (iI (b + 1))), (8, .int (iI (b - 1))), (0, .ref hs), (1, .ref h0), (2, .int (iI xl)), (3, .int (iI xh)), (4, .int (iI yl)), (5, .int (iI yh))]) hx hb dX3_find_136 hl (k := 7) rfl (iI_add _ _) (by decide) rfl (fun ls hl => ?_)
              refine lv_goto (tgt := 24) hx hb dX3_find_139 (by decide) ?_
              exact ih24 (b + 1) m2 c1 c2 d1 d2 fc sc fd sd _ _ _ ⟨(by omega), (by omega), (by rw [spX_s (by omega) (by omega), a3]; rw [stpZ_n hq (by dsimp only; omega)]), (a4), (by omega)⟩ (by omega) hP hD hS (lv_sub hl [2, 3, 4, 5, 6, 7, 0] rfl)
            · skip
              refine lv_aload_n hx hb dX3_find_116 rfl (lv_at hl 1 rfl) ?_
              refine lv_aload_n hx hb dX3_find_117 rfl (lv_at hl 2 rfl) ?_
              refine va_get (D := D) (ci := 2) (v := .ref q1) (C := RX2) (T := TX2) (N := 4) hx hb hts hin2 hown hK hP 5 rfl rfl 0 (by decide) (hts (.fieldLink RX3 58 "DriftLog$Row" "times" "[I") (by decide +kernel)) (fun _ h9 => h9) rfl dX3_find_118 ?_
              refine lv_iload hx hb dX3_find_121 (lv_at hl 0 rfl) ?_
              refine wz_iald (tys := TY cI cJ cT) hx hb hK hP 6 0 rfl rfl (by decide) (by constructor <;> omega) dX3_find_123 ?_
              refine wz_i2l hx hb dX3_find_124 (by have := ht (b - 1); have := ht 0; constructor <;> omega) ?_
              refine lv_aload_n hx hb dX3_find_125 rfl (lv_at hl 2 rfl) ?_
              refine va_get (D := D) (ci := 2) (v := .ref q1) (C := RX2) (T := TX2) (N := 4) hx hb hts hin2 hown hK hP 5 rfl rfl 0 (by decide) (hts (.fieldLink RX3 58 "DriftLog$Row" "times" "[I") (by decide +kernel)) (fun _ h9 => h9) rfl dX3_find_126 ?_
              refine lv_iload hx hb dX3_find_129 (lv_at hl 7 rfl) ?_
              refine wz_iald (tys := TY cI cJ cT) hx hb hK hP 6 0 rfl rfl (by decide) (by constructor <;> omega) dX3_find_131 ?_
              refine wz_i2l hx hb dX3_find_132 (by have := ht b; constructor <;> omega) ?_
              refine wz_callv (wr := [(h0, .inr (2, [.ref q1, .ref q2, .ref q3, .int (iI n)])), (q1, .inl (cI, 20, .inl (zA ft))), (q2, .inl (cI, 20, .inl (zA fx))), (q3, .inl (cI, 20, .inl (zA fy)))]) (va_runV (As := [.long (lI (ft (b - 1))), .long (lI (ft b))]) (rest := []) ⟨hx, hb, hml, hown, hts⟩ (k_X3_note l D cI cJ cT H.size hs b1 b2 e1 e2 m2 fc sc fd sd c1 c2 d1 d2 (ft (b - 1)) (ft b) (by have := a4.1; dsimp only at this; omega) (a4.2.2.1.1) (a4.2.2.1.2) (ht _)) (cwV 2 hts gX3_find_X3_note rfl rfl rfl (by decide +kernel) ⟨Nat.le_of_ble_eq_true rfl, Nat.le_of_ble_eq_true rfl⟩) (wz_preV hK hP hD [0, 1, 2, 3, 4] (by decide) rfl rfl 3 0 rfl rfl) rfl rfl hl.1 rfl (lv_room (Nat.le_of_ble_eq_true rfl)) dX3_find_133 ⟨Nat.le_of_ble_eq_true rfl, Nat.le_of_ble_eq_true rfl⟩) hP hD hS hA [0, 1, 2, 3, 4] [5, 6, 7, 8] rfl rfl rfl (by decide) (fun  u H locs hw133 hP hD hS => ?_)
              obtain ⟨m3, k1, k2, k3, k4⟩ := u
              try dsimp only at hw133
              have hP : va_P D vwCl [(hs, .inr (3, [.ref b1, .ref b2, .ref e1, .ref e2, .int (iI m3), .long (lI fc), .long (lI sc), .long (lI fd), .long (lI sd)])), (b1, .inl (cJ, 20, .inr (.inl (zJ k1)))), (b2, .inl (cJ, 20, .inr (.inl (zJ k2)))), (e1, .inl (cJ, 20, .inr (.inl (zJ k3)))), (e2, .inl (cJ, 20, .inr (.inl (zJ k4)))), (h0, .inr (2, [.ref q1, .ref q2, .ref q3, .int (iI n)])), (q1, .inl (cI, 20, .inl (zA ft))), (q2, .inl (cI, 20, .inl (zA fx))), (q3, .inl (cI, 20, .inl (zA fy)))] H := hP.sub [4, 5, 6, 7, 8, 0, 1, 2, 3] rfl
              have hD : va_D A [(hs, .inr (3, [.ref b1, .ref b2, .ref e1, .ref e2, .int (iI m3), .long (lI fc), .long (lI sc), .long (lI fd), .long (lI sd)])), (b1, .inl (cJ, 20, .inr (.inl (zJ k1)))), (b2, .inl (cJ, 20, .inr (.inl (zJ k2)))), (e1, .inl (cJ, 20, .inr (.inl (zJ k3)))), (e2, .inl (cJ, 20, .inr (.inl (zJ k4)))), (h0, .inr (2, [.ref q1, .ref q2, .ref q3, .int (iI n)])), (q1, .inl (cI, 20, .inl (zA ft))), (q2, .inl (cI, 20, .inl (zA fx))), (q3, .inl (cI, 20, .inl (zA fy)))] := hD.sub [4, 5, 6, 7, 8, 0, 1, 2, 3] (by decide) rfl
              have nok := noteZ_ok (ta := (ft (b - 1))) (tb := (ft b)) (q := (fc, sc, fd, sd)) (s := (m2, c1, c2, d1, d2)) (ht _) (ht _) hw91.2.1 hw91.2.2 a4 (by have := a4.1; dsimp only at this ⊢; omega)
              rw [hw133] at nok
              refine lv_iinc (v := iI (b + 1)) (lv' := [(7, .int (iI (b + 1))), (8, .int (iI (b - 1))), (0, .ref hs), (1, .ref h0), (2, .int (iI xl)), (3, .int (iI xh)), (4, .int (iI yl)), (5, .int (iI yh))]) hx hb dX3_find_136 hl (k := 7) rfl (iI_add _ _) (by decide) rfl (fun ls hl => ?_)
              refine lv_goto (tgt := 24) hx hb dX3_find_139 (by decide) ?_
              exact ih24 (b + 1) m3 k1 k2 k3 k4 fc sc fd sd _ _ _ ⟨(by omega), (by omega), (by rw [spX_s (by omega) (by omega), a3]; rw [stpZ_y hq (by omega), hw133]), (nok.1), (by have := nok.2; dsimp only at this; omega)⟩ (by omega) hP hD hS (lv_sub hl [2, 3, 4, 5, 6, 7, 0] rfl)
    exact LP24 (Int.toNat (n - 0) + 1) 0 0 bF bS eF eS ff fs tf ts _ _ _ ⟨(by omega), (fun q => by omega), (by unfold spX; rw [if_pos c10]; rfl), (hok), (by omega)⟩ (by omega) hP hD hS (lv_sub hl [2, 3, 4, 5, 6, 7, 0] rfl)
