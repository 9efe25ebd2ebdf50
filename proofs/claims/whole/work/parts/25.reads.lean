set_option maxHeartbeats 4000000 in
set_option maxRecDepth 100000 in
theorem k_X1_readMove (l : Launch) (D : va_G) (cI cJ cT : ClassId) (sz : Nat) (h1r : Nat) (qr : Nat) (at1 : Int) (fa : Int) (hb0 : Nat) (qb : Nat) (fb : Int → Int) (nb : Int) (bf : Int) (hB : okB fb) (hnb : 0 ≤ nb ∧ nb ≤ 300) (hat : 0 ≤ at1 ∧ at1 ≤ nb) (hfa : rI fa) (hbf : -8388608 ≤ bf ∧ bf ≤ 8388608) : Met l yX1_readMove wsX1_readMove { frames := 1, cells := 0, slots := 0, locals := 37 } (zPc D (TY cI cJ cT) [.ref h1r, .ref hb0, .int (iI bf)] [(h1r, .inr (1, [.ref qr, .int (iI at1), .int (iI fa)])), (hb0, .inr (0, [.ref qb, .int (iI nb)])), (qb, .inl (cI, 300, .inl (zA fb)))] sz) (zQi D (TY cI cJ cT) (va_A [(h1r, .inr (1, [.ref qr, .int (iI at1), .int (iI fa)])), (hb0, .inr (0, [.ref qb, .int (iI nb)])), (qb, .inl (cI, 300, .inl (zA fb)))] sz) (fun (z : Int) (u : Int × Int) => (fa = -1 → u.1 = (rdM fb nb at1 bf).2.2 ∧ (((rdM fb nb at1 bf).1 = 1 ∧ bf + z = (rdM fb nb at1 bf).2.1 ∧ u.2 = -1) ∨ ((rdM fb nb at1 bf).1 = 0 ∧ z = 0 ∧ u.2 = (rdM fb nb at1 bf).2.2))) ∧ (fa ≠ -1 → z = 0 ∧ u.1 = at1 ∧ u.2 = fa)) (fun (u : Int × Int) => [(h1r, .inr (1, [.ref qr, .int (iI u.1), .int (iI u.2)])), (hb0, .inr (0, [.ref qb, .int (iI nb)])), (qb, .inl (cI, 300, .inl (zA fb)))])) 0 0 (va_A [(h1r, .inr (1, [.ref qr, .int (iI at1), .int (iI fa)])), (hb0, .inr (0, [.ref qb, .int (iI nb)])), (qb, .inl (cI, 300, .inl (zA fb)))] sz) := by
  refine zMi (cc := cX1_readMove) (maxL := 8) (ret := (some .int)) (by decide) rfl (Nat.le_of_ble_eq_true rfl) ?_
  intro p e s m below meth c A ls hE
  obtain ⟨hx, hb, hr, hts, hown, hlocks, hml, hnm, hP, hK, hD, hA, hS, hl⟩ := hE
  have hown : s.vm.findClass RX1 = some m.cls := hown
  have hl : lv_has ls 8 [(0, .ref h1r), (1, .ref hb0), (2, .int (iI bf))] := hl
  obtain ⟨Q, hQ⟩ : ∃ Q, Q = MQ below (zQi D (TY cI cJ cT) A (fun (z : Int) (u : Int × Int) => (fa = -1 → u.1 = (rdM fb nb at1 bf).2.2 ∧ (((rdM fb nb at1 bf).1 = 1 ∧ bf + z = (rdM fb nb at1 bf).2.1 ∧ u.2 = -1) ∨ ((rdM fb nb at1 bf).1 = 0 ∧ z = 0 ∧ u.2 = (rdM fb nb at1 bf).2.2))) ∧ (fa ≠ -1 → z = 0 ∧ u.1 = at1 ∧ u.2 = fa)) (fun (u : Int × Int) => [(h1r, .inr (1, [.ref qr, .int (iI u.1), .int (iI u.2)])), (hb0, .inr (0, [.ref qb, .int (iI nb)])), (qb, .inl (cI, 300, .inl (zA fb)))])) ([.ref h1r, .ref hb0, .int (iI bf)] : List Value).toArray s 0 0 A := ⟨_, rfl⟩
  rw [← hQ]
  refine lv_ldc2 (v := 2) hx hb hown (hts (.constantLong RX1 60 (2)) (by decide +kernel)) dX1_readMove_0 ?_
  refine wz_topl (show (2 : Int64) = lI 2 by decide) ?_
  refine lv_ldc (v := 8388608) hx hb hown (hts (.constant RX1 62 (8388608)) (by decide +kernel)) dX1_readMove_3 ?_
  refine wz_topi (show (8388608 : Int32) = iI 8388608 by decide) ?_
  refine lv_iload_n hx hb dX1_readMove_5 rfl (lv_at hl 2 rfl) ?_
  refine wz_isub hx hb dX1_readMove_6 ?_
  refine wz_i2l hx hb dX1_readMove_7 ⟨by omega, by omega⟩ ?_
  refine wz_lmul hx hb dX1_readMove_8 ?_
  refine lv_lstore_n (lv' := [(3, .long (lI (2 * (8388608 - bf)))), (0, .ref h1r), (1, .ref hb0), (2, .int (iI bf))]) hx hb dX1_readMove_9 rfl hl (by decide) rfl (fun ls hl => ?_)
  refine lv_ldc2 (v := 2) hx hb hown (hts (.constantLong RX1 60 (2)) (by decide +kernel)) dX1_readMove_10 ?_
  refine wz_topl (show (2 : Int64) = lI 2 by decide) ?_
  refine lv_ldc (v := 8388608) hx hb hown (hts (.constant RX1 62 (8388608)) (by decide +kernel)) dX1_readMove_13 ?_
  refine wz_topi (show (8388608 : Int32) = iI 8388608 by decide) ?_
  refine lv_iload_n hx hb dX1_readMove_15 rfl (lv_at hl 3 rfl) ?_
  refine wz_iadd hx hb dX1_readMove_16 ?_
  refine wz_i2l hx hb dX1_readMove_17 ⟨by omega, by omega⟩ ?_
  refine wz_lmul hx hb dX1_readMove_18 ?_
  refine lv_lconst (v := lI 1) hx hb dX1_readMove_19 (by decide) ?_
  refine wz_lsub hx hb dX1_readMove_20 ?_
  refine lv_lstore (lv' := [(5, .long (lI ((2 * (8388608 + bf)) - 1))), (3, .long (lI (2 * (8388608 - bf)))), (0, .ref h1r), (1, .ref hb0), (2, .int (iI bf))]) hx hb dX1_readMove_21 hl (by decide) rfl (fun ls hl => ?_)
  refine lv_aload_n hx hb dX1_readMove_23 rfl (lv_at hl 2 rfl) ?_
  refine lv_aload_n hx hb dX1_readMove_24 rfl (lv_at hl 3 rfl) ?_
  refine lv_lconst (v := lI 0) hx hb dX1_readMove_25 (by decide) ?_
  refine lv_lload_n hx hb dX1_readMove_26 rfl (lv_at hl 1 rfl) ?_
  refine lv_lload hx hb dX1_readMove_27 (lv_at hl 0 rfl) ?_
  refine wz_calll (wr := []) (va_runV (As := [.ref hb0, .long (lI 0), .long (lI (2 * (8388608 - bf))), .long (lI ((2 * (8388608 + bf)) - 1))]) (rest := []) ⟨hx, hb, hml, hown, hts⟩ (k_X1_readNumber l D cI cJ cT s.heap.size h1r qr at1 fa hb0 qb fb nb 0 (2 * (8388608 - bf)) ((2 * (8388608 + bf)) - 1) (hB) (hnb) (hat) (hfa) (by decide) (by constructor <;> omega) (by constructor <;> omega)) (cwV 4 hts gX1_readMove_X1_readNumber rfl rfl rfl (by decide +kernel) ⟨Nat.le_of_ble_eq_true rfl, Nat.le_of_ble_eq_true rfl⟩) (wz_preV hK hP hD [0, 1, 2] (by decide) rfl rfl 1 0 rfl rfl) rfl rfl hl.1 rfl (lv_room (Nat.le_of_ble_eq_true rfl)) dX1_readMove_29 ⟨Nat.le_of_ble_eq_true rfl, Nat.le_of_ble_eq_true rfl⟩) hP hD hS hA [0, 1, 2] [] rfl rfl rfl (by decide) (fun z29 u H locs hw29 hP hD hS => ?_)
  obtain ⟨at2, fa2⟩ := u
  try dsimp only at hw29
  have hP : va_P D vwCl [(h1r, .inr (1, [.ref qr, .int (iI at2), .int (iI fa2)])), (hb0, .inr (0, [.ref qb, .int (iI nb)])), (qb, .inl (cI, 300, .inl (zA fb)))] H := hP.sub [0, 1, 2] rfl
  have hD : va_D A [(h1r, .inr (1, [.ref qr, .int (iI at2), .int (iI fa2)])), (hb0, .inr (0, [.ref qb, .int (iI nb)])), (qb, .inl (cI, 300, .inl (zA fb)))] := hD.sub [0, 1, 2] (by decide) rfl
  obtain ⟨g1, g2, g3, g4⟩ := rdN_r 5 fb nb at1 1 0 0 (2 * (8388608 - bf)) (2 * (8388608 + bf) - 1) hB hat.1 hat.2 (by decide) (by decide)
  have rz : 0 ≤ z29 ∧ z29 ≤ 33554432 := by
      rcases Classical.em (fa = -1) with q | q
      · rcases (hw29.1 q).2 with q2 | q2
        · have q3 := g4 q2.1
          have q4 := mostZ_le (v := (rdN 5 fb nb at1 1 0 0 (2 * (8388608 - bf)) (2 * (8388608 + bf) - 1)).2.1) (M := 33554432) (show 2 * (8388608 - bf) ≤ 33554432 by omega) (show 2 * (8388608 + bf) - 1 ≤ 33554432 by omega)
          rw [q2.2.1]; omega
        · rw [q2.2.1]; decide
      · rw [(hw29.2 q).1]; decide
  refine wz_l2i hx hb dX1_readMove_32 ?_
  refine lv_istore (lv' := [(7, .int (iI z29)), (5, .long (lI ((2 * (8388608 + bf)) - 1))), (3, .long (lI (2 * (8388608 - bf)))), (0, .ref h1r), (1, .ref hb0), (2, .int (iI bf))]) hx hb dX1_readMove_33 hl (by decide) rfl (fun ls hl => ?_)
  refine lv_iload hx hb dX1_readMove_35 (lv_at hl 0 rfl) ?_
  refine lv_iconst (v := iI 1) hx hb dX1_readMove_37 rfl ?_
  refine lv_iushr hx hb dX1_readMove_38 rfl ?_
  refine lv_iload hx hb dX1_readMove_39 (lv_at hl 0 rfl) ?_
  refine lv_iconst (v := iI 1) hx hb dX1_readMove_41 rfl ?_
  refine lv_iand hx hb dX1_readMove_42 ?_
  refine lv_ineg hx hb dX1_readMove_43 ?_
  refine lv_ixor hx hb dX1_readMove_44 ?_
  refine wz_topi (y := iI (backZ z29)) (iI_back (by omega) (by omega)) ?_
  rw [hQ]
  exact wz_reti (tys := TY cI cJ cT) (at2, fa2) hx hb hr hlocks hK hP hD hS (by (try dsimp only); exact (⟨fun h => ⟨(hw29.1 h).1, (hw29.1 h).2.elim (fun q => Or.inl ⟨q.1, by rw [q.2.1]; rfl, q.2.2⟩) (fun q => Or.inr ⟨q.1, by rw [q.2.1]; rfl, q.2.2⟩)⟩, fun h => ⟨by rw [(hw29.2 h).1]; rfl, (hw29.2 h).2⟩⟩)) dX1_readMove_45
set_option maxHeartbeats 4000000 in
set_option maxRecDepth 100000 in
theorem k_X1_readSample (l : Launch) (D : va_G) (cI cJ cT : ClassId) (sz : Nat) (h1r : Nat) (qr : Nat) (at1 : Int) (hb0 : Nat) (qb : Nat) (fb : Int → Int) (nb : Int) (q1 : Nat) (q2 : Nat) (q3 : Nat) (ft : Int → Int) (fx : Int → Int) (fy : Int → Int) (n : Int) (bh : Int) (hB : okB fb) (hnb : 0 ≤ nb ∧ nb ≤ 300) (hat : 0 ≤ at1 ∧ at1 ≤ nb) (ht : okT ft) (hx1 : okC fx) (hy1 : okC fy) (hn : 0 ≤ n ∧ n < 20) (hbh : 0 ≤ bh ∧ bh < 20) : Met l yX1_readSample wsX1_readSample { frames := 2, cells := 0, slots := 0, locals := 64 } (zPc D (TY cI cJ cT) [.ref h1r, .ref hb0, .int (iI bh)] [(h1r, .inr (1, [.ref qr, .int (iI at1), .int (iI (-1))])), (hb0, .inr (0, [.ref qb, .int (iI nb)])), (qb, .inl (cI, 300, .inl (zA fb))), (qr, .inr (2, [.ref q1, .ref q2, .ref q3, .int (iI n)])), (q1, .inl (cI, 20, .inl (zA ft))), (q2, .inl (cI, 20, .inl (zA fx))), (q3, .inl (cI, 20, .inl (zA fy)))] sz) (zQv D (TY cI cJ cT) (va_A [(h1r, .inr (1, [.ref qr, .int (iI at1), .int (iI (-1))])), (hb0, .inr (0, [.ref qb, .int (iI nb)])), (qb, .inl (cI, 300, .inl (zA fb))), (qr, .inr (2, [.ref q1, .ref q2, .ref q3, .int (iI n)])), (q1, .inl (cI, 20, .inl (zA ft))), (q2, .inl (cI, 20, .inl (zA fx))), (q3, .inl (cI, 20, .inl (zA fy)))] sz) (fun (u : Int × Int × Int × (Int → Int) × (Int → Int) × (Int → Int)) => ((u.2.1 = -1 ∧ (rdS fb nb at1 (if n = 0 then 0 else 1) (2147483647 - bh - pvZ ft n) (pvZ ft n) (pvZ fx n) (pvZ fy n)).1 = 1 ∧ u.1 = (rdS fb nb at1 (if n = 0 then 0 else 1) (2147483647 - bh - pvZ ft n) (pvZ ft n) (pvZ fx n) (pvZ fy n)).2.2.2.2 ∧ u.2.2.1 = n + 1 ∧ u.2.2.2.1 = uZ ft n (rdS fb nb at1 (if n = 0 then 0 else 1) (2147483647 - bh - pvZ ft n) (pvZ ft n) (pvZ fx n) (pvZ fy n)).2.1 ∧ u.2.2.2.2.1 = uZ fx n (rdS fb nb at1 (if n = 0 then 0 else 1) (2147483647 - bh - pvZ ft n) (pvZ ft n) (pvZ fx n) (pvZ fy n)).2.2.1 ∧ u.2.2.2.2.2 = uZ fy n (rdS fb nb at1 (if n = 0 then 0 else 1) (2147483647 - bh - pvZ ft n) (pvZ ft n) (pvZ fx n) (pvZ fy n)).2.2.2.1) ∨ (u.2.1 ≠ -1 ∧ (rdS fb nb at1 (if n = 0 then 0 else 1) (2147483647 - bh - pvZ ft n) (pvZ ft n) (pvZ fx n) (pvZ fy n)).1 = 0 ∧ u.2.1 = (rdS fb nb at1 (if n = 0 then 0 else 1) (2147483647 - bh - pvZ ft n) (pvZ ft n) (pvZ fx n) (pvZ fy n)).2.2.2.2 ∧ u.2.2.1 = n ∧ u.2.2.2.1 = ft ∧ u.2.2.2.2.1 = fx ∧ u.2.2.2.2.2 = fy)) ∧ (0 ≤ u.1 ∧ u.1 ≤ nb) ∧ -1 ≤ u.2.1 ∧ u.2.1 ≤ nb) (fun (u : Int × Int × Int × (Int → Int) × (Int → Int) × (Int → Int)) => [(h1r, .inr (1, [.ref qr, .int (iI u.1), .int (iI u.2.1)])), (hb0, .inr (0, [.ref qb, .int (iI nb)])), (qb, .inl (cI, 300, .inl (zA fb))), (qr, .inr (2, [.ref q1, .ref q2, .ref q3, .int (iI u.2.2.1)])), (q1, .inl (cI, 20, .inl (zA u.2.2.2.1))), (q2, .inl (cI, 20, .inl (zA u.2.2.2.2.1))), (q3, .inl (cI, 20, .inl (zA u.2.2.2.2.2)))])) 0 0 (va_A [(h1r, .inr (1, [.ref qr, .int (iI at1), .int (iI (-1))])), (hb0, .inr (0, [.ref qb, .int (iI nb)])), (qb, .inl (cI, 300, .inl (zA fb))), (qr, .inr (2, [.ref q1, .ref q2, .ref q3, .int (iI n)])), (q1, .inl (cI, 20, .inl (zA ft))), (q2, .inl (cI, 20, .inl (zA fx))), (q3, .inl (cI, 20, .inl (zA fy)))] sz) := by
  refine zMv (cc := cX1_readSample) (maxL := 10) (ret := none) (by decide) rfl (Nat.le_of_ble_eq_true rfl) ?_
  intro p e s m below meth c A ls hE
  obtain ⟨hx, hb, hr, hts, hown, hlocks, hml, hnm, hP, hK, hD, hA, hS, hl⟩ := hE
  have hown : s.vm.findClass RX1 = some m.cls := hown
  have hl : lv_has ls 10 [(0, .ref h1r), (1, .ref hb0), (2, .int (iI bh))] := hl
  have hin1 : ∀ w ∈ wsX10, w ∈ wsX1_readSample := by decide +kernel
  have hin2 : ∀ w ∈ wsX20, w ∈ wsX1_readSample := by decide +kernel
  obtain ⟨Q, hQ⟩ : ∃ Q, Q = MQ below (zQv D (TY cI cJ cT) A (fun (u : Int × Int × Int × (Int → Int) × (Int → Int) × (Int → Int)) => ((u.2.1 = -1 ∧ (rdS fb nb at1 (if n = 0 then 0 else 1) (2147483647 - bh - pvZ ft n) (pvZ ft n) (pvZ fx n) (pvZ fy n)).1 = 1 ∧ u.1 = (rdS fb nb at1 (if n = 0 then 0 else 1) (2147483647 - bh - pvZ ft n) (pvZ ft n) (pvZ fx n) (pvZ fy n)).2.2.2.2 ∧ u.2.2.1 = n + 1 ∧ u.2.2.2.1 = uZ ft n (rdS fb nb at1 (if n = 0 then 0 else 1) (2147483647 - bh - pvZ ft n) (pvZ ft n) (pvZ fx n) (pvZ fy n)).2.1 ∧ u.2.2.2.2.1 = uZ fx n (rdS fb nb at1 (if n = 0 then 0 else 1) (2147483647 - bh - pvZ ft n) (pvZ ft n) (pvZ fx n) (pvZ fy n)).2.2.1 ∧ u.2.2.2.2.2 = uZ fy n (rdS fb nb at1 (if n = 0 then 0 else 1) (2147483647 - bh - pvZ ft n) (pvZ ft n) (pvZ fx n) (pvZ fy n)).2.2.2.1) ∨ (u.2.1 ≠ -1 ∧ (rdS fb nb at1 (if n = 0 then 0 else 1) (2147483647 - bh - pvZ ft n) (pvZ ft n) (pvZ fx n) (pvZ fy n)).1 = 0 ∧ u.2.1 = (rdS fb nb at1 (if n = 0 then 0 else 1) (2147483647 - bh - pvZ ft n) (pvZ ft n) (pvZ fx n) (pvZ fy n)).2.2.2.2 ∧ u.2.2.1 = n ∧ u.2.2.2.1 = ft ∧ u.2.2.2.2.1 = fx ∧ u.2.2.2.2.2 = fy)) ∧ (0 ≤ u.1 ∧ u.1 ≤ nb) ∧ -1 ≤ u.2.1 ∧ u.2.1 ≤ nb) (fun (u : Int × Int × Int × (Int → Int) × (Int → Int) × (Int → Int)) => [(h1r, .inr (1, [.ref qr, .int (iI u.1), .int (iI u.2.1)])), (hb0, .inr (0, [.ref qb, .int (iI nb)])), (qb, .inl (cI, 300, .inl (zA fb))), (qr, .inr (2, [.ref q1, .ref q2, .ref q3, .int (iI u.2.2.1)])), (q1, .inl (cI, 20, .inl (zA u.2.2.2.1))), (q2, .inl (cI, 20, .inl (zA u.2.2.2.2.1))), (q3, .inl (cI, 20, .inl (zA u.2.2.2.2.2)))])) ([.ref h1r, .ref hb0, .int (iI bh)] : List Value).toArray s 0 0 A := ⟨_, rfl⟩
  rw [← hQ]
  refine lv_aload_n hx hb dX1_readSample_0 rfl (lv_at hl 0 rfl) ?_
  refine va_get (D := D) (ci := 1) (v := .ref qr) (C := RX1) (T := TX1) (N := 3) hx hb hts hin1 hown hK hP 0 rfl rfl 0 (by decide) (hts (.fieldLink RX1 12 "DriftLog$Reader" "row" "LDriftLog$Row;") (by decide +kernel)) (fun _ h9 => h9) rfl dX1_readSample_1 ?_
  refine va_get (D := D) (ci := 2) (v := .int (iI n)) (C := RX2) (T := TX2) (N := 4) hx hb hts hin2 hown hK hP 3 rfl rfl 3 (by decide) (hts (.fieldLink RX1 25 "DriftLog$Row" "size" "I") (by decide +kernel)) (fun _ h9 => h9) rfl dX1_readSample_4 ?_
  refine lv_iconst (v := iI 1) hx hb dX1_readSample_7 rfl ?_
  refine wz_isub hx hb dX1_readSample_8 ?_
  refine lv_istore_n (lv' := [(3, .int (iI (n - 1))), (0, .ref h1r), (1, .ref hb0), (2, .int (iI bh))]) hx hb dX1_readSample_9 rfl hl (by decide) rfl (fun ls hl => ?_)
  refine lv_iload_n hx hb dX1_readSample_10 rfl (lv_at hl 0 rfl) ?_
  refine wz_if_ge (tgt := 18) hx hb dX1_readSample_11 (by decide) ⟨by omega, by omega⟩ (fun c11 => ?_) (fun c11 => ?_)
  · skip
    refine lv_aload_n hx hb dX1_readSample_18 rfl (lv_at hl 1 rfl) ?_
    refine va_get (D := D) (ci := 1) (v := .ref qr) (C := RX1) (T := TX1) (N := 3) hx hb hts hin1 hown hK hP 0 rfl rfl 0 (by decide) (hts (.fieldLink RX1 12 "DriftLog$Reader" "row" "LDriftLog$Row;") (by decide +kernel)) (fun _ h9 => h9) rfl dX1_readSample_19 ?_
    refine va_get (D := D) (ci := 2) (v := .ref q1) (C := RX2) (T := TX2) (N := 4) hx hb hts hin2 hown hK hP 3 rfl rfl 0 (by decide) (hts (.fieldLink RX1 41 "DriftLog$Row" "times" "[I") (by decide +kernel)) (fun _ h9 => h9) rfl dX1_readSample_22 ?_
    refine lv_iload_n hx hb dX1_readSample_25 rfl (lv_at hl 0 rfl) ?_
    refine wz_iald (tys := TY cI cJ cT) hx hb hK hP 4 0 rfl rfl (by decide) (by constructor <;> omega) dX1_readSample_26 ?_
    refine wz_i2l hx hb dX1_readSample_27 (by have := ht (n - 1); constructor <;> omega) ?_
    refine lv_lstore (lv' := [(4, .long (lI (ft (n - 1)))), (3, .int (iI (n - 1))), (0, .ref h1r), (1, .ref hb0), (2, .int (iI bh))]) hx hb dX1_readSample_28 hl (by decide) rfl (fun ls hl => ?_)
    refine lv_iload_n hx hb dX1_readSample_30 rfl (lv_at hl 1 rfl) ?_
    refine wz_if_ge (tgt := 38) hx hb dX1_readSample_31 (by decide) ⟨by omega, by omega⟩ (fun c31 => ?_) (fun c31 => ?_)
    · skip
      refine lv_aload_n hx hb dX1_readSample_38 rfl (lv_at hl 2 rfl) ?_
      refine va_get (D := D) (ci := 1) (v := .ref qr) (C := RX1) (T := TX1) (N := 3) hx hb hts hin1 hown hK hP 0 rfl rfl 0 (by decide) (hts (.fieldLink RX1 12 "DriftLog$Reader" "row" "LDriftLog$Row;") (by decide +kernel)) (fun _ h9 => h9) rfl dX1_readSample_39 ?_
      refine va_get (D := D) (ci := 2) (v := .ref q2) (C := RX2) (T := TX2) (N := 4) hx hb hts hin2 hown hK hP 3 rfl rfl 1 (by decide) (hts (.fieldLink RX1 45 "DriftLog$Row" "xs" "[I") (by decide +kernel)) (fun _ h9 => h9) rfl dX1_readSample_42 ?_
      refine lv_iload_n hx hb dX1_readSample_45 rfl (lv_at hl 1 rfl) ?_
      refine wz_iald (tys := TY cI cJ cT) hx hb hK hP 5 0 rfl rfl (by decide) (by constructor <;> omega) dX1_readSample_46 ?_
      refine lv_istore (lv' := [(6, .int (iI (fx (n - 1)))), (4, .long (lI (ft (n - 1)))), (3, .int (iI (n - 1))), (0, .ref h1r), (1, .ref hb0), (2, .int (iI bh))]) hx hb dX1_readSample_47 hl (by decide) rfl (fun ls hl => ?_)
      refine lv_iload_n hx hb dX1_readSample_49 rfl (lv_at hl 2 rfl) ?_
      refine wz_if_ge (tgt := 57) hx hb dX1_readSample_50 (by decide) ⟨by omega, by omega⟩ (fun c50 => ?_) (fun c50 => ?_)
      · skip
        refine lv_aload_n hx hb dX1_readSample_57 rfl (lv_at hl 3 rfl) ?_
        refine va_get (D := D) (ci := 1) (v := .ref qr) (C := RX1) (T := TX1) (N := 3) hx hb hts hin1 hown hK hP 0 rfl rfl 0 (by decide) (hts (.fieldLink RX1 12 "DriftLog$Reader" "row" "LDriftLog$Row;") (by decide +kernel)) (fun _ h9 => h9) rfl dX1_readSample_58 ?_
        refine va_get (D := D) (ci := 2) (v := .ref q3) (C := RX2) (T := TX2) (N := 4) hx hb hts hin2 hown hK hP 3 rfl rfl 2 (by decide) (hts (.fieldLink RX1 48 "DriftLog$Row" "ys" "[I") (by decide +kernel)) (fun _ h9 => h9) rfl dX1_readSample_61 ?_
        refine lv_iload_n hx hb dX1_readSample_64 rfl (lv_at hl 2 rfl) ?_
        refine wz_iald (tys := TY cI cJ cT) hx hb hK hP 6 0 rfl rfl (by decide) (by constructor <;> omega) dX1_readSample_65 ?_
        refine lv_istore (lv' := [(7, .int (iI (fy (n - 1)))), (6, .int (iI (fx (n - 1)))), (4, .long (lI (ft (n - 1)))), (3, .int (iI (n - 1))), (0, .ref h1r), (1, .ref hb0), (2, .int (iI bh))]) hx hb dX1_readSample_66 hl (by decide) rfl (fun ls hl => ?_)
        refine lv_ldc (v := 2147483647) hx hb hown (hts (.constant RX1 51 (2147483647)) (by decide +kernel)) dX1_readSample_68 ?_
        refine wz_topi (show (2147483647 : Int32) = iI 2147483647 by decide) ?_
        refine lv_iload_n hx hb dX1_readSample_70 rfl (lv_at hl 6 rfl) ?_
        refine wz_isub hx hb dX1_readSample_71 ?_
        refine wz_i2l hx hb dX1_readSample_72 ⟨by omega, by omega⟩ ?_
        refine lv_lload hx hb dX1_readSample_73 (lv_at hl 2 rfl) ?_
        refine wz_lsub hx hb dX1_readSample_75 ?_
        refine lv_lstore (lv' := [(8, .long (lI ((2147483647 - bh) - (ft (n - 1))))), (7, .int (iI (fy (n - 1)))), (6, .int (iI (fx (n - 1)))), (4, .long (lI (ft (n - 1)))), (3, .int (iI (n - 1))), (0, .ref h1r), (1, .ref hb0), (2, .int (iI bh))]) hx hb dX1_readSample_76 hl (by decide) rfl (fun ls hl => ?_)
        refine lv_lload hx hb dX1_readSample_78 (lv_at hl 3 rfl) ?_
        refine lv_aload_n hx hb dX1_readSample_80 rfl (lv_at hl 5 rfl) ?_
        refine lv_aload_n hx hb dX1_readSample_81 rfl (lv_at hl 6 rfl) ?_
        refine lv_iload_n hx hb dX1_readSample_82 rfl (lv_at hl 4 rfl) ?_
        refine wz_if_ge (tgt := 90) hx hb dX1_readSample_83 (by decide) ⟨by omega, by omega⟩ (fun c83 => ?_) (fun c83 => ?_)
        · skip
          refine lv_lconst (v := lI 1) hx hb dX1_readSample_90 (by decide) ?_
          refine lv_lload hx hb dX1_readSample_91 (lv_at hl 0 rfl) ?_
          refine lv_lload hx hb dX1_readSample_93 (lv_at hl 0 rfl) ?_
          refine wz_calll (wr := [(qr, .inr (2, [.ref q1, .ref q2, .ref q3, .int (iI n)])), (q1, .inl (cI, 20, .inl (zA ft))), (q2, .inl (cI, 20, .inl (zA fx))), (q3, .inl (cI, 20, .inl (zA fy)))]) (va_runV (As := [.ref hb0, .long (lI 1), .long (lI ((2147483647 - bh) - (ft (n - 1)))), .long (lI ((2147483647 - bh) - (ft (n - 1))))]) (rest := [.long (lI (ft (n - 1)))]) ⟨hx, hb, hml, hown, hts⟩ (k_X1_readNumber l D cI cJ cT s.heap.size h1r qr at1 (-1) hb0 qb fb nb 1 ((2147483647 - bh) - (ft (n - 1))) ((2147483647 - bh) - (ft (n - 1))) (hB) (hnb) (hat) (by decide) (by decide) (by have := ht (n - 1); constructor <;> omega) (by have := ht (n - 1); constructor <;> omega)) (cwV 4 hts gX1_readSample_X1_readNumber rfl rfl rfl (by decide +kernel) ⟨Nat.le_of_ble_eq_true rfl, Nat.le_of_ble_eq_true rfl⟩) (wz_preV hK hP hD [0, 1, 2] (by decide) rfl rfl 1 0 rfl rfl) rfl rfl hl.1 rfl (lv_room (Nat.le_of_ble_eq_true rfl)) dX1_readSample_95 ⟨Nat.le_of_ble_eq_true rfl, Nat.le_of_ble_eq_true rfl⟩) hP hD hS hA [0, 1, 2] [3, 4, 5, 6] rfl rfl rfl (by decide) (fun z95 u H locs hw95 hP hD hS => ?_)
          obtain ⟨aa, fa⟩ := u
          try dsimp only at hw95
          have hP : va_P D vwCl [(h1r, .inr (1, [.ref qr, .int (iI aa), .int (iI fa)])), (hb0, .inr (0, [.ref qb, .int (iI nb)])), (qb, .inl (cI, 300, .inl (zA fb))), (qr, .inr (2, [.ref q1, .ref q2, .ref q3, .int (iI n)])), (q1, .inl (cI, 20, .inl (zA ft))), (q2, .inl (cI, 20, .inl (zA fx))), (q3, .inl (cI, 20, .inl (zA fy)))] H := hP.sub [4, 5, 6, 0, 1, 2, 3] rfl
          have hD : va_D A [(h1r, .inr (1, [.ref qr, .int (iI aa), .int (iI fa)])), (hb0, .inr (0, [.ref qb, .int (iI nb)])), (qb, .inl (cI, 300, .inl (zA fb))), (qr, .inr (2, [.ref q1, .ref q2, .ref q3, .int (iI n)])), (q1, .inl (cI, 20, .inl (zA ft))), (q2, .inl (cI, 20, .inl (zA fx))), (q3, .inl (cI, 20, .inl (zA fy)))] := hD.sub [4, 5, 6, 0, 1, 2, 3] (by decide) rfl
          have na : nrP fb nb at1 1 ((2147483647 - bh) - (ft (n - 1))) ((2147483647 - bh) - (ft (n - 1))) z95 aa fa := hw95.1 rfl
          have ba := nrB hB hnb.2 hat na
          have kx := hx1 (n - 1)
          have ky := hy1 (n - 1)
          refine wz_ladd hx hb dX1_readSample_98 ?_
          refine lv_lstore (lv' := [(4, .long (lI ((ft (n - 1)) + z95))), (8, .long (lI ((2147483647 - bh) - (ft (n - 1))))), (7, .int (iI (fy (n - 1)))), (6, .int (iI (fx (n - 1)))), (3, .int (iI (n - 1))), (0, .ref h1r), (1, .ref hb0), (2, .int (iI bh))]) hx hb dX1_readSample_99 hl (by decide) rfl (fun ls hl => ?_)
          refine lv_iload hx hb dX1_readSample_101 (lv_at hl 3 rfl) ?_
          refine lv_aload_n hx hb dX1_readSample_103 rfl (lv_at hl 5 rfl) ?_
          refine lv_aload_n hx hb dX1_readSample_104 rfl (lv_at hl 6 rfl) ?_
          refine lv_iload hx hb dX1_readSample_105 (lv_at hl 3 rfl) ?_
          refine wz_calli (wr := [(qr, .inr (2, [.ref q1, .ref q2, .ref q3, .int (iI n)])), (q1, .inl (cI, 20, .inl (zA ft))), (q2, .inl (cI, 20, .inl (zA fx))), (q3, .inl (cI, 20, .inl (zA fy)))]) (va_runV (As := [.ref hb0, .int (iI (fx (n - 1)))]) (rest := [.int (iI (fx (n - 1)))]) ⟨hx, hb, hml, hown, hts⟩ (k_X1_readMove l D cI cJ cT H.size h1r qr aa fa hb0 qb fb nb (fx (n - 1)) (hB) (hnb) (ba.1) (ba.2.1) (by first | decide | exact hx1 _)) (cwV 2 hts gX1_readSample_X1_readMove rfl rfl rfl (by decide +kernel) ⟨Nat.le_of_ble_eq_true rfl, Nat.le_of_ble_eq_true rfl⟩) (wz_preV hK hP hD [0, 1, 2] (by decide) rfl rfl 1 0 rfl rfl) rfl rfl hl.1 rfl (lv_room (Nat.le_of_ble_eq_true rfl)) dX1_readSample_107 ⟨Nat.le_of_ble_eq_true rfl, Nat.le_of_ble_eq_true rfl⟩) hP hD hS hA [0, 1, 2] [3, 4, 5, 6] rfl rfl rfl (by decide) (fun z107 u H locs hw107 hP hD hS => ?_)
          obtain ⟨ab, fb2⟩ := u
          try dsimp only at hw107
          have hP : va_P D vwCl [(h1r, .inr (1, [.ref qr, .int (iI ab), .int (iI fb2)])), (hb0, .inr (0, [.ref qb, .int (iI nb)])), (qb, .inl (cI, 300, .inl (zA fb))), (qr, .inr (2, [.ref q1, .ref q2, .ref q3, .int (iI n)])), (q1, .inl (cI, 20, .inl (zA ft))), (q2, .inl (cI, 20, .inl (zA fx))), (q3, .inl (cI, 20, .inl (zA fy)))] H := hP.sub [4, 5, 6, 0, 1, 2, 3] rfl
          have hD : va_D A [(h1r, .inr (1, [.ref qr, .int (iI ab), .int (iI fb2)])), (hb0, .inr (0, [.ref qb, .int (iI nb)])), (qb, .inl (cI, 300, .inl (zA fb))), (qr, .inr (2, [.ref q1, .ref q2, .ref q3, .int (iI n)])), (q1, .inl (cI, 20, .inl (zA ft))), (q2, .inl (cI, 20, .inl (zA fx))), (q3, .inl (cI, 20, .inl (zA fy)))] := hD.sub [4, 5, 6, 0, 1, 2, 3] (by decide) rfl
          have nb2 : mvP fb nb aa (fx (n - 1)) fa z107 ab fb2 := hw107
          have bb := mvB hB hnb.2 ba.1 (by first | decide | exact hx1 _) ba.2.2 nb2
          refine wz_iadd hx hb dX1_readSample_110 ?_
          refine lv_istore (lv' := [(6, .int (iI ((fx (n - 1)) + z107))), (4, .long (lI ((ft (n - 1)) + z95))), (8, .long (lI ((2147483647 - bh) - (ft (n - 1))))), (7, .int (iI (fy (n - 1)))), (3, .int (iI (n - 1))), (0, .ref h1r), (1, .ref hb0), (2, .int (iI bh))]) hx hb dX1_readSample_111 hl (by decide) rfl (fun ls hl => ?_)
          refine lv_iload hx hb dX1_readSample_113 (lv_at hl 3 rfl) ?_
          refine lv_aload_n hx hb dX1_readSample_115 rfl (lv_at hl 5 rfl) ?_
          refine lv_aload_n hx hb dX1_readSample_116 rfl (lv_at hl 6 rfl) ?_
          refine lv_iload hx hb dX1_readSample_117 (lv_at hl 3 rfl) ?_
          refine wz_calli (wr := [(qr, .inr (2, [.ref q1, .ref q2, .ref q3, .int (iI n)])), (q1, .inl (cI, 20, .inl (zA ft))), (q2, .inl (cI, 20, .inl (zA fx))), (q3, .inl (cI, 20, .inl (zA fy)))]) (va_runV (As := [.ref hb0, .int (iI (fy (n - 1)))]) (rest := [.int (iI (fy (n - 1)))]) ⟨hx, hb, hml, hown, hts⟩ (k_X1_readMove l D cI cJ cT H.size h1r qr ab fb2 hb0 qb fb nb (fy (n - 1)) (hB) (hnb) (bb.1) (bb.2.1) (by first | decide | exact hy1 _)) (cwV 2 hts gX1_readSample_X1_readMove rfl rfl rfl (by decide +kernel) ⟨Nat.le_of_ble_eq_true rfl, Nat.le_of_ble_eq_true rfl⟩) (wz_preV hK hP hD [0, 1, 2] (by decide) rfl rfl 1 0 rfl rfl) rfl rfl hl.1 rfl (lv_room (Nat.le_of_ble_eq_true rfl)) dX1_readSample_119 ⟨Nat.le_of_ble_eq_true rfl, Nat.le_of_ble_eq_true rfl⟩) hP hD hS hA [0, 1, 2] [3, 4, 5, 6] rfl rfl rfl (by decide) (fun z119 u H locs hw119 hP hD hS => ?_)
          obtain ⟨ac, fc⟩ := u
          try dsimp only at hw119
          have hP : va_P D vwCl [(h1r, .inr (1, [.ref qr, .int (iI ac), .int (iI fc)])), (hb0, .inr (0, [.ref qb, .int (iI nb)])), (qb, .inl (cI, 300, .inl (zA fb))), (qr, .inr (2, [.ref q1, .ref q2, .ref q3, .int (iI n)])), (q1, .inl (cI, 20, .inl (zA ft))), (q2, .inl (cI, 20, .inl (zA fx))), (q3, .inl (cI, 20, .inl (zA fy)))] H := hP.sub [4, 5, 6, 0, 1, 2, 3] rfl
          have hD : va_D A [(h1r, .inr (1, [.ref qr, .int (iI ac), .int (iI fc)])), (hb0, .inr (0, [.ref qb, .int (iI nb)])), (qb, .inl (cI, 300, .inl (zA fb))), (qr, .inr (2, [.ref q1, .ref q2, .ref q3, .int (iI n)])), (q1, .inl (cI, 20, .inl (zA ft))), (q2, .inl (cI, 20, .inl (zA fx))), (q3, .inl (cI, 20, .inl (zA fy)))] := hD.sub [4, 5, 6, 0, 1, 2, 3] (by decide) rfl
          have nc : mvP fb nb ab (fy (n - 1)) fb2 z119 ac fc := hw119
          have bc := mvB hB hnb.2 bb.1 (by first | decide | exact hy1 _) bb.2.2 nc
          have smq := smp (t := ft (n - 1)) hB hnb.2 hat (by first | decide | exact hx1 _) (by first | decide | exact hy1 _) na nb2 nc
          refine wz_iadd hx hb dX1_readSample_122 ?_
          refine lv_istore (lv' := [(7, .int (iI ((fy (n - 1)) + z119))), (6, .int (iI ((fx (n - 1)) + z107))), (4, .long (lI ((ft (n - 1)) + z95))), (8, .long (lI ((2147483647 - bh) - (ft (n - 1))))), (3, .int (iI (n - 1))), (0, .ref h1r), (1, .ref hb0), (2, .int (iI bh))]) hx hb dX1_readSample_123 hl (by decide) rfl (fun ls hl => ?_)
          refine lv_aload_n hx hb dX1_readSample_125 rfl (lv_at hl 5 rfl) ?_
          refine va_get (D := D) (ci := 1) (v := .int (iI fc)) (C := RX1) (T := TX1) (N := 3) hx hb hts hin1 hown hK hP 0 rfl rfl 2 (by decide) (hts (.fieldLink RX1 22 "DriftLog$Reader" "fault" "I") (by decide +kernel)) (fun _ h9 => h9) rfl dX1_readSample_126 ?_
          refine lv_iconst (v := iI (-1)) hx hb dX1_readSample_129 rfl ?_
          refine wz_icmp_ne (tgt := 147) hx hb dX1_readSample_130 (by decide) (bc.2.1) (by decide) (fun c130 => ?_) (fun c130 => ?_)
          · skip
            rw [hQ]
            exact wz_retv (tys := TY cI cJ cT) (ac, fc, n, ft, fx, fy) hx hb hr hlocks hK hP hD hS (by (try dsimp only); exact (by have p1 : pvZ ft n = ft (n - 1) := if_neg (by omega); have p2 : pvZ fx n = fx (n - 1) := if_neg (by omega); have p3 : pvZ fy n = fy (n - 1) := if_neg (by omega); have p4 : (if n = 0 then (0 : Int) else 1) = 1 := if_neg (by omega); rw [p1, p2, p3, p4]; have q := smq.2 c130; exact ⟨Or.inr ⟨c130, q.1, q.2.symm, rfl, rfl, rfl, rfl⟩, bc.1, bc.2.2⟩)) dX1_readSample_147
          · skip
            refine lv_aload_n hx hb dX1_readSample_133 rfl (lv_at hl 5 rfl) ?_
            refine va_get (D := D) (ci := 1) (v := .ref qr) (C := RX1) (T := TX1) (N := 3) hx hb hts hin1 hown hK hP 0 rfl rfl 0 (by decide) (hts (.fieldLink RX1 12 "DriftLog$Reader" "row" "LDriftLog$Row;") (by decide +kernel)) (fun _ h9 => h9) rfl dX1_readSample_134 ?_
            refine lv_lload hx hb dX1_readSample_137 (lv_at hl 2 rfl) ?_
            refine wz_l2i hx hb dX1_readSample_139 ?_
            refine lv_iload hx hb dX1_readSample_140 (lv_at hl 1 rfl) ?_
            refine lv_iload hx hb dX1_readSample_142 (lv_at hl 0 rfl) ?_
            refine wz_callv (wr := [(h1r, .inr (1, [.ref qr, .int (iI ac), .int (iI fc)])), (hb0, .inr (0, [.ref qb, .int (iI nb)])), (qb, .inl (cI, 300, .inl (zA fb)))]) (va_runV (As := [.int (iI ((ft (n - 1)) + z95)), .int (iI ((fx (n - 1)) + z107)), .int (iI ((fy (n - 1)) + z119))]) (rest := []) ⟨hx, hb, hml, hown, hts⟩ (k_X2_append l D cI cJ cT H.size qr q1 q2 q3 ft fx fy n ((ft (n - 1)) + z95) ((fx (n - 1)) + z107) ((fy (n - 1)) + z119) (by omega) (by omega)) (cwV 3 hts gX1_readSample_X2_append rfl rfl rfl (by decide +kernel) ⟨Nat.le_of_ble_eq_true rfl, Nat.le_of_ble_eq_true rfl⟩) (wz_preV hK hP hD [3, 4, 5, 6] (by decide) rfl rfl 2 3 rfl rfl) rfl rfl hl.1 rfl (lv_room (Nat.le_of_ble_eq_true rfl)) dX1_readSample_144 ⟨Nat.le_of_ble_eq_true rfl, Nat.le_of_ble_eq_true rfl⟩) hP hD hS hA [3, 4, 5, 6] [0, 1, 2] rfl rfl rfl (by decide) (fun  u H locs hw144 hP hD hS => ?_)
            have hP : va_P D vwCl [(h1r, .inr (1, [.ref qr, .int (iI ac), .int (iI fc)])), (hb0, .inr (0, [.ref qb, .int (iI nb)])), (qb, .inl (cI, 300, .inl (zA fb))), (qr, .inr (2, [.ref q1, .ref q2, .ref q3, .int (iI (n + 1))])), (q1, .inl (cI, 20, .inl (zA (uZ ft n ((ft (n - 1)) + z95))))), (q2, .inl (cI, 20, .inl (zA (uZ fx n ((fx (n - 1)) + z107))))), (q3, .inl (cI, 20, .inl (zA (uZ fy n ((fy (n - 1)) + z119)))))] H := hP.sub [0, 1, 2, 3, 4, 5, 6] rfl
            have hD : va_D A [(h1r, .inr (1, [.ref qr, .int (iI ac), .int (iI fc)])), (hb0, .inr (0, [.ref qb, .int (iI nb)])), (qb, .inl (cI, 300, .inl (zA fb))), (qr, .inr (2, [.ref q1, .ref q2, .ref q3, .int (iI (n + 1))])), (q1, .inl (cI, 20, .inl (zA (uZ ft n ((ft (n - 1)) + z95))))), (q2, .inl (cI, 20, .inl (zA (uZ fx n ((fx (n - 1)) + z107))))), (q3, .inl (cI, 20, .inl (zA (uZ fy n ((fy (n - 1)) + z119)))))] := hD.sub [0, 1, 2, 3, 4, 5, 6] (by decide) rfl
            rw [hQ]
            exact wz_retv (tys := TY cI cJ cT) (ac, fc, (n + 1), (uZ ft n ((ft (n - 1)) + z95)), (uZ fx n ((fx (n - 1)) + z107)), (uZ fy n ((fy (n - 1)) + z119))) hx hb hr hlocks hK hP hD hS (by (try dsimp only); exact (by have p1 : pvZ ft n = ft (n - 1) := if_neg (by omega); have p2 : pvZ fx n = fx (n - 1) := if_neg (by omega); have p3 : pvZ fy n = fy (n - 1) := if_neg (by omega); have p4 : (if n = 0 then (0 : Int) else 1) = 1 := if_neg (by omega); rw [p1, p2, p3, p4]; have q := smq.1 c130; rw [q]; exact ⟨Or.inl ⟨c130, rfl, rfl, rfl, rfl, rfl, rfl⟩, bc.1, bc.2.2⟩)) dX1_readSample_147
        · skip
          exfalso; omega
      · skip
        exfalso; omega
    · skip
      exfalso; omega
  · skip
    refine lv_lconst (v := lI 0) hx hb dX1_readSample_14 (by decide) ?_
    refine lv_goto (tgt := 28) hx hb dX1_readSample_15 (by decide) ?_
    refine lv_lstore (lv' := [(4, .long (lI 0)), (3, .int (iI (n - 1))), (0, .ref h1r), (1, .ref hb0), (2, .int (iI bh))]) hx hb dX1_readSample_28 hl (by decide) rfl (fun ls hl => ?_)
    refine lv_iload_n hx hb dX1_readSample_30 rfl (lv_at hl 1 rfl) ?_
    refine wz_if_ge (tgt := 38) hx hb dX1_readSample_31 (by decide) ⟨by omega, by omega⟩ (fun c31 => ?_) (fun c31 => ?_)
    · skip
      exfalso; omega
    · skip
      refine lv_iconst (v := iI 0) hx hb dX1_readSample_34 rfl ?_
      refine lv_goto (tgt := 47) hx hb dX1_readSample_35 (by decide) ?_
      refine lv_istore (lv' := [(6, .int (iI 0)), (4, .long (lI 0)), (3, .int (iI (n - 1))), (0, .ref h1r), (1, .ref hb0), (2, .int (iI bh))]) hx hb dX1_readSample_47 hl (by decide) rfl (fun ls hl => ?_)
      refine lv_iload_n hx hb dX1_readSample_49 rfl (lv_at hl 2 rfl) ?_
      refine wz_if_ge (tgt := 57) hx hb dX1_readSample_50 (by decide) ⟨by omega, by omega⟩ (fun c50 => ?_) (fun c50 => ?_)
      · skip
        exfalso; omega
      · skip
        refine lv_iconst (v := iI 0) hx hb dX1_readSample_53 rfl ?_
        refine lv_goto (tgt := 66) hx hb dX1_readSample_54 (by decide) ?_
        refine lv_istore (lv' := [(7, .int (iI 0)), (6, .int (iI 0)), (4, .long (lI 0)), (3, .int (iI (n - 1))), (0, .ref h1r), (1, .ref hb0), (2, .int (iI bh))]) hx hb dX1_readSample_66 hl (by decide) rfl (fun ls hl => ?_)
        refine lv_ldc (v := 2147483647) hx hb hown (hts (.constant RX1 51 (2147483647)) (by decide +kernel)) dX1_readSample_68 ?_
        refine wz_topi (show (2147483647 : Int32) = iI 2147483647 by decide) ?_
        refine lv_iload_n hx hb dX1_readSample_70 rfl (lv_at hl 6 rfl) ?_
        refine wz_isub hx hb dX1_readSample_71 ?_
        refine wz_i2l hx hb dX1_readSample_72 ⟨by omega, by omega⟩ ?_
        refine lv_lload hx hb dX1_readSample_73 (lv_at hl 2 rfl) ?_
        refine wz_lsub hx hb dX1_readSample_75 ?_
        refine lv_lstore (lv' := [(8, .long (lI ((2147483647 - bh) - 0))), (7, .int (iI 0)), (6, .int (iI 0)), (4, .long (lI 0)), (3, .int (iI (n - 1))), (0, .ref h1r), (1, .ref hb0), (2, .int (iI bh))]) hx hb dX1_readSample_76 hl (by decide) rfl (fun ls hl => ?_)
        refine lv_lload hx hb dX1_readSample_78 (lv_at hl 3 rfl) ?_
        refine lv_aload_n hx hb dX1_readSample_80 rfl (lv_at hl 5 rfl) ?_
        refine lv_aload_n hx hb dX1_readSample_81 rfl (lv_at hl 6 rfl) ?_
        refine lv_iload_n hx hb dX1_readSample_82 rfl (lv_at hl 4 rfl) ?_
        refine wz_if_ge (tgt := 90) hx hb dX1_readSample_83 (by decide) ⟨by omega, by omega⟩ (fun c83 => ?_) (fun c83 => ?_)
        · skip
          exfalso; omega
        · skip
          refine lv_lconst (v := lI 0) hx hb dX1_readSample_86 (by decide) ?_
          refine lv_goto (tgt := 91) hx hb dX1_readSample_87 (by decide) ?_
          refine lv_lload hx hb dX1_readSample_91 (lv_at hl 0 rfl) ?_
          refine lv_lload hx hb dX1_readSample_93 (lv_at hl 0 rfl) ?_
          refine wz_calll (wr := [(qr, .inr (2, [.ref q1, .ref q2, .ref q3, .int (iI n)])), (q1, .inl (cI, 20, .inl (zA ft))), (q2, .inl (cI, 20, .inl (zA fx))), (q3, .inl (cI, 20, .inl (zA fy)))]) (va_runV (As := [.ref hb0, .long (lI 0), .long (lI ((2147483647 - bh) - 0)), .long (lI ((2147483647 - bh) - 0))]) (rest := [.long (lI 0)]) ⟨hx, hb, hml, hown, hts⟩ (k_X1_readNumber l D cI cJ cT s.heap.size h1r qr at1 (-1) hb0 qb fb nb 0 ((2147483647 - bh) - 0) ((2147483647 - bh) - 0) (hB) (hnb) (hat) (by decide) (by decide) (by have := ht (n - 1); constructor <;> omega) (by have := ht (n - 1); constructor <;> omega)) (cwV 4 hts gX1_readSample_X1_readNumber rfl rfl rfl (by decide +kernel) ⟨Nat.le_of_ble_eq_true rfl, Nat.le_of_ble_eq_true rfl⟩) (wz_preV hK hP hD [0, 1, 2] (by decide) rfl rfl 1 0 rfl rfl) rfl rfl hl.1 rfl (lv_room (Nat.le_of_ble_eq_true rfl)) dX1_readSample_95 ⟨Nat.le_of_ble_eq_true rfl, Nat.le_of_ble_eq_true rfl⟩) hP hD hS hA [0, 1, 2] [3, 4, 5, 6] rfl rfl rfl (by decide) (fun z95 u H locs hw95 hP hD hS => ?_)
          obtain ⟨aa, fa⟩ := u
          try dsimp only at hw95
          have hP : va_P D vwCl [(h1r, .inr (1, [.ref qr, .int (iI aa), .int (iI fa)])), (hb0, .inr (0, [.ref qb, .int (iI nb)])), (qb, .inl (cI, 300, .inl (zA fb))), (qr, .inr (2, [.ref q1, .ref q2, .ref q3, .int (iI n)])), (q1, .inl (cI, 20, .inl (zA ft))), (q2, .inl (cI, 20, .inl (zA fx))), (q3, .inl (cI, 20, .inl (zA fy)))] H := hP.sub [4, 5, 6, 0, 1, 2, 3] rfl
          have hD : va_D A [(h1r, .inr (1, [.ref qr, .int (iI aa), .int (iI fa)])), (hb0, .inr (0, [.ref qb, .int (iI nb)])), (qb, .inl (cI, 300, .inl (zA fb))), (qr, .inr (2, [.ref q1, .ref q2, .ref q3, .int (iI n)])), (q1, .inl (cI, 20, .inl (zA ft))), (q2, .inl (cI, 20, .inl (zA fx))), (q3, .inl (cI, 20, .inl (zA fy)))] := hD.sub [4, 5, 6, 0, 1, 2, 3] (by decide) rfl
          have na : nrP fb nb at1 0 ((2147483647 - bh) - 0) ((2147483647 - bh) - 0) z95 aa fa := hw95.1 rfl
          have ba := nrB hB hnb.2 hat na
          have kx := hx1 (n - 1)
          have ky := hy1 (n - 1)
          refine wz_ladd hx hb dX1_readSample_98 ?_
          refine lv_lstore (lv' := [(4, .long (lI (0 + z95))), (8, .long (lI ((2147483647 - bh) - 0))), (7, .int (iI 0)), (6, .int (iI 0)), (3, .int (iI (n - 1))), (0, .ref h1r), (1, .ref hb0), (2, .int (iI bh))]) hx hb dX1_readSample_99 hl (by decide) rfl (fun ls hl => ?_)
          refine lv_iload hx hb dX1_readSample_101 (lv_at hl 3 rfl) ?_
          refine lv_aload_n hx hb dX1_readSample_103 rfl (lv_at hl 5 rfl) ?_
          refine lv_aload_n hx hb dX1_readSample_104 rfl (lv_at hl 6 rfl) ?_
          refine lv_iload hx hb dX1_readSample_105 (lv_at hl 3 rfl) ?_
          refine wz_calli (wr := [(qr, .inr (2, [.ref q1, .ref q2, .ref q3, .int (iI n)])), (q1, .inl (cI, 20, .inl (zA ft))), (q2, .inl (cI, 20, .inl (zA fx))), (q3, .inl (cI, 20, .inl (zA fy)))]) (va_runV (As := [.ref hb0, .int (iI 0)]) (rest := [.int (iI 0)]) ⟨hx, hb, hml, hown, hts⟩ (k_X1_readMove l D cI cJ cT H.size h1r qr aa fa hb0 qb fb nb 0 (hB) (hnb) (ba.1) (ba.2.1) (by first | decide | exact hx1 _)) (cwV 2 hts gX1_readSample_X1_readMove rfl rfl rfl (by decide +kernel) ⟨Nat.le_of_ble_eq_true rfl, Nat.le_of_ble_eq_true rfl⟩) (wz_preV hK hP hD [0, 1, 2] (by decide) rfl rfl 1 0 rfl rfl) rfl rfl hl.1 rfl (lv_room (Nat.le_of_ble_eq_true rfl)) dX1_readSample_107 ⟨Nat.le_of_ble_eq_true rfl, Nat.le_of_ble_eq_true rfl⟩) hP hD hS hA [0, 1, 2] [3, 4, 5, 6] rfl rfl rfl (by decide) (fun z107 u H locs hw107 hP hD hS => ?_)
          obtain ⟨ab, fb2⟩ := u
          try dsimp only at hw107
          have hP : va_P D vwCl [(h1r, .inr (1, [.ref qr, .int (iI ab), .int (iI fb2)])), (hb0, .inr (0, [.ref qb, .int (iI nb)])), (qb, .inl (cI, 300, .inl (zA fb))), (qr, .inr (2, [.ref q1, .ref q2, .ref q3, .int (iI n)])), (q1, .inl (cI, 20, .inl (zA ft))), (q2, .inl (cI, 20, .inl (zA fx))), (q3, .inl (cI, 20, .inl (zA fy)))] H := hP.sub [4, 5, 6, 0, 1, 2, 3] rfl
          have hD : va_D A [(h1r, .inr (1, [.ref qr, .int (iI ab), .int (iI fb2)])), (hb0, .inr (0, [.ref qb, .int (iI nb)])), (qb, .inl (cI, 300, .inl (zA fb))), (qr, .inr (2, [.ref q1, .ref q2, .ref q3, .int (iI n)])), (q1, .inl (cI, 20, .inl (zA ft))), (q2, .inl (cI, 20, .inl (zA fx))), (q3, .inl (cI, 20, .inl (zA fy)))] := hD.sub [4, 5, 6, 0, 1, 2, 3] (by decide) rfl
          have nb2 : mvP fb nb aa 0 fa z107 ab fb2 := hw107
          have bb := mvB hB hnb.2 ba.1 (by first | decide | exact hx1 _) ba.2.2 nb2
          refine wz_iadd hx hb dX1_readSample_110 ?_
          refine lv_istore (lv' := [(6, .int (iI (0 + z107))), (4, .long (lI (0 + z95))), (8, .long (lI ((2147483647 - bh) - 0))), (7, .int (iI 0)), (3, .int (iI (n - 1))), (0, .ref h1r), (1, .ref hb0), (2, .int (iI bh))]) hx hb dX1_readSample_111 hl (by decide) rfl (fun ls hl => ?_)
          refine lv_iload hx hb dX1_readSample_113 (lv_at hl 3 rfl) ?_
          refine lv_aload_n hx hb dX1_readSample_115 rfl (lv_at hl 5 rfl) ?_
          refine lv_aload_n hx hb dX1_readSample_116 rfl (lv_at hl 6 rfl) ?_
          refine lv_iload hx hb dX1_readSample_117 (lv_at hl 3 rfl) ?_
          refine wz_calli (wr := [(qr, .inr (2, [.ref q1, .ref q2, .ref q3, .int (iI n)])), (q1, .inl (cI, 20, .inl (zA ft))), (q2, .inl (cI, 20, .inl (zA fx))), (q3, .inl (cI, 20, .inl (zA fy)))]) (va_runV (As := [.ref hb0, .int (iI 0)]) (rest := [.int (iI 0)]) ⟨hx, hb, hml, hown, hts⟩ (k_X1_readMove l D cI cJ cT H.size h1r qr ab fb2 hb0 qb fb nb 0 (hB) (hnb) (bb.1) (bb.2.1) (by first | decide | exact hy1 _)) (cwV 2 hts gX1_readSample_X1_readMove rfl rfl rfl (by decide +kernel) ⟨Nat.le_of_ble_eq_true rfl, Nat.le_of_ble_eq_true rfl⟩) (wz_preV hK hP hD [0, 1, 2] (by decide) rfl rfl 1 0 rfl rfl) rfl rfl hl.1 rfl (lv_room (Nat.le_of_ble_eq_true rfl)) dX1_readSample_119 ⟨Nat.le_of_ble_eq_true rfl, Nat.le_of_ble_eq_true rfl⟩) hP hD hS hA [0, 1, 2] [3, 4, 5, 6] rfl rfl rfl (by decide) (fun z119 u H locs hw119 hP hD hS => ?_)
          obtain ⟨ac, fc⟩ := u
          try dsimp only at hw119
          have hP : va_P D vwCl [(h1r, .inr (1, [.ref qr, .int (iI ac), .int (iI fc)])), (hb0, .inr (0, [.ref qb, .int (iI nb)])), (qb, .inl (cI, 300, .inl (zA fb))), (qr, .inr (2, [.ref q1, .ref q2, .ref q3, .int (iI n)])), (q1, .inl (cI, 20, .inl (zA ft))), (q2, .inl (cI, 20, .inl (zA fx))), (q3, .inl (cI, 20, .inl (zA fy)))] H := hP.sub [4, 5, 6, 0, 1, 2, 3] rfl
          have hD : va_D A [(h1r, .inr (1, [.ref qr, .int (iI ac), .int (iI fc)])), (hb0, .inr (0, [.ref qb, .int (iI nb)])), (qb, .inl (cI, 300, .inl (zA fb))), (qr, .inr (2, [.ref q1, .ref q2, .ref q3, .int (iI n)])), (q1, .inl (cI, 20, .inl (zA ft))), (q2, .inl (cI, 20, .inl (zA fx))), (q3, .inl (cI, 20, .inl (zA fy)))] := hD.sub [4, 5, 6, 0, 1, 2, 3] (by decide) rfl
          have nc : mvP fb nb ab 0 fb2 z119 ac fc := hw119
          have bc := mvB hB hnb.2 bb.1 (by first | decide | exact hy1 _) bb.2.2 nc
          have smq := smp (t := 0) hB hnb.2 hat (by first | decide | exact hx1 _) (by first | decide | exact hy1 _) na nb2 nc
          refine wz_iadd hx hb dX1_readSample_122 ?_
          refine lv_istore (lv' := [(7, .int (iI (0 + z119))), (6, .int (iI (0 + z107))), (4, .long (lI (0 + z95))), (8, .long (lI ((2147483647 - bh) - 0))), (3, .int (iI (n - 1))), (0, .ref h1r), (1, .ref hb0), (2, .int (iI bh))]) hx hb dX1_readSample_123 hl (by decide) rfl (fun ls hl => ?_)
          refine lv_aload_n hx hb dX1_readSample_125 rfl (lv_at hl 5 rfl) ?_
          refine va_get (D := D) (ci := 1) (v := .int (iI fc)) (C := RX1) (T := TX1) (N := 3) hx hb hts hin1 hown hK hP 0 rfl rfl 2 (by decide) (hts (.fieldLink RX1 22 "DriftLog$Reader" "fault" "I") (by decide +kernel)) (fun _ h9 => h9) rfl dX1_readSample_126 ?_
          refine lv_iconst (v := iI (-1)) hx hb dX1_readSample_129 rfl ?_
          refine wz_icmp_ne (tgt := 147) hx hb dX1_readSample_130 (by decide) (bc.2.1) (by decide) (fun c130 => ?_) (fun c130 => ?_)
          · skip
            rw [hQ]
            exact wz_retv (tys := TY cI cJ cT) (ac, fc, n, ft, fx, fy) hx hb hr hlocks hK hP hD hS (by (try dsimp only); exact (by have p1 : pvZ ft n = 0 := if_pos (by omega); have p2 : pvZ fx n = 0 := if_pos (by omega); have p3 : pvZ fy n = 0 := if_pos (by omega); have p4 : (if n = 0 then (0 : Int) else 1) = 0 := if_pos (by omega); rw [p1, p2, p3, p4]; have q := smq.2 c130; exact ⟨Or.inr ⟨c130, q.1, q.2.symm, rfl, rfl, rfl, rfl⟩, bc.1, bc.2.2⟩)) dX1_readSample_147
          · skip
            refine lv_aload_n hx hb dX1_readSample_133 rfl (lv_at hl 5 rfl) ?_
            refine va_get (D := D) (ci := 1) (v := .ref qr) (C := RX1) (T := TX1) (N := 3) hx hb hts hin1 hown hK hP 0 rfl rfl 0 (by decide) (hts (.fieldLink RX1 12 "DriftLog$Reader" "row" "LDriftLog$Row;") (by decide +kernel)) (fun _ h9 => h9) rfl dX1_readSample_134 ?_
            refine lv_lload hx hb dX1_readSample_137 (lv_at hl 2 rfl) ?_
            refine wz_l2i hx hb dX1_readSample_139 ?_
            refine lv_iload hx hb dX1_readSample_140 (lv_at hl 1 rfl) ?_
            refine lv_iload hx hb dX1_readSample_142 (lv_at hl 0 rfl) ?_
            refine wz_callv (wr := [(h1r, .inr (1, [.ref qr, .int (iI ac), .int (iI fc)])), (hb0, .inr (0, [.ref qb, .int (iI nb)])), (qb, .inl (cI, 300, .inl (zA fb)))]) (va_runV (As := [.int (iI (0 + z95)), .int (iI (0 + z107)), .int (iI (0 + z119))]) (rest := []) ⟨hx, hb, hml, hown, hts⟩ (k_X2_append l D cI cJ cT H.size qr q1 q2 q3 ft fx fy n (0 + z95) (0 + z107) (0 + z119) (by omega) (by omega)) (cwV 3 hts gX1_readSample_X2_append rfl rfl rfl (by decide +kernel) ⟨Nat.le_of_ble_eq_true rfl, Nat.le_of_ble_eq_true rfl⟩) (wz_preV hK hP hD [3, 4, 5, 6] (by decide) rfl rfl 2 3 rfl rfl) rfl rfl hl.1 rfl (lv_room (Nat.le_of_ble_eq_true rfl)) dX1_readSample_144 ⟨Nat.le_of_ble_eq_true rfl, Nat.le_of_ble_eq_true rfl⟩) hP hD hS hA [3, 4, 5, 6] [0, 1, 2] rfl rfl rfl (by decide) (fun  u H locs hw144 hP hD hS => ?_)
            have hP : va_P D vwCl [(h1r, .inr (1, [.ref qr, .int (iI ac), .int (iI fc)])), (hb0, .inr (0, [.ref qb, .int (iI nb)])), (qb, .inl (cI, 300, .inl (zA fb))), (qr, .inr (2, [.ref q1, .ref q2, .ref q3, .int (iI (n + 1))])), (q1, .inl (cI, 20, .inl (zA (uZ ft n (0 + z95))))), (q2, .inl (cI, 20, .inl (zA (uZ fx n (0 + z107))))), (q3, .inl (cI, 20, .inl (zA (uZ fy n (0 + z119)))))] H := hP.sub [0, 1, 2, 3, 4, 5, 6] rfl
            have hD : va_D A [(h1r, .inr (1, [.ref qr, .int (iI ac), .int (iI fc)])), (hb0, .inr (0, [.ref qb, .int (iI nb)])), (qb, .inl (cI, 300, .inl (zA fb))), (qr, .inr (2, [.ref q1, .ref q2, .ref q3, .int (iI (n + 1))])), (q1, .inl (cI, 20, .inl (zA (uZ ft n (0 + z95))))), (q2, .inl (cI, 20, .inl (zA (uZ fx n (0 + z107))))), (q3, .inl (cI, 20, .inl (zA (uZ fy n (0 + z119)))))] := hD.sub [0, 1, 2, 3, 4, 5, 6] (by decide) rfl
            rw [hQ]
            exact wz_retv (tys := TY cI cJ cT) (ac, fc, (n + 1), (uZ ft n (0 + z95)), (uZ fx n (0 + z107)), (uZ fy n (0 + z119))) hx hb hr hlocks hK hP hD hS (by (try dsimp only); exact (by have p1 : pvZ ft n = 0 := if_pos (by omega); have p2 : pvZ fx n = 0 := if_pos (by omega); have p3 : pvZ fy n = 0 := if_pos (by omega); have p4 : (if n = 0 then (0 : Int) else 1) = 0 := if_pos (by omega); rw [p1, p2, p3, p4]; have q := smq.1 c130; rw [q]; exact ⟨Or.inl ⟨c130, rfl, rfl, rfl, rfl, rfl, rfl⟩, bc.1, bc.2.2⟩)) dX1_readSample_147
