set_option maxHeartbeats 4000000 in
set_option maxRecDepth 100000 in
theorem k_X3_takeWholeStretch (l : Launch) (D : va_G) (cI cJ cT : ClassId) (sz : Nat) (hs : Nat) (b1 : Nat) (b2 : Nat) (e1 : Nat) (e2 : Nat) (m1 : Int) (ff : Int) (fs : Int) (tf : Int) (ts : Int)  : Met l yX3_takeWholeStretch wsX3_takeWholeStretch { frames := 0, cells := 0, slots := 0, locals := 0 } (zPc D (TY cI cJ cT) [.ref hs] [(hs, .inr (3, [.ref b1, .ref b2, .ref e1, .ref e2, .int (iI m1), .long (lI ff), .long (lI fs), .long (lI tf), .long (lI ts)]))] sz) (zQv D (TY cI cJ cT) (va_A [(hs, .inr (3, [.ref b1, .ref b2, .ref e1, .ref e2, .int (iI m1), .long (lI ff), .long (lI fs), .long (lI tf), .long (lI ts)]))] sz) (fun (u : Unit) => True) (fun (u : Unit) => [(hs, .inr (3, [.ref b1, .ref b2, .ref e1, .ref e2, .int (iI m1), .long (lI 0), .long (lI 1), .long (lI 1), .long (lI 1)]))])) 0 0 (va_A [(hs, .inr (3, [.ref b1, .ref b2, .ref e1, .ref e2, .int (iI m1), .long (lI ff), .long (lI fs), .long (lI tf), .long (lI ts)]))] sz) := by
  refine zMv (cc := cX3_takeWholeStretch) (maxL := 1) (ret := none) (by decide) rfl (Nat.le_of_ble_eq_true rfl) ?_
  intro p e s m below meth c A ls hE
  obtain ⟨hx, hb, hr, hts, hown, hlocks, hml, hnm, hP, hK, hD, hA, hS, hl⟩ := hE
  have hown : s.vm.findClass RX3 = some m.cls := hown
  have hl : lv_has ls 1 [(0, .ref hs)] := hl
  have hin3 : ∀ w ∈ wsX30, w ∈ wsX3_takeWholeStretch := by decide +kernel
  obtain ⟨Q, hQ⟩ : ∃ Q, Q = MQ below (zQv D (TY cI cJ cT) A (fun (u : Unit) => True) (fun (u : Unit) => [(hs, .inr (3, [.ref b1, .ref b2, .ref e1, .ref e2, .int (iI m1), .long (lI 0), .long (lI 1), .long (lI 1), .long (lI 1)]))])) ([.ref hs] : List Value).toArray s 0 0 A := ⟨_, rfl⟩
  rw [← hQ]
  refine lv_aload_n hx hb dX3_takeWholeStretch_0 rfl (lv_at hl 0 rfl) ?_
  refine lv_lconst (v := lI 0) hx hb dX3_takeWholeStretch_1 (by decide) ?_
  refine va_put (D := D) (ci := 3) (v := .long (lI 0)) (ty := .long) (C := RX3) (T := TX3) (N := 9) hx hb hts hin3 tyX3 tyX3_ok nmX3 hown hK hP hD hS 0 rfl rfl 5 (by decide) (hts (.fieldLink RX3 45 "DriftLog$SpanRow" "fromFirst" "J") (by decide +kernel)) (fun _ h9 => h9) rfl (by decide +kernel) rfl rfl (Nat.le_of_ble_eq_true rfl) dX3_takeWholeStretch_2 (fun H locs hP hD hS => ?_)
  have hP : va_P D vwCl [(hs, .inr (3, [.ref b1, .ref b2, .ref e1, .ref e2, .int (iI m1), .long (lI 0), .long (lI fs), .long (lI tf), .long (lI ts)]))] H := hP
  have hD : va_D A [(hs, .inr (3, [.ref b1, .ref b2, .ref e1, .ref e2, .int (iI m1), .long (lI 0), .long (lI fs), .long (lI tf), .long (lI ts)]))] := hD
  refine lv_aload_n hx hb dX3_takeWholeStretch_5 rfl (lv_at hl 0 rfl) ?_
  refine lv_lconst (v := lI 1) hx hb dX3_takeWholeStretch_6 (by decide) ?_
  refine va_put (D := D) (ci := 3) (v := .long (lI 1)) (ty := .long) (C := RX3) (T := TX3) (N := 9) hx hb hts hin3 tyX3 tyX3_ok nmX3 hown hK hP hD hS 0 rfl rfl 6 (by decide) (hts (.fieldLink RX3 55 "DriftLog$SpanRow" "fromSecond" "J") (by decide +kernel)) (fun _ h9 => h9) rfl (by decide +kernel) rfl rfl (Nat.le_of_ble_eq_true rfl) dX3_takeWholeStretch_7 (fun H locs hP hD hS => ?_)
  have hP : va_P D vwCl [(hs, .inr (3, [.ref b1, .ref b2, .ref e1, .ref e2, .int (iI m1), .long (lI 0), .long (lI 1), .long (lI tf), .long (lI ts)]))] H := hP
  have hD : va_D A [(hs, .inr (3, [.ref b1, .ref b2, .ref e1, .ref e2, .int (iI m1), .long (lI 0), .long (lI 1), .long (lI tf), .long (lI ts)]))] := hD
  refine lv_aload_n hx hb dX3_takeWholeStretch_10 rfl (lv_at hl 0 rfl) ?_
  refine lv_lconst (v := lI 1) hx hb dX3_takeWholeStretch_11 (by decide) ?_
  refine va_put (D := D) (ci := 3) (v := .long (lI 1)) (ty := .long) (C := RX3) (T := TX3) (N := 9) hx hb hts hin3 tyX3 tyX3_ok nmX3 hown hK hP hD hS 0 rfl rfl 7 (by decide) (hts (.fieldLink RX3 52 "DriftLog$SpanRow" "toFirst" "J") (by decide +kernel)) (fun _ h9 => h9) rfl (by decide +kernel) rfl rfl (Nat.le_of_ble_eq_true rfl) dX3_takeWholeStretch_12 (fun H locs hP hD hS => ?_)
  have hP : va_P D vwCl [(hs, .inr (3, [.ref b1, .ref b2, .ref e1, .ref e2, .int (iI m1), .long (lI 0), .long (lI 1), .long (lI 1), .long (lI ts)]))] H := hP
  have hD : va_D A [(hs, .inr (3, [.ref b1, .ref b2, .ref e1, .ref e2, .int (iI m1), .long (lI 0), .long (lI 1), .long (lI 1), .long (lI ts)]))] := hD
  refine lv_aload_n hx hb dX3_takeWholeStretch_15 rfl (lv_at hl 0 rfl) ?_
  refine lv_lconst (v := lI 1) hx hb dX3_takeWholeStretch_16 (by decide) ?_
  refine va_put (D := D) (ci := 3) (v := .long (lI 1)) (ty := .long) (C := RX3) (T := TX3) (N := 9) hx hb hts hin3 tyX3 tyX3_ok nmX3 hown hK hP hD hS 0 rfl rfl 8 (by decide) (hts (.fieldLink RX3 49 "DriftLog$SpanRow" "toSecond" "J") (by decide +kernel)) (fun _ h9 => h9) rfl (by decide +kernel) rfl rfl (Nat.le_of_ble_eq_true rfl) dX3_takeWholeStretch_17 (fun H locs hP hD hS => ?_)
  have hP : va_P D vwCl [(hs, .inr (3, [.ref b1, .ref b2, .ref e1, .ref e2, .int (iI m1), .long (lI 0), .long (lI 1), .long (lI 1), .long (lI 1)]))] H := hP
  have hD : va_D A [(hs, .inr (3, [.ref b1, .ref b2, .ref e1, .ref e2, .int (iI m1), .long (lI 0), .long (lI 1), .long (lI 1), .long (lI 1)]))] := hD
  rw [hQ]
  exact wz_retv (tys := TY cI cJ cT) () hx hb hr hlocks hK hP hD hS (trivial) dX3_takeWholeStretch_20
set_option maxHeartbeats 4000000 in
set_option maxRecDepth 100000 in
theorem k_X3_beginNotBefore (l : Launch) (D : va_G) (cI cJ cT : ClassId) (sz : Nat) (hs : Nat) (b1 : Nat) (b2 : Nat) (e1 : Nat) (e2 : Nat) (m1 : Int) (ff : Int) (fs : Int) (tf : Int) (ts : Int) (a : Int) (b : Int) (h1 : frR ff fs) (h2 : frR a b) : Met l yX3_beginNotBefore wsX3_beginNotBefore { frames := 0, cells := 0, slots := 0, locals := 0 } (zPc D (TY cI cJ cT) [.ref hs, .long (lI a), .long (lI b)] [(hs, .inr (3, [.ref b1, .ref b2, .ref e1, .ref e2, .int (iI m1), .long (lI ff), .long (lI fs), .long (lI tf), .long (lI ts)]))] sz) (zQv D (TY cI cJ cT) (va_A [(hs, .inr (3, [.ref b1, .ref b2, .ref e1, .ref e2, .int (iI m1), .long (lI ff), .long (lI fs), .long (lI tf), .long (lI ts)]))] sz) (fun (u : Int × Int) => raiseZ ff fs a b = (u.1, u.2) ∧ frR u.1 u.2) (fun (u : Int × Int) => [(hs, .inr (3, [.ref b1, .ref b2, .ref e1, .ref e2, .int (iI m1), .long (lI u.1), .long (lI u.2), .long (lI tf), .long (lI ts)]))])) 0 0 (va_A [(hs, .inr (3, [.ref b1, .ref b2, .ref e1, .ref e2, .int (iI m1), .long (lI ff), .long (lI fs), .long (lI tf), .long (lI ts)]))] sz) := by
  refine zMv (cc := cX3_beginNotBefore) (maxL := 5) (ret := none) (by decide) rfl (Nat.le_of_ble_eq_true rfl) ?_
  intro p e s m below meth c A ls hE
  obtain ⟨hx, hb, hr, hts, hown, hlocks, hml, hnm, hP, hK, hD, hA, hS, hl⟩ := hE
  have hown : s.vm.findClass RX3 = some m.cls := hown
  have hl : lv_has ls 5 [(0, .ref hs), (1, .long (lI a)), (3, .long (lI b))] := hl
  have hin3 : ∀ w ∈ wsX30, w ∈ wsX3_beginNotBefore := by decide +kernel
  obtain ⟨Q, hQ⟩ : ∃ Q, Q = MQ below (zQv D (TY cI cJ cT) A (fun (u : Int × Int) => raiseZ ff fs a b = (u.1, u.2) ∧ frR u.1 u.2) (fun (u : Int × Int) => [(hs, .inr (3, [.ref b1, .ref b2, .ref e1, .ref e2, .int (iI m1), .long (lI u.1), .long (lI u.2), .long (lI tf), .long (lI ts)]))])) ([.ref hs, .long (lI a), .long (lI b)] : List Value).toArray s 0 0 A := ⟨_, rfl⟩
  rw [← hQ]
  refine lv_lload_n hx hb dX3_beginNotBefore_0 rfl (lv_at hl 1 rfl) ?_
  refine lv_aload_n hx hb dX3_beginNotBefore_1 rfl (lv_at hl 0 rfl) ?_
  refine va_get (D := D) (ci := 3) (v := .long (lI fs)) (C := RX3) (T := TX3) (N := 9) hx hb hts hin3 hown hK hP 0 rfl rfl 6 (by decide) (hts (.fieldLink RX3 55 "DriftLog$SpanRow" "fromSecond" "J") (by decide +kernel)) (fun _ h9 => h9) rfl dX3_beginNotBefore_2 ?_
  refine wz_lmul hx hb dX3_beginNotBefore_5 ?_
  refine lv_aload_n hx hb dX3_beginNotBefore_6 rfl (lv_at hl 0 rfl) ?_
  refine va_get (D := D) (ci := 3) (v := .long (lI ff)) (C := RX3) (T := TX3) (N := 9) hx hb hts hin3 hown hK hP 0 rfl rfl 5 (by decide) (hts (.fieldLink RX3 45 "DriftLog$SpanRow" "fromFirst" "J") (by decide +kernel)) (fun _ h9 => h9) rfl dX3_beginNotBefore_7 ?_
  refine lv_lload_n hx hb dX3_beginNotBefore_10 rfl (lv_at hl 2 rfl) ?_
  refine wz_lmul hx hb dX3_beginNotBefore_11 ?_
  refine W.lcmp hx hb dX3_beginNotBefore_12 ?_
  refine wz_lif_le (tgt := 26) hx hb dX3_beginNotBefore_13 (by decide) (by have := mul27 h2.1 (frR_27 h1); constructor <;> omega) (by have := mul27 h1.1 (frR_27 h2); constructor <;> omega) (fun c13 => ?_) (fun c13 => ?_)
  · skip
    rw [hQ]
    exact wz_retv (tys := TY cI cJ cT) (ff, fs) hx hb hr hlocks hK hP hD hS (by (try dsimp only); exact (⟨if_neg (by omega), h1⟩)) dX3_beginNotBefore_26
  · skip
    refine lv_aload_n hx hb dX3_beginNotBefore_16 rfl (lv_at hl 0 rfl) ?_
    refine lv_lload_n hx hb dX3_beginNotBefore_17 rfl (lv_at hl 1 rfl) ?_
    refine va_put (D := D) (ci := 3) (v := .long (lI a)) (ty := .long) (C := RX3) (T := TX3) (N := 9) hx hb hts hin3 tyX3 tyX3_ok nmX3 hown hK hP hD hS 0 rfl rfl 5 (by decide) (hts (.fieldLink RX3 45 "DriftLog$SpanRow" "fromFirst" "J") (by decide +kernel)) (fun _ h9 => h9) rfl (by decide +kernel) rfl rfl (Nat.le_of_ble_eq_true rfl) dX3_beginNotBefore_18 (fun H locs hP hD hS => ?_)
    have hP : va_P D vwCl [(hs, .inr (3, [.ref b1, .ref b2, .ref e1, .ref e2, .int (iI m1), .long (lI a), .long (lI fs), .long (lI tf), .long (lI ts)]))] H := hP
    have hD : va_D A [(hs, .inr (3, [.ref b1, .ref b2, .ref e1, .ref e2, .int (iI m1), .long (lI a), .long (lI fs), .long (lI tf), .long (lI ts)]))] := hD
    refine lv_aload_n hx hb dX3_beginNotBefore_21 rfl (lv_at hl 0 rfl) ?_
    refine lv_lload_n hx hb dX3_beginNotBefore_22 rfl (lv_at hl 2 rfl) ?_
    refine va_put (D := D) (ci := 3) (v := .long (lI b)) (ty := .long) (C := RX3) (T := TX3) (N := 9) hx hb hts hin3 tyX3 tyX3_ok nmX3 hown hK hP hD hS 0 rfl rfl 6 (by decide) (hts (.fieldLink RX3 55 "DriftLog$SpanRow" "fromSecond" "J") (by decide +kernel)) (fun _ h9 => h9) rfl (by decide +kernel) rfl rfl (Nat.le_of_ble_eq_true rfl) dX3_beginNotBefore_23 (fun H locs hP hD hS => ?_)
    have hP : va_P D vwCl [(hs, .inr (3, [.ref b1, .ref b2, .ref e1, .ref e2, .int (iI m1), .long (lI a), .long (lI b), .long (lI tf), .long (lI ts)]))] H := hP
    have hD : va_D A [(hs, .inr (3, [.ref b1, .ref b2, .ref e1, .ref e2, .int (iI m1), .long (lI a), .long (lI b), .long (lI tf), .long (lI ts)]))] := hD
    rw [hQ]
    exact wz_retv (tys := TY cI cJ cT) (a, b) hx hb hr hlocks hK hP hD hS (by (try dsimp only); exact (⟨if_pos (by omega), h2⟩)) dX3_beginNotBefore_26
set_option maxHeartbeats 4000000 in
set_option maxRecDepth 100000 in
theorem k_X3_endNotBehind (l : Launch) (D : va_G) (cI cJ cT : ClassId) (sz : Nat) (hs : Nat) (b1 : Nat) (b2 : Nat) (e1 : Nat) (e2 : Nat) (m1 : Int) (ff : Int) (fs : Int) (tf : Int) (ts : Int) (a : Int) (b : Int) (h1 : frR tf ts) (h2 : frR a b) : Met l yX3_endNotBehind wsX3_endNotBehind { frames := 0, cells := 0, slots := 0, locals := 0 } (zPc D (TY cI cJ cT) [.ref hs, .long (lI a), .long (lI b)] [(hs, .inr (3, [.ref b1, .ref b2, .ref e1, .ref e2, .int (iI m1), .long (lI ff), .long (lI fs), .long (lI tf), .long (lI ts)]))] sz) (zQv D (TY cI cJ cT) (va_A [(hs, .inr (3, [.ref b1, .ref b2, .ref e1, .ref e2, .int (iI m1), .long (lI ff), .long (lI fs), .long (lI tf), .long (lI ts)]))] sz) (fun (u : Int × Int) => lowerZ tf ts a b = (u.1, u.2) ∧ frR u.1 u.2) (fun (u : Int × Int) => [(hs, .inr (3, [.ref b1, .ref b2, .ref e1, .ref e2, .int (iI m1), .long (lI ff), .long (lI fs), .long (lI u.1), .long (lI u.2)]))])) 0 0 (va_A [(hs, .inr (3, [.ref b1, .ref b2, .ref e1, .ref e2, .int (iI m1), .long (lI ff), .long (lI fs), .long (lI tf), .long (lI ts)]))] sz) := by
  refine zMv (cc := cX3_endNotBehind) (maxL := 5) (ret := none) (by decide) rfl (Nat.le_of_ble_eq_true rfl) ?_
  intro p e s m below meth c A ls hE
  obtain ⟨hx, hb, hr, hts, hown, hlocks, hml, hnm, hP, hK, hD, hA, hS, hl⟩ := hE
  have hown : s.vm.findClass RX3 = some m.cls := hown
  have hl : lv_has ls 5 [(0, .ref hs), (1, .long (lI a)), (3, .long (lI b))] := hl
  have hin3 : ∀ w ∈ wsX30, w ∈ wsX3_endNotBehind := by decide +kernel
  obtain ⟨Q, hQ⟩ : ∃ Q, Q = MQ below (zQv D (TY cI cJ cT) A (fun (u : Int × Int) => lowerZ tf ts a b = (u.1, u.2) ∧ frR u.1 u.2) (fun (u : Int × Int) => [(hs, .inr (3, [.ref b1, .ref b2, .ref e1, .ref e2, .int (iI m1), .long (lI ff), .long (lI fs), .long (lI u.1), .long (lI u.2)]))])) ([.ref hs, .long (lI a), .long (lI b)] : List Value).toArray s 0 0 A := ⟨_, rfl⟩
  rw [← hQ]
  refine lv_lload_n hx hb dX3_endNotBehind_0 rfl (lv_at hl 1 rfl) ?_
  refine lv_aload_n hx hb dX3_endNotBehind_1 rfl (lv_at hl 0 rfl) ?_
  refine va_get (D := D) (ci := 3) (v := .long (lI ts)) (C := RX3) (T := TX3) (N := 9) hx hb hts hin3 hown hK hP 0 rfl rfl 8 (by decide) (hts (.fieldLink RX3 49 "DriftLog$SpanRow" "toSecond" "J") (by decide +kernel)) (fun _ h9 => h9) rfl dX3_endNotBehind_2 ?_
  refine wz_lmul hx hb dX3_endNotBehind_5 ?_
  refine lv_aload_n hx hb dX3_endNotBehind_6 rfl (lv_at hl 0 rfl) ?_
  refine va_get (D := D) (ci := 3) (v := .long (lI tf)) (C := RX3) (T := TX3) (N := 9) hx hb hts hin3 hown hK hP 0 rfl rfl 7 (by decide) (hts (.fieldLink RX3 52 "DriftLog$SpanRow" "toFirst" "J") (by decide +kernel)) (fun _ h9 => h9) rfl dX3_endNotBehind_7 ?_
  refine lv_lload_n hx hb dX3_endNotBehind_10 rfl (lv_at hl 2 rfl) ?_
  refine wz_lmul hx hb dX3_endNotBehind_11 ?_
  refine W.lcmp hx hb dX3_endNotBehind_12 ?_
  refine wz_lif_ge (tgt := 26) hx hb dX3_endNotBehind_13 (by decide) (by have := mul27 h2.1 (frR_27 h1); constructor <;> omega) (by have := mul27 h1.1 (frR_27 h2); constructor <;> omega) (fun c13 => ?_) (fun c13 => ?_)
  · skip
    rw [hQ]
    exact wz_retv (tys := TY cI cJ cT) (tf, ts) hx hb hr hlocks hK hP hD hS (by (try dsimp only); exact (⟨if_neg (by omega), h1⟩)) dX3_endNotBehind_26
  · skip
    refine lv_aload_n hx hb dX3_endNotBehind_16 rfl (lv_at hl 0 rfl) ?_
    refine lv_lload_n hx hb dX3_endNotBehind_17 rfl (lv_at hl 1 rfl) ?_
    refine va_put (D := D) (ci := 3) (v := .long (lI a)) (ty := .long) (C := RX3) (T := TX3) (N := 9) hx hb hts hin3 tyX3 tyX3_ok nmX3 hown hK hP hD hS 0 rfl rfl 7 (by decide) (hts (.fieldLink RX3 52 "DriftLog$SpanRow" "toFirst" "J") (by decide +kernel)) (fun _ h9 => h9) rfl (by decide +kernel) rfl rfl (Nat.le_of_ble_eq_true rfl) dX3_endNotBehind_18 (fun H locs hP hD hS => ?_)
    have hP : va_P D vwCl [(hs, .inr (3, [.ref b1, .ref b2, .ref e1, .ref e2, .int (iI m1), .long (lI ff), .long (lI fs), .long (lI a), .long (lI ts)]))] H := hP
    have hD : va_D A [(hs, .inr (3, [.ref b1, .ref b2, .ref e1, .ref e2, .int (iI m1), .long (lI ff), .long (lI fs), .long (lI a), .long (lI ts)]))] := hD
    refine lv_aload_n hx hb dX3_endNotBehind_21 rfl (lv_at hl 0 rfl) ?_
    refine lv_lload_n hx hb dX3_endNotBehind_22 rfl (lv_at hl 2 rfl) ?_
    refine va_put (D := D) (ci := 3) (v := .long (lI b)) (ty := .long) (C := RX3) (T := TX3) (N := 9) hx hb hts hin3 tyX3 tyX3_ok nmX3 hown hK hP hD hS 0 rfl rfl 8 (by decide) (hts (.fieldLink RX3 49 "DriftLog$SpanRow" "toSecond" "J") (by decide +kernel)) (fun _ h9 => h9) rfl (by decide +kernel) rfl rfl (Nat.le_of_ble_eq_true rfl) dX3_endNotBehind_23 (fun H locs hP hD hS => ?_)
    have hP : va_P D vwCl [(hs, .inr (3, [.ref b1, .ref b2, .ref e1, .ref e2, .int (iI m1), .long (lI ff), .long (lI fs), .long (lI a), .long (lI b)]))] H := hP
    have hD : va_D A [(hs, .inr (3, [.ref b1, .ref b2, .ref e1, .ref e2, .int (iI m1), .long (lI ff), .long (lI fs), .long (lI a), .long (lI b)]))] := hD
    rw [hQ]
    exact wz_retv (tys := TY cI cJ cT) (a, b) hx hb hr hlocks hK hP hD hS (by (try dsimp only); exact (⟨if_pos (by omega), h2⟩)) dX3_endNotBehind_26
set_option maxHeartbeats 4000000 in
set_option maxRecDepth 100000 in
theorem k_X3_narrow (l : Launch) (D : va_G) (cI cJ cT : ClassId) (sz : Nat) (hs : Nat) (b1 : Nat) (b2 : Nat) (e1 : Nat) (e2 : Nat) (m1 : Int) (ff : Int) (fs : Int) (tf : Int) (ts : Int) (a : Int) (b : Int) (lo : Int) (hi : Int) (h1 : frR ff fs) (h2 : frR tf ts) (ha : -8388608 ≤ a ∧ a ≤ 8388608) (hb1 : -8388608 ≤ b ∧ b ≤ 8388608) (hl1 : -33554432 ≤ lo ∧ lo ≤ 33554432) (hh1 : -33554432 ≤ hi ∧ hi ≤ 33554432) : Met l yX3_narrow wsX3_narrow { frames := 1, cells := 0, slots := 0, locals := 24 } (zPc D (TY cI cJ cT) [.ref hs, .int (iI a), .int (iI b), .int (iI lo), .int (iI hi)] [(hs, .inr (3, [.ref b1, .ref b2, .ref e1, .ref e2, .int (iI m1), .long (lI ff), .long (lI fs), .long (lI tf), .long (lI ts)]))] sz) (zQv D (TY cI cJ cT) (va_A [(hs, .inr (3, [.ref b1, .ref b2, .ref e1, .ref e2, .int (iI m1), .long (lI ff), .long (lI fs), .long (lI tf), .long (lI ts)]))] sz) (fun (u : Int × Int × Int × Int) => nwZ a b lo hi (ff, fs, tf, ts) = (u.1, u.2.1, u.2.2.1, u.2.2.2) ∧ frR u.1 u.2.1 ∧ frR u.2.2.1 u.2.2.2) (fun (u : Int × Int × Int × Int) => [(hs, .inr (3, [.ref b1, .ref b2, .ref e1, .ref e2, .int (iI m1), .long (lI u.1), .long (lI u.2.1), .long (lI u.2.2.1), .long (lI u.2.2.2)]))])) 0 0 (va_A [(hs, .inr (3, [.ref b1, .ref b2, .ref e1, .ref e2, .int (iI m1), .long (lI ff), .long (lI fs), .long (lI tf), .long (lI ts)]))] sz) := by
  refine zMv (cc := cX3_narrow) (maxL := 5) (ret := none) (by decide) rfl (Nat.le_of_ble_eq_true rfl) ?_
  intro p e s m below meth c A ls hE
  obtain ⟨hx, hb, hr, hts, hown, hlocks, hml, hnm, hP, hK, hD, hA, hS, hl⟩ := hE
  have hown : s.vm.findClass RX3 = some m.cls := hown
  have hl : lv_has ls 5 [(0, .ref hs), (1, .int (iI a)), (2, .int (iI b)), (3, .int (iI lo)), (4, .int (iI hi))] := hl
  obtain ⟨Q, hQ⟩ : ∃ Q, Q = MQ below (zQv D (TY cI cJ cT) A (fun (u : Int × Int × Int × Int) => nwZ a b lo hi (ff, fs, tf, ts) = (u.1, u.2.1, u.2.2.1, u.2.2.2) ∧ frR u.1 u.2.1 ∧ frR u.2.2.1 u.2.2.2) (fun (u : Int × Int × Int × Int) => [(hs, .inr (3, [.ref b1, .ref b2, .ref e1, .ref e2, .int (iI m1), .long (lI u.1), .long (lI u.2.1), .long (lI u.2.2.1), .long (lI u.2.2.2)]))])) ([.ref hs, .int (iI a), .int (iI b), .int (iI lo), .int (iI hi)] : List Value).toArray s 0 0 A := ⟨_, rfl⟩
  rw [← hQ]
  refine lv_iload_n hx hb dX3_narrow_0 rfl (lv_at hl 1 rfl) ?_
  refine lv_iload_n hx hb dX3_narrow_1 rfl (lv_at hl 2 rfl) ?_
  refine wz_icmp_ge (tgt := 33) hx hb dX3_narrow_2 (by decide) ⟨by omega, by omega⟩ ⟨by omega, by omega⟩ (fun c2 => ?_) (fun c2 => ?_)
  · skip
    refine lv_iload_n hx hb dX3_narrow_33 rfl (lv_at hl 1 rfl) ?_
    refine lv_iload_n hx hb dX3_narrow_34 rfl (lv_at hl 2 rfl) ?_
    refine wz_icmp_le (tgt := 66) hx hb dX3_narrow_35 (by decide) ⟨by omega, by omega⟩ ⟨by omega, by omega⟩ (fun c35 => ?_) (fun c35 => ?_)
    · skip
      refine lv_iload_n hx hb dX3_narrow_66 rfl (lv_at hl 1 rfl) ?_
      refine lv_iload_n hx hb dX3_narrow_67 rfl (lv_at hl 3 rfl) ?_
      refine wz_icmp_lt (tgt := 77) hx hb dX3_narrow_68 (by decide) ⟨by omega, by omega⟩ ⟨by omega, by omega⟩ (fun c68 => ?_) (fun c68 => ?_)
      · skip
        refine lv_aload_n hx hb dX3_narrow_77 rfl (lv_at hl 0 rfl) ?_
        refine lv_ldc2 (v := 2) hx hb hown (hts (.constantLong RX3 71 (2)) (by decide +kernel)) dX3_narrow_78 ?_
        refine wz_topl (show (2 : Int64) = lI 2 by decide) ?_
        refine lv_lconst (v := lI 1) hx hb dX3_narrow_81 (by decide) ?_
        refine wz_callv (wr := []) (va_runV (As := [.long (lI 2), .long (lI 1)]) (rest := []) ⟨hx, hb, hml, hown, hts⟩ (k_X3_beginNotBefore l D cI cJ cT s.heap.size hs b1 b2 e1 e2 m1 ff fs tf ts 2 1 (h1) (⟨⟨by omega, by omega⟩, by omega, by omega⟩)) (cwV 2 hts gX3_narrow_X3_beginNotBefore rfl rfl rfl (by decide +kernel) ⟨Nat.le_of_ble_eq_true rfl, Nat.le_of_ble_eq_true rfl⟩) (wz_preV hK hP hD [0] (by decide) rfl rfl 3 0 rfl rfl) rfl rfl hl.1 rfl (lv_room (Nat.le_of_ble_eq_true rfl)) dX3_narrow_82 ⟨Nat.le_of_ble_eq_true rfl, Nat.le_of_ble_eq_true rfl⟩) hP hD hS hA [0] [] rfl rfl rfl (by decide) (fun  u H locs hw82 hP hD hS => ?_)
        obtain ⟨fa, sa⟩ := u
        try dsimp only at hw82
        have hP : va_P D vwCl [(hs, .inr (3, [.ref b1, .ref b2, .ref e1, .ref e2, .int (iI m1), .long (lI fa), .long (lI sa), .long (lI tf), .long (lI ts)]))] H := hP.sub [0] rfl
        have hD : va_D A [(hs, .inr (3, [.ref b1, .ref b2, .ref e1, .ref e2, .int (iI m1), .long (lI fa), .long (lI sa), .long (lI tf), .long (lI ts)]))] := hD.sub [0] (by decide) rfl
        rw [hQ]
        exact wz_retv (tys := TY cI cJ cT) (fa, sa, tf, ts) hx hb hr hlocks hK hP hD hS (by (try dsimp only); exact (by unfold nwZ; rw [if_neg (by omega), if_neg (by omega), if_pos (by omega)]; dsimp only; rw [hw82.1]; exact ⟨rfl, hw82.2, h2⟩)) dX3_narrow_85
      · skip
        refine lv_iload_n hx hb dX3_narrow_71 rfl (lv_at hl 1 rfl) ?_
        refine lv_iload hx hb dX3_narrow_72 (lv_at hl 4 rfl) ?_
        refine wz_icmp_le (tgt := 85) hx hb dX3_narrow_74 (by decide) ⟨by omega, by omega⟩ ⟨by omega, by omega⟩ (fun c74 => ?_) (fun c74 => ?_)
        · skip
          rw [hQ]
          exact wz_retv (tys := TY cI cJ cT) (ff, fs, tf, ts) hx hb hr hlocks hK hP hD hS (by (try dsimp only); exact (by unfold nwZ; rw [if_neg (by omega), if_neg (by omega), if_neg (by omega)]; exact ⟨rfl, h1, h2⟩)) dX3_narrow_85
        · skip
          refine lv_aload_n hx hb dX3_narrow_77 rfl (lv_at hl 0 rfl) ?_
          refine lv_ldc2 (v := 2) hx hb hown (hts (.constantLong RX3 71 (2)) (by decide +kernel)) dX3_narrow_78 ?_
          refine wz_topl (show (2 : Int64) = lI 2 by decide) ?_
          refine lv_lconst (v := lI 1) hx hb dX3_narrow_81 (by decide) ?_
          refine wz_callv (wr := []) (va_runV (As := [.long (lI 2), .long (lI 1)]) (rest := []) ⟨hx, hb, hml, hown, hts⟩ (k_X3_beginNotBefore l D cI cJ cT s.heap.size hs b1 b2 e1 e2 m1 ff fs tf ts 2 1 (h1) (⟨⟨by omega, by omega⟩, by omega, by omega⟩)) (cwV 2 hts gX3_narrow_X3_beginNotBefore rfl rfl rfl (by decide +kernel) ⟨Nat.le_of_ble_eq_true rfl, Nat.le_of_ble_eq_true rfl⟩) (wz_preV hK hP hD [0] (by decide) rfl rfl 3 0 rfl rfl) rfl rfl hl.1 rfl (lv_room (Nat.le_of_ble_eq_true rfl)) dX3_narrow_82 ⟨Nat.le_of_ble_eq_true rfl, Nat.le_of_ble_eq_true rfl⟩) hP hD hS hA [0] [] rfl rfl rfl (by decide) (fun  u H locs hw82 hP hD hS => ?_)
          obtain ⟨fa, sa⟩ := u
          try dsimp only at hw82
          have hP : va_P D vwCl [(hs, .inr (3, [.ref b1, .ref b2, .ref e1, .ref e2, .int (iI m1), .long (lI fa), .long (lI sa), .long (lI tf), .long (lI ts)]))] H := hP.sub [0] rfl
          have hD : va_D A [(hs, .inr (3, [.ref b1, .ref b2, .ref e1, .ref e2, .int (iI m1), .long (lI fa), .long (lI sa), .long (lI tf), .long (lI ts)]))] := hD.sub [0] (by decide) rfl
          rw [hQ]
          exact wz_retv (tys := TY cI cJ cT) (fa, sa, tf, ts) hx hb hr hlocks hK hP hD hS (by (try dsimp only); exact (by unfold nwZ; rw [if_neg (by omega), if_neg (by omega), if_pos (by omega)]; dsimp only; rw [hw82.1]; exact ⟨rfl, hw82.2, h2⟩)) dX3_narrow_85
    · skip
      refine lv_aload_n hx hb dX3_narrow_38 rfl (lv_at hl 0 rfl) ?_
      refine lv_iload_n hx hb dX3_narrow_39 rfl (lv_at hl 1 rfl) ?_
      refine lv_iload hx hb dX3_narrow_40 (lv_at hl 4 rfl) ?_
      refine wz_isub hx hb dX3_narrow_42 ?_
      refine wz_i2l hx hb dX3_narrow_43 ⟨by omega, by omega⟩ ?_
      refine lv_iload_n hx hb dX3_narrow_44 rfl (lv_at hl 1 rfl) ?_
      refine lv_iload_n hx hb dX3_narrow_45 rfl (lv_at hl 2 rfl) ?_
      refine wz_isub hx hb dX3_narrow_46 ?_
      refine wz_i2l hx hb dX3_narrow_47 ⟨by omega, by omega⟩ ?_
      refine wz_callv (wr := []) (va_runV (As := [.long (lI (a - hi)), .long (lI (a - b))]) (rest := []) ⟨hx, hb, hml, hown, hts⟩ (k_X3_beginNotBefore l D cI cJ cT s.heap.size hs b1 b2 e1 e2 m1 ff fs tf ts (a - hi) (a - b) (h1) (⟨⟨by omega, by omega⟩, by omega, by omega⟩)) (cwV 2 hts gX3_narrow_X3_beginNotBefore rfl rfl rfl (by decide +kernel) ⟨Nat.le_of_ble_eq_true rfl, Nat.le_of_ble_eq_true rfl⟩) (wz_preV hK hP hD [0] (by decide) rfl rfl 3 0 rfl rfl) rfl rfl hl.1 rfl (lv_room (Nat.le_of_ble_eq_true rfl)) dX3_narrow_48 ⟨Nat.le_of_ble_eq_true rfl, Nat.le_of_ble_eq_true rfl⟩) hP hD hS hA [0] [] rfl rfl rfl (by decide) (fun  u H locs hw48 hP hD hS => ?_)
      obtain ⟨fa, sa⟩ := u
      try dsimp only at hw48
      have hP : va_P D vwCl [(hs, .inr (3, [.ref b1, .ref b2, .ref e1, .ref e2, .int (iI m1), .long (lI fa), .long (lI sa), .long (lI tf), .long (lI ts)]))] H := hP.sub [0] rfl
      have hD : va_D A [(hs, .inr (3, [.ref b1, .ref b2, .ref e1, .ref e2, .int (iI m1), .long (lI fa), .long (lI sa), .long (lI tf), .long (lI ts)]))] := hD.sub [0] (by decide) rfl
      refine lv_aload_n hx hb dX3_narrow_51 rfl (lv_at hl 0 rfl) ?_
      refine lv_iload_n hx hb dX3_narrow_52 rfl (lv_at hl 1 rfl) ?_
      refine lv_iload_n hx hb dX3_narrow_53 rfl (lv_at hl 3 rfl) ?_
      refine wz_isub hx hb dX3_narrow_54 ?_
      refine wz_i2l hx hb dX3_narrow_55 ⟨by omega, by omega⟩ ?_
      refine lv_iload_n hx hb dX3_narrow_56 rfl (lv_at hl 1 rfl) ?_
      refine lv_iload_n hx hb dX3_narrow_57 rfl (lv_at hl 2 rfl) ?_
      refine wz_isub hx hb dX3_narrow_58 ?_
      refine wz_i2l hx hb dX3_narrow_59 ⟨by omega, by omega⟩ ?_
      refine wz_callv (wr := []) (va_runV (As := [.long (lI (a - lo)), .long (lI (a - b))]) (rest := []) ⟨hx, hb, hml, hown, hts⟩ (k_X3_endNotBehind l D cI cJ cT H.size hs b1 b2 e1 e2 m1 fa sa tf ts (a - lo) (a - b) (h2) (⟨⟨by omega, by omega⟩, by omega, by omega⟩)) (cwV 2 hts gX3_narrow_X3_endNotBehind rfl rfl rfl (by decide +kernel) ⟨Nat.le_of_ble_eq_true rfl, Nat.le_of_ble_eq_true rfl⟩) (wz_preV hK hP hD [0] (by decide) rfl rfl 3 0 rfl rfl) rfl rfl hl.1 rfl (lv_room (Nat.le_of_ble_eq_true rfl)) dX3_narrow_60 ⟨Nat.le_of_ble_eq_true rfl, Nat.le_of_ble_eq_true rfl⟩) hP hD hS hA [0] [] rfl rfl rfl (by decide) (fun  u H locs hw60 hP hD hS => ?_)
      obtain ⟨fb, sb⟩ := u
      try dsimp only at hw60
      have hP : va_P D vwCl [(hs, .inr (3, [.ref b1, .ref b2, .ref e1, .ref e2, .int (iI m1), .long (lI fa), .long (lI sa), .long (lI fb), .long (lI sb)]))] H := hP.sub [0] rfl
      have hD : va_D A [(hs, .inr (3, [.ref b1, .ref b2, .ref e1, .ref e2, .int (iI m1), .long (lI fa), .long (lI sa), .long (lI fb), .long (lI sb)]))] := hD.sub [0] (by decide) rfl
      refine lv_goto (tgt := 85) hx hb dX3_narrow_63 (by decide) ?_
      rw [hQ]
      exact wz_retv (tys := TY cI cJ cT) (fa, sa, fb, sb) hx hb hr hlocks hK hP hD hS (by (try dsimp only); exact (by unfold nwZ; rw [if_neg (by omega), if_pos c35]; dsimp only; rw [hw48.1, hw60.1]; exact ⟨rfl, hw48.2, hw60.2⟩)) dX3_narrow_85
  · skip
    refine lv_aload_n hx hb dX3_narrow_5 rfl (lv_at hl 0 rfl) ?_
    refine lv_iload_n hx hb dX3_narrow_6 rfl (lv_at hl 3 rfl) ?_
    refine lv_iload_n hx hb dX3_narrow_7 rfl (lv_at hl 1 rfl) ?_
    refine wz_isub hx hb dX3_narrow_8 ?_
    refine wz_i2l hx hb dX3_narrow_9 ⟨by omega, by omega⟩ ?_
    refine lv_iload_n hx hb dX3_narrow_10 rfl (lv_at hl 2 rfl) ?_
    refine lv_iload_n hx hb dX3_narrow_11 rfl (lv_at hl 1 rfl) ?_
    refine wz_isub hx hb dX3_narrow_12 ?_
    refine wz_i2l hx hb dX3_narrow_13 ⟨by omega, by omega⟩ ?_
    refine wz_callv (wr := []) (va_runV (As := [.long (lI (lo - a)), .long (lI (b - a))]) (rest := []) ⟨hx, hb, hml, hown, hts⟩ (k_X3_beginNotBefore l D cI cJ cT s.heap.size hs b1 b2 e1 e2 m1 ff fs tf ts (lo - a) (b - a) (h1) (⟨⟨by omega, by omega⟩, by omega, by omega⟩)) (cwV 2 hts gX3_narrow_X3_beginNotBefore rfl rfl rfl (by decide +kernel) ⟨Nat.le_of_ble_eq_true rfl, Nat.le_of_ble_eq_true rfl⟩) (wz_preV hK hP hD [0] (by decide) rfl rfl 3 0 rfl rfl) rfl rfl hl.1 rfl (lv_room (Nat.le_of_ble_eq_true rfl)) dX3_narrow_14 ⟨Nat.le_of_ble_eq_true rfl, Nat.le_of_ble_eq_true rfl⟩) hP hD hS hA [0] [] rfl rfl rfl (by decide) (fun  u H locs hw14 hP hD hS => ?_)
    obtain ⟨fa, sa⟩ := u
    try dsimp only at hw14
    have hP : va_P D vwCl [(hs, .inr (3, [.ref b1, .ref b2, .ref e1, .ref e2, .int (iI m1), .long (lI fa), .long (lI sa), .long (lI tf), .long (lI ts)]))] H := hP.sub [0] rfl
    have hD : va_D A [(hs, .inr (3, [.ref b1, .ref b2, .ref e1, .ref e2, .int (iI m1), .long (lI fa), .long (lI sa), .long (lI tf), .long (lI ts)]))] := hD.sub [0] (by decide) rfl
    refine lv_aload_n hx hb dX3_narrow_17 rfl (lv_at hl 0 rfl) ?_
    refine lv_iload hx hb dX3_narrow_18 (lv_at hl 4 rfl) ?_
    refine lv_iload_n hx hb dX3_narrow_20 rfl (lv_at hl 1 rfl) ?_
    refine wz_isub hx hb dX3_narrow_21 ?_
    refine wz_i2l hx hb dX3_narrow_22 ⟨by omega, by omega⟩ ?_
    refine lv_iload_n hx hb dX3_narrow_23 rfl (lv_at hl 2 rfl) ?_
    refine lv_iload_n hx hb dX3_narrow_24 rfl (lv_at hl 1 rfl) ?_
    refine wz_isub hx hb dX3_narrow_25 ?_
    refine wz_i2l hx hb dX3_narrow_26 ⟨by omega, by omega⟩ ?_
    refine wz_callv (wr := []) (va_runV (As := [.long (lI (hi - a)), .long (lI (b - a))]) (rest := []) ⟨hx, hb, hml, hown, hts⟩ (k_X3_endNotBehind l D cI cJ cT H.size hs b1 b2 e1 e2 m1 fa sa tf ts (hi - a) (b - a) (h2) (⟨⟨by omega, by omega⟩, by omega, by omega⟩)) (cwV 2 hts gX3_narrow_X3_endNotBehind rfl rfl rfl (by decide +kernel) ⟨Nat.le_of_ble_eq_true rfl, Nat.le_of_ble_eq_true rfl⟩) (wz_preV hK hP hD [0] (by decide) rfl rfl 3 0 rfl rfl) rfl rfl hl.1 rfl (lv_room (Nat.le_of_ble_eq_true rfl)) dX3_narrow_27 ⟨Nat.le_of_ble_eq_true rfl, Nat.le_of_ble_eq_true rfl⟩) hP hD hS hA [0] [] rfl rfl rfl (by decide) (fun  u H locs hw27 hP hD hS => ?_)
    obtain ⟨fb, sb⟩ := u
    try dsimp only at hw27
    have hP : va_P D vwCl [(hs, .inr (3, [.ref b1, .ref b2, .ref e1, .ref e2, .int (iI m1), .long (lI fa), .long (lI sa), .long (lI fb), .long (lI sb)]))] H := hP.sub [0] rfl
    have hD : va_D A [(hs, .inr (3, [.ref b1, .ref b2, .ref e1, .ref e2, .int (iI m1), .long (lI fa), .long (lI sa), .long (lI fb), .long (lI sb)]))] := hD.sub [0] (by decide) rfl
    refine lv_goto (tgt := 85) hx hb dX3_narrow_30 (by decide) ?_
    rw [hQ]
    exact wz_retv (tys := TY cI cJ cT) (fa, sa, fb, sb) hx hb hr hlocks hK hP hD hS (by (try dsimp only); exact (by unfold nwZ; rw [if_pos c2]; dsimp only; rw [hw14.1, hw27.1]; exact ⟨rfl, hw14.2, hw27.2⟩)) dX3_narrow_85
set_option maxHeartbeats 4000000 in
set_option maxRecDepth 100000 in
theorem k_X3_note (l : Launch) (D : va_G) (cI cJ cT : ClassId) (sz : Nat) (hs : Nat) (b1 : Nat) (b2 : Nat) (e1 : Nat) (e2 : Nat) (m1 : Int) (ff : Int) (fs : Int) (tf : Int) (ts : Int) (bF : Int → Int) (bS : Int → Int) (eF : Int → Int) (eS : Int → Int) (a : Int) (b : Int) (hm : 0 ≤ m1 ∧ m1 < 20) (heF : okE eF) (heS : okS eS) (ha : 0 ≤ a ∧ a ≤ 2147483647) : Met l yX3_note wsX3_note { frames := 0, cells := 0, slots := 0, locals := 0 } (zPc D (TY cI cJ cT) [.ref hs, .long (lI a), .long (lI b)] [(hs, .inr (3, [.ref b1, .ref b2, .ref e1, .ref e2, .int (iI m1), .long (lI ff), .long (lI fs), .long (lI tf), .long (lI ts)])), (b1, .inl (cJ, 20, .inr (.inl (zJ bF)))), (b2, .inl (cJ, 20, .inr (.inl (zJ bS)))), (e1, .inl (cJ, 20, .inr (.inl (zJ eF)))), (e2, .inl (cJ, 20, .inr (.inl (zJ eS))))] sz) (zQv D (TY cI cJ cT) (va_A [(hs, .inr (3, [.ref b1, .ref b2, .ref e1, .ref e2, .int (iI m1), .long (lI ff), .long (lI fs), .long (lI tf), .long (lI ts)])), (b1, .inl (cJ, 20, .inr (.inl (zJ bF)))), (b2, .inl (cJ, 20, .inr (.inl (zJ bS)))), (e1, .inl (cJ, 20, .inr (.inl (zJ eF)))), (e2, .inl (cJ, 20, .inr (.inl (zJ eS))))] sz) (fun (u : Int × (Int → Int) × (Int → Int) × (Int → Int) × (Int → Int)) => noteZ a b (ff, fs, tf, ts) (m1, bF, bS, eF, eS) = (u.1, u.2.1, u.2.2.1, u.2.2.2.1, u.2.2.2.2)) (fun (u : Int × (Int → Int) × (Int → Int) × (Int → Int) × (Int → Int)) => [(hs, .inr (3, [.ref b1, .ref b2, .ref e1, .ref e2, .int (iI u.1), .long (lI ff), .long (lI fs), .long (lI tf), .long (lI ts)])), (b1, .inl (cJ, 20, .inr (.inl (zJ u.2.1)))), (b2, .inl (cJ, 20, .inr (.inl (zJ u.2.2.1)))), (e1, .inl (cJ, 20, .inr (.inl (zJ u.2.2.2.1)))), (e2, .inl (cJ, 20, .inr (.inl (zJ u.2.2.2.2))))])) 0 0 (va_A [(hs, .inr (3, [.ref b1, .ref b2, .ref e1, .ref e2, .int (iI m1), .long (lI ff), .long (lI fs), .long (lI tf), .long (lI ts)])), (b1, .inl (cJ, 20, .inr (.inl (zJ bF)))), (b2, .inl (cJ, 20, .inr (.inl (zJ bS)))), (e1, .inl (cJ, 20, .inr (.inl (zJ eF)))), (e2, .inl (cJ, 20, .inr (.inl (zJ eS))))] sz) := by
  refine zMv (cc := cX3_note) (maxL := 6) (ret := none) (by decide) rfl (Nat.le_of_ble_eq_true rfl) ?_
  intro p e s m below meth c A ls hE
  obtain ⟨hx, hb, hr, hts, hown, hlocks, hml, hnm, hP, hK, hD, hA, hS, hl⟩ := hE
  have hown : s.vm.findClass RX3 = some m.cls := hown
  have hl : lv_has ls 6 [(0, .ref hs), (1, .long (lI a)), (3, .long (lI b))] := hl
  have hin3 : ∀ w ∈ wsX30, w ∈ wsX3_note := by decide +kernel
  obtain ⟨Q, hQ⟩ : ∃ Q, Q = MQ below (zQv D (TY cI cJ cT) A (fun (u : Int × (Int → Int) × (Int → Int) × (Int → Int) × (Int → Int)) => noteZ a b (ff, fs, tf, ts) (m1, bF, bS, eF, eS) = (u.1, u.2.1, u.2.2.1, u.2.2.2.1, u.2.2.2.2)) (fun (u : Int × (Int → Int) × (Int → Int) × (Int → Int) × (Int → Int)) => [(hs, .inr (3, [.ref b1, .ref b2, .ref e1, .ref e2, .int (iI u.1), .long (lI ff), .long (lI fs), .long (lI tf), .long (lI ts)])), (b1, .inl (cJ, 20, .inr (.inl (zJ u.2.1)))), (b2, .inl (cJ, 20, .inr (.inl (zJ u.2.2.1)))), (e1, .inl (cJ, 20, .inr (.inl (zJ u.2.2.2.1)))), (e2, .inl (cJ, 20, .inr (.inl (zJ u.2.2.2.2))))])) ([.ref hs, .long (lI a), .long (lI b)] : List Value).toArray s 0 0 A := ⟨_, rfl⟩
  rw [← hQ]
  refine lv_aload_n hx hb dX3_note_0 rfl (lv_at hl 0 rfl) ?_
  refine va_get (D := D) (ci := 3) (v := .int (iI m1)) (C := RX3) (T := TX3) (N := 9) hx hb hts hin3 hown hK hP 0 rfl rfl 4 (by decide) (hts (.fieldLink RX3 24 "DriftLog$SpanRow" "size" "I") (by decide +kernel)) (fun _ h9 => h9) rfl dX3_note_1 ?_
  refine wz_if_le (tgt := 39) hx hb dX3_note_4 (by decide) ⟨by omega, by omega⟩ (fun c4 => ?_) (fun c4 => ?_)
  · skip
    refine lv_iconst (v := iI 0) hx hb dX3_note_39 rfl ?_
    refine lv_istore (lv' := [(5, .int (iI 0)), (0, .ref hs), (1, .long (lI a)), (3, .long (lI b))]) hx hb dX3_note_40 hl (by decide) rfl (fun ls hl => ?_)
    refine lv_iload hx hb dX3_note_42 (lv_at hl 0 rfl) ?_
    refine wz_if_ne (tgt := 103) hx hb dX3_note_44 (by decide) (by decide) (fun c44 => ?_) (fun c44 => ?_)
    · skip
      exact absurd c44 (by decide)
    · skip
      refine lv_aload_n hx hb dX3_note_47 rfl (lv_at hl 1 rfl) ?_
      refine va_get (D := D) (ci := 3) (v := .int (iI m1)) (C := RX3) (T := TX3) (N := 9) hx hb hts hin3 hown hK hP 0 rfl rfl 4 (by decide) (hts (.fieldLink RX3 24 "DriftLog$SpanRow" "size" "I") (by decide +kernel)) (fun _ h9 => h9) rfl dX3_note_48 ?_
      refine lv_bipush (v := iI 20) hx hb dX3_note_51 (by decide) ?_
      refine wz_icmp_ge (tgt := 103) hx hb dX3_note_53 (by decide) ⟨by omega, by omega⟩ (by decide) (fun c53 => ?_) (fun c53 => ?_)
      · skip
        exfalso; omega
      · skip
        refine lv_aload_n hx hb dX3_note_56 rfl (lv_at hl 1 rfl) ?_
        refine va_get (D := D) (ci := 3) (v := .ref b1) (C := RX3) (T := TX3) (N := 9) hx hb hts hin3 hown hK hP 0 rfl rfl 0 (by decide) (hts (.fieldLink RX3 9 "DriftLog$SpanRow" "beginFirsts" "[J") (by decide +kernel)) (fun _ h9 => h9) rfl dX3_note_57 ?_
        refine lv_aload_n hx hb dX3_note_60 rfl (lv_at hl 1 rfl) ?_
        refine va_get (D := D) (ci := 3) (v := .int (iI m1)) (C := RX3) (T := TX3) (N := 9) hx hb hts hin3 hown hK hP 0 rfl rfl 4 (by decide) (hts (.fieldLink RX3 24 "DriftLog$SpanRow" "size" "I") (by decide +kernel)) (fun _ h9 => h9) rfl dX3_note_61 ?_
        refine lv_lload_n hx hb dX3_note_64 rfl (lv_at hl 2 rfl) ?_
        refine lv_aload_n hx hb dX3_note_65 rfl (lv_at hl 1 rfl) ?_
        refine va_get (D := D) (ci := 3) (v := .long (lI fs)) (C := RX3) (T := TX3) (N := 9) hx hb hts hin3 hown hK hP 0 rfl rfl 6 (by decide) (hts (.fieldLink RX3 55 "DriftLog$SpanRow" "fromSecond" "J") (by decide +kernel)) (fun _ h9 => h9) rfl dX3_note_66 ?_
        refine wz_lmul hx hb dX3_note_69 ?_
        refine lv_aload_n hx hb dX3_note_70 rfl (lv_at hl 1 rfl) ?_
        refine va_get (D := D) (ci := 3) (v := .long (lI ff)) (C := RX3) (T := TX3) (N := 9) hx hb hts hin3 hown hK hP 0 rfl rfl 5 (by decide) (hts (.fieldLink RX3 45 "DriftLog$SpanRow" "fromFirst" "J") (by decide +kernel)) (fun _ h9 => h9) rfl dX3_note_71 ?_
        refine lv_lload_n hx hb dX3_note_74 rfl (lv_at hl 3 rfl) ?_
        refine lv_lload_n hx hb dX3_note_75 rfl (lv_at hl 2 rfl) ?_
        refine wz_lsub hx hb dX3_note_76 ?_
        refine wz_lmul hx hb dX3_note_77 ?_
        refine wz_ladd hx hb dX3_note_78 ?_
        refine wz_last (tys := TY cI cJ cT) hx hb hK hP hD hS 1 1 rfl rfl (by decide) (by constructor <;> omega) dX3_note_79 (fun H locs hP hD hS => ?_)
        have hP : va_P D vwCl [(hs, .inr (3, [.ref b1, .ref b2, .ref e1, .ref e2, .int (iI m1), .long (lI ff), .long (lI fs), .long (lI tf), .long (lI ts)])), (b1, .inl (cJ, 20, .inr (.inl (zJ (uZ bF m1 ((a * fs) + (ff * (b - a)))))))), (b2, .inl (cJ, 20, .inr (.inl (zJ bS)))), (e1, .inl (cJ, 20, .inr (.inl (zJ eF)))), (e2, .inl (cJ, 20, .inr (.inl (zJ eS))))] H := hP
        have hD : va_D A [(hs, .inr (3, [.ref b1, .ref b2, .ref e1, .ref e2, .int (iI m1), .long (lI ff), .long (lI fs), .long (lI tf), .long (lI ts)])), (b1, .inl (cJ, 20, .inr (.inl (zJ (uZ bF m1 ((a * fs) + (ff * (b - a)))))))), (b2, .inl (cJ, 20, .inr (.inl (zJ bS)))), (e1, .inl (cJ, 20, .inr (.inl (zJ eF)))), (e2, .inl (cJ, 20, .inr (.inl (zJ eS))))] := hD
        refine lv_aload_n hx hb dX3_note_80 rfl (lv_at hl 1 rfl) ?_
        refine va_get (D := D) (ci := 3) (v := .ref b2) (C := RX3) (T := TX3) (N := 9) hx hb hts hin3 hown hK hP 0 rfl rfl 1 (by decide) (hts (.fieldLink RX3 15 "DriftLog$SpanRow" "beginSeconds" "[J") (by decide +kernel)) (fun _ h9 => h9) rfl dX3_note_81 ?_
        refine lv_aload_n hx hb dX3_note_84 rfl (lv_at hl 1 rfl) ?_
        refine va_get (D := D) (ci := 3) (v := .int (iI m1)) (C := RX3) (T := TX3) (N := 9) hx hb hts hin3 hown hK hP 0 rfl rfl 4 (by decide) (hts (.fieldLink RX3 24 "DriftLog$SpanRow" "size" "I") (by decide +kernel)) (fun _ h9 => h9) rfl dX3_note_85 ?_
        refine lv_aload_n hx hb dX3_note_88 rfl (lv_at hl 1 rfl) ?_
        refine va_get (D := D) (ci := 3) (v := .long (lI fs)) (C := RX3) (T := TX3) (N := 9) hx hb hts hin3 hown hK hP 0 rfl rfl 6 (by decide) (hts (.fieldLink RX3 55 "DriftLog$SpanRow" "fromSecond" "J") (by decide +kernel)) (fun _ h9 => h9) rfl dX3_note_89 ?_
        refine wz_last (tys := TY cI cJ cT) hx hb hK hP hD hS 2 1 rfl rfl (by decide) (by constructor <;> omega) dX3_note_92 (fun H locs hP hD hS => ?_)
        have hP : va_P D vwCl [(hs, .inr (3, [.ref b1, .ref b2, .ref e1, .ref e2, .int (iI m1), .long (lI ff), .long (lI fs), .long (lI tf), .long (lI ts)])), (b1, .inl (cJ, 20, .inr (.inl (zJ (uZ bF m1 ((a * fs) + (ff * (b - a)))))))), (b2, .inl (cJ, 20, .inr (.inl (zJ (uZ bS m1 fs))))), (e1, .inl (cJ, 20, .inr (.inl (zJ eF)))), (e2, .inl (cJ, 20, .inr (.inl (zJ eS))))] H := hP
        have hD : va_D A [(hs, .inr (3, [.ref b1, .ref b2, .ref e1, .ref e2, .int (iI m1), .long (lI ff), .long (lI fs), .long (lI tf), .long (lI ts)])), (b1, .inl (cJ, 20, .inr (.inl (zJ (uZ bF m1 ((a * fs) + (ff * (b - a)))))))), (b2, .inl (cJ, 20, .inr (.inl (zJ (uZ bS m1 fs))))), (e1, .inl (cJ, 20, .inr (.inl (zJ eF)))), (e2, .inl (cJ, 20, .inr (.inl (zJ eS))))] := hD
        refine lv_aload_n hx hb dX3_note_93 rfl (lv_at hl 1 rfl) ?_
        refine lv_dup hx hb dX3_note_94 rfl ?_
        refine va_get (D := D) (ci := 3) (v := .int (iI m1)) (C := RX3) (T := TX3) (N := 9) hx hb hts hin3 hown hK hP 0 rfl rfl 4 (by decide) (hts (.fieldLink RX3 24 "DriftLog$SpanRow" "size" "I") (by decide +kernel)) (fun _ h9 => h9) rfl dX3_note_95 ?_
        refine lv_iconst (v := iI 1) hx hb dX3_note_98 rfl ?_
        refine wz_iadd hx hb dX3_note_99 ?_
        refine va_put (D := D) (ci := 3) (v := .int (iI (m1 + 1))) (ty := .int) (C := RX3) (T := TX3) (N := 9) hx hb hts hin3 tyX3 tyX3_ok nmX3 hown hK hP hD hS 0 rfl rfl 4 (by decide) (hts (.fieldLink RX3 24 "DriftLog$SpanRow" "size" "I") (by decide +kernel)) (fun _ h9 => h9) rfl (by decide +kernel) rfl rfl (Nat.le_of_ble_eq_true rfl) dX3_note_100 (fun H locs hP hD hS => ?_)
        have hP : va_P D vwCl [(hs, .inr (3, [.ref b1, .ref b2, .ref e1, .ref e2, .int (iI (m1 + 1)), .long (lI ff), .long (lI fs), .long (lI tf), .long (lI ts)])), (b1, .inl (cJ, 20, .inr (.inl (zJ (uZ bF m1 ((a * fs) + (ff * (b - a)))))))), (b2, .inl (cJ, 20, .inr (.inl (zJ (uZ bS m1 fs))))), (e1, .inl (cJ, 20, .inr (.inl (zJ eF)))), (e2, .inl (cJ, 20, .inr (.inl (zJ eS))))] H := hP
        have hD : va_D A [(hs, .inr (3, [.ref b1, .ref b2, .ref e1, .ref e2, .int (iI (m1 + 1)), .long (lI ff), .long (lI fs), .long (lI tf), .long (lI ts)])), (b1, .inl (cJ, 20, .inr (.inl (zJ (uZ bF m1 ((a * fs) + (ff * (b - a)))))))), (b2, .inl (cJ, 20, .inr (.inl (zJ (uZ bS m1 fs))))), (e1, .inl (cJ, 20, .inr (.inl (zJ eF)))), (e2, .inl (cJ, 20, .inr (.inl (zJ eS))))] := hD
        refine lv_aload_n hx hb dX3_note_103 rfl (lv_at hl 1 rfl) ?_
        refine va_get (D := D) (ci := 3) (v := .int (iI (m1 + 1))) (C := RX3) (T := TX3) (N := 9) hx hb hts hin3 hown hK hP 0 rfl rfl 4 (by decide) (hts (.fieldLink RX3 24 "DriftLog$SpanRow" "size" "I") (by decide +kernel)) (fun _ h9 => h9) rfl dX3_note_104 ?_
        refine wz_if_le (tgt := 151) hx hb dX3_note_107 (by decide) ⟨by omega, by omega⟩ (fun c107 => ?_) (fun c107 => ?_)
        · skip
          exfalso; omega
        · skip
          refine lv_aload_n hx hb dX3_note_110 rfl (lv_at hl 1 rfl) ?_
          refine va_get (D := D) (ci := 3) (v := .ref e1) (C := RX3) (T := TX3) (N := 9) hx hb hts hin3 hown hK hP 0 rfl rfl 2 (by decide) (hts (.fieldLink RX3 18 "DriftLog$SpanRow" "endFirsts" "[J") (by decide +kernel)) (fun _ h9 => h9) rfl dX3_note_111 ?_
          refine lv_aload_n hx hb dX3_note_114 rfl (lv_at hl 1 rfl) ?_
          refine va_get (D := D) (ci := 3) (v := .int (iI (m1 + 1))) (C := RX3) (T := TX3) (N := 9) hx hb hts hin3 hown hK hP 0 rfl rfl 4 (by decide) (hts (.fieldLink RX3 24 "DriftLog$SpanRow" "size" "I") (by decide +kernel)) (fun _ h9 => h9) rfl dX3_note_115 ?_
          refine lv_iconst (v := iI 1) hx hb dX3_note_118 rfl ?_
          refine wz_isub hx hb dX3_note_119 ?_
          refine lv_lload_n hx hb dX3_note_120 rfl (lv_at hl 2 rfl) ?_
          refine lv_aload_n hx hb dX3_note_121 rfl (lv_at hl 1 rfl) ?_
          refine va_get (D := D) (ci := 3) (v := .long (lI ts)) (C := RX3) (T := TX3) (N := 9) hx hb hts hin3 hown hK hP 0 rfl rfl 8 (by decide) (hts (.fieldLink RX3 49 "DriftLog$SpanRow" "toSecond" "J") (by decide +kernel)) (fun _ h9 => h9) rfl dX3_note_122 ?_
          refine wz_lmul hx hb dX3_note_125 ?_
          refine lv_aload_n hx hb dX3_note_126 rfl (lv_at hl 1 rfl) ?_
          refine va_get (D := D) (ci := 3) (v := .long (lI tf)) (C := RX3) (T := TX3) (N := 9) hx hb hts hin3 hown hK hP 0 rfl rfl 7 (by decide) (hts (.fieldLink RX3 52 "DriftLog$SpanRow" "toFirst" "J") (by decide +kernel)) (fun _ h9 => h9) rfl dX3_note_127 ?_
          refine lv_lload_n hx hb dX3_note_130 rfl (lv_at hl 3 rfl) ?_
          refine lv_lload_n hx hb dX3_note_131 rfl (lv_at hl 2 rfl) ?_
          refine wz_lsub hx hb dX3_note_132 ?_
          refine wz_lmul hx hb dX3_note_133 ?_
          refine wz_ladd hx hb dX3_note_134 ?_
          refine wz_last (tys := TY cI cJ cT) hx hb hK hP hD hS 3 1 rfl rfl (by decide) (by constructor <;> omega) dX3_note_135 (fun H locs hP hD hS => ?_)
          have hP : va_P D vwCl [(hs, .inr (3, [.ref b1, .ref b2, .ref e1, .ref e2, .int (iI (m1 + 1)), .long (lI ff), .long (lI fs), .long (lI tf), .long (lI ts)])), (b1, .inl (cJ, 20, .inr (.inl (zJ (uZ bF m1 ((a * fs) + (ff * (b - a)))))))), (b2, .inl (cJ, 20, .inr (.inl (zJ (uZ bS m1 fs))))), (e1, .inl (cJ, 20, .inr (.inl (zJ (uZ eF ((m1 + 1) - 1) ((a * ts) + (tf * (b - a)))))))), (e2, .inl (cJ, 20, .inr (.inl (zJ eS))))] H := hP
          have hD : va_D A [(hs, .inr (3, [.ref b1, .ref b2, .ref e1, .ref e2, .int (iI (m1 + 1)), .long (lI ff), .long (lI fs), .long (lI tf), .long (lI ts)])), (b1, .inl (cJ, 20, .inr (.inl (zJ (uZ bF m1 ((a * fs) + (ff * (b - a)))))))), (b2, .inl (cJ, 20, .inr (.inl (zJ (uZ bS m1 fs))))), (e1, .inl (cJ, 20, .inr (.inl (zJ (uZ eF ((m1 + 1) - 1) ((a * ts) + (tf * (b - a)))))))), (e2, .inl (cJ, 20, .inr (.inl (zJ eS))))] := hD
          refine lv_aload_n hx hb dX3_note_136 rfl (lv_at hl 1 rfl) ?_
          refine va_get (D := D) (ci := 3) (v := .ref e2) (C := RX3) (T := TX3) (N := 9) hx hb hts hin3 hown hK hP 0 rfl rfl 3 (by decide) (hts (.fieldLink RX3 21 "DriftLog$SpanRow" "endSeconds" "[J") (by decide +kernel)) (fun _ h9 => h9) rfl dX3_note_137 ?_
          refine lv_aload_n hx hb dX3_note_140 rfl (lv_at hl 1 rfl) ?_
          refine va_get (D := D) (ci := 3) (v := .int (iI (m1 + 1))) (C := RX3) (T := TX3) (N := 9) hx hb hts hin3 hown hK hP 0 rfl rfl 4 (by decide) (hts (.fieldLink RX3 24 "DriftLog$SpanRow" "size" "I") (by decide +kernel)) (fun _ h9 => h9) rfl dX3_note_141 ?_
          refine lv_iconst (v := iI 1) hx hb dX3_note_144 rfl ?_
          refine wz_isub hx hb dX3_note_145 ?_
          refine lv_aload_n hx hb dX3_note_146 rfl (lv_at hl 1 rfl) ?_
          refine va_get (D := D) (ci := 3) (v := .long (lI ts)) (C := RX3) (T := TX3) (N := 9) hx hb hts hin3 hown hK hP 0 rfl rfl 8 (by decide) (hts (.fieldLink RX3 49 "DriftLog$SpanRow" "toSecond" "J") (by decide +kernel)) (fun _ h9 => h9) rfl dX3_note_147 ?_
          refine wz_last (tys := TY cI cJ cT) hx hb hK hP hD hS 4 1 rfl rfl (by decide) (by constructor <;> omega) dX3_note_150 (fun H locs hP hD hS => ?_)
          have hP : va_P D vwCl [(hs, .inr (3, [.ref b1, .ref b2, .ref e1, .ref e2, .int (iI (m1 + 1)), .long (lI ff), .long (lI fs), .long (lI tf), .long (lI ts)])), (b1, .inl (cJ, 20, .inr (.inl (zJ (uZ bF m1 ((a * fs) + (ff * (b - a)))))))), (b2, .inl (cJ, 20, .inr (.inl (zJ (uZ bS m1 fs))))), (e1, .inl (cJ, 20, .inr (.inl (zJ (uZ eF ((m1 + 1) - 1) ((a * ts) + (tf * (b - a)))))))), (e2, .inl (cJ, 20, .inr (.inl (zJ (uZ eS ((m1 + 1) - 1) ts)))))] H := hP
          have hD : va_D A [(hs, .inr (3, [.ref b1, .ref b2, .ref e1, .ref e2, .int (iI (m1 + 1)), .long (lI ff), .long (lI fs), .long (lI tf), .long (lI ts)])), (b1, .inl (cJ, 20, .inr (.inl (zJ (uZ bF m1 ((a * fs) + (ff * (b - a)))))))), (b2, .inl (cJ, 20, .inr (.inl (zJ (uZ bS m1 fs))))), (e1, .inl (cJ, 20, .inr (.inl (zJ (uZ eF ((m1 + 1) - 1) ((a * ts) + (tf * (b - a)))))))), (e2, .inl (cJ, 20, .inr (.inl (zJ (uZ eS ((m1 + 1) - 1) ts)))))] := hD
          rw [hQ]
          exact wz_retv (tys := TY cI cJ cT) ((m1 + 1), (uZ bF m1 ((a * fs) + (ff * (b - a)))), (uZ bS m1 fs), (uZ eF ((m1 + 1) - 1) ((a * ts) + (tf * (b - a)))), (uZ eS ((m1 + 1) - 1) ts)) hx hb hr hlocks hK hP hD hS (by (try dsimp only); exact (by rw [show m1 + 1 - 1 = m1 by omega]; exact noteZ_n (fun q => by first | omega | exact c32 q.2))) dX3_note_151
  · skip
    refine lv_aload_n hx hb dX3_note_7 rfl (lv_at hl 0 rfl) ?_
    refine va_get (D := D) (ci := 3) (v := .ref e1) (C := RX3) (T := TX3) (N := 9) hx hb hts hin3 hown hK hP 0 rfl rfl 2 (by decide) (hts (.fieldLink RX3 18 "DriftLog$SpanRow" "endFirsts" "[J") (by decide +kernel)) (fun _ h9 => h9) rfl dX3_note_8 ?_
    refine lv_aload_n hx hb dX3_note_11 rfl (lv_at hl 0 rfl) ?_
    refine va_get (D := D) (ci := 3) (v := .int (iI m1)) (C := RX3) (T := TX3) (N := 9) hx hb hts hin3 hown hK hP 0 rfl rfl 4 (by decide) (hts (.fieldLink RX3 24 "DriftLog$SpanRow" "size" "I") (by decide +kernel)) (fun _ h9 => h9) rfl dX3_note_12 ?_
    refine lv_iconst (v := iI 1) hx hb dX3_note_15 rfl ?_
    refine wz_isub hx hb dX3_note_16 ?_
    refine wz_lald (tys := TY cI cJ cT) hx hb hK hP 3 1 rfl rfl (by decide) (by constructor <;> omega) dX3_note_17 ?_
    refine lv_lload_n hx hb dX3_note_18 rfl (lv_at hl 1 rfl) ?_
    refine lv_aload_n hx hb dX3_note_19 rfl (lv_at hl 0 rfl) ?_
    refine va_get (D := D) (ci := 3) (v := .ref e2) (C := RX3) (T := TX3) (N := 9) hx hb hts hin3 hown hK hP 0 rfl rfl 3 (by decide) (hts (.fieldLink RX3 21 "DriftLog$SpanRow" "endSeconds" "[J") (by decide +kernel)) (fun _ h9 => h9) rfl dX3_note_20 ?_
    refine lv_aload_n hx hb dX3_note_23 rfl (lv_at hl 0 rfl) ?_
    refine va_get (D := D) (ci := 3) (v := .int (iI m1)) (C := RX3) (T := TX3) (N := 9) hx hb hts hin3 hown hK hP 0 rfl rfl 4 (by decide) (hts (.fieldLink RX3 24 "DriftLog$SpanRow" "size" "I") (by decide +kernel)) (fun _ h9 => h9) rfl dX3_note_24 ?_
    refine lv_iconst (v := iI 1) hx hb dX3_note_27 rfl ?_
    refine wz_isub hx hb dX3_note_28 ?_
    refine wz_lald (tys := TY cI cJ cT) hx hb hK hP 4 1 rfl rfl (by decide) (by constructor <;> omega) dX3_note_29 ?_
    refine wz_lmul hx hb dX3_note_30 ?_
    refine W.lcmp hx hb dX3_note_31 ?_
    refine wz_lif_ne (tgt := 39) hx hb dX3_note_32 (by decide) (by have := heF (m1 - 1); constructor <;> omega) (by have := mul31 (x := a) (by constructor <;> omega) (y := eS (m1 - 1)) (by have := heS (m1 - 1); constructor <;> omega); constructor <;> omega) (fun c32 => ?_) (fun c32 => ?_)
    · skip
      refine lv_iconst (v := iI 0) hx hb dX3_note_39 rfl ?_
      refine lv_istore (lv' := [(5, .int (iI 0)), (0, .ref hs), (1, .long (lI a)), (3, .long (lI b))]) hx hb dX3_note_40 hl (by decide) rfl (fun ls hl => ?_)
      refine lv_iload hx hb dX3_note_42 (lv_at hl 0 rfl) ?_
      refine wz_if_ne (tgt := 103) hx hb dX3_note_44 (by decide) (by decide) (fun c44 => ?_) (fun c44 => ?_)
      · skip
        exact absurd c44 (by decide)
      · skip
        refine lv_aload_n hx hb dX3_note_47 rfl (lv_at hl 1 rfl) ?_
        refine va_get (D := D) (ci := 3) (v := .int (iI m1)) (C := RX3) (T := TX3) (N := 9) hx hb hts hin3 hown hK hP 0 rfl rfl 4 (by decide) (hts (.fieldLink RX3 24 "DriftLog$SpanRow" "size" "I") (by decide +kernel)) (fun _ h9 => h9) rfl dX3_note_48 ?_
        refine lv_bipush (v := iI 20) hx hb dX3_note_51 (by decide) ?_
        refine wz_icmp_ge (tgt := 103) hx hb dX3_note_53 (by decide) ⟨by omega, by omega⟩ (by decide) (fun c53 => ?_) (fun c53 => ?_)
        · skip
          exfalso; omega
        · skip
          refine lv_aload_n hx hb dX3_note_56 rfl (lv_at hl 1 rfl) ?_
          refine va_get (D := D) (ci := 3) (v := .ref b1) (C := RX3) (T := TX3) (N := 9) hx hb hts hin3 hown hK hP 0 rfl rfl 0 (by decide) (hts (.fieldLink RX3 9 "DriftLog$SpanRow" "beginFirsts" "[J") (by decide +kernel)) (fun _ h9 => h9) rfl dX3_note_57 ?_
          refine lv_aload_n hx hb dX3_note_60 rfl (lv_at hl 1 rfl) ?_
          refine va_get (D := D) (ci := 3) (v := .int (iI m1)) (C := RX3) (T := TX3) (N := 9) hx hb hts hin3 hown hK hP 0 rfl rfl 4 (by decide) (hts (.fieldLink RX3 24 "DriftLog$SpanRow" "size" "I") (by decide +kernel)) (fun _ h9 => h9) rfl dX3_note_61 ?_
          refine lv_lload_n hx hb dX3_note_64 rfl (lv_at hl 2 rfl) ?_
          refine lv_aload_n hx hb dX3_note_65 rfl (lv_at hl 1 rfl) ?_
          refine va_get (D := D) (ci := 3) (v := .long (lI fs)) (C := RX3) (T := TX3) (N := 9) hx hb hts hin3 hown hK hP 0 rfl rfl 6 (by decide) (hts (.fieldLink RX3 55 "DriftLog$SpanRow" "fromSecond" "J") (by decide +kernel)) (fun _ h9 => h9) rfl dX3_note_66 ?_
          refine wz_lmul hx hb dX3_note_69 ?_
          refine lv_aload_n hx hb dX3_note_70 rfl (lv_at hl 1 rfl) ?_
          refine va_get (D := D) (ci := 3) (v := .long (lI ff)) (C := RX3) (T := TX3) (N := 9) hx hb hts hin3 hown hK hP 0 rfl rfl 5 (by decide) (hts (.fieldLink RX3 45 "DriftLog$SpanRow" "fromFirst" "J") (by decide +kernel)) (fun _ h9 => h9) rfl dX3_note_71 ?_
          refine lv_lload_n hx hb dX3_note_74 rfl (lv_at hl 3 rfl) ?_
          refine lv_lload_n hx hb dX3_note_75 rfl (lv_at hl 2 rfl) ?_
          refine wz_lsub hx hb dX3_note_76 ?_
          refine wz_lmul hx hb dX3_note_77 ?_
          refine wz_ladd hx hb dX3_note_78 ?_
          refine wz_last (tys := TY cI cJ cT) hx hb hK hP hD hS 1 1 rfl rfl (by decide) (by constructor <;> omega) dX3_note_79 (fun H locs hP hD hS => ?_)
          have hP : va_P D vwCl [(hs, .inr (3, [.ref b1, .ref b2, .ref e1, .ref e2, .int (iI m1), .long (lI ff), .long (lI fs), .long (lI tf), .long (lI ts)])), (b1, .inl (cJ, 20, .inr (.inl (zJ (uZ bF m1 ((a * fs) + (ff * (b - a)))))))), (b2, .inl (cJ, 20, .inr (.inl (zJ bS)))), (e1, .inl (cJ, 20, .inr (.inl (zJ eF)))), (e2, .inl (cJ, 20, .inr (.inl (zJ eS))))] H := hP
          have hD : va_D A [(hs, .inr (3, [.ref b1, .ref b2, .ref e1, .ref e2, .int (iI m1), .long (lI ff), .long (lI fs), .long (lI tf), .long (lI ts)])), (b1, .inl (cJ, 20, .inr (.inl (zJ (uZ bF m1 ((a * fs) + (ff * (b - a)))))))), (b2, .inl (cJ, 20, .inr (.inl (zJ bS)))), (e1, .inl (cJ, 20, .inr (.inl (zJ eF)))), (e2, .inl (cJ, 20, .inr (.inl (zJ eS))))] := hD
          refine lv_aload_n hx hb dX3_note_80 rfl (lv_at hl 1 rfl) ?_
          refine va_get (D := D) (ci := 3) (v := .ref b2) (C := RX3) (T := TX3) (N := 9) hx hb hts hin3 hown hK hP 0 rfl rfl 1 (by decide) (hts (.fieldLink RX3 15 "DriftLog$SpanRow" "beginSeconds" "[J") (by decide +kernel)) (fun _ h9 => h9) rfl dX3_note_81 ?_
          refine lv_aload_n hx hb dX3_note_84 rfl (lv_at hl 1 rfl) ?_
          refine va_get (D := D) (ci := 3) (v := .int (iI m1)) (C := RX3) (T := TX3) (N := 9) hx hb hts hin3 hown hK hP 0 rfl rfl 4 (by decide) (hts (.fieldLink RX3 24 "DriftLog$SpanRow" "size" "I") (by decide +kernel)) (fun _ h9 => h9) rfl dX3_note_85 ?_
          refine lv_aload_n hx hb dX3_note_88 rfl (lv_at hl 1 rfl) ?_
          refine va_get (D := D) (ci := 3) (v := .long (lI fs)) (C := RX3) (T := TX3) (N := 9) hx hb hts hin3 hown hK hP 0 rfl rfl 6 (by decide) (hts (.fieldLink RX3 55 "DriftLog$SpanRow" "fromSecond" "J") (by decide +kernel)) (fun _ h9 => h9) rfl dX3_note_89 ?_
          refine wz_last (tys := TY cI cJ cT) hx hb hK hP hD hS 2 1 rfl rfl (by decide) (by constructor <;> omega) dX3_note_92 (fun H locs hP hD hS => ?_)
          have hP : va_P D vwCl [(hs, .inr (3, [.ref b1, .ref b2, .ref e1, .ref e2, .int (iI m1), .long (lI ff), .long (lI fs), .long (lI tf), .long (lI ts)])), (b1, .inl (cJ, 20, .inr (.inl (zJ (uZ bF m1 ((a * fs) + (ff * (b - a)))))))), (b2, .inl (cJ, 20, .inr (.inl (zJ (uZ bS m1 fs))))), (e1, .inl (cJ, 20, .inr (.inl (zJ eF)))), (e2, .inl (cJ, 20, .inr (.inl (zJ eS))))] H := hP
          have hD : va_D A [(hs, .inr (3, [.ref b1, .ref b2, .ref e1, .ref e2, .int (iI m1), .long (lI ff), .long (lI fs), .long (lI tf), .long (lI ts)])), (b1, .inl (cJ, 20, .inr (.inl (zJ (uZ bF m1 ((a * fs) + (ff * (b - a)))))))), (b2, .inl (cJ, 20, .inr (.inl (zJ (uZ bS m1 fs))))), (e1, .inl (cJ, 20, .inr (.inl (zJ eF)))), (e2, .inl (cJ, 20, .inr (.inl (zJ eS))))] := hD
          refine lv_aload_n hx hb dX3_note_93 rfl (lv_at hl 1 rfl) ?_
          refine lv_dup hx hb dX3_note_94 rfl ?_
          refine va_get (D := D) (ci := 3) (v := .int (iI m1)) (C := RX3) (T := TX3) (N := 9) hx hb hts hin3 hown hK hP 0 rfl rfl 4 (by decide) (hts (.fieldLink RX3 24 "DriftLog$SpanRow" "size" "I") (by decide +kernel)) (fun _ h9 => h9) rfl dX3_note_95 ?_
          refine lv_iconst (v := iI 1) hx hb dX3_note_98 rfl ?_
          refine wz_iadd hx hb dX3_note_99 ?_
          refine va_put (D := D) (ci := 3) (v := .int (iI (m1 + 1))) (ty := .int) (C := RX3) (T := TX3) (N := 9) hx hb hts hin3 tyX3 tyX3_ok nmX3 hown hK hP hD hS 0 rfl rfl 4 (by decide) (hts (.fieldLink RX3 24 "DriftLog$SpanRow" "size" "I") (by decide +kernel)) (fun _ h9 => h9) rfl (by decide +kernel) rfl rfl (Nat.le_of_ble_eq_true rfl) dX3_note_100 (fun H locs hP hD hS => ?_)
          have hP : va_P D vwCl [(hs, .inr (3, [.ref b1, .ref b2, .ref e1, .ref e2, .int (iI (m1 + 1)), .long (lI ff), .long (lI fs), .long (lI tf), .long (lI ts)])), (b1, .inl (cJ, 20, .inr (.inl (zJ (uZ bF m1 ((a * fs) + (ff * (b - a)))))))), (b2, .inl (cJ, 20, .inr (.inl (zJ (uZ bS m1 fs))))), (e1, .inl (cJ, 20, .inr (.inl (zJ eF)))), (e2, .inl (cJ, 20, .inr (.inl (zJ eS))))] H := hP
          have hD : va_D A [(hs, .inr (3, [.ref b1, .ref b2, .ref e1, .ref e2, .int (iI (m1 + 1)), .long (lI ff), .long (lI fs), .long (lI tf), .long (lI ts)])), (b1, .inl (cJ, 20, .inr (.inl (zJ (uZ bF m1 ((a * fs) + (ff * (b - a)))))))), (b2, .inl (cJ, 20, .inr (.inl (zJ (uZ bS m1 fs))))), (e1, .inl (cJ, 20, .inr (.inl (zJ eF)))), (e2, .inl (cJ, 20, .inr (.inl (zJ eS))))] := hD
          refine lv_aload_n hx hb dX3_note_103 rfl (lv_at hl 1 rfl) ?_
          refine va_get (D := D) (ci := 3) (v := .int (iI (m1 + 1))) (C := RX3) (T := TX3) (N := 9) hx hb hts hin3 hown hK hP 0 rfl rfl 4 (by decide) (hts (.fieldLink RX3 24 "DriftLog$SpanRow" "size" "I") (by decide +kernel)) (fun _ h9 => h9) rfl dX3_note_104 ?_
          refine wz_if_le (tgt := 151) hx hb dX3_note_107 (by decide) ⟨by omega, by omega⟩ (fun c107 => ?_) (fun c107 => ?_)
          · skip
            exfalso; omega
          · skip
            refine lv_aload_n hx hb dX3_note_110 rfl (lv_at hl 1 rfl) ?_
            refine va_get (D := D) (ci := 3) (v := .ref e1) (C := RX3) (T := TX3) (N := 9) hx hb hts hin3 hown hK hP 0 rfl rfl 2 (by decide) (hts (.fieldLink RX3 18 "DriftLog$SpanRow" "endFirsts" "[J") (by decide +kernel)) (fun _ h9 => h9) rfl dX3_note_111 ?_
            refine lv_aload_n hx hb dX3_note_114 rfl (lv_at hl 1 rfl) ?_
            refine va_get (D := D) (ci := 3) (v := .int (iI (m1 + 1))) (C := RX3) (T := TX3) (N := 9) hx hb hts hin3 hown hK hP 0 rfl rfl 4 (by decide) (hts (.fieldLink RX3 24 "DriftLog$SpanRow" "size" "I") (by decide +kernel)) (fun _ h9 => h9) rfl dX3_note_115 ?_
            refine lv_iconst (v := iI 1) hx hb dX3_note_118 rfl ?_
            refine wz_isub hx hb dX3_note_119 ?_
            refine lv_lload_n hx hb dX3_note_120 rfl (lv_at hl 2 rfl) ?_
            refine lv_aload_n hx hb dX3_note_121 rfl (lv_at hl 1 rfl) ?_
            refine va_get (D := D) (ci := 3) (v := .long (lI ts)) (C := RX3) (T := TX3) (N := 9) hx hb hts hin3 hown hK hP 0 rfl rfl 8 (by decide) (hts (.fieldLink RX3 49 "DriftLog$SpanRow" "toSecond" "J") (by decide +kernel)) (fun _ h9 => h9) rfl dX3_note_122 ?_
            refine wz_lmul hx hb dX3_note_125 ?_
            refine lv_aload_n hx hb dX3_note_126 rfl (lv_at hl 1 rfl) ?_
            refine va_get (D := D) (ci := 3) (v := .long (lI tf)) (C := RX3) (T := TX3) (N := 9) hx hb hts hin3 hown hK hP 0 rfl rfl 7 (by decide) (hts (.fieldLink RX3 52 "DriftLog$SpanRow" "toFirst" "J") (by decide +kernel)) (fun _ h9 => h9) rfl dX3_note_127 ?_
            refine lv_lload_n hx hb dX3_note_130 rfl (lv_at hl 3 rfl) ?_
            refine lv_lload_n hx hb dX3_note_131 rfl (lv_at hl 2 rfl) ?_
            refine wz_lsub hx hb dX3_note_132 ?_
            refine wz_lmul hx hb dX3_note_133 ?_
            refine wz_ladd hx hb dX3_note_134 ?_
            refine wz_last (tys := TY cI cJ cT) hx hb hK hP hD hS 3 1 rfl rfl (by decide) (by constructor <;> omega) dX3_note_135 (fun H locs hP hD hS => ?_)
            have hP : va_P D vwCl [(hs, .inr (3, [.ref b1, .ref b2, .ref e1, .ref e2, .int (iI (m1 + 1)), .long (lI ff), .long (lI fs), .long (lI tf), .long (lI ts)])), (b1, .inl (cJ, 20, .inr (.inl (zJ (uZ bF m1 ((a * fs) + (ff * (b - a)))))))), (b2, .inl (cJ, 20, .inr (.inl (zJ (uZ bS m1 fs))))), (e1, .inl (cJ, 20, .inr (.inl (zJ (uZ eF ((m1 + 1) - 1) ((a * ts) + (tf * (b - a)))))))), (e2, .inl (cJ, 20, .inr (.inl (zJ eS))))] H := hP
            have hD : va_D A [(hs, .inr (3, [.ref b1, .ref b2, .ref e1, .ref e2, .int (iI (m1 + 1)), .long (lI ff), .long (lI fs), .long (lI tf), .long (lI ts)])), (b1, .inl (cJ, 20, .inr (.inl (zJ (uZ bF m1 ((a * fs) + (ff * (b - a)))))))), (b2, .inl (cJ, 20, .inr (.inl (zJ (uZ bS m1 fs))))), (e1, .inl (cJ, 20, .inr (.inl (zJ (uZ eF ((m1 + 1) - 1) ((a * ts) + (tf * (b - a)))))))), (e2, .inl (cJ, 20, .inr (.inl (zJ eS))))] := hD
            refine lv_aload_n hx hb dX3_note_136 rfl (lv_at hl 1 rfl) ?_
            refine va_get (D := D) (ci := 3) (v := .ref e2) (C := RX3) (T := TX3) (N := 9) hx hb hts hin3 hown hK hP 0 rfl rfl 3 (by decide) (hts (.fieldLink RX3 21 "DriftLog$SpanRow" "endSeconds" "[J") (by decide +kernel)) (fun _ h9 => h9) rfl dX3_note_137 ?_
            refine lv_aload_n hx hb dX3_note_140 rfl (lv_at hl 1 rfl) ?_
            refine va_get (D := D) (ci := 3) (v := .int (iI (m1 + 1))) (C := RX3) (T := TX3) (N := 9) hx hb hts hin3 hown hK hP 0 rfl rfl 4 (by decide) (hts (.fieldLink RX3 24 "DriftLog$SpanRow" "size" "I") (by decide +kernel)) (fun _ h9 => h9) rfl dX3_note_141 ?_
            refine lv_iconst (v := iI 1) hx hb dX3_note_144 rfl ?_
            refine wz_isub hx hb dX3_note_145 ?_
            refine lv_aload_n hx hb dX3_note_146 rfl (lv_at hl 1 rfl) ?_
            refine va_get (D := D) (ci := 3) (v := .long (lI ts)) (C := RX3) (T := TX3) (N := 9) hx hb hts hin3 hown hK hP 0 rfl rfl 8 (by decide) (hts (.fieldLink RX3 49 "DriftLog$SpanRow" "toSecond" "J") (by decide +kernel)) (fun _ h9 => h9) rfl dX3_note_147 ?_
            refine wz_last (tys := TY cI cJ cT) hx hb hK hP hD hS 4 1 rfl rfl (by decide) (by constructor <;> omega) dX3_note_150 (fun H locs hP hD hS => ?_)
            have hP : va_P D vwCl [(hs, .inr (3, [.ref b1, .ref b2, .ref e1, .ref e2, .int (iI (m1 + 1)), .long (lI ff), .long (lI fs), .long (lI tf), .long (lI ts)])), (b1, .inl (cJ, 20, .inr (.inl (zJ (uZ bF m1 ((a * fs) + (ff * (b - a)))))))), (b2, .inl (cJ, 20, .inr (.inl (zJ (uZ bS m1 fs))))), (e1, .inl (cJ, 20, .inr (.inl (zJ (uZ eF ((m1 + 1) - 1) ((a * ts) + (tf * (b - a)))))))), (e2, .inl (cJ, 20, .inr (.inl (zJ (uZ eS ((m1 + 1) - 1) ts)))))] H := hP
            have hD : va_D A [(hs, .inr (3, [.ref b1, .ref b2, .ref e1, .ref e2, .int (iI (m1 + 1)), .long (lI ff), .long (lI fs), .long (lI tf), .long (lI ts)])), (b1, .inl (cJ, 20, .inr (.inl (zJ (uZ bF m1 ((a * fs) + (ff * (b - a)))))))), (b2, .inl (cJ, 20, .inr (.inl (zJ (uZ bS m1 fs))))), (e1, .inl (cJ, 20, .inr (.inl (zJ (uZ eF ((m1 + 1) - 1) ((a * ts) + (tf * (b - a)))))))), (e2, .inl (cJ, 20, .inr (.inl (zJ (uZ eS ((m1 + 1) - 1) ts)))))] := hD
            rw [hQ]
            exact wz_retv (tys := TY cI cJ cT) ((m1 + 1), (uZ bF m1 ((a * fs) + (ff * (b - a)))), (uZ bS m1 fs), (uZ eF ((m1 + 1) - 1) ((a * ts) + (tf * (b - a)))), (uZ eS ((m1 + 1) - 1) ts)) hx hb hr hlocks hK hP hD hS (by (try dsimp only); exact (by rw [show m1 + 1 - 1 = m1 by omega]; exact noteZ_n (fun q => by first | omega | exact c32 q.2))) dX3_note_151
    · skip
      refine lv_iconst (v := iI 1) hx hb dX3_note_35 rfl ?_
      refine lv_goto (tgt := 40) hx hb dX3_note_36 (by decide) ?_
      refine lv_istore (lv' := [(5, .int (iI 1)), (0, .ref hs), (1, .long (lI a)), (3, .long (lI b))]) hx hb dX3_note_40 hl (by decide) rfl (fun ls hl => ?_)
      refine lv_iload hx hb dX3_note_42 (lv_at hl 0 rfl) ?_
      refine wz_if_ne (tgt := 103) hx hb dX3_note_44 (by decide) (by decide) (fun c44 => ?_) (fun c44 => ?_)
      · skip
        refine lv_aload_n hx hb dX3_note_103 rfl (lv_at hl 1 rfl) ?_
        refine va_get (D := D) (ci := 3) (v := .int (iI m1)) (C := RX3) (T := TX3) (N := 9) hx hb hts hin3 hown hK hP 0 rfl rfl 4 (by decide) (hts (.fieldLink RX3 24 "DriftLog$SpanRow" "size" "I") (by decide +kernel)) (fun _ h9 => h9) rfl dX3_note_104 ?_
        refine wz_if_le (tgt := 151) hx hb dX3_note_107 (by decide) ⟨by omega, by omega⟩ (fun c107 => ?_) (fun c107 => ?_)
        · skip
          exfalso; omega
        · skip
          refine lv_aload_n hx hb dX3_note_110 rfl (lv_at hl 1 rfl) ?_
          refine va_get (D := D) (ci := 3) (v := .ref e1) (C := RX3) (T := TX3) (N := 9) hx hb hts hin3 hown hK hP 0 rfl rfl 2 (by decide) (hts (.fieldLink RX3 18 "DriftLog$SpanRow" "endFirsts" "[J") (by decide +kernel)) (fun _ h9 => h9) rfl dX3_note_111 ?_
          refine lv_aload_n hx hb dX3_note_114 rfl (lv_at hl 1 rfl) ?_
          refine va_get (D := D) (ci := 3) (v := .int (iI m1)) (C := RX3) (T := TX3) (N := 9) hx hb hts hin3 hown hK hP 0 rfl rfl 4 (by decide) (hts (.fieldLink RX3 24 "DriftLog$SpanRow" "size" "I") (by decide +kernel)) (fun _ h9 => h9) rfl dX3_note_115 ?_
          refine lv_iconst (v := iI 1) hx hb dX3_note_118 rfl ?_
          refine wz_isub hx hb dX3_note_119 ?_
          refine lv_lload_n hx hb dX3_note_120 rfl (lv_at hl 2 rfl) ?_
          refine lv_aload_n hx hb dX3_note_121 rfl (lv_at hl 1 rfl) ?_
          refine va_get (D := D) (ci := 3) (v := .long (lI ts)) (C := RX3) (T := TX3) (N := 9) hx hb hts hin3 hown hK hP 0 rfl rfl 8 (by decide) (hts (.fieldLink RX3 49 "DriftLog$SpanRow" "toSecond" "J") (by decide +kernel)) (fun _ h9 => h9) rfl dX3_note_122 ?_
          refine wz_lmul hx hb dX3_note_125 ?_
          refine lv_aload_n hx hb dX3_note_126 rfl (lv_at hl 1 rfl) ?_
          refine va_get (D := D) (ci := 3) (v := .long (lI tf)) (C := RX3) (T := TX3) (N := 9) hx hb hts hin3 hown hK hP 0 rfl rfl 7 (by decide) (hts (.fieldLink RX3 52 "DriftLog$SpanRow" "toFirst" "J") (by decide +kernel)) (fun _ h9 => h9) rfl dX3_note_127 ?_
          refine lv_lload_n hx hb dX3_note_130 rfl (lv_at hl 3 rfl) ?_
          refine lv_lload_n hx hb dX3_note_131 rfl (lv_at hl 2 rfl) ?_
          refine wz_lsub hx hb dX3_note_132 ?_
          refine wz_lmul hx hb dX3_note_133 ?_
          refine wz_ladd hx hb dX3_note_134 ?_
          refine wz_last (tys := TY cI cJ cT) hx hb hK hP hD hS 3 1 rfl rfl (by decide) (by constructor <;> omega) dX3_note_135 (fun H locs hP hD hS => ?_)
          have hP : va_P D vwCl [(hs, .inr (3, [.ref b1, .ref b2, .ref e1, .ref e2, .int (iI m1), .long (lI ff), .long (lI fs), .long (lI tf), .long (lI ts)])), (b1, .inl (cJ, 20, .inr (.inl (zJ bF)))), (b2, .inl (cJ, 20, .inr (.inl (zJ bS)))), (e1, .inl (cJ, 20, .inr (.inl (zJ (uZ eF (m1 - 1) ((a * ts) + (tf * (b - a)))))))), (e2, .inl (cJ, 20, .inr (.inl (zJ eS))))] H := hP
          have hD : va_D A [(hs, .inr (3, [.ref b1, .ref b2, .ref e1, .ref e2, .int (iI m1), .long (lI ff), .long (lI fs), .long (lI tf), .long (lI ts)])), (b1, .inl (cJ, 20, .inr (.inl (zJ bF)))), (b2, .inl (cJ, 20, .inr (.inl (zJ bS)))), (e1, .inl (cJ, 20, .inr (.inl (zJ (uZ eF (m1 - 1) ((a * ts) + (tf * (b - a)))))))), (e2, .inl (cJ, 20, .inr (.inl (zJ eS))))] := hD
          refine lv_aload_n hx hb dX3_note_136 rfl (lv_at hl 1 rfl) ?_
          refine va_get (D := D) (ci := 3) (v := .ref e2) (C := RX3) (T := TX3) (N := 9) hx hb hts hin3 hown hK hP 0 rfl rfl 3 (by decide) (hts (.fieldLink RX3 21 "DriftLog$SpanRow" "endSeconds" "[J") (by decide +kernel)) (fun _ h9 => h9) rfl dX3_note_137 ?_
          refine lv_aload_n hx hb dX3_note_140 rfl (lv_at hl 1 rfl) ?_
          refine va_get (D := D) (ci := 3) (v := .int (iI m1)) (C := RX3) (T := TX3) (N := 9) hx hb hts hin3 hown hK hP 0 rfl rfl 4 (by decide) (hts (.fieldLink RX3 24 "DriftLog$SpanRow" "size" "I") (by decide +kernel)) (fun _ h9 => h9) rfl dX3_note_141 ?_
          refine lv_iconst (v := iI 1) hx hb dX3_note_144 rfl ?_
          refine wz_isub hx hb dX3_note_145 ?_
          refine lv_aload_n hx hb dX3_note_146 rfl (lv_at hl 1 rfl) ?_
          refine va_get (D := D) (ci := 3) (v := .long (lI ts)) (C := RX3) (T := TX3) (N := 9) hx hb hts hin3 hown hK hP 0 rfl rfl 8 (by decide) (hts (.fieldLink RX3 49 "DriftLog$SpanRow" "toSecond" "J") (by decide +kernel)) (fun _ h9 => h9) rfl dX3_note_147 ?_
          refine wz_last (tys := TY cI cJ cT) hx hb hK hP hD hS 4 1 rfl rfl (by decide) (by constructor <;> omega) dX3_note_150 (fun H locs hP hD hS => ?_)
          have hP : va_P D vwCl [(hs, .inr (3, [.ref b1, .ref b2, .ref e1, .ref e2, .int (iI m1), .long (lI ff), .long (lI fs), .long (lI tf), .long (lI ts)])), (b1, .inl (cJ, 20, .inr (.inl (zJ bF)))), (b2, .inl (cJ, 20, .inr (.inl (zJ bS)))), (e1, .inl (cJ, 20, .inr (.inl (zJ (uZ eF (m1 - 1) ((a * ts) + (tf * (b - a)))))))), (e2, .inl (cJ, 20, .inr (.inl (zJ (uZ eS (m1 - 1) ts)))))] H := hP
          have hD : va_D A [(hs, .inr (3, [.ref b1, .ref b2, .ref e1, .ref e2, .int (iI m1), .long (lI ff), .long (lI fs), .long (lI tf), .long (lI ts)])), (b1, .inl (cJ, 20, .inr (.inl (zJ bF)))), (b2, .inl (cJ, 20, .inr (.inl (zJ bS)))), (e1, .inl (cJ, 20, .inr (.inl (zJ (uZ eF (m1 - 1) ((a * ts) + (tf * (b - a)))))))), (e2, .inl (cJ, 20, .inr (.inl (zJ (uZ eS (m1 - 1) ts)))))] := hD
          rw [hQ]
          exact wz_retv (tys := TY cI cJ cT) (m1, bF, bS, (uZ eF (m1 - 1) ((a * ts) + (tf * (b - a)))), (uZ eS (m1 - 1) ts)) hx hb hr hlocks hK hP hD hS (by (try dsimp only); exact (noteZ_g (by omega) c32)) dX3_note_151
      · skip
        exact absurd c44 (by decide)
