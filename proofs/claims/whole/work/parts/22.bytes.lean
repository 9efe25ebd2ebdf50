set_option maxHeartbeats 4000000 in
set_option maxRecDepth 100000 in
theorem k_X2_copyFrom (l : Launch) (D : va_G) (cI cJ cT : ClassId) (sz : Nat) (h0 : Nat) (q1 : Nat) (q2 : Nat) (q3 : Nat) (ft : Int → Int) (fx : Int → Int) (fy : Int → Int) (n : Int) (h5 : Nat) (q5 : Nat) (q6 : Nat) (q7 : Nat) (gt : Int → Int) (gx : Int → Int) (gy : Int → Int) (k : Int) (hk : 0 ≤ k ∧ k ≤ 20) : Met l yX2_copyFrom wsX2_copyFrom { frames := 1, cells := 0, slots := 0, locals := 23 } (zPc D (TY cI cJ cT) [.ref h0, .ref h5] [(h0, .inr (2, [.ref q1, .ref q2, .ref q3, .int (iI n)])), (q1, .inl (cI, 20, .inl (zA ft))), (q2, .inl (cI, 20, .inl (zA fx))), (q3, .inl (cI, 20, .inl (zA fy))), (h5, .inr (2, [.ref q5, .ref q6, .ref q7, .int (iI k)])), (q5, .inl (cI, 20, .inl (zA gt))), (q6, .inl (cI, 20, .inl (zA gx))), (q7, .inl (cI, 20, .inl (zA gy)))] sz) (zQv D (TY cI cJ cT) (va_A [(h0, .inr (2, [.ref q1, .ref q2, .ref q3, .int (iI n)])), (q1, .inl (cI, 20, .inl (zA ft))), (q2, .inl (cI, 20, .inl (zA fx))), (q3, .inl (cI, 20, .inl (zA fy))), (h5, .inr (2, [.ref q5, .ref q6, .ref q7, .int (iI k)])), (q5, .inl (cI, 20, .inl (zA gt))), (q6, .inl (cI, 20, .inl (zA gx))), (q7, .inl (cI, 20, .inl (zA gy)))] sz) (fun (u : (Int → Int) × (Int → Int) × (Int → Int)) => (∀ j, 0 ≤ j → j < k → (u.1) j = gt j ∧ (u.2.1) j = gx j ∧ (u.2.2) j = gy j) ∧ ∀ j, ¬ (0 ≤ j ∧ j < k) → (u.1) j = ft j ∧ (u.2.1) j = fx j ∧ (u.2.2) j = fy j) (fun (u : (Int → Int) × (Int → Int) × (Int → Int)) => [(h0, .inr (2, [.ref q1, .ref q2, .ref q3, .int (iI k)])), (q1, .inl (cI, 20, .inl (zA u.1))), (q2, .inl (cI, 20, .inl (zA u.2.1))), (q3, .inl (cI, 20, .inl (zA u.2.2))), (h5, .inr (2, [.ref q5, .ref q6, .ref q7, .int (iI k)])), (q5, .inl (cI, 20, .inl (zA gt))), (q6, .inl (cI, 20, .inl (zA gx))), (q7, .inl (cI, 20, .inl (zA gy)))])) 0 0 (va_A [(h0, .inr (2, [.ref q1, .ref q2, .ref q3, .int (iI n)])), (q1, .inl (cI, 20, .inl (zA ft))), (q2, .inl (cI, 20, .inl (zA fx))), (q3, .inl (cI, 20, .inl (zA fy))), (h5, .inr (2, [.ref q5, .ref q6, .ref q7, .int (iI k)])), (q5, .inl (cI, 20, .inl (zA gt))), (q6, .inl (cI, 20, .inl (zA gx))), (q7, .inl (cI, 20, .inl (zA gy)))] sz) := by
  refine zMv (cc := cX2_copyFrom) (maxL := 3) (ret := none) (by decide) rfl (Nat.le_of_ble_eq_true rfl) ?_
  intro p e s m below meth c A ls hE
  obtain ⟨hx, hb, hr, hts, hown, hlocks, hml, hnm, hP, hK, hD, hA, hS, hl⟩ := hE
  have hown : s.vm.findClass RX2 = some m.cls := hown
  have hl : lv_has ls 3 [(0, .ref h0), (1, .ref h5)] := hl
  have hin2 : ∀ w ∈ wsX20, w ∈ wsX2_copyFrom := by decide +kernel
  obtain ⟨Q, hQ⟩ : ∃ Q, Q = MQ below (zQv D (TY cI cJ cT) A (fun (u : (Int → Int) × (Int → Int) × (Int → Int)) => (∀ j, 0 ≤ j → j < k → (u.1) j = gt j ∧ (u.2.1) j = gx j ∧ (u.2.2) j = gy j) ∧ ∀ j, ¬ (0 ≤ j ∧ j < k) → (u.1) j = ft j ∧ (u.2.1) j = fx j ∧ (u.2.2) j = fy j) (fun (u : (Int → Int) × (Int → Int) × (Int → Int)) => [(h0, .inr (2, [.ref q1, .ref q2, .ref q3, .int (iI k)])), (q1, .inl (cI, 20, .inl (zA u.1))), (q2, .inl (cI, 20, .inl (zA u.2.1))), (q3, .inl (cI, 20, .inl (zA u.2.2))), (h5, .inr (2, [.ref q5, .ref q6, .ref q7, .int (iI k)])), (q5, .inl (cI, 20, .inl (zA gt))), (q6, .inl (cI, 20, .inl (zA gx))), (q7, .inl (cI, 20, .inl (zA gy)))])) ([.ref h0, .ref h5] : List Value).toArray s 0 0 A := ⟨_, rfl⟩
  rw [← hQ]
  refine lv_aload_n hx hb dX2_copyFrom_0 rfl (lv_at hl 0 rfl) ?_
  refine lv_iconst (v := iI 0) hx hb dX2_copyFrom_1 rfl ?_
  refine va_put (D := D) (ci := 2) (v := .int (iI 0)) (ty := .int) (C := RX2) (T := TX2) (N := 4) hx hb hts hin2 tyX2 tyX2_ok nmX2 hown hK hP hD hS 0 rfl rfl 3 (by decide) (hts (.fieldLink RX2 21 "DriftLog$Row" "size" "I") (by decide +kernel)) (fun _ h9 => h9) rfl (by decide +kernel) rfl rfl (Nat.le_of_ble_eq_true rfl) dX2_copyFrom_2 (fun H locs hP hD hS => ?_)
  have hP : va_P D vwCl [(h0, .inr (2, [.ref q1, .ref q2, .ref q3, .int (iI 0)])), (q1, .inl (cI, 20, .inl (zA ft))), (q2, .inl (cI, 20, .inl (zA fx))), (q3, .inl (cI, 20, .inl (zA fy))), (h5, .inr (2, [.ref q5, .ref q6, .ref q7, .int (iI k)])), (q5, .inl (cI, 20, .inl (zA gt))), (q6, .inl (cI, 20, .inl (zA gx))), (q7, .inl (cI, 20, .inl (zA gy)))] H := hP
  have hD : va_D A [(h0, .inr (2, [.ref q1, .ref q2, .ref q3, .int (iI 0)])), (q1, .inl (cI, 20, .inl (zA ft))), (q2, .inl (cI, 20, .inl (zA fx))), (q3, .inl (cI, 20, .inl (zA fy))), (h5, .inr (2, [.ref q5, .ref q6, .ref q7, .int (iI k)])), (q5, .inl (cI, 20, .inl (zA gt))), (q6, .inl (cI, 20, .inl (zA gx))), (q7, .inl (cI, 20, .inl (zA gy)))] := hD
  refine lv_iconst (v := iI 0) hx hb dX2_copyFrom_5 rfl ?_
  refine lv_istore_n (lv' := [(2, .int (iI 0)), (0, .ref h0), (1, .ref h5)]) hx hb dX2_copyFrom_6 rfl hl (by decide) rfl (fun ls hl => ?_)
  have LP7 : ∀ (N7 : Nat) (i : Int) (et : Int → Int) (ex : Int → Int) (ey : Int → Int) (H : Heap) (locs : List Loc) (ls : Array Slot), ((0 ≤ i ∧ i ≤ k) ∧ (∀ j, 0 ≤ j → j < i → et j = gt j ∧ ex j = gx j ∧ ey j = gy j) ∧ (∀ j, ¬ (0 ≤ j ∧ j < i) → et j = ft j ∧ ex j = fx j ∧ ey j = fy j)) → (k - i) < (N7 : Int) → va_P D vwCl [(h0, .inr (2, [.ref q1, .ref q2, .ref q3, .int (iI i)])), (q1, .inl (cI, 20, .inl (zA et))), (q2, .inl (cI, 20, .inl (zA ex))), (q3, .inl (cI, 20, .inl (zA ey))), (h5, .inr (2, [.ref q5, .ref q6, .ref q7, .int (iI k)])), (q5, .inl (cI, 20, .inl (zA gt))), (q6, .inl (cI, 20, .inl (zA gx))), (q7, .inl (cI, 20, .inl (zA gy)))] H → va_D A [(h0, .inr (2, [.ref q1, .ref q2, .ref q3, .int (iI i)])), (q1, .inl (cI, 20, .inl (zA et))), (q2, .inl (cI, 20, .inl (zA ex))), (q3, .inl (cI, 20, .inl (zA ey))), (h5, .inr (2, [.ref q5, .ref q6, .ref q7, .int (iI k)])), (q5, .inl (cI, 20, .inl (zA gt))), (q6, .inl (cI, 20, .inl (zA gx))), (q7, .inl (cI, 20, .inl (zA gy)))] → va_S A s.heap H locs → lv_has ls 3 [(0, .ref h0), (1, .ref h5), (2, .int (iI i))] → W p l e { frames := 1, cells := 0, slots := 0, locals := 23 } s m ([.ref h0, .ref h5] : List Value).toArray below meth c H locs 0 0 Q (F0 m 7 ls []) := by
    intro N7
    induction N7 with
    | zero =>
      intro i et ex ey H locs ls hI hm
      obtain ⟨a1, a2, a3⟩ := hI
      exfalso; omega
    | succ N7 ih7 =>
      intro i et ex ey H locs ls hI hm7 hP hD hS hl
      obtain ⟨a1, a2, a3⟩ := hI
      refine lv_iload_n hx hb dX2_copyFrom_7 rfl (lv_at hl 2 rfl) ?_
      refine lv_aload_n hx hb dX2_copyFrom_8 rfl (lv_at hl 1 rfl) ?_
      refine va_get (D := D) (ci := 2) (v := .int (iI k)) (C := RX2) (T := TX2) (N := 4) hx hb hts hin2 hown hK hP 4 rfl rfl 3 (by decide) (hts (.fieldLink RX2 21 "DriftLog$Row" "size" "I") (by decide +kernel)) (fun _ h9 => h9) rfl dX2_copyFrom_9 ?_
      refine wz_icmp_ge (tgt := 43) hx hb dX2_copyFrom_12 (by decide) ⟨by omega, by omega⟩ ⟨by omega, by omega⟩ (fun c12 => ?_) (fun c12 => ?_)
      · skip
        obtain rfl : i = k := by omega
        rw [hQ]
        exact wz_retv (tys := TY cI cJ cT) (et, ex, ey) hx hb hr hlocks hK hP hD hS (by (try dsimp only); exact (⟨a2, a3⟩)) dX2_copyFrom_43
      · skip
        refine lv_aload_n hx hb dX2_copyFrom_15 rfl (lv_at hl 0 rfl) ?_
        refine lv_aload_n hx hb dX2_copyFrom_16 rfl (lv_at hl 1 rfl) ?_
        refine va_get (D := D) (ci := 2) (v := .ref q5) (C := RX2) (T := TX2) (N := 4) hx hb hts hin2 hown hK hP 4 rfl rfl 0 (by decide) (hts (.fieldLink RX2 9 "DriftLog$Row" "times" "[I") (by decide +kernel)) (fun _ h9 => h9) rfl dX2_copyFrom_17 ?_
        refine lv_iload_n hx hb dX2_copyFrom_20 rfl (lv_at hl 2 rfl) ?_
        refine wz_iald (tys := TY cI cJ cT) hx hb hK hP 5 0 rfl rfl (by decide) (by constructor <;> omega) dX2_copyFrom_21 ?_
        refine lv_aload_n hx hb dX2_copyFrom_22 rfl (lv_at hl 1 rfl) ?_
        refine va_get (D := D) (ci := 2) (v := .ref q6) (C := RX2) (T := TX2) (N := 4) hx hb hts hin2 hown hK hP 4 rfl rfl 1 (by decide) (hts (.fieldLink RX2 15 "DriftLog$Row" "xs" "[I") (by decide +kernel)) (fun _ h9 => h9) rfl dX2_copyFrom_23 ?_
        refine lv_iload_n hx hb dX2_copyFrom_26 rfl (lv_at hl 2 rfl) ?_
        refine wz_iald (tys := TY cI cJ cT) hx hb hK hP 6 0 rfl rfl (by decide) (by constructor <;> omega) dX2_copyFrom_27 ?_
        refine lv_aload_n hx hb dX2_copyFrom_28 rfl (lv_at hl 1 rfl) ?_
        refine va_get (D := D) (ci := 2) (v := .ref q7) (C := RX2) (T := TX2) (N := 4) hx hb hts hin2 hown hK hP 4 rfl rfl 2 (by decide) (hts (.fieldLink RX2 18 "DriftLog$Row" "ys" "[I") (by decide +kernel)) (fun _ h9 => h9) rfl dX2_copyFrom_29 ?_
        refine lv_iload_n hx hb dX2_copyFrom_32 rfl (lv_at hl 2 rfl) ?_
        refine wz_iald (tys := TY cI cJ cT) hx hb hK hP 7 0 rfl rfl (by decide) (by constructor <;> omega) dX2_copyFrom_33 ?_
        refine wz_callv (wr := [(h5, .inr (2, [.ref q5, .ref q6, .ref q7, .int (iI k)])), (q5, .inl (cI, 20, .inl (zA gt))), (q6, .inl (cI, 20, .inl (zA gx))), (q7, .inl (cI, 20, .inl (zA gy)))]) (va_runV (As := [.int (iI (gt i)), .int (iI (gx i)), .int (iI (gy i))]) (rest := []) ⟨hx, hb, hml, hown, hts⟩ (k_X2_append l D cI cJ cT H.size h0 q1 q2 q3 et ex ey i (gt i) (gx i) (gy i) (by omega) (by omega)) (cwV 3 hts gX2_copyFrom_X2_append rfl rfl rfl (by decide +kernel) ⟨Nat.le_of_ble_eq_true rfl, Nat.le_of_ble_eq_true rfl⟩) (wz_preV hK hP hD [0, 1, 2, 3] (by decide) rfl rfl 2 0 rfl rfl) rfl rfl hl.1 rfl (lv_room (Nat.le_of_ble_eq_true rfl)) dX2_copyFrom_34 ⟨Nat.le_of_ble_eq_true rfl, Nat.le_of_ble_eq_true rfl⟩) hP hD hS hA [0, 1, 2, 3] [4, 5, 6, 7] rfl rfl rfl (by decide) (fun  u H locs hw34 hP hD hS => ?_)
        have hP : va_P D vwCl [(h0, .inr (2, [.ref q1, .ref q2, .ref q3, .int (iI (i + 1))])), (q1, .inl (cI, 20, .inl (zA (uZ et i (gt i))))), (q2, .inl (cI, 20, .inl (zA (uZ ex i (gx i))))), (q3, .inl (cI, 20, .inl (zA (uZ ey i (gy i))))), (h5, .inr (2, [.ref q5, .ref q6, .ref q7, .int (iI k)])), (q5, .inl (cI, 20, .inl (zA gt))), (q6, .inl (cI, 20, .inl (zA gx))), (q7, .inl (cI, 20, .inl (zA gy)))] H := hP.sub [4, 5, 6, 7, 0, 1, 2, 3] rfl
        have hD : va_D A [(h0, .inr (2, [.ref q1, .ref q2, .ref q3, .int (iI (i + 1))])), (q1, .inl (cI, 20, .inl (zA (uZ et i (gt i))))), (q2, .inl (cI, 20, .inl (zA (uZ ex i (gx i))))), (q3, .inl (cI, 20, .inl (zA (uZ ey i (gy i))))), (h5, .inr (2, [.ref q5, .ref q6, .ref q7, .int (iI k)])), (q5, .inl (cI, 20, .inl (zA gt))), (q6, .inl (cI, 20, .inl (zA gx))), (q7, .inl (cI, 20, .inl (zA gy)))] := hD.sub [4, 5, 6, 7, 0, 1, 2, 3] (by decide) rfl
        refine lv_iinc (v := iI (i + 1)) (lv' := [(2, .int (iI (i + 1))), (0, .ref h0), (1, .ref h5)]) hx hb dX2_copyFrom_37 hl (k := 2) rfl (iI_add _ _) (by decide) rfl (fun ls hl => ?_)
        refine lv_goto (tgt := 7) hx hb dX2_copyFrom_40 (by decide) ?_
        exact ih7 (i + 1) (uZ et i (gt i)) (uZ ex i (gx i)) (uZ ey i (gy i)) _ _ _ ⟨(by constructor <;> omega), (fun j h1 h2 => by rcases Int.lt_or_eq_of_le (Int.le_of_lt_add_one h2) with q | q; (rw [uZ_n _ (by omega), uZ_n _ (by omega), uZ_n _ (by omega)]; exact a2 j h1 q); (subst q; rw [uZ_s, uZ_s, uZ_s]; exact ⟨rfl, rfl, rfl⟩)), (fun j h => by rw [uZ_n _ (by omega), uZ_n _ (by omega), uZ_n _ (by omega)]; exact a3 j (by omega))⟩ (by omega) hP hD hS (lv_sub hl [1, 2, 0] rfl)
  exact LP7 (Int.toNat (k - 0) + 1) 0 ft fx fy _ _ _ ⟨(by constructor <;> omega), (fun j h1 h2 => absurd h2 (by omega)), (fun j _ => ⟨rfl, rfl, rfl⟩)⟩ (by omega) hP hD hS (lv_sub hl [1, 2, 0] rfl)
set_option maxHeartbeats 4000000 in
set_option maxRecDepth 100000 in
theorem k_X0_append (l : Launch) (D : va_G) (cI cJ cT : ClassId) (sz : Nat) (hb0 : Nat) (qb : Nat) (fb : Int → Int) (nb : Int) (v : Int) (h1 : 0 ≤ nb ∧ nb < 300) : Met l yX0_append wsX0_append { frames := 0, cells := 0, slots := 0, locals := 0 } (zPc D (TY cI cJ cT) [.ref hb0, .int (iI v)] [(hb0, .inr (0, [.ref qb, .int (iI nb)])), (qb, .inl (cI, 300, .inl (zA fb)))] sz) (zQv D (TY cI cJ cT) (va_A [(hb0, .inr (0, [.ref qb, .int (iI nb)])), (qb, .inl (cI, 300, .inl (zA fb)))] sz) (fun (u : Unit) => True) (fun (u : Unit) => [(hb0, .inr (0, [.ref qb, .int (iI (nb + 1))])), (qb, .inl (cI, 300, .inl (zA (uZ fb nb v))))])) 0 0 (va_A [(hb0, .inr (0, [.ref qb, .int (iI nb)])), (qb, .inl (cI, 300, .inl (zA fb)))] sz) := by
  refine zMv (cc := cX0_append) (maxL := 2) (ret := none) (by decide) rfl (Nat.le_of_ble_eq_true rfl) ?_
  intro p e s m below meth c A ls hE
  obtain ⟨hx, hb, hr, hts, hown, hlocks, hml, hnm, hP, hK, hD, hA, hS, hl⟩ := hE
  have hown : s.vm.findClass RX0 = some m.cls := hown
  have hl : lv_has ls 2 [(0, .ref hb0), (1, .int (iI v))] := hl
  have hin0 : ∀ w ∈ wsX00, w ∈ wsX0_append := by decide +kernel
  obtain ⟨Q, hQ⟩ : ∃ Q, Q = MQ below (zQv D (TY cI cJ cT) A (fun (u : Unit) => True) (fun (u : Unit) => [(hb0, .inr (0, [.ref qb, .int (iI (nb + 1))])), (qb, .inl (cI, 300, .inl (zA (uZ fb nb v))))])) ([.ref hb0, .int (iI v)] : List Value).toArray s 0 0 A := ⟨_, rfl⟩
  rw [← hQ]
  refine lv_aload_n hx hb dX0_append_0 rfl (lv_at hl 0 rfl) ?_
  refine va_get (D := D) (ci := 0) (v := .int (iI nb)) (C := RX0) (T := TX0) (N := 2) hx hb hts hin0 hown hK hP 0 rfl rfl 1 (by decide) (hts (.fieldLink RX0 15 "DriftLog$ByteRow" "size" "I") (by decide +kernel)) (fun _ h9 => h9) rfl dX0_append_1 ?_
  refine lv_sipush (v := iI 300) hx hb dX0_append_4 (by decide) ?_
  refine wz_icmp_ge (tgt := 30) hx hb dX0_append_7 (by decide) ⟨by omega, by omega⟩ (by decide) (fun c7 => ?_) (fun c7 => ?_)
  · skip
    exfalso; omega
  · skip
    refine lv_aload_n hx hb dX0_append_10 rfl (lv_at hl 0 rfl) ?_
    refine va_get (D := D) (ci := 0) (v := .ref qb) (C := RX0) (T := TX0) (N := 2) hx hb hts hin0 hown hK hP 0 rfl rfl 0 (by decide) (hts (.fieldLink RX0 9 "DriftLog$ByteRow" "data" "[I") (by decide +kernel)) (fun _ h9 => h9) rfl dX0_append_11 ?_
    refine lv_aload_n hx hb dX0_append_14 rfl (lv_at hl 0 rfl) ?_
    refine va_get (D := D) (ci := 0) (v := .int (iI nb)) (C := RX0) (T := TX0) (N := 2) hx hb hts hin0 hown hK hP 0 rfl rfl 1 (by decide) (hts (.fieldLink RX0 15 "DriftLog$ByteRow" "size" "I") (by decide +kernel)) (fun _ h9 => h9) rfl dX0_append_15 ?_
    refine lv_iload_n hx hb dX0_append_18 rfl (lv_at hl 1 rfl) ?_
    refine wz_iast (tys := TY cI cJ cT) hx hb hK hP hD hS 1 0 rfl rfl (by decide) (by constructor <;> omega) dX0_append_19 (fun H locs hP hD hS => ?_)
    have hP : va_P D vwCl [(hb0, .inr (0, [.ref qb, .int (iI nb)])), (qb, .inl (cI, 300, .inl (zA (uZ fb nb v))))] H := hP
    have hD : va_D A [(hb0, .inr (0, [.ref qb, .int (iI nb)])), (qb, .inl (cI, 300, .inl (zA (uZ fb nb v))))] := hD
    refine lv_aload_n hx hb dX0_append_20 rfl (lv_at hl 0 rfl) ?_
    refine lv_dup hx hb dX0_append_21 rfl ?_
    refine va_get (D := D) (ci := 0) (v := .int (iI nb)) (C := RX0) (T := TX0) (N := 2) hx hb hts hin0 hown hK hP 0 rfl rfl 1 (by decide) (hts (.fieldLink RX0 15 "DriftLog$ByteRow" "size" "I") (by decide +kernel)) (fun _ h9 => h9) rfl dX0_append_22 ?_
    refine lv_iconst (v := iI 1) hx hb dX0_append_25 rfl ?_
    refine wz_iadd hx hb dX0_append_26 ?_
    refine va_put (D := D) (ci := 0) (v := .int (iI (nb + 1))) (ty := .int) (C := RX0) (T := TX0) (N := 2) hx hb hts hin0 tyX0 tyX0_ok nmX0 hown hK hP hD hS 0 rfl rfl 1 (by decide) (hts (.fieldLink RX0 15 "DriftLog$ByteRow" "size" "I") (by decide +kernel)) (fun _ h9 => h9) rfl (by decide +kernel) rfl rfl (Nat.le_of_ble_eq_true rfl) dX0_append_27 (fun H locs hP hD hS => ?_)
    have hP : va_P D vwCl [(hb0, .inr (0, [.ref qb, .int (iI (nb + 1))])), (qb, .inl (cI, 300, .inl (zA (uZ fb nb v))))] H := hP
    have hD : va_D A [(hb0, .inr (0, [.ref qb, .int (iI (nb + 1))])), (qb, .inl (cI, 300, .inl (zA (uZ fb nb v))))] := hD
    rw [hQ]
    exact wz_retv (tys := TY cI cJ cT) () hx hb hr hlocks hK hP hD hS (trivial) dX0_append_30
set_option maxHeartbeats 4000000 in
set_option maxRecDepth 100000 in
theorem k_X0_appendNumber (l : Launch) (D : va_G) (cI cJ cT : ClassId) (sz : Nat) (hb0 : Nat) (qb : Nat) (fb : Int → Int) (nb : Int) (v : Int) (h1 : 0 ≤ nb ∧ nb ≤ 295) (h2 : 0 ≤ v ∧ v ≤ 2147483647) : Met l yX0_appendNumber wsX0_appendNumber { frames := 1, cells := 0, slots := 0, locals := 21 } (zPc D (TY cI cJ cT) [.ref hb0, .int (iI v)] [(hb0, .inr (0, [.ref qb, .int (iI nb)])), (qb, .inl (cI, 300, .inl (zA fb)))] sz) (zQv D (TY cI cJ cT) (va_A [(hb0, .inr (0, [.ref qb, .int (iI nb)])), (qb, .inl (cI, 300, .inl (zA fb)))] sz) (fun (u : (Int → Int) × Int) => wrN 4 fb nb v = (u.1, u.2)) (fun (u : (Int → Int) × Int) => [(hb0, .inr (0, [.ref qb, .int (iI u.2)])), (qb, .inl (cI, 300, .inl (zA u.1)))])) 0 0 (va_A [(hb0, .inr (0, [.ref qb, .int (iI nb)])), (qb, .inl (cI, 300, .inl (zA fb)))] sz) := by
  refine zMv (cc := cX0_appendNumber) (maxL := 4) (ret := none) (by decide) rfl (Nat.le_of_ble_eq_true rfl) ?_
  intro p e s m below meth c A ls hE
  obtain ⟨hx, hb, hr, hts, hown, hlocks, hml, hnm, hP, hK, hD, hA, hS, hl⟩ := hE
  have hown : s.vm.findClass RX0 = some m.cls := hown
  have hl : lv_has ls 4 [(0, .ref hb0), (1, .int (iI v))] := hl
  obtain ⟨Q, hQ⟩ : ∃ Q, Q = MQ below (zQv D (TY cI cJ cT) A (fun (u : (Int → Int) × Int) => wrN 4 fb nb v = (u.1, u.2)) (fun (u : (Int → Int) × Int) => [(hb0, .inr (0, [.ref qb, .int (iI u.2)])), (qb, .inl (cI, 300, .inl (zA u.1)))])) ([.ref hb0, .int (iI v)] : List Value).toArray s 0 0 A := ⟨_, rfl⟩
  rw [← hQ]
  refine lv_iload_n hx hb dX0_appendNumber_0 rfl (lv_at hl 1 rfl) ?_
  refine lv_istore_n (lv' := [(2, .int (iI v)), (0, .ref hb0), (1, .int (iI v))]) hx hb dX0_appendNumber_1 rfl hl (by decide) rfl (fun ls hl => ?_)
  refine lv_iconst (v := iI 1) hx hb dX0_appendNumber_2 rfl ?_
  refine lv_istore_n (lv' := [(3, .int (iI 1)), (2, .int (iI v)), (0, .ref hb0), (1, .int (iI v))]) hx hb dX0_appendNumber_3 rfl hl (by decide) rfl (fun ls hl => ?_)
  have LP4 : ∀ (N4 : Nat) (g : Int) (w : Int) (gb : Int → Int) (gn : Int) (H : Heap) (locs : List Loc) (ls : Array Slot), ((1 ≤ g ∧ g ≤ 5) ∧ (0 ≤ w ∧ w ≤ 2147483647) ∧ gn = nb + g - 1 ∧ wrN 4 fb nb v = wrN (5 - g).toNat gb gn w) → (5 - g) < (N4 : Int) → va_P D vwCl [(hb0, .inr (0, [.ref qb, .int (iI gn)])), (qb, .inl (cI, 300, .inl (zA gb)))] H → va_D A [(hb0, .inr (0, [.ref qb, .int (iI gn)])), (qb, .inl (cI, 300, .inl (zA gb)))] → va_S A s.heap H locs → lv_has ls 4 [(0, .ref hb0), (1, .int (iI v)), (2, .int (iI w)), (3, .int (iI g))] → W p l e { frames := 1, cells := 0, slots := 0, locals := 21 } s m ([.ref hb0, .int (iI v)] : List Value).toArray below meth c H locs 0 0 Q (F0 m 4 ls []) := by
    intro N4
    induction N4 with
    | zero =>
      intro g w gb gn H locs ls hI hm
      obtain ⟨a1, a2, a3, a4⟩ := hI
      exfalso; omega
    | succ N4 ih4 =>
      intro g w gb gn H locs ls hI hm4 hP hD hS hl
      obtain ⟨a1, a2, a3, a4⟩ := hI
      refine lv_iload_n hx hb dX0_appendNumber_4 rfl (lv_at hl 3 rfl) ?_
      refine lv_iconst (v := iI 5) hx hb dX0_appendNumber_5 rfl ?_
      refine wz_icmp_ge (tgt := 38) hx hb dX0_appendNumber_6 (by decide) ⟨by omega, by omega⟩ (by decide) (fun c6 => ?_) (fun c6 => ?_)
      · skip
        refine lv_aload_n hx hb dX0_appendNumber_38 rfl (lv_at hl 0 rfl) ?_
        refine lv_iload_n hx hb dX0_appendNumber_39 rfl (lv_at hl 2 rfl) ?_
        refine wz_callv (wr := []) (va_runV (As := [.int (iI w)]) (rest := []) ⟨hx, hb, hml, hown, hts⟩ (k_X0_append l D cI cJ cT H.size hb0 qb gb gn w (by omega)) (cwV 1 hts gX0_appendNumber_X0_append rfl rfl rfl (by decide +kernel) ⟨Nat.le_of_ble_eq_true rfl, Nat.le_of_ble_eq_true rfl⟩) (wz_preV hK hP hD [0, 1] (by decide) rfl rfl 0 0 rfl rfl) rfl rfl hl.1 rfl (lv_room (Nat.le_of_ble_eq_true rfl)) dX0_appendNumber_40 ⟨Nat.le_of_ble_eq_true rfl, Nat.le_of_ble_eq_true rfl⟩) hP hD hS hA [0, 1] [] rfl rfl rfl (by decide) (fun  u H locs hw40 hP hD hS => ?_)
        have hP : va_P D vwCl [(hb0, .inr (0, [.ref qb, .int (iI (gn + 1))])), (qb, .inl (cI, 300, .inl (zA (uZ gb gn w))))] H := hP.sub [0, 1] rfl
        have hD : va_D A [(hb0, .inr (0, [.ref qb, .int (iI (gn + 1))])), (qb, .inl (cI, 300, .inl (zA (uZ gb gn w))))] := hD.sub [0, 1] (by decide) rfl
        rw [hQ]
        exact wz_retv (tys := TY cI cJ cT) ((uZ gb gn w), (gn + 1)) hx hb hr hlocks hK hP hD hS (by (try dsimp only); exact (by rw [a4]; first | exact wrN_s c12 | (have q : g = 5 := (by omega); subst q; rfl))) dX0_appendNumber_43
      · skip
        refine lv_iload_n hx hb dX0_appendNumber_9 rfl (lv_at hl 2 rfl) ?_
        refine lv_bipush (v := iI 127) hx hb dX0_appendNumber_10 (by decide) ?_
        refine wz_icmp_le (tgt := 38) hx hb dX0_appendNumber_12 (by decide) ⟨by omega, by omega⟩ (by decide) (fun c12 => ?_) (fun c12 => ?_)
        · skip
          refine lv_aload_n hx hb dX0_appendNumber_38 rfl (lv_at hl 0 rfl) ?_
          refine lv_iload_n hx hb dX0_appendNumber_39 rfl (lv_at hl 2 rfl) ?_
          refine wz_callv (wr := []) (va_runV (As := [.int (iI w)]) (rest := []) ⟨hx, hb, hml, hown, hts⟩ (k_X0_append l D cI cJ cT H.size hb0 qb gb gn w (by omega)) (cwV 1 hts gX0_appendNumber_X0_append rfl rfl rfl (by decide +kernel) ⟨Nat.le_of_ble_eq_true rfl, Nat.le_of_ble_eq_true rfl⟩) (wz_preV hK hP hD [0, 1] (by decide) rfl rfl 0 0 rfl rfl) rfl rfl hl.1 rfl (lv_room (Nat.le_of_ble_eq_true rfl)) dX0_appendNumber_40 ⟨Nat.le_of_ble_eq_true rfl, Nat.le_of_ble_eq_true rfl⟩) hP hD hS hA [0, 1] [] rfl rfl rfl (by decide) (fun  u H locs hw40 hP hD hS => ?_)
          have hP : va_P D vwCl [(hb0, .inr (0, [.ref qb, .int (iI (gn + 1))])), (qb, .inl (cI, 300, .inl (zA (uZ gb gn w))))] H := hP.sub [0, 1] rfl
          have hD : va_D A [(hb0, .inr (0, [.ref qb, .int (iI (gn + 1))])), (qb, .inl (cI, 300, .inl (zA (uZ gb gn w))))] := hD.sub [0, 1] (by decide) rfl
          rw [hQ]
          exact wz_retv (tys := TY cI cJ cT) ((uZ gb gn w), (gn + 1)) hx hb hr hlocks hK hP hD hS (by (try dsimp only); exact (by rw [a4]; first | exact wrN_s c12 | (have q : g = 5 := (by omega); subst q; rfl))) dX0_appendNumber_43
        · skip
          refine lv_aload_n hx hb dX0_appendNumber_15 rfl (lv_at hl 0 rfl) ?_
          refine lv_iload_n hx hb dX0_appendNumber_16 rfl (lv_at hl 2 rfl) ?_
          refine lv_bipush (v := iI 127) hx hb dX0_appendNumber_17 (by decide) ?_
          refine lv_iand hx hb dX0_appendNumber_19 ?_
          refine wz_topi (y := iI (w % 128)) (iI_and127 a2.1 a2.2) ?_
          refine lv_sipush (v := iI 128) hx hb dX0_appendNumber_20 (by decide) ?_
          refine wz_iadd hx hb dX0_appendNumber_23 ?_
          refine wz_callv (wr := []) (va_runV (As := [.int (iI ((w % 128) + 128))]) (rest := []) ⟨hx, hb, hml, hown, hts⟩ (k_X0_append l D cI cJ cT H.size hb0 qb gb gn ((w % 128) + 128) (by omega)) (cwV 1 hts gX0_appendNumber_X0_append rfl rfl rfl (by decide +kernel) ⟨Nat.le_of_ble_eq_true rfl, Nat.le_of_ble_eq_true rfl⟩) (wz_preV hK hP hD [0, 1] (by decide) rfl rfl 0 0 rfl rfl) rfl rfl hl.1 rfl (lv_room (Nat.le_of_ble_eq_true rfl)) dX0_appendNumber_24 ⟨Nat.le_of_ble_eq_true rfl, Nat.le_of_ble_eq_true rfl⟩) hP hD hS hA [0, 1] [] rfl rfl rfl (by decide) (fun  u H locs hw24 hP hD hS => ?_)
          have hP : va_P D vwCl [(hb0, .inr (0, [.ref qb, .int (iI (gn + 1))])), (qb, .inl (cI, 300, .inl (zA (uZ gb gn ((w % 128) + 128)))))] H := hP.sub [0, 1] rfl
          have hD : va_D A [(hb0, .inr (0, [.ref qb, .int (iI (gn + 1))])), (qb, .inl (cI, 300, .inl (zA (uZ gb gn ((w % 128) + 128)))))] := hD.sub [0, 1] (by decide) rfl
          refine lv_iload_n hx hb dX0_appendNumber_27 rfl (lv_at hl 2 rfl) ?_
          refine lv_bipush (v := iI 7) hx hb dX0_appendNumber_28 (by decide) ?_
          refine lv_iushr hx hb dX0_appendNumber_30 rfl ?_
          refine wz_topi (y := iI (w / 128)) (iI_ushr7 a2.1 a2.2) ?_
          refine lv_istore_n (lv' := [(2, .int (iI (w / 128))), (0, .ref hb0), (1, .int (iI v)), (3, .int (iI g))]) hx hb dX0_appendNumber_31 rfl hl (by decide) rfl (fun ls hl => ?_)
          refine lv_iinc (v := iI (g + 1)) (lv' := [(3, .int (iI (g + 1))), (2, .int (iI (w / 128))), (0, .ref hb0), (1, .int (iI v))]) hx hb dX0_appendNumber_32 hl (k := 3) rfl (iI_add _ _) (by decide) rfl (fun ls hl => ?_)
          refine lv_goto (tgt := 4) hx hb dX0_appendNumber_35 (by decide) ?_
          exact ih4 (g + 1) (w / 128) (uZ gb gn ((w % 128) + 128)) (gn + 1) _ _ _ ⟨(by constructor <;> omega), (by constructor <;> omega), (by omega), (by rw [a4, show (5 - g).toNat = (5 - (g + 1)).toNat + 1 by omega, wrN_b c12])⟩ (by omega) hP hD hS (lv_sub hl [2, 3, 1, 0] rfl)
  exact LP4 (Int.toNat (5 - 1) + 1) 1 v fb nb _ _ _ ⟨(by decide), (h2), (by omega), (rfl)⟩ (by omega) hP hD hS (lv_sub hl [2, 3, 1, 0] rfl)
set_option maxHeartbeats 4000000 in
set_option maxRecDepth 100000 in
theorem k_X0_folded (l : Launch) (D : va_G) (cI cJ cT : ClassId) (sz : Nat) (v : Int) (h1 : rI v) : Met l yX0_folded wsX0_folded { frames := 0, cells := 0, slots := 0, locals := 0 } (zPc D (TY cI cJ cT) [.int (iI v)] [] sz) (zQi D (TY cI cJ cT) (va_A [] sz) (fun (z : Int) (u : Unit) => z = (foldZ v)) (fun (u : Unit) => [])) 0 0 (va_A [] sz) := by
  refine zMi (cc := cX0_folded) (maxL := 1) (ret := (some .int)) (by decide) rfl (Nat.le_of_ble_eq_true rfl) ?_
  intro p e s m below meth c A ls hE
  obtain ⟨hx, hb, hr, hts, hown, hlocks, hml, hnm, hP, hK, hD, hA, hS, hl⟩ := hE
  have hown : s.vm.findClass RX0 = some m.cls := hown
  have hl : lv_has ls 1 [(0, .int (iI v))] := hl
  obtain ⟨Q, hQ⟩ : ∃ Q, Q = MQ below (zQi D (TY cI cJ cT) A (fun (z : Int) (u : Unit) => z = (foldZ v)) (fun (u : Unit) => [])) ([.int (iI v)] : List Value).toArray s 0 0 A := ⟨_, rfl⟩
  rw [← hQ]
  refine lv_iload_n hx hb dX0_folded_0 rfl (lv_at hl 0 rfl) ?_
  refine lv_iconst (v := iI 1) hx hb dX0_folded_1 rfl ?_
  refine lv_ishl hx hb dX0_folded_2 ?_
  refine lv_iload_n hx hb dX0_folded_3 rfl (lv_at hl 0 rfl) ?_
  refine lv_bipush (v := iI 31) hx hb dX0_folded_4 (by decide) ?_
  refine lv_ishr hx hb dX0_folded_6 ?_
  refine lv_ixor hx hb dX0_folded_7 ?_
  refine wz_topi (y := iI (foldZ v)) (iI_fold h1) ?_
  rw [hQ]
  exact wz_reti (tys := TY cI cJ cT) () hx hb hr hlocks hK hP hD hS (rfl) dX0_folded_8
set_option maxHeartbeats 4000000 in
set_option maxRecDepth 100000 in
theorem k_X5_become (l : Launch) (D : va_G) (cI cJ cT : ClassId) (sz : Nat) (h0 : Nat) (qr : Nat) (sa : Int) (sb : Int) (a : Int) (b : Int)  : Met l yX5_become wsX5_become { frames := 0, cells := 0, slots := 0, locals := 0 } (zPc D (TY cI cJ cT) [.ref h0, .int (iI a), .int (iI b)] [(h0, .inr (5, [.ref qr, .int (iI sa), .int (iI sb)]))] sz) (zQv D (TY cI cJ cT) (va_A [(h0, .inr (5, [.ref qr, .int (iI sa), .int (iI sb)]))] sz) (fun (u : Unit) => True) (fun (u : Unit) => [(h0, .inr (5, [.ref qr, .int (iI a), .int (iI b)]))])) 0 0 (va_A [(h0, .inr (5, [.ref qr, .int (iI sa), .int (iI sb)]))] sz) := by
  refine zMv (cc := cX5_become) (maxL := 3) (ret := none) (by decide) rfl (Nat.le_of_ble_eq_true rfl) ?_
  intro p e s m below meth c A ls hE
  obtain ⟨hx, hb, hr, hts, hown, hlocks, hml, hnm, hP, hK, hD, hA, hS, hl⟩ := hE
  have hown : s.vm.findClass RX5 = some m.cls := hown
  have hl : lv_has ls 3 [(0, .ref h0), (1, .int (iI a)), (2, .int (iI b))] := hl
  have hin5 : ∀ w ∈ wsX50, w ∈ wsX5_become := by decide +kernel
  obtain ⟨Q, hQ⟩ : ∃ Q, Q = MQ below (zQv D (TY cI cJ cT) A (fun (u : Unit) => True) (fun (u : Unit) => [(h0, .inr (5, [.ref qr, .int (iI a), .int (iI b)]))])) ([.ref h0, .int (iI a), .int (iI b)] : List Value).toArray s 0 0 A := ⟨_, rfl⟩
  rw [← hQ]
  refine lv_aload_n hx hb dX5_become_0 rfl (lv_at hl 0 rfl) ?_
  refine lv_iload_n hx hb dX5_become_1 rfl (lv_at hl 1 rfl) ?_
  refine va_put (D := D) (ci := 5) (v := .int (iI a)) (ty := .int) (C := RX5) (T := TX5) (N := 3) hx hb hts hin5 tyX5 tyX5_ok nmX5 hown hK hP hD hS 0 rfl rfl 1 (by decide) (hts (.fieldLink RX5 18 "DriftLog$Track" "state" "I") (by decide +kernel)) (fun _ h9 => h9) rfl (by decide +kernel) rfl rfl (Nat.le_of_ble_eq_true rfl) dX5_become_2 (fun H locs hP hD hS => ?_)
  have hP : va_P D vwCl [(h0, .inr (5, [.ref qr, .int (iI a), .int (iI sb)]))] H := hP
  have hD : va_D A [(h0, .inr (5, [.ref qr, .int (iI a), .int (iI sb)]))] := hD
  refine lv_aload_n hx hb dX5_become_5 rfl (lv_at hl 0 rfl) ?_
  refine lv_iload_n hx hb dX5_become_6 rfl (lv_at hl 2 rfl) ?_
  refine va_put (D := D) (ci := 5) (v := .int (iI b)) (ty := .int) (C := RX5) (T := TX5) (N := 3) hx hb hts hin5 tyX5 tyX5_ok nmX5 hown hK hP hD hS 0 rfl rfl 2 (by decide) (hts (.fieldLink RX5 22 "DriftLog$Track" "bound" "I") (by decide +kernel)) (fun _ h9 => h9) rfl (by decide +kernel) rfl rfl (Nat.le_of_ble_eq_true rfl) dX5_become_7 (fun H locs hP hD hS => ?_)
  have hP : va_P D vwCl [(h0, .inr (5, [.ref qr, .int (iI a), .int (iI b)]))] H := hP
  have hD : va_D A [(h0, .inr (5, [.ref qr, .int (iI a), .int (iI b)]))] := hD
  rw [hQ]
  exact wz_retv (tys := TY cI cJ cT) () hx hb hr hlocks hK hP hD hS (trivial) dX5_become_10
set_option maxHeartbeats 4000000 in
set_option maxRecDepth 100000 in
theorem k_X6_isTrack (l : Launch) (D : va_G) (cI cJ cT : ClassId) (sz : Nat) (a : Int) (h1 : rI a) : Met l yX6_isTrack wsX6_isTrack { frames := 0, cells := 0, slots := 0, locals := 0 } (zPc D (TY cI cJ cT) [.int (iI a)] [] sz) (zQi D (TY cI cJ cT) (va_A [] sz) (fun (z : Int) (u : Unit) => z = (bz (0 ≤ a ∧ a < 4))) (fun (u : Unit) => [])) 0 0 (va_A [] sz) := by
  refine zMi (cc := cX6_isTrack) (maxL := 1) (ret := (some .boolean)) (by decide) rfl (Nat.le_of_ble_eq_true rfl) ?_
  intro p e s m below meth c A ls hE
  obtain ⟨hx, hb, hr, hts, hown, hlocks, hml, hnm, hP, hK, hD, hA, hS, hl⟩ := hE
  have hown : s.vm.findClass RX6 = some m.cls := hown
  have hl : lv_has ls 1 [(0, .int (iI a))] := hl
  obtain ⟨Q, hQ⟩ : ∃ Q, Q = MQ below (zQi D (TY cI cJ cT) A (fun (z : Int) (u : Unit) => z = (bz (0 ≤ a ∧ a < 4))) (fun (u : Unit) => [])) ([.int (iI a)] : List Value).toArray s 0 0 A := ⟨_, rfl⟩
  rw [← hQ]
  refine lv_iload_n hx hb dX6_isTrack_0 rfl (lv_at hl 0 rfl) ?_
  refine wz_if_lt (tgt := 13) hx hb dX6_isTrack_1 (by decide) ⟨by omega, by omega⟩ (fun c1 => ?_) (fun c1 => ?_)
  · skip
    refine lv_iconst (v := iI 0) hx hb dX6_isTrack_13 rfl ?_
    rw [hQ]
    exact wz_retz (tys := TY cI cJ cT) () hx hb hr hlocks hK hP hD hS (by first | decide | exact bz_01 _ | omega) ((bz_f (by omega)).symm) dX6_isTrack_14
  · skip
    refine lv_iload_n hx hb dX6_isTrack_4 rfl (lv_at hl 0 rfl) ?_
    refine lv_iconst (v := iI 4) hx hb dX6_isTrack_5 rfl ?_
    refine wz_icmp_ge (tgt := 13) hx hb dX6_isTrack_6 (by decide) ⟨by omega, by omega⟩ (by decide) (fun c6 => ?_) (fun c6 => ?_)
    · skip
      refine lv_iconst (v := iI 0) hx hb dX6_isTrack_13 rfl ?_
      rw [hQ]
      exact wz_retz (tys := TY cI cJ cT) () hx hb hr hlocks hK hP hD hS (by first | decide | exact bz_01 _ | omega) ((bz_f (by omega)).symm) dX6_isTrack_14
    · skip
      refine lv_iconst (v := iI 1) hx hb dX6_isTrack_9 rfl ?_
      refine lv_goto (tgt := 14) hx hb dX6_isTrack_10 (by decide) ?_
      rw [hQ]
      exact wz_retz (tys := TY cI cJ cT) () hx hb hr hlocks hK hP hD hS (by first | decide | exact bz_01 _ | omega) ((bz_t (by omega)).symm) dX6_isTrack_14
set_option maxHeartbeats 4000000 in
set_option maxRecDepth 100000 in
theorem k_X6_isBound (l : Launch) (D : va_G) (cI cJ cT : ClassId) (sz : Nat) (a : Int) (h1 : rI a) : Met l yX6_isBound wsX6_isBound { frames := 0, cells := 0, slots := 0, locals := 0 } (zPc D (TY cI cJ cT) [.int (iI a)] [] sz) (zQi D (TY cI cJ cT) (va_A [] sz) (fun (z : Int) (u : Unit) => z = (bz (0 ≤ a ∧ a ≤ 65535))) (fun (u : Unit) => [])) 0 0 (va_A [] sz) := by
  refine zMi (cc := cX6_isBound) (maxL := 1) (ret := (some .boolean)) (by decide) rfl (Nat.le_of_ble_eq_true rfl) ?_
  intro p e s m below meth c A ls hE
  obtain ⟨hx, hb, hr, hts, hown, hlocks, hml, hnm, hP, hK, hD, hA, hS, hl⟩ := hE
  have hown : s.vm.findClass RX6 = some m.cls := hown
  have hl : lv_has ls 1 [(0, .int (iI a))] := hl
  obtain ⟨Q, hQ⟩ : ∃ Q, Q = MQ below (zQi D (TY cI cJ cT) A (fun (z : Int) (u : Unit) => z = (bz (0 ≤ a ∧ a ≤ 65535))) (fun (u : Unit) => [])) ([.int (iI a)] : List Value).toArray s 0 0 A := ⟨_, rfl⟩
  rw [← hQ]
  refine lv_iload_n hx hb dX6_isBound_0 rfl (lv_at hl 0 rfl) ?_
  refine wz_if_lt (tgt := 14) hx hb dX6_isBound_1 (by decide) ⟨by omega, by omega⟩ (fun c1 => ?_) (fun c1 => ?_)
  · skip
    refine lv_iconst (v := iI 0) hx hb dX6_isBound_14 rfl ?_
    rw [hQ]
    exact wz_retz (tys := TY cI cJ cT) () hx hb hr hlocks hK hP hD hS (by first | decide | exact bz_01 _ | omega) ((bz_f (by omega)).symm) dX6_isBound_15
  · skip
    refine lv_iload_n hx hb dX6_isBound_4 rfl (lv_at hl 0 rfl) ?_
    refine lv_ldc (v := 65535) hx hb hown (hts (.constant RX6 104 (65535)) (by decide +kernel)) dX6_isBound_5 ?_
    refine wz_topi (show (65535 : Int32) = iI 65535 by decide) ?_
    refine wz_icmp_gt (tgt := 14) hx hb dX6_isBound_7 (by decide) ⟨by omega, by omega⟩ (by decide) (fun c7 => ?_) (fun c7 => ?_)
    · skip
      refine lv_iconst (v := iI 0) hx hb dX6_isBound_14 rfl ?_
      rw [hQ]
      exact wz_retz (tys := TY cI cJ cT) () hx hb hr hlocks hK hP hD hS (by first | decide | exact bz_01 _ | omega) ((bz_f (by omega)).symm) dX6_isBound_15
    · skip
      refine lv_iconst (v := iI 1) hx hb dX6_isBound_10 rfl ?_
      refine lv_goto (tgt := 15) hx hb dX6_isBound_11 (by decide) ?_
      rw [hQ]
      exact wz_retz (tys := TY cI cJ cT) () hx hb hr hlocks hK hP hD hS (by first | decide | exact bz_01 _ | omega) ((bz_t (by omega)).symm) dX6_isBound_15
set_option maxHeartbeats 4000000 in
set_option maxRecDepth 100000 in
theorem k_X6_isBeyond (l : Launch) (D : va_G) (cI cJ cT : ClassId) (sz : Nat) (a : Int) (b : Int) (h1 : rI a) (h2 : 0 ≤ b ∧ b ≤ 16777216) : Met l yX6_isBeyond wsX6_isBeyond { frames := 0, cells := 0, slots := 0, locals := 0 } (zPc D (TY cI cJ cT) [.int (iI a), .int (iI b)] [] sz) (zQi D (TY cI cJ cT) (va_A [] sz) (fun (z : Int) (u : Unit) => z = (bz (a < -b ∨ b < a))) (fun (u : Unit) => [])) 0 0 (va_A [] sz) := by
  refine zMi (cc := cX6_isBeyond) (maxL := 2) (ret := (some .boolean)) (by decide) rfl (Nat.le_of_ble_eq_true rfl) ?_
  intro p e s m below meth c A ls hE
  obtain ⟨hx, hb, hr, hts, hown, hlocks, hml, hnm, hP, hK, hD, hA, hS, hl⟩ := hE
  have hown : s.vm.findClass RX6 = some m.cls := hown
  have hl : lv_has ls 2 [(0, .int (iI a)), (1, .int (iI b))] := hl
  obtain ⟨Q, hQ⟩ : ∃ Q, Q = MQ below (zQi D (TY cI cJ cT) A (fun (z : Int) (u : Unit) => z = (bz (a < -b ∨ b < a))) (fun (u : Unit) => [])) ([.int (iI a), .int (iI b)] : List Value).toArray s 0 0 A := ⟨_, rfl⟩
  rw [← hQ]
  refine lv_iload_n hx hb dX6_isBeyond_0 rfl (lv_at hl 0 rfl) ?_
  refine lv_iload_n hx hb dX6_isBeyond_1 rfl (lv_at hl 1 rfl) ?_
  refine wz_ineg hx hb dX6_isBeyond_2 ?_
  refine wz_icmp_lt (tgt := 11) hx hb dX6_isBeyond_3 (by decide) ⟨by omega, by omega⟩ ⟨by omega, by omega⟩ (fun c3 => ?_) (fun c3 => ?_)
  · skip
    refine lv_iconst (v := iI 1) hx hb dX6_isBeyond_11 rfl ?_
    refine lv_goto (tgt := 16) hx hb dX6_isBeyond_12 (by decide) ?_
    rw [hQ]
    exact wz_retz (tys := TY cI cJ cT) () hx hb hr hlocks hK hP hD hS (by first | decide | exact bz_01 _ | omega) ((bz_t (by omega)).symm) dX6_isBeyond_16
  · skip
    refine lv_iload_n hx hb dX6_isBeyond_6 rfl (lv_at hl 0 rfl) ?_
    refine lv_iload_n hx hb dX6_isBeyond_7 rfl (lv_at hl 1 rfl) ?_
    refine wz_icmp_le (tgt := 15) hx hb dX6_isBeyond_8 (by decide) ⟨by omega, by omega⟩ ⟨by omega, by omega⟩ (fun c8 => ?_) (fun c8 => ?_)
    · skip
      refine lv_iconst (v := iI 0) hx hb dX6_isBeyond_15 rfl ?_
      rw [hQ]
      exact wz_retz (tys := TY cI cJ cT) () hx hb hr hlocks hK hP hD hS (by first | decide | exact bz_01 _ | omega) ((bz_f (by omega)).symm) dX6_isBeyond_16
    · skip
      refine lv_iconst (v := iI 1) hx hb dX6_isBeyond_11 rfl ?_
      refine lv_goto (tgt := 16) hx hb dX6_isBeyond_12 (by decide) ?_
      rw [hQ]
      exact wz_retz (tys := TY cI cJ cT) () hx hb hr hlocks hK hP hD hS (by first | decide | exact bz_01 _ | omega) ((bz_t (by omega)).symm) dX6_isBeyond_16
