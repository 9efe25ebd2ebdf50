set_option maxHeartbeats 4000000 in
set_option maxRecDepth 100000 in
theorem k_X2_append (l : Launch) (D : va_G) (cI cJ cT : ClassId) (sz : Nat) (h0 : Nat) (q1 : Nat) (q2 : Nat) (q3 : Nat) (ft : Int → Int) (fx : Int → Int) (fy : Int → Int) (n : Int) (t : Int) (x : Int) (y : Int) (h1 : 0 ≤ n) (h2 : n < 20) : Met l yX2_append wsX2_append { frames := 0, cells := 0, slots := 0, locals := 0 } (zPc D (TY cI cJ cT) [.ref h0, .int (iI t), .int (iI x), .int (iI y)] [(h0, .inr (2, [.ref q1, .ref q2, .ref q3, .int (iI n)])), (q1, .inl (cI, 20, .inl (zA ft))), (q2, .inl (cI, 20, .inl (zA fx))), (q3, .inl (cI, 20, .inl (zA fy)))] sz) (zQv D (TY cI cJ cT) (va_A [(h0, .inr (2, [.ref q1, .ref q2, .ref q3, .int (iI n)])), (q1, .inl (cI, 20, .inl (zA ft))), (q2, .inl (cI, 20, .inl (zA fx))), (q3, .inl (cI, 20, .inl (zA fy)))] sz) (fun (u : Unit) => True) (fun (u : Unit) => [(h0, .inr (2, [.ref q1, .ref q2, .ref q3, .int (iI (n + 1))])), (q1, .inl (cI, 20, .inl (zA (uZ ft n t)))), (q2, .inl (cI, 20, .inl (zA (uZ fx n x)))), (q3, .inl (cI, 20, .inl (zA (uZ fy n y))))])) 0 0 (va_A [(h0, .inr (2, [.ref q1, .ref q2, .ref q3, .int (iI n)])), (q1, .inl (cI, 20, .inl (zA ft))), (q2, .inl (cI, 20, .inl (zA fx))), (q3, .inl (cI, 20, .inl (zA fy)))] sz) := by
  refine zMv (cc := cX2_append) (maxL := 4) (ret := none) (by decide) rfl (Nat.le_of_ble_eq_true rfl) ?_
  intro p e s m below meth c A ls hE
  obtain ⟨hx, hb, hr, hts, hown, hlocks, hml, hnm, hP, hK, hD, hA, hS, hl⟩ := hE
  have hown : s.vm.findClass RX2 = some m.cls := hown
  have hl : lv_has ls 4 [(0, .ref h0), (1, .int (iI t)), (2, .int (iI x)), (3, .int (iI y))] := hl
  have hin2 : ∀ w ∈ wsX20, w ∈ wsX2_append := by decide +kernel
  obtain ⟨Q, hQ⟩ : ∃ Q, Q = MQ below (zQv D (TY cI cJ cT) A (fun (u : Unit) => True) (fun (u : Unit) => [(h0, .inr (2, [.ref q1, .ref q2, .ref q3, .int (iI (n + 1))])), (q1, .inl (cI, 20, .inl (zA (uZ ft n t)))), (q2, .inl (cI, 20, .inl (zA (uZ fx n x)))), (q3, .inl (cI, 20, .inl (zA (uZ fy n y))))])) ([.ref h0, .int (iI t), .int (iI x), .int (iI y)] : List Value).toArray s 0 0 A := ⟨_, rfl⟩
  rw [← hQ]
  refine lv_aload_n hx hb dX2_append_0 rfl (lv_at hl 0 rfl) ?_
  refine va_get (D := D) (ci := 2) (v := .int (iI n)) (C := RX2) (T := TX2) (N := 4) hx hb hts hin2 hown hK hP 0 rfl rfl 3 (by decide) (hts (.fieldLink RX2 21 "DriftLog$Row" "size" "I") (by decide +kernel)) (fun _ h9 => h9) rfl dX2_append_1 ?_
  refine lv_bipush (v := iI 20) hx hb dX2_append_4 (by decide) ?_
  refine wz_icmp_ge (tgt := 49) hx hb dX2_append_6 (by decide) ⟨by omega, by omega⟩ (by decide) (fun c6 => ?_) (fun c6 => ?_)
  · skip
    exfalso; omega
  · skip
    refine lv_aload_n hx hb dX2_append_9 rfl (lv_at hl 0 rfl) ?_
    refine va_get (D := D) (ci := 2) (v := .ref q1) (C := RX2) (T := TX2) (N := 4) hx hb hts hin2 hown hK hP 0 rfl rfl 0 (by decide) (hts (.fieldLink RX2 9 "DriftLog$Row" "times" "[I") (by decide +kernel)) (fun _ h9 => h9) rfl dX2_append_10 ?_
    refine lv_aload_n hx hb dX2_append_13 rfl (lv_at hl 0 rfl) ?_
    refine va_get (D := D) (ci := 2) (v := .int (iI n)) (C := RX2) (T := TX2) (N := 4) hx hb hts hin2 hown hK hP 0 rfl rfl 3 (by decide) (hts (.fieldLink RX2 21 "DriftLog$Row" "size" "I") (by decide +kernel)) (fun _ h9 => h9) rfl dX2_append_14 ?_
    refine lv_iload_n hx hb dX2_append_17 rfl (lv_at hl 1 rfl) ?_
    refine wz_iast (tys := TY cI cJ cT) hx hb hK hP hD hS 1 0 rfl rfl (by decide) (by constructor <;> omega) dX2_append_18 (fun H locs hP hD hS => ?_)
    have hP : va_P D vwCl [(h0, .inr (2, [.ref q1, .ref q2, .ref q3, .int (iI n)])), (q1, .inl (cI, 20, .inl (zA (uZ ft n t)))), (q2, .inl (cI, 20, .inl (zA fx))), (q3, .inl (cI, 20, .inl (zA fy)))] H := hP
    have hD : va_D A [(h0, .inr (2, [.ref q1, .ref q2, .ref q3, .int (iI n)])), (q1, .inl (cI, 20, .inl (zA (uZ ft n t)))), (q2, .inl (cI, 20, .inl (zA fx))), (q3, .inl (cI, 20, .inl (zA fy)))] := hD
    refine lv_aload_n hx hb dX2_append_19 rfl (lv_at hl 0 rfl) ?_
    refine va_get (D := D) (ci := 2) (v := .ref q2) (C := RX2) (T := TX2) (N := 4) hx hb hts hin2 hown hK hP 0 rfl rfl 1 (by decide) (hts (.fieldLink RX2 15 "DriftLog$Row" "xs" "[I") (by decide +kernel)) (fun _ h9 => h9) rfl dX2_append_20 ?_
    refine lv_aload_n hx hb dX2_append_23 rfl (lv_at hl 0 rfl) ?_
    refine va_get (D := D) (ci := 2) (v := .int (iI n)) (C := RX2) (T := TX2) (N := 4) hx hb hts hin2 hown hK hP 0 rfl rfl 3 (by decide) (hts (.fieldLink RX2 21 "DriftLog$Row" "size" "I") (by decide +kernel)) (fun _ h9 => h9) rfl dX2_append_24 ?_
    refine lv_iload_n hx hb dX2_append_27 rfl (lv_at hl 2 rfl) ?_
    refine wz_iast (tys := TY cI cJ cT) hx hb hK hP hD hS 2 0 rfl rfl (by decide) (by constructor <;> omega) dX2_append_28 (fun H locs hP hD hS => ?_)
    have hP : va_P D vwCl [(h0, .inr (2, [.ref q1, .ref q2, .ref q3, .int (iI n)])), (q1, .inl (cI, 20, .inl (zA (uZ ft n t)))), (q2, .inl (cI, 20, .inl (zA (uZ fx n x)))), (q3, .inl (cI, 20, .inl (zA fy)))] H := hP
    have hD : va_D A [(h0, .inr (2, [.ref q1, .ref q2, .ref q3, .int (iI n)])), (q1, .inl (cI, 20, .inl (zA (uZ ft n t)))), (q2, .inl (cI, 20, .inl (zA (uZ fx n x)))), (q3, .inl (cI, 20, .inl (zA fy)))] := hD
    refine lv_aload_n hx hb dX2_append_29 rfl (lv_at hl 0 rfl) ?_
    refine va_get (D := D) (ci := 2) (v := .ref q3) (C := RX2) (T := TX2) (N := 4) hx hb hts hin2 hown hK hP 0 rfl rfl 2 (by decide) (hts (.fieldLink RX2 18 "DriftLog$Row" "ys" "[I") (by decide +kernel)) (fun _ h9 => h9) rfl dX2_append_30 ?_
    refine lv_aload_n hx hb dX2_append_33 rfl (lv_at hl 0 rfl) ?_
    refine va_get (D := D) (ci := 2) (v := .int (iI n)) (C := RX2) (T := TX2) (N := 4) hx hb hts hin2 hown hK hP 0 rfl rfl 3 (by decide) (hts (.fieldLink RX2 21 "DriftLog$Row" "size" "I") (by decide +kernel)) (fun _ h9 => h9) rfl dX2_append_34 ?_
    refine lv_iload_n hx hb dX2_append_37 rfl (lv_at hl 3 rfl) ?_
    refine wz_iast (tys := TY cI cJ cT) hx hb hK hP hD hS 3 0 rfl rfl (by decide) (by constructor <;> omega) dX2_append_38 (fun H locs hP hD hS => ?_)
    have hP : va_P D vwCl [(h0, .inr (2, [.ref q1, .ref q2, .ref q3, .int (iI n)])), (q1, .inl (cI, 20, .inl (zA (uZ ft n t)))), (q2, .inl (cI, 20, .inl (zA (uZ fx n x)))), (q3, .inl (cI, 20, .inl (zA (uZ fy n y))))] H := hP
    have hD : va_D A [(h0, .inr (2, [.ref q1, .ref q2, .ref q3, .int (iI n)])), (q1, .inl (cI, 20, .inl (zA (uZ ft n t)))), (q2, .inl (cI, 20, .inl (zA (uZ fx n x)))), (q3, .inl (cI, 20, .inl (zA (uZ fy n y))))] := hD
    refine lv_aload_n hx hb dX2_append_39 rfl (lv_at hl 0 rfl) ?_
    refine lv_dup hx hb dX2_append_40 rfl ?_
    refine va_get (D := D) (ci := 2) (v := .int (iI n)) (C := RX2) (T := TX2) (N := 4) hx hb hts hin2 hown hK hP 0 rfl rfl 3 (by decide) (hts (.fieldLink RX2 21 "DriftLog$Row" "size" "I") (by decide +kernel)) (fun _ h9 => h9) rfl dX2_append_41 ?_
    refine lv_iconst (v := iI 1) hx hb dX2_append_44 rfl ?_
    refine wz_iadd hx hb dX2_append_45 ?_
    refine va_put (D := D) (ci := 2) (v := .int (iI (n + 1))) (ty := .int) (C := RX2) (T := TX2) (N := 4) hx hb hts hin2 tyX2 tyX2_ok nmX2 hown hK hP hD hS 0 rfl rfl 3 (by decide) (hts (.fieldLink RX2 21 "DriftLog$Row" "size" "I") (by decide +kernel)) (fun _ h9 => h9) rfl (by decide +kernel) rfl rfl (Nat.le_of_ble_eq_true rfl) dX2_append_46 (fun H locs hP hD hS => ?_)
    have hP : va_P D vwCl [(h0, .inr (2, [.ref q1, .ref q2, .ref q3, .int (iI (n + 1))])), (q1, .inl (cI, 20, .inl (zA (uZ ft n t)))), (q2, .inl (cI, 20, .inl (zA (uZ fx n x)))), (q3, .inl (cI, 20, .inl (zA (uZ fy n y))))] H := hP
    have hD : va_D A [(h0, .inr (2, [.ref q1, .ref q2, .ref q3, .int (iI (n + 1))])), (q1, .inl (cI, 20, .inl (zA (uZ ft n t)))), (q2, .inl (cI, 20, .inl (zA (uZ fx n x)))), (q3, .inl (cI, 20, .inl (zA (uZ fy n y))))] := hD
    rw [hQ]
    exact wz_retv (tys := TY cI cJ cT) () hx hb hr hlocks hK hP hD hS (trivial) dX2_append_49
set_option maxHeartbeats 4000000 in
set_option maxRecDepth 100000 in
theorem k_X2_firstNotBefore (l : Launch) (D : va_G) (cI cJ cT : ClassId) (sz : Nat) (h0 : Nat) (q1 : Nat) (q2 : Nat) (q3 : Nat) (ft : Int → Int) (fx : Int → Int) (fy : Int → Int) (n : Int) (t : Int) (h1 : 0 ≤ n) (h2 : n ≤ 20) (hft : ∀ i, rI (ft i)) (ht : rI t) : Met l yX2_firstNotBefore wsX2_firstNotBefore { frames := 0, cells := 0, slots := 0, locals := 0 } (zPc D (TY cI cJ cT) [.ref h0, .int (iI t)] [(h0, .inr (2, [.ref q1, .ref q2, .ref q3, .int (iI n)])), (q1, .inl (cI, 20, .inl (zA ft))), (q2, .inl (cI, 20, .inl (zA fx))), (q3, .inl (cI, 20, .inl (zA fy)))] sz) (zQi D (TY cI cJ cT) (va_A [(h0, .inr (2, [.ref q1, .ref q2, .ref q3, .int (iI n)])), (q1, .inl (cI, 20, .inl (zA ft))), (q2, .inl (cI, 20, .inl (zA fx))), (q3, .inl (cI, 20, .inl (zA fy)))] sz) (fun (z : Int) (u : Unit) => 0 ≤ z ∧ z ≤ n ∧ (∀ j, 0 ≤ j → j < z → ft j < t) ∧ (z < n → t ≤ ft z)) (fun (u : Unit) => [(h0, .inr (2, [.ref q1, .ref q2, .ref q3, .int (iI n)])), (q1, .inl (cI, 20, .inl (zA ft))), (q2, .inl (cI, 20, .inl (zA fx))), (q3, .inl (cI, 20, .inl (zA fy)))])) 0 0 (va_A [(h0, .inr (2, [.ref q1, .ref q2, .ref q3, .int (iI n)])), (q1, .inl (cI, 20, .inl (zA ft))), (q2, .inl (cI, 20, .inl (zA fx))), (q3, .inl (cI, 20, .inl (zA fy)))] sz) := by
  refine zMi (cc := cX2_firstNotBefore) (maxL := 3) (ret := (some .int)) (by decide) rfl (Nat.le_of_ble_eq_true rfl) ?_
  intro p e s m below meth c A ls hE
  obtain ⟨hx, hb, hr, hts, hown, hlocks, hml, hnm, hP, hK, hD, hA, hS, hl⟩ := hE
  have hown : s.vm.findClass RX2 = some m.cls := hown
  have hl : lv_has ls 3 [(0, .ref h0), (1, .int (iI t))] := hl
  have hin2 : ∀ w ∈ wsX20, w ∈ wsX2_firstNotBefore := by decide +kernel
  obtain ⟨Q, hQ⟩ : ∃ Q, Q = MQ below (zQi D (TY cI cJ cT) A (fun (z : Int) (u : Unit) => 0 ≤ z ∧ z ≤ n ∧ (∀ j, 0 ≤ j → j < z → ft j < t) ∧ (z < n → t ≤ ft z)) (fun (u : Unit) => [(h0, .inr (2, [.ref q1, .ref q2, .ref q3, .int (iI n)])), (q1, .inl (cI, 20, .inl (zA ft))), (q2, .inl (cI, 20, .inl (zA fx))), (q3, .inl (cI, 20, .inl (zA fy)))])) ([.ref h0, .int (iI t)] : List Value).toArray s 0 0 A := ⟨_, rfl⟩
  rw [← hQ]
  refine lv_iconst (v := iI 0) hx hb dX2_firstNotBefore_0 rfl ?_
  refine lv_istore_n (lv' := [(2, .int (iI 0)), (0, .ref h0), (1, .int (iI t))]) hx hb dX2_firstNotBefore_1 rfl hl (by decide) rfl (fun ls hl => ?_)
  have LP2 : ∀ (N2 : Nat) (i : Int) (H : Heap) (locs : List Loc) (ls : Array Slot), (0 ≤ i ∧ i ≤ n ∧ (∀ j, 0 ≤ j → j < i → ft j < t)) → (n - i) < (N2 : Int) → va_P D vwCl [(h0, .inr (2, [.ref q1, .ref q2, .ref q3, .int (iI n)])), (q1, .inl (cI, 20, .inl (zA ft))), (q2, .inl (cI, 20, .inl (zA fx))), (q3, .inl (cI, 20, .inl (zA fy)))] H → va_D A [(h0, .inr (2, [.ref q1, .ref q2, .ref q3, .int (iI n)])), (q1, .inl (cI, 20, .inl (zA ft))), (q2, .inl (cI, 20, .inl (zA fx))), (q3, .inl (cI, 20, .inl (zA fy)))] → va_S A s.heap H locs → lv_has ls 3 [(0, .ref h0), (1, .int (iI t)), (2, .int (iI i))] → W p l e { frames := 0, cells := 0, slots := 0, locals := 0 } s m ([.ref h0, .int (iI t)] : List Value).toArray below meth c H locs 0 0 Q (F0 m 2 ls []) := by
    intro N2
    induction N2 with
    | zero =>
      intro i H locs ls hI hm
      obtain ⟨a1, a2, a3⟩ := hI
      exfalso; omega
    | succ N2 ih2 =>
      intro i H locs ls hI hm2 hP hD hS hl
      obtain ⟨a1, a2, a3⟩ := hI
      refine lv_iload_n hx hb dX2_firstNotBefore_2 rfl (lv_at hl 2 rfl) ?_
      refine lv_aload_n hx hb dX2_firstNotBefore_3 rfl (lv_at hl 0 rfl) ?_
      refine va_get (D := D) (ci := 2) (v := .int (iI n)) (C := RX2) (T := TX2) (N := 4) hx hb hts hin2 hown hK hP 0 rfl rfl 3 (by decide) (hts (.fieldLink RX2 21 "DriftLog$Row" "size" "I") (by decide +kernel)) (fun _ h9 => h9) rfl dX2_firstNotBefore_4 ?_
      refine wz_icmp_ge (tgt := 26) hx hb dX2_firstNotBefore_7 (by decide) ⟨by omega, by omega⟩ ⟨by omega, by omega⟩ (fun c7 => ?_) (fun c7 => ?_)
      · skip
        refine lv_iload_n hx hb dX2_firstNotBefore_26 rfl (lv_at hl 2 rfl) ?_
        rw [hQ]
        exact wz_reti (tys := TY cI cJ cT) () hx hb hr hlocks hK hP hD hS (⟨a1, a2, a3, fun h => by first | assumption | (exfalso; omega)⟩) dX2_firstNotBefore_27
      · skip
        refine lv_aload_n hx hb dX2_firstNotBefore_10 rfl (lv_at hl 0 rfl) ?_
        refine va_get (D := D) (ci := 2) (v := .ref q1) (C := RX2) (T := TX2) (N := 4) hx hb hts hin2 hown hK hP 0 rfl rfl 0 (by decide) (hts (.fieldLink RX2 9 "DriftLog$Row" "times" "[I") (by decide +kernel)) (fun _ h9 => h9) rfl dX2_firstNotBefore_11 ?_
        refine lv_iload_n hx hb dX2_firstNotBefore_14 rfl (lv_at hl 2 rfl) ?_
        refine wz_iald (tys := TY cI cJ cT) hx hb hK hP 1 0 rfl rfl (by decide) (by constructor <;> omega) dX2_firstNotBefore_15 ?_
        refine lv_iload_n hx hb dX2_firstNotBefore_16 rfl (lv_at hl 1 rfl) ?_
        refine wz_icmp_ge (tgt := 26) hx hb dX2_firstNotBefore_17 (by decide) (hft _) (ht) (fun c17 => ?_) (fun c17 => ?_)
        · skip
          refine lv_iload_n hx hb dX2_firstNotBefore_26 rfl (lv_at hl 2 rfl) ?_
          rw [hQ]
          exact wz_reti (tys := TY cI cJ cT) () hx hb hr hlocks hK hP hD hS (⟨a1, a2, a3, fun h => by first | assumption | (exfalso; omega)⟩) dX2_firstNotBefore_27
        · skip
          refine lv_iinc (v := iI (i + 1)) (lv' := [(2, .int (iI (i + 1))), (0, .ref h0), (1, .int (iI t))]) hx hb dX2_firstNotBefore_20 hl (k := 2) rfl (iI_add _ _) (by decide) rfl (fun ls hl => ?_)
          refine lv_goto (tgt := 2) hx hb dX2_firstNotBefore_23 (by decide) ?_
          exact ih2 (i + 1) _ _ _ ⟨(by omega), (by omega), (fun j h1 h2 => by rcases Int.lt_or_eq_of_le (Int.le_of_lt_add_one h2) with q | q; exact a3 j h1 q; subst q; assumption)⟩ (by omega) hP hD hS (lv_sub hl [1, 2, 0] rfl)
  exact LP2 ((n - 0).toNat + 1) 0 _ _ _ ⟨(by omega), (by omega), (fun j h1 h2 => absurd h2 (by omega))⟩ (by omega) hP hD hS (lv_sub hl [1, 2, 0] rfl)
