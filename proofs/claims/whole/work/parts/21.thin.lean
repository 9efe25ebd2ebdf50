set_option maxHeartbeats 4000000 in
set_option maxRecDepth 100000 in
theorem k_X4_isNear (l : Launch) (D : va_G) (cI cJ cT : ClassId) (sz : Nat) (q1 : Nat) (q2 : Nat) (ft : Int → Int) (fv : Int → Int) (a : Int) (i : Int) (b : Int) (e1 : Int) (ht : okT ft) (hv : okC fv) (ha : 0 ≤ a ∧ a < 20) (hi : 0 ≤ i ∧ i < 20) (hb1 : 0 ≤ b ∧ b < 20) (he : rI e1) : Met l yX4_isNear wsX4_isNear { frames := 0, cells := 0, slots := 0, locals := 0 } (zPc D (TY cI cJ cT) [.ref q1, .ref q2, .int (iI a), .int (iI i), .int (iI b), .int (iI e1)] [(q1, .inl (cI, 20, .inl (zA ft))), (q2, .inl (cI, 20, .inl (zA fv)))] sz) (zQi D (TY cI cJ cT) (va_A [(q1, .inl (cI, 20, .inl (zA ft))), (q2, .inl (cI, 20, .inl (zA fv)))] sz) (fun (z : Int) (u : Unit) => z = (bz (near ft fv e1 a i b))) (fun (u : Unit) => [(q1, .inl (cI, 20, .inl (zA ft))), (q2, .inl (cI, 20, .inl (zA fv)))])) 0 0 (va_A [(q1, .inl (cI, 20, .inl (zA ft))), (q2, .inl (cI, 20, .inl (zA fv)))] sz) := by
  refine zMi (cc := cX4_isNear) (maxL := 12) (ret := (some .boolean)) (by decide) rfl (Nat.le_of_ble_eq_true rfl) ?_
  intro p e s m below meth c A ls hE
  obtain ⟨hx, hb, hr, hts, hown, hlocks, hml, hnm, hP, hK, hD, hA, hS, hl⟩ := hE
  have hown : s.vm.findClass RX4 = some m.cls := hown
  have hl : lv_has ls 12 [(0, .ref q1), (1, .ref q2), (2, .int (iI a)), (3, .int (iI i)), (4, .int (iI b)), (5, .int (iI e1))] := hl
  obtain ⟨Q, hQ⟩ : ∃ Q, Q = MQ below (zQi D (TY cI cJ cT) A (fun (z : Int) (u : Unit) => z = (bz (near ft fv e1 a i b))) (fun (u : Unit) => [(q1, .inl (cI, 20, .inl (zA ft))), (q2, .inl (cI, 20, .inl (zA fv)))])) ([.ref q1, .ref q2, .int (iI a), .int (iI i), .int (iI b), .int (iI e1)] : List Value).toArray s 0 0 A := ⟨_, rfl⟩
  rw [← hQ]
  refine lv_aload_n hx hb dX4_isNear_0 rfl (lv_at hl 0 rfl) ?_
  refine lv_iload hx hb dX4_isNear_1 (lv_at hl 4 rfl) ?_
  refine wz_iald (tys := TY cI cJ cT) hx hb hK hP 0 0 rfl rfl (by decide) (hb1) dX4_isNear_3 ?_
  refine lv_aload_n hx hb dX4_isNear_4 rfl (lv_at hl 0 rfl) ?_
  refine lv_iload_n hx hb dX4_isNear_5 rfl (lv_at hl 2 rfl) ?_
  refine wz_iald (tys := TY cI cJ cT) hx hb hK hP 0 0 rfl rfl (by decide) (ha) dX4_isNear_6 ?_
  refine wz_isub hx hb dX4_isNear_7 ?_
  refine wz_i2l hx hb dX4_isNear_8 (by have h1 := ht b; have h2 := ht a; constructor <;> omega) ?_
  refine lv_lstore (lv' := [(6, .long (lI ((ft b) - (ft a)))), (0, .ref q1), (1, .ref q2), (2, .int (iI a)), (3, .int (iI i)), (4, .int (iI b)), (5, .int (iI e1))]) hx hb dX4_isNear_9 hl (by decide) rfl (fun ls hl => ?_)
  refine lv_aload_n hx hb dX4_isNear_11 rfl (lv_at hl 1 rfl) ?_
  refine lv_iload_n hx hb dX4_isNear_12 rfl (lv_at hl 4 rfl) ?_
  refine wz_iald (tys := TY cI cJ cT) hx hb hK hP 0 0 rfl rfl (by decide) (hi) dX4_isNear_13 ?_
  refine lv_aload_n hx hb dX4_isNear_14 rfl (lv_at hl 1 rfl) ?_
  refine lv_iload_n hx hb dX4_isNear_15 rfl (lv_at hl 3 rfl) ?_
  refine wz_iald (tys := TY cI cJ cT) hx hb hK hP 0 0 rfl rfl (by decide) (ha) dX4_isNear_16 ?_
  refine wz_isub hx hb dX4_isNear_17 ?_
  refine wz_i2l hx hb dX4_isNear_18 (by have h1 := ht i; have h2 := ht a; constructor <;> omega) ?_
  refine lv_lstore (lv' := [(8, .long (lI ((ft i) - (ft a)))), (6, .long (lI ((ft b) - (ft a)))), (0, .ref q1), (1, .ref q2), (2, .int (iI a)), (3, .int (iI i)), (4, .int (iI b)), (5, .int (iI e1))]) hx hb dX4_isNear_19 hl (by decide) rfl (fun ls hl => ?_)
  refine lv_aload_n hx hb dX4_isNear_21 rfl (lv_at hl 3 rfl) ?_
  refine lv_iload_n hx hb dX4_isNear_22 rfl (lv_at hl 5 rfl) ?_
  refine wz_iald (tys := TY cI cJ cT) hx hb hK hP 1 0 rfl rfl (by decide) (hi) dX4_isNear_23 ?_
  refine lv_aload_n hx hb dX4_isNear_24 rfl (lv_at hl 3 rfl) ?_
  refine lv_iload_n hx hb dX4_isNear_25 rfl (lv_at hl 4 rfl) ?_
  refine wz_iald (tys := TY cI cJ cT) hx hb hK hP 1 0 rfl rfl (by decide) (ha) dX4_isNear_26 ?_
  refine wz_isub hx hb dX4_isNear_27 ?_
  refine wz_i2l hx hb dX4_isNear_28 (by have h1 := hv i; have h2 := hv a; constructor <;> omega) ?_
  refine lv_lload hx hb dX4_isNear_29 (lv_at hl 1 rfl) ?_
  refine wz_lmul hx hb dX4_isNear_31 ?_
  refine lv_aload_n hx hb dX4_isNear_32 rfl (lv_at hl 3 rfl) ?_
  refine lv_iload hx hb dX4_isNear_33 (lv_at hl 6 rfl) ?_
  refine wz_iald (tys := TY cI cJ cT) hx hb hK hP 1 0 rfl rfl (by decide) (hb1) dX4_isNear_35 ?_
  refine lv_aload_n hx hb dX4_isNear_36 rfl (lv_at hl 3 rfl) ?_
  refine lv_iload_n hx hb dX4_isNear_37 rfl (lv_at hl 4 rfl) ?_
  refine wz_iald (tys := TY cI cJ cT) hx hb hK hP 1 0 rfl rfl (by decide) (ha) dX4_isNear_38 ?_
  refine wz_isub hx hb dX4_isNear_39 ?_
  refine wz_i2l hx hb dX4_isNear_40 (by have h1 := hv b; have h2 := hv a; constructor <;> omega) ?_
  refine lv_lload hx hb dX4_isNear_41 (lv_at hl 0 rfl) ?_
  refine wz_lmul hx hb dX4_isNear_43 ?_
  refine wz_lsub hx hb dX4_isNear_44 ?_
  refine lv_lstore (lv' := [(10, .long (lI ((((fv i) - (fv a)) * ((ft b) - (ft a))) - (((fv b) - (fv a)) * ((ft i) - (ft a)))))), (8, .long (lI ((ft i) - (ft a)))), (6, .long (lI ((ft b) - (ft a)))), (0, .ref q1), (1, .ref q2), (2, .int (iI a)), (3, .int (iI i)), (4, .int (iI b)), (5, .int (iI e1))]) hx hb dX4_isNear_45 hl (by decide) rfl (fun ls hl => ?_)
  refine lv_lload hx hb dX4_isNear_47 (lv_at hl 0 rfl) ?_
  refine lv_lconst (v := lI 0) hx hb dX4_isNear_49 (by decide) ?_
  refine W.lcmp hx hb dX4_isNear_50 ?_
  refine wz_lraw_ge (tgt := 60) hx hb dX4_isNear_51 (by decide) (fun c51 => ?_) (fun c51 => ?_)
  · skip
    refine lv_lload hx hb dX4_isNear_60 (lv_at hl 0 rfl) ?_
    refine lv_iload hx hb dX4_isNear_62 (lv_at hl 8 rfl) ?_
    refine wz_i2l hx hb dX4_isNear_64 (he) ?_
    refine lv_lload hx hb dX4_isNear_65 (lv_at hl 2 rfl) ?_
    refine wz_lmul hx hb dX4_isNear_67 ?_
    refine W.lcmp hx hb dX4_isNear_68 ?_
    refine wz_lraw_gt (tgt := 76) hx hb dX4_isNear_69 (by decide) (fun c69 => ?_) (fun c69 => ?_)
    · skip
      refine lv_iconst (v := iI 0) hx hb dX4_isNear_76 rfl ?_
      rw [hQ]
      exact wz_retz (tys := TY cI cJ cT) () hx hb hr hlocks hK hP hD hS (by first | decide | exact bz_01 _ | omega) ((bz_f (by unfold near; (first | rw [labs_p c51] | rw [labs_n c51]); exact fun q => q c69)).symm) dX4_isNear_77
    · skip
      refine lv_iconst (v := iI 1) hx hb dX4_isNear_72 rfl ?_
      refine lv_goto (tgt := 77) hx hb dX4_isNear_73 (by decide) ?_
      rw [hQ]
      exact wz_retz (tys := TY cI cJ cT) () hx hb hr hlocks hK hP hD hS (by first | decide | exact bz_01 _ | omega) ((bz_t (by unfold near; (first | rw [labs_p c51] | rw [labs_n c51]); exact c69)).symm) dX4_isNear_77
  · skip
    refine lv_lload hx hb dX4_isNear_54 (lv_at hl 0 rfl) ?_
    refine wz_lneg hx hb dX4_isNear_56 ?_
    refine lv_goto (tgt := 62) hx hb dX4_isNear_57 (by decide) ?_
    refine lv_iload hx hb dX4_isNear_62 (lv_at hl 8 rfl) ?_
    refine wz_i2l hx hb dX4_isNear_64 (he) ?_
    refine lv_lload hx hb dX4_isNear_65 (lv_at hl 2 rfl) ?_
    refine wz_lmul hx hb dX4_isNear_67 ?_
    refine W.lcmp hx hb dX4_isNear_68 ?_
    refine wz_lraw_gt (tgt := 76) hx hb dX4_isNear_69 (by decide) (fun c69 => ?_) (fun c69 => ?_)
    · skip
      refine lv_iconst (v := iI 0) hx hb dX4_isNear_76 rfl ?_
      rw [hQ]
      exact wz_retz (tys := TY cI cJ cT) () hx hb hr hlocks hK hP hD hS (by first | decide | exact bz_01 _ | omega) ((bz_f (by unfold near; (first | rw [labs_p c51] | rw [labs_n c51]); exact fun q => q c69)).symm) dX4_isNear_77
    · skip
      refine lv_iconst (v := iI 1) hx hb dX4_isNear_72 rfl ?_
      refine lv_goto (tgt := 77) hx hb dX4_isNear_73 (by decide) ?_
      rw [hQ]
      exact wz_retz (tys := TY cI cJ cT) () hx hb hr hlocks hK hP hD hS (by first | decide | exact bz_01 _ | omega) ((bz_t (by unfold near; (first | rw [labs_p c51] | rw [labs_n c51]); exact c69)).symm) dX4_isNear_77
set_option maxHeartbeats 4000000 in
set_option maxRecDepth 100000 in
theorem k_X4_canStep (l : Launch) (D : va_G) (cI cJ cT : ClassId) (sz : Nat) (h0 : Nat) (q1 : Nat) (q2 : Nat) (q3 : Nat) (ft : Int → Int) (fx : Int → Int) (fy : Int → Int) (n : Int) (a : Int) (b : Int) (e1 : Int) (ht : okT ft) (hx1 : okC fx) (hy1 : okC fy) (ha : 0 ≤ a ∧ a < 20) (hb1 : a < b ∧ b < 20) (he : rI e1) : Met l yX4_canStep wsX4_canStep { frames := 1, cells := 0, slots := 0, locals := 31 } (zPc D (TY cI cJ cT) [.ref h0, .int (iI a), .int (iI b), .int (iI e1)] [(h0, .inr (2, [.ref q1, .ref q2, .ref q3, .int (iI n)])), (q1, .inl (cI, 20, .inl (zA ft))), (q2, .inl (cI, 20, .inl (zA fx))), (q3, .inl (cI, 20, .inl (zA fy)))] sz) (zQi D (TY cI cJ cT) (va_A [(h0, .inr (2, [.ref q1, .ref q2, .ref q3, .int (iI n)])), (q1, .inl (cI, 20, .inl (zA ft))), (q2, .inl (cI, 20, .inl (zA fx))), (q3, .inl (cI, 20, .inl (zA fy)))] sz) (fun (z : Int) (u : Unit) => z = (bz (stepP ft fx fy e1 a b))) (fun (u : Unit) => [(h0, .inr (2, [.ref q1, .ref q2, .ref q3, .int (iI n)])), (q1, .inl (cI, 20, .inl (zA ft))), (q2, .inl (cI, 20, .inl (zA fx))), (q3, .inl (cI, 20, .inl (zA fy)))])) 0 0 (va_A [(h0, .inr (2, [.ref q1, .ref q2, .ref q3, .int (iI n)])), (q1, .inl (cI, 20, .inl (zA ft))), (q2, .inl (cI, 20, .inl (zA fx))), (q3, .inl (cI, 20, .inl (zA fy)))] sz) := by
  refine zMi (cc := cX4_canStep) (maxL := 5) (ret := (some .boolean)) (by decide) rfl (Nat.le_of_ble_eq_true rfl) ?_
  intro p e s m below meth c A ls hE
  obtain ⟨hx, hb, hr, hts, hown, hlocks, hml, hnm, hP, hK, hD, hA, hS, hl⟩ := hE
  have hown : s.vm.findClass RX4 = some m.cls := hown
  have hl : lv_has ls 5 [(0, .ref h0), (1, .int (iI a)), (2, .int (iI b)), (3, .int (iI e1))] := hl
  have hin2 : ∀ w ∈ wsX20, w ∈ wsX4_canStep := by decide +kernel
  obtain ⟨Q, hQ⟩ : ∃ Q, Q = MQ below (zQi D (TY cI cJ cT) A (fun (z : Int) (u : Unit) => z = (bz (stepP ft fx fy e1 a b))) (fun (u : Unit) => [(h0, .inr (2, [.ref q1, .ref q2, .ref q3, .int (iI n)])), (q1, .inl (cI, 20, .inl (zA ft))), (q2, .inl (cI, 20, .inl (zA fx))), (q3, .inl (cI, 20, .inl (zA fy)))])) ([.ref h0, .int (iI a), .int (iI b), .int (iI e1)] : List Value).toArray s 0 0 A := ⟨_, rfl⟩
  rw [← hQ]
  refine lv_iload_n hx hb dX4_canStep_0 rfl (lv_at hl 1 rfl) ?_
  refine lv_iconst (v := iI 1) hx hb dX4_canStep_1 rfl ?_
  refine wz_iadd hx hb dX4_canStep_2 ?_
  refine lv_istore (lv' := [(4, .int (iI (a + 1))), (0, .ref h0), (1, .int (iI a)), (2, .int (iI b)), (3, .int (iI e1))]) hx hb dX4_canStep_3 hl (by decide) rfl (fun ls hl => ?_)
  have LP5 : ∀ (N5 : Nat) (i : Int) (H : Heap) (locs : List Loc) (ls : Array Slot), (a < i ∧ i ≤ b ∧ (∀ j, a < j → j < i → near ft fx e1 a j b ∧ near ft fy e1 a j b)) → (b - i) < (N5 : Int) → va_P D vwCl [(h0, .inr (2, [.ref q1, .ref q2, .ref q3, .int (iI n)])), (q1, .inl (cI, 20, .inl (zA ft))), (q2, .inl (cI, 20, .inl (zA fx))), (q3, .inl (cI, 20, .inl (zA fy)))] H → va_D A [(h0, .inr (2, [.ref q1, .ref q2, .ref q3, .int (iI n)])), (q1, .inl (cI, 20, .inl (zA ft))), (q2, .inl (cI, 20, .inl (zA fx))), (q3, .inl (cI, 20, .inl (zA fy)))] → va_S A s.heap H locs → lv_has ls 5 [(0, .ref h0), (1, .int (iI a)), (2, .int (iI b)), (3, .int (iI e1)), (4, .int (iI i))] → W p l e { frames := 1, cells := 0, slots := 0, locals := 31 } s m ([.ref h0, .int (iI a), .int (iI b), .int (iI e1)] : List Value).toArray below meth c H locs 0 0 Q (F0 m 5 ls []) := by
    intro N5
    induction N5 with
    | zero =>
      intro i H locs ls hI hm
      obtain ⟨a1, a2, a3⟩ := hI
      exfalso; omega
    | succ N5 ih5 =>
      intro i H locs ls hI hm5 hP hD hS hl
      obtain ⟨a1, a2, a3⟩ := hI
      refine lv_iload hx hb dX4_canStep_5 (lv_at hl 4 rfl) ?_
      refine lv_iload_n hx hb dX4_canStep_7 rfl (lv_at hl 2 rfl) ?_
      refine wz_icmp_ge (tgt := 57) hx hb dX4_canStep_8 (by decide) ⟨by omega, by omega⟩ ⟨by omega, by omega⟩ (fun c8 => ?_) (fun c8 => ?_)
      · skip
        refine lv_iconst (v := iI 1) hx hb dX4_canStep_57 rfl ?_
        rw [hQ]
        exact wz_retz (tys := TY cI cJ cT) () hx hb hr hlocks hK hP hD hS (by first | decide | exact bz_01 _ | omega) ((bz_t (fun j h1 h2 => a3 j h1 (by omega))).symm) dX4_canStep_58
      · skip
        refine lv_aload_n hx hb dX4_canStep_11 rfl (lv_at hl 0 rfl) ?_
        refine va_get (D := D) (ci := 2) (v := .ref q1) (C := RX2) (T := TX2) (N := 4) hx hb hts hin2 hown hK hP 0 rfl rfl 0 (by decide) (hts (.fieldLink RX4 29 "DriftLog$Row" "times" "[I") (by decide +kernel)) (fun _ h9 => h9) rfl dX4_canStep_12 ?_
        refine lv_aload_n hx hb dX4_canStep_15 rfl (lv_at hl 0 rfl) ?_
        refine va_get (D := D) (ci := 2) (v := .ref q2) (C := RX2) (T := TX2) (N := 4) hx hb hts hin2 hown hK hP 0 rfl rfl 1 (by decide) (hts (.fieldLink RX4 32 "DriftLog$Row" "xs" "[I") (by decide +kernel)) (fun _ h9 => h9) rfl dX4_canStep_16 ?_
        refine lv_iload_n hx hb dX4_canStep_19 rfl (lv_at hl 1 rfl) ?_
        refine lv_iload hx hb dX4_canStep_20 (lv_at hl 4 rfl) ?_
        refine lv_iload_n hx hb dX4_canStep_22 rfl (lv_at hl 2 rfl) ?_
        refine lv_iload_n hx hb dX4_canStep_23 rfl (lv_at hl 3 rfl) ?_
        refine wz_calli (wr := [(h0, .inr (2, [.ref q1, .ref q2, .ref q3, .int (iI n)])), (q3, .inl (cI, 20, .inl (zA fy)))]) (va_runS (As := [.ref q1, .ref q2, .int (iI a), .int (iI i), .int (iI b), .int (iI e1)]) (rest := []) ⟨hx, hb, hml, hown, hts⟩ (k_X4_isNear l D cI cJ cT H.size q1 q2 ft fx a i b e1 (ht) (hx1) (ha) (by omega) (by omega) (he)) (va_cwS 6 hts gX4_canStep_X4_isNear rfl rfl rfl (by decide +kernel) ⟨Nat.le_of_ble_eq_true rfl, Nat.le_of_ble_eq_true rfl⟩) (wz_preS hK hP hD [1, 2] (by decide) rfl rfl) rfl rfl hl.1 rfl (lv_room (Nat.le_of_ble_eq_true rfl)) dX4_canStep_24 ⟨Nat.le_of_ble_eq_true rfl, Nat.le_of_ble_eq_true rfl⟩) hP hD hS hA [1, 2] [0, 3] rfl rfl rfl (by decide) (fun z24 u H locs hw24 hP hD hS => ?_)
        have hP : va_P D vwCl [(h0, .inr (2, [.ref q1, .ref q2, .ref q3, .int (iI n)])), (q1, .inl (cI, 20, .inl (zA ft))), (q2, .inl (cI, 20, .inl (zA fx))), (q3, .inl (cI, 20, .inl (zA fy)))] H := hP.sub [0, 2, 3, 1] rfl
        have hD : va_D A [(h0, .inr (2, [.ref q1, .ref q2, .ref q3, .int (iI n)])), (q1, .inl (cI, 20, .inl (zA ft))), (q2, .inl (cI, 20, .inl (zA fx))), (q3, .inl (cI, 20, .inl (zA fy)))] := hD.sub [0, 2, 3, 1] (by decide) rfl
        subst hw24
        refine wz_ifb_eq (tgt := 49) hx hb dX4_canStep_27 (by decide) (fun c27 => ?_) (fun c27 => ?_)
        · skip
          refine lv_iconst (v := iI 0) hx hb dX4_canStep_49 rfl ?_
          rw [hQ]
          exact wz_retz (tys := TY cI cJ cT) () hx hb hr hlocks hK hP hD hS (by first | decide | exact bz_01 _ | omega) ((bz_f (fun q => by first | exact c27 (q i a1 (by omega)).1 | exact c46 (q i a1 (by omega)).2)).symm) dX4_canStep_50
        · skip
          refine lv_aload_n hx hb dX4_canStep_30 rfl (lv_at hl 0 rfl) ?_
          refine va_get (D := D) (ci := 2) (v := .ref q1) (C := RX2) (T := TX2) (N := 4) hx hb hts hin2 hown hK hP 0 rfl rfl 0 (by decide) (hts (.fieldLink RX4 29 "DriftLog$Row" "times" "[I") (by decide +kernel)) (fun _ h9 => h9) rfl dX4_canStep_31 ?_
          refine lv_aload_n hx hb dX4_canStep_34 rfl (lv_at hl 0 rfl) ?_
          refine va_get (D := D) (ci := 2) (v := .ref q3) (C := RX2) (T := TX2) (N := 4) hx hb hts hin2 hown hK hP 0 rfl rfl 2 (by decide) (hts (.fieldLink RX4 35 "DriftLog$Row" "ys" "[I") (by decide +kernel)) (fun _ h9 => h9) rfl dX4_canStep_35 ?_
          refine lv_iload_n hx hb dX4_canStep_38 rfl (lv_at hl 1 rfl) ?_
          refine lv_iload hx hb dX4_canStep_39 (lv_at hl 4 rfl) ?_
          refine lv_iload_n hx hb dX4_canStep_41 rfl (lv_at hl 2 rfl) ?_
          refine lv_iload_n hx hb dX4_canStep_42 rfl (lv_at hl 3 rfl) ?_
          refine wz_calli (wr := [(h0, .inr (2, [.ref q1, .ref q2, .ref q3, .int (iI n)])), (q2, .inl (cI, 20, .inl (zA fx)))]) (va_runS (As := [.ref q1, .ref q3, .int (iI a), .int (iI i), .int (iI b), .int (iI e1)]) (rest := []) ⟨hx, hb, hml, hown, hts⟩ (k_X4_isNear l D cI cJ cT H.size q1 q3 ft fy a i b e1 (ht) (hy1) (ha) (by omega) (by omega) (he)) (va_cwS 6 hts gX4_canStep_X4_isNear rfl rfl rfl (by decide +kernel) ⟨Nat.le_of_ble_eq_true rfl, Nat.le_of_ble_eq_true rfl⟩) (wz_preS hK hP hD [1, 3] (by decide) rfl rfl) rfl rfl hl.1 rfl (lv_room (Nat.le_of_ble_eq_true rfl)) dX4_canStep_43 ⟨Nat.le_of_ble_eq_true rfl, Nat.le_of_ble_eq_true rfl⟩) hP hD hS hA [1, 3] [0, 2] rfl rfl rfl (by decide) (fun z43 u H locs hw43 hP hD hS => ?_)
          have hP : va_P D vwCl [(h0, .inr (2, [.ref q1, .ref q2, .ref q3, .int (iI n)])), (q1, .inl (cI, 20, .inl (zA ft))), (q2, .inl (cI, 20, .inl (zA fx))), (q3, .inl (cI, 20, .inl (zA fy)))] H := hP.sub [0, 2, 1, 3] rfl
          have hD : va_D A [(h0, .inr (2, [.ref q1, .ref q2, .ref q3, .int (iI n)])), (q1, .inl (cI, 20, .inl (zA ft))), (q2, .inl (cI, 20, .inl (zA fx))), (q3, .inl (cI, 20, .inl (zA fy)))] := hD.sub [0, 2, 1, 3] (by decide) rfl
          subst hw43
          refine wz_ifb_ne (tgt := 51) hx hb dX4_canStep_46 (by decide) (fun c46 => ?_) (fun c46 => ?_)
          · skip
            refine lv_iinc (v := iI (i + 1)) (lv' := [(4, .int (iI (i + 1))), (0, .ref h0), (1, .int (iI a)), (2, .int (iI b)), (3, .int (iI e1))]) hx hb dX4_canStep_51 hl (k := 4) rfl (iI_add _ _) (by decide) rfl (fun ls hl => ?_)
            refine lv_goto (tgt := 5) hx hb dX4_canStep_54 (by decide) ?_
            exact ih5 (i + 1) _ _ _ ⟨(by omega), (by omega), (fun j h1 h2 => by rcases Int.lt_or_eq_of_le (Int.le_of_lt_add_one h2) with q | q; exact a3 j h1 q; subst q; exact ⟨c27, c46⟩)⟩ (by omega) hP hD hS (lv_sub hl [1, 2, 3, 4, 0] rfl)
          · skip
            refine lv_iconst (v := iI 0) hx hb dX4_canStep_49 rfl ?_
            rw [hQ]
            exact wz_retz (tys := TY cI cJ cT) () hx hb hr hlocks hK hP hD hS (by first | decide | exact bz_01 _ | omega) ((bz_f (fun q => by first | exact c27 (q i a1 (by omega)).1 | exact c46 (q i a1 (by omega)).2)).symm) dX4_canStep_50
  exact LP5 ((b - (a + 1)).toNat + 1) (a + 1) _ _ _ ⟨(by omega), (by omega), (fun j h1 h2 => absurd h2 (by omega))⟩ (by omega) hP hD hS (lv_sub hl [1, 2, 3, 4, 0] rfl)
set_option maxHeartbeats 4000000 in
set_option maxRecDepth 100000 in
theorem k_X4_countSteps (l : Launch) (D : va_G) (cI cJ cT : ClassId) (sz : Nat) (h9 : Nat) (q9 : Nat) (fs : Int → Int) (h0 : Nat) (q1 : Nat) (q2 : Nat) (q3 : Nat) (ft : Int → Int) (fx : Int → Int) (fy : Int → Int) (n : Int) (e1 : Int) (ht : okT ft) (hx1 : okC fx) (hy1 : okC fy) (hn : 1 ≤ n ∧ n ≤ 20) (he : rI e1) : Met l yX4_countSteps wsX4_countSteps { frames := 2, cells := 0, slots := 0, locals := 55 } (zPc D (TY cI cJ cT) [.ref h9, .ref h0, .int (iI e1)] [(h9, .inr (4, [.ref q9])), (q9, .inl (cI, 20, .inl (zA fs))), (h0, .inr (2, [.ref q1, .ref q2, .ref q3, .int (iI n)])), (q1, .inl (cI, 20, .inl (zA ft))), (q2, .inl (cI, 20, .inl (zA fx))), (q3, .inl (cI, 20, .inl (zA fy)))] sz) (zQv D (TY cI cJ cT) (va_A [(h9, .inr (4, [.ref q9])), (q9, .inl (cI, 20, .inl (zA fs))), (h0, .inr (2, [.ref q1, .ref q2, .ref q3, .int (iI n)])), (q1, .inl (cI, 20, .inl (zA ft))), (q2, .inl (cI, 20, .inl (zA fx))), (q3, .inl (cI, 20, .inl (zA fy)))] sz) (fun (u : (Int → Int)) => ∀ i, 0 ≤ i → i < n → swP n (stepP ft fx fy e1) u i) (fun (u : (Int → Int)) => [(h9, .inr (4, [.ref q9])), (q9, .inl (cI, 20, .inl (zA u))), (h0, .inr (2, [.ref q1, .ref q2, .ref q3, .int (iI n)])), (q1, .inl (cI, 20, .inl (zA ft))), (q2, .inl (cI, 20, .inl (zA fx))), (q3, .inl (cI, 20, .inl (zA fy)))])) 0 0 (va_A [(h9, .inr (4, [.ref q9])), (q9, .inl (cI, 20, .inl (zA fs))), (h0, .inr (2, [.ref q1, .ref q2, .ref q3, .int (iI n)])), (q1, .inl (cI, 20, .inl (zA ft))), (q2, .inl (cI, 20, .inl (zA fx))), (q3, .inl (cI, 20, .inl (zA fy)))] sz) := by
  refine zMv (cc := cX4_countSteps) (maxL := 7) (ret := none) (by decide) rfl (Nat.le_of_ble_eq_true rfl) ?_
  intro p e s m below meth c A ls hE
  obtain ⟨hx, hb, hr, hts, hown, hlocks, hml, hnm, hP, hK, hD, hA, hS, hl⟩ := hE
  have hown : s.vm.findClass RX4 = some m.cls := hown
  have hl : lv_has ls 7 [(0, .ref h9), (1, .ref h0), (2, .int (iI e1))] := hl
  have hin2 : ∀ w ∈ wsX20, w ∈ wsX4_countSteps := by decide +kernel
  have hin4 : ∀ w ∈ wsX40, w ∈ wsX4_countSteps := by decide +kernel
  obtain ⟨Q, hQ⟩ : ∃ Q, Q = MQ below (zQv D (TY cI cJ cT) A (fun (u : (Int → Int)) => ∀ i, 0 ≤ i → i < n → swP n (stepP ft fx fy e1) u i) (fun (u : (Int → Int)) => [(h9, .inr (4, [.ref q9])), (q9, .inl (cI, 20, .inl (zA u))), (h0, .inr (2, [.ref q1, .ref q2, .ref q3, .int (iI n)])), (q1, .inl (cI, 20, .inl (zA ft))), (q2, .inl (cI, 20, .inl (zA fx))), (q3, .inl (cI, 20, .inl (zA fy)))])) ([.ref h9, .ref h0, .int (iI e1)] : List Value).toArray s 0 0 A := ⟨_, rfl⟩
  rw [← hQ]
  refine lv_aload_n hx hb dX4_countSteps_0 rfl (lv_at hl 1 rfl) ?_
  refine va_get (D := D) (ci := 2) (v := .int (iI n)) (C := RX2) (T := TX2) (N := 4) hx hb hts hin2 hown hK hP 2 rfl rfl 3 (by decide) (hts (.fieldLink RX4 19 "DriftLog$Row" "size" "I") (by decide +kernel)) (fun _ h9 => h9) rfl dX4_countSteps_1 ?_
  refine lv_iconst (v := iI 1) hx hb dX4_countSteps_4 rfl ?_
  refine wz_isub hx hb dX4_countSteps_5 ?_
  refine lv_istore_n (lv' := [(3, .int (iI (n - 1))), (0, .ref h9), (1, .ref h0), (2, .int (iI e1))]) hx hb dX4_countSteps_6 rfl hl (by decide) rfl (fun ls hl => ?_)
  refine lv_iload_n hx hb dX4_countSteps_7 rfl (lv_at hl 0 rfl) ?_
  refine lv_istore (lv' := [(4, .int (iI (n - 1))), (3, .int (iI (n - 1))), (0, .ref h9), (1, .ref h0), (2, .int (iI e1))]) hx hb dX4_countSteps_8 hl (by decide) rfl (fun ls hl => ?_)
  have LP10 : ∀ (N10 : Nat) (i : Int) (gs : Int → Int) (H : Heap) (locs : List Loc) (ls : Array Slot), (-1 ≤ i ∧ i < n ∧ (∀ k, i < k → k < n → swP n (stepP ft fx fy e1) gs k)) → (i + 1) < (N10 : Int) → va_P D vwCl [(h9, .inr (4, [.ref q9])), (q9, .inl (cI, 20, .inl (zA gs))), (h0, .inr (2, [.ref q1, .ref q2, .ref q3, .int (iI n)])), (q1, .inl (cI, 20, .inl (zA ft))), (q2, .inl (cI, 20, .inl (zA fx))), (q3, .inl (cI, 20, .inl (zA fy)))] H → va_D A [(h9, .inr (4, [.ref q9])), (q9, .inl (cI, 20, .inl (zA gs))), (h0, .inr (2, [.ref q1, .ref q2, .ref q3, .int (iI n)])), (q1, .inl (cI, 20, .inl (zA ft))), (q2, .inl (cI, 20, .inl (zA fx))), (q3, .inl (cI, 20, .inl (zA fy)))] → va_S A s.heap H locs → lv_has ls 7 [(0, .ref h9), (1, .ref h0), (2, .int (iI e1)), (3, .int (iI (n - 1))), (4, .int (iI i))] → W p l e { frames := 2, cells := 0, slots := 0, locals := 55 } s m ([.ref h9, .ref h0, .int (iI e1)] : List Value).toArray below meth c H locs 0 0 Q (F0 m 10 ls []) := by
    intro N10
    induction N10 with
    | zero =>
      intro i gs H locs ls hI hm
      obtain ⟨a1, a2, a3⟩ := hI
      exfalso; omega
    | succ N10 ih10 =>
      intro i gs H locs ls hI hm10 hP hD hS hl
      obtain ⟨a1, a2, a3⟩ := hI
      refine lv_iload hx hb dX4_countSteps_10 (lv_at hl 4 rfl) ?_
      refine wz_if_lt (tgt := 91) hx hb dX4_countSteps_12 (by decide) ⟨by omega, by omega⟩ (fun c12 => ?_) (fun c12 => ?_)
      · skip
        rw [hQ]
        exact wz_retv (tys := TY cI cJ cT) gs hx hb hr hlocks hK hP hD hS (fun k h1 h2 => a3 k (by omega) h2) dX4_countSteps_91
      · skip
        refine lv_iload_n hx hb dX4_countSteps_15 rfl (lv_at hl 3 rfl) ?_
        refine lv_iload hx hb dX4_countSteps_16 (lv_at hl 4 rfl) ?_
        refine wz_isub hx hb dX4_countSteps_18 ?_
        refine lv_istore (lv' := [(5, .int (iI ((n - 1) - i))), (0, .ref h9), (1, .ref h0), (2, .int (iI e1)), (3, .int (iI (n - 1))), (4, .int (iI i))]) hx hb dX4_countSteps_19 hl (by decide) rfl (fun ls hl => ?_)
        refine lv_iload hx hb dX4_countSteps_21 (lv_at hl 5 rfl) ?_
        refine lv_iconst (v := iI 1) hx hb dX4_countSteps_23 rfl ?_
        refine wz_iadd hx hb dX4_countSteps_24 ?_
        refine lv_istore (lv' := [(6, .int (iI (i + 1))), (5, .int (iI ((n - 1) - i))), (0, .ref h9), (1, .ref h0), (2, .int (iI e1)), (3, .int (iI (n - 1))), (4, .int (iI i))]) hx hb dX4_countSteps_25 hl (by decide) rfl (fun ls hl => ?_)
        have LP27 : ∀ (N27 : Nat) (j : Int) (w : Int) (H : Heap) (locs : List Loc) (ls : Array Slot), (i < j ∧ j ≤ n ∧ (0 ≤ w ∧ w ≤ n - 1 - i) ∧ (∀ k, i < k → k < j → (stepP ft fx fy e1) i k → w ≤ gs k + 1) ∧ (w = n - 1 - i ∨ ∃ k, i < k ∧ k < j ∧ (stepP ft fx fy e1) i k ∧ w = gs k + 1)) → (n - j) < (N27 : Int) → va_P D vwCl [(h9, .inr (4, [.ref q9])), (q9, .inl (cI, 20, .inl (zA gs))), (h0, .inr (2, [.ref q1, .ref q2, .ref q3, .int (iI n)])), (q1, .inl (cI, 20, .inl (zA ft))), (q2, .inl (cI, 20, .inl (zA fx))), (q3, .inl (cI, 20, .inl (zA fy)))] H → va_D A [(h9, .inr (4, [.ref q9])), (q9, .inl (cI, 20, .inl (zA gs))), (h0, .inr (2, [.ref q1, .ref q2, .ref q3, .int (iI n)])), (q1, .inl (cI, 20, .inl (zA ft))), (q2, .inl (cI, 20, .inl (zA fx))), (q3, .inl (cI, 20, .inl (zA fy)))] → va_S A s.heap H locs → lv_has ls 7 [(0, .ref h9), (1, .ref h0), (2, .int (iI e1)), (3, .int (iI (n - 1))), (4, .int (iI i)), (5, .int (iI w)), (6, .int (iI j))] → W p l e { frames := 2, cells := 0, slots := 0, locals := 55 } s m ([.ref h9, .ref h0, .int (iI e1)] : List Value).toArray below meth c H locs 0 0 Q (F0 m 27 ls []) := by
          intro N27
          induction N27 with
          | zero =>
            intro j w H locs ls hI hm
            obtain ⟨b1, b2, b3, b4, b5⟩ := hI
            exfalso; omega
          | succ N27 ih27 =>
            intro j w H locs ls hI hm27 hP hD hS hl
            obtain ⟨b1, b2, b3, b4, b5⟩ := hI
            have bj : j < n → 0 ≤ gs j ∧ gs j ≤ n - 1 - j := fun h => ⟨(a3 j (by omega) h).1, (a3 j (by omega) h).2.1⟩
            refine lv_iload hx hb dX4_countSteps_27 (lv_at hl 6 rfl) ?_
            refine lv_iload_n hx hb dX4_countSteps_29 rfl (lv_at hl 3 rfl) ?_
            refine wz_icmp_gt (tgt := 76) hx hb dX4_countSteps_30 (by decide) ⟨by omega, by omega⟩ (⟨by omega, by omega⟩) (fun c30 => ?_) (fun c30 => ?_)
            · skip
              refine lv_aload_n hx hb dX4_countSteps_76 rfl (lv_at hl 0 rfl) ?_
              refine va_get (D := D) (ci := 4) (v := .ref q9) (C := RX4) (T := TX4) (N := 1) hx hb hts hin4 hown hK hP 0 rfl rfl 0 (by decide) (hts (.fieldLink RX4 9 "DriftLog$Thinner" "steps" "[I") (by decide +kernel)) (fun _ h9 => h9) rfl dX4_countSteps_77 ?_
              refine lv_iload hx hb dX4_countSteps_80 (lv_at hl 4 rfl) ?_
              refine lv_iload hx hb dX4_countSteps_82 (lv_at hl 5 rfl) ?_
              refine wz_iast (tys := TY cI cJ cT) hx hb hK hP hD hS 1 0 rfl rfl (by decide) (by constructor <;> omega) dX4_countSteps_84 (fun H locs hP hD hS => ?_)
              have hP : va_P D vwCl [(h9, .inr (4, [.ref q9])), (q9, .inl (cI, 20, .inl (zA (uZ gs i w)))), (h0, .inr (2, [.ref q1, .ref q2, .ref q3, .int (iI n)])), (q1, .inl (cI, 20, .inl (zA ft))), (q2, .inl (cI, 20, .inl (zA fx))), (q3, .inl (cI, 20, .inl (zA fy)))] H := hP
              have hD : va_D A [(h9, .inr (4, [.ref q9])), (q9, .inl (cI, 20, .inl (zA (uZ gs i w)))), (h0, .inr (2, [.ref q1, .ref q2, .ref q3, .int (iI n)])), (q1, .inl (cI, 20, .inl (zA ft))), (q2, .inl (cI, 20, .inl (zA fx))), (q3, .inl (cI, 20, .inl (zA fy)))] := hD
              refine lv_iinc (v := iI (i + (-1))) (lv' := [(4, .int (iI (i + (-1)))), (0, .ref h9), (1, .ref h0), (2, .int (iI e1)), (3, .int (iI (n - 1))), (5, .int (iI w)), (6, .int (iI j))]) hx hb dX4_countSteps_85 hl (k := 4) rfl (iI_add _ _) (by decide) rfl (fun ls hl => ?_)
              refine lv_goto (tgt := 10) hx hb dX4_countSteps_88 (by decide) ?_
              exact ih10 (i + (-1)) (uZ gs i w) _ _ _ ⟨(by omega), (by omega), (fun k h1 h2 => by
                      rcases Int.lt_trichotomy k i with q | q | q
                      · exfalso; omega
                      · subst q
                        refine ⟨by rw [uZ_s]; omega, by rw [uZ_s]; omega, fun j g1 g2 g3 => by rw [uZ_s, uZ_n _ (by omega)]; exact b4 j g1 (by omega) g3, ?_⟩
                        rcases b5 with q | ⟨j, g1, g2, g3, g4⟩
                        · exact Or.inl (by rw [uZ_s]; exact q)
                        · exact Or.inr ⟨j, g1, by omega, g3, by rw [uZ_s, uZ_n _ (by omega)]; exact g4⟩
                      · exact swP_c (fun j g1 g2 => uZ_n _ (by omega)) h2 (a3 k q h2))⟩ (by omega) hP hD hS (lv_sub hl [1, 2, 3, 4, 0] rfl)
            · skip
              refine lv_aload_n hx hb dX4_countSteps_33 rfl (lv_at hl 0 rfl) ?_
              refine va_get (D := D) (ci := 4) (v := .ref q9) (C := RX4) (T := TX4) (N := 1) hx hb hts hin4 hown hK hP 0 rfl rfl 0 (by decide) (hts (.fieldLink RX4 9 "DriftLog$Thinner" "steps" "[I") (by decide +kernel)) (fun _ h9 => h9) rfl dX4_countSteps_34 ?_
              refine lv_iload hx hb dX4_countSteps_37 (lv_at hl 6 rfl) ?_
              refine wz_iald (tys := TY cI cJ cT) hx hb hK hP 1 0 rfl rfl (by decide) (by constructor <;> omega) dX4_countSteps_39 ?_
              refine lv_iconst (v := iI 1) hx hb dX4_countSteps_40 rfl ?_
              refine wz_iadd hx hb dX4_countSteps_41 ?_
              refine lv_iload hx hb dX4_countSteps_42 (lv_at hl 5 rfl) ?_
              refine wz_icmp_ge (tgt := 70) hx hb dX4_countSteps_44 (by decide) (by have := bj (by omega); constructor <;> omega) ⟨by omega, by omega⟩ (fun c44 => ?_) (fun c44 => ?_)
              · skip
                refine lv_iinc (v := iI (j + 1)) (lv' := [(6, .int (iI (j + 1))), (0, .ref h9), (1, .ref h0), (2, .int (iI e1)), (3, .int (iI (n - 1))), (4, .int (iI i)), (5, .int (iI w))]) hx hb dX4_countSteps_70 hl (k := 6) rfl (iI_add _ _) (by decide) rfl (fun ls hl => ?_)
                refine lv_goto (tgt := 27) hx hb dX4_countSteps_73 (by decide) ?_
                exact ih27 (j + 1) w _ _ _ ⟨(by omega), (by omega), (b3), (fun k h1 h2 h3 => by rcases Int.lt_or_eq_of_le (Int.le_of_lt_add_one h2) with q | q; exact b4 k h1 q h3; subst q; first | omega | exact absurd h3 c56), (b5.elim Or.inl (fun ⟨k, g1, g2, g3, g4⟩ => Or.inr ⟨k, g1, by omega, g3, g4⟩))⟩ (by omega) hP hD hS (lv_sub hl [1, 2, 3, 4, 5, 6, 0] rfl)
              · skip
                refine lv_aload_n hx hb dX4_countSteps_47 rfl (lv_at hl 1 rfl) ?_
                refine lv_iload hx hb dX4_countSteps_48 (lv_at hl 4 rfl) ?_
                refine lv_iload hx hb dX4_countSteps_50 (lv_at hl 6 rfl) ?_
                refine lv_iload_n hx hb dX4_countSteps_52 rfl (lv_at hl 2 rfl) ?_
                refine wz_calli (wr := [(h9, .inr (4, [.ref q9])), (q9, .inl (cI, 20, .inl (zA gs)))]) (va_runS (As := [.ref h0, .int (iI i), .int (iI j), .int (iI e1)]) (rest := []) ⟨hx, hb, hml, hown, hts⟩ (k_X4_canStep l D cI cJ cT H.size h0 q1 q2 q3 ft fx fy n i j e1 (ht) (hx1) (hy1) (by omega) (by omega) (he)) (va_cwS 4 hts gX4_countSteps_X4_canStep rfl rfl rfl (by decide +kernel) ⟨Nat.le_of_ble_eq_true rfl, Nat.le_of_ble_eq_true rfl⟩) (wz_preS hK hP hD [2, 3, 4, 5] (by decide) rfl rfl) rfl rfl hl.1 rfl (lv_room (Nat.le_of_ble_eq_true rfl)) dX4_countSteps_53 ⟨Nat.le_of_ble_eq_true rfl, Nat.le_of_ble_eq_true rfl⟩) hP hD hS hA [2, 3, 4, 5] [0, 1] rfl rfl rfl (by decide) (fun z53 u H locs hw53 hP hD hS => ?_)
                have hP : va_P D vwCl [(h9, .inr (4, [.ref q9])), (q9, .inl (cI, 20, .inl (zA gs))), (h0, .inr (2, [.ref q1, .ref q2, .ref q3, .int (iI n)])), (q1, .inl (cI, 20, .inl (zA ft))), (q2, .inl (cI, 20, .inl (zA fx))), (q3, .inl (cI, 20, .inl (zA fy)))] H := hP.sub [0, 1, 2, 3, 4, 5] rfl
                have hD : va_D A [(h9, .inr (4, [.ref q9])), (q9, .inl (cI, 20, .inl (zA gs))), (h0, .inr (2, [.ref q1, .ref q2, .ref q3, .int (iI n)])), (q1, .inl (cI, 20, .inl (zA ft))), (q2, .inl (cI, 20, .inl (zA fx))), (q3, .inl (cI, 20, .inl (zA fy)))] := hD.sub [0, 1, 2, 3, 4, 5] (by decide) rfl
                subst hw53
                refine wz_ifb_eq (tgt := 70) hx hb dX4_countSteps_56 (by decide) (fun c56 => ?_) (fun c56 => ?_)
                · skip
                  refine lv_iinc (v := iI (j + 1)) (lv' := [(6, .int (iI (j + 1))), (0, .ref h9), (1, .ref h0), (2, .int (iI e1)), (3, .int (iI (n - 1))), (4, .int (iI i)), (5, .int (iI w))]) hx hb dX4_countSteps_70 hl (k := 6) rfl (iI_add _ _) (by decide) rfl (fun ls hl => ?_)
                  refine lv_goto (tgt := 27) hx hb dX4_countSteps_73 (by decide) ?_
                  exact ih27 (j + 1) w _ _ _ ⟨(by omega), (by omega), (b3), (fun k h1 h2 h3 => by rcases Int.lt_or_eq_of_le (Int.le_of_lt_add_one h2) with q | q; exact b4 k h1 q h3; subst q; first | omega | exact absurd h3 c56), (b5.elim Or.inl (fun ⟨k, g1, g2, g3, g4⟩ => Or.inr ⟨k, g1, by omega, g3, g4⟩))⟩ (by omega) hP hD hS (lv_sub hl [1, 2, 3, 4, 5, 6, 0] rfl)
                · skip
                  refine lv_aload_n hx hb dX4_countSteps_59 rfl (lv_at hl 0 rfl) ?_
                  refine va_get (D := D) (ci := 4) (v := .ref q9) (C := RX4) (T := TX4) (N := 1) hx hb hts hin4 hown hK hP 0 rfl rfl 0 (by decide) (hts (.fieldLink RX4 9 "DriftLog$Thinner" "steps" "[I") (by decide +kernel)) (fun _ h9 => h9) rfl dX4_countSteps_60 ?_
                  refine lv_iload hx hb dX4_countSteps_63 (lv_at hl 6 rfl) ?_
                  refine wz_iald (tys := TY cI cJ cT) hx hb hK hP 1 0 rfl rfl (by decide) (by constructor <;> omega) dX4_countSteps_65 ?_
                  refine lv_iconst (v := iI 1) hx hb dX4_countSteps_66 rfl ?_
                  refine wz_iadd hx hb dX4_countSteps_67 ?_
                  refine lv_istore (lv' := [(5, .int (iI ((gs j) + 1))), (0, .ref h9), (1, .ref h0), (2, .int (iI e1)), (3, .int (iI (n - 1))), (4, .int (iI i)), (6, .int (iI j))]) hx hb dX4_countSteps_68 hl (by decide) rfl (fun ls hl => ?_)
                  refine lv_iinc (v := iI (j + 1)) (lv' := [(6, .int (iI (j + 1))), (5, .int (iI ((gs j) + 1))), (0, .ref h9), (1, .ref h0), (2, .int (iI e1)), (3, .int (iI (n - 1))), (4, .int (iI i))]) hx hb dX4_countSteps_70 hl (k := 6) rfl (iI_add _ _) (by decide) rfl (fun ls hl => ?_)
                  refine lv_goto (tgt := 27) hx hb dX4_countSteps_73 (by decide) ?_
                  exact ih27 (j + 1) ((gs j) + 1) _ _ _ ⟨(by omega), (by omega), (by have := bj (by omega); constructor <;> omega), (fun k h1 h2 h3 => by rcases Int.lt_or_eq_of_le (Int.le_of_lt_add_one h2) with q | q; have := b4 k h1 q h3; omega; subst q; omega), (Or.inr ⟨j, b1, by omega, c56, rfl⟩)⟩ (by omega) hP hD hS (lv_sub hl [2, 3, 4, 5, 6, 1, 0] rfl)
        exact LP27 ((n - (i + 1)).toNat + 1) (i + 1) ((n - 1) - i) _ _ _ ⟨(by omega), (by omega), (by constructor <;> omega), (fun k h1 h2 => absurd h2 (by omega)), (Or.inl (by omega))⟩ (by omega) hP hD hS (lv_sub hl [2, 3, 4, 5, 6, 1, 0] rfl)
  exact LP10 (((n - 1) + 1).toNat + 1) (n - 1) fs _ _ _ ⟨(by omega), (by omega), (fun k h1 h2 => absurd h2 (by omega))⟩ (by omega) hP hD hS (lv_sub hl [2, 3, 4, 1, 0] rfl)
set_option maxHeartbeats 4000000 in
set_option maxRecDepth 100000 in
theorem k_X4_thin (l : Launch) (D : va_G) (cI cJ cT : ClassId) (sz : Nat) (h9 : Nat) (q9 : Nat) (fs : Int → Int) (h0 : Nat) (q1 : Nat) (q2 : Nat) (q3 : Nat) (ft : Int → Int) (fx : Int → Int) (fy : Int → Int) (n : Int) (e1 : Int) (ht : okT ft) (hx1 : okC fx) (hy1 : okC fy) (hn : 1 ≤ n ∧ n ≤ 20) (he : rI e1) : Met l yX4_thin wsX4_thin { frames := 3, cells := 0, slots := 0, locals := 81 } (zPc D (TY cI cJ cT) [.ref h9, .ref h0, .int (iI e1)] [(h9, .inr (4, [.ref q9])), (q9, .inl (cI, 20, .inl (zA fs))), (h0, .inr (2, [.ref q1, .ref q2, .ref q3, .int (iI n)])), (q1, .inl (cI, 20, .inl (zA ft))), (q2, .inl (cI, 20, .inl (zA fx))), (q3, .inl (cI, 20, .inl (zA fy)))] sz) (zQv D (TY cI cJ cT) (va_A [(h9, .inr (4, [.ref q9])), (q9, .inl (cI, 20, .inl (zA fs))), (h0, .inr (2, [.ref q1, .ref q2, .ref q3, .int (iI n)])), (q1, .inl (cI, 20, .inl (zA ft))), (q2, .inl (cI, 20, .inl (zA fx))), (q3, .inl (cI, 20, .inl (zA fy)))] sz) (fun (u : (Int → Int) × Int × (Int → Int) × (Int → Int) × (Int → Int) × (Int → Int)) => (∀ i, 0 ≤ i → i < n → swP n (stepP ft fx fy e1) (u.1) i) ∧ keptP n (stepP ft fx fy e1) (u.1) (u.2.1) (u.2.2.1) ∧ (okT (u.2.2.2.1) ∧ okC (u.2.2.2.2.1) ∧ okC (u.2.2.2.2.2)) ∧ ∀ j, 0 ≤ j → j < u.2.1 → (u.2.2.2.1) j = ft ((u.2.2.1) j) ∧ (u.2.2.2.2.1) j = fx ((u.2.2.1) j) ∧ (u.2.2.2.2.2) j = fy ((u.2.2.1) j)) (fun (u : (Int → Int) × Int × (Int → Int) × (Int → Int) × (Int → Int) × (Int → Int)) => [(h9, .inr (4, [.ref q9])), (q9, .inl (cI, 20, .inl (zA u.1))), (h0, .inr (2, [.ref q1, .ref q2, .ref q3, .int (iI u.2.1)])), (q1, .inl (cI, 20, .inl (zA u.2.2.2.1))), (q2, .inl (cI, 20, .inl (zA u.2.2.2.2.1))), (q3, .inl (cI, 20, .inl (zA u.2.2.2.2.2)))])) 0 0 (va_A [(h9, .inr (4, [.ref q9])), (q9, .inl (cI, 20, .inl (zA fs))), (h0, .inr (2, [.ref q1, .ref q2, .ref q3, .int (iI n)])), (q1, .inl (cI, 20, .inl (zA ft))), (q2, .inl (cI, 20, .inl (zA fx))), (q3, .inl (cI, 20, .inl (zA fy)))] sz) := by
  refine zMv (cc := cX4_thin) (maxL := 6) (ret := none) (by decide) rfl (Nat.le_of_ble_eq_true rfl) ?_
  intro p e s m below meth c A ls hE
  obtain ⟨hx, hb, hr, hts, hown, hlocks, hml, hnm, hP, hK, hD, hA, hS, hl⟩ := hE
  have hown : s.vm.findClass RX4 = some m.cls := hown
  have hl : lv_has ls 6 [(0, .ref h9), (1, .ref h0), (2, .int (iI e1))] := hl
  have hin2 : ∀ w ∈ wsX20, w ∈ wsX4_thin := by decide +kernel
  have hin4 : ∀ w ∈ wsX40, w ∈ wsX4_thin := by decide +kernel
  obtain ⟨Q, hQ⟩ : ∃ Q, Q = MQ below (zQv D (TY cI cJ cT) A (fun (u : (Int → Int) × Int × (Int → Int) × (Int → Int) × (Int → Int) × (Int → Int)) => (∀ i, 0 ≤ i → i < n → swP n (stepP ft fx fy e1) (u.1) i) ∧ keptP n (stepP ft fx fy e1) (u.1) (u.2.1) (u.2.2.1) ∧ (okT (u.2.2.2.1) ∧ okC (u.2.2.2.2.1) ∧ okC (u.2.2.2.2.2)) ∧ ∀ j, 0 ≤ j → j < u.2.1 → (u.2.2.2.1) j = ft ((u.2.2.1) j) ∧ (u.2.2.2.2.1) j = fx ((u.2.2.1) j) ∧ (u.2.2.2.2.2) j = fy ((u.2.2.1) j)) (fun (u : (Int → Int) × Int × (Int → Int) × (Int → Int) × (Int → Int) × (Int → Int)) => [(h9, .inr (4, [.ref q9])), (q9, .inl (cI, 20, .inl (zA u.1))), (h0, .inr (2, [.ref q1, .ref q2, .ref q3, .int (iI u.2.1)])), (q1, .inl (cI, 20, .inl (zA u.2.2.2.1))), (q2, .inl (cI, 20, .inl (zA u.2.2.2.2.1))), (q3, .inl (cI, 20, .inl (zA u.2.2.2.2.2)))])) ([.ref h9, .ref h0, .int (iI e1)] : List Value).toArray s 0 0 A := ⟨_, rfl⟩
  rw [← hQ]
  refine lv_aload_n hx hb dX4_thin_0 rfl (lv_at hl 0 rfl) ?_
  refine lv_aload_n hx hb dX4_thin_1 rfl (lv_at hl 1 rfl) ?_
  refine lv_iload_n hx hb dX4_thin_2 rfl (lv_at hl 2 rfl) ?_
  refine wz_callv (wr := []) (va_runV (As := [.ref h0, .int (iI e1)]) (rest := []) ⟨hx, hb, hml, hown, hts⟩ (k_X4_countSteps l D cI cJ cT s.heap.size h9 q9 fs h0 q1 q2 q3 ft fx fy n e1 (ht) (hx1) (hy1) (hn) (he)) (cwV 2 hts gX4_thin_X4_countSteps rfl rfl rfl (by decide +kernel) ⟨Nat.le_of_ble_eq_true rfl, Nat.le_of_ble_eq_true rfl⟩) (wz_preV hK hP hD [0, 1, 2, 3, 4, 5] (by decide) rfl rfl 4 0 rfl rfl) rfl rfl hl.1 rfl (lv_room (Nat.le_of_ble_eq_true rfl)) dX4_thin_3 ⟨Nat.le_of_ble_eq_true rfl, Nat.le_of_ble_eq_true rfl⟩) hP hD hS hA [0, 1, 2, 3, 4, 5] [] rfl rfl rfl (by decide) (fun  u H locs hw3 hP hD hS => ?_)
  obtain ⟨gs, rfl⟩ : ∃ w, w = u := ⟨_, rfl⟩
  try dsimp only at hw3
  have hP : va_P D vwCl [(h9, .inr (4, [.ref q9])), (q9, .inl (cI, 20, .inl (zA gs))), (h0, .inr (2, [.ref q1, .ref q2, .ref q3, .int (iI n)])), (q1, .inl (cI, 20, .inl (zA ft))), (q2, .inl (cI, 20, .inl (zA fx))), (q3, .inl (cI, 20, .inl (zA fy)))] H := hP.sub [0, 1, 2, 3, 4, 5] rfl
  have hD : va_D A [(h9, .inr (4, [.ref q9])), (q9, .inl (cI, 20, .inl (zA gs))), (h0, .inr (2, [.ref q1, .ref q2, .ref q3, .int (iI n)])), (q1, .inl (cI, 20, .inl (zA ft))), (q2, .inl (cI, 20, .inl (zA fx))), (q3, .inl (cI, 20, .inl (zA fy)))] := hD.sub [0, 1, 2, 3, 4, 5] (by decide) rfl
  have gr : ∀ i, 0 ≤ i → i < n → 0 ≤ gs i ∧ gs i ≤ 20 := fun i h1 h2 => ⟨(hw3 i h1 h2).1, by have := (hw3 i h1 h2).2.1; omega⟩
  refine lv_aload_n hx hb dX4_thin_6 rfl (lv_at hl 1 rfl) ?_
  refine va_get (D := D) (ci := 2) (v := .int (iI n)) (C := RX2) (T := TX2) (N := 4) hx hb hts hin2 hown hK hP 2 rfl rfl 3 (by decide) (hts (.fieldLink RX4 19 "DriftLog$Row" "size" "I") (by decide +kernel)) (fun _ h9 => h9) rfl dX4_thin_7 ?_
  refine lv_istore_n (lv' := [(3, .int (iI n)), (0, .ref h9), (1, .ref h0), (2, .int (iI e1))]) hx hb dX4_thin_10 rfl hl (by decide) rfl (fun ls hl => ?_)
  refine lv_iconst (v := iI 0) hx hb dX4_thin_11 rfl ?_
  refine lv_istore (lv' := [(4, .int (iI 0)), (3, .int (iI n)), (0, .ref h9), (1, .ref h0), (2, .int (iI e1))]) hx hb dX4_thin_12 hl (by decide) rfl (fun ls hl => ?_)
  refine lv_aload_n hx hb dX4_thin_14 rfl (lv_at hl 3 rfl) ?_
  refine lv_iload_n hx hb dX4_thin_15 rfl (lv_at hl 1 rfl) ?_
  refine wz_if_le (tgt := 23) hx hb dX4_thin_16 (by decide) ⟨by omega, by omega⟩ (fun c16 => ?_) (fun c16 => ?_)
  · skip
    exfalso; omega
  · skip
    refine lv_iconst (v := iI 1) hx hb dX4_thin_19 rfl ?_
    refine lv_goto (tgt := 24) hx hb dX4_thin_20 (by decide) ?_
    refine va_put (D := D) (ci := 2) (v := .int (iI 1)) (ty := .int) (C := RX2) (T := TX2) (N := 4) hx hb hts hin2 tyX2 tyX2_ok nmX2 hown hK hP hD hS 2 rfl rfl 3 (by decide) (hts (.fieldLink RX4 19 "DriftLog$Row" "size" "I") (by decide +kernel)) (fun _ h9 => h9) rfl (by decide +kernel) rfl rfl (Nat.le_of_ble_eq_true rfl) dX4_thin_24 (fun H locs hP hD hS => ?_)
    have hP : va_P D vwCl [(h9, .inr (4, [.ref q9])), (q9, .inl (cI, 20, .inl (zA gs))), (h0, .inr (2, [.ref q1, .ref q2, .ref q3, .int (iI 1)])), (q1, .inl (cI, 20, .inl (zA ft))), (q2, .inl (cI, 20, .inl (zA fx))), (q3, .inl (cI, 20, .inl (zA fy)))] H := hP
    have hD : va_D A [(h9, .inr (4, [.ref q9])), (q9, .inl (cI, 20, .inl (zA gs))), (h0, .inr (2, [.ref q1, .ref q2, .ref q3, .int (iI 1)])), (q1, .inl (cI, 20, .inl (zA ft))), (q2, .inl (cI, 20, .inl (zA fx))), (q3, .inl (cI, 20, .inl (zA fy)))] := hD
    refine lv_iconst (v := iI 1) hx hb dX4_thin_27 rfl ?_
    refine lv_istore (lv' := [(5, .int (iI 1)), (4, .int (iI 0)), (3, .int (iI n)), (0, .ref h9), (1, .ref h0), (2, .int (iI e1))]) hx hb dX4_thin_28 hl (by decide) rfl (fun ls hl => ?_)
    have LP30 : ∀ (N30 : Nat) (to : Int) (fr : Int) (k : Int) (kp : Int → Int) (gt : Int → Int) (gx : Int → Int) (gy : Int → Int) (H : Heap) (locs : List Loc) (ls : Array Slot), ((1 ≤ to ∧ to ≤ n) ∧ (0 ≤ fr ∧ fr < to) ∧ (1 ≤ k ∧ k ≤ fr + 1) ∧ (kp 0 = 0 ∧ kp (k - 1) = fr) ∧ (∀ j, 0 ≤ j → j < k - 1 → nextP n (stepP ft fx fy e1) gs (kp j) (kp (j + 1))) ∧ (∀ t, fr < t → t < to → ¬ (gs t = gs fr - 1 ∧ (stepP ft fx fy e1) fr t)) ∧ (okT gt ∧ okC gx ∧ okC gy) ∧ (∀ j, 0 ≤ j → j < k → gt j = ft (kp j) ∧ gx j = fx (kp j) ∧ gy j = fy (kp j)) ∧ (∀ j, fr ≤ j → gt j = ft j ∧ gx j = fx j ∧ gy j = fy j)) → (n - to) < (N30 : Int) → va_P D vwCl [(h9, .inr (4, [.ref q9])), (q9, .inl (cI, 20, .inl (zA gs))), (h0, .inr (2, [.ref q1, .ref q2, .ref q3, .int (iI k)])), (q1, .inl (cI, 20, .inl (zA gt))), (q2, .inl (cI, 20, .inl (zA gx))), (q3, .inl (cI, 20, .inl (zA gy)))] H → va_D A [(h9, .inr (4, [.ref q9])), (q9, .inl (cI, 20, .inl (zA gs))), (h0, .inr (2, [.ref q1, .ref q2, .ref q3, .int (iI k)])), (q1, .inl (cI, 20, .inl (zA gt))), (q2, .inl (cI, 20, .inl (zA gx))), (q3, .inl (cI, 20, .inl (zA gy)))] → va_S A s.heap H locs → lv_has ls 6 [(0, .ref h9), (1, .ref h0), (2, .int (iI e1)), (3, .int (iI n)), (4, .int (iI fr)), (5, .int (iI to))] → W p l e { frames := 3, cells := 0, slots := 0, locals := 81 } s m ([.ref h9, .ref h0, .int (iI e1)] : List Value).toArray below meth c H locs 0 0 Q (F0 m 30 ls []) := by
      intro N30
      induction N30 with
      | zero =>
        intro to fr k kp gt gx gy H locs ls hI hm
        obtain ⟨a1, a2, a3, a4, a5, a6, a7, a8, a9⟩ := hI
        exfalso; omega
      | succ N30 ih30 =>
        intro to fr k kp gt gx gy H locs ls hI hm30 hP hD hS hl
        obtain ⟨a1, a2, a3, a4, a5, a6, a7, a8, a9⟩ := hI
        refine lv_iload hx hb dX4_thin_30 (lv_at hl 5 rfl) ?_
        refine lv_iload_n hx hb dX4_thin_32 rfl (lv_at hl 3 rfl) ?_
        refine wz_icmp_ge (tgt := 102) hx hb dX4_thin_33 (by decide) ⟨by omega, by omega⟩ ⟨by omega, by omega⟩ (fun c33 => ?_) (fun c33 => ?_)
        · skip
          rw [hQ]
          exact wz_retv (tys := TY cI cJ cT) (gs, k, kp, gt, gx, gy) hx hb hr hlocks hK hP hD hS (by (try dsimp only); exact (⟨hw3, ⟨a3.1, by omega, a4.1, a5, fun t h1 h2 => by rw [a4.2] at h1 ⊢; exact a6 t h1 (by omega)⟩, a7, a8⟩)) dX4_thin_102
        · skip
          refine lv_aload_n hx hb dX4_thin_36 rfl (lv_at hl 0 rfl) ?_
          refine va_get (D := D) (ci := 4) (v := .ref q9) (C := RX4) (T := TX4) (N := 1) hx hb hts hin4 hown hK hP 0 rfl rfl 0 (by decide) (hts (.fieldLink RX4 9 "DriftLog$Thinner" "steps" "[I") (by decide +kernel)) (fun _ h9 => h9) rfl dX4_thin_37 ?_
          refine lv_iload hx hb dX4_thin_40 (lv_at hl 5 rfl) ?_
          refine wz_iald (tys := TY cI cJ cT) hx hb hK hP 1 0 rfl rfl (by decide) (by constructor <;> omega) dX4_thin_42 ?_
          refine lv_aload_n hx hb dX4_thin_43 rfl (lv_at hl 0 rfl) ?_
          refine va_get (D := D) (ci := 4) (v := .ref q9) (C := RX4) (T := TX4) (N := 1) hx hb hts hin4 hown hK hP 0 rfl rfl 0 (by decide) (hts (.fieldLink RX4 9 "DriftLog$Thinner" "steps" "[I") (by decide +kernel)) (fun _ h9 => h9) rfl dX4_thin_44 ?_
          refine lv_iload hx hb dX4_thin_47 (lv_at hl 4 rfl) ?_
          refine wz_iald (tys := TY cI cJ cT) hx hb hK hP 1 0 rfl rfl (by decide) (by constructor <;> omega) dX4_thin_49 ?_
          refine lv_iconst (v := iI 1) hx hb dX4_thin_50 rfl ?_
          refine wz_isub hx hb dX4_thin_51 ?_
          refine wz_icmp_ne (tgt := 96) hx hb dX4_thin_52 (by decide) (by have := gr to (by omega) (by omega); constructor <;> omega) (by have := gr fr (by omega) (by omega); constructor <;> omega) (fun c52 => ?_) (fun c52 => ?_)
          · skip
            refine lv_iinc (v := iI (to + 1)) (lv' := [(5, .int (iI (to + 1))), (0, .ref h9), (1, .ref h0), (2, .int (iI e1)), (3, .int (iI n)), (4, .int (iI fr))]) hx hb dX4_thin_96 hl (k := 5) rfl (iI_add _ _) (by decide) rfl (fun ls hl => ?_)
            refine lv_goto (tgt := 30) hx hb dX4_thin_99 (by decide) ?_
            exact ih30 (to + 1) fr k kp gt gx gy _ _ _ ⟨(by constructor <;> omega), (by constructor <;> omega), (a3), (a4), (a5), (fun t h1 h2 q => by rcases Int.lt_or_eq_of_le (Int.le_of_lt_add_one h2) with g | g; exact a6 t h1 g q; subst g; first | (exact c64 (se.mpr q.2)) | omega), (a7), (a8), (a9)⟩ (by omega) hP hD hS (lv_sub hl [1, 2, 3, 4, 5, 0] rfl)
          · skip
            refine lv_aload_n hx hb dX4_thin_55 rfl (lv_at hl 1 rfl) ?_
            refine lv_iload hx hb dX4_thin_56 (lv_at hl 4 rfl) ?_
            refine lv_iload hx hb dX4_thin_58 (lv_at hl 5 rfl) ?_
            refine lv_iload_n hx hb dX4_thin_60 rfl (lv_at hl 2 rfl) ?_
            refine wz_calli (wr := [(h9, .inr (4, [.ref q9])), (q9, .inl (cI, 20, .inl (zA gs)))]) (va_runS (As := [.ref h0, .int (iI fr), .int (iI to), .int (iI e1)]) (rest := []) ⟨hx, hb, hml, hown, hts⟩ (k_X4_canStep l D cI cJ cT H.size h0 q1 q2 q3 gt gx gy k fr to e1 (a7.1) (a7.2.1) (a7.2.2) (by omega) (by omega) (he)) (va_cwS 4 hts gX4_thin_X4_canStep rfl rfl rfl (by decide +kernel) ⟨Nat.le_of_ble_eq_true rfl, Nat.le_of_ble_eq_true rfl⟩) (wz_preS hK hP hD [2, 3, 4, 5] (by decide) rfl rfl) rfl rfl hl.1 rfl (lv_room (Nat.le_of_ble_eq_true rfl)) dX4_thin_61 ⟨Nat.le_of_ble_eq_true rfl, Nat.le_of_ble_eq_true rfl⟩) hP hD hS hA [2, 3, 4, 5] [0, 1] rfl rfl rfl (by decide) (fun z61 u H locs hw61 hP hD hS => ?_)
            have hP : va_P D vwCl [(h9, .inr (4, [.ref q9])), (q9, .inl (cI, 20, .inl (zA gs))), (h0, .inr (2, [.ref q1, .ref q2, .ref q3, .int (iI k)])), (q1, .inl (cI, 20, .inl (zA gt))), (q2, .inl (cI, 20, .inl (zA gx))), (q3, .inl (cI, 20, .inl (zA gy)))] H := hP.sub [0, 1, 2, 3, 4, 5] rfl
            have hD : va_D A [(h9, .inr (4, [.ref q9])), (q9, .inl (cI, 20, .inl (zA gs))), (h0, .inr (2, [.ref q1, .ref q2, .ref q3, .int (iI k)])), (q1, .inl (cI, 20, .inl (zA gt))), (q2, .inl (cI, 20, .inl (zA gx))), (q3, .inl (cI, 20, .inl (zA gy)))] := hD.sub [0, 1, 2, 3, 4, 5] (by decide) rfl
            subst hw61
            have se : stepP gt gx gy e1 fr to ↔ stepP ft fx fy e1 fr to := stepP_c (by omega) (fun i g1 _ => (a9 i g1).1) (fun i g1 _ => (a9 i g1).2.1) (fun i g1 _ => (a9 i g1).2.2)
            refine wz_ifb_eq (tgt := 96) hx hb dX4_thin_64 (by decide) (fun c64 => ?_) (fun c64 => ?_)
            · skip
              refine lv_iinc (v := iI (to + 1)) (lv' := [(5, .int (iI (to + 1))), (0, .ref h9), (1, .ref h0), (2, .int (iI e1)), (3, .int (iI n)), (4, .int (iI fr))]) hx hb dX4_thin_96 hl (k := 5) rfl (iI_add _ _) (by decide) rfl (fun ls hl => ?_)
              refine lv_goto (tgt := 30) hx hb dX4_thin_99 (by decide) ?_
              exact ih30 (to + 1) fr k kp gt gx gy _ _ _ ⟨(by constructor <;> omega), (by constructor <;> omega), (a3), (a4), (a5), (fun t h1 h2 q => by rcases Int.lt_or_eq_of_le (Int.le_of_lt_add_one h2) with g | g; exact a6 t h1 g q; subst g; first | (exact c64 (se.mpr q.2)) | omega), (a7), (a8), (a9)⟩ (by omega) hP hD hS (lv_sub hl [1, 2, 3, 4, 5, 0] rfl)
            · skip
              refine lv_aload_n hx hb dX4_thin_67 rfl (lv_at hl 1 rfl) ?_
              refine lv_aload_n hx hb dX4_thin_68 rfl (lv_at hl 1 rfl) ?_
              refine va_get (D := D) (ci := 2) (v := .ref q1) (C := RX2) (T := TX2) (N := 4) hx hb hts hin2 hown hK hP 2 rfl rfl 0 (by decide) (hts (.fieldLink RX4 29 "DriftLog$Row" "times" "[I") (by decide +kernel)) (fun _ h9 => h9) rfl dX4_thin_69 ?_
              refine lv_iload hx hb dX4_thin_72 (lv_at hl 5 rfl) ?_
              refine wz_iald (tys := TY cI cJ cT) hx hb hK hP 3 0 rfl rfl (by decide) (by constructor <;> omega) dX4_thin_74 ?_
              refine lv_aload_n hx hb dX4_thin_75 rfl (lv_at hl 1 rfl) ?_
              refine va_get (D := D) (ci := 2) (v := .ref q2) (C := RX2) (T := TX2) (N := 4) hx hb hts hin2 hown hK hP 2 rfl rfl 1 (by decide) (hts (.fieldLink RX4 32 "DriftLog$Row" "xs" "[I") (by decide +kernel)) (fun _ h9 => h9) rfl dX4_thin_76 ?_
              refine lv_iload hx hb dX4_thin_79 (lv_at hl 5 rfl) ?_
              refine wz_iald (tys := TY cI cJ cT) hx hb hK hP 4 0 rfl rfl (by decide) (by constructor <;> omega) dX4_thin_81 ?_
              refine lv_aload_n hx hb dX4_thin_82 rfl (lv_at hl 1 rfl) ?_
              refine va_get (D := D) (ci := 2) (v := .ref q3) (C := RX2) (T := TX2) (N := 4) hx hb hts hin2 hown hK hP 2 rfl rfl 2 (by decide) (hts (.fieldLink RX4 35 "DriftLog$Row" "ys" "[I") (by decide +kernel)) (fun _ h9 => h9) rfl dX4_thin_83 ?_
              refine lv_iload hx hb dX4_thin_86 (lv_at hl 5 rfl) ?_
              refine wz_iald (tys := TY cI cJ cT) hx hb hK hP 5 0 rfl rfl (by decide) (by constructor <;> omega) dX4_thin_88 ?_
              refine wz_callv (wr := [(h9, .inr (4, [.ref q9])), (q9, .inl (cI, 20, .inl (zA gs)))]) (va_runV (As := [.int (iI (gt to)), .int (iI (gx to)), .int (iI (gy to))]) (rest := []) ⟨hx, hb, hml, hown, hts⟩ (k_X2_append l D cI cJ cT H.size h0 q1 q2 q3 gt gx gy k (gt to) (gx to) (gy to) (by omega) (by omega)) (cwV 3 hts gX4_thin_X2_append rfl rfl rfl (by decide +kernel) ⟨Nat.le_of_ble_eq_true rfl, Nat.le_of_ble_eq_true rfl⟩) (wz_preV hK hP hD [2, 3, 4, 5] (by decide) rfl rfl 2 2 rfl rfl) rfl rfl hl.1 rfl (lv_room (Nat.le_of_ble_eq_true rfl)) dX4_thin_89 ⟨Nat.le_of_ble_eq_true rfl, Nat.le_of_ble_eq_true rfl⟩) hP hD hS hA [2, 3, 4, 5] [0, 1] rfl rfl rfl (by decide) (fun  u H locs hw89 hP hD hS => ?_)
              have hP : va_P D vwCl [(h9, .inr (4, [.ref q9])), (q9, .inl (cI, 20, .inl (zA gs))), (h0, .inr (2, [.ref q1, .ref q2, .ref q3, .int (iI (k + 1))])), (q1, .inl (cI, 20, .inl (zA (uZ gt k (gt to))))), (q2, .inl (cI, 20, .inl (zA (uZ gx k (gx to))))), (q3, .inl (cI, 20, .inl (zA (uZ gy k (gy to)))))] H := hP.sub [0, 1, 2, 3, 4, 5] rfl
              have hD : va_D A [(h9, .inr (4, [.ref q9])), (q9, .inl (cI, 20, .inl (zA gs))), (h0, .inr (2, [.ref q1, .ref q2, .ref q3, .int (iI (k + 1))])), (q1, .inl (cI, 20, .inl (zA (uZ gt k (gt to))))), (q2, .inl (cI, 20, .inl (zA (uZ gx k (gx to))))), (q3, .inl (cI, 20, .inl (zA (uZ gy k (gy to)))))] := hD.sub [0, 1, 2, 3, 4, 5] (by decide) rfl
              refine lv_iload hx hb dX4_thin_92 (lv_at hl 5 rfl) ?_
              refine lv_istore (lv' := [(4, .int (iI to)), (0, .ref h9), (1, .ref h0), (2, .int (iI e1)), (3, .int (iI n)), (5, .int (iI to))]) hx hb dX4_thin_94 hl (by decide) rfl (fun ls hl => ?_)
              refine lv_iinc (v := iI (to + 1)) (lv' := [(5, .int (iI (to + 1))), (4, .int (iI to)), (0, .ref h9), (1, .ref h0), (2, .int (iI e1)), (3, .int (iI n))]) hx hb dX4_thin_96 hl (k := 5) rfl (iI_add _ _) (by decide) rfl (fun ls hl => ?_)
              refine lv_goto (tgt := 30) hx hb dX4_thin_99 (by decide) ?_
              exact ih30 (to + 1) to (k + 1) (uZ kp k to) (uZ gt k (gt to)) (uZ gx k (gx to)) (uZ gy k (gy to)) _ _ _ ⟨(by constructor <;> omega), (by constructor <;> omega), (by constructor <;> omega), (⟨by rw [uZ_n _ (by omega)]; exact a4.1, by rw [show k + 1 - 1 = k by omega, uZ_s]⟩), (fun j h1 h2 => by
                rcases Int.lt_or_eq_of_le (show j ≤ k - 1 by omega) with g | g
                · rw [uZ_n _ (show j ≠ k by omega), uZ_n _ (show j + 1 ≠ k by omega)]
                  exact a5 j h1 g
                · subst g
                  rw [uZ_n _ (show k - 1 ≠ k by omega), show k - 1 + 1 = k by omega, uZ_s, a4.2]
                  exact ⟨by omega, by omega, by omega, se.mp c64, a6⟩), (fun t h1 h2 => absurd h2 (by omega)), (⟨okT_u a7.1 (a7.1 to).1 (a7.1 to).2, okC_u a7.2.1 (a7.2.1 to).1 (a7.2.1 to).2, okC_u a7.2.2 (a7.2.2 to).1 (a7.2.2 to).2⟩), (fun j h1 h2 => by
                rcases Int.lt_or_eq_of_le (show j ≤ k by omega) with g | g
                · rw [uZ_n _ (show j ≠ k by omega), uZ_n _ (show j ≠ k by omega), uZ_n _ (show j ≠ k by omega), uZ_n _ (show j ≠ k by omega)]
                  exact a8 j h1 g
                · subst g
                  rw [uZ_s, uZ_s, uZ_s, uZ_s]
                  exact a9 to (by omega)), (fun j h1 => by
                rcases Int.lt_or_eq_of_le (show k ≤ j by omega) with g | g
                · rw [uZ_n _ (show j ≠ k by omega), uZ_n _ (show j ≠ k by omega), uZ_n _ (show j ≠ k by omega)]
                  exact a9 j (by omega)
                · subst g
                  rw [uZ_s, uZ_s, uZ_s]
                  obtain rfl : to = k := by omega
                  exact a9 to (by omega))⟩ (by omega) hP hD hS (lv_sub hl [2, 3, 4, 5, 1, 0] rfl)
    exact LP30 ((n - 1).toNat + 1) 1 0 1 (fun j => j) ft fx fy _ _ _ ⟨(by constructor <;> omega), (by decide), (by decide), (⟨rfl, rfl⟩), (fun j h1 h2 => absurd h2 (by omega)), (fun t h1 h2 => absurd h2 (by omega)), (⟨ht, hx1, hy1⟩), (fun j h1 h2 => ⟨rfl, rfl, rfl⟩), (fun j h1 => ⟨rfl, rfl, rfl⟩)⟩ (by omega) hP hD hS (lv_sub hl [3, 4, 5, 2, 1, 0] rfl)
