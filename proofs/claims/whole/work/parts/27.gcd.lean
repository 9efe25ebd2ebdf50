set_option maxHeartbeats 4000000 in
set_option maxRecDepth 100000 in
theorem k_X6_commonDivisor (l : Launch) (D : va_G) (cI cJ cT : ClassId) (sz : Nat) (a : Int) (b : Int) (ha : 0 ≤ a ∧ a ≤ 9223372036854775807) (hb1 : 0 < b ∧ b ≤ 9223372036854775807) : Met l yX6_commonDivisor wsX6_commonDivisor { frames := 0, cells := 0, slots := 0, locals := 0 } (zPc D (TY cI cJ cT) [.long (lI a), .long (lI b)] [] sz) (zQl D (TY cI cJ cT) (va_A [] sz) (fun (z : Int) (u : Unit) => z = (gZ a b)) (fun (u : Unit) => [])) 0 0 (va_A [] sz) := by
  refine zMl (cc := cX6_commonDivisor) (maxL := 11) (ret := (some .long)) (by decide) rfl (Nat.le_of_ble_eq_true rfl) ?_
  intro p e s m below meth c A ls hE
  obtain ⟨hx, hb, hr, hts, hown, hlocks, hml, hnm, hP, hK, hD, hA, hS, hl⟩ := hE
  have hown : s.vm.findClass RX6 = some m.cls := hown
  have hl : lv_has ls 11 [(0, .long (lI a)), (2, .long (lI b))] := hl
  obtain ⟨Q, hQ⟩ : ∃ Q, Q = MQ below (zQl D (TY cI cJ cT) A (fun (z : Int) (u : Unit) => z = (gZ a b)) (fun (u : Unit) => [])) ([.long (lI a), .long (lI b)] : List Value).toArray s 0 0 A := ⟨_, rfl⟩
  rw [← hQ]
  refine lv_lload_n hx hb dX6_commonDivisor_0 rfl (lv_at hl 0 rfl) ?_
  refine lv_lstore (lv' := [(4, .long (lI a)), (0, .long (lI a)), (2, .long (lI b))]) hx hb dX6_commonDivisor_1 hl (by decide) rfl (fun ls hl => ?_)
  refine lv_lload_n hx hb dX6_commonDivisor_3 rfl (lv_at hl 2 rfl) ?_
  refine lv_lstore (lv' := [(6, .long (lI b)), (4, .long (lI a)), (0, .long (lI a)), (2, .long (lI b))]) hx hb dX6_commonDivisor_4 hl (by decide) rfl (fun ls hl => ?_)
  refine lv_iconst (v := iI 0) hx hb dX6_commonDivisor_6 rfl ?_
  refine lv_istore (lv' := [(8, .int (iI 0)), (6, .long (lI b)), (4, .long (lI a)), (0, .long (lI a)), (2, .long (lI b))]) hx hb dX6_commonDivisor_7 hl (by decide) rfl (fun ls hl => ?_)
  have LP9 : ∀ (N9 : Nat) (k : Int) (lg : Int) (sm : Int) (H : Heap) (locs : List Loc) (ls : Array Slot), ((0 ≤ k ∧ k ≤ 200) ∧ euP k lg sm ∧ gZ lg sm = gZ a b) → (200 - k) < (N9 : Int) → va_P D vwCl [] H → va_D A [] → va_S A s.heap H locs → lv_has ls 11 [(0, .long (lI a)), (2, .long (lI b)), (4, .long (lI lg)), (6, .long (lI sm)), (8, .int (iI k))] → W p l e { frames := 0, cells := 0, slots := 0, locals := 0 } s m ([.long (lI a), .long (lI b)] : List Value).toArray below meth c H locs 0 0 Q (F0 m 9 ls []) := by
    intro N9
    induction N9 with
    | zero =>
      intro k lg sm H locs ls hI hm
      obtain ⟨a1, a2, a3⟩ := hI
      exfalso; omega
    | succ N9 ih9 =>
      intro k lg sm H locs ls hI hm9 hP hD hS hl
      obtain ⟨a1, a2, a3⟩ := hI
      obtain ⟨e1, e2, e3, e4, -⟩ := id a2
      refine lv_iload hx hb dX6_commonDivisor_9 (lv_at hl 4 rfl) ?_
      refine lv_sipush (v := iI 200) hx hb dX6_commonDivisor_11 (by decide) ?_
      refine wz_icmp_ge (tgt := 45) hx hb dX6_commonDivisor_14 (by decide) ⟨by omega, by omega⟩ (by decide) (fun c14 => ?_) (fun c14 => ?_)
      · skip
        refine lv_lload hx hb dX6_commonDivisor_45 (lv_at hl 2 rfl) ?_
        rw [hQ]
        exact wz_retl (tys := TY cI cJ cT) () hx hb hr hlocks hK hP hD hS (by first | (rw [← a3, c21, gZ_0 e1]; done) | (have q : k = 200 := (by omega); subst q; rw [← a3, euP_end a2, gZ_0 e1])) dX6_commonDivisor_47
      · skip
        refine lv_lload hx hb dX6_commonDivisor_17 (lv_at hl 3 rfl) ?_
        refine lv_lconst (v := lI 0) hx hb dX6_commonDivisor_19 (by decide) ?_
        refine W.lcmp hx hb dX6_commonDivisor_20 ?_
        refine wz_lif_eq (tgt := 45) hx hb dX6_commonDivisor_21 (by decide) ⟨by omega, by omega⟩ (by decide) (fun c21 => ?_) (fun c21 => ?_)
        · skip
          refine lv_lload hx hb dX6_commonDivisor_45 (lv_at hl 2 rfl) ?_
          rw [hQ]
          exact wz_retl (tys := TY cI cJ cT) () hx hb hr hlocks hK hP hD hS (by first | (rw [← a3, c21, gZ_0 e1]; done) | (have q : k = 200 := (by omega); subst q; rw [← a3, euP_end a2, gZ_0 e1])) dX6_commonDivisor_47
        · skip
          refine lv_lload hx hb dX6_commonDivisor_24 (lv_at hl 2 rfl) ?_
          refine lv_lload hx hb dX6_commonDivisor_26 (lv_at hl 3 rfl) ?_
          refine lv_lrem hx hb dX6_commonDivisor_28 (lI_ne0 ⟨by omega, by omega⟩ c21) ?_
          refine wz_topl (y := lI (lg % sm)) (by rw [lI_rem ⟨by omega, by omega⟩ ⟨by omega, by omega⟩ (by left; omega), Int.tmod_eq_emod_of_nonneg e1]) ?_
          refine lv_lstore (lv' := [(9, .long (lI (lg % sm))), (0, .long (lI a)), (2, .long (lI b)), (4, .long (lI lg)), (6, .long (lI sm)), (8, .int (iI k))]) hx hb dX6_commonDivisor_29 hl (by decide) rfl (fun ls hl => ?_)
          refine lv_lload hx hb dX6_commonDivisor_31 (lv_at hl 4 rfl) ?_
          refine lv_lstore (lv' := [(4, .long (lI sm)), (9, .long (lI (lg % sm))), (0, .long (lI a)), (2, .long (lI b)), (6, .long (lI sm)), (8, .int (iI k))]) hx hb dX6_commonDivisor_33 hl (by decide) rfl (fun ls hl => ?_)
          refine lv_lload hx hb dX6_commonDivisor_35 (lv_at hl 1 rfl) ?_
          refine lv_lstore (lv' := [(6, .long (lI (lg % sm))), (4, .long (lI sm)), (9, .long (lI (lg % sm))), (0, .long (lI a)), (2, .long (lI b)), (8, .int (iI k))]) hx hb dX6_commonDivisor_37 hl (by decide) rfl (fun ls hl => ?_)
          refine lv_iinc (v := iI (k + 1)) (lv' := [(8, .int (iI (k + 1))), (6, .long (lI (lg % sm))), (4, .long (lI sm)), (9, .long (lI (lg % sm))), (0, .long (lI a)), (2, .long (lI b))]) hx hb dX6_commonDivisor_39 hl (k := 5) rfl (iI_add _ _) (by decide) rfl (fun ls hl => ?_)
          refine lv_goto (tgt := 9) hx hb dX6_commonDivisor_42 (by decide) ?_
          exact ih9 (k + 1) sm (lg % sm) _ _ _ ⟨(by constructor <;> omega), (euP_next a1.1 a2 c21), (by rw [gZ_step a2.1 (by have := a2.2.1; omega)]; exact a3)⟩ (by omega) hP hD hS (lv_sub hl [4, 5, 2, 1, 0] rfl)
  exact LP9 (Int.toNat (200 - 0) + 1) 0 a b _ _ _ ⟨(by decide), (⟨ha.1, by omega, ha.2, hb1.2, Or.inl rfl⟩), (rfl)⟩ (by omega) hP hD hS (lv_sub hl [3, 4, 2, 1, 0] rfl)
set_option maxHeartbeats 4000000 in
set_option maxRecDepth 100000 in
theorem k_X6_lowestTerm (l : Launch) (D : va_G) (cI cJ cT : ClassId) (sz : Nat) (a : Int) (b : Int) (w : Int) (ha : -9223372036854775807 ≤ a ∧ a ≤ 9223372036854775807) (hb1 : 0 < b ∧ b ≤ 9223372036854775807) (hw1 : rI w) : Met l yX6_lowestTerm wsX6_lowestTerm { frames := 1, cells := 0, slots := 0, locals := 30 } (zPc D (TY cI cJ cT) [.long (lI a), .long (lI b), .int (iI w)] [] sz) (zQl D (TY cI cJ cT) (va_A [] sz) (fun (z : Int) (u : Unit) => z = (loT a b w)) (fun (u : Unit) => [])) 0 0 (va_A [] sz) := by
  refine zMl (cc := cX6_lowestTerm) (maxL := 9) (ret := (some .long)) (by decide) rfl (Nat.le_of_ble_eq_true rfl) ?_
  intro p e s m below meth c A ls hE
  obtain ⟨hx, hb, hr, hts, hown, hlocks, hml, hnm, hP, hK, hD, hA, hS, hl⟩ := hE
  have hown : s.vm.findClass RX6 = some m.cls := hown
  have hl : lv_has ls 9 [(0, .long (lI a)), (2, .long (lI b)), (4, .int (iI w))] := hl
  obtain ⟨Q, hQ⟩ : ∃ Q, Q = MQ below (zQl D (TY cI cJ cT) A (fun (z : Int) (u : Unit) => z = (loT a b w)) (fun (u : Unit) => [])) ([.long (lI a), .long (lI b), .int (iI w)] : List Value).toArray s 0 0 A := ⟨_, rfl⟩
  rw [← hQ]
  refine lv_lload_n hx hb dX6_lowestTerm_0 rfl (lv_at hl 0 rfl) ?_
  refine lv_lconst (v := lI 0) hx hb dX6_lowestTerm_1 (by decide) ?_
  refine W.lcmp hx hb dX6_lowestTerm_2 ?_
  refine wz_lif_ge (tgt := 11) hx hb dX6_lowestTerm_3 (by decide) ⟨by omega, by omega⟩ (by decide) (fun c3 => ?_) (fun c3 => ?_)
  · skip
    refine lv_lload_n hx hb dX6_lowestTerm_11 rfl (lv_at hl 0 rfl) ?_
    refine lv_lload_n hx hb dX6_lowestTerm_12 rfl (lv_at hl 1 rfl) ?_
    refine wz_calll (wr := []) (va_runS (As := [.long (lI a), .long (lI b)]) (rest := []) ⟨hx, hb, hml, hown, hts⟩ (k_X6_commonDivisor l D cI cJ cT s.heap.size a b (by constructor <;> omega) (hb1)) (va_cwS 2 hts gX6_lowestTerm_X6_commonDivisor rfl rfl rfl (by decide +kernel) ⟨Nat.le_of_ble_eq_true rfl, Nat.le_of_ble_eq_true rfl⟩) (wz_preS hK hP hD [] (by decide) rfl rfl) rfl rfl hl.1 rfl (lv_room (Nat.le_of_ble_eq_true rfl)) dX6_lowestTerm_13 ⟨Nat.le_of_ble_eq_true rfl, Nat.le_of_ble_eq_true rfl⟩) hP hD hS hA [] [] rfl rfl rfl (by decide) (fun z13 u H locs hw13 hP hD hS => ?_)
    have hP : va_P D vwCl [] H := hP.sub [] rfl
    have hD : va_D A [] := hD.sub [] (by decide) rfl
    subst hw13
    have gp : 0 < gZ a b ∧ gZ a b ≤ b := ⟨gZ_pos hb1.1, gZ_le hb1.1⟩
    refine lv_lstore (lv' := [(5, .long (lI (gZ a b))), (0, .long (lI a)), (2, .long (lI b)), (4, .int (iI w))]) hx hb dX6_lowestTerm_16 hl (by decide) rfl (fun ls hl => ?_)
    refine lv_iload hx hb dX6_lowestTerm_18 (lv_at hl 3 rfl) ?_
    refine wz_if_eq (tgt := 27) hx hb dX6_lowestTerm_20 (by decide) (hw1) (fun c20 => ?_) (fun c20 => ?_)
    · skip
      refine lv_lload_n hx hb dX6_lowestTerm_27 rfl (lv_at hl 1 rfl) ?_
      refine lv_lstore (lv' := [(7, .long (lI a)), (5, .long (lI (gZ a b))), (0, .long (lI a)), (2, .long (lI b)), (4, .int (iI w))]) hx hb dX6_lowestTerm_28 hl (by decide) rfl (fun ls hl => ?_)
      refine lv_lload hx hb dX6_lowestTerm_30 (lv_at hl 1 rfl) ?_
      refine lv_lconst (v := lI 0) hx hb dX6_lowestTerm_32 (by decide) ?_
      refine W.lcmp hx hb dX6_lowestTerm_33 ?_
      refine wz_lif_le (tgt := 45) hx hb dX6_lowestTerm_34 (by decide) ⟨by omega, by omega⟩ (by decide) (fun c34 => ?_) (fun c34 => ?_)
      · skip
        exfalso; omega
      · skip
        refine lv_lload hx hb dX6_lowestTerm_37 (lv_at hl 0 rfl) ?_
        refine lv_lload hx hb dX6_lowestTerm_39 (lv_at hl 1 rfl) ?_
        refine lv_ldiv hx hb dX6_lowestTerm_41 (lI_ne0 ⟨by omega, by omega⟩ (by omega)) ?_
        refine wz_topl (y := lI (a.tdiv (gZ a b))) (lI_div ⟨by omega, by omega⟩ ⟨by omega, by omega⟩ (by left; omega)) ?_
        refine lv_goto (tgt := 47) hx hb dX6_lowestTerm_42 (by decide) ?_
        rw [hQ]
        exact wz_retl (tys := TY cI cJ cT) () hx hb hr hlocks hK hP hD hS (by unfold loT; first | rw [if_pos c20] | rw [if_neg c20]) dX6_lowestTerm_47
    · skip
      refine lv_lload_n hx hb dX6_lowestTerm_23 rfl (lv_at hl 2 rfl) ?_
      refine lv_goto (tgt := 28) hx hb dX6_lowestTerm_24 (by decide) ?_
      refine lv_lstore (lv' := [(7, .long (lI b)), (5, .long (lI (gZ a b))), (0, .long (lI a)), (2, .long (lI b)), (4, .int (iI w))]) hx hb dX6_lowestTerm_28 hl (by decide) rfl (fun ls hl => ?_)
      refine lv_lload hx hb dX6_lowestTerm_30 (lv_at hl 1 rfl) ?_
      refine lv_lconst (v := lI 0) hx hb dX6_lowestTerm_32 (by decide) ?_
      refine W.lcmp hx hb dX6_lowestTerm_33 ?_
      refine wz_lif_le (tgt := 45) hx hb dX6_lowestTerm_34 (by decide) ⟨by omega, by omega⟩ (by decide) (fun c34 => ?_) (fun c34 => ?_)
      · skip
        exfalso; omega
      · skip
        refine lv_lload hx hb dX6_lowestTerm_37 (lv_at hl 0 rfl) ?_
        refine lv_lload hx hb dX6_lowestTerm_39 (lv_at hl 1 rfl) ?_
        refine lv_ldiv hx hb dX6_lowestTerm_41 (lI_ne0 ⟨by omega, by omega⟩ (by omega)) ?_
        refine wz_topl (y := lI (b.tdiv (gZ a b))) (lI_div ⟨by omega, by omega⟩ ⟨by omega, by omega⟩ (by left; omega)) ?_
        refine lv_goto (tgt := 47) hx hb dX6_lowestTerm_42 (by decide) ?_
        rw [hQ]
        exact wz_retl (tys := TY cI cJ cT) () hx hb hr hlocks hK hP hD hS (by unfold loT; first | rw [if_pos c20] | rw [if_neg c20]) dX6_lowestTerm_47
  · skip
    refine lv_lload_n hx hb dX6_lowestTerm_6 rfl (lv_at hl 0 rfl) ?_
    refine wz_lneg hx hb dX6_lowestTerm_7 ?_
    refine lv_goto (tgt := 12) hx hb dX6_lowestTerm_8 (by decide) ?_
    refine lv_lload_n hx hb dX6_lowestTerm_12 rfl (lv_at hl 1 rfl) ?_
    refine wz_calll (wr := []) (va_runS (As := [.long (lI (-a)), .long (lI b)]) (rest := []) ⟨hx, hb, hml, hown, hts⟩ (k_X6_commonDivisor l D cI cJ cT s.heap.size (-a) b (by constructor <;> omega) (hb1)) (va_cwS 2 hts gX6_lowestTerm_X6_commonDivisor rfl rfl rfl (by decide +kernel) ⟨Nat.le_of_ble_eq_true rfl, Nat.le_of_ble_eq_true rfl⟩) (wz_preS hK hP hD [] (by decide) rfl rfl) rfl rfl hl.1 rfl (lv_room (Nat.le_of_ble_eq_true rfl)) dX6_lowestTerm_13 ⟨Nat.le_of_ble_eq_true rfl, Nat.le_of_ble_eq_true rfl⟩) hP hD hS hA [] [] rfl rfl rfl (by decide) (fun z13 u H locs hw13 hP hD hS => ?_)
    have hP : va_P D vwCl [] H := hP.sub [] rfl
    have hD : va_D A [] := hD.sub [] (by decide) rfl
    subst hw13
    have gp : 0 < gZ (-a) b ∧ gZ (-a) b ≤ b := ⟨gZ_pos hb1.1, gZ_le hb1.1⟩
    rw [gZ_neg] at gp
    rw [gZ_neg a b]
    refine lv_lstore (lv' := [(5, .long (lI (gZ a b))), (0, .long (lI a)), (2, .long (lI b)), (4, .int (iI w))]) hx hb dX6_lowestTerm_16 hl (by decide) rfl (fun ls hl => ?_)
    refine lv_iload hx hb dX6_lowestTerm_18 (lv_at hl 3 rfl) ?_
    refine wz_if_eq (tgt := 27) hx hb dX6_lowestTerm_20 (by decide) (hw1) (fun c20 => ?_) (fun c20 => ?_)
    · skip
      refine lv_lload_n hx hb dX6_lowestTerm_27 rfl (lv_at hl 1 rfl) ?_
      refine lv_lstore (lv' := [(7, .long (lI a)), (5, .long (lI (gZ a b))), (0, .long (lI a)), (2, .long (lI b)), (4, .int (iI w))]) hx hb dX6_lowestTerm_28 hl (by decide) rfl (fun ls hl => ?_)
      refine lv_lload hx hb dX6_lowestTerm_30 (lv_at hl 1 rfl) ?_
      refine lv_lconst (v := lI 0) hx hb dX6_lowestTerm_32 (by decide) ?_
      refine W.lcmp hx hb dX6_lowestTerm_33 ?_
      refine wz_lif_le (tgt := 45) hx hb dX6_lowestTerm_34 (by decide) ⟨by omega, by omega⟩ (by decide) (fun c34 => ?_) (fun c34 => ?_)
      · skip
        exfalso; omega
      · skip
        refine lv_lload hx hb dX6_lowestTerm_37 (lv_at hl 0 rfl) ?_
        refine lv_lload hx hb dX6_lowestTerm_39 (lv_at hl 1 rfl) ?_
        refine lv_ldiv hx hb dX6_lowestTerm_41 (lI_ne0 ⟨by omega, by omega⟩ (by omega)) ?_
        refine wz_topl (y := lI (a.tdiv (gZ a b))) (lI_div ⟨by omega, by omega⟩ ⟨by omega, by omega⟩ (by left; omega)) ?_
        refine lv_goto (tgt := 47) hx hb dX6_lowestTerm_42 (by decide) ?_
        rw [hQ]
        exact wz_retl (tys := TY cI cJ cT) () hx hb hr hlocks hK hP hD hS (by unfold loT; first | rw [if_pos c20] | rw [if_neg c20]) dX6_lowestTerm_47
    · skip
      refine lv_lload_n hx hb dX6_lowestTerm_23 rfl (lv_at hl 2 rfl) ?_
      refine lv_goto (tgt := 28) hx hb dX6_lowestTerm_24 (by decide) ?_
      refine lv_lstore (lv' := [(7, .long (lI b)), (5, .long (lI (gZ a b))), (0, .long (lI a)), (2, .long (lI b)), (4, .int (iI w))]) hx hb dX6_lowestTerm_28 hl (by decide) rfl (fun ls hl => ?_)
      refine lv_lload hx hb dX6_lowestTerm_30 (lv_at hl 1 rfl) ?_
      refine lv_lconst (v := lI 0) hx hb dX6_lowestTerm_32 (by decide) ?_
      refine W.lcmp hx hb dX6_lowestTerm_33 ?_
      refine wz_lif_le (tgt := 45) hx hb dX6_lowestTerm_34 (by decide) ⟨by omega, by omega⟩ (by decide) (fun c34 => ?_) (fun c34 => ?_)
      · skip
        exfalso; omega
      · skip
        refine lv_lload hx hb dX6_lowestTerm_37 (lv_at hl 0 rfl) ?_
        refine lv_lload hx hb dX6_lowestTerm_39 (lv_at hl 1 rfl) ?_
        refine lv_ldiv hx hb dX6_lowestTerm_41 (lI_ne0 ⟨by omega, by omega⟩ (by omega)) ?_
        refine wz_topl (y := lI (b.tdiv (gZ a b))) (lI_div ⟨by omega, by omega⟩ ⟨by omega, by omega⟩ (by left; omega)) ?_
        refine lv_goto (tgt := 47) hx hb dX6_lowestTerm_42 (by decide) ?_
        rw [hQ]
        exact wz_retl (tys := TY cI cJ cT) () hx hb hr hlocks hK hP hD hS (by unfold loT; first | rw [if_pos c20] | rw [if_neg c20]) dX6_lowestTerm_47
