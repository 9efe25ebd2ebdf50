set_option maxHeartbeats 4000000 in
set_option maxRecDepth 100000 in
theorem k_X6_place (l : Launch) (hLt : l.stackTraces = false) (sa : Nat → Nat) (D : va_G) (cI cJ cT : ClassId) (sz : Nat) (hd : Nat) (rT : Nat) (rH : Nat) (rG : Nat) (rD : Nat) (rF : Nat) (tr : Nat → Option Nat) (qT : Nat) (qR : Nat) (sg : Int) (bd : Int) (q1 : Nat) (q2 : Nat) (q3 : Nat) (ft : Int → Int) (fx : Int → Int) (fy : Int → Int) (n : Int) (a : Int) (t : Int) (yy : Int) (w : Int) (ha : rI a) (htr : (0 ≤ a ∧ a < 4) → tr a.toNat = some qT) (hs1 : rI sg) (hn : sg = 2 → (1 ≤ n ∧ n ≤ 20) ∧ incP n ft) (hn0 : 0 ≤ n ∧ n ≤ 20) (ht : okT ft) (hx1 : okC fx) (hy1 : okC fy) (hta : rI t) (hya : rI yy) (hwa : rI w) : vx_Met l yX6_place wsX6_place { frames := 8, cells := 3, slots := 18, locals := 128 } (zPx D (TY cI cJ cT) [.ref hd, .int (iI a), .int (iI t), .int (iI yy), .int (iI w)] [(hd, .inr (6, [.ref rT, .ref rH, .ref rG, .ref rD, .ref rF])), (rT, .inl (cT, 4, .inr (.inr (.inr (.inr tr))))), (qT, .inr (5, [.ref qR, .int (iI sg), .int (iI bd)])), (qR, .inr (2, [.ref q1, .ref q2, .ref q3, .int (iI n)])), (q1, .inl (cI, 20, .inl (zA ft))), (q2, .inl (cI, 20, .inl (zA fx))), (q3, .inl (cI, 20, .inl (zA fy)))] sz sa) (zQl D (TY cI cJ cT) (va_A [(hd, .inr (6, [.ref rT, .ref rH, .ref rG, .ref rD, .ref rF])), (rT, .inl (cT, 4, .inr (.inr (.inr (.inr tr))))), (qT, .inr (5, [.ref qR, .int (iI sg), .int (iI bd)])), (qR, .inr (2, [.ref q1, .ref q2, .ref q3, .int (iI n)])), (q1, .inl (cI, 20, .inl (zA ft))), (q2, .inl (cI, 20, .inl (zA fx))), (q3, .inl (cI, 20, .inl (zA fy)))] sz) (fun (z : Int) (u : Int) => ((0 ≤ a ∧ a < 4) ∧ sg = 2) ∧ (ft 0 ≤ t ∧ t ≤ ft (n - 1)) ∧ (0 ≤ u ∧ u ≤ n - 1) ∧ ft (u) ≤ t ∧ (u < n - 1 → t < ft (u + 1)) ∧ z = plZ ft (if yy = 0 then fx else fy) (u) t w) (fun (u : Int) => [(hd, .inr (6, [.ref rT, .ref rH, .ref rG, .ref rD, .ref rF])), (rT, .inl (cT, 4, .inr (.inr (.inr (.inr tr))))), (qT, .inr (5, [.ref qR, .int (iI sg), .int (iI bd)])), (qR, .inr (2, [.ref q1, .ref q2, .ref q3, .int (iI n)])), (q1, .inl (cI, 20, .inl (zA ft))), (q2, .inl (cI, 20, .inl (zA fx))), (q3, .inl (cI, 20, .inl (zA fy)))])) (zX D (TY cI cJ cT) (va_A [(hd, .inr (6, [.ref rT, .ref rH, .ref rG, .ref rD, .ref rF])), (rT, .inl (cT, 4, .inr (.inr (.inr (.inr tr))))), (qT, .inr (5, [.ref qR, .int (iI sg), .int (iI bd)])), (qR, .inr (2, [.ref q1, .ref q2, .ref q3, .int (iI n)])), (q1, .inl (cI, 20, .inl (zA ft))), (q2, .inl (cI, 20, .inl (zA fx))), (q3, .inl (cI, 20, .inl (zA fy)))] sz) [(hd, .inr (6, [.ref rT, .ref rH, .ref rG, .ref rD, .ref rF])), (rT, .inl (cT, 4, .inr (.inr (.inr (.inr tr))))), (qT, .inr (5, [.ref qR, .int (iI sg), .int (iI bd)])), (qR, .inr (2, [.ref q1, .ref q2, .ref q3, .int (iI n)])), (q1, .inl (cI, 20, .inl (zA ft))), (q2, .inl (cI, 20, .inl (zA fx))), (q3, .inl (cI, 20, .inl (zA fy)))] (fun E => (E = nIO ∧ ¬ (0 ≤ a ∧ a < 4)) ∨ (E = nIS ∧ (0 ≤ a ∧ a < 4) ∧ sg ≠ 2) ∨ (E = nIA ∧ (0 ≤ a ∧ a < 4) ∧ sg = 2 ∧ ¬ (ft 0 ≤ t ∧ t ≤ ft (n - 1))))) 3 18 (va_A [(hd, .inr (6, [.ref rT, .ref rH, .ref rG, .ref rD, .ref rF])), (rT, .inl (cT, 4, .inr (.inr (.inr (.inr tr))))), (qT, .inr (5, [.ref qR, .int (iI sg), .int (iI bd)])), (qR, .inr (2, [.ref q1, .ref q2, .ref q3, .int (iI n)])), (q1, .inl (cI, 20, .inl (zA ft))), (q2, .inl (cI, 20, .inl (zA fx))), (q3, .inl (cI, 20, .inl (zA fy)))] sz) := by
  refine zNl (cc := cX6_place) (maxL := 13) (ret := (some .long)) (by decide) rfl (Nat.le_of_ble_eq_true rfl) ?_
  intro p e s m below meth c A ls hE hTV hTH hT0
  obtain ⟨hx, hb, hr, hts, hown, hlocks, hml, hnm, hP, hK, hD, hA, hS, hl⟩ := hE
  have hown : s.vm.findClass RX6 = some m.cls := hown
  have hl : lv_has ls 13 [(0, .ref hd), (1, .int (iI a)), (2, .int (iI t)), (3, .int (iI yy)), (4, .int (iI w))] := hl
  have hin2 : ∀ w ∈ wsX20, w ∈ wsX6_place := by decide +kernel
  have hin5 : ∀ w ∈ wsX50, w ∈ wsX6_place := by decide +kernel
  have hgIA : ∀ w ∈ (vx_atS RX6 77 nIA nmE).filter goodWord, w ∈ wsX6_place := by decide +kernel
  refine lv_aload_n hx hb dX6_place_0 rfl (lv_at hl 0 rfl) ?_
  refine lv_iload_n hx hb dX6_place_1 rfl (lv_at hl 1 rfl) ?_
  refine lv_iconst (v := iI 2) hx hb dX6_place_2 rfl ?_
  refine wz_xcallr (wr := [(qR, .inr (2, [.ref q1, .ref q2, .ref q3, .int (iI n)])), (q1, .inl (cI, 20, .inl (zA ft))), (q2, .inl (cI, 20, .inl (zA fx))), (q3, .inl (cI, 20, .inl (zA fy)))]) (vx_runV (As := [.int (iI a), .int (iI 2)]) (rest := []) ⟨hx, hb, hml, hown, hts⟩ (k_X6_trackIn l hLt sa D cI cJ cT s.heap.size hd rT rH rG rD rF tr qT qR sg bd a 2 (ha) (htr) (hs1) (by decide)) (cwV 2 hts gX6_place_X6_trackIn rfl rfl rfl (by decide +kernel) ⟨Nat.le_of_ble_eq_true rfl, Nat.le_of_ble_eq_true rfl⟩) (wz_preVx hK hP hD hTV hTH hS hA [0, 1, 2] (by decide) rfl rfl 6 0 rfl rfl) rfl rfl hl.1 rfl (lv_room (Nat.le_of_ble_eq_true rfl)) dX6_place_3 ⟨Nat.le_of_ble_eq_true rfl, Nat.le_of_ble_eq_true rfl⟩) hK hP hD hS hA [0, 1, 2] [3, 4, 5, 6] rfl rfl rfl (by decide) [4, 5, 6, 0, 1, 2, 3] rfl (by decide) rfl hT0 hlocks (fun E q => q.elim Or.inl (fun q => Or.inr (Or.inl q))) (by decide) (by decide) (fun z3 u H locs hw3 hP hD hS => ?_)
  have hP : va_P D vwCl [(hd, .inr (6, [.ref rT, .ref rH, .ref rG, .ref rD, .ref rF])), (rT, .inl (cT, 4, .inr (.inr (.inr (.inr tr))))), (qT, .inr (5, [.ref qR, .int (iI sg), .int (iI bd)])), (qR, .inr (2, [.ref q1, .ref q2, .ref q3, .int (iI n)])), (q1, .inl (cI, 20, .inl (zA ft))), (q2, .inl (cI, 20, .inl (zA fx))), (q3, .inl (cI, 20, .inl (zA fy)))] H := hP.sub [4, 5, 6, 0, 1, 2, 3] rfl
  have hD : va_D A [(hd, .inr (6, [.ref rT, .ref rH, .ref rG, .ref rD, .ref rF])), (rT, .inl (cT, 4, .inr (.inr (.inr (.inr tr))))), (qT, .inr (5, [.ref qR, .int (iI sg), .int (iI bd)])), (qR, .inr (2, [.ref q1, .ref q2, .ref q3, .int (iI n)])), (q1, .inl (cI, 20, .inl (zA ft))), (q2, .inl (cI, 20, .inl (zA fx))), (q3, .inl (cI, 20, .inl (zA fy)))] := hD.sub [4, 5, 6, 0, 1, 2, 3] (by decide) rfl
  obtain ⟨hz3, hv3⟩ := hw3
  have hz3 := hz3.symm
  subst hz3
  have tk := hv3
  refine va_get (D := D) (ci := 5) (v := .ref qR) (C := RX5) (T := TX5) (N := 3) hx hb hts hin5 hown hK hP 2 rfl rfl 0 (by decide) (hts (.fieldLink RX6 52 "DriftLog$Track" "row" "LDriftLog$Row;") (by decide +kernel)) (fun _ h9 => h9) rfl dX6_place_6 ?_
  refine lv_astore (lv' := [(5, .ref qR), (0, .ref hd), (1, .int (iI a)), (2, .int (iI t)), (3, .int (iI yy)), (4, .int (iI w))]) hx hb dX6_place_9 hl (by decide) rfl (fun ls hl => ?_)
  refine lv_aload hx hb dX6_place_11 (lv_at hl 0 rfl) ?_
  refine lv_iload_n hx hb dX6_place_13 rfl (lv_at hl 3 rfl) ?_
  refine wz_calli (wr := [(hd, .inr (6, [.ref rT, .ref rH, .ref rG, .ref rD, .ref rF])), (rT, .inl (cT, 4, .inr (.inr (.inr (.inr tr))))), (qT, .inr (5, [.ref qR, .int (iI sg), .int (iI bd)]))]) (va_runV (As := [.int (iI t)]) (rest := []) ⟨hx, hb, hml, hown, hts⟩ (k_X2_firstNotBefore l D cI cJ cT H.size qR q1 q2 q3 ft fx fy n t (hn0.1) (hn0.2) (fun i => ⟨by have := (ht i).1; omega, (ht i).2⟩) (hta)) (cwV 1 hts gX6_place_X2_firstNotBefore rfl rfl rfl (by decide +kernel) ⟨Nat.le_of_ble_eq_true rfl, Nat.le_of_ble_eq_true rfl⟩) (wz_preV hK hP hD [3, 4, 5, 6] (by decide) rfl rfl 2 3 rfl rfl) rfl rfl hl.1 rfl (lv_room (Nat.le_of_ble_eq_true rfl)) dX6_place_14 ⟨Nat.le_of_ble_eq_true rfl, Nat.le_of_ble_eq_true rfl⟩) hP hD hS hA [3, 4, 5, 6] [0, 1, 2] rfl rfl rfl (by decide) (fun z14 u H locs hw14 hP hD hS => ?_)
  have hP : va_P D vwCl [(hd, .inr (6, [.ref rT, .ref rH, .ref rG, .ref rD, .ref rF])), (rT, .inl (cT, 4, .inr (.inr (.inr (.inr tr))))), (qT, .inr (5, [.ref qR, .int (iI sg), .int (iI bd)])), (qR, .inr (2, [.ref q1, .ref q2, .ref q3, .int (iI n)])), (q1, .inl (cI, 20, .inl (zA ft))), (q2, .inl (cI, 20, .inl (zA fx))), (q3, .inl (cI, 20, .inl (zA fy)))] H := hP.sub [0, 1, 2, 3, 4, 5, 6] rfl
  have hD : va_D A [(hd, .inr (6, [.ref rT, .ref rH, .ref rG, .ref rD, .ref rF])), (rT, .inl (cT, 4, .inr (.inr (.inr (.inr tr))))), (qT, .inr (5, [.ref qR, .int (iI sg), .int (iI bd)])), (qR, .inr (2, [.ref q1, .ref q2, .ref q3, .int (iI n)])), (q1, .inl (cI, 20, .inl (zA ft))), (q2, .inl (cI, 20, .inl (zA fx))), (q3, .inl (cI, 20, .inl (zA fy)))] := hD.sub [0, 1, 2, 3, 4, 5, 6] (by decide) rfl
  refine lv_istore (lv' := [(6, .int (iI z14)), (5, .ref qR), (0, .ref hd), (1, .int (iI a)), (2, .int (iI t)), (3, .int (iI yy)), (4, .int (iI w))]) hx hb dX6_place_17 hl (by decide) rfl (fun ls hl => ?_)
  obtain ⟨p1, p2, p3, p4⟩ := hw14
  obtain ⟨n1, n2⟩ := hn tk.2
  have t0 := ht 0
  have tz := ht z14
  have ty := ht (z14 - 1)
  have p5 : 0 < z14 → ft (z14 - 1) < t := fun q => p3 (z14 - 1) (by omega) (by omega)
  have tn := p3 (n - 1) (by omega)
  refine lv_iload hx hb dX6_place_19 (lv_at hl 0 rfl) ?_
  refine lv_aload hx hb dX6_place_21 (lv_at hl 1 rfl) ?_
  refine va_get (D := D) (ci := 2) (v := .int (iI n)) (C := RX2) (T := TX2) (N := 4) hx hb hts hin2 hown hK hP 3 rfl rfl 3 (by decide) (hts (.fieldLink RX6 56 "DriftLog$Row" "size" "I") (by decide +kernel)) (fun _ h9 => h9) rfl dX6_place_23 ?_
  refine wz_icmp_ge (tgt := 40) hx hb dX6_place_26 (by decide) ⟨by omega, by omega⟩ ⟨by omega, by omega⟩ (fun c26 => ?_) (fun c26 => ?_)
  · skip
    exact wz_throw (sa9 := sa 134) hx hb hLt hown (by decide) (hts (.classLink RX6 73 nIA) (by decide +kernel)) (hts (.initialized nIA) (by decide +kernel)) (hTV.2.2.2.2.2.2 (134, _) (List.mem_of_getElem? (i := 10) rfl)) (hat_IA (fun w hw => hts w (hgIA w hw)) hTV) hgd_IA hTH (hl.1.trans hml.symm) dX6_place_40 dX6_place_43 dX6_place_44 dX6_place_46 dX6_place_49 hT0 (by decide) (by decide) (by decide) (by decide) hlocks hK hP hD hS (Or.inr (Or.inr ⟨rfl, tk.1, tk.2, fun q => by first | omega | (have := tn (by omega); omega)⟩)) (by decide) (by decide)
  · skip
    refine lv_iload_n hx hb dX6_place_29 rfl (lv_at hl 4 rfl) ?_
    refine lv_aload hx hb dX6_place_30 (lv_at hl 1 rfl) ?_
    refine va_get (D := D) (ci := 2) (v := .ref q1) (C := RX2) (T := TX2) (N := 4) hx hb hts hin2 hown hK hP 3 rfl rfl 0 (by decide) (hts (.fieldLink RX6 78 "DriftLog$Row" "times" "[I") (by decide +kernel)) (fun _ h9 => h9) rfl dX6_place_32 ?_
    refine lv_iconst (v := iI 0) hx hb dX6_place_35 rfl ?_
    refine wz_iald (tys := TY cI cJ cT) hx hb hK hP 4 0 rfl rfl (by decide) (by constructor <;> omega) dX6_place_36 ?_
    refine wz_icmp_ge (tgt := 50) hx hb dX6_place_37 (by decide) (hta) ⟨by omega, by omega⟩ (fun c37 => ?_) (fun c37 => ?_)
    · skip
      have fl := incL n2 p1 (by omega)
      have fz : z14 = 0 → ft z14 = ft 0 := fun q => by rw [q]
      have p6 := p4 (by omega)
      refine lv_iload_n hx hb dX6_place_50 rfl (lv_at hl 5 rfl) ?_
      refine wz_if_eq (tgt := 62) hx hb dX6_place_51 (by decide) (hya) (fun c51 => ?_) (fun c51 => ?_)
      · skip
        refine lv_aload hx hb dX6_place_62 (lv_at hl 1 rfl) ?_
        refine va_get (D := D) (ci := 2) (v := .ref q2) (C := RX2) (T := TX2) (N := 4) hx hb hts hin2 hown hK hP 3 rfl rfl 1 (by decide) (hts (.fieldLink RX6 122 "DriftLog$Row" "xs" "[I") (by decide +kernel)) (fun _ h9 => h9) rfl dX6_place_64 ?_
        refine lv_astore (lv' := [(7, .ref q2), (6, .int (iI z14)), (5, .ref qR), (0, .ref hd), (1, .int (iI a)), (2, .int (iI t)), (3, .int (iI yy)), (4, .int (iI w))]) hx hb dX6_place_67 hl (by decide) rfl (fun ls hl => ?_)
        refine lv_aload hx hb dX6_place_69 (lv_at hl 2 rfl) ?_
        refine va_get (D := D) (ci := 2) (v := .ref q1) (C := RX2) (T := TX2) (N := 4) hx hb hts hin2 hown hK hP 3 rfl rfl 0 (by decide) (hts (.fieldLink RX6 78 "DriftLog$Row" "times" "[I") (by decide +kernel)) (fun _ h9 => h9) rfl dX6_place_71 ?_
        refine lv_iload hx hb dX6_place_74 (lv_at hl 1 rfl) ?_
        refine wz_iald (tys := TY cI cJ cT) hx hb hK hP 4 0 rfl rfl (by decide) (by constructor <;> omega) dX6_place_76 ?_
        refine lv_iload_n hx hb dX6_place_77 rfl (lv_at hl 5 rfl) ?_
        refine wz_icmp_eq (tgt := 86) hx hb dX6_place_78 (by decide) ⟨by omega, by omega⟩ (hta) (fun c78 => ?_) (fun c78 => ?_)
        · skip
          refine lv_iload hx hb dX6_place_86 (lv_at hl 7 rfl) ?_
          refine wz_if_eq (tgt := 95) hx hb dX6_place_88 (by decide) (hwa) (fun c88 => ?_) (fun c88 => ?_)
          · skip
            refine lv_aload hx hb dX6_place_95 (lv_at hl 0 rfl) ?_
            refine lv_iload hx hb dX6_place_97 (lv_at hl 1 rfl) ?_
            refine wz_iald (tys := TY cI cJ cT) hx hb hK hP 5 0 rfl rfl (by decide) (by constructor <;> omega) dX6_place_99 ?_
            refine wz_i2l hx hb dX6_place_100 (by first | (have := hx1 z14; constructor <;> omega) | (have := hy1 z14; constructor <;> omega)) ?_
            refine W.widen (k := 3) (n := 18) (by decide) (by decide) ?_
            exact vx_ret (wz_retl (tys := TY cI cJ cT) z14 hx hb hr hlocks hK hP hD hS (by refine ⟨tk, ⟨by omega, by omega⟩, ⟨by omega, by omega⟩, by omega, (fun q => by have := (hn tk.2).2 z14 (by omega) (by omega); omega), ?_⟩; rw [if_pos c51]; unfold plZ; rw [if_pos (by omega)]; first | rw [if_pos c88] | rw [if_neg c88]) dX6_place_101)
          · skip
            refine lv_lconst (v := lI 1) hx hb dX6_place_91 (by decide) ?_
            refine lv_goto (tgt := 101) hx hb dX6_place_92 (by decide) ?_
            refine W.widen (k := 3) (n := 18) (by decide) (by decide) ?_
            exact vx_ret (wz_retl (tys := TY cI cJ cT) z14 hx hb hr hlocks hK hP hD hS (by refine ⟨tk, ⟨by omega, by omega⟩, ⟨by omega, by omega⟩, by omega, (fun q => by have := (hn tk.2).2 z14 (by omega) (by omega); omega), ?_⟩; rw [if_pos c51]; unfold plZ; rw [if_pos (by omega)]; first | rw [if_pos c88] | rw [if_neg c88]) dX6_place_101)
        · skip
          refine lv_iload hx hb dX6_place_81 (lv_at hl 1 rfl) ?_
          refine wz_if_ne (tgt := 102) hx hb dX6_place_83 (by decide) ⟨by omega, by omega⟩ (fun c83 => ?_) (fun c83 => ?_)
          · skip
            have v0 := hx1 z14
            have v1 := hx1 (z14 - 1)
            have pb := plZ_b (k := z14 - 1) (t := t) ht hx1 hta
            rw [show z14 - 1 + 1 = z14 by omega] at pb
            refine lv_iload hx hb dX6_place_102 (lv_at hl 1 rfl) ?_
            refine lv_iconst (v := iI 1) hx hb dX6_place_104 rfl ?_
            refine wz_isub hx hb dX6_place_105 ?_
            refine lv_istore (lv' := [(8, .int (iI (z14 - 1))), (7, .ref q2), (6, .int (iI z14)), (5, .ref qR), (0, .ref hd), (1, .int (iI a)), (2, .int (iI t)), (3, .int (iI yy)), (4, .int (iI w))]) hx hb dX6_place_106 hl (by decide) rfl (fun ls hl => ?_)
            refine lv_aload hx hb dX6_place_108 (lv_at hl 3 rfl) ?_
            refine va_get (D := D) (ci := 2) (v := .ref q1) (C := RX2) (T := TX2) (N := 4) hx hb hts hin2 hown hK hP 3 rfl rfl 0 (by decide) (hts (.fieldLink RX6 78 "DriftLog$Row" "times" "[I") (by decide +kernel)) (fun _ h9 => h9) rfl dX6_place_110 ?_
            refine lv_iload hx hb dX6_place_113 (lv_at hl 2 rfl) ?_
            refine wz_iald (tys := TY cI cJ cT) hx hb hK hP 4 0 rfl rfl (by decide) (by constructor <;> omega) dX6_place_115 ?_
            refine lv_aload hx hb dX6_place_116 (lv_at hl 3 rfl) ?_
            refine va_get (D := D) (ci := 2) (v := .ref q1) (C := RX2) (T := TX2) (N := 4) hx hb hts hin2 hown hK hP 3 rfl rfl 0 (by decide) (hts (.fieldLink RX6 78 "DriftLog$Row" "times" "[I") (by decide +kernel)) (fun _ h9 => h9) rfl dX6_place_118 ?_
            refine lv_iload hx hb dX6_place_121 (lv_at hl 0 rfl) ?_
            refine wz_iald (tys := TY cI cJ cT) hx hb hK hP 4 0 rfl rfl (by decide) (by constructor <;> omega) dX6_place_123 ?_
            refine wz_isub hx hb dX6_place_124 ?_
            refine wz_i2l hx hb dX6_place_125 (by constructor <;> omega) ?_
            refine lv_lstore (lv' := [(9, .long (lI ((ft z14) - (ft (z14 - 1))))), (8, .int (iI (z14 - 1))), (7, .ref q2), (6, .int (iI z14)), (5, .ref qR), (0, .ref hd), (1, .int (iI a)), (2, .int (iI t)), (3, .int (iI yy)), (4, .int (iI w))]) hx hb dX6_place_126 hl (by decide) rfl (fun ls hl => ?_)
            refine lv_iload_n hx hb dX6_place_128 rfl (lv_at hl 7 rfl) ?_
            refine lv_aload hx hb dX6_place_129 (lv_at hl 4 rfl) ?_
            refine va_get (D := D) (ci := 2) (v := .ref q1) (C := RX2) (T := TX2) (N := 4) hx hb hts hin2 hown hK hP 3 rfl rfl 0 (by decide) (hts (.fieldLink RX6 78 "DriftLog$Row" "times" "[I") (by decide +kernel)) (fun _ h9 => h9) rfl dX6_place_131 ?_
            refine lv_iload hx hb dX6_place_134 (lv_at hl 1 rfl) ?_
            refine wz_iald (tys := TY cI cJ cT) hx hb hK hP 4 0 rfl rfl (by decide) (by constructor <;> omega) dX6_place_136 ?_
            refine wz_isub hx hb dX6_place_137 ?_
            refine wz_i2l hx hb dX6_place_138 (by constructor <;> omega) ?_
            refine lv_lstore (lv' := [(11, .long (lI (t - (ft (z14 - 1))))), (9, .long (lI ((ft z14) - (ft (z14 - 1))))), (8, .int (iI (z14 - 1))), (7, .ref q2), (6, .int (iI z14)), (5, .ref qR), (0, .ref hd), (1, .int (iI a)), (2, .int (iI t)), (3, .int (iI yy)), (4, .int (iI w))]) hx hb dX6_place_139 hl (by decide) rfl (fun ls hl => ?_)
            refine lv_aload hx hb dX6_place_141 (lv_at hl 3 rfl) ?_
            refine lv_iload hx hb dX6_place_143 (lv_at hl 2 rfl) ?_
            refine wz_iald (tys := TY cI cJ cT) hx hb hK hP 5 0 rfl rfl (by decide) (by constructor <;> omega) dX6_place_145 ?_
            refine wz_i2l hx hb dX6_place_146 (by constructor <;> omega) ?_
            refine lv_lload hx hb dX6_place_147 (lv_at hl 1 rfl) ?_
            refine wz_lmul hx hb dX6_place_149 ?_
            refine lv_aload hx hb dX6_place_150 (lv_at hl 3 rfl) ?_
            refine lv_iload hx hb dX6_place_152 (lv_at hl 4 rfl) ?_
            refine wz_iald (tys := TY cI cJ cT) hx hb hK hP 5 0 rfl rfl (by decide) (by constructor <;> omega) dX6_place_154 ?_
            refine lv_aload hx hb dX6_place_155 (lv_at hl 3 rfl) ?_
            refine lv_iload hx hb dX6_place_157 (lv_at hl 2 rfl) ?_
            refine wz_iald (tys := TY cI cJ cT) hx hb hK hP 5 0 rfl rfl (by decide) (by constructor <;> omega) dX6_place_159 ?_
            refine wz_isub hx hb dX6_place_160 ?_
            refine wz_i2l hx hb dX6_place_161 (by constructor <;> omega) ?_
            refine lv_lload hx hb dX6_place_162 (lv_at hl 0 rfl) ?_
            refine wz_lmul hx hb dX6_place_164 ?_
            refine wz_ladd hx hb dX6_place_165 ?_
            refine lv_lload hx hb dX6_place_166 (lv_at hl 1 rfl) ?_
            refine lv_iload hx hb dX6_place_168 (lv_at hl 10 rfl) ?_
            refine wz_calll (wr := [(hd, .inr (6, [.ref rT, .ref rH, .ref rG, .ref rD, .ref rF])), (rT, .inl (cT, 4, .inr (.inr (.inr (.inr tr))))), (qT, .inr (5, [.ref qR, .int (iI sg), .int (iI bd)])), (qR, .inr (2, [.ref q1, .ref q2, .ref q3, .int (iI n)])), (q1, .inl (cI, 20, .inl (zA ft))), (q2, .inl (cI, 20, .inl (zA fx))), (q3, .inl (cI, 20, .inl (zA fy)))]) (va_runS (As := [.long (lI (((fx (z14 - 1)) * ((ft z14) - (ft (z14 - 1)))) + (((fx z14) - (fx (z14 - 1))) * (t - (ft (z14 - 1)))))), .long (lI ((ft z14) - (ft (z14 - 1)))), .int (iI w)]) (rest := []) ⟨hx, hb, hml, hown, hts⟩ (k_X6_lowestTerm l D cI cJ cT H.size (((fx (z14 - 1)) * ((ft z14) - (ft (z14 - 1)))) + (((fx z14) - (fx (z14 - 1))) * (t - (ft (z14 - 1))))) ((ft z14) - (ft (z14 - 1))) w (by constructor <;> omega) (by constructor <;> omega) (hwa)) (va_cwS 3 hts gX6_place_X6_lowestTerm rfl rfl rfl (by decide +kernel) ⟨Nat.le_of_ble_eq_true rfl, Nat.le_of_ble_eq_true rfl⟩) (wz_preS hK hP hD [] (by decide) rfl rfl) rfl rfl hl.1 rfl (lv_room (Nat.le_of_ble_eq_true rfl)) dX6_place_170 ⟨Nat.le_of_ble_eq_true rfl, Nat.le_of_ble_eq_true rfl⟩) hP hD hS hA [] [0, 1, 2, 3, 4, 5, 6] rfl rfl rfl (by decide) (fun z170 u H locs hw170 hP hD hS => ?_)
            have hP : va_P D vwCl [(hd, .inr (6, [.ref rT, .ref rH, .ref rG, .ref rD, .ref rF])), (rT, .inl (cT, 4, .inr (.inr (.inr (.inr tr))))), (qT, .inr (5, [.ref qR, .int (iI sg), .int (iI bd)])), (qR, .inr (2, [.ref q1, .ref q2, .ref q3, .int (iI n)])), (q1, .inl (cI, 20, .inl (zA ft))), (q2, .inl (cI, 20, .inl (zA fx))), (q3, .inl (cI, 20, .inl (zA fy)))] H := hP.sub [0, 1, 2, 3, 4, 5, 6] rfl
            have hD : va_D A [(hd, .inr (6, [.ref rT, .ref rH, .ref rG, .ref rD, .ref rF])), (rT, .inl (cT, 4, .inr (.inr (.inr (.inr tr))))), (qT, .inr (5, [.ref qR, .int (iI sg), .int (iI bd)])), (qR, .inr (2, [.ref q1, .ref q2, .ref q3, .int (iI n)])), (q1, .inl (cI, 20, .inl (zA ft))), (q2, .inl (cI, 20, .inl (zA fx))), (q3, .inl (cI, 20, .inl (zA fy)))] := hD.sub [0, 1, 2, 3, 4, 5, 6] (by decide) rfl
            subst hw170
            refine W.widen (k := 3) (n := 18) (by decide) (by decide) ?_
            exact vx_ret (wz_retl (tys := TY cI cJ cT) (z14 - 1) hx hb hr hlocks hK hP hD hS (by have e1 : z14 - 1 + 1 = z14 := (by omega); refine ⟨tk, ⟨by omega, by omega⟩, ⟨by omega, by omega⟩, by omega, (fun q => by rw [e1]; omega), ?_⟩; rw [if_pos c51]; unfold plZ; rw [if_neg (by omega), e1]) dX6_place_173)
          · skip
            refine lv_iload hx hb dX6_place_86 (lv_at hl 7 rfl) ?_
            refine wz_if_eq (tgt := 95) hx hb dX6_place_88 (by decide) (hwa) (fun c88 => ?_) (fun c88 => ?_)
            · skip
              refine lv_aload hx hb dX6_place_95 (lv_at hl 0 rfl) ?_
              refine lv_iload hx hb dX6_place_97 (lv_at hl 1 rfl) ?_
              refine wz_iald (tys := TY cI cJ cT) hx hb hK hP 5 0 rfl rfl (by decide) (by constructor <;> omega) dX6_place_99 ?_
              refine wz_i2l hx hb dX6_place_100 (by first | (have := hx1 z14; constructor <;> omega) | (have := hy1 z14; constructor <;> omega)) ?_
              refine W.widen (k := 3) (n := 18) (by decide) (by decide) ?_
              exact vx_ret (wz_retl (tys := TY cI cJ cT) z14 hx hb hr hlocks hK hP hD hS (by refine ⟨tk, ⟨by omega, by omega⟩, ⟨by omega, by omega⟩, by omega, (fun q => by have := (hn tk.2).2 z14 (by omega) (by omega); omega), ?_⟩; rw [if_pos c51]; unfold plZ; rw [if_pos (by omega)]; first | rw [if_pos c88] | rw [if_neg c88]) dX6_place_101)
            · skip
              refine lv_lconst (v := lI 1) hx hb dX6_place_91 (by decide) ?_
              refine lv_goto (tgt := 101) hx hb dX6_place_92 (by decide) ?_
              refine W.widen (k := 3) (n := 18) (by decide) (by decide) ?_
              exact vx_ret (wz_retl (tys := TY cI cJ cT) z14 hx hb hr hlocks hK hP hD hS (by refine ⟨tk, ⟨by omega, by omega⟩, ⟨by omega, by omega⟩, by omega, (fun q => by have := (hn tk.2).2 z14 (by omega) (by omega); omega), ?_⟩; rw [if_pos c51]; unfold plZ; rw [if_pos (by omega)]; first | rw [if_pos c88] | rw [if_neg c88]) dX6_place_101)
      · skip
        refine lv_aload hx hb dX6_place_54 (lv_at hl 1 rfl) ?_
        refine va_get (D := D) (ci := 2) (v := .ref q3) (C := RX2) (T := TX2) (N := 4) hx hb hts hin2 hown hK hP 3 rfl rfl 2 (by decide) (hts (.fieldLink RX6 125 "DriftLog$Row" "ys" "[I") (by decide +kernel)) (fun _ h9 => h9) rfl dX6_place_56 ?_
        refine lv_goto (tgt := 67) hx hb dX6_place_59 (by decide) ?_
        refine lv_astore (lv' := [(7, .ref q3), (6, .int (iI z14)), (5, .ref qR), (0, .ref hd), (1, .int (iI a)), (2, .int (iI t)), (3, .int (iI yy)), (4, .int (iI w))]) hx hb dX6_place_67 hl (by decide) rfl (fun ls hl => ?_)
        refine lv_aload hx hb dX6_place_69 (lv_at hl 2 rfl) ?_
        refine va_get (D := D) (ci := 2) (v := .ref q1) (C := RX2) (T := TX2) (N := 4) hx hb hts hin2 hown hK hP 3 rfl rfl 0 (by decide) (hts (.fieldLink RX6 78 "DriftLog$Row" "times" "[I") (by decide +kernel)) (fun _ h9 => h9) rfl dX6_place_71 ?_
        refine lv_iload hx hb dX6_place_74 (lv_at hl 1 rfl) ?_
        refine wz_iald (tys := TY cI cJ cT) hx hb hK hP 4 0 rfl rfl (by decide) (by constructor <;> omega) dX6_place_76 ?_
        refine lv_iload_n hx hb dX6_place_77 rfl (lv_at hl 5 rfl) ?_
        refine wz_icmp_eq (tgt := 86) hx hb dX6_place_78 (by decide) ⟨by omega, by omega⟩ (hta) (fun c78 => ?_) (fun c78 => ?_)
        · skip
          refine lv_iload hx hb dX6_place_86 (lv_at hl 7 rfl) ?_
          refine wz_if_eq (tgt := 95) hx hb dX6_place_88 (by decide) (hwa) (fun c88 => ?_) (fun c88 => ?_)
          · skip
            refine lv_aload hx hb dX6_place_95 (lv_at hl 0 rfl) ?_
            refine lv_iload hx hb dX6_place_97 (lv_at hl 1 rfl) ?_
            refine wz_iald (tys := TY cI cJ cT) hx hb hK hP 6 0 rfl rfl (by decide) (by constructor <;> omega) dX6_place_99 ?_
            refine wz_i2l hx hb dX6_place_100 (by first | (have := hx1 z14; constructor <;> omega) | (have := hy1 z14; constructor <;> omega)) ?_
            refine W.widen (k := 3) (n := 18) (by decide) (by decide) ?_
            exact vx_ret (wz_retl (tys := TY cI cJ cT) z14 hx hb hr hlocks hK hP hD hS (by refine ⟨tk, ⟨by omega, by omega⟩, ⟨by omega, by omega⟩, by omega, (fun q => by have := (hn tk.2).2 z14 (by omega) (by omega); omega), ?_⟩; rw [if_neg c51]; unfold plZ; rw [if_pos (by omega)]; first | rw [if_pos c88] | rw [if_neg c88]) dX6_place_101)
          · skip
            refine lv_lconst (v := lI 1) hx hb dX6_place_91 (by decide) ?_
            refine lv_goto (tgt := 101) hx hb dX6_place_92 (by decide) ?_
            refine W.widen (k := 3) (n := 18) (by decide) (by decide) ?_
            exact vx_ret (wz_retl (tys := TY cI cJ cT) z14 hx hb hr hlocks hK hP hD hS (by refine ⟨tk, ⟨by omega, by omega⟩, ⟨by omega, by omega⟩, by omega, (fun q => by have := (hn tk.2).2 z14 (by omega) (by omega); omega), ?_⟩; rw [if_neg c51]; unfold plZ; rw [if_pos (by omega)]; first | rw [if_pos c88] | rw [if_neg c88]) dX6_place_101)
        · skip
          refine lv_iload hx hb dX6_place_81 (lv_at hl 1 rfl) ?_
          refine wz_if_ne (tgt := 102) hx hb dX6_place_83 (by decide) ⟨by omega, by omega⟩ (fun c83 => ?_) (fun c83 => ?_)
          · skip
            have v0 := hy1 z14
            have v1 := hy1 (z14 - 1)
            have pb := plZ_b (k := z14 - 1) (t := t) ht hy1 hta
            rw [show z14 - 1 + 1 = z14 by omega] at pb
            refine lv_iload hx hb dX6_place_102 (lv_at hl 1 rfl) ?_
            refine lv_iconst (v := iI 1) hx hb dX6_place_104 rfl ?_
            refine wz_isub hx hb dX6_place_105 ?_
            refine lv_istore (lv' := [(8, .int (iI (z14 - 1))), (7, .ref q3), (6, .int (iI z14)), (5, .ref qR), (0, .ref hd), (1, .int (iI a)), (2, .int (iI t)), (3, .int (iI yy)), (4, .int (iI w))]) hx hb dX6_place_106 hl (by decide) rfl (fun ls hl => ?_)
            refine lv_aload hx hb dX6_place_108 (lv_at hl 3 rfl) ?_
            refine va_get (D := D) (ci := 2) (v := .ref q1) (C := RX2) (T := TX2) (N := 4) hx hb hts hin2 hown hK hP 3 rfl rfl 0 (by decide) (hts (.fieldLink RX6 78 "DriftLog$Row" "times" "[I") (by decide +kernel)) (fun _ h9 => h9) rfl dX6_place_110 ?_
            refine lv_iload hx hb dX6_place_113 (lv_at hl 2 rfl) ?_
            refine wz_iald (tys := TY cI cJ cT) hx hb hK hP 4 0 rfl rfl (by decide) (by constructor <;> omega) dX6_place_115 ?_
            refine lv_aload hx hb dX6_place_116 (lv_at hl 3 rfl) ?_
            refine va_get (D := D) (ci := 2) (v := .ref q1) (C := RX2) (T := TX2) (N := 4) hx hb hts hin2 hown hK hP 3 rfl rfl 0 (by decide) (hts (.fieldLink RX6 78 "DriftLog$Row" "times" "[I") (by decide +kernel)) (fun _ h9 => h9) rfl dX6_place_118 ?_
            refine lv_iload hx hb dX6_place_121 (lv_at hl 0 rfl) ?_
            refine wz_iald (tys := TY cI cJ cT) hx hb hK hP 4 0 rfl rfl (by decide) (by constructor <;> omega) dX6_place_123 ?_
            refine wz_isub hx hb dX6_place_124 ?_
            refine wz_i2l hx hb dX6_place_125 (by constructor <;> omega) ?_
            refine lv_lstore (lv' := [(9, .long (lI ((ft z14) - (ft (z14 - 1))))), (8, .int (iI (z14 - 1))), (7, .ref q3), (6, .int (iI z14)), (5, .ref qR), (0, .ref hd), (1, .int (iI a)), (2, .int (iI t)), (3, .int (iI yy)), (4, .int (iI w))]) hx hb dX6_place_126 hl (by decide) rfl (fun ls hl => ?_)
            refine lv_iload_n hx hb dX6_place_128 rfl (lv_at hl 7 rfl) ?_
            refine lv_aload hx hb dX6_place_129 (lv_at hl 4 rfl) ?_
            refine va_get (D := D) (ci := 2) (v := .ref q1) (C := RX2) (T := TX2) (N := 4) hx hb hts hin2 hown hK hP 3 rfl rfl 0 (by decide) (hts (.fieldLink RX6 78 "DriftLog$Row" "times" "[I") (by decide +kernel)) (fun _ h9 => h9) rfl dX6_place_131 ?_
            refine lv_iload hx hb dX6_place_134 (lv_at hl 1 rfl) ?_
            refine wz_iald (tys := TY cI cJ cT) hx hb hK hP 4 0 rfl rfl (by decide) (by constructor <;> omega) dX6_place_136 ?_
            refine wz_isub hx hb dX6_place_137 ?_
            refine wz_i2l hx hb dX6_place_138 (by constructor <;> omega) ?_
            refine lv_lstore (lv' := [(11, .long (lI (t - (ft (z14 - 1))))), (9, .long (lI ((ft z14) - (ft (z14 - 1))))), (8, .int (iI (z14 - 1))), (7, .ref q3), (6, .int (iI z14)), (5, .ref qR), (0, .ref hd), (1, .int (iI a)), (2, .int (iI t)), (3, .int (iI yy)), (4, .int (iI w))]) hx hb dX6_place_139 hl (by decide) rfl (fun ls hl => ?_)
            refine lv_aload hx hb dX6_place_141 (lv_at hl 3 rfl) ?_
            refine lv_iload hx hb dX6_place_143 (lv_at hl 2 rfl) ?_
            refine wz_iald (tys := TY cI cJ cT) hx hb hK hP 6 0 rfl rfl (by decide) (by constructor <;> omega) dX6_place_145 ?_
            refine wz_i2l hx hb dX6_place_146 (by constructor <;> omega) ?_
            refine lv_lload hx hb dX6_place_147 (lv_at hl 1 rfl) ?_
            refine wz_lmul hx hb dX6_place_149 ?_
            refine lv_aload hx hb dX6_place_150 (lv_at hl 3 rfl) ?_
            refine lv_iload hx hb dX6_place_152 (lv_at hl 4 rfl) ?_
            refine wz_iald (tys := TY cI cJ cT) hx hb hK hP 6 0 rfl rfl (by decide) (by constructor <;> omega) dX6_place_154 ?_
            refine lv_aload hx hb dX6_place_155 (lv_at hl 3 rfl) ?_
            refine lv_iload hx hb dX6_place_157 (lv_at hl 2 rfl) ?_
            refine wz_iald (tys := TY cI cJ cT) hx hb hK hP 6 0 rfl rfl (by decide) (by constructor <;> omega) dX6_place_159 ?_
            refine wz_isub hx hb dX6_place_160 ?_
            refine wz_i2l hx hb dX6_place_161 (by constructor <;> omega) ?_
            refine lv_lload hx hb dX6_place_162 (lv_at hl 0 rfl) ?_
            refine wz_lmul hx hb dX6_place_164 ?_
            refine wz_ladd hx hb dX6_place_165 ?_
            refine lv_lload hx hb dX6_place_166 (lv_at hl 1 rfl) ?_
            refine lv_iload hx hb dX6_place_168 (lv_at hl 10 rfl) ?_
            refine wz_calll (wr := [(hd, .inr (6, [.ref rT, .ref rH, .ref rG, .ref rD, .ref rF])), (rT, .inl (cT, 4, .inr (.inr (.inr (.inr tr))))), (qT, .inr (5, [.ref qR, .int (iI sg), .int (iI bd)])), (qR, .inr (2, [.ref q1, .ref q2, .ref q3, .int (iI n)])), (q1, .inl (cI, 20, .inl (zA ft))), (q2, .inl (cI, 20, .inl (zA fx))), (q3, .inl (cI, 20, .inl (zA fy)))]) (va_runS (As := [.long (lI (((fy (z14 - 1)) * ((ft z14) - (ft (z14 - 1)))) + (((fy z14) - (fy (z14 - 1))) * (t - (ft (z14 - 1)))))), .long (lI ((ft z14) - (ft (z14 - 1)))), .int (iI w)]) (rest := []) ⟨hx, hb, hml, hown, hts⟩ (k_X6_lowestTerm l D cI cJ cT H.size (((fy (z14 - 1)) * ((ft z14) - (ft (z14 - 1)))) + (((fy z14) - (fy (z14 - 1))) * (t - (ft (z14 - 1))))) ((ft z14) - (ft (z14 - 1))) w (by constructor <;> omega) (by constructor <;> omega) (hwa)) (va_cwS 3 hts gX6_place_X6_lowestTerm rfl rfl rfl (by decide +kernel) ⟨Nat.le_of_ble_eq_true rfl, Nat.le_of_ble_eq_true rfl⟩) (wz_preS hK hP hD [] (by decide) rfl rfl) rfl rfl hl.1 rfl (lv_room (Nat.le_of_ble_eq_true rfl)) dX6_place_170 ⟨Nat.le_of_ble_eq_true rfl, Nat.le_of_ble_eq_true rfl⟩) hP hD hS hA [] [0, 1, 2, 3, 4, 5, 6] rfl rfl rfl (by decide) (fun z170 u H locs hw170 hP hD hS => ?_)
            have hP : va_P D vwCl [(hd, .inr (6, [.ref rT, .ref rH, .ref rG, .ref rD, .ref rF])), (rT, .inl (cT, 4, .inr (.inr (.inr (.inr tr))))), (qT, .inr (5, [.ref qR, .int (iI sg), .int (iI bd)])), (qR, .inr (2, [.ref q1, .ref q2, .ref q3, .int (iI n)])), (q1, .inl (cI, 20, .inl (zA ft))), (q2, .inl (cI, 20, .inl (zA fx))), (q3, .inl (cI, 20, .inl (zA fy)))] H := hP.sub [0, 1, 2, 3, 4, 5, 6] rfl
            have hD : va_D A [(hd, .inr (6, [.ref rT, .ref rH, .ref rG, .ref rD, .ref rF])), (rT, .inl (cT, 4, .inr (.inr (.inr (.inr tr))))), (qT, .inr (5, [.ref qR, .int (iI sg), .int (iI bd)])), (qR, .inr (2, [.ref q1, .ref q2, .ref q3, .int (iI n)])), (q1, .inl (cI, 20, .inl (zA ft))), (q2, .inl (cI, 20, .inl (zA fx))), (q3, .inl (cI, 20, .inl (zA fy)))] := hD.sub [0, 1, 2, 3, 4, 5, 6] (by decide) rfl
            subst hw170
            refine W.widen (k := 3) (n := 18) (by decide) (by decide) ?_
            exact vx_ret (wz_retl (tys := TY cI cJ cT) (z14 - 1) hx hb hr hlocks hK hP hD hS (by have e1 : z14 - 1 + 1 = z14 := (by omega); refine ⟨tk, ⟨by omega, by omega⟩, ⟨by omega, by omega⟩, by omega, (fun q => by rw [e1]; omega), ?_⟩; rw [if_neg c51]; unfold plZ; rw [if_neg (by omega), e1]) dX6_place_173)
          · skip
            refine lv_iload hx hb dX6_place_86 (lv_at hl 7 rfl) ?_
            refine wz_if_eq (tgt := 95) hx hb dX6_place_88 (by decide) (hwa) (fun c88 => ?_) (fun c88 => ?_)
            · skip
              refine lv_aload hx hb dX6_place_95 (lv_at hl 0 rfl) ?_
              refine lv_iload hx hb dX6_place_97 (lv_at hl 1 rfl) ?_
              refine wz_iald (tys := TY cI cJ cT) hx hb hK hP 6 0 rfl rfl (by decide) (by constructor <;> omega) dX6_place_99 ?_
              refine wz_i2l hx hb dX6_place_100 (by first | (have := hx1 z14; constructor <;> omega) | (have := hy1 z14; constructor <;> omega)) ?_
              refine W.widen (k := 3) (n := 18) (by decide) (by decide) ?_
              exact vx_ret (wz_retl (tys := TY cI cJ cT) z14 hx hb hr hlocks hK hP hD hS (by refine ⟨tk, ⟨by omega, by omega⟩, ⟨by omega, by omega⟩, by omega, (fun q => by have := (hn tk.2).2 z14 (by omega) (by omega); omega), ?_⟩; rw [if_neg c51]; unfold plZ; rw [if_pos (by omega)]; first | rw [if_pos c88] | rw [if_neg c88]) dX6_place_101)
            · skip
              refine lv_lconst (v := lI 1) hx hb dX6_place_91 (by decide) ?_
              refine lv_goto (tgt := 101) hx hb dX6_place_92 (by decide) ?_
              refine W.widen (k := 3) (n := 18) (by decide) (by decide) ?_
              exact vx_ret (wz_retl (tys := TY cI cJ cT) z14 hx hb hr hlocks hK hP hD hS (by refine ⟨tk, ⟨by omega, by omega⟩, ⟨by omega, by omega⟩, by omega, (fun q => by have := (hn tk.2).2 z14 (by omega) (by omega); omega), ?_⟩; rw [if_neg c51]; unfold plZ; rw [if_pos (by omega)]; first | rw [if_pos c88] | rw [if_neg c88]) dX6_place_101)
    · skip
      exact wz_throw (sa9 := sa 134) hx hb hLt hown (by decide) (hts (.classLink RX6 73 nIA) (by decide +kernel)) (hts (.initialized nIA) (by decide +kernel)) (hTV.2.2.2.2.2.2 (134, _) (List.mem_of_getElem? (i := 10) rfl)) (hat_IA (fun w hw => hts w (hgIA w hw)) hTV) hgd_IA hTH (hl.1.trans hml.symm) dX6_place_40 dX6_place_43 dX6_place_44 dX6_place_46 dX6_place_49 hT0 (by decide) (by decide) (by decide) (by decide) hlocks hK hP hD hS (Or.inr (Or.inr ⟨rfl, tk.1, tk.2, fun q => by first | omega | (have := tn (by omega); omega)⟩)) (by decide) (by decide)
set_option maxHeartbeats 4000000 in
set_option maxRecDepth 100000 in
theorem k_X6_pack (l : Launch) (hLt : l.stackTraces = false) (sa : Nat → Nat) (D : va_G) (cI cJ cT : ClassId) (sz : Nat) (hd : Nat) (rT : Nat) (rH : Nat) (rG : Nat) (rD : Nat) (rF : Nat) (tr : Nat → Option Nat) (qT : Nat) (qR : Nat) (sg : Int) (bd : Int) (q1 : Nat) (q2 : Nat) (q3 : Nat) (ft : Int → Int) (fx : Int → Int) (fy : Int → Int) (n : Int) (qb : Nat) (fb : Int → Int) (nb : Int) (a : Int) (ha : rI a) (htr : (0 ≤ a ∧ a < 4) → tr a.toNat = some qT) (hs1 : rI sg) (hn : sg = 2 → (1 ≤ n ∧ n ≤ 20) ∧ incP n ft) (ht : okT ft) (hx1 : okC fx) (hy1 : okC fy) (hB : okB fb) : vx_Met l yX6_pack wsX6_pack { frames := 8, cells := 2, slots := 12, locals := 128 } (zPx D (TY cI cJ cT) [.ref hd, .int (iI a)] [(hd, .inr (6, [.ref rT, .ref rH, .ref rG, .ref rD, .ref rF])), (rT, .inl (cT, 4, .inr (.inr (.inr (.inr tr))))), (qT, .inr (5, [.ref qR, .int (iI sg), .int (iI bd)])), (qR, .inr (2, [.ref q1, .ref q2, .ref q3, .int (iI n)])), (q1, .inl (cI, 20, .inl (zA ft))), (q2, .inl (cI, 20, .inl (zA fx))), (q3, .inl (cI, 20, .inl (zA fy))), (rG, .inr (0, [.ref qb, .int (iI nb)])), (qb, .inl (cI, 300, .inl (zA fb)))] sz sa) (zQi D (TY cI cJ cT) (va_A [(hd, .inr (6, [.ref rT, .ref rH, .ref rG, .ref rD, .ref rF])), (rT, .inl (cT, 4, .inr (.inr (.inr (.inr tr))))), (qT, .inr (5, [.ref qR, .int (iI sg), .int (iI bd)])), (qR, .inr (2, [.ref q1, .ref q2, .ref q3, .int (iI n)])), (q1, .inl (cI, 20, .inl (zA ft))), (q2, .inl (cI, 20, .inl (zA fx))), (q3, .inl (cI, 20, .inl (zA fy))), (rG, .inr (0, [.ref qb, .int (iI nb)])), (qb, .inl (cI, 300, .inl (zA fb)))] sz) (fun (z : Int) (u : (Int → Int) × Int) => z = u.2 ∧ ((0 ≤ a ∧ a < 4) ∧ sg = 2) ∧ pkR ft fx fy (Int.toNat n) (wrN 4 fb 0 n) = (u.1, u.2) ∧ 1 ≤ u.2 ∧ u.2 ≤ 261 ∧ okB (u.1)) (fun (u : (Int → Int) × Int) => [(hd, .inr (6, [.ref rT, .ref rH, .ref rG, .ref rD, .ref rF])), (rT, .inl (cT, 4, .inr (.inr (.inr (.inr tr))))), (qT, .inr (5, [.ref qR, .int (iI sg), .int (iI bd)])), (qR, .inr (2, [.ref q1, .ref q2, .ref q3, .int (iI n)])), (q1, .inl (cI, 20, .inl (zA ft))), (q2, .inl (cI, 20, .inl (zA fx))), (q3, .inl (cI, 20, .inl (zA fy))), (rG, .inr (0, [.ref qb, .int (iI u.2)])), (qb, .inl (cI, 300, .inl (zA u.1)))])) (zX D (TY cI cJ cT) (va_A [(hd, .inr (6, [.ref rT, .ref rH, .ref rG, .ref rD, .ref rF])), (rT, .inl (cT, 4, .inr (.inr (.inr (.inr tr))))), (qT, .inr (5, [.ref qR, .int (iI sg), .int (iI bd)])), (qR, .inr (2, [.ref q1, .ref q2, .ref q3, .int (iI n)])), (q1, .inl (cI, 20, .inl (zA ft))), (q2, .inl (cI, 20, .inl (zA fx))), (q3, .inl (cI, 20, .inl (zA fy))), (rG, .inr (0, [.ref qb, .int (iI nb)])), (qb, .inl (cI, 300, .inl (zA fb)))] sz) [(hd, .inr (6, [.ref rT, .ref rH, .ref rG, .ref rD, .ref rF])), (rT, .inl (cT, 4, .inr (.inr (.inr (.inr tr))))), (qT, .inr (5, [.ref qR, .int (iI sg), .int (iI bd)])), (qR, .inr (2, [.ref q1, .ref q2, .ref q3, .int (iI n)])), (q1, .inl (cI, 20, .inl (zA ft))), (q2, .inl (cI, 20, .inl (zA fx))), (q3, .inl (cI, 20, .inl (zA fy))), (rG, .inr (0, [.ref qb, .int (iI nb)])), (qb, .inl (cI, 300, .inl (zA fb)))] (fun E => (E = nIO ∧ ¬ (0 ≤ a ∧ a < 4)) ∨ (E = nIS ∧ (0 ≤ a ∧ a < 4) ∧ sg ≠ 2))) 2 12 (va_A [(hd, .inr (6, [.ref rT, .ref rH, .ref rG, .ref rD, .ref rF])), (rT, .inl (cT, 4, .inr (.inr (.inr (.inr tr))))), (qT, .inr (5, [.ref qR, .int (iI sg), .int (iI bd)])), (qR, .inr (2, [.ref q1, .ref q2, .ref q3, .int (iI n)])), (q1, .inl (cI, 20, .inl (zA ft))), (q2, .inl (cI, 20, .inl (zA fx))), (q3, .inl (cI, 20, .inl (zA fy))), (rG, .inr (0, [.ref qb, .int (iI nb)])), (qb, .inl (cI, 300, .inl (zA fb)))] sz) := by
  refine zNi (cc := cX6_pack) (maxL := 2) (ret := (some .int)) (by decide) rfl (Nat.le_of_ble_eq_true rfl) ?_
  intro p e s m below meth c A ls hE hTV hTH hT0
  obtain ⟨hx, hb, hr, hts, hown, hlocks, hml, hnm, hP, hK, hD, hA, hS, hl⟩ := hE
  have hown : s.vm.findClass RX6 = some m.cls := hown
  have hl : lv_has ls 2 [(0, .ref hd), (1, .int (iI a))] := hl
  have hin0 : ∀ w ∈ wsX00, w ∈ wsX6_pack := by decide +kernel
  have hin5 : ∀ w ∈ wsX50, w ∈ wsX6_pack := by decide +kernel
  have hin6 : ∀ w ∈ wsX60, w ∈ wsX6_pack := by decide +kernel
  refine lv_aload_n hx hb dX6_pack_0 rfl (lv_at hl 0 rfl) ?_
  refine va_get (D := D) (ci := 6) (v := .ref rG) (C := RX6) (T := TX6) (N := 5) hx hb hts hin6 hown hK hP 0 rfl rfl 2 (by decide) (hts (.fieldLink RX6 25 "DriftLog" "log" "LDriftLog$ByteRow;") (by decide +kernel)) (fun _ h9 => h9) rfl dX6_pack_1 ?_
  refine lv_aload_n hx hb dX6_pack_4 rfl (lv_at hl 0 rfl) ?_
  refine lv_iload_n hx hb dX6_pack_5 rfl (lv_at hl 1 rfl) ?_
  refine lv_iconst (v := iI 2) hx hb dX6_pack_6 rfl ?_
  refine wz_xcallr (wr := [(qR, .inr (2, [.ref q1, .ref q2, .ref q3, .int (iI n)])), (q1, .inl (cI, 20, .inl (zA ft))), (q2, .inl (cI, 20, .inl (zA fx))), (q3, .inl (cI, 20, .inl (zA fy))), (rG, .inr (0, [.ref qb, .int (iI nb)])), (qb, .inl (cI, 300, .inl (zA fb)))]) (vx_runV (As := [.int (iI a), .int (iI 2)]) (rest := [.ref rG]) ⟨hx, hb, hml, hown, hts⟩ (k_X6_trackIn l hLt sa D cI cJ cT s.heap.size hd rT rH rG rD rF tr qT qR sg bd a 2 (ha) (htr) (hs1) (by decide)) (cwV 2 hts gX6_pack_X6_trackIn rfl rfl rfl (by decide +kernel) ⟨Nat.le_of_ble_eq_true rfl, Nat.le_of_ble_eq_true rfl⟩) (wz_preVx hK hP hD hTV hTH hS hA [0, 1, 2] (by decide) rfl rfl 6 0 rfl rfl) rfl rfl hl.1 rfl (lv_room (Nat.le_of_ble_eq_true rfl)) dX6_pack_7 ⟨Nat.le_of_ble_eq_true rfl, Nat.le_of_ble_eq_true rfl⟩) hK hP hD hS hA [0, 1, 2] [3, 4, 5, 6, 7, 8] rfl rfl rfl (by decide) [6, 7, 8, 0, 1, 2, 3, 4, 5] rfl (by decide) rfl hT0 hlocks (fun E q => q) (by decide) (by decide) (fun z7 u H locs hw7 hP hD hS => ?_)
  have hP : va_P D vwCl [(hd, .inr (6, [.ref rT, .ref rH, .ref rG, .ref rD, .ref rF])), (rT, .inl (cT, 4, .inr (.inr (.inr (.inr tr))))), (qT, .inr (5, [.ref qR, .int (iI sg), .int (iI bd)])), (qR, .inr (2, [.ref q1, .ref q2, .ref q3, .int (iI n)])), (q1, .inl (cI, 20, .inl (zA ft))), (q2, .inl (cI, 20, .inl (zA fx))), (q3, .inl (cI, 20, .inl (zA fy))), (rG, .inr (0, [.ref qb, .int (iI nb)])), (qb, .inl (cI, 300, .inl (zA fb)))] H := hP.sub [6, 7, 8, 0, 1, 2, 3, 4, 5] rfl
  have hD : va_D A [(hd, .inr (6, [.ref rT, .ref rH, .ref rG, .ref rD, .ref rF])), (rT, .inl (cT, 4, .inr (.inr (.inr (.inr tr))))), (qT, .inr (5, [.ref qR, .int (iI sg), .int (iI bd)])), (qR, .inr (2, [.ref q1, .ref q2, .ref q3, .int (iI n)])), (q1, .inl (cI, 20, .inl (zA ft))), (q2, .inl (cI, 20, .inl (zA fx))), (q3, .inl (cI, 20, .inl (zA fy))), (rG, .inr (0, [.ref qb, .int (iI nb)])), (qb, .inl (cI, 300, .inl (zA fb)))] := hD.sub [6, 7, 8, 0, 1, 2, 3, 4, 5] (by decide) rfl
  obtain ⟨hz7, hv7⟩ := hw7
  have hz7 := hz7.symm
  subst hz7
  have tk := hv7
  refine va_get (D := D) (ci := 5) (v := .ref qR) (C := RX5) (T := TX5) (N := 3) hx hb hts hin5 hown hK hP 2 rfl rfl 0 (by decide) (hts (.fieldLink RX6 52 "DriftLog$Track" "row" "LDriftLog$Row;") (by decide +kernel)) (fun _ h9 => h9) rfl dX6_pack_10 ?_
  refine wz_callv (wr := [(hd, .inr (6, [.ref rT, .ref rH, .ref rG, .ref rD, .ref rF])), (rT, .inl (cT, 4, .inr (.inr (.inr (.inr tr))))), (qT, .inr (5, [.ref qR, .int (iI sg), .int (iI bd)]))]) (va_runV (As := [.ref qR]) (rest := []) ⟨hx, hb, hml, hown, hts⟩ (k_X0_write l D cI cJ cT H.size rG qb fb nb qR q1 q2 q3 ft fx fy n (ht) (hx1) (hy1) ((hn tk.2).2) ((hn tk.2).1) (hB)) (cwV 1 hts gX6_pack_X0_write rfl rfl rfl (by decide +kernel) ⟨Nat.le_of_ble_eq_true rfl, Nat.le_of_ble_eq_true rfl⟩) (wz_preV hK hP hD [7, 8, 3, 4, 5, 6] (by decide) rfl rfl 0 7 rfl rfl) rfl rfl hl.1 rfl (lv_room (Nat.le_of_ble_eq_true rfl)) dX6_pack_13 ⟨Nat.le_of_ble_eq_true rfl, Nat.le_of_ble_eq_true rfl⟩) hP hD hS hA [7, 8, 3, 4, 5, 6] [0, 1, 2] rfl rfl rfl (by decide) (fun  u H locs hw13 hP hD hS => ?_)
  obtain ⟨gb, gn⟩ := u
  try dsimp only at hw13
  have hP : va_P D vwCl [(hd, .inr (6, [.ref rT, .ref rH, .ref rG, .ref rD, .ref rF])), (rT, .inl (cT, 4, .inr (.inr (.inr (.inr tr))))), (qT, .inr (5, [.ref qR, .int (iI sg), .int (iI bd)])), (qR, .inr (2, [.ref q1, .ref q2, .ref q3, .int (iI n)])), (q1, .inl (cI, 20, .inl (zA ft))), (q2, .inl (cI, 20, .inl (zA fx))), (q3, .inl (cI, 20, .inl (zA fy))), (rG, .inr (0, [.ref qb, .int (iI gn)])), (qb, .inl (cI, 300, .inl (zA gb)))] H := hP.sub [0, 1, 2, 5, 6, 7, 8, 3, 4] rfl
  have hD : va_D A [(hd, .inr (6, [.ref rT, .ref rH, .ref rG, .ref rD, .ref rF])), (rT, .inl (cT, 4, .inr (.inr (.inr (.inr tr))))), (qT, .inr (5, [.ref qR, .int (iI sg), .int (iI bd)])), (qR, .inr (2, [.ref q1, .ref q2, .ref q3, .int (iI n)])), (q1, .inl (cI, 20, .inl (zA ft))), (q2, .inl (cI, 20, .inl (zA fx))), (q3, .inl (cI, 20, .inl (zA fy))), (rG, .inr (0, [.ref qb, .int (iI gn)])), (qb, .inl (cI, 300, .inl (zA gb)))] := hD.sub [0, 1, 2, 5, 6, 7, 8, 3, 4] (by decide) rfl
  refine lv_aload_n hx hb dX6_pack_16 rfl (lv_at hl 0 rfl) ?_
  refine va_get (D := D) (ci := 6) (v := .ref rG) (C := RX6) (T := TX6) (N := 5) hx hb hts hin6 hown hK hP 0 rfl rfl 2 (by decide) (hts (.fieldLink RX6 25 "DriftLog" "log" "LDriftLog$ByteRow;") (by decide +kernel)) (fun _ h9 => h9) rfl dX6_pack_17 ?_
  refine va_get (D := D) (ci := 0) (v := .int (iI gn)) (C := RX0) (T := TX0) (N := 2) hx hb hts hin0 hown hK hP 7 rfl rfl 1 (by decide) (hts (.fieldLink RX6 144 "DriftLog$ByteRow" "size" "I") (by decide +kernel)) (fun _ h9 => h9) rfl dX6_pack_20 ?_
  exact vx_ret (wz_reti (tys := TY cI cJ cT) (gb, gn) hx hb hr hlocks hK hP hD hS (by (try dsimp only); exact (⟨rfl, tk, hw13⟩)) dX6_pack_23)
set_option maxHeartbeats 4000000 in
set_option maxRecDepth 100000 in
theorem k_X6_bytes (l : Launch) (D : va_G) (cI cJ cT : ClassId) (sz : Nat) (hd : Nat) (rT : Nat) (rH : Nat) (rG : Nat) (rD : Nat) (rF : Nat) (qb : Nat) (fb : Int → Int) (nb : Int) (k : Int) (hnb : 0 ≤ nb ∧ nb ≤ 300) (hk : rI k) : Met l yX6_bytes wsX6_bytes { frames := 0, cells := 0, slots := 0, locals := 0 } (zPc D (TY cI cJ cT) [.ref hd, .int (iI k)] [(hd, .inr (6, [.ref rT, .ref rH, .ref rG, .ref rD, .ref rF])), (rG, .inr (0, [.ref qb, .int (iI nb)])), (qb, .inl (cI, 300, .inl (zA fb)))] sz) (zQi D (TY cI cJ cT) (va_A [(hd, .inr (6, [.ref rT, .ref rH, .ref rG, .ref rD, .ref rF])), (rG, .inr (0, [.ref qb, .int (iI nb)])), (qb, .inl (cI, 300, .inl (zA fb)))] sz) (fun (z : Int) (u : Unit) => z = (if k = -1 then nb else if k < 0 ∨ nb ≤ k then -1 else fb k)) (fun (u : Unit) => [(hd, .inr (6, [.ref rT, .ref rH, .ref rG, .ref rD, .ref rF])), (rG, .inr (0, [.ref qb, .int (iI nb)])), (qb, .inl (cI, 300, .inl (zA fb)))])) 0 0 (va_A [(hd, .inr (6, [.ref rT, .ref rH, .ref rG, .ref rD, .ref rF])), (rG, .inr (0, [.ref qb, .int (iI nb)])), (qb, .inl (cI, 300, .inl (zA fb)))] sz) := by
  refine zMi (cc := cX6_bytes) (maxL := 2) (ret := (some .int)) (by decide) rfl (Nat.le_of_ble_eq_true rfl) ?_
  intro p e s m below meth c A ls hE
  obtain ⟨hx, hb, hr, hts, hown, hlocks, hml, hnm, hP, hK, hD, hA, hS, hl⟩ := hE
  have hown : s.vm.findClass RX6 = some m.cls := hown
  have hl : lv_has ls 2 [(0, .ref hd), (1, .int (iI k))] := hl
  have hin0 : ∀ w ∈ wsX00, w ∈ wsX6_bytes := by decide +kernel
  have hin6 : ∀ w ∈ wsX60, w ∈ wsX6_bytes := by decide +kernel
  obtain ⟨Q, hQ⟩ : ∃ Q, Q = MQ below (zQi D (TY cI cJ cT) A (fun (z : Int) (u : Unit) => z = (if k = -1 then nb else if k < 0 ∨ nb ≤ k then -1 else fb k)) (fun (u : Unit) => [(hd, .inr (6, [.ref rT, .ref rH, .ref rG, .ref rD, .ref rF])), (rG, .inr (0, [.ref qb, .int (iI nb)])), (qb, .inl (cI, 300, .inl (zA fb)))])) ([.ref hd, .int (iI k)] : List Value).toArray s 0 0 A := ⟨_, rfl⟩
  rw [← hQ]
  refine lv_iload_n hx hb dX6_bytes_0 rfl (lv_at hl 1 rfl) ?_
  refine lv_iconst (v := iI (-1)) hx hb dX6_bytes_1 rfl ?_
  refine wz_icmp_ne (tgt := 13) hx hb dX6_bytes_2 (by decide) ⟨by omega, by omega⟩ (by decide) (fun c2 => ?_) (fun c2 => ?_)
  · skip
    refine lv_iload_n hx hb dX6_bytes_13 rfl (lv_at hl 1 rfl) ?_
    refine wz_if_lt (tgt := 40) hx hb dX6_bytes_14 (by decide) ⟨by omega, by omega⟩ (fun c14 => ?_) (fun c14 => ?_)
    · skip
      refine lv_iconst (v := iI (-1)) hx hb dX6_bytes_40 rfl ?_
      rw [hQ]
      exact wz_reti (tys := TY cI cJ cT) () hx hb hr hlocks hK hP hD hS (by rw [if_neg c2, if_pos (by omega)]) dX6_bytes_41
    · skip
      refine lv_iload_n hx hb dX6_bytes_17 rfl (lv_at hl 1 rfl) ?_
      refine lv_aload_n hx hb dX6_bytes_18 rfl (lv_at hl 0 rfl) ?_
      refine va_get (D := D) (ci := 6) (v := .ref rG) (C := RX6) (T := TX6) (N := 5) hx hb hts hin6 hown hK hP 0 rfl rfl 2 (by decide) (hts (.fieldLink RX6 25 "DriftLog" "log" "LDriftLog$ByteRow;") (by decide +kernel)) (fun _ h9 => h9) rfl dX6_bytes_19 ?_
      refine va_get (D := D) (ci := 0) (v := .int (iI nb)) (C := RX0) (T := TX0) (N := 2) hx hb hts hin0 hown hK hP 1 rfl rfl 1 (by decide) (hts (.fieldLink RX6 144 "DriftLog$ByteRow" "size" "I") (by decide +kernel)) (fun _ h9 => h9) rfl dX6_bytes_22 ?_
      refine wz_icmp_ge (tgt := 40) hx hb dX6_bytes_25 (by decide) ⟨by omega, by omega⟩ ⟨by omega, by omega⟩ (fun c25 => ?_) (fun c25 => ?_)
      · skip
        refine lv_iconst (v := iI (-1)) hx hb dX6_bytes_40 rfl ?_
        rw [hQ]
        exact wz_reti (tys := TY cI cJ cT) () hx hb hr hlocks hK hP hD hS (by rw [if_neg c2, if_pos (by omega)]) dX6_bytes_41
      · skip
        refine lv_aload_n hx hb dX6_bytes_28 rfl (lv_at hl 0 rfl) ?_
        refine va_get (D := D) (ci := 6) (v := .ref rG) (C := RX6) (T := TX6) (N := 5) hx hb hts hin6 hown hK hP 0 rfl rfl 2 (by decide) (hts (.fieldLink RX6 25 "DriftLog" "log" "LDriftLog$ByteRow;") (by decide +kernel)) (fun _ h9 => h9) rfl dX6_bytes_29 ?_
        refine va_get (D := D) (ci := 0) (v := .ref qb) (C := RX0) (T := TX0) (N := 2) hx hb hts hin0 hown hK hP 1 rfl rfl 0 (by decide) (hts (.fieldLink RX6 145 "DriftLog$ByteRow" "data" "[I") (by decide +kernel)) (fun _ h9 => h9) rfl dX6_bytes_32 ?_
        refine lv_iload_n hx hb dX6_bytes_35 rfl (lv_at hl 1 rfl) ?_
        refine wz_iald (tys := TY cI cJ cT) hx hb hK hP 2 0 rfl rfl (by decide) (by constructor <;> omega) dX6_bytes_36 ?_
        refine lv_goto (tgt := 41) hx hb dX6_bytes_37 (by decide) ?_
        rw [hQ]
        exact wz_reti (tys := TY cI cJ cT) () hx hb hr hlocks hK hP hD hS (by rw [if_neg c2, if_neg (by omega)]) dX6_bytes_41
  · skip
    refine lv_aload_n hx hb dX6_bytes_5 rfl (lv_at hl 0 rfl) ?_
    refine va_get (D := D) (ci := 6) (v := .ref rG) (C := RX6) (T := TX6) (N := 5) hx hb hts hin6 hown hK hP 0 rfl rfl 2 (by decide) (hts (.fieldLink RX6 25 "DriftLog" "log" "LDriftLog$ByteRow;") (by decide +kernel)) (fun _ h9 => h9) rfl dX6_bytes_6 ?_
    refine va_get (D := D) (ci := 0) (v := .int (iI nb)) (C := RX0) (T := TX0) (N := 2) hx hb hts hin0 hown hK hP 1 rfl rfl 1 (by decide) (hts (.fieldLink RX6 144 "DriftLog$ByteRow" "size" "I") (by decide +kernel)) (fun _ h9 => h9) rfl dX6_bytes_9 ?_
    rw [hQ]
    exact wz_reti (tys := TY cI cJ cT) () hx hb hr hlocks hK hP hD hS (by rw [if_pos c2]) dX6_bytes_12
set_option maxHeartbeats 4000000 in
set_option maxRecDepth 100000 in
theorem k_X6_put (l : Launch) (D : va_G) (cI cJ cT : ClassId) (sz : Nat) (hd : Nat) (rT : Nat) (rH : Nat) (rG : Nat) (rD : Nat) (rF : Nat) (qb : Nat) (fb : Int → Int) (nb : Int) (n : Int) (pt : Int) (hnb : 0 ≤ nb ∧ nb ≤ 300) (hn : rI n) (hpt : -9223372036854775808 ≤ pt ∧ pt ≤ 9223372036854775807) : Met l yX6_put wsX6_put { frames := 1, cells := 0, slots := 0, locals := 21 } (zPc D (TY cI cJ cT) [.ref hd, .int (iI n), .long (lI pt)] [(hd, .inr (6, [.ref rT, .ref rH, .ref rG, .ref rD, .ref rF])), (rG, .inr (0, [.ref qb, .int (iI nb)])), (qb, .inl (cI, 300, .inl (zA fb)))] sz) (zQi D (TY cI cJ cT) (va_A [(hd, .inr (6, [.ref rT, .ref rH, .ref rG, .ref rD, .ref rF])), (rG, .inr (0, [.ref qb, .int (iI nb)])), (qb, .inl (cI, 300, .inl (zA fb)))] sz) (fun (z : Int) (u : (Int → Int) × Int) => (¬ (1 ≤ n ∧ n ≤ 8 ∧ nb + n ≤ 300) → z = 0 ∧ u.1 = fb ∧ u.2 = nb) ∧ ((1 ≤ n ∧ n ≤ 8 ∧ nb + n ≤ 300) → z = 1 ∧ ptN (Int.toNat n) fb nb pt = (u.1, u.2))) (fun (u : (Int → Int) × Int) => [(hd, .inr (6, [.ref rT, .ref rH, .ref rG, .ref rD, .ref rF])), (rG, .inr (0, [.ref qb, .int (iI u.2)])), (qb, .inl (cI, 300, .inl (zA u.1)))])) 0 0 (va_A [(hd, .inr (6, [.ref rT, .ref rH, .ref rG, .ref rD, .ref rF])), (rG, .inr (0, [.ref qb, .int (iI nb)])), (qb, .inl (cI, 300, .inl (zA fb)))] sz) := by
  refine zMi (cc := cX6_put) (maxL := 5) (ret := (some .boolean)) (by decide) rfl (Nat.le_of_ble_eq_true rfl) ?_
  intro p e s m below meth c A ls hE
  obtain ⟨hx, hb, hr, hts, hown, hlocks, hml, hnm, hP, hK, hD, hA, hS, hl⟩ := hE
  have hown : s.vm.findClass RX6 = some m.cls := hown
  have hl : lv_has ls 5 [(0, .ref hd), (1, .int (iI n)), (2, .long (lI pt))] := hl
  have hin0 : ∀ w ∈ wsX00, w ∈ wsX6_put := by decide +kernel
  have hin6 : ∀ w ∈ wsX60, w ∈ wsX6_put := by decide +kernel
  obtain ⟨Q, hQ⟩ : ∃ Q, Q = MQ below (zQi D (TY cI cJ cT) A (fun (z : Int) (u : (Int → Int) × Int) => (¬ (1 ≤ n ∧ n ≤ 8 ∧ nb + n ≤ 300) → z = 0 ∧ u.1 = fb ∧ u.2 = nb) ∧ ((1 ≤ n ∧ n ≤ 8 ∧ nb + n ≤ 300) → z = 1 ∧ ptN (Int.toNat n) fb nb pt = (u.1, u.2))) (fun (u : (Int → Int) × Int) => [(hd, .inr (6, [.ref rT, .ref rH, .ref rG, .ref rD, .ref rF])), (rG, .inr (0, [.ref qb, .int (iI u.2)])), (qb, .inl (cI, 300, .inl (zA u.1)))])) ([.ref hd, .int (iI n), .long (lI pt)] : List Value).toArray s 0 0 A := ⟨_, rfl⟩
  rw [← hQ]
  refine lv_iload_n hx hb dX6_put_0 rfl (lv_at hl 1 rfl) ?_
  refine lv_iconst (v := iI 1) hx hb dX6_put_1 rfl ?_
  refine wz_icmp_lt (tgt := 26) hx hb dX6_put_2 (by decide) ⟨by omega, by omega⟩ (by decide) (fun c2 => ?_) (fun c2 => ?_)
  · skip
    refine lv_iconst (v := iI 0) hx hb dX6_put_26 rfl ?_
    rw [hQ]
    exact wz_retz (tys := TY cI cJ cT) (fb, nb) hx hb hr hlocks hK hP hD hS (by first | decide | exact bz_01 _ | omega) (by (try dsimp only); exact (⟨fun h => ⟨rfl, rfl, rfl⟩, fun h => (by exfalso; omega)⟩)) dX6_put_27
  · skip
    refine lv_iload_n hx hb dX6_put_5 rfl (lv_at hl 1 rfl) ?_
    refine lv_bipush (v := iI 8) hx hb dX6_put_6 (by decide) ?_
    refine wz_icmp_gt (tgt := 26) hx hb dX6_put_8 (by decide) ⟨by omega, by omega⟩ (by decide) (fun c8 => ?_) (fun c8 => ?_)
    · skip
      refine lv_iconst (v := iI 0) hx hb dX6_put_26 rfl ?_
      rw [hQ]
      exact wz_retz (tys := TY cI cJ cT) (fb, nb) hx hb hr hlocks hK hP hD hS (by first | decide | exact bz_01 _ | omega) (by (try dsimp only); exact (⟨fun h => ⟨rfl, rfl, rfl⟩, fun h => (by exfalso; omega)⟩)) dX6_put_27
    · skip
      refine lv_iload_n hx hb dX6_put_11 rfl (lv_at hl 1 rfl) ?_
      refine lv_sipush (v := iI 300) hx hb dX6_put_12 (by decide) ?_
      refine lv_aload_n hx hb dX6_put_15 rfl (lv_at hl 0 rfl) ?_
      refine va_get (D := D) (ci := 6) (v := .ref rG) (C := RX6) (T := TX6) (N := 5) hx hb hts hin6 hown hK hP 0 rfl rfl 2 (by decide) (hts (.fieldLink RX6 25 "DriftLog" "log" "LDriftLog$ByteRow;") (by decide +kernel)) (fun _ h9 => h9) rfl dX6_put_16 ?_
      refine va_get (D := D) (ci := 0) (v := .int (iI nb)) (C := RX0) (T := TX0) (N := 2) hx hb hts hin0 hown hK hP 1 rfl rfl 1 (by decide) (hts (.fieldLink RX6 144 "DriftLog$ByteRow" "size" "I") (by decide +kernel)) (fun _ h9 => h9) rfl dX6_put_19 ?_
      refine wz_isub hx hb dX6_put_22 ?_
      refine wz_icmp_le (tgt := 28) hx hb dX6_put_23 (by decide) ⟨by omega, by omega⟩ ⟨by omega, by omega⟩ (fun c23 => ?_) (fun c23 => ?_)
      · skip
        refine lv_iload_n hx hb dX6_put_28 rfl (lv_at hl 1 rfl) ?_
        refine lv_iconst (v := iI 1) hx hb dX6_put_29 rfl ?_
        refine wz_isub hx hb dX6_put_30 ?_
        refine lv_istore (lv' := [(4, .int (iI (n - 1))), (0, .ref hd), (1, .int (iI n)), (2, .long (lI pt))]) hx hb dX6_put_31 hl (by decide) rfl (fun ls hl => ?_)
        have LP33 : ∀ (N33 : Nat) (k : Int) (gb : Int → Int) (gn : Int) (H : Heap) (locs : List Loc) (ls : Array Slot), ((-1 ≤ k ∧ k ≤ 7) ∧ (gn + k + 1 = nb + n ∧ 0 ≤ gn) ∧ ptN n.toNat fb nb pt = ptN (k + 1).toNat gb gn pt) → (k + 1) < (N33 : Int) → va_P D vwCl [(hd, .inr (6, [.ref rT, .ref rH, .ref rG, .ref rD, .ref rF])), (rG, .inr (0, [.ref qb, .int (iI gn)])), (qb, .inl (cI, 300, .inl (zA gb)))] H → va_D A [(hd, .inr (6, [.ref rT, .ref rH, .ref rG, .ref rD, .ref rF])), (rG, .inr (0, [.ref qb, .int (iI gn)])), (qb, .inl (cI, 300, .inl (zA gb)))] → va_S A s.heap H locs → lv_has ls 5 [(0, .ref hd), (1, .int (iI n)), (2, .long (lI pt)), (4, .int (iI k))] → W p l e { frames := 1, cells := 0, slots := 0, locals := 21 } s m ([.ref hd, .int (iI n), .long (lI pt)] : List Value).toArray below meth c H locs 0 0 Q (F0 m 33 ls []) := by
          intro N33
          induction N33 with
          | zero =>
            intro k gb gn H locs ls hI hm
            obtain ⟨a1, a2, a3⟩ := hI
            exfalso; omega
          | succ N33 ih33 =>
            intro k gb gn H locs ls hI hm33 hP hD hS hl
            obtain ⟨a1, a2, a3⟩ := hI
            refine lv_iload hx hb dX6_put_33 (lv_at hl 3 rfl) ?_
            refine wz_if_lt (tgt := 63) hx hb dX6_put_35 (by decide) ⟨by omega, by omega⟩ (fun c35 => ?_) (fun c35 => ?_)
            · skip
              refine lv_iconst (v := iI 1) hx hb dX6_put_63 rfl ?_
              rw [hQ]
              exact wz_retz (tys := TY cI cJ cT) (gb, gn) hx hb hr hlocks hK hP hD hS (by first | decide | exact bz_01 _ | omega) (by (try dsimp only); exact (⟨fun h => (by exfalso; omega), fun h => ⟨rfl, by rw [a3, show (k + 1).toNat = 0 by omega]; rfl⟩⟩)) dX6_put_64
            · skip
              refine lv_aload_n hx hb dX6_put_38 rfl (lv_at hl 0 rfl) ?_
              refine va_get (D := D) (ci := 6) (v := .ref rG) (C := RX6) (T := TX6) (N := 5) hx hb hts hin6 hown hK hP 0 rfl rfl 2 (by decide) (hts (.fieldLink RX6 25 "DriftLog" "log" "LDriftLog$ByteRow;") (by decide +kernel)) (fun _ h9 => h9) rfl dX6_put_39 ?_
              refine lv_lload_n hx hb dX6_put_42 rfl (lv_at hl 2 rfl) ?_
              refine lv_bipush (v := iI 8) hx hb dX6_put_43 (by decide) ?_
              refine lv_iload hx hb dX6_put_45 (lv_at hl 3 rfl) ?_
              refine wz_imul hx hb dX6_put_47 ?_
              refine lv_lushr hx hb dX6_put_48 rfl ?_
              refine lv_l2i hx hb dX6_put_49 rfl ?_
              refine lv_sipush (v := iI 255) hx hb dX6_put_50 (by decide) ?_
              refine lv_iand hx hb dX6_put_53 ?_
              refine wz_topi (y := iI (byZ pt k)) (by_u hpt ⟨by omega, by omega⟩) ?_
              refine wz_callv (wr := [(hd, .inr (6, [.ref rT, .ref rH, .ref rG, .ref rD, .ref rF]))]) (va_runV (As := [.int (iI (byZ pt k))]) (rest := []) ⟨hx, hb, hml, hown, hts⟩ (k_X0_append l D cI cJ cT H.size rG qb gb gn (byZ pt k) (by constructor <;> omega)) (cwV 1 hts gX6_put_X0_append rfl rfl rfl (by decide +kernel) ⟨Nat.le_of_ble_eq_true rfl, Nat.le_of_ble_eq_true rfl⟩) (wz_preV hK hP hD [1, 2] (by decide) rfl rfl 0 1 rfl rfl) rfl rfl hl.1 rfl (lv_room (Nat.le_of_ble_eq_true rfl)) dX6_put_54 ⟨Nat.le_of_ble_eq_true rfl, Nat.le_of_ble_eq_true rfl⟩) hP hD hS hA [1, 2] [0] rfl rfl rfl (by decide) (fun  u H locs hw54 hP hD hS => ?_)
              have hP : va_P D vwCl [(hd, .inr (6, [.ref rT, .ref rH, .ref rG, .ref rD, .ref rF])), (rG, .inr (0, [.ref qb, .int (iI (gn + 1))])), (qb, .inl (cI, 300, .inl (zA (uZ gb gn (byZ pt k)))))] H := hP.sub [0, 1, 2] rfl
              have hD : va_D A [(hd, .inr (6, [.ref rT, .ref rH, .ref rG, .ref rD, .ref rF])), (rG, .inr (0, [.ref qb, .int (iI (gn + 1))])), (qb, .inl (cI, 300, .inl (zA (uZ gb gn (byZ pt k)))))] := hD.sub [0, 1, 2] (by decide) rfl
              refine lv_iinc (v := iI (k + (-1))) (lv' := [(4, .int (iI (k + (-1)))), (0, .ref hd), (1, .int (iI n)), (2, .long (lI pt))]) hx hb dX6_put_57 hl (k := 3) rfl (iI_add _ _) (by decide) rfl (fun ls hl => ?_)
              refine lv_goto (tgt := 33) hx hb dX6_put_60 (by decide) ?_
              exact ih33 (k + (-1)) (uZ gb gn (byZ pt k)) (gn + 1) _ _ _ ⟨(by omega), (by omega), (by rw [a3, show (k + 1).toNat = (k + (-1) + 1).toNat + 1 by omega]; show ptN _ (uZ gb gn (byZ pt ((k + (-1) + 1).toNat : Int))) (gn + 1) pt = _; rw [show (((k + (-1) + 1).toNat : Nat) : Int) = k by omega])⟩ (by omega) hP hD hS (lv_sub hl [1, 2, 3, 0] rfl)
        exact LP33 (Int.toNat ((n - 1) + 1) + 1) (n - 1) fb nb _ _ _ ⟨(by omega), (by omega), (by rw [show n - 1 + 1 = n by omega])⟩ (by omega) hP hD hS (lv_sub hl [1, 2, 3, 0] rfl)
      · skip
        refine lv_iconst (v := iI 0) hx hb dX6_put_26 rfl ?_
        rw [hQ]
        exact wz_retz (tys := TY cI cJ cT) (fb, nb) hx hb hr hlocks hK hP hD hS (by first | decide | exact bz_01 _ | omega) (by (try dsimp only); exact (⟨fun h => ⟨rfl, rfl, rfl⟩, fun h => (by exfalso; omega)⟩)) dX6_put_27
set_option maxHeartbeats 4000000 in
set_option maxRecDepth 100000 in
theorem k_X6_cut (l : Launch) (D : va_G) (cI cJ cT : ClassId) (sz : Nat) (hd : Nat) (rT : Nat) (rH : Nat) (rG : Nat) (rD : Nat) (rF : Nat) (qb : Nat) (nb : Int) (n : Int) (hnb : 0 ≤ nb ∧ nb ≤ 300) (hn : rI n) : Met l yX6_cut wsX6_cut { frames := 0, cells := 0, slots := 0, locals := 0 } (zPc D (TY cI cJ cT) [.ref hd, .int (iI n)] [(hd, .inr (6, [.ref rT, .ref rH, .ref rG, .ref rD, .ref rF])), (rG, .inr (0, [.ref qb, .int (iI nb)]))] sz) (zQi D (TY cI cJ cT) (va_A [(hd, .inr (6, [.ref rT, .ref rH, .ref rG, .ref rD, .ref rF])), (rG, .inr (0, [.ref qb, .int (iI nb)]))] sz) (fun (z : Int) (u : Int) => (¬ (0 ≤ n ∧ n ≤ nb) → z = 0 ∧ u = nb) ∧ ((0 ≤ n ∧ n ≤ nb) → z = 1 ∧ u = n)) (fun (u : Int) => [(hd, .inr (6, [.ref rT, .ref rH, .ref rG, .ref rD, .ref rF])), (rG, .inr (0, [.ref qb, .int (iI u)]))])) 0 0 (va_A [(hd, .inr (6, [.ref rT, .ref rH, .ref rG, .ref rD, .ref rF])), (rG, .inr (0, [.ref qb, .int (iI nb)]))] sz) := by
  refine zMi (cc := cX6_cut) (maxL := 2) (ret := (some .boolean)) (by decide) rfl (Nat.le_of_ble_eq_true rfl) ?_
  intro p e s m below meth c A ls hE
  obtain ⟨hx, hb, hr, hts, hown, hlocks, hml, hnm, hP, hK, hD, hA, hS, hl⟩ := hE
  have hown : s.vm.findClass RX6 = some m.cls := hown
  have hl : lv_has ls 2 [(0, .ref hd), (1, .int (iI n))] := hl
  have hin0 : ∀ w ∈ wsX00, w ∈ wsX6_cut := by decide +kernel
  have hin6 : ∀ w ∈ wsX60, w ∈ wsX6_cut := by decide +kernel
  obtain ⟨Q, hQ⟩ : ∃ Q, Q = MQ below (zQi D (TY cI cJ cT) A (fun (z : Int) (u : Int) => (¬ (0 ≤ n ∧ n ≤ nb) → z = 0 ∧ u = nb) ∧ ((0 ≤ n ∧ n ≤ nb) → z = 1 ∧ u = n)) (fun (u : Int) => [(hd, .inr (6, [.ref rT, .ref rH, .ref rG, .ref rD, .ref rF])), (rG, .inr (0, [.ref qb, .int (iI u)]))])) ([.ref hd, .int (iI n)] : List Value).toArray s 0 0 A := ⟨_, rfl⟩
  rw [← hQ]
  refine lv_iload_n hx hb dX6_cut_0 rfl (lv_at hl 1 rfl) ?_
  refine wz_if_lt (tgt := 15) hx hb dX6_cut_1 (by decide) ⟨by omega, by omega⟩ (fun c1 => ?_) (fun c1 => ?_)
  · skip
    refine lv_iconst (v := iI 0) hx hb dX6_cut_15 rfl ?_
    rw [hQ]
    exact wz_retz (tys := TY cI cJ cT) nb hx hb hr hlocks hK hP hD hS (by first | decide | exact bz_01 _ | omega) (⟨fun h => (by first | exact ⟨rfl, rfl⟩ | (exfalso; omega)), fun h => (by first | exact ⟨rfl, rfl⟩ | (exfalso; omega))⟩) dX6_cut_16
  · skip
    refine lv_iload_n hx hb dX6_cut_4 rfl (lv_at hl 1 rfl) ?_
    refine lv_aload_n hx hb dX6_cut_5 rfl (lv_at hl 0 rfl) ?_
    refine va_get (D := D) (ci := 6) (v := .ref rG) (C := RX6) (T := TX6) (N := 5) hx hb hts hin6 hown hK hP 0 rfl rfl 2 (by decide) (hts (.fieldLink RX6 25 "DriftLog" "log" "LDriftLog$ByteRow;") (by decide +kernel)) (fun _ h9 => h9) rfl dX6_cut_6 ?_
    refine va_get (D := D) (ci := 0) (v := .int (iI nb)) (C := RX0) (T := TX0) (N := 2) hx hb hts hin0 hown hK hP 1 rfl rfl 1 (by decide) (hts (.fieldLink RX6 144 "DriftLog$ByteRow" "size" "I") (by decide +kernel)) (fun _ h9 => h9) rfl dX6_cut_9 ?_
    refine wz_icmp_le (tgt := 17) hx hb dX6_cut_12 (by decide) ⟨by omega, by omega⟩ ⟨by omega, by omega⟩ (fun c12 => ?_) (fun c12 => ?_)
    · skip
      refine lv_aload_n hx hb dX6_cut_17 rfl (lv_at hl 0 rfl) ?_
      refine va_get (D := D) (ci := 6) (v := .ref rG) (C := RX6) (T := TX6) (N := 5) hx hb hts hin6 hown hK hP 0 rfl rfl 2 (by decide) (hts (.fieldLink RX6 25 "DriftLog" "log" "LDriftLog$ByteRow;") (by decide +kernel)) (fun _ h9 => h9) rfl dX6_cut_18 ?_
      refine lv_iload_n hx hb dX6_cut_21 rfl (lv_at hl 1 rfl) ?_
      refine va_put (D := D) (ci := 0) (v := .int (iI n)) (ty := .int) (C := RX0) (T := TX0) (N := 2) hx hb hts hin0 tyX0 tyX0_ok nmX0 hown hK hP hD hS 1 rfl rfl 1 (by decide) (hts (.fieldLink RX6 144 "DriftLog$ByteRow" "size" "I") (by decide +kernel)) (fun _ h9 => h9) rfl (by decide +kernel) rfl rfl (Nat.le_of_ble_eq_true rfl) dX6_cut_22 (fun H locs hP hD hS => ?_)
      have hP : va_P D vwCl [(hd, .inr (6, [.ref rT, .ref rH, .ref rG, .ref rD, .ref rF])), (rG, .inr (0, [.ref qb, .int (iI n)]))] H := hP
      have hD : va_D A [(hd, .inr (6, [.ref rT, .ref rH, .ref rG, .ref rD, .ref rF])), (rG, .inr (0, [.ref qb, .int (iI n)]))] := hD
      refine lv_iconst (v := iI 1) hx hb dX6_cut_25 rfl ?_
      rw [hQ]
      exact wz_retz (tys := TY cI cJ cT) n hx hb hr hlocks hK hP hD hS (by first | decide | exact bz_01 _ | omega) (⟨fun h => (by first | exact ⟨rfl, rfl⟩ | (exfalso; omega)), fun h => (by first | exact ⟨rfl, rfl⟩ | (exfalso; omega))⟩) dX6_cut_26
    · skip
      refine lv_iconst (v := iI 0) hx hb dX6_cut_15 rfl ?_
      rw [hQ]
      exact wz_retz (tys := TY cI cJ cT) nb hx hb hr hlocks hK hP hD hS (by first | decide | exact bz_01 _ | omega) (⟨fun h => (by first | exact ⟨rfl, rfl⟩ | (exfalso; omega)), fun h => (by first | exact ⟨rfl, rfl⟩ | (exfalso; omega))⟩) dX6_cut_16
