set_option maxHeartbeats 4000000 in
set_option maxRecDepth 100000 in
theorem k_X6_trackAt (l : Launch) (hLt : l.stackTraces = false) (sa : Nat → Nat) (D : va_G) (cI cJ cT : ClassId) (sz : Nat) (hd : Nat) (rT : Nat) (rH : Nat) (rG : Nat) (rD : Nat) (rF : Nat) (tr : Nat → Option Nat) (a : Int) (qT : Nat) (ha : rI a) (htr : (0 ≤ a ∧ a < 4) → tr a.toNat = some qT) : vx_Met l yX6_trackAt wsX6_trackAt { frames := 6, cells := 1, slots := 6, locals := 84 } (zPx D (TY cI cJ cT) [.ref hd, .int (iI a)] [(hd, .inr (6, [.ref rT, .ref rH, .ref rG, .ref rD, .ref rF])), (rT, .inl (cT, 4, .inr (.inr (.inr (.inr tr)))))] sz sa) (zQr D (TY cI cJ cT) (va_A [(hd, .inr (6, [.ref rT, .ref rH, .ref rG, .ref rD, .ref rF])), (rT, .inl (cT, 4, .inr (.inr (.inr (.inr tr)))))] sz) (fun (z : Nat) (u : Unit) => z = qT ∧ (0 ≤ a ∧ a < 4)) (fun (u : Unit) => [(hd, .inr (6, [.ref rT, .ref rH, .ref rG, .ref rD, .ref rF])), (rT, .inl (cT, 4, .inr (.inr (.inr (.inr tr)))))])) (zX D (TY cI cJ cT) (va_A [(hd, .inr (6, [.ref rT, .ref rH, .ref rG, .ref rD, .ref rF])), (rT, .inl (cT, 4, .inr (.inr (.inr (.inr tr)))))] sz) [(hd, .inr (6, [.ref rT, .ref rH, .ref rG, .ref rD, .ref rF])), (rT, .inl (cT, 4, .inr (.inr (.inr (.inr tr)))))] (fun E => E = nIO ∧ ¬ (0 ≤ a ∧ a < 4))) 1 6 (va_A [(hd, .inr (6, [.ref rT, .ref rH, .ref rG, .ref rD, .ref rF])), (rT, .inl (cT, 4, .inr (.inr (.inr (.inr tr)))))] sz) := by
  refine zNr (cc := cX6_trackAt) (maxL := 2) (ret := (some (.object "DriftLog$Track"))) (by decide) rfl (Nat.le_of_ble_eq_true rfl) ?_
  intro p e s m below meth c A ls hE hTV hTH hT0
  obtain ⟨hx, hb, hr, hts, hown, hlocks, hml, hnm, hP, hK, hD, hA, hS, hl⟩ := hE
  have hown : s.vm.findClass RX6 = some m.cls := hown
  have hl : lv_has ls 2 [(0, .ref hd), (1, .int (iI a))] := hl
  have hin6 : ∀ w ∈ wsX60, w ∈ wsX6_trackAt := by decide +kernel
  have hgIO : ∀ w ∈ (vx_atS RX6 121 nIO nmE).filter goodWord, w ∈ wsX6_trackAt := by decide +kernel
  refine lv_iload_n hx hb dX6_trackAt_0 rfl (lv_at hl 1 rfl) ?_
  refine wz_calli (wr := [(hd, .inr (6, [.ref rT, .ref rH, .ref rG, .ref rD, .ref rF])), (rT, .inl (cT, 4, .inr (.inr (.inr (.inr tr)))))]) (va_runS (As := [.int (iI a)]) (rest := []) ⟨hx, hb, hml, hown, hts⟩ (k_X6_isTrack l D cI cJ cT s.heap.size a (ha)) (va_cwS 1 hts gX6_trackAt_X6_isTrack rfl rfl rfl (by decide +kernel) ⟨Nat.le_of_ble_eq_true rfl, Nat.le_of_ble_eq_true rfl⟩) (wz_preS hK hP hD [] (by decide) rfl rfl) rfl rfl hl.1 rfl (lv_room (Nat.le_of_ble_eq_true rfl)) dX6_trackAt_1 ⟨Nat.le_of_ble_eq_true rfl, Nat.le_of_ble_eq_true rfl⟩) hP hD hS hA [] [0, 1] rfl rfl rfl (by decide) (fun z1 u H locs hw1 hP hD hS => ?_)
  have hP : va_P D vwCl [(hd, .inr (6, [.ref rT, .ref rH, .ref rG, .ref rD, .ref rF])), (rT, .inl (cT, 4, .inr (.inr (.inr (.inr tr)))))] H := hP.sub [0, 1] rfl
  have hD : va_D A [(hd, .inr (6, [.ref rT, .ref rH, .ref rG, .ref rD, .ref rF])), (rT, .inl (cT, 4, .inr (.inr (.inr (.inr tr)))))] := hD.sub [0, 1] (by decide) rfl
  subst hw1
  refine wz_ifb_ne (tgt := 17) hx hb dX6_trackAt_4 (by decide) (fun c4 => ?_) (fun c4 => ?_)
  · skip
    refine lv_aload_n hx hb dX6_trackAt_17 rfl (lv_at hl 0 rfl) ?_
    refine va_get (D := D) (ci := 6) (v := .ref rT) (C := RX6) (T := TX6) (N := 5) hx hb hts hin6 hown hK hP 0 rfl rfl 0 (by decide) (hts (.fieldLink RX6 11 "DriftLog" "tracks" "[LDriftLog$Track;") (by decide +kernel)) (fun _ h9 => h9) rfl dX6_trackAt_18 ?_
    refine lv_iload_n hx hb dX6_trackAt_21 rfl (lv_at hl 1 rfl) ?_
    refine wz_aald (tys := TY cI cJ cT) hx hb hK hP 1 2 rfl rfl (by decide) (c4) (htr c4) dX6_trackAt_22 ?_
    refine W.widen (k := 1) (n := 6) (by decide) (by decide) ?_
    exact vx_ret (wz_retr (tys := TY cI cJ cT) () hx hb hr (Or.inl ⟨_, rfl⟩) hlocks hK hP hD hS (⟨rfl, c4⟩) dX6_trackAt_23)
  · skip
    exact wz_throw (sa9 := sa 182) hx hb hLt hown (by decide) (hts (.classLink RX6 117 nIO) (by decide +kernel)) (hts (.initialized nIO) (by decide +kernel)) (hTV.2.2.2.2.2.2 (182, _) (List.mem_of_getElem? (i := 0) rfl)) (hat_IO (fun w hw => hts w (hgIO w hw)) hTV) hgd_IO hTH (hl.1.trans hml.symm) dX6_trackAt_7 dX6_trackAt_10 dX6_trackAt_11 dX6_trackAt_13 dX6_trackAt_16 hT0 (by decide) (by decide) (by decide) (by decide) hlocks hK hP hD hS (⟨rfl, c4⟩) (by decide) (by decide)
set_option maxHeartbeats 4000000 in
set_option maxRecDepth 100000 in
theorem k_X6_trackIn (l : Launch) (hLt : l.stackTraces = false) (sa : Nat → Nat) (D : va_G) (cI cJ cT : ClassId) (sz : Nat) (hd : Nat) (rT : Nat) (rH : Nat) (rG : Nat) (rD : Nat) (rF : Nat) (tr : Nat → Option Nat) (qT : Nat) (qR : Nat) (sg : Int) (bd : Int) (a : Int) (w : Int) (ha : rI a) (htr : (0 ≤ a ∧ a < 4) → tr a.toNat = some qT) (hs1 : rI sg) (hw1 : rI w) : vx_Met l yX6_trackIn wsX6_trackIn { frames := 7, cells := 2, slots := 12, locals := 105 } (zPx D (TY cI cJ cT) [.ref hd, .int (iI a), .int (iI w)] [(hd, .inr (6, [.ref rT, .ref rH, .ref rG, .ref rD, .ref rF])), (rT, .inl (cT, 4, .inr (.inr (.inr (.inr tr))))), (qT, .inr (5, [.ref qR, .int (iI sg), .int (iI bd)]))] sz sa) (zQr D (TY cI cJ cT) (va_A [(hd, .inr (6, [.ref rT, .ref rH, .ref rG, .ref rD, .ref rF])), (rT, .inl (cT, 4, .inr (.inr (.inr (.inr tr))))), (qT, .inr (5, [.ref qR, .int (iI sg), .int (iI bd)]))] sz) (fun (z : Nat) (u : Unit) => z = qT ∧ (0 ≤ a ∧ a < 4) ∧ sg = w) (fun (u : Unit) => [(hd, .inr (6, [.ref rT, .ref rH, .ref rG, .ref rD, .ref rF])), (rT, .inl (cT, 4, .inr (.inr (.inr (.inr tr))))), (qT, .inr (5, [.ref qR, .int (iI sg), .int (iI bd)]))])) (zX D (TY cI cJ cT) (va_A [(hd, .inr (6, [.ref rT, .ref rH, .ref rG, .ref rD, .ref rF])), (rT, .inl (cT, 4, .inr (.inr (.inr (.inr tr))))), (qT, .inr (5, [.ref qR, .int (iI sg), .int (iI bd)]))] sz) [(hd, .inr (6, [.ref rT, .ref rH, .ref rG, .ref rD, .ref rF])), (rT, .inl (cT, 4, .inr (.inr (.inr (.inr tr))))), (qT, .inr (5, [.ref qR, .int (iI sg), .int (iI bd)]))] (fun E => (E = nIO ∧ ¬ (0 ≤ a ∧ a < 4)) ∨ (E = nIS ∧ (0 ≤ a ∧ a < 4) ∧ sg ≠ w))) 2 12 (va_A [(hd, .inr (6, [.ref rT, .ref rH, .ref rG, .ref rD, .ref rF])), (rT, .inl (cT, 4, .inr (.inr (.inr (.inr tr))))), (qT, .inr (5, [.ref qR, .int (iI sg), .int (iI bd)]))] sz) := by
  refine zNr (cc := cX6_trackIn) (maxL := 4) (ret := (some (.object "DriftLog$Track"))) (by decide) rfl (Nat.le_of_ble_eq_true rfl) ?_
  intro p e s m below meth c A ls hE hTV hTH hT0
  obtain ⟨hx, hb, hr, hts, hown, hlocks, hml, hnm, hP, hK, hD, hA, hS, hl⟩ := hE
  have hown : s.vm.findClass RX6 = some m.cls := hown
  have hl : lv_has ls 4 [(0, .ref hd), (1, .int (iI a)), (2, .int (iI w))] := hl
  have hin5 : ∀ w ∈ wsX50, w ∈ wsX6_trackIn := by decide +kernel
  have hgIS : ∀ w ∈ (vx_atS RX6 65 nIS nmE).filter goodWord, w ∈ wsX6_trackIn := by decide +kernel
  refine lv_aload_n hx hb dX6_trackIn_0 rfl (lv_at hl 0 rfl) ?_
  refine lv_iload_n hx hb dX6_trackIn_1 rfl (lv_at hl 1 rfl) ?_
  refine wz_xcallr (wr := [(qT, .inr (5, [.ref qR, .int (iI sg), .int (iI bd)]))]) (vx_runV (As := [.int (iI a)]) (rest := []) ⟨hx, hb, hml, hown, hts⟩ (k_X6_trackAt l hLt sa D cI cJ cT s.heap.size hd rT rH rG rD rF tr a qT (ha) (htr)) (cwV 1 hts gX6_trackIn_X6_trackAt rfl rfl rfl (by decide +kernel) ⟨Nat.le_of_ble_eq_true rfl, Nat.le_of_ble_eq_true rfl⟩) (wz_preVx hK hP hD hTV hTH hS hA [0, 1] (by decide) rfl rfl 6 0 rfl rfl) rfl rfl hl.1 rfl (lv_room (Nat.le_of_ble_eq_true rfl)) dX6_trackIn_2 ⟨Nat.le_of_ble_eq_true rfl, Nat.le_of_ble_eq_true rfl⟩) hK hP hD hS hA [0, 1] [2] rfl rfl rfl (by decide) [1, 2, 0] rfl (by decide) rfl hT0 hlocks (fun E q => Or.inl q) (by decide) (by decide) (fun z2 u H locs hw2 hP hD hS => ?_)
  have hP : va_P D vwCl [(hd, .inr (6, [.ref rT, .ref rH, .ref rG, .ref rD, .ref rF])), (rT, .inl (cT, 4, .inr (.inr (.inr (.inr tr))))), (qT, .inr (5, [.ref qR, .int (iI sg), .int (iI bd)]))] H := hP.sub [1, 2, 0] rfl
  have hD : va_D A [(hd, .inr (6, [.ref rT, .ref rH, .ref rG, .ref rD, .ref rF])), (rT, .inl (cT, 4, .inr (.inr (.inr (.inr tr))))), (qT, .inr (5, [.ref qR, .int (iI sg), .int (iI bd)]))] := hD.sub [1, 2, 0] (by decide) rfl
  obtain ⟨hz2, hv2⟩ := hw2
  have hz2 := hz2.symm
  subst hz2
  have tk := hv2
  refine lv_astore_n (lv' := [(3, .ref qT), (0, .ref hd), (1, .int (iI a)), (2, .int (iI w))]) hx hb dX6_trackIn_5 rfl hl (by decide) rfl (fun ls hl => ?_)
  refine lv_aload_n hx hb dX6_trackIn_6 rfl (lv_at hl 0 rfl) ?_
  refine va_get (D := D) (ci := 5) (v := .int (iI sg)) (C := RX5) (T := TX5) (N := 3) hx hb hts hin5 hown hK hP 2 rfl rfl 1 (by decide) (hts (.fieldLink RX6 48 "DriftLog$Track" "state" "I") (by decide +kernel)) (fun _ h9 => h9) rfl dX6_trackIn_7 ?_
  refine lv_iload_n hx hb dX6_trackIn_10 rfl (lv_at hl 3 rfl) ?_
  refine wz_icmp_eq (tgt := 24) hx hb dX6_trackIn_11 (by decide) (hs1) (hw1) (fun c11 => ?_) (fun c11 => ?_)
  · skip
    refine lv_aload_n hx hb dX6_trackIn_24 rfl (lv_at hl 0 rfl) ?_
    refine W.widen (k := 2) (n := 12) (by decide) (by decide) ?_
    exact vx_ret (wz_retr (tys := TY cI cJ cT) () hx hb hr (Or.inl ⟨_, rfl⟩) hlocks hK hP hD hS (⟨rfl, tk, c11⟩) dX6_trackIn_25)
  · skip
    exact wz_throw (sa9 := sa 184) hx hb hLt hown (by decide) (hts (.classLink RX6 61 nIS) (by decide +kernel)) (hts (.initialized nIS) (by decide +kernel)) (hTV.2.2.2.2.2.2 (184, _) (List.mem_of_getElem? (i := 1) rfl)) (hat_IS (fun w hw => hts w (hgIS w hw)) hTV) hgd_IS hTH (hl.1.trans hml.symm) dX6_trackIn_14 dX6_trackIn_17 dX6_trackIn_18 dX6_trackIn_20 dX6_trackIn_23 hT0 (by decide) (by decide) (by decide) (by decide) hlocks hK hP hD hS (Or.inr ⟨rfl, tk, c11⟩) (by decide) (by decide)
set_option maxHeartbeats 4000000 in
set_option maxRecDepth 100000 in
theorem k_X6_open (l : Launch) (hLt : l.stackTraces = false) (sa : Nat → Nat) (D : va_G) (cI cJ cT : ClassId) (sz : Nat) (hd : Nat) (rT : Nat) (rH : Nat) (rG : Nat) (rD : Nat) (rF : Nat) (tr : Nat → Option Nat) (qT : Nat) (qR : Nat) (sg : Int) (bd : Int) (a : Int) (ha : rI a) (htr : (0 ≤ a ∧ a < 4) → tr a.toNat = some qT) (hs1 : rI sg) : vx_Met l yX6_open wsX6_open { frames := 8, cells := 2, slots := 12, locals := 128 } (zPx D (TY cI cJ cT) [.ref hd, .int (iI a)] [(hd, .inr (6, [.ref rT, .ref rH, .ref rG, .ref rD, .ref rF])), (rT, .inl (cT, 4, .inr (.inr (.inr (.inr tr))))), (qT, .inr (5, [.ref qR, .int (iI sg), .int (iI bd)]))] sz sa) (zQv D (TY cI cJ cT) (va_A [(hd, .inr (6, [.ref rT, .ref rH, .ref rG, .ref rD, .ref rF])), (rT, .inl (cT, 4, .inr (.inr (.inr (.inr tr))))), (qT, .inr (5, [.ref qR, .int (iI sg), .int (iI bd)]))] sz) (fun (u : Unit) => (0 ≤ a ∧ a < 4) ∧ sg = 0) (fun (u : Unit) => [(hd, .inr (6, [.ref rT, .ref rH, .ref rG, .ref rD, .ref rF])), (rT, .inl (cT, 4, .inr (.inr (.inr (.inr tr))))), (qT, .inr (5, [.ref qR, .int (iI 1), .int (iI bd)]))])) (zX D (TY cI cJ cT) (va_A [(hd, .inr (6, [.ref rT, .ref rH, .ref rG, .ref rD, .ref rF])), (rT, .inl (cT, 4, .inr (.inr (.inr (.inr tr))))), (qT, .inr (5, [.ref qR, .int (iI sg), .int (iI bd)]))] sz) [(hd, .inr (6, [.ref rT, .ref rH, .ref rG, .ref rD, .ref rF])), (rT, .inl (cT, 4, .inr (.inr (.inr (.inr tr))))), (qT, .inr (5, [.ref qR, .int (iI sg), .int (iI bd)]))] (fun E => (E = nIO ∧ ¬ (0 ≤ a ∧ a < 4)) ∨ (E = nIS ∧ (0 ≤ a ∧ a < 4) ∧ sg ≠ 0))) 2 12 (va_A [(hd, .inr (6, [.ref rT, .ref rH, .ref rG, .ref rD, .ref rF])), (rT, .inl (cT, 4, .inr (.inr (.inr (.inr tr))))), (qT, .inr (5, [.ref qR, .int (iI sg), .int (iI bd)]))] sz) := by
  refine zNv (cc := cX6_open) (maxL := 3) (ret := none) (by decide) rfl (Nat.le_of_ble_eq_true rfl) ?_
  intro p e s m below meth c A ls hE hTV hTH hT0
  obtain ⟨hx, hb, hr, hts, hown, hlocks, hml, hnm, hP, hK, hD, hA, hS, hl⟩ := hE
  have hown : s.vm.findClass RX6 = some m.cls := hown
  have hl : lv_has ls 3 [(0, .ref hd), (1, .int (iI a))] := hl
  have hin5 : ∀ w ∈ wsX50, w ∈ wsX6_open := by decide +kernel
  refine lv_aload_n hx hb dX6_open_0 rfl (lv_at hl 0 rfl) ?_
  refine lv_iload_n hx hb dX6_open_1 rfl (lv_at hl 1 rfl) ?_
  refine lv_iconst (v := iI 0) hx hb dX6_open_2 rfl ?_
  refine wz_xcallr (wr := []) (vx_runV (As := [.int (iI a), .int (iI 0)]) (rest := []) ⟨hx, hb, hml, hown, hts⟩ (k_X6_trackIn l hLt sa D cI cJ cT s.heap.size hd rT rH rG rD rF tr qT qR sg bd a 0 (ha) (htr) (hs1) (by decide)) (cwV 2 hts gX6_open_X6_trackIn rfl rfl rfl (by decide +kernel) ⟨Nat.le_of_ble_eq_true rfl, Nat.le_of_ble_eq_true rfl⟩) (wz_preVx hK hP hD hTV hTH hS hA [0, 1, 2] (by decide) rfl rfl 6 0 rfl rfl) rfl rfl hl.1 rfl (lv_room (Nat.le_of_ble_eq_true rfl)) dX6_open_3 ⟨Nat.le_of_ble_eq_true rfl, Nat.le_of_ble_eq_true rfl⟩) hK hP hD hS hA [0, 1, 2] [] rfl rfl rfl (by decide) [0, 1, 2] rfl (by decide) rfl hT0 hlocks (fun E q => q) (by decide) (by decide) (fun z3 u H locs hw3 hP hD hS => ?_)
  have hP : va_P D vwCl [(hd, .inr (6, [.ref rT, .ref rH, .ref rG, .ref rD, .ref rF])), (rT, .inl (cT, 4, .inr (.inr (.inr (.inr tr))))), (qT, .inr (5, [.ref qR, .int (iI sg), .int (iI bd)]))] H := hP.sub [0, 1, 2] rfl
  have hD : va_D A [(hd, .inr (6, [.ref rT, .ref rH, .ref rG, .ref rD, .ref rF])), (rT, .inl (cT, 4, .inr (.inr (.inr (.inr tr))))), (qT, .inr (5, [.ref qR, .int (iI sg), .int (iI bd)]))] := hD.sub [0, 1, 2] (by decide) rfl
  obtain ⟨hz3, hv3⟩ := hw3
  have hz3 := hz3.symm
  subst hz3
  have tk := hv3
  refine lv_astore_n (lv' := [(2, .ref qT), (0, .ref hd), (1, .int (iI a))]) hx hb dX6_open_6 rfl hl (by decide) rfl (fun ls hl => ?_)
  refine lv_aload_n hx hb dX6_open_7 rfl (lv_at hl 0 rfl) ?_
  refine lv_iconst (v := iI 1) hx hb dX6_open_8 rfl ?_
  refine va_put (D := D) (ci := 5) (v := .int (iI 1)) (ty := .int) (C := RX5) (T := TX5) (N := 3) hx hb hts hin5 tyX5 tyX5_ok nmX5 hown hK hP hD hS 2 rfl rfl 1 (by decide) (hts (.fieldLink RX6 48 "DriftLog$Track" "state" "I") (by decide +kernel)) (fun _ h9 => h9) rfl (by decide +kernel) rfl rfl (Nat.le_of_ble_eq_true rfl) dX6_open_9 (fun H locs hP hD hS => ?_)
  have hP : va_P D vwCl [(hd, .inr (6, [.ref rT, .ref rH, .ref rG, .ref rD, .ref rF])), (rT, .inl (cT, 4, .inr (.inr (.inr (.inr tr))))), (qT, .inr (5, [.ref qR, .int (iI 1), .int (iI bd)]))] H := hP
  have hD : va_D A [(hd, .inr (6, [.ref rT, .ref rH, .ref rG, .ref rD, .ref rF])), (rT, .inl (cT, 4, .inr (.inr (.inr (.inr tr))))), (qT, .inr (5, [.ref qR, .int (iI 1), .int (iI bd)]))] := hD
  exact vx_ret (wz_retv (tys := TY cI cJ cT) () hx hb hr hlocks hK hP hD hS (tk) dX6_open_12)
set_option maxHeartbeats 4000000 in
set_option maxRecDepth 100000 in
theorem k_X6_add (l : Launch) (hLt : l.stackTraces = false) (sa : Nat → Nat) (D : va_G) (cI cJ cT : ClassId) (sz : Nat) (hd : Nat) (rT : Nat) (rH : Nat) (rG : Nat) (rD : Nat) (rF : Nat) (tr : Nat → Option Nat) (qT : Nat) (qR : Nat) (sg : Int) (bd : Int) (q1 : Nat) (q2 : Nat) (q3 : Nat) (ft : Int → Int) (fx : Int → Int) (fy : Int → Int) (n : Int) (a : Int) (t : Int) (x : Int) (y : Int) (ha : rI a) (htr : (0 ≤ a ∧ a < 4) → tr a.toNat = some qT) (hs1 : rI sg) (hn : 0 ≤ n ∧ n ≤ 20) (ht : okT ft) (hta : rI t) (hxa : rI x) (hya : rI y) : vx_Met l yX6_add wsX6_add { frames := 8, cells := 3, slots := 18, locals := 128 } (zPx D (TY cI cJ cT) [.ref hd, .int (iI a), .int (iI t), .int (iI x), .int (iI y)] [(hd, .inr (6, [.ref rT, .ref rH, .ref rG, .ref rD, .ref rF])), (rT, .inl (cT, 4, .inr (.inr (.inr (.inr tr))))), (qT, .inr (5, [.ref qR, .int (iI sg), .int (iI bd)])), (qR, .inr (2, [.ref q1, .ref q2, .ref q3, .int (iI n)])), (q1, .inl (cI, 20, .inl (zA ft))), (q2, .inl (cI, 20, .inl (zA fx))), (q3, .inl (cI, 20, .inl (zA fy)))] sz sa) (zQi D (TY cI cJ cT) (va_A [(hd, .inr (6, [.ref rT, .ref rH, .ref rG, .ref rD, .ref rF])), (rT, .inl (cT, 4, .inr (.inr (.inr (.inr tr))))), (qT, .inr (5, [.ref qR, .int (iI sg), .int (iI bd)])), (qR, .inr (2, [.ref q1, .ref q2, .ref q3, .int (iI n)])), (q1, .inl (cI, 20, .inl (zA ft))), (q2, .inl (cI, 20, .inl (zA fx))), (q3, .inl (cI, 20, .inl (zA fy)))] sz) (fun (z : Int) (u : Unit) => z = n + 1 ∧ ((0 ≤ a ∧ a < 4) ∧ sg = 1) ∧ n ≠ 20 ∧ (0 ≤ t ∧ (n = 0 ∨ ft (n - 1) < t) ∧ (-8388608 ≤ x ∧ x ≤ 8388608) ∧ -8388608 ≤ y ∧ y ≤ 8388608)) (fun (u : Unit) => [(hd, .inr (6, [.ref rT, .ref rH, .ref rG, .ref rD, .ref rF])), (rT, .inl (cT, 4, .inr (.inr (.inr (.inr tr))))), (qT, .inr (5, [.ref qR, .int (iI sg), .int (iI bd)])), (qR, .inr (2, [.ref q1, .ref q2, .ref q3, .int (iI (n + 1))])), (q1, .inl (cI, 20, .inl (zA (uZ ft n t)))), (q2, .inl (cI, 20, .inl (zA (uZ fx n x)))), (q3, .inl (cI, 20, .inl (zA (uZ fy n y))))])) (zX D (TY cI cJ cT) (va_A [(hd, .inr (6, [.ref rT, .ref rH, .ref rG, .ref rD, .ref rF])), (rT, .inl (cT, 4, .inr (.inr (.inr (.inr tr))))), (qT, .inr (5, [.ref qR, .int (iI sg), .int (iI bd)])), (qR, .inr (2, [.ref q1, .ref q2, .ref q3, .int (iI n)])), (q1, .inl (cI, 20, .inl (zA ft))), (q2, .inl (cI, 20, .inl (zA fx))), (q3, .inl (cI, 20, .inl (zA fy)))] sz) [(hd, .inr (6, [.ref rT, .ref rH, .ref rG, .ref rD, .ref rF])), (rT, .inl (cT, 4, .inr (.inr (.inr (.inr tr))))), (qT, .inr (5, [.ref qR, .int (iI sg), .int (iI bd)])), (qR, .inr (2, [.ref q1, .ref q2, .ref q3, .int (iI n)])), (q1, .inl (cI, 20, .inl (zA ft))), (q2, .inl (cI, 20, .inl (zA fx))), (q3, .inl (cI, 20, .inl (zA fy)))] (fun E => (E = nIO ∧ ¬ (0 ≤ a ∧ a < 4)) ∨ (E = nIS ∧ (0 ≤ a ∧ a < 4) ∧ sg ≠ 1) ∨ (E = nIS ∧ (0 ≤ a ∧ a < 4) ∧ sg = 1 ∧ n = 20) ∨ (E = nIA ∧ (0 ≤ a ∧ a < 4) ∧ sg = 1 ∧ n ≠ 20 ∧ ¬ (0 ≤ t ∧ (n = 0 ∨ ft (n - 1) < t) ∧ (-8388608 ≤ x ∧ x ≤ 8388608) ∧ -8388608 ≤ y ∧ y ≤ 8388608)))) 3 18 (va_A [(hd, .inr (6, [.ref rT, .ref rH, .ref rG, .ref rD, .ref rF])), (rT, .inl (cT, 4, .inr (.inr (.inr (.inr tr))))), (qT, .inr (5, [.ref qR, .int (iI sg), .int (iI bd)])), (qR, .inr (2, [.ref q1, .ref q2, .ref q3, .int (iI n)])), (q1, .inl (cI, 20, .inl (zA ft))), (q2, .inl (cI, 20, .inl (zA fx))), (q3, .inl (cI, 20, .inl (zA fy)))] sz) := by
  refine zNi (cc := cX6_add) (maxL := 6) (ret := (some .int)) (by decide) rfl (Nat.le_of_ble_eq_true rfl) ?_
  intro p e s m below meth c A ls hE hTV hTH hT0
  obtain ⟨hx, hb, hr, hts, hown, hlocks, hml, hnm, hP, hK, hD, hA, hS, hl⟩ := hE
  have hown : s.vm.findClass RX6 = some m.cls := hown
  have hl : lv_has ls 6 [(0, .ref hd), (1, .int (iI a)), (2, .int (iI t)), (3, .int (iI x)), (4, .int (iI y))] := hl
  have hin2 : ∀ w ∈ wsX20, w ∈ wsX6_add := by decide +kernel
  have hin5 : ∀ w ∈ wsX50, w ∈ wsX6_add := by decide +kernel
  have hgIA : ∀ w ∈ (vx_atS RX6 77 nIA nmE).filter goodWord, w ∈ wsX6_add := by decide +kernel
  have hgIS : ∀ w ∈ (vx_atS RX6 65 nIS nmE).filter goodWord, w ∈ wsX6_add := by decide +kernel
  refine lv_aload_n hx hb dX6_add_0 rfl (lv_at hl 0 rfl) ?_
  refine lv_iload_n hx hb dX6_add_1 rfl (lv_at hl 1 rfl) ?_
  refine lv_iconst (v := iI 1) hx hb dX6_add_2 rfl ?_
  refine wz_xcallr (wr := [(qR, .inr (2, [.ref q1, .ref q2, .ref q3, .int (iI n)])), (q1, .inl (cI, 20, .inl (zA ft))), (q2, .inl (cI, 20, .inl (zA fx))), (q3, .inl (cI, 20, .inl (zA fy)))]) (vx_runV (As := [.int (iI a), .int (iI 1)]) (rest := []) ⟨hx, hb, hml, hown, hts⟩ (k_X6_trackIn l hLt sa D cI cJ cT s.heap.size hd rT rH rG rD rF tr qT qR sg bd a 1 (ha) (htr) (hs1) (by decide)) (cwV 2 hts gX6_add_X6_trackIn rfl rfl rfl (by decide +kernel) ⟨Nat.le_of_ble_eq_true rfl, Nat.le_of_ble_eq_true rfl⟩) (wz_preVx hK hP hD hTV hTH hS hA [0, 1, 2] (by decide) rfl rfl 6 0 rfl rfl) rfl rfl hl.1 rfl (lv_room (Nat.le_of_ble_eq_true rfl)) dX6_add_3 ⟨Nat.le_of_ble_eq_true rfl, Nat.le_of_ble_eq_true rfl⟩) hK hP hD hS hA [0, 1, 2] [3, 4, 5, 6] rfl rfl rfl (by decide) [4, 5, 6, 0, 1, 2, 3] rfl (by decide) rfl hT0 hlocks (fun E q => q.elim Or.inl (fun q => Or.inr (Or.inl q))) (by decide) (by decide) (fun z3 u H locs hw3 hP hD hS => ?_)
  have hP : va_P D vwCl [(hd, .inr (6, [.ref rT, .ref rH, .ref rG, .ref rD, .ref rF])), (rT, .inl (cT, 4, .inr (.inr (.inr (.inr tr))))), (qT, .inr (5, [.ref qR, .int (iI sg), .int (iI bd)])), (qR, .inr (2, [.ref q1, .ref q2, .ref q3, .int (iI n)])), (q1, .inl (cI, 20, .inl (zA ft))), (q2, .inl (cI, 20, .inl (zA fx))), (q3, .inl (cI, 20, .inl (zA fy)))] H := hP.sub [4, 5, 6, 0, 1, 2, 3] rfl
  have hD : va_D A [(hd, .inr (6, [.ref rT, .ref rH, .ref rG, .ref rD, .ref rF])), (rT, .inl (cT, 4, .inr (.inr (.inr (.inr tr))))), (qT, .inr (5, [.ref qR, .int (iI sg), .int (iI bd)])), (qR, .inr (2, [.ref q1, .ref q2, .ref q3, .int (iI n)])), (q1, .inl (cI, 20, .inl (zA ft))), (q2, .inl (cI, 20, .inl (zA fx))), (q3, .inl (cI, 20, .inl (zA fy)))] := hD.sub [4, 5, 6, 0, 1, 2, 3] (by decide) rfl
  obtain ⟨hz3, hv3⟩ := hw3
  have hz3 := hz3.symm
  subst hz3
  have tk := hv3
  refine va_get (D := D) (ci := 5) (v := .ref qR) (C := RX5) (T := TX5) (N := 3) hx hb hts hin5 hown hK hP 2 rfl rfl 0 (by decide) (hts (.fieldLink RX6 52 "DriftLog$Track" "row" "LDriftLog$Row;") (by decide +kernel)) (fun _ h9 => h9) rfl dX6_add_6 ?_
  refine lv_astore (lv' := [(5, .ref qR), (0, .ref hd), (1, .int (iI a)), (2, .int (iI t)), (3, .int (iI x)), (4, .int (iI y))]) hx hb dX6_add_9 hl (by decide) rfl (fun ls hl => ?_)
  refine lv_aload hx hb dX6_add_11 (lv_at hl 0 rfl) ?_
  refine va_get (D := D) (ci := 2) (v := .int (iI n)) (C := RX2) (T := TX2) (N := 4) hx hb hts hin2 hown hK hP 3 rfl rfl 3 (by decide) (hts (.fieldLink RX6 56 "DriftLog$Row" "size" "I") (by decide +kernel)) (fun _ h9 => h9) rfl dX6_add_13 ?_
  refine lv_bipush (v := iI 20) hx hb dX6_add_16 (by decide) ?_
  refine wz_icmp_lt (tgt := 31) hx hb dX6_add_18 (by decide) ⟨by omega, by omega⟩ (by decide) (fun c18 => ?_) (fun c18 => ?_)
  · skip
    refine lv_iload_n hx hb dX6_add_31 rfl (lv_at hl 3 rfl) ?_
    refine wz_if_lt (tgt := 54) hx hb dX6_add_32 (by decide) (hta) (fun c32 => ?_) (fun c32 => ?_)
    · skip
      exact wz_throw (sa9 := sa 75) hx hb hLt hown (by decide) (hts (.classLink RX6 73 nIA) (by decide +kernel)) (hts (.initialized nIA) (by decide +kernel)) (hTV.2.2.2.2.2.2 (75, _) (List.mem_of_getElem? (i := 3) rfl)) (hat_IA (fun w hw => hts w (hgIA w hw)) hTV) hgd_IA hTH (hl.1.trans hml.symm) dX6_add_54 dX6_add_57 dX6_add_58 dX6_add_60 dX6_add_63 hT0 (by decide) (by decide) (by decide) (by decide) hlocks hK hP hD hS (Or.inr (Or.inr (Or.inr ⟨rfl, tk.1, tk.2, by omega, fun q => by omega⟩))) (by decide) (by decide)
    · skip
      refine lv_iload_n hx hb dX6_add_35 rfl (lv_at hl 4 rfl) ?_
      refine lv_ldc (v := 8388608) hx hb hown (hts (.constant RX6 68 (8388608)) (by decide +kernel)) dX6_add_36 ?_
      refine wz_topi (show (8388608 : Int32) = iI 8388608 by decide) ?_
      refine wz_calli (wr := [(hd, .inr (6, [.ref rT, .ref rH, .ref rG, .ref rD, .ref rF])), (rT, .inl (cT, 4, .inr (.inr (.inr (.inr tr))))), (qT, .inr (5, [.ref qR, .int (iI sg), .int (iI bd)])), (qR, .inr (2, [.ref q1, .ref q2, .ref q3, .int (iI n)])), (q1, .inl (cI, 20, .inl (zA ft))), (q2, .inl (cI, 20, .inl (zA fx))), (q3, .inl (cI, 20, .inl (zA fy)))]) (va_runS (As := [.int (iI x), .int (iI 8388608)]) (rest := []) ⟨hx, hb, hml, hown, hts⟩ (k_X6_isBeyond l D cI cJ cT H.size x 8388608 (hxa) (by decide)) (va_cwS 2 hts gX6_add_X6_isBeyond rfl rfl rfl (by decide +kernel) ⟨Nat.le_of_ble_eq_true rfl, Nat.le_of_ble_eq_true rfl⟩) (wz_preS hK hP hD [] (by decide) rfl rfl) rfl rfl hl.1 rfl (lv_room (Nat.le_of_ble_eq_true rfl)) dX6_add_38 ⟨Nat.le_of_ble_eq_true rfl, Nat.le_of_ble_eq_true rfl⟩) hP hD hS hA [] [0, 1, 2, 3, 4, 5, 6] rfl rfl rfl (by decide) (fun z38 u H locs hw38 hP hD hS => ?_)
      have hP : va_P D vwCl [(hd, .inr (6, [.ref rT, .ref rH, .ref rG, .ref rD, .ref rF])), (rT, .inl (cT, 4, .inr (.inr (.inr (.inr tr))))), (qT, .inr (5, [.ref qR, .int (iI sg), .int (iI bd)])), (qR, .inr (2, [.ref q1, .ref q2, .ref q3, .int (iI n)])), (q1, .inl (cI, 20, .inl (zA ft))), (q2, .inl (cI, 20, .inl (zA fx))), (q3, .inl (cI, 20, .inl (zA fy)))] H := hP.sub [0, 1, 2, 3, 4, 5, 6] rfl
      have hD : va_D A [(hd, .inr (6, [.ref rT, .ref rH, .ref rG, .ref rD, .ref rF])), (rT, .inl (cT, 4, .inr (.inr (.inr (.inr tr))))), (qT, .inr (5, [.ref qR, .int (iI sg), .int (iI bd)])), (qR, .inr (2, [.ref q1, .ref q2, .ref q3, .int (iI n)])), (q1, .inl (cI, 20, .inl (zA ft))), (q2, .inl (cI, 20, .inl (zA fx))), (q3, .inl (cI, 20, .inl (zA fy)))] := hD.sub [0, 1, 2, 3, 4, 5, 6] (by decide) rfl
      subst hw38
      refine wz_ifb_ne (tgt := 54) hx hb dX6_add_41 (by decide) (fun c41 => ?_) (fun c41 => ?_)
      · skip
        exact wz_throw (sa9 := sa 75) hx hb hLt hown (by decide) (hts (.classLink RX6 73 nIA) (by decide +kernel)) (hts (.initialized nIA) (by decide +kernel)) (hTV.2.2.2.2.2.2 (75, _) (List.mem_of_getElem? (i := 3) rfl)) (hat_IA (fun w hw => hts w (hgIA w hw)) hTV) hgd_IA hTH (hl.1.trans hml.symm) dX6_add_54 dX6_add_57 dX6_add_58 dX6_add_60 dX6_add_63 hT0 (by decide) (by decide) (by decide) (by decide) hlocks hK hP hD hS (Or.inr (Or.inr (Or.inr ⟨rfl, tk.1, tk.2, by omega, fun q => by omega⟩))) (by decide) (by decide)
      · skip
        refine lv_iload hx hb dX6_add_44 (lv_at hl 5 rfl) ?_
        refine lv_ldc (v := 8388608) hx hb hown (hts (.constant RX6 68 (8388608)) (by decide +kernel)) dX6_add_46 ?_
        refine wz_topi (show (8388608 : Int32) = iI 8388608 by decide) ?_
        refine wz_calli (wr := [(hd, .inr (6, [.ref rT, .ref rH, .ref rG, .ref rD, .ref rF])), (rT, .inl (cT, 4, .inr (.inr (.inr (.inr tr))))), (qT, .inr (5, [.ref qR, .int (iI sg), .int (iI bd)])), (qR, .inr (2, [.ref q1, .ref q2, .ref q3, .int (iI n)])), (q1, .inl (cI, 20, .inl (zA ft))), (q2, .inl (cI, 20, .inl (zA fx))), (q3, .inl (cI, 20, .inl (zA fy)))]) (va_runS (As := [.int (iI y), .int (iI 8388608)]) (rest := []) ⟨hx, hb, hml, hown, hts⟩ (k_X6_isBeyond l D cI cJ cT H.size y 8388608 (hya) (by decide)) (va_cwS 2 hts gX6_add_X6_isBeyond rfl rfl rfl (by decide +kernel) ⟨Nat.le_of_ble_eq_true rfl, Nat.le_of_ble_eq_true rfl⟩) (wz_preS hK hP hD [] (by decide) rfl rfl) rfl rfl hl.1 rfl (lv_room (Nat.le_of_ble_eq_true rfl)) dX6_add_48 ⟨Nat.le_of_ble_eq_true rfl, Nat.le_of_ble_eq_true rfl⟩) hP hD hS hA [] [0, 1, 2, 3, 4, 5, 6] rfl rfl rfl (by decide) (fun z48 u H locs hw48 hP hD hS => ?_)
        have hP : va_P D vwCl [(hd, .inr (6, [.ref rT, .ref rH, .ref rG, .ref rD, .ref rF])), (rT, .inl (cT, 4, .inr (.inr (.inr (.inr tr))))), (qT, .inr (5, [.ref qR, .int (iI sg), .int (iI bd)])), (qR, .inr (2, [.ref q1, .ref q2, .ref q3, .int (iI n)])), (q1, .inl (cI, 20, .inl (zA ft))), (q2, .inl (cI, 20, .inl (zA fx))), (q3, .inl (cI, 20, .inl (zA fy)))] H := hP.sub [0, 1, 2, 3, 4, 5, 6] rfl
        have hD : va_D A [(hd, .inr (6, [.ref rT, .ref rH, .ref rG, .ref rD, .ref rF])), (rT, .inl (cT, 4, .inr (.inr (.inr (.inr tr))))), (qT, .inr (5, [.ref qR, .int (iI sg), .int (iI bd)])), (qR, .inr (2, [.ref q1, .ref q2, .ref q3, .int (iI n)])), (q1, .inl (cI, 20, .inl (zA ft))), (q2, .inl (cI, 20, .inl (zA fx))), (q3, .inl (cI, 20, .inl (zA fy)))] := hD.sub [0, 1, 2, 3, 4, 5, 6] (by decide) rfl
        subst hw48
        refine wz_ifb_eq (tgt := 64) hx hb dX6_add_51 (by decide) (fun c51 => ?_) (fun c51 => ?_)
        · skip
          refine lv_aload hx hb dX6_add_64 (lv_at hl 0 rfl) ?_
          refine va_get (D := D) (ci := 2) (v := .int (iI n)) (C := RX2) (T := TX2) (N := 4) hx hb hts hin2 hown hK hP 3 rfl rfl 3 (by decide) (hts (.fieldLink RX6 56 "DriftLog$Row" "size" "I") (by decide +kernel)) (fun _ h9 => h9) rfl dX6_add_66 ?_
          refine wz_if_le (tgt := 99) hx hb dX6_add_69 (by decide) ⟨by omega, by omega⟩ (fun c69 => ?_) (fun c69 => ?_)
          · skip
            refine lv_aload hx hb dX6_add_99 (lv_at hl 0 rfl) ?_
            refine lv_iload_n hx hb dX6_add_101 rfl (lv_at hl 3 rfl) ?_
            refine lv_iload_n hx hb dX6_add_102 rfl (lv_at hl 4 rfl) ?_
            refine lv_iload hx hb dX6_add_103 (lv_at hl 5 rfl) ?_
            refine wz_callv (wr := [(hd, .inr (6, [.ref rT, .ref rH, .ref rG, .ref rD, .ref rF])), (rT, .inl (cT, 4, .inr (.inr (.inr (.inr tr))))), (qT, .inr (5, [.ref qR, .int (iI sg), .int (iI bd)]))]) (va_runV (As := [.int (iI t), .int (iI x), .int (iI y)]) (rest := []) ⟨hx, hb, hml, hown, hts⟩ (k_X2_append l D cI cJ cT H.size qR q1 q2 q3 ft fx fy n t x y (by omega) (by omega)) (cwV 3 hts gX6_add_X2_append rfl rfl rfl (by decide +kernel) ⟨Nat.le_of_ble_eq_true rfl, Nat.le_of_ble_eq_true rfl⟩) (wz_preV hK hP hD [3, 4, 5, 6] (by decide) rfl rfl 2 3 rfl rfl) rfl rfl hl.1 rfl (lv_room (Nat.le_of_ble_eq_true rfl)) dX6_add_105 ⟨Nat.le_of_ble_eq_true rfl, Nat.le_of_ble_eq_true rfl⟩) hP hD hS hA [3, 4, 5, 6] [0, 1, 2] rfl rfl rfl (by decide) (fun  u H locs hw105 hP hD hS => ?_)
            have hP : va_P D vwCl [(hd, .inr (6, [.ref rT, .ref rH, .ref rG, .ref rD, .ref rF])), (rT, .inl (cT, 4, .inr (.inr (.inr (.inr tr))))), (qT, .inr (5, [.ref qR, .int (iI sg), .int (iI bd)])), (qR, .inr (2, [.ref q1, .ref q2, .ref q3, .int (iI (n + 1))])), (q1, .inl (cI, 20, .inl (zA (uZ ft n t)))), (q2, .inl (cI, 20, .inl (zA (uZ fx n x)))), (q3, .inl (cI, 20, .inl (zA (uZ fy n y))))] H := hP.sub [0, 1, 2, 3, 4, 5, 6] rfl
            have hD : va_D A [(hd, .inr (6, [.ref rT, .ref rH, .ref rG, .ref rD, .ref rF])), (rT, .inl (cT, 4, .inr (.inr (.inr (.inr tr))))), (qT, .inr (5, [.ref qR, .int (iI sg), .int (iI bd)])), (qR, .inr (2, [.ref q1, .ref q2, .ref q3, .int (iI (n + 1))])), (q1, .inl (cI, 20, .inl (zA (uZ ft n t)))), (q2, .inl (cI, 20, .inl (zA (uZ fx n x)))), (q3, .inl (cI, 20, .inl (zA (uZ fy n y))))] := hD.sub [0, 1, 2, 3, 4, 5, 6] (by decide) rfl
            refine lv_aload hx hb dX6_add_108 (lv_at hl 0 rfl) ?_
            refine va_get (D := D) (ci := 2) (v := .int (iI (n + 1))) (C := RX2) (T := TX2) (N := 4) hx hb hts hin2 hown hK hP 3 rfl rfl 3 (by decide) (hts (.fieldLink RX6 56 "DriftLog$Row" "size" "I") (by decide +kernel)) (fun _ h9 => h9) rfl dX6_add_110 ?_
            refine W.widen (k := 3) (n := 18) (by decide) (by decide) ?_
            exact vx_ret (wz_reti (tys := TY cI cJ cT) () hx hb hr hlocks hK hP hD hS (⟨rfl, tk, by omega, by omega⟩) dX6_add_113)
          · skip
            refine lv_iload_n hx hb dX6_add_72 rfl (lv_at hl 3 rfl) ?_
            refine lv_aload hx hb dX6_add_73 (lv_at hl 0 rfl) ?_
            refine va_get (D := D) (ci := 2) (v := .ref q1) (C := RX2) (T := TX2) (N := 4) hx hb hts hin2 hown hK hP 3 rfl rfl 0 (by decide) (hts (.fieldLink RX6 78 "DriftLog$Row" "times" "[I") (by decide +kernel)) (fun _ h9 => h9) rfl dX6_add_75 ?_
            refine lv_aload hx hb dX6_add_78 (lv_at hl 0 rfl) ?_
            refine va_get (D := D) (ci := 2) (v := .int (iI n)) (C := RX2) (T := TX2) (N := 4) hx hb hts hin2 hown hK hP 3 rfl rfl 3 (by decide) (hts (.fieldLink RX6 56 "DriftLog$Row" "size" "I") (by decide +kernel)) (fun _ h9 => h9) rfl dX6_add_80 ?_
            refine lv_iconst (v := iI 1) hx hb dX6_add_83 rfl ?_
            refine wz_isub hx hb dX6_add_84 ?_
            refine wz_iald (tys := TY cI cJ cT) hx hb hK hP 4 0 rfl rfl (by decide) (by constructor <;> omega) dX6_add_85 ?_
            refine wz_icmp_gt (tgt := 99) hx hb dX6_add_86 (by decide) (hta) (by have := ht (n - 1); constructor <;> omega) (fun c86 => ?_) (fun c86 => ?_)
            · skip
              refine lv_aload hx hb dX6_add_99 (lv_at hl 0 rfl) ?_
              refine lv_iload_n hx hb dX6_add_101 rfl (lv_at hl 3 rfl) ?_
              refine lv_iload_n hx hb dX6_add_102 rfl (lv_at hl 4 rfl) ?_
              refine lv_iload hx hb dX6_add_103 (lv_at hl 5 rfl) ?_
              refine wz_callv (wr := [(hd, .inr (6, [.ref rT, .ref rH, .ref rG, .ref rD, .ref rF])), (rT, .inl (cT, 4, .inr (.inr (.inr (.inr tr))))), (qT, .inr (5, [.ref qR, .int (iI sg), .int (iI bd)]))]) (va_runV (As := [.int (iI t), .int (iI x), .int (iI y)]) (rest := []) ⟨hx, hb, hml, hown, hts⟩ (k_X2_append l D cI cJ cT H.size qR q1 q2 q3 ft fx fy n t x y (by omega) (by omega)) (cwV 3 hts gX6_add_X2_append rfl rfl rfl (by decide +kernel) ⟨Nat.le_of_ble_eq_true rfl, Nat.le_of_ble_eq_true rfl⟩) (wz_preV hK hP hD [3, 4, 5, 6] (by decide) rfl rfl 2 3 rfl rfl) rfl rfl hl.1 rfl (lv_room (Nat.le_of_ble_eq_true rfl)) dX6_add_105 ⟨Nat.le_of_ble_eq_true rfl, Nat.le_of_ble_eq_true rfl⟩) hP hD hS hA [3, 4, 5, 6] [0, 1, 2] rfl rfl rfl (by decide) (fun  u H locs hw105 hP hD hS => ?_)
              have hP : va_P D vwCl [(hd, .inr (6, [.ref rT, .ref rH, .ref rG, .ref rD, .ref rF])), (rT, .inl (cT, 4, .inr (.inr (.inr (.inr tr))))), (qT, .inr (5, [.ref qR, .int (iI sg), .int (iI bd)])), (qR, .inr (2, [.ref q1, .ref q2, .ref q3, .int (iI (n + 1))])), (q1, .inl (cI, 20, .inl (zA (uZ ft n t)))), (q2, .inl (cI, 20, .inl (zA (uZ fx n x)))), (q3, .inl (cI, 20, .inl (zA (uZ fy n y))))] H := hP.sub [0, 1, 2, 3, 4, 5, 6] rfl
              have hD : va_D A [(hd, .inr (6, [.ref rT, .ref rH, .ref rG, .ref rD, .ref rF])), (rT, .inl (cT, 4, .inr (.inr (.inr (.inr tr))))), (qT, .inr (5, [.ref qR, .int (iI sg), .int (iI bd)])), (qR, .inr (2, [.ref q1, .ref q2, .ref q3, .int (iI (n + 1))])), (q1, .inl (cI, 20, .inl (zA (uZ ft n t)))), (q2, .inl (cI, 20, .inl (zA (uZ fx n x)))), (q3, .inl (cI, 20, .inl (zA (uZ fy n y))))] := hD.sub [0, 1, 2, 3, 4, 5, 6] (by decide) rfl
              refine lv_aload hx hb dX6_add_108 (lv_at hl 0 rfl) ?_
              refine va_get (D := D) (ci := 2) (v := .int (iI (n + 1))) (C := RX2) (T := TX2) (N := 4) hx hb hts hin2 hown hK hP 3 rfl rfl 3 (by decide) (hts (.fieldLink RX6 56 "DriftLog$Row" "size" "I") (by decide +kernel)) (fun _ h9 => h9) rfl dX6_add_110 ?_
              refine W.widen (k := 3) (n := 18) (by decide) (by decide) ?_
              exact vx_ret (wz_reti (tys := TY cI cJ cT) () hx hb hr hlocks hK hP hD hS (⟨rfl, tk, by omega, by omega⟩) dX6_add_113)
            · skip
              exact wz_throw (sa9 := sa 82) hx hb hLt hown (by decide) (hts (.classLink RX6 73 nIA) (by decide +kernel)) (hts (.initialized nIA) (by decide +kernel)) (hTV.2.2.2.2.2.2 (82, _) (List.mem_of_getElem? (i := 4) rfl)) (hat_IA (fun w hw => hts w (hgIA w hw)) hTV) hgd_IA hTH (hl.1.trans hml.symm) dX6_add_89 dX6_add_92 dX6_add_93 dX6_add_95 dX6_add_98 hT0 (by decide) (by decide) (by decide) (by decide) hlocks hK hP hD hS (Or.inr (Or.inr (Or.inr ⟨rfl, tk.1, tk.2, by omega, fun q => by omega⟩))) (by decide) (by decide)
        · skip
          exact wz_throw (sa9 := sa 75) hx hb hLt hown (by decide) (hts (.classLink RX6 73 nIA) (by decide +kernel)) (hts (.initialized nIA) (by decide +kernel)) (hTV.2.2.2.2.2.2 (75, _) (List.mem_of_getElem? (i := 3) rfl)) (hat_IA (fun w hw => hts w (hgIA w hw)) hTV) hgd_IA hTH (hl.1.trans hml.symm) dX6_add_54 dX6_add_57 dX6_add_58 dX6_add_60 dX6_add_63 hT0 (by decide) (by decide) (by decide) (by decide) hlocks hK hP hD hS (Or.inr (Or.inr (Or.inr ⟨rfl, tk.1, tk.2, by omega, fun q => by omega⟩))) (by decide) (by decide)
  · skip
    exact wz_throw (sa9 := sa 63) hx hb hLt hown (by decide) (hts (.classLink RX6 61 nIS) (by decide +kernel)) (hts (.initialized nIS) (by decide +kernel)) (hTV.2.2.2.2.2.2 (63, _) (List.mem_of_getElem? (i := 2) rfl)) (hat_IS (fun w hw => hts w (hgIS w hw)) hTV) hgd_IS hTH (hl.1.trans hml.symm) dX6_add_21 dX6_add_24 dX6_add_25 dX6_add_27 dX6_add_30 hT0 (by decide) (by decide) (by decide) (by decide) hlocks hK hP hD hS (Or.inr (Or.inr (Or.inl ⟨rfl, tk.1, tk.2, by omega⟩))) (by decide) (by decide)
set_option maxHeartbeats 4000000 in
set_option maxRecDepth 100000 in
theorem k_X6_seal (l : Launch) (hLt : l.stackTraces = false) (sa : Nat → Nat) (D : va_G) (cI cJ cT : ClassId) (sz : Nat) (hd : Nat) (rT : Nat) (rH : Nat) (rG : Nat) (rD : Nat) (rF : Nat) (tr : Nat → Option Nat) (qT : Nat) (qR : Nat) (sg : Int) (bd : Int) (q1 : Nat) (q2 : Nat) (q3 : Nat) (ft : Int → Int) (fx : Int → Int) (fy : Int → Int) (n : Int) (q9 : Nat) (fs : Int → Int) (a : Int) (e1 : Int) (ha : rI a) (htr : (0 ≤ a ∧ a < 4) → tr a.toNat = some qT) (hs1 : rI sg) (hn : 0 ≤ n ∧ n ≤ 20) (ht : okT ft) (hx1 : okC fx) (hy1 : okC fy) (hea : rI e1) : vx_Met l yX6_seal wsX6_seal { frames := 8, cells := 3, slots := 18, locals := 128 } (zPx D (TY cI cJ cT) [.ref hd, .int (iI a), .int (iI e1)] [(hd, .inr (6, [.ref rT, .ref rH, .ref rG, .ref rD, .ref rF])), (rT, .inl (cT, 4, .inr (.inr (.inr (.inr tr))))), (qT, .inr (5, [.ref qR, .int (iI sg), .int (iI bd)])), (qR, .inr (2, [.ref q1, .ref q2, .ref q3, .int (iI n)])), (q1, .inl (cI, 20, .inl (zA ft))), (q2, .inl (cI, 20, .inl (zA fx))), (q3, .inl (cI, 20, .inl (zA fy))), (rH, .inr (4, [.ref q9])), (q9, .inl (cI, 20, .inl (zA fs)))] sz sa) (zQi D (TY cI cJ cT) (va_A [(hd, .inr (6, [.ref rT, .ref rH, .ref rG, .ref rD, .ref rF])), (rT, .inl (cT, 4, .inr (.inr (.inr (.inr tr))))), (qT, .inr (5, [.ref qR, .int (iI sg), .int (iI bd)])), (qR, .inr (2, [.ref q1, .ref q2, .ref q3, .int (iI n)])), (q1, .inl (cI, 20, .inl (zA ft))), (q2, .inl (cI, 20, .inl (zA fx))), (q3, .inl (cI, 20, .inl (zA fy))), (rH, .inr (4, [.ref q9])), (q9, .inl (cI, 20, .inl (zA fs)))] sz) (fun (z : Int) (u : (Int → Int) × Int × (Int → Int) × (Int → Int) × (Int → Int) × (Int → Int)) => z = u.2.1 ∧ ((0 ≤ a ∧ a < 4) ∧ sg = 1) ∧ n ≠ 0 ∧ (0 ≤ e1 ∧ e1 ≤ 65535) ∧ ((∀ i, 0 ≤ i → i < n → swP n (stepP ft fx fy e1) (u.1) i) ∧ keptP n (stepP ft fx fy e1) (u.1) (u.2.1) (u.2.2.1) ∧ (okT (u.2.2.2.1) ∧ okC (u.2.2.2.2.1) ∧ okC (u.2.2.2.2.2)) ∧ ∀ j, 0 ≤ j → j < u.2.1 → (u.2.2.2.1) j = ft ((u.2.2.1) j) ∧ (u.2.2.2.2.1) j = fx ((u.2.2.1) j) ∧ (u.2.2.2.2.2) j = fy ((u.2.2.1) j))) (fun (u : (Int → Int) × Int × (Int → Int) × (Int → Int) × (Int → Int) × (Int → Int)) => [(hd, .inr (6, [.ref rT, .ref rH, .ref rG, .ref rD, .ref rF])), (rT, .inl (cT, 4, .inr (.inr (.inr (.inr tr))))), (qT, .inr (5, [.ref qR, .int (iI 2), .int (iI e1)])), (qR, .inr (2, [.ref q1, .ref q2, .ref q3, .int (iI u.2.1)])), (q1, .inl (cI, 20, .inl (zA u.2.2.2.1))), (q2, .inl (cI, 20, .inl (zA u.2.2.2.2.1))), (q3, .inl (cI, 20, .inl (zA u.2.2.2.2.2))), (rH, .inr (4, [.ref q9])), (q9, .inl (cI, 20, .inl (zA u.1)))])) (zX D (TY cI cJ cT) (va_A [(hd, .inr (6, [.ref rT, .ref rH, .ref rG, .ref rD, .ref rF])), (rT, .inl (cT, 4, .inr (.inr (.inr (.inr tr))))), (qT, .inr (5, [.ref qR, .int (iI sg), .int (iI bd)])), (qR, .inr (2, [.ref q1, .ref q2, .ref q3, .int (iI n)])), (q1, .inl (cI, 20, .inl (zA ft))), (q2, .inl (cI, 20, .inl (zA fx))), (q3, .inl (cI, 20, .inl (zA fy))), (rH, .inr (4, [.ref q9])), (q9, .inl (cI, 20, .inl (zA fs)))] sz) [(hd, .inr (6, [.ref rT, .ref rH, .ref rG, .ref rD, .ref rF])), (rT, .inl (cT, 4, .inr (.inr (.inr (.inr tr))))), (qT, .inr (5, [.ref qR, .int (iI sg), .int (iI bd)])), (qR, .inr (2, [.ref q1, .ref q2, .ref q3, .int (iI n)])), (q1, .inl (cI, 20, .inl (zA ft))), (q2, .inl (cI, 20, .inl (zA fx))), (q3, .inl (cI, 20, .inl (zA fy))), (rH, .inr (4, [.ref q9])), (q9, .inl (cI, 20, .inl (zA fs)))] (fun E => (E = nIO ∧ ¬ (0 ≤ a ∧ a < 4)) ∨ (E = nIS ∧ (0 ≤ a ∧ a < 4) ∧ sg ≠ 1) ∨ (E = nIS ∧ (0 ≤ a ∧ a < 4) ∧ sg = 1 ∧ n = 0) ∨ (E = nIA ∧ (0 ≤ a ∧ a < 4) ∧ sg = 1 ∧ n ≠ 0 ∧ ¬ (0 ≤ e1 ∧ e1 ≤ 65535)))) 3 18 (va_A [(hd, .inr (6, [.ref rT, .ref rH, .ref rG, .ref rD, .ref rF])), (rT, .inl (cT, 4, .inr (.inr (.inr (.inr tr))))), (qT, .inr (5, [.ref qR, .int (iI sg), .int (iI bd)])), (qR, .inr (2, [.ref q1, .ref q2, .ref q3, .int (iI n)])), (q1, .inl (cI, 20, .inl (zA ft))), (q2, .inl (cI, 20, .inl (zA fx))), (q3, .inl (cI, 20, .inl (zA fy))), (rH, .inr (4, [.ref q9])), (q9, .inl (cI, 20, .inl (zA fs)))] sz) := by
  refine zNi (cc := cX6_seal) (maxL := 4) (ret := (some .int)) (by decide) rfl (Nat.le_of_ble_eq_true rfl) ?_
  intro p e s m below meth c A ls hE hTV hTH hT0
  obtain ⟨hx, hb, hr, hts, hown, hlocks, hml, hnm, hP, hK, hD, hA, hS, hl⟩ := hE
  have hown : s.vm.findClass RX6 = some m.cls := hown
  have hl : lv_has ls 4 [(0, .ref hd), (1, .int (iI a)), (2, .int (iI e1))] := hl
  have hin2 : ∀ w ∈ wsX20, w ∈ wsX6_seal := by decide +kernel
  have hin5 : ∀ w ∈ wsX50, w ∈ wsX6_seal := by decide +kernel
  have hin6 : ∀ w ∈ wsX60, w ∈ wsX6_seal := by decide +kernel
  have hgIA : ∀ w ∈ (vx_atS RX6 77 nIA nmE).filter goodWord, w ∈ wsX6_seal := by decide +kernel
  have hgIS : ∀ w ∈ (vx_atS RX6 65 nIS nmE).filter goodWord, w ∈ wsX6_seal := by decide +kernel
  refine lv_aload_n hx hb dX6_seal_0 rfl (lv_at hl 0 rfl) ?_
  refine lv_iload_n hx hb dX6_seal_1 rfl (lv_at hl 1 rfl) ?_
  refine lv_iconst (v := iI 1) hx hb dX6_seal_2 rfl ?_
  refine wz_xcallr (wr := [(qR, .inr (2, [.ref q1, .ref q2, .ref q3, .int (iI n)])), (q1, .inl (cI, 20, .inl (zA ft))), (q2, .inl (cI, 20, .inl (zA fx))), (q3, .inl (cI, 20, .inl (zA fy))), (rH, .inr (4, [.ref q9])), (q9, .inl (cI, 20, .inl (zA fs)))]) (vx_runV (As := [.int (iI a), .int (iI 1)]) (rest := []) ⟨hx, hb, hml, hown, hts⟩ (k_X6_trackIn l hLt sa D cI cJ cT s.heap.size hd rT rH rG rD rF tr qT qR sg bd a 1 (ha) (htr) (hs1) (by decide)) (cwV 2 hts gX6_seal_X6_trackIn rfl rfl rfl (by decide +kernel) ⟨Nat.le_of_ble_eq_true rfl, Nat.le_of_ble_eq_true rfl⟩) (wz_preVx hK hP hD hTV hTH hS hA [0, 1, 2] (by decide) rfl rfl 6 0 rfl rfl) rfl rfl hl.1 rfl (lv_room (Nat.le_of_ble_eq_true rfl)) dX6_seal_3 ⟨Nat.le_of_ble_eq_true rfl, Nat.le_of_ble_eq_true rfl⟩) hK hP hD hS hA [0, 1, 2] [3, 4, 5, 6, 7, 8] rfl rfl rfl (by decide) [6, 7, 8, 0, 1, 2, 3, 4, 5] rfl (by decide) rfl hT0 hlocks (fun E q => q.elim Or.inl (fun q => Or.inr (Or.inl q))) (by decide) (by decide) (fun z3 u H locs hw3 hP hD hS => ?_)
  have hP : va_P D vwCl [(hd, .inr (6, [.ref rT, .ref rH, .ref rG, .ref rD, .ref rF])), (rT, .inl (cT, 4, .inr (.inr (.inr (.inr tr))))), (qT, .inr (5, [.ref qR, .int (iI sg), .int (iI bd)])), (qR, .inr (2, [.ref q1, .ref q2, .ref q3, .int (iI n)])), (q1, .inl (cI, 20, .inl (zA ft))), (q2, .inl (cI, 20, .inl (zA fx))), (q3, .inl (cI, 20, .inl (zA fy))), (rH, .inr (4, [.ref q9])), (q9, .inl (cI, 20, .inl (zA fs)))] H := hP.sub [6, 7, 8, 0, 1, 2, 3, 4, 5] rfl
  have hD : va_D A [(hd, .inr (6, [.ref rT, .ref rH, .ref rG, .ref rD, .ref rF])), (rT, .inl (cT, 4, .inr (.inr (.inr (.inr tr))))), (qT, .inr (5, [.ref qR, .int (iI sg), .int (iI bd)])), (qR, .inr (2, [.ref q1, .ref q2, .ref q3, .int (iI n)])), (q1, .inl (cI, 20, .inl (zA ft))), (q2, .inl (cI, 20, .inl (zA fx))), (q3, .inl (cI, 20, .inl (zA fy))), (rH, .inr (4, [.ref q9])), (q9, .inl (cI, 20, .inl (zA fs)))] := hD.sub [6, 7, 8, 0, 1, 2, 3, 4, 5] (by decide) rfl
  obtain ⟨hz3, hv3⟩ := hw3
  have hz3 := hz3.symm
  subst hz3
  have tk := hv3
  refine lv_astore_n (lv' := [(3, .ref qT), (0, .ref hd), (1, .int (iI a)), (2, .int (iI e1))]) hx hb dX6_seal_6 rfl hl (by decide) rfl (fun ls hl => ?_)
  refine lv_aload_n hx hb dX6_seal_7 rfl (lv_at hl 0 rfl) ?_
  refine va_get (D := D) (ci := 5) (v := .ref qR) (C := RX5) (T := TX5) (N := 3) hx hb hts hin5 hown hK hP 2 rfl rfl 0 (by decide) (hts (.fieldLink RX6 52 "DriftLog$Track" "row" "LDriftLog$Row;") (by decide +kernel)) (fun _ h9 => h9) rfl dX6_seal_8 ?_
  refine va_get (D := D) (ci := 2) (v := .int (iI n)) (C := RX2) (T := TX2) (N := 4) hx hb hts hin2 hown hK hP 3 rfl rfl 3 (by decide) (hts (.fieldLink RX6 56 "DriftLog$Row" "size" "I") (by decide +kernel)) (fun _ h9 => h9) rfl dX6_seal_11 ?_
  refine wz_if_ne (tgt := 27) hx hb dX6_seal_14 (by decide) ⟨by omega, by omega⟩ (fun c14 => ?_) (fun c14 => ?_)
  · skip
    refine lv_iload_n hx hb dX6_seal_27 rfl (lv_at hl 3 rfl) ?_
    refine wz_calli (wr := [(hd, .inr (6, [.ref rT, .ref rH, .ref rG, .ref rD, .ref rF])), (rT, .inl (cT, 4, .inr (.inr (.inr (.inr tr))))), (qT, .inr (5, [.ref qR, .int (iI sg), .int (iI bd)])), (qR, .inr (2, [.ref q1, .ref q2, .ref q3, .int (iI n)])), (q1, .inl (cI, 20, .inl (zA ft))), (q2, .inl (cI, 20, .inl (zA fx))), (q3, .inl (cI, 20, .inl (zA fy))), (rH, .inr (4, [.ref q9])), (q9, .inl (cI, 20, .inl (zA fs)))]) (va_runS (As := [.int (iI e1)]) (rest := []) ⟨hx, hb, hml, hown, hts⟩ (k_X6_isBound l D cI cJ cT H.size e1 (hea)) (va_cwS 1 hts gX6_seal_X6_isBound rfl rfl rfl (by decide +kernel) ⟨Nat.le_of_ble_eq_true rfl, Nat.le_of_ble_eq_true rfl⟩) (wz_preS hK hP hD [] (by decide) rfl rfl) rfl rfl hl.1 rfl (lv_room (Nat.le_of_ble_eq_true rfl)) dX6_seal_28 ⟨Nat.le_of_ble_eq_true rfl, Nat.le_of_ble_eq_true rfl⟩) hP hD hS hA [] [0, 1, 2, 3, 4, 5, 6, 7, 8] rfl rfl rfl (by decide) (fun z28 u H locs hw28 hP hD hS => ?_)
    have hP : va_P D vwCl [(hd, .inr (6, [.ref rT, .ref rH, .ref rG, .ref rD, .ref rF])), (rT, .inl (cT, 4, .inr (.inr (.inr (.inr tr))))), (qT, .inr (5, [.ref qR, .int (iI sg), .int (iI bd)])), (qR, .inr (2, [.ref q1, .ref q2, .ref q3, .int (iI n)])), (q1, .inl (cI, 20, .inl (zA ft))), (q2, .inl (cI, 20, .inl (zA fx))), (q3, .inl (cI, 20, .inl (zA fy))), (rH, .inr (4, [.ref q9])), (q9, .inl (cI, 20, .inl (zA fs)))] H := hP.sub [0, 1, 2, 3, 4, 5, 6, 7, 8] rfl
    have hD : va_D A [(hd, .inr (6, [.ref rT, .ref rH, .ref rG, .ref rD, .ref rF])), (rT, .inl (cT, 4, .inr (.inr (.inr (.inr tr))))), (qT, .inr (5, [.ref qR, .int (iI sg), .int (iI bd)])), (qR, .inr (2, [.ref q1, .ref q2, .ref q3, .int (iI n)])), (q1, .inl (cI, 20, .inl (zA ft))), (q2, .inl (cI, 20, .inl (zA fx))), (q3, .inl (cI, 20, .inl (zA fy))), (rH, .inr (4, [.ref q9])), (q9, .inl (cI, 20, .inl (zA fs)))] := hD.sub [0, 1, 2, 3, 4, 5, 6, 7, 8] (by decide) rfl
    subst hw28
    refine wz_ifb_ne (tgt := 44) hx hb dX6_seal_31 (by decide) (fun c31 => ?_) (fun c31 => ?_)
    · skip
      refine lv_aload_n hx hb dX6_seal_44 rfl (lv_at hl 1 rfl) ?_
      refine va_get (D := D) (ci := 6) (v := .ref rH) (C := RX6) (T := TX6) (N := 5) hx hb hts hin6 hown hK hP 0 rfl rfl 1 (by decide) (hts (.fieldLink RX6 18 "DriftLog" "thinner" "LDriftLog$Thinner;") (by decide +kernel)) (fun _ h9 => h9) rfl dX6_seal_45 ?_
      refine lv_aload_n hx hb dX6_seal_48 rfl (lv_at hl 0 rfl) ?_
      refine va_get (D := D) (ci := 5) (v := .ref qR) (C := RX5) (T := TX5) (N := 3) hx hb hts hin5 hown hK hP 2 rfl rfl 0 (by decide) (hts (.fieldLink RX6 52 "DriftLog$Track" "row" "LDriftLog$Row;") (by decide +kernel)) (fun _ h9 => h9) rfl dX6_seal_49 ?_
      refine lv_iload_n hx hb dX6_seal_52 rfl (lv_at hl 3 rfl) ?_
      refine wz_callv (wr := [(hd, .inr (6, [.ref rT, .ref rH, .ref rG, .ref rD, .ref rF])), (rT, .inl (cT, 4, .inr (.inr (.inr (.inr tr))))), (qT, .inr (5, [.ref qR, .int (iI sg), .int (iI bd)]))]) (va_runV (As := [.ref qR, .int (iI e1)]) (rest := []) ⟨hx, hb, hml, hown, hts⟩ (k_X4_thin l D cI cJ cT H.size rH q9 fs qR q1 q2 q3 ft fx fy n e1 (ht) (hx1) (hy1) (by omega) (hea)) (cwV 2 hts gX6_seal_X4_thin rfl rfl rfl (by decide +kernel) ⟨Nat.le_of_ble_eq_true rfl, Nat.le_of_ble_eq_true rfl⟩) (wz_preV hK hP hD [7, 8, 3, 4, 5, 6] (by decide) rfl rfl 4 7 rfl rfl) rfl rfl hl.1 rfl (lv_room (Nat.le_of_ble_eq_true rfl)) dX6_seal_53 ⟨Nat.le_of_ble_eq_true rfl, Nat.le_of_ble_eq_true rfl⟩) hP hD hS hA [7, 8, 3, 4, 5, 6] [0, 1, 2] rfl rfl rfl (by decide) (fun  u H locs hw53 hP hD hS => ?_)
      obtain ⟨gs, k, kp, gt, gx, gy⟩ := u
      try dsimp only at hw53
      have hP : va_P D vwCl [(hd, .inr (6, [.ref rT, .ref rH, .ref rG, .ref rD, .ref rF])), (rT, .inl (cT, 4, .inr (.inr (.inr (.inr tr))))), (qT, .inr (5, [.ref qR, .int (iI sg), .int (iI bd)])), (qR, .inr (2, [.ref q1, .ref q2, .ref q3, .int (iI k)])), (q1, .inl (cI, 20, .inl (zA gt))), (q2, .inl (cI, 20, .inl (zA gx))), (q3, .inl (cI, 20, .inl (zA gy))), (rH, .inr (4, [.ref q9])), (q9, .inl (cI, 20, .inl (zA gs)))] H := hP.sub [0, 1, 2, 5, 6, 7, 8, 3, 4] rfl
      have hD : va_D A [(hd, .inr (6, [.ref rT, .ref rH, .ref rG, .ref rD, .ref rF])), (rT, .inl (cT, 4, .inr (.inr (.inr (.inr tr))))), (qT, .inr (5, [.ref qR, .int (iI sg), .int (iI bd)])), (qR, .inr (2, [.ref q1, .ref q2, .ref q3, .int (iI k)])), (q1, .inl (cI, 20, .inl (zA gt))), (q2, .inl (cI, 20, .inl (zA gx))), (q3, .inl (cI, 20, .inl (zA gy))), (rH, .inr (4, [.ref q9])), (q9, .inl (cI, 20, .inl (zA gs)))] := hD.sub [0, 1, 2, 5, 6, 7, 8, 3, 4] (by decide) rfl
      refine lv_aload_n hx hb dX6_seal_56 rfl (lv_at hl 0 rfl) ?_
      refine lv_iconst (v := iI 2) hx hb dX6_seal_57 rfl ?_
      refine lv_iload_n hx hb dX6_seal_58 rfl (lv_at hl 3 rfl) ?_
      refine wz_callv (wr := [(hd, .inr (6, [.ref rT, .ref rH, .ref rG, .ref rD, .ref rF])), (rT, .inl (cT, 4, .inr (.inr (.inr (.inr tr))))), (qR, .inr (2, [.ref q1, .ref q2, .ref q3, .int (iI k)])), (q1, .inl (cI, 20, .inl (zA gt))), (q2, .inl (cI, 20, .inl (zA gx))), (q3, .inl (cI, 20, .inl (zA gy))), (rH, .inr (4, [.ref q9])), (q9, .inl (cI, 20, .inl (zA gs)))]) (va_runV (As := [.int (iI 2), .int (iI e1)]) (rest := []) ⟨hx, hb, hml, hown, hts⟩ (k_X5_become l D cI cJ cT H.size qT qR sg bd 2 e1 ) (cwV 2 hts gX6_seal_X5_become rfl rfl rfl (by decide +kernel) ⟨Nat.le_of_ble_eq_true rfl, Nat.le_of_ble_eq_true rfl⟩) (wz_preV hK hP hD [2] (by decide) rfl rfl 5 2 rfl rfl) rfl rfl hl.1 rfl (lv_room (Nat.le_of_ble_eq_true rfl)) dX6_seal_59 ⟨Nat.le_of_ble_eq_true rfl, Nat.le_of_ble_eq_true rfl⟩) hP hD hS hA [2] [0, 1, 3, 4, 5, 6, 7, 8] rfl rfl rfl (by decide) (fun  u H locs hw59 hP hD hS => ?_)
      have hP : va_P D vwCl [(hd, .inr (6, [.ref rT, .ref rH, .ref rG, .ref rD, .ref rF])), (rT, .inl (cT, 4, .inr (.inr (.inr (.inr tr))))), (qT, .inr (5, [.ref qR, .int (iI 2), .int (iI e1)])), (qR, .inr (2, [.ref q1, .ref q2, .ref q3, .int (iI k)])), (q1, .inl (cI, 20, .inl (zA gt))), (q2, .inl (cI, 20, .inl (zA gx))), (q3, .inl (cI, 20, .inl (zA gy))), (rH, .inr (4, [.ref q9])), (q9, .inl (cI, 20, .inl (zA gs)))] H := hP.sub [0, 1, 8, 2, 3, 4, 5, 6, 7] rfl
      have hD : va_D A [(hd, .inr (6, [.ref rT, .ref rH, .ref rG, .ref rD, .ref rF])), (rT, .inl (cT, 4, .inr (.inr (.inr (.inr tr))))), (qT, .inr (5, [.ref qR, .int (iI 2), .int (iI e1)])), (qR, .inr (2, [.ref q1, .ref q2, .ref q3, .int (iI k)])), (q1, .inl (cI, 20, .inl (zA gt))), (q2, .inl (cI, 20, .inl (zA gx))), (q3, .inl (cI, 20, .inl (zA gy))), (rH, .inr (4, [.ref q9])), (q9, .inl (cI, 20, .inl (zA gs)))] := hD.sub [0, 1, 8, 2, 3, 4, 5, 6, 7] (by decide) rfl
      refine lv_aload_n hx hb dX6_seal_62 rfl (lv_at hl 0 rfl) ?_
      refine va_get (D := D) (ci := 5) (v := .ref qR) (C := RX5) (T := TX5) (N := 3) hx hb hts hin5 hown hK hP 2 rfl rfl 0 (by decide) (hts (.fieldLink RX6 52 "DriftLog$Track" "row" "LDriftLog$Row;") (by decide +kernel)) (fun _ h9 => h9) rfl dX6_seal_63 ?_
      refine va_get (D := D) (ci := 2) (v := .int (iI k)) (C := RX2) (T := TX2) (N := 4) hx hb hts hin2 hown hK hP 3 rfl rfl 3 (by decide) (hts (.fieldLink RX6 56 "DriftLog$Row" "size" "I") (by decide +kernel)) (fun _ h9 => h9) rfl dX6_seal_66 ?_
      refine W.widen (k := 3) (n := 18) (by decide) (by decide) ?_
      exact vx_ret (wz_reti (tys := TY cI cJ cT) (gs, k, kp, gt, gx, gy) hx hb hr hlocks hK hP hD hS (by (try dsimp only); exact (⟨rfl, tk, c14, c31, hw53⟩)) dX6_seal_69)
    · skip
      exact wz_throw (sa9 := sa 94) hx hb hLt hown (by decide) (hts (.classLink RX6 73 nIA) (by decide +kernel)) (hts (.initialized nIA) (by decide +kernel)) (hTV.2.2.2.2.2.2 (94, _) (List.mem_of_getElem? (i := 6) rfl)) (hat_IA (fun w hw => hts w (hgIA w hw)) hTV) hgd_IA hTH (hl.1.trans hml.symm) dX6_seal_34 dX6_seal_37 dX6_seal_38 dX6_seal_40 dX6_seal_43 hT0 (by decide) (by decide) (by decide) (by decide) hlocks hK hP hD hS (Or.inr (Or.inr (Or.inr ⟨rfl, tk.1, tk.2, c14, c31⟩))) (by decide) (by decide)
  · skip
    exact wz_throw (sa9 := sa 88) hx hb hLt hown (by decide) (hts (.classLink RX6 61 nIS) (by decide +kernel)) (hts (.initialized nIS) (by decide +kernel)) (hTV.2.2.2.2.2.2 (88, _) (List.mem_of_getElem? (i := 5) rfl)) (hat_IS (fun w hw => hts w (hgIS w hw)) hTV) hgd_IS hTH (hl.1.trans hml.symm) dX6_seal_17 dX6_seal_20 dX6_seal_21 dX6_seal_23 dX6_seal_26 hT0 (by decide) (by decide) (by decide) (by decide) hlocks hK hP hD hS (Or.inr (Or.inr (Or.inl ⟨rfl, tk.1, tk.2, c14⟩))) (by decide) (by decide)
set_option maxHeartbeats 4000000 in
set_option maxRecDepth 100000 in
theorem k_X6_again (l : Launch) (hLt : l.stackTraces = false) (sa : Nat → Nat) (D : va_G) (cI cJ cT : ClassId) (sz : Nat) (hd : Nat) (rT : Nat) (rH : Nat) (rG : Nat) (rD : Nat) (rF : Nat) (tr : Nat → Option Nat) (qT : Nat) (qR : Nat) (sg : Int) (bd : Int) (q1 : Nat) (q2 : Nat) (q3 : Nat) (ft : Int → Int) (fx : Int → Int) (fy : Int → Int) (n : Int) (q9 : Nat) (fs : Int → Int) (a : Int) (e1 : Int) (ha : rI a) (htr : (0 ≤ a ∧ a < 4) → tr a.toNat = some qT) (hs1 : rI sg) (hb1 : -1 ≤ bd ∧ bd ≤ 65535) (hn : sg = 2 → 1 ≤ n ∧ n ≤ 20) (ht : okT ft) (hx1 : okC fx) (hy1 : okC fy) (hea : rI e1) : vx_Met l yX6_again wsX6_again { frames := 8, cells := 3, slots := 18, locals := 128 } (zPx D (TY cI cJ cT) [.ref hd, .int (iI a), .int (iI e1)] [(hd, .inr (6, [.ref rT, .ref rH, .ref rG, .ref rD, .ref rF])), (rT, .inl (cT, 4, .inr (.inr (.inr (.inr tr))))), (qT, .inr (5, [.ref qR, .int (iI sg), .int (iI bd)])), (qR, .inr (2, [.ref q1, .ref q2, .ref q3, .int (iI n)])), (q1, .inl (cI, 20, .inl (zA ft))), (q2, .inl (cI, 20, .inl (zA fx))), (q3, .inl (cI, 20, .inl (zA fy))), (rH, .inr (4, [.ref q9])), (q9, .inl (cI, 20, .inl (zA fs)))] sz sa) (zQi D (TY cI cJ cT) (va_A [(hd, .inr (6, [.ref rT, .ref rH, .ref rG, .ref rD, .ref rF])), (rT, .inl (cT, 4, .inr (.inr (.inr (.inr tr))))), (qT, .inr (5, [.ref qR, .int (iI sg), .int (iI bd)])), (qR, .inr (2, [.ref q1, .ref q2, .ref q3, .int (iI n)])), (q1, .inl (cI, 20, .inl (zA ft))), (q2, .inl (cI, 20, .inl (zA fx))), (q3, .inl (cI, 20, .inl (zA fy))), (rH, .inr (4, [.ref q9])), (q9, .inl (cI, 20, .inl (zA fs)))] sz) (fun (z : Int) (u : (Int → Int) × Int × (Int → Int) × (Int → Int) × (Int → Int) × (Int → Int)) => z = u.2.1 ∧ ((0 ≤ a ∧ a < 4) ∧ sg = 2) ∧ (0 ≤ e1 ∧ e1 ≤ 65535 - bd) ∧ ((∀ i, 0 ≤ i → i < n → swP n (stepP ft fx fy e1) (u.1) i) ∧ keptP n (stepP ft fx fy e1) (u.1) (u.2.1) (u.2.2.1) ∧ (okT (u.2.2.2.1) ∧ okC (u.2.2.2.2.1) ∧ okC (u.2.2.2.2.2)) ∧ ∀ j, 0 ≤ j → j < u.2.1 → (u.2.2.2.1) j = ft ((u.2.2.1) j) ∧ (u.2.2.2.2.1) j = fx ((u.2.2.1) j) ∧ (u.2.2.2.2.2) j = fy ((u.2.2.1) j))) (fun (u : (Int → Int) × Int × (Int → Int) × (Int → Int) × (Int → Int) × (Int → Int)) => [(hd, .inr (6, [.ref rT, .ref rH, .ref rG, .ref rD, .ref rF])), (rT, .inl (cT, 4, .inr (.inr (.inr (.inr tr))))), (qT, .inr (5, [.ref qR, .int (iI sg), .int (iI (bd + e1))])), (qR, .inr (2, [.ref q1, .ref q2, .ref q3, .int (iI u.2.1)])), (q1, .inl (cI, 20, .inl (zA u.2.2.2.1))), (q2, .inl (cI, 20, .inl (zA u.2.2.2.2.1))), (q3, .inl (cI, 20, .inl (zA u.2.2.2.2.2))), (rH, .inr (4, [.ref q9])), (q9, .inl (cI, 20, .inl (zA u.1)))])) (zX D (TY cI cJ cT) (va_A [(hd, .inr (6, [.ref rT, .ref rH, .ref rG, .ref rD, .ref rF])), (rT, .inl (cT, 4, .inr (.inr (.inr (.inr tr))))), (qT, .inr (5, [.ref qR, .int (iI sg), .int (iI bd)])), (qR, .inr (2, [.ref q1, .ref q2, .ref q3, .int (iI n)])), (q1, .inl (cI, 20, .inl (zA ft))), (q2, .inl (cI, 20, .inl (zA fx))), (q3, .inl (cI, 20, .inl (zA fy))), (rH, .inr (4, [.ref q9])), (q9, .inl (cI, 20, .inl (zA fs)))] sz) [(hd, .inr (6, [.ref rT, .ref rH, .ref rG, .ref rD, .ref rF])), (rT, .inl (cT, 4, .inr (.inr (.inr (.inr tr))))), (qT, .inr (5, [.ref qR, .int (iI sg), .int (iI bd)])), (qR, .inr (2, [.ref q1, .ref q2, .ref q3, .int (iI n)])), (q1, .inl (cI, 20, .inl (zA ft))), (q2, .inl (cI, 20, .inl (zA fx))), (q3, .inl (cI, 20, .inl (zA fy))), (rH, .inr (4, [.ref q9])), (q9, .inl (cI, 20, .inl (zA fs)))] (fun E => (E = nIO ∧ ¬ (0 ≤ a ∧ a < 4)) ∨ (E = nIS ∧ (0 ≤ a ∧ a < 4) ∧ sg ≠ 2) ∨ (E = nIA ∧ (0 ≤ a ∧ a < 4) ∧ sg = 2 ∧ ¬ (0 ≤ e1 ∧ e1 ≤ 65535 - bd)))) 3 18 (va_A [(hd, .inr (6, [.ref rT, .ref rH, .ref rG, .ref rD, .ref rF])), (rT, .inl (cT, 4, .inr (.inr (.inr (.inr tr))))), (qT, .inr (5, [.ref qR, .int (iI sg), .int (iI bd)])), (qR, .inr (2, [.ref q1, .ref q2, .ref q3, .int (iI n)])), (q1, .inl (cI, 20, .inl (zA ft))), (q2, .inl (cI, 20, .inl (zA fx))), (q3, .inl (cI, 20, .inl (zA fy))), (rH, .inr (4, [.ref q9])), (q9, .inl (cI, 20, .inl (zA fs)))] sz) := by
  refine zNi (cc := cX6_again) (maxL := 4) (ret := (some .int)) (by decide) rfl (Nat.le_of_ble_eq_true rfl) ?_
  intro p e s m below meth c A ls hE hTV hTH hT0
  obtain ⟨hx, hb, hr, hts, hown, hlocks, hml, hnm, hP, hK, hD, hA, hS, hl⟩ := hE
  have hown : s.vm.findClass RX6 = some m.cls := hown
  have hl : lv_has ls 4 [(0, .ref hd), (1, .int (iI a)), (2, .int (iI e1))] := hl
  have hin2 : ∀ w ∈ wsX20, w ∈ wsX6_again := by decide +kernel
  have hin5 : ∀ w ∈ wsX50, w ∈ wsX6_again := by decide +kernel
  have hin6 : ∀ w ∈ wsX60, w ∈ wsX6_again := by decide +kernel
  have hgIA : ∀ w ∈ (vx_atS RX6 77 nIA nmE).filter goodWord, w ∈ wsX6_again := by decide +kernel
  refine lv_aload_n hx hb dX6_again_0 rfl (lv_at hl 0 rfl) ?_
  refine lv_iload_n hx hb dX6_again_1 rfl (lv_at hl 1 rfl) ?_
  refine lv_iconst (v := iI 2) hx hb dX6_again_2 rfl ?_
  refine wz_xcallr (wr := [(qR, .inr (2, [.ref q1, .ref q2, .ref q3, .int (iI n)])), (q1, .inl (cI, 20, .inl (zA ft))), (q2, .inl (cI, 20, .inl (zA fx))), (q3, .inl (cI, 20, .inl (zA fy))), (rH, .inr (4, [.ref q9])), (q9, .inl (cI, 20, .inl (zA fs)))]) (vx_runV (As := [.int (iI a), .int (iI 2)]) (rest := []) ⟨hx, hb, hml, hown, hts⟩ (k_X6_trackIn l hLt sa D cI cJ cT s.heap.size hd rT rH rG rD rF tr qT qR sg bd a 2 (ha) (htr) (hs1) (by decide)) (cwV 2 hts gX6_again_X6_trackIn rfl rfl rfl (by decide +kernel) ⟨Nat.le_of_ble_eq_true rfl, Nat.le_of_ble_eq_true rfl⟩) (wz_preVx hK hP hD hTV hTH hS hA [0, 1, 2] (by decide) rfl rfl 6 0 rfl rfl) rfl rfl hl.1 rfl (lv_room (Nat.le_of_ble_eq_true rfl)) dX6_again_3 ⟨Nat.le_of_ble_eq_true rfl, Nat.le_of_ble_eq_true rfl⟩) hK hP hD hS hA [0, 1, 2] [3, 4, 5, 6, 7, 8] rfl rfl rfl (by decide) [6, 7, 8, 0, 1, 2, 3, 4, 5] rfl (by decide) rfl hT0 hlocks (fun E q => q.elim Or.inl (fun q => Or.inr (Or.inl q))) (by decide) (by decide) (fun z3 u H locs hw3 hP hD hS => ?_)
  have hP : va_P D vwCl [(hd, .inr (6, [.ref rT, .ref rH, .ref rG, .ref rD, .ref rF])), (rT, .inl (cT, 4, .inr (.inr (.inr (.inr tr))))), (qT, .inr (5, [.ref qR, .int (iI sg), .int (iI bd)])), (qR, .inr (2, [.ref q1, .ref q2, .ref q3, .int (iI n)])), (q1, .inl (cI, 20, .inl (zA ft))), (q2, .inl (cI, 20, .inl (zA fx))), (q3, .inl (cI, 20, .inl (zA fy))), (rH, .inr (4, [.ref q9])), (q9, .inl (cI, 20, .inl (zA fs)))] H := hP.sub [6, 7, 8, 0, 1, 2, 3, 4, 5] rfl
  have hD : va_D A [(hd, .inr (6, [.ref rT, .ref rH, .ref rG, .ref rD, .ref rF])), (rT, .inl (cT, 4, .inr (.inr (.inr (.inr tr))))), (qT, .inr (5, [.ref qR, .int (iI sg), .int (iI bd)])), (qR, .inr (2, [.ref q1, .ref q2, .ref q3, .int (iI n)])), (q1, .inl (cI, 20, .inl (zA ft))), (q2, .inl (cI, 20, .inl (zA fx))), (q3, .inl (cI, 20, .inl (zA fy))), (rH, .inr (4, [.ref q9])), (q9, .inl (cI, 20, .inl (zA fs)))] := hD.sub [6, 7, 8, 0, 1, 2, 3, 4, 5] (by decide) rfl
  obtain ⟨hz3, hv3⟩ := hw3
  have hz3 := hz3.symm
  subst hz3
  have tk := hv3
  refine lv_astore_n (lv' := [(3, .ref qT), (0, .ref hd), (1, .int (iI a)), (2, .int (iI e1))]) hx hb dX6_again_6 rfl hl (by decide) rfl (fun ls hl => ?_)
  refine lv_iload_n hx hb dX6_again_7 rfl (lv_at hl 3 rfl) ?_
  refine wz_if_lt (tgt := 22) hx hb dX6_again_8 (by decide) (hea) (fun c8 => ?_) (fun c8 => ?_)
  · skip
    exact wz_throw (sa9 := sa 108) hx hb hLt hown (by decide) (hts (.classLink RX6 73 nIA) (by decide +kernel)) (hts (.initialized nIA) (by decide +kernel)) (hTV.2.2.2.2.2.2 (108, _) (List.mem_of_getElem? (i := 7) rfl)) (hat_IA (fun w hw => hts w (hgIA w hw)) hTV) hgd_IA hTH (hl.1.trans hml.symm) dX6_again_22 dX6_again_25 dX6_again_26 dX6_again_28 dX6_again_31 hT0 (by decide) (by decide) (by decide) (by decide) hlocks hK hP hD hS (Or.inr (Or.inr ⟨rfl, tk.1, tk.2, fun q => by omega⟩)) (by decide) (by decide)
  · skip
    refine lv_iload_n hx hb dX6_again_11 rfl (lv_at hl 3 rfl) ?_
    refine lv_ldc (v := 65535) hx hb hown (hts (.constant RX6 104 (65535)) (by decide +kernel)) dX6_again_12 ?_
    refine wz_topi (show (65535 : Int32) = iI 65535 by decide) ?_
    refine lv_aload_n hx hb dX6_again_14 rfl (lv_at hl 0 rfl) ?_
    refine va_get (D := D) (ci := 5) (v := .int (iI bd)) (C := RX5) (T := TX5) (N := 3) hx hb hts hin5 hown hK hP 2 rfl rfl 2 (by decide) (hts (.fieldLink RX6 105 "DriftLog$Track" "bound" "I") (by decide +kernel)) (fun _ h9 => h9) rfl dX6_again_15 ?_
    refine wz_isub hx hb dX6_again_18 ?_
    refine wz_icmp_le (tgt := 32) hx hb dX6_again_19 (by decide) (hea) ⟨by omega, by omega⟩ (fun c19 => ?_) (fun c19 => ?_)
    · skip
      refine lv_aload_n hx hb dX6_again_32 rfl (lv_at hl 1 rfl) ?_
      refine va_get (D := D) (ci := 6) (v := .ref rH) (C := RX6) (T := TX6) (N := 5) hx hb hts hin6 hown hK hP 0 rfl rfl 1 (by decide) (hts (.fieldLink RX6 18 "DriftLog" "thinner" "LDriftLog$Thinner;") (by decide +kernel)) (fun _ h9 => h9) rfl dX6_again_33 ?_
      refine lv_aload_n hx hb dX6_again_36 rfl (lv_at hl 0 rfl) ?_
      refine va_get (D := D) (ci := 5) (v := .ref qR) (C := RX5) (T := TX5) (N := 3) hx hb hts hin5 hown hK hP 2 rfl rfl 0 (by decide) (hts (.fieldLink RX6 52 "DriftLog$Track" "row" "LDriftLog$Row;") (by decide +kernel)) (fun _ h9 => h9) rfl dX6_again_37 ?_
      refine lv_iload_n hx hb dX6_again_40 rfl (lv_at hl 3 rfl) ?_
      refine wz_callv (wr := [(hd, .inr (6, [.ref rT, .ref rH, .ref rG, .ref rD, .ref rF])), (rT, .inl (cT, 4, .inr (.inr (.inr (.inr tr))))), (qT, .inr (5, [.ref qR, .int (iI sg), .int (iI bd)]))]) (va_runV (As := [.ref qR, .int (iI e1)]) (rest := []) ⟨hx, hb, hml, hown, hts⟩ (k_X4_thin l D cI cJ cT H.size rH q9 fs qR q1 q2 q3 ft fx fy n e1 (ht) (hx1) (hy1) (hn tk.2) (hea)) (cwV 2 hts gX6_again_X4_thin rfl rfl rfl (by decide +kernel) ⟨Nat.le_of_ble_eq_true rfl, Nat.le_of_ble_eq_true rfl⟩) (wz_preV hK hP hD [7, 8, 3, 4, 5, 6] (by decide) rfl rfl 4 7 rfl rfl) rfl rfl hl.1 rfl (lv_room (Nat.le_of_ble_eq_true rfl)) dX6_again_41 ⟨Nat.le_of_ble_eq_true rfl, Nat.le_of_ble_eq_true rfl⟩) hP hD hS hA [7, 8, 3, 4, 5, 6] [0, 1, 2] rfl rfl rfl (by decide) (fun  u H locs hw41 hP hD hS => ?_)
      obtain ⟨gs, k, kp, gt, gx, gy⟩ := u
      try dsimp only at hw41
      have hP : va_P D vwCl [(hd, .inr (6, [.ref rT, .ref rH, .ref rG, .ref rD, .ref rF])), (rT, .inl (cT, 4, .inr (.inr (.inr (.inr tr))))), (qT, .inr (5, [.ref qR, .int (iI sg), .int (iI bd)])), (qR, .inr (2, [.ref q1, .ref q2, .ref q3, .int (iI k)])), (q1, .inl (cI, 20, .inl (zA gt))), (q2, .inl (cI, 20, .inl (zA gx))), (q3, .inl (cI, 20, .inl (zA gy))), (rH, .inr (4, [.ref q9])), (q9, .inl (cI, 20, .inl (zA gs)))] H := hP.sub [0, 1, 2, 5, 6, 7, 8, 3, 4] rfl
      have hD : va_D A [(hd, .inr (6, [.ref rT, .ref rH, .ref rG, .ref rD, .ref rF])), (rT, .inl (cT, 4, .inr (.inr (.inr (.inr tr))))), (qT, .inr (5, [.ref qR, .int (iI sg), .int (iI bd)])), (qR, .inr (2, [.ref q1, .ref q2, .ref q3, .int (iI k)])), (q1, .inl (cI, 20, .inl (zA gt))), (q2, .inl (cI, 20, .inl (zA gx))), (q3, .inl (cI, 20, .inl (zA gy))), (rH, .inr (4, [.ref q9])), (q9, .inl (cI, 20, .inl (zA gs)))] := hD.sub [0, 1, 2, 5, 6, 7, 8, 3, 4] (by decide) rfl
      refine lv_aload_n hx hb dX6_again_44 rfl (lv_at hl 0 rfl) ?_
      refine lv_dup hx hb dX6_again_45 rfl ?_
      refine va_get (D := D) (ci := 5) (v := .int (iI bd)) (C := RX5) (T := TX5) (N := 3) hx hb hts hin5 hown hK hP 2 rfl rfl 2 (by decide) (hts (.fieldLink RX6 105 "DriftLog$Track" "bound" "I") (by decide +kernel)) (fun _ h9 => h9) rfl dX6_again_46 ?_
      refine lv_iload_n hx hb dX6_again_49 rfl (lv_at hl 3 rfl) ?_
      refine wz_iadd hx hb dX6_again_50 ?_
      refine va_put (D := D) (ci := 5) (v := .int (iI (bd + e1))) (ty := .int) (C := RX5) (T := TX5) (N := 3) hx hb hts hin5 tyX5 tyX5_ok nmX5 hown hK hP hD hS 2 rfl rfl 2 (by decide) (hts (.fieldLink RX6 105 "DriftLog$Track" "bound" "I") (by decide +kernel)) (fun _ h9 => h9) rfl (by decide +kernel) rfl rfl (Nat.le_of_ble_eq_true rfl) dX6_again_51 (fun H locs hP hD hS => ?_)
      have hP : va_P D vwCl [(hd, .inr (6, [.ref rT, .ref rH, .ref rG, .ref rD, .ref rF])), (rT, .inl (cT, 4, .inr (.inr (.inr (.inr tr))))), (qT, .inr (5, [.ref qR, .int (iI sg), .int (iI (bd + e1))])), (qR, .inr (2, [.ref q1, .ref q2, .ref q3, .int (iI k)])), (q1, .inl (cI, 20, .inl (zA gt))), (q2, .inl (cI, 20, .inl (zA gx))), (q3, .inl (cI, 20, .inl (zA gy))), (rH, .inr (4, [.ref q9])), (q9, .inl (cI, 20, .inl (zA gs)))] H := hP
      have hD : va_D A [(hd, .inr (6, [.ref rT, .ref rH, .ref rG, .ref rD, .ref rF])), (rT, .inl (cT, 4, .inr (.inr (.inr (.inr tr))))), (qT, .inr (5, [.ref qR, .int (iI sg), .int (iI (bd + e1))])), (qR, .inr (2, [.ref q1, .ref q2, .ref q3, .int (iI k)])), (q1, .inl (cI, 20, .inl (zA gt))), (q2, .inl (cI, 20, .inl (zA gx))), (q3, .inl (cI, 20, .inl (zA gy))), (rH, .inr (4, [.ref q9])), (q9, .inl (cI, 20, .inl (zA gs)))] := hD
      refine lv_aload_n hx hb dX6_again_54 rfl (lv_at hl 0 rfl) ?_
      refine va_get (D := D) (ci := 5) (v := .ref qR) (C := RX5) (T := TX5) (N := 3) hx hb hts hin5 hown hK hP 2 rfl rfl 0 (by decide) (hts (.fieldLink RX6 52 "DriftLog$Track" "row" "LDriftLog$Row;") (by decide +kernel)) (fun _ h9 => h9) rfl dX6_again_55 ?_
      refine va_get (D := D) (ci := 2) (v := .int (iI k)) (C := RX2) (T := TX2) (N := 4) hx hb hts hin2 hown hK hP 3 rfl rfl 3 (by decide) (hts (.fieldLink RX6 56 "DriftLog$Row" "size" "I") (by decide +kernel)) (fun _ h9 => h9) rfl dX6_again_58 ?_
      refine W.widen (k := 3) (n := 18) (by decide) (by decide) ?_
      exact vx_ret (wz_reti (tys := TY cI cJ cT) (gs, k, kp, gt, gx, gy) hx hb hr hlocks hK hP hD hS (by (try dsimp only); exact (⟨rfl, tk, by omega, hw41⟩)) dX6_again_61)
    · skip
      exact wz_throw (sa9 := sa 108) hx hb hLt hown (by decide) (hts (.classLink RX6 73 nIA) (by decide +kernel)) (hts (.initialized nIA) (by decide +kernel)) (hTV.2.2.2.2.2.2 (108, _) (List.mem_of_getElem? (i := 7) rfl)) (hat_IA (fun w hw => hts w (hgIA w hw)) hTV) hgd_IA hTH (hl.1.trans hml.symm) dX6_again_22 dX6_again_25 dX6_again_26 dX6_again_28 dX6_again_31 hT0 (by decide) (by decide) (by decide) (by decide) hlocks hK hP hD hS (Or.inr (Or.inr ⟨rfl, tk.1, tk.2, fun q => by omega⟩)) (by decide) (by decide)
set_option maxHeartbeats 4000000 in
set_option maxRecDepth 100000 in
theorem k_X6_drop (l : Launch) (D : va_G) (cI cJ cT : ClassId) (sz : Nat) (hd : Nat) (rT : Nat) (rH : Nat) (rG : Nat) (rD : Nat) (rF : Nat) (tr : Nat → Option Nat) (qT : Nat) (qR : Nat) (sg : Int) (bd : Int) (q1 : Nat) (q2 : Nat) (q3 : Nat) (n : Int) (a : Int) (ha : rI a) (htr : (0 ≤ a ∧ a < 4) → tr a.toNat = some qT) (hs1 : rI sg) : Met l yX6_drop wsX6_drop { frames := 1, cells := 0, slots := 0, locals := 22 } (zPc D (TY cI cJ cT) [.ref hd, .int (iI a)] [(hd, .inr (6, [.ref rT, .ref rH, .ref rG, .ref rD, .ref rF])), (rT, .inl (cT, 4, .inr (.inr (.inr (.inr tr))))), (qT, .inr (5, [.ref qR, .int (iI sg), .int (iI bd)])), (qR, .inr (2, [.ref q1, .ref q2, .ref q3, .int (iI n)]))] sz) (zQi D (TY cI cJ cT) (va_A [(hd, .inr (6, [.ref rT, .ref rH, .ref rG, .ref rD, .ref rF])), (rT, .inl (cT, 4, .inr (.inr (.inr (.inr tr))))), (qT, .inr (5, [.ref qR, .int (iI sg), .int (iI bd)])), (qR, .inr (2, [.ref q1, .ref q2, .ref q3, .int (iI n)]))] sz) (fun (z : Int) (u : Int × Int × Int) => (¬ ((0 ≤ a ∧ a < 4) ∧ sg ≠ 0) → z = 0 ∧ u.1 = sg ∧ u.2.1 = bd ∧ u.2.2 = n) ∧ (((0 ≤ a ∧ a < 4) ∧ sg ≠ 0) → z = 1 ∧ u.1 = 0 ∧ u.2.1 = -1 ∧ u.2.2 = 0)) (fun (u : Int × Int × Int) => [(hd, .inr (6, [.ref rT, .ref rH, .ref rG, .ref rD, .ref rF])), (rT, .inl (cT, 4, .inr (.inr (.inr (.inr tr))))), (qT, .inr (5, [.ref qR, .int (iI u.1), .int (iI u.2.1)])), (qR, .inr (2, [.ref q1, .ref q2, .ref q3, .int (iI u.2.2)]))])) 0 0 (va_A [(hd, .inr (6, [.ref rT, .ref rH, .ref rG, .ref rD, .ref rF])), (rT, .inl (cT, 4, .inr (.inr (.inr (.inr tr))))), (qT, .inr (5, [.ref qR, .int (iI sg), .int (iI bd)])), (qR, .inr (2, [.ref q1, .ref q2, .ref q3, .int (iI n)]))] sz) := by
  refine zMi (cc := cX6_drop) (maxL := 2) (ret := (some .boolean)) (by decide) rfl (Nat.le_of_ble_eq_true rfl) ?_
  intro p e s m below meth c A ls hE
  obtain ⟨hx, hb, hr, hts, hown, hlocks, hml, hnm, hP, hK, hD, hA, hS, hl⟩ := hE
  have hown : s.vm.findClass RX6 = some m.cls := hown
  have hl : lv_has ls 2 [(0, .ref hd), (1, .int (iI a))] := hl
  have hin2 : ∀ w ∈ wsX20, w ∈ wsX6_drop := by decide +kernel
  have hin5 : ∀ w ∈ wsX50, w ∈ wsX6_drop := by decide +kernel
  have hin6 : ∀ w ∈ wsX60, w ∈ wsX6_drop := by decide +kernel
  obtain ⟨Q, hQ⟩ : ∃ Q, Q = MQ below (zQi D (TY cI cJ cT) A (fun (z : Int) (u : Int × Int × Int) => (¬ ((0 ≤ a ∧ a < 4) ∧ sg ≠ 0) → z = 0 ∧ u.1 = sg ∧ u.2.1 = bd ∧ u.2.2 = n) ∧ (((0 ≤ a ∧ a < 4) ∧ sg ≠ 0) → z = 1 ∧ u.1 = 0 ∧ u.2.1 = -1 ∧ u.2.2 = 0)) (fun (u : Int × Int × Int) => [(hd, .inr (6, [.ref rT, .ref rH, .ref rG, .ref rD, .ref rF])), (rT, .inl (cT, 4, .inr (.inr (.inr (.inr tr))))), (qT, .inr (5, [.ref qR, .int (iI u.1), .int (iI u.2.1)])), (qR, .inr (2, [.ref q1, .ref q2, .ref q3, .int (iI u.2.2)]))])) ([.ref hd, .int (iI a)] : List Value).toArray s 0 0 A := ⟨_, rfl⟩
  rw [← hQ]
  refine lv_iload_n hx hb dX6_drop_0 rfl (lv_at hl 1 rfl) ?_
  refine wz_calli (wr := [(hd, .inr (6, [.ref rT, .ref rH, .ref rG, .ref rD, .ref rF])), (rT, .inl (cT, 4, .inr (.inr (.inr (.inr tr))))), (qT, .inr (5, [.ref qR, .int (iI sg), .int (iI bd)])), (qR, .inr (2, [.ref q1, .ref q2, .ref q3, .int (iI n)]))]) (va_runS (As := [.int (iI a)]) (rest := []) ⟨hx, hb, hml, hown, hts⟩ (k_X6_isTrack l D cI cJ cT s.heap.size a (ha)) (va_cwS 1 hts gX6_drop_X6_isTrack rfl rfl rfl (by decide +kernel) ⟨Nat.le_of_ble_eq_true rfl, Nat.le_of_ble_eq_true rfl⟩) (wz_preS hK hP hD [] (by decide) rfl rfl) rfl rfl hl.1 rfl (lv_room (Nat.le_of_ble_eq_true rfl)) dX6_drop_1 ⟨Nat.le_of_ble_eq_true rfl, Nat.le_of_ble_eq_true rfl⟩) hP hD hS hA [] [0, 1, 2, 3] rfl rfl rfl (by decide) (fun z1 u H locs hw1 hP hD hS => ?_)
  have hP : va_P D vwCl [(hd, .inr (6, [.ref rT, .ref rH, .ref rG, .ref rD, .ref rF])), (rT, .inl (cT, 4, .inr (.inr (.inr (.inr tr))))), (qT, .inr (5, [.ref qR, .int (iI sg), .int (iI bd)])), (qR, .inr (2, [.ref q1, .ref q2, .ref q3, .int (iI n)]))] H := hP.sub [0, 1, 2, 3] rfl
  have hD : va_D A [(hd, .inr (6, [.ref rT, .ref rH, .ref rG, .ref rD, .ref rF])), (rT, .inl (cT, 4, .inr (.inr (.inr (.inr tr))))), (qT, .inr (5, [.ref qR, .int (iI sg), .int (iI bd)])), (qR, .inr (2, [.ref q1, .ref q2, .ref q3, .int (iI n)]))] := hD.sub [0, 1, 2, 3] (by decide) rfl
  subst hw1
  refine wz_ifb_eq (tgt := 19) hx hb dX6_drop_4 (by decide) (fun c4 => ?_) (fun c4 => ?_)
  · skip
    refine lv_iconst (v := iI 0) hx hb dX6_drop_19 rfl ?_
    rw [hQ]
    exact wz_retz (tys := TY cI cJ cT) (sg, bd, n) hx hb hr hlocks hK hP hD hS (by first | decide | exact bz_01 _ | omega) (by (try dsimp only); exact (⟨fun h => ⟨rfl, rfl, rfl, rfl⟩, fun h => (by exfalso; first | exact c4 h.1 | exact h.2 c16)⟩)) dX6_drop_20
  · skip
    refine lv_aload_n hx hb dX6_drop_7 rfl (lv_at hl 0 rfl) ?_
    refine va_get (D := D) (ci := 6) (v := .ref rT) (C := RX6) (T := TX6) (N := 5) hx hb hts hin6 hown hK hP 0 rfl rfl 0 (by decide) (hts (.fieldLink RX6 11 "DriftLog" "tracks" "[LDriftLog$Track;") (by decide +kernel)) (fun _ h9 => h9) rfl dX6_drop_8 ?_
    refine lv_iload_n hx hb dX6_drop_11 rfl (lv_at hl 1 rfl) ?_
    refine wz_aald (tys := TY cI cJ cT) hx hb hK hP 1 2 rfl rfl (by decide) (c4) (htr c4) dX6_drop_12 ?_
    refine va_get (D := D) (ci := 5) (v := .int (iI sg)) (C := RX5) (T := TX5) (N := 3) hx hb hts hin5 hown hK hP 2 rfl rfl 1 (by decide) (hts (.fieldLink RX6 48 "DriftLog$Track" "state" "I") (by decide +kernel)) (fun _ h9 => h9) rfl dX6_drop_13 ?_
    refine wz_if_ne (tgt := 21) hx hb dX6_drop_16 (by decide) (hs1) (fun c16 => ?_) (fun c16 => ?_)
    · skip
      refine lv_aload_n hx hb dX6_drop_21 rfl (lv_at hl 0 rfl) ?_
      refine va_get (D := D) (ci := 6) (v := .ref rT) (C := RX6) (T := TX6) (N := 5) hx hb hts hin6 hown hK hP 0 rfl rfl 0 (by decide) (hts (.fieldLink RX6 11 "DriftLog" "tracks" "[LDriftLog$Track;") (by decide +kernel)) (fun _ h9 => h9) rfl dX6_drop_22 ?_
      refine lv_iload_n hx hb dX6_drop_25 rfl (lv_at hl 1 rfl) ?_
      refine wz_aald (tys := TY cI cJ cT) hx hb hK hP 1 2 rfl rfl (by decide) (c4) (htr c4) dX6_drop_26 ?_
      refine va_get (D := D) (ci := 5) (v := .ref qR) (C := RX5) (T := TX5) (N := 3) hx hb hts hin5 hown hK hP 2 rfl rfl 0 (by decide) (hts (.fieldLink RX6 52 "DriftLog$Track" "row" "LDriftLog$Row;") (by decide +kernel)) (fun _ h9 => h9) rfl dX6_drop_27 ?_
      refine lv_iconst (v := iI 0) hx hb dX6_drop_30 rfl ?_
      refine va_put (D := D) (ci := 2) (v := .int (iI 0)) (ty := .int) (C := RX2) (T := TX2) (N := 4) hx hb hts hin2 tyX2 tyX2_ok nmX2 hown hK hP hD hS 3 rfl rfl 3 (by decide) (hts (.fieldLink RX6 56 "DriftLog$Row" "size" "I") (by decide +kernel)) (fun _ h9 => h9) rfl (by decide +kernel) rfl rfl (Nat.le_of_ble_eq_true rfl) dX6_drop_31 (fun H locs hP hD hS => ?_)
      have hP : va_P D vwCl [(hd, .inr (6, [.ref rT, .ref rH, .ref rG, .ref rD, .ref rF])), (rT, .inl (cT, 4, .inr (.inr (.inr (.inr tr))))), (qT, .inr (5, [.ref qR, .int (iI sg), .int (iI bd)])), (qR, .inr (2, [.ref q1, .ref q2, .ref q3, .int (iI 0)]))] H := hP
      have hD : va_D A [(hd, .inr (6, [.ref rT, .ref rH, .ref rG, .ref rD, .ref rF])), (rT, .inl (cT, 4, .inr (.inr (.inr (.inr tr))))), (qT, .inr (5, [.ref qR, .int (iI sg), .int (iI bd)])), (qR, .inr (2, [.ref q1, .ref q2, .ref q3, .int (iI 0)]))] := hD
      refine lv_aload_n hx hb dX6_drop_34 rfl (lv_at hl 0 rfl) ?_
      refine va_get (D := D) (ci := 6) (v := .ref rT) (C := RX6) (T := TX6) (N := 5) hx hb hts hin6 hown hK hP 0 rfl rfl 0 (by decide) (hts (.fieldLink RX6 11 "DriftLog" "tracks" "[LDriftLog$Track;") (by decide +kernel)) (fun _ h9 => h9) rfl dX6_drop_35 ?_
      refine lv_iload_n hx hb dX6_drop_38 rfl (lv_at hl 1 rfl) ?_
      refine wz_aald (tys := TY cI cJ cT) hx hb hK hP 1 2 rfl rfl (by decide) (c4) (htr c4) dX6_drop_39 ?_
      refine lv_iconst (v := iI 0) hx hb dX6_drop_40 rfl ?_
      refine lv_iconst (v := iI (-1)) hx hb dX6_drop_41 rfl ?_
      refine wz_callv (wr := [(hd, .inr (6, [.ref rT, .ref rH, .ref rG, .ref rD, .ref rF])), (rT, .inl (cT, 4, .inr (.inr (.inr (.inr tr))))), (qR, .inr (2, [.ref q1, .ref q2, .ref q3, .int (iI 0)]))]) (va_runV (As := [.int (iI 0), .int (iI (-1))]) (rest := []) ⟨hx, hb, hml, hown, hts⟩ (k_X5_become l D cI cJ cT H.size qT qR sg bd 0 (-1) ) (cwV 2 hts gX6_drop_X5_become rfl rfl rfl (by decide +kernel) ⟨Nat.le_of_ble_eq_true rfl, Nat.le_of_ble_eq_true rfl⟩) (wz_preV hK hP hD [2] (by decide) rfl rfl 5 2 rfl rfl) rfl rfl hl.1 rfl (lv_room (Nat.le_of_ble_eq_true rfl)) dX6_drop_42 ⟨Nat.le_of_ble_eq_true rfl, Nat.le_of_ble_eq_true rfl⟩) hP hD hS hA [2] [0, 1, 3] rfl rfl rfl (by decide) (fun  u H locs hw42 hP hD hS => ?_)
      have hP : va_P D vwCl [(hd, .inr (6, [.ref rT, .ref rH, .ref rG, .ref rD, .ref rF])), (rT, .inl (cT, 4, .inr (.inr (.inr (.inr tr))))), (qT, .inr (5, [.ref qR, .int (iI 0), .int (iI (-1))])), (qR, .inr (2, [.ref q1, .ref q2, .ref q3, .int (iI 0)]))] H := hP.sub [0, 1, 3, 2] rfl
      have hD : va_D A [(hd, .inr (6, [.ref rT, .ref rH, .ref rG, .ref rD, .ref rF])), (rT, .inl (cT, 4, .inr (.inr (.inr (.inr tr))))), (qT, .inr (5, [.ref qR, .int (iI 0), .int (iI (-1))])), (qR, .inr (2, [.ref q1, .ref q2, .ref q3, .int (iI 0)]))] := hD.sub [0, 1, 3, 2] (by decide) rfl
      refine lv_iconst (v := iI 1) hx hb dX6_drop_45 rfl ?_
      rw [hQ]
      exact wz_retz (tys := TY cI cJ cT) (0, (-1), 0) hx hb hr hlocks hK hP hD hS (by first | decide | exact bz_01 _ | omega) (by (try dsimp only); exact (⟨fun h => absurd ⟨c4, c16⟩ h, fun h => ⟨rfl, rfl, rfl, rfl⟩⟩)) dX6_drop_46
    · skip
      refine lv_iconst (v := iI 0) hx hb dX6_drop_19 rfl ?_
      rw [hQ]
      exact wz_retz (tys := TY cI cJ cT) (sg, bd, n) hx hb hr hlocks hK hP hD hS (by first | decide | exact bz_01 _ | omega) (by (try dsimp only); exact (⟨fun h => ⟨rfl, rfl, rfl, rfl⟩, fun h => (by exfalso; first | exact c4 h.1 | exact h.2 c16)⟩)) dX6_drop_20
set_option maxHeartbeats 4000000 in
set_option maxRecDepth 100000 in
theorem k_X6_track (l : Launch) (D : va_G) (cI cJ cT : ClassId) (sz : Nat) (hd : Nat) (rT : Nat) (rH : Nat) (rG : Nat) (rD : Nat) (rF : Nat) (tr : Nat → Option Nat) (qT : Nat) (qR : Nat) (sg : Int) (bd : Int) (q1 : Nat) (q2 : Nat) (q3 : Nat) (n : Int) (a : Int) (w : Int) (ha : rI a) (htr : (0 ≤ a ∧ a < 4) → tr a.toNat = some qT) (hw1 : rI w) : Met l yX6_track wsX6_track { frames := 1, cells := 0, slots := 0, locals := 20 } (zPc D (TY cI cJ cT) [.ref hd, .int (iI a), .int (iI w)] [(hd, .inr (6, [.ref rT, .ref rH, .ref rG, .ref rD, .ref rF])), (rT, .inl (cT, 4, .inr (.inr (.inr (.inr tr))))), (qT, .inr (5, [.ref qR, .int (iI sg), .int (iI bd)])), (qR, .inr (2, [.ref q1, .ref q2, .ref q3, .int (iI n)]))] sz) (zQi D (TY cI cJ cT) (va_A [(hd, .inr (6, [.ref rT, .ref rH, .ref rG, .ref rD, .ref rF])), (rT, .inl (cT, 4, .inr (.inr (.inr (.inr tr))))), (qT, .inr (5, [.ref qR, .int (iI sg), .int (iI bd)])), (qR, .inr (2, [.ref q1, .ref q2, .ref q3, .int (iI n)]))] sz) (fun (z : Int) (u : Unit) => (¬ (0 ≤ a ∧ a < 4) → z = -1) ∧ ((0 ≤ a ∧ a < 4) → z = (if w = 0 then sg else if w = 1 then n else if w = 2 then bd else -1))) (fun (u : Unit) => [(hd, .inr (6, [.ref rT, .ref rH, .ref rG, .ref rD, .ref rF])), (rT, .inl (cT, 4, .inr (.inr (.inr (.inr tr))))), (qT, .inr (5, [.ref qR, .int (iI sg), .int (iI bd)])), (qR, .inr (2, [.ref q1, .ref q2, .ref q3, .int (iI n)]))])) 0 0 (va_A [(hd, .inr (6, [.ref rT, .ref rH, .ref rG, .ref rD, .ref rF])), (rT, .inl (cT, 4, .inr (.inr (.inr (.inr tr))))), (qT, .inr (5, [.ref qR, .int (iI sg), .int (iI bd)])), (qR, .inr (2, [.ref q1, .ref q2, .ref q3, .int (iI n)]))] sz) := by
  refine zMi (cc := cX6_track) (maxL := 3) (ret := (some .int)) (by decide) rfl (Nat.le_of_ble_eq_true rfl) ?_
  intro p e s m below meth c A ls hE
  obtain ⟨hx, hb, hr, hts, hown, hlocks, hml, hnm, hP, hK, hD, hA, hS, hl⟩ := hE
  have hown : s.vm.findClass RX6 = some m.cls := hown
  have hl : lv_has ls 3 [(0, .ref hd), (1, .int (iI a)), (2, .int (iI w))] := hl
  have hin2 : ∀ w ∈ wsX20, w ∈ wsX6_track := by decide +kernel
  have hin5 : ∀ w ∈ wsX50, w ∈ wsX6_track := by decide +kernel
  have hin6 : ∀ w ∈ wsX60, w ∈ wsX6_track := by decide +kernel
  obtain ⟨Q, hQ⟩ : ∃ Q, Q = MQ below (zQi D (TY cI cJ cT) A (fun (z : Int) (u : Unit) => (¬ (0 ≤ a ∧ a < 4) → z = -1) ∧ ((0 ≤ a ∧ a < 4) → z = (if w = 0 then sg else if w = 1 then n else if w = 2 then bd else -1))) (fun (u : Unit) => [(hd, .inr (6, [.ref rT, .ref rH, .ref rG, .ref rD, .ref rF])), (rT, .inl (cT, 4, .inr (.inr (.inr (.inr tr))))), (qT, .inr (5, [.ref qR, .int (iI sg), .int (iI bd)])), (qR, .inr (2, [.ref q1, .ref q2, .ref q3, .int (iI n)]))])) ([.ref hd, .int (iI a), .int (iI w)] : List Value).toArray s 0 0 A := ⟨_, rfl⟩
  rw [← hQ]
  refine lv_iload_n hx hb dX6_track_0 rfl (lv_at hl 1 rfl) ?_
  refine wz_calli (wr := [(hd, .inr (6, [.ref rT, .ref rH, .ref rG, .ref rD, .ref rF])), (rT, .inl (cT, 4, .inr (.inr (.inr (.inr tr))))), (qT, .inr (5, [.ref qR, .int (iI sg), .int (iI bd)])), (qR, .inr (2, [.ref q1, .ref q2, .ref q3, .int (iI n)]))]) (va_runS (As := [.int (iI a)]) (rest := []) ⟨hx, hb, hml, hown, hts⟩ (k_X6_isTrack l D cI cJ cT s.heap.size a (ha)) (va_cwS 1 hts gX6_track_X6_isTrack rfl rfl rfl (by decide +kernel) ⟨Nat.le_of_ble_eq_true rfl, Nat.le_of_ble_eq_true rfl⟩) (wz_preS hK hP hD [] (by decide) rfl rfl) rfl rfl hl.1 rfl (lv_room (Nat.le_of_ble_eq_true rfl)) dX6_track_1 ⟨Nat.le_of_ble_eq_true rfl, Nat.le_of_ble_eq_true rfl⟩) hP hD hS hA [] [0, 1, 2, 3] rfl rfl rfl (by decide) (fun z1 u H locs hw1 hP hD hS => ?_)
  have hP : va_P D vwCl [(hd, .inr (6, [.ref rT, .ref rH, .ref rG, .ref rD, .ref rF])), (rT, .inl (cT, 4, .inr (.inr (.inr (.inr tr))))), (qT, .inr (5, [.ref qR, .int (iI sg), .int (iI bd)])), (qR, .inr (2, [.ref q1, .ref q2, .ref q3, .int (iI n)]))] H := hP.sub [0, 1, 2, 3] rfl
  have hD : va_D A [(hd, .inr (6, [.ref rT, .ref rH, .ref rG, .ref rD, .ref rF])), (rT, .inl (cT, 4, .inr (.inr (.inr (.inr tr))))), (qT, .inr (5, [.ref qR, .int (iI sg), .int (iI bd)])), (qR, .inr (2, [.ref q1, .ref q2, .ref q3, .int (iI n)]))] := hD.sub [0, 1, 2, 3] (by decide) rfl
  subst hw1
  refine wz_ifb_ne (tgt := 9) hx hb dX6_track_4 (by decide) (fun c4 => ?_) (fun c4 => ?_)
  · skip
    refine lv_iload_n hx hb dX6_track_9 rfl (lv_at hl 2 rfl) ?_
    refine wz_tab3 (t0 := 36) (t1 := 46) (t2 := 59) (td := 69) hx hb dX6_track_10 (by decide) (by decide) (by decide) (by decide) (hw1) (fun c10 => ?_) (fun c10 => ?_) (fun c10 => ?_) (fun c10 => ?_)
    · skip
      refine lv_aload_n hx hb dX6_track_36 rfl (lv_at hl 0 rfl) ?_
      refine va_get (D := D) (ci := 6) (v := .ref rT) (C := RX6) (T := TX6) (N := 5) hx hb hts hin6 hown hK hP 0 rfl rfl 0 (by decide) (hts (.fieldLink RX6 11 "DriftLog" "tracks" "[LDriftLog$Track;") (by decide +kernel)) (fun _ h9 => h9) rfl dX6_track_37 ?_
      refine lv_iload_n hx hb dX6_track_40 rfl (lv_at hl 1 rfl) ?_
      refine wz_aald (tys := TY cI cJ cT) hx hb hK hP 1 2 rfl rfl (by decide) (c4) (htr c4) dX6_track_41 ?_
      refine va_get (D := D) (ci := 5) (v := .int (iI sg)) (C := RX5) (T := TX5) (N := 3) hx hb hts hin5 hown hK hP 2 rfl rfl 1 (by decide) (hts (.fieldLink RX6 48 "DriftLog$Track" "state" "I") (by decide +kernel)) (fun _ h9 => h9) rfl dX6_track_42 ?_
      rw [hQ]
      exact wz_reti (tys := TY cI cJ cT) () hx hb hr hlocks hK hP hD hS (⟨fun h => absurd c4 h, fun h => (by rw [if_pos c10])⟩) dX6_track_45
    · skip
      refine lv_aload_n hx hb dX6_track_46 rfl (lv_at hl 0 rfl) ?_
      refine va_get (D := D) (ci := 6) (v := .ref rT) (C := RX6) (T := TX6) (N := 5) hx hb hts hin6 hown hK hP 0 rfl rfl 0 (by decide) (hts (.fieldLink RX6 11 "DriftLog" "tracks" "[LDriftLog$Track;") (by decide +kernel)) (fun _ h9 => h9) rfl dX6_track_47 ?_
      refine lv_iload_n hx hb dX6_track_50 rfl (lv_at hl 1 rfl) ?_
      refine wz_aald (tys := TY cI cJ cT) hx hb hK hP 1 2 rfl rfl (by decide) (c4) (htr c4) dX6_track_51 ?_
      refine va_get (D := D) (ci := 5) (v := .ref qR) (C := RX5) (T := TX5) (N := 3) hx hb hts hin5 hown hK hP 2 rfl rfl 0 (by decide) (hts (.fieldLink RX6 52 "DriftLog$Track" "row" "LDriftLog$Row;") (by decide +kernel)) (fun _ h9 => h9) rfl dX6_track_52 ?_
      refine va_get (D := D) (ci := 2) (v := .int (iI n)) (C := RX2) (T := TX2) (N := 4) hx hb hts hin2 hown hK hP 3 rfl rfl 3 (by decide) (hts (.fieldLink RX6 56 "DriftLog$Row" "size" "I") (by decide +kernel)) (fun _ h9 => h9) rfl dX6_track_55 ?_
      rw [hQ]
      exact wz_reti (tys := TY cI cJ cT) () hx hb hr hlocks hK hP hD hS (⟨fun h => absurd c4 h, fun h => (by rw [if_neg (by omega), if_pos c10])⟩) dX6_track_58
    · skip
      refine lv_aload_n hx hb dX6_track_59 rfl (lv_at hl 0 rfl) ?_
      refine va_get (D := D) (ci := 6) (v := .ref rT) (C := RX6) (T := TX6) (N := 5) hx hb hts hin6 hown hK hP 0 rfl rfl 0 (by decide) (hts (.fieldLink RX6 11 "DriftLog" "tracks" "[LDriftLog$Track;") (by decide +kernel)) (fun _ h9 => h9) rfl dX6_track_60 ?_
      refine lv_iload_n hx hb dX6_track_63 rfl (lv_at hl 1 rfl) ?_
      refine wz_aald (tys := TY cI cJ cT) hx hb hK hP 1 2 rfl rfl (by decide) (c4) (htr c4) dX6_track_64 ?_
      refine va_get (D := D) (ci := 5) (v := .int (iI bd)) (C := RX5) (T := TX5) (N := 3) hx hb hts hin5 hown hK hP 2 rfl rfl 2 (by decide) (hts (.fieldLink RX6 105 "DriftLog$Track" "bound" "I") (by decide +kernel)) (fun _ h9 => h9) rfl dX6_track_65 ?_
      rw [hQ]
      exact wz_reti (tys := TY cI cJ cT) () hx hb hr hlocks hK hP hD hS (⟨fun h => absurd c4 h, fun h => (by rw [if_neg (by omega), if_neg (by omega), if_pos c10])⟩) dX6_track_68
    · skip
      refine lv_iconst (v := iI (-1)) hx hb dX6_track_69 rfl ?_
      rw [hQ]
      exact wz_reti (tys := TY cI cJ cT) () hx hb hr hlocks hK hP hD hS (⟨fun h => absurd c4 h, fun h => (by rw [if_neg (by omega), if_neg (by omega), if_neg (by omega)])⟩) dX6_track_70
  · skip
    refine lv_iconst (v := iI (-1)) hx hb dX6_track_7 rfl ?_
    rw [hQ]
    exact wz_reti (tys := TY cI cJ cT) () hx hb hr hlocks hK hP hD hS (⟨fun _ => rfl, fun h => absurd h c4⟩) dX6_track_8
set_option maxHeartbeats 4000000 in
set_option maxRecDepth 100000 in
theorem k_X6_sample (l : Launch) (hLt : l.stackTraces = false) (sa : Nat → Nat) (D : va_G) (cI cJ cT : ClassId) (sz : Nat) (hd : Nat) (rT : Nat) (rH : Nat) (rG : Nat) (rD : Nat) (rF : Nat) (tr : Nat → Option Nat) (qT : Nat) (qR : Nat) (sg : Int) (bd : Int) (q1 : Nat) (q2 : Nat) (q3 : Nat) (ft : Int → Int) (fx : Int → Int) (fy : Int → Int) (n : Int) (a : Int) (i : Int) (w : Int) (ha : rI a) (htr : (0 ≤ a ∧ a < 4) → tr a.toNat = some qT) (hn : 0 ≤ n ∧ n ≤ 20) (hia : rI i) (hw1 : rI w) : vx_Met l yX6_sample wsX6_sample { frames := 7, cells := 2, slots := 12, locals := 105 } (zPx D (TY cI cJ cT) [.ref hd, .int (iI a), .int (iI i), .int (iI w)] [(hd, .inr (6, [.ref rT, .ref rH, .ref rG, .ref rD, .ref rF])), (rT, .inl (cT, 4, .inr (.inr (.inr (.inr tr))))), (qT, .inr (5, [.ref qR, .int (iI sg), .int (iI bd)])), (qR, .inr (2, [.ref q1, .ref q2, .ref q3, .int (iI n)])), (q1, .inl (cI, 20, .inl (zA ft))), (q2, .inl (cI, 20, .inl (zA fx))), (q3, .inl (cI, 20, .inl (zA fy)))] sz sa) (zQi D (TY cI cJ cT) (va_A [(hd, .inr (6, [.ref rT, .ref rH, .ref rG, .ref rD, .ref rF])), (rT, .inl (cT, 4, .inr (.inr (.inr (.inr tr))))), (qT, .inr (5, [.ref qR, .int (iI sg), .int (iI bd)])), (qR, .inr (2, [.ref q1, .ref q2, .ref q3, .int (iI n)])), (q1, .inl (cI, 20, .inl (zA ft))), (q2, .inl (cI, 20, .inl (zA fx))), (q3, .inl (cI, 20, .inl (zA fy)))] sz) (fun (z : Int) (u : Unit) => ((0 ≤ a ∧ a < 4) ∧ (0 ≤ i ∧ i < n) ∧ 0 ≤ w ∧ w ≤ 2) ∧ z = if w = 0 then ft i else if w = 1 then fx i else fy i) (fun (u : Unit) => [(hd, .inr (6, [.ref rT, .ref rH, .ref rG, .ref rD, .ref rF])), (rT, .inl (cT, 4, .inr (.inr (.inr (.inr tr))))), (qT, .inr (5, [.ref qR, .int (iI sg), .int (iI bd)])), (qR, .inr (2, [.ref q1, .ref q2, .ref q3, .int (iI n)])), (q1, .inl (cI, 20, .inl (zA ft))), (q2, .inl (cI, 20, .inl (zA fx))), (q3, .inl (cI, 20, .inl (zA fy)))])) (zX D (TY cI cJ cT) (va_A [(hd, .inr (6, [.ref rT, .ref rH, .ref rG, .ref rD, .ref rF])), (rT, .inl (cT, 4, .inr (.inr (.inr (.inr tr))))), (qT, .inr (5, [.ref qR, .int (iI sg), .int (iI bd)])), (qR, .inr (2, [.ref q1, .ref q2, .ref q3, .int (iI n)])), (q1, .inl (cI, 20, .inl (zA ft))), (q2, .inl (cI, 20, .inl (zA fx))), (q3, .inl (cI, 20, .inl (zA fy)))] sz) [(hd, .inr (6, [.ref rT, .ref rH, .ref rG, .ref rD, .ref rF])), (rT, .inl (cT, 4, .inr (.inr (.inr (.inr tr))))), (qT, .inr (5, [.ref qR, .int (iI sg), .int (iI bd)])), (qR, .inr (2, [.ref q1, .ref q2, .ref q3, .int (iI n)])), (q1, .inl (cI, 20, .inl (zA ft))), (q2, .inl (cI, 20, .inl (zA fx))), (q3, .inl (cI, 20, .inl (zA fy)))] (fun E => E = nIO ∧ ¬ ((0 ≤ a ∧ a < 4) ∧ (0 ≤ i ∧ i < n) ∧ 0 ≤ w ∧ w ≤ 2))) 2 12 (va_A [(hd, .inr (6, [.ref rT, .ref rH, .ref rG, .ref rD, .ref rF])), (rT, .inl (cT, 4, .inr (.inr (.inr (.inr tr))))), (qT, .inr (5, [.ref qR, .int (iI sg), .int (iI bd)])), (qR, .inr (2, [.ref q1, .ref q2, .ref q3, .int (iI n)])), (q1, .inl (cI, 20, .inl (zA ft))), (q2, .inl (cI, 20, .inl (zA fx))), (q3, .inl (cI, 20, .inl (zA fy)))] sz) := by
  refine zNi (cc := cX6_sample) (maxL := 5) (ret := (some .int)) (by decide) rfl (Nat.le_of_ble_eq_true rfl) ?_
  intro p e s m below meth c A ls hE hTV hTH hT0
  obtain ⟨hx, hb, hr, hts, hown, hlocks, hml, hnm, hP, hK, hD, hA, hS, hl⟩ := hE
  have hown : s.vm.findClass RX6 = some m.cls := hown
  have hl : lv_has ls 5 [(0, .ref hd), (1, .int (iI a)), (2, .int (iI i)), (3, .int (iI w))] := hl
  have hin2 : ∀ w ∈ wsX20, w ∈ wsX6_sample := by decide +kernel
  have hin5 : ∀ w ∈ wsX50, w ∈ wsX6_sample := by decide +kernel
  have hgIO : ∀ w ∈ (vx_atS RX6 121 nIO nmE).filter goodWord, w ∈ wsX6_sample := by decide +kernel
  refine lv_aload_n hx hb dX6_sample_0 rfl (lv_at hl 0 rfl) ?_
  refine lv_iload_n hx hb dX6_sample_1 rfl (lv_at hl 1 rfl) ?_
  refine wz_xcallr (wr := [(qT, .inr (5, [.ref qR, .int (iI sg), .int (iI bd)])), (qR, .inr (2, [.ref q1, .ref q2, .ref q3, .int (iI n)])), (q1, .inl (cI, 20, .inl (zA ft))), (q2, .inl (cI, 20, .inl (zA fx))), (q3, .inl (cI, 20, .inl (zA fy)))]) (vx_runV (As := [.int (iI a)]) (rest := []) ⟨hx, hb, hml, hown, hts⟩ (k_X6_trackAt l hLt sa D cI cJ cT s.heap.size hd rT rH rG rD rF tr a qT (ha) (htr)) (cwV 1 hts gX6_sample_X6_trackAt rfl rfl rfl (by decide +kernel) ⟨Nat.le_of_ble_eq_true rfl, Nat.le_of_ble_eq_true rfl⟩) (wz_preVx hK hP hD hTV hTH hS hA [0, 1] (by decide) rfl rfl 6 0 rfl rfl) rfl rfl hl.1 rfl (lv_room (Nat.le_of_ble_eq_true rfl)) dX6_sample_2 ⟨Nat.le_of_ble_eq_true rfl, Nat.le_of_ble_eq_true rfl⟩) hK hP hD hS hA [0, 1] [2, 3, 4, 5, 6] rfl rfl rfl (by decide) [5, 6, 0, 1, 2, 3, 4] rfl (by decide) rfl hT0 hlocks (fun E q => ⟨q.1, fun w => q.2 w.1⟩) (by decide) (by decide) (fun z2 u H locs hw2 hP hD hS => ?_)
  have hP : va_P D vwCl [(hd, .inr (6, [.ref rT, .ref rH, .ref rG, .ref rD, .ref rF])), (rT, .inl (cT, 4, .inr (.inr (.inr (.inr tr))))), (qT, .inr (5, [.ref qR, .int (iI sg), .int (iI bd)])), (qR, .inr (2, [.ref q1, .ref q2, .ref q3, .int (iI n)])), (q1, .inl (cI, 20, .inl (zA ft))), (q2, .inl (cI, 20, .inl (zA fx))), (q3, .inl (cI, 20, .inl (zA fy)))] H := hP.sub [5, 6, 0, 1, 2, 3, 4] rfl
  have hD : va_D A [(hd, .inr (6, [.ref rT, .ref rH, .ref rG, .ref rD, .ref rF])), (rT, .inl (cT, 4, .inr (.inr (.inr (.inr tr))))), (qT, .inr (5, [.ref qR, .int (iI sg), .int (iI bd)])), (qR, .inr (2, [.ref q1, .ref q2, .ref q3, .int (iI n)])), (q1, .inl (cI, 20, .inl (zA ft))), (q2, .inl (cI, 20, .inl (zA fx))), (q3, .inl (cI, 20, .inl (zA fy)))] := hD.sub [5, 6, 0, 1, 2, 3, 4] (by decide) rfl
  obtain ⟨hz2, hv2⟩ := hw2
  have hz2 := hz2.symm
  subst hz2
  have tk := hv2
  refine va_get (D := D) (ci := 5) (v := .ref qR) (C := RX5) (T := TX5) (N := 3) hx hb hts hin5 hown hK hP 2 rfl rfl 0 (by decide) (hts (.fieldLink RX6 52 "DriftLog$Track" "row" "LDriftLog$Row;") (by decide +kernel)) (fun _ h9 => h9) rfl dX6_sample_5 ?_
  refine lv_astore (lv' := [(4, .ref qR), (0, .ref hd), (1, .int (iI a)), (2, .int (iI i)), (3, .int (iI w))]) hx hb dX6_sample_8 hl (by decide) rfl (fun ls hl => ?_)
  refine lv_iload_n hx hb dX6_sample_10 rfl (lv_at hl 3 rfl) ?_
  refine wz_if_lt (tgt := 23) hx hb dX6_sample_11 (by decide) (hia) (fun c11 => ?_) (fun c11 => ?_)
  · skip
    exact wz_throw (sa9 := sa 119) hx hb hLt hown (by decide) (hts (.classLink RX6 117 nIO) (by decide +kernel)) (hts (.initialized nIO) (by decide +kernel)) (hTV.2.2.2.2.2.2 (119, _) (List.mem_of_getElem? (i := 8) rfl)) (hat_IO (fun w hw => hts w (hgIO w hw)) hTV) hgd_IO hTH (hl.1.trans hml.symm) dX6_sample_23 dX6_sample_26 dX6_sample_27 dX6_sample_29 dX6_sample_32 hT0 (by decide) (by decide) (by decide) (by decide) hlocks hK hP hD hS (⟨rfl, fun q => by omega⟩) (by decide) (by decide)
  · skip
    refine lv_iload_n hx hb dX6_sample_14 rfl (lv_at hl 3 rfl) ?_
    refine lv_aload hx hb dX6_sample_15 (lv_at hl 0 rfl) ?_
    refine va_get (D := D) (ci := 2) (v := .int (iI n)) (C := RX2) (T := TX2) (N := 4) hx hb hts hin2 hown hK hP 3 rfl rfl 3 (by decide) (hts (.fieldLink RX6 56 "DriftLog$Row" "size" "I") (by decide +kernel)) (fun _ h9 => h9) rfl dX6_sample_17 ?_
    refine wz_icmp_lt (tgt := 33) hx hb dX6_sample_20 (by decide) (hia) ⟨by omega, by omega⟩ (fun c20 => ?_) (fun c20 => ?_)
    · skip
      refine lv_iload_n hx hb dX6_sample_33 rfl (lv_at hl 4 rfl) ?_
      refine wz_tab3 (t0 := 60) (t1 := 68) (t2 := 76) (td := 84) hx hb dX6_sample_34 (by decide) (by decide) (by decide) (by decide) (hw1) (fun c34 => ?_) (fun c34 => ?_) (fun c34 => ?_) (fun c34 => ?_)
      · skip
        refine lv_aload hx hb dX6_sample_60 (lv_at hl 0 rfl) ?_
        refine va_get (D := D) (ci := 2) (v := .ref q1) (C := RX2) (T := TX2) (N := 4) hx hb hts hin2 hown hK hP 3 rfl rfl 0 (by decide) (hts (.fieldLink RX6 78 "DriftLog$Row" "times" "[I") (by decide +kernel)) (fun _ h9 => h9) rfl dX6_sample_62 ?_
        refine lv_iload_n hx hb dX6_sample_65 rfl (lv_at hl 3 rfl) ?_
        refine wz_iald (tys := TY cI cJ cT) hx hb hK hP 4 0 rfl rfl (by decide) (by constructor <;> omega) dX6_sample_66 ?_
        refine W.widen (k := 2) (n := 12) (by decide) (by decide) ?_
        exact vx_ret (wz_reti (tys := TY cI cJ cT) () hx hb hr hlocks hK hP hD hS (⟨by omega, by rw [if_pos c34]⟩) dX6_sample_67)
      · skip
        refine lv_aload hx hb dX6_sample_68 (lv_at hl 0 rfl) ?_
        refine va_get (D := D) (ci := 2) (v := .ref q2) (C := RX2) (T := TX2) (N := 4) hx hb hts hin2 hown hK hP 3 rfl rfl 1 (by decide) (hts (.fieldLink RX6 122 "DriftLog$Row" "xs" "[I") (by decide +kernel)) (fun _ h9 => h9) rfl dX6_sample_70 ?_
        refine lv_iload_n hx hb dX6_sample_73 rfl (lv_at hl 3 rfl) ?_
        refine wz_iald (tys := TY cI cJ cT) hx hb hK hP 5 0 rfl rfl (by decide) (by constructor <;> omega) dX6_sample_74 ?_
        refine W.widen (k := 2) (n := 12) (by decide) (by decide) ?_
        exact vx_ret (wz_reti (tys := TY cI cJ cT) () hx hb hr hlocks hK hP hD hS (⟨by omega, by rw [if_neg (by omega), if_pos c34]⟩) dX6_sample_75)
      · skip
        refine lv_aload hx hb dX6_sample_76 (lv_at hl 0 rfl) ?_
        refine va_get (D := D) (ci := 2) (v := .ref q3) (C := RX2) (T := TX2) (N := 4) hx hb hts hin2 hown hK hP 3 rfl rfl 2 (by decide) (hts (.fieldLink RX6 125 "DriftLog$Row" "ys" "[I") (by decide +kernel)) (fun _ h9 => h9) rfl dX6_sample_78 ?_
        refine lv_iload_n hx hb dX6_sample_81 rfl (lv_at hl 3 rfl) ?_
        refine wz_iald (tys := TY cI cJ cT) hx hb hK hP 6 0 rfl rfl (by decide) (by constructor <;> omega) dX6_sample_82 ?_
        refine W.widen (k := 2) (n := 12) (by decide) (by decide) ?_
        exact vx_ret (wz_reti (tys := TY cI cJ cT) () hx hb hr hlocks hK hP hD hS (⟨by omega, by rw [if_neg (by omega), if_neg (by omega)]⟩) dX6_sample_83)
      · skip
        exact wz_throw (sa9 := sa 128) hx hb hLt hown (by decide) (hts (.classLink RX6 117 nIO) (by decide +kernel)) (hts (.initialized nIO) (by decide +kernel)) (hTV.2.2.2.2.2.2 (128, _) (List.mem_of_getElem? (i := 9) rfl)) (hat_IO (fun w hw => hts w (hgIO w hw)) hTV) hgd_IO hTH (hl.1.trans hml.symm) dX6_sample_84 dX6_sample_87 dX6_sample_88 dX6_sample_90 dX6_sample_93 hT0 (by decide) (by decide) (by decide) (by decide) hlocks hK hP hD hS (⟨rfl, fun q => by omega⟩) (by decide) (by decide)
    · skip
      exact wz_throw (sa9 := sa 119) hx hb hLt hown (by decide) (hts (.classLink RX6 117 nIO) (by decide +kernel)) (hts (.initialized nIO) (by decide +kernel)) (hTV.2.2.2.2.2.2 (119, _) (List.mem_of_getElem? (i := 8) rfl)) (hat_IO (fun w hw => hts w (hgIO w hw)) hTV) hgd_IO hTH (hl.1.trans hml.symm) dX6_sample_23 dX6_sample_26 dX6_sample_27 dX6_sample_29 dX6_sample_32 hT0 (by decide) (by decide) (by decide) (by decide) hlocks hK hP hD hS (⟨rfl, fun q => by omega⟩) (by decide) (by decide)
