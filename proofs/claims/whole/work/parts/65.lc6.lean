section LC
variable {p : Program} {l : Launch} {e : Env} {s : State} {m : MethodId} {below : List Frame} {meth : Method} {c : Code} {H : Heap} {locs : List Loc} {ls : Array Slot} {cells slots : Nat} {Q : State → Prop} {b L : Nat} {xs : Nat → Int32} {sa : Nat → Nat} {D : va_G} {cI cJ cT : ClassId} {A : Nat → Prop} {pl : va_W}
variable {hd rT rH rG rD rF q9 qb qq p1 p2 p3 b1 b2 e1 e2 kTA kWA kXA kYA kZA kTB kWB kXB kYB kZB kTC kWC kXC kYC kZC kTE kWE kXE kYE kZE hm mS mM mB mT mX mY mL mR mt mx my mF mG mU mV ro : Nat} {tr : Nat → Option Nat} {i ia ib ic ie nb at1 fa rn m1 ff fs tf ts sgA bdA nA sgB bdB nB sgC bdC nC sgE bdE nE th sz1 at2 nu fo lo lB hi hB1 : Int} {sfn fb jt jx jy bF bS eF eS ftA fxA fyA ftB fxB fyB ftC fxC fyC ftE fxE fyE fS fM fB fT fX fY fL fR kt kx ky fF fG fU fV fo1 : Int → Int}
set_option maxHeartbeats 4000000 in
set_option maxRecDepth 100000 in
theorem lc_span (hC : lwC p l s m c b L xs sa D cI cJ cT A) (hIX : IX ia ib ic ie tr kTA kTB kTC kTE) (hTA : TK ia sgA bdA nA ftA fxA fyA fS fM fB fT fX fY) (hTB : TK ib sgB bdB nB ftB fxB fyB fS fM fB fT fX fY) (hTC : TK ic sgC bdC nC ftC fxC fyC fS fM fB fT fX fY) (hTE : TK ie sgE bdE nE ftE fxE fyE fS fM fB fT fX fY) (hRG : RG fS fM fB fT fX fY) (hBY : BY nb fb sz1 fR) (hRD : RD jt jx jy kt kx ky) (hSP : SP m1 bF bS eF eS fo fF fG fU fV) (hin : 0 ≤ i ∧ i + 6 ≤ L) (hrm : cells + 3 ≤ room_1.cells ∧ slots + 18 ≤ room_1.slots) (hP : va_P D vwCl ([(hd, .inr (6, [.ref rT, .ref rH, .ref rG, .ref rD, .ref rF])), (rF, .inr (3, [.ref b1, .ref b2, .ref e1, .ref e2, .int (iI m1), .long (lI ff), .long (lI fs), .long (lI tf), .long (lI ts)])), (b1, .inl (cJ, 20, .inr (.inl (zJ bF)))), (b2, .inl (cJ, 20, .inr (.inl (zJ bS)))), (e1, .inl (cJ, 20, .inr (.inl (zJ eF)))), (e2, .inl (cJ, 20, .inr (.inl (zJ eS)))), (hm, .inr (7, [.int (iI th), .ref mS, .ref mM, .ref mB, .ref mT, .ref mX, .ref mY, .ref mL, .int (iI sz1), .ref mR, .int (iI at2), .long (lI nu), .ref mt, .ref mx, .ref my, .int (iI fo), .ref mF, .ref mG, .ref mU, .ref mV, .long (lI lo), .long (lI lB), .long (lI hi), .long (lI hB1)])), (mF, .inl (cJ, 20, .inr (.inl (zJ fF)))), (mG, .inl (cJ, 20, .inr (.inl (zJ fG)))), (mU, .inl (cJ, 20, .inr (.inl (zJ fU)))), (mV, .inl (cJ, 20, .inr (.inl (zJ fV)))), (ro, .inl (cJ, 1, .inr (.inl (zJ fo1))))] ++ pl) H) (hD : va_D A ([(hd, .inr (6, [.ref rT, .ref rH, .ref rG, .ref rD, .ref rF])), (rF, .inr (3, [.ref b1, .ref b2, .ref e1, .ref e2, .int (iI m1), .long (lI ff), .long (lI fs), .long (lI tf), .long (lI ts)])), (b1, .inl (cJ, 20, .inr (.inl (zJ bF)))), (b2, .inl (cJ, 20, .inr (.inl (zJ bS)))), (e1, .inl (cJ, 20, .inr (.inl (zJ eF)))), (e2, .inl (cJ, 20, .inr (.inl (zJ eS)))), (hm, .inr (7, [.int (iI th), .ref mS, .ref mM, .ref mB, .ref mT, .ref mX, .ref mY, .ref mL, .int (iI sz1), .ref mR, .int (iI at2), .long (lI nu), .ref mt, .ref mx, .ref my, .int (iI fo), .ref mF, .ref mG, .ref mU, .ref mV, .long (lI lo), .long (lI lB), .long (lI hi), .long (lI hB1)])), (mF, .inl (cJ, 20, .inr (.inl (zJ fF)))), (mG, .inl (cJ, 20, .inr (.inl (zJ fG)))), (mU, .inl (cJ, 20, .inr (.inl (zJ fU)))), (mV, .inl (cJ, 20, .inr (.inl (zJ fV)))), (ro, .inl (cJ, 1, .inr (.inl (zJ fo1))))] ++ pl)) (hS : va_S A s.heap H locs) (hl : lv_has ls 8 [(0, .ref b), (1, .ref hd), (2, .ref hm), (3, .ref ro), (4, .int (iI i))]) (K : ∀ {m1 ff fs tf ts th sz1 at2 nu fo lo lB hi hB1 : Int} {bF bS eF eS fF fG fU fV fo1 : Int → Int} {H : Heap} {locs : List Loc} {ls : Array Slot}, va_P D vwCl ([(hd, .inr (6, [.ref rT, .ref rH, .ref rG, .ref rD, .ref rF])), (rF, .inr (3, [.ref b1, .ref b2, .ref e1, .ref e2, .int (iI m1), .long (lI ff), .long (lI fs), .long (lI tf), .long (lI ts)])), (b1, .inl (cJ, 20, .inr (.inl (zJ bF)))), (b2, .inl (cJ, 20, .inr (.inl (zJ bS)))), (e1, .inl (cJ, 20, .inr (.inl (zJ eF)))), (e2, .inl (cJ, 20, .inr (.inl (zJ eS)))), (hm, .inr (7, [.int (iI th), .ref mS, .ref mM, .ref mB, .ref mT, .ref mX, .ref mY, .ref mL, .int (iI sz1), .ref mR, .int (iI at2), .long (lI nu), .ref mt, .ref mx, .ref my, .int (iI fo), .ref mF, .ref mG, .ref mU, .ref mV, .long (lI lo), .long (lI lB), .long (lI hi), .long (lI hB1)])), (mF, .inl (cJ, 20, .inr (.inl (zJ fF)))), (mG, .inl (cJ, 20, .inr (.inl (zJ fG)))), (mU, .inl (cJ, 20, .inr (.inl (zJ fU)))), (mV, .inl (cJ, 20, .inr (.inl (zJ fV)))), (ro, .inl (cJ, 1, .inr (.inl (zJ fo1))))] ++ pl) H → va_D A ([(hd, .inr (6, [.ref rT, .ref rH, .ref rG, .ref rD, .ref rF])), (rF, .inr (3, [.ref b1, .ref b2, .ref e1, .ref e2, .int (iI m1), .long (lI ff), .long (lI fs), .long (lI tf), .long (lI ts)])), (b1, .inl (cJ, 20, .inr (.inl (zJ bF)))), (b2, .inl (cJ, 20, .inr (.inl (zJ bS)))), (e1, .inl (cJ, 20, .inr (.inl (zJ eF)))), (e2, .inl (cJ, 20, .inr (.inl (zJ eS)))), (hm, .inr (7, [.int (iI th), .ref mS, .ref mM, .ref mB, .ref mT, .ref mX, .ref mY, .ref mL, .int (iI sz1), .ref mR, .int (iI at2), .long (lI nu), .ref mt, .ref mx, .ref my, .int (iI fo), .ref mF, .ref mG, .ref mU, .ref mV, .long (lI lo), .long (lI lB), .long (lI hi), .long (lI hB1)])), (mF, .inl (cJ, 20, .inr (.inl (zJ fF)))), (mG, .inl (cJ, 20, .inr (.inl (zJ fG)))), (mU, .inl (cJ, 20, .inr (.inl (zJ fU)))), (mV, .inl (cJ, 20, .inr (.inl (zJ fV)))), (ro, .inl (cJ, 1, .inr (.inl (zJ fo1))))] ++ pl) → va_S A s.heap H locs → lv_has ls 8 [(0, .ref b), (1, .ref hd), (2, .ref hm), (3, .ref ro), (4, .int (iI i))] → TK ia sgA bdA nA ftA fxA fyA fS fM fB fT fX fY → TK ib sgB bdB nB ftB fxB fyB fS fM fB fT fX fY → TK ic sgC bdC nC ftC fxC fyC fS fM fB fT fX fY → TK ie sgE bdE nE ftE fxE fyE fS fM fB fT fX fY → RG fS fM fB fT fX fY → BY nb fb sz1 fR → RD jt jx jy kt kx ky → SP m1 bF bS eF eS fo fF fG fU fV → W p l e room_1 s m #[Value.ref b] below meth c H locs (cells + 3) (slots + 18) Q (F0 m 1103 ls [])) : W p l e room_1 s m #[Value.ref b] below meth c H locs cells slots Q (F0 m 992 ls []) := by
  obtain ⟨hx, hb, hml, hown, hts, hX, hbl, hbA, hA, hK, hTV, hThC, hTH, hLt, hL⟩ := hC
  obtain ⟨v1, hv1⟩ : ∃ y, sX xs (i + 1) = y := ⟨_, rfl⟩
  have rv1 : rI v1 := by rw [← hv1]; exact sX_r xs _
  obtain ⟨v2, hv2⟩ : ∃ y, sX xs (i + 2) = y := ⟨_, rfl⟩
  have rv2 : rI v2 := by rw [← hv2]; exact sX_r xs _
  obtain ⟨v3, hv3⟩ : ∃ y, sX xs (i + 3) = y := ⟨_, rfl⟩
  have rv3 : rI v3 := by rw [← hv3]; exact sX_r xs _
  obtain ⟨⟨g1, g2⟩, ⟨g3, g4⟩, g5, g6⟩ := TK_r hRG hTA
  refine lv_aload_n hx hb dL_law_992 rfl (lv_at hl 1 rfl) ?_
  refine lv_aload_n hx hb dL_law_993 rfl (lv_at hl 0 rfl) ?_
  refine lv_iload hx hb dL_law_994 (lv_at hl 4 rfl) ?_
  refine lv_iconst (v := iI 1) hx hb dL_law_996 rfl ?_
  refine wz_iadd hx hb dL_law_997 ?_
  refine wz_sld hx hb hX hbl hbA hS hL ⟨by omega, by omega⟩ dL_law_998 ?_
  refine wz_topi (show iI (sX xs (i + 1)) = iI v1 by rw [hv1]) ?_
  refine lv_aload_n hx hb dL_law_999 rfl (lv_at hl 0 rfl) ?_
  refine lv_iload hx hb dL_law_1000 (lv_at hl 4 rfl) ?_
  refine lv_iconst (v := iI 2) hx hb dL_law_1002 rfl ?_
  refine wz_iadd hx hb dL_law_1003 ?_
  refine wz_sld hx hb hX hbl hbA hS hL ⟨by omega, by omega⟩ dL_law_1004 ?_
  refine wz_topi (show iI (sX xs (i + 2)) = iI v2 by rw [hv2]) ?_
  refine wz_if_eq (tgt := 1012) hx hb dL_law_1005 (by decide) (rv2) (fun c1005 => ?_) (fun c1005 => ?_)
  · skip
    refine lv_iconst (v := iI 0) hx hb dL_law_1012 rfl ?_
    refine lv_aload_n hx hb dL_law_1013 rfl (lv_at hl 0 rfl) ?_
    refine lv_iload hx hb dL_law_1014 (lv_at hl 4 rfl) ?_
    refine lv_iconst (v := iI 3) hx hb dL_law_1016 rfl ?_
    refine wz_iadd hx hb dL_law_1017 ?_
    refine wz_sld hx hb hX hbl hbA hS hL ⟨by omega, by omega⟩ dL_law_1018 ?_
    refine wz_topi (show iI (sX xs (i + 3)) = iI v3 by rw [hv3]) ?_
    refine wz_if_eq (tgt := 1026) hx hb dL_law_1019 (by decide) (rv3) (fun c1019 => ?_) (fun c1019 => ?_)
    · skip
      refine lv_iconst (v := iI 0) hx hb dL_law_1026 rfl ?_
      refine lv_aload_n hx hb dL_law_1027 rfl (lv_at hl 3 rfl) ?_
      refine wz_qhcalli (wr := [(hm, .inr (7, [.int (iI th), .ref mS, .ref mM, .ref mB, .ref mT, .ref mX, .ref mY, .ref mL, .int (iI sz1), .ref mR, .int (iI at2), .long (lI nu), .ref mt, .ref mx, .ref my, .int (iI fo), .ref mF, .ref mG, .ref mU, .ref mV, .long (lI lo), .long (lI lB), .long (lI hi), .long (lI hB1)])), (mF, .inl (cJ, 20, .inr (.inl (zJ fF)))), (mG, .inl (cJ, 20, .inr (.inl (zJ fG)))), (mU, .inl (cJ, 20, .inr (.inl (zJ fU)))), (mV, .inl (cJ, 20, .inr (.inl (zJ fV))))]) (vx_runSX (As := [.ref hd, .int (iI v1), .int (iI 0), .int (iI 0), .ref ro]) (rest := []) ⟨hx, hb, hml, hown, hts⟩ (k_L_span l hLt sa D cI cJ cT H.size hd rT rH rG rD rF b1 b2 e1 e2 m1 ff fs tf ts bF bS eF eS v1 0 0 ro fo1 hSP.2.1 rv1 (by decide) (by decide)) (vx_cwSW 5 hts gL_law_L_span rfl rfl rfl (by decide +kernel) ⟨Nat.le_of_ble_eq_true rfl, Nat.le_of_ble_eq_true rfl⟩) (wz_preSy hK (vP_l hP) (vD_l hD) hTV hThC hTH hS hA [0, 1, 2, 3, 4, 5, 11] (by decide) rfl rfl) rfl rfl hl.1 rfl (lv_room (Nat.le_of_ble_eq_true rfl)) dL_law_1028 ⟨by have := hrm.1; omega, by have := hrm.2; omega⟩) hP hD hS hA [0, 1, 2, 3, 4, 5, 11] [6, 7, 8, 9, 10] rfl rfl rfl (by decide) (fun z5 v H locs hw hPa hDa hS => ?_)
      rcases v with k5 | v
      · skip
        obtain ⟨e5, hk⟩ := hw
        subst e5
        obtain ⟨hP1, hD1⟩ : va_P D vwCl ([(hd, .inr (6, [.ref rT, .ref rH, .ref rG, .ref rD, .ref rF])), (rF, .inr (3, [.ref b1, .ref b2, .ref e1, .ref e2, .int (iI m1), .long (lI ff), .long (lI fs), .long (lI tf), .long (lI ts)])), (b1, .inl (cJ, 20, .inr (.inl (zJ bF)))), (b2, .inl (cJ, 20, .inr (.inl (zJ bS)))), (e1, .inl (cJ, 20, .inr (.inl (zJ eF)))), (e2, .inl (cJ, 20, .inr (.inl (zJ eS)))), (hm, .inr (7, [.int (iI th), .ref mS, .ref mM, .ref mB, .ref mT, .ref mX, .ref mY, .ref mL, .int (iI sz1), .ref mR, .int (iI at2), .long (lI nu), .ref mt, .ref mx, .ref my, .int (iI fo), .ref mF, .ref mG, .ref mU, .ref mV, .long (lI lo), .long (lI lB), .long (lI hi), .long (lI hB1)])), (mF, .inl (cJ, 20, .inr (.inl (zJ fF)))), (mG, .inl (cJ, 20, .inr (.inl (zJ fG)))), (mU, .inl (cJ, 20, .inr (.inl (zJ fU)))), (mV, .inl (cJ, 20, .inr (.inl (zJ fV)))), (ro, .inl (cJ, 1, .inr (.inl (zJ fo1))))] ++ pl) H ∧ va_D A ([(hd, .inr (6, [.ref rT, .ref rH, .ref rG, .ref rD, .ref rF])), (rF, .inr (3, [.ref b1, .ref b2, .ref e1, .ref e2, .int (iI m1), .long (lI ff), .long (lI fs), .long (lI tf), .long (lI ts)])), (b1, .inl (cJ, 20, .inr (.inl (zJ bF)))), (b2, .inl (cJ, 20, .inr (.inl (zJ bS)))), (e1, .inl (cJ, 20, .inr (.inl (zJ eF)))), (e2, .inl (cJ, 20, .inr (.inl (zJ eS)))), (hm, .inr (7, [.int (iI th), .ref mS, .ref mM, .ref mB, .ref mT, .ref mX, .ref mY, .ref mL, .int (iI sz1), .ref mR, .int (iI at2), .long (lI nu), .ref mt, .ref mx, .ref my, .int (iI fo), .ref mF, .ref mG, .ref mU, .ref mV, .long (lI lo), .long (lI lB), .long (lI hi), .long (lI hB1)])), (mF, .inl (cJ, 20, .inr (.inl (zJ fF)))), (mG, .inl (cJ, 20, .inr (.inl (zJ fG)))), (mU, .inl (cJ, 20, .inr (.inl (zJ fU)))), (mV, .inl (cJ, 20, .inr (.inl (zJ fV)))), (ro, .inl (cJ, 1, .inr (.inl (zJ fo1))))] ++ pl) := pd_part hPa hDa [5, 6, 7, 8, 9, 10, 0, 1, 2, 3, 4, 11] (by decide +kernel) rfl
        obtain ⟨k51, k52⟩ : 1 ≤ z5 ∧ z5 ≤ 3 := by rcases hk with ⟨q, -⟩ | ⟨q, -⟩ | ⟨q, -⟩ <;> omega
        refine lv_istore (lv' := [(5, .int (iI z5)), (0, .ref b), (1, .ref hd), (2, .ref hm), (3, .ref ro), (4, .int (iI i))]) hx hb dL_law_1031 hl (by decide) rfl (fun ls hl => ?_)
        refine lv_aload_n hx hb dL_law_1033 rfl (lv_at hl 3 rfl) ?_
        refine lv_aload_n hx hb dL_law_1034 rfl (lv_at hl 1 rfl) ?_
        refine lv_iload hx hb dL_law_1035 (lv_at hl 5 rfl) ?_
        refine lv_iconst (v := iI 1) hx hb dL_law_1037 rfl ?_
        refine wz_iadd hx hb dL_law_1038 ?_
        refine wz_sld hx hb hX hbl hbA hS hL ⟨by omega, by omega⟩ dL_law_1039 ?_
        refine wz_topi (show iI (sX xs (i + 1)) = iI v1 by rw [hv1]) ?_
        refine lv_aload_n hx hb dL_law_1040 rfl (lv_at hl 1 rfl) ?_
        refine lv_iload hx hb dL_law_1041 (lv_at hl 5 rfl) ?_
        refine lv_iconst (v := iI 2) hx hb dL_law_1043 rfl ?_
        refine wz_iadd hx hb dL_law_1044 ?_
        refine wz_sld hx hb hX hbl hbA hS hL ⟨by omega, by omega⟩ dL_law_1045 ?_
        refine wz_topi (show iI (sX xs (i + 2)) = iI v2 by rw [hv2]) ?_
        refine wz_if_eq (tgt := 1053) hx hb dL_law_1046 (by decide) (rv2) (fun c1046 => ?_) (fun c1046 => ?_)
        · skip
          refine lv_iconst (v := iI 0) hx hb dL_law_1053 rfl ?_
          refine lv_aload_n hx hb dL_law_1054 rfl (lv_at hl 1 rfl) ?_
          refine lv_iload hx hb dL_law_1055 (lv_at hl 5 rfl) ?_
          refine lv_iconst (v := iI 3) hx hb dL_law_1057 rfl ?_
          refine wz_iadd hx hb dL_law_1058 ?_
          refine wz_sld hx hb hX hbl hbA hS hL ⟨by omega, by omega⟩ dL_law_1059 ?_
          refine wz_topi (show iI (sX xs (i + 3)) = iI v3 by rw [hv3]) ?_
          refine wz_if_eq (tgt := 1067) hx hb dL_law_1060 (by decide) (rv3) (fun c1060 => ?_) (fun c1060 => ?_)
          · skip
            refine lv_iconst (v := iI 0) hx hb dL_law_1067 rfl ?_
            refine wz_qcalll (wr := [(hd, .inr (6, [.ref rT, .ref rH, .ref rG, .ref rD, .ref rF])), (rF, .inr (3, [.ref b1, .ref b2, .ref e1, .ref e2, .int (iI m1), .long (lI ff), .long (lI fs), .long (lI tf), .long (lI ts)])), (b1, .inl (cJ, 20, .inr (.inl (zJ bF)))), (b2, .inl (cJ, 20, .inr (.inl (zJ bS)))), (e1, .inl (cJ, 20, .inr (.inl (zJ eF)))), (e2, .inl (cJ, 20, .inr (.inl (zJ eS)))), (ro, .inl (cJ, 1, .inr (.inl (zJ fo1))))]) (va_runV (As := [.int (iI v1), .int (iI 0), .int (iI 0)]) (rest := []) ⟨hx, hb, hml, hown, hts⟩ (k_X7_span l D cI cJ cT H.size hm th mS mM mB mT mX mY mL sz1 mR at2 nu mt mx my fo mF mG mU mV lo lB hi hB1 fF fG fU fV v1 0 0 hSP.2.2.1 rv1 (by decide) (by decide)) (cwV 3 hts gL_law_X7_span rfl rfl rfl (by decide +kernel) ⟨Nat.le_of_ble_eq_true rfl, Nat.le_of_ble_eq_true rfl⟩) (wz_preV hK (vP_l hP1) (vD_l hD1) [6, 7, 8, 9, 10] (by decide) rfl rfl 7 6 rfl rfl) rfl rfl hl.1 rfl (lv_room (Nat.le_of_ble_eq_true rfl)) dL_law_1068 ⟨by have := hrm.1; omega, by have := hrm.2; omega⟩) hP1 hD1 hS hA [6, 7, 8, 9, 10] [0, 1, 2, 3, 4, 5, 11] rfl rfl rfl (by decide) (fun zb u H locs hw hP2a hD2a hS => ?_)
            obtain ⟨th2m, rfl⟩ : ∃ w, w = u := ⟨_, rfl⟩
            try dsimp only at hw
            obtain ⟨hP2, hD2⟩ : va_P D vwCl ([(hd, .inr (6, [.ref rT, .ref rH, .ref rG, .ref rD, .ref rF])), (rF, .inr (3, [.ref b1, .ref b2, .ref e1, .ref e2, .int (iI m1), .long (lI ff), .long (lI fs), .long (lI tf), .long (lI ts)])), (b1, .inl (cJ, 20, .inr (.inl (zJ bF)))), (b2, .inl (cJ, 20, .inr (.inl (zJ bS)))), (e1, .inl (cJ, 20, .inr (.inl (zJ eF)))), (e2, .inl (cJ, 20, .inr (.inl (zJ eS)))), (hm, .inr (7, [.int (iI th2m), .ref mS, .ref mM, .ref mB, .ref mT, .ref mX, .ref mY, .ref mL, .int (iI sz1), .ref mR, .int (iI at2), .long (lI nu), .ref mt, .ref mx, .ref my, .int (iI fo), .ref mF, .ref mG, .ref mU, .ref mV, .long (lI lo), .long (lI lB), .long (lI hi), .long (lI hB1)])), (mF, .inl (cJ, 20, .inr (.inl (zJ fF)))), (mG, .inl (cJ, 20, .inr (.inl (zJ fG)))), (mU, .inl (cJ, 20, .inr (.inl (zJ fU)))), (mV, .inl (cJ, 20, .inr (.inl (zJ fV)))), (ro, .inl (cJ, 1, .inr (.inl (zJ fo1))))] ++ pl) H ∧ va_D A ([(hd, .inr (6, [.ref rT, .ref rH, .ref rG, .ref rD, .ref rF])), (rF, .inr (3, [.ref b1, .ref b2, .ref e1, .ref e2, .int (iI m1), .long (lI ff), .long (lI fs), .long (lI tf), .long (lI ts)])), (b1, .inl (cJ, 20, .inr (.inl (zJ bF)))), (b2, .inl (cJ, 20, .inr (.inl (zJ bS)))), (e1, .inl (cJ, 20, .inr (.inl (zJ eF)))), (e2, .inl (cJ, 20, .inr (.inl (zJ eS)))), (hm, .inr (7, [.int (iI th2m), .ref mS, .ref mM, .ref mB, .ref mT, .ref mX, .ref mY, .ref mL, .int (iI sz1), .ref mR, .int (iI at2), .long (lI nu), .ref mt, .ref mx, .ref my, .int (iI fo), .ref mF, .ref mG, .ref mU, .ref mV, .long (lI lo), .long (lI lB), .long (lI hi), .long (lI hB1)])), (mF, .inl (cJ, 20, .inr (.inl (zJ fF)))), (mG, .inl (cJ, 20, .inr (.inl (zJ fG)))), (mU, .inl (cJ, 20, .inr (.inl (zJ fU)))), (mV, .inl (cJ, 20, .inr (.inl (zJ fV)))), (ro, .inl (cJ, 1, .inr (.inl (zJ fo1))))] ++ pl) := pd_part hP2a hD2a [0, 1, 2, 3, 4, 5, 7, 8, 9, 10, 11, 6] (by decide +kernel) rfl
            have eth := t_span_x hSP hk hw
            refine lv_lstore (lv' := [(6, .long (lI zb)), (5, .int (iI z5)), (0, .ref b), (1, .ref hd), (2, .ref hm), (3, .ref ro), (4, .int (iI i))]) hx hb dL_law_1071 hl (by decide) rfl (fun ls hl => ?_)
            refine lv_aload_n hx hb dL_law_1073 rfl (lv_at hl 4 rfl) ?_
            refine wz_qcalli (wr := [(hd, .inr (6, [.ref rT, .ref rH, .ref rG, .ref rD, .ref rF])), (rF, .inr (3, [.ref b1, .ref b2, .ref e1, .ref e2, .int (iI m1), .long (lI ff), .long (lI fs), .long (lI tf), .long (lI ts)])), (b1, .inl (cJ, 20, .inr (.inl (zJ bF)))), (b2, .inl (cJ, 20, .inr (.inl (zJ bS)))), (e1, .inl (cJ, 20, .inr (.inl (zJ eF)))), (e2, .inl (cJ, 20, .inr (.inl (zJ eS)))), (mF, .inl (cJ, 20, .inr (.inl (zJ fF)))), (mG, .inl (cJ, 20, .inr (.inl (zJ fG)))), (mU, .inl (cJ, 20, .inr (.inl (zJ fU)))), (mV, .inl (cJ, 20, .inr (.inl (zJ fV)))), (ro, .inl (cJ, 1, .inr (.inl (zJ fo1))))]) (va_runV (As := []) (rest := []) ⟨hx, hb, hml, hown, hts⟩ (k_X7_thrown l D cI cJ cT H.size hm th2m mS mM mB mT mX mY mL sz1 mR at2 nu mt mx my fo mF mG mU mV lo lB hi hB1 ) (cwV 0 hts gL_law_X7_thrown rfl rfl rfl (by decide +kernel) ⟨Nat.le_of_ble_eq_true rfl, Nat.le_of_ble_eq_true rfl⟩) (wz_preV hK (vP_l hP2) (vD_l hD2) [6] (by decide) rfl rfl 7 6 rfl rfl) rfl rfl hl.1 rfl (lv_room (Nat.le_of_ble_eq_true rfl)) dL_law_1074 ⟨by have := hrm.1; omega, by have := hrm.2; omega⟩) hP2 hD2 hS hA [6] [0, 1, 2, 3, 4, 5, 7, 8, 9, 10, 11] rfl rfl rfl (by decide) (fun zt u H locs ht9 hP3a hD3a hS => ?_)
            try dsimp only at ht9
            obtain ⟨hP3, hD3⟩ : va_P D vwCl ([(hd, .inr (6, [.ref rT, .ref rH, .ref rG, .ref rD, .ref rF])), (rF, .inr (3, [.ref b1, .ref b2, .ref e1, .ref e2, .int (iI m1), .long (lI ff), .long (lI fs), .long (lI tf), .long (lI ts)])), (b1, .inl (cJ, 20, .inr (.inl (zJ bF)))), (b2, .inl (cJ, 20, .inr (.inl (zJ bS)))), (e1, .inl (cJ, 20, .inr (.inl (zJ eF)))), (e2, .inl (cJ, 20, .inr (.inl (zJ eS)))), (hm, .inr (7, [.int (iI th2m), .ref mS, .ref mM, .ref mB, .ref mT, .ref mX, .ref mY, .ref mL, .int (iI sz1), .ref mR, .int (iI at2), .long (lI nu), .ref mt, .ref mx, .ref my, .int (iI fo), .ref mF, .ref mG, .ref mU, .ref mV, .long (lI lo), .long (lI lB), .long (lI hi), .long (lI hB1)])), (mF, .inl (cJ, 20, .inr (.inl (zJ fF)))), (mG, .inl (cJ, 20, .inr (.inl (zJ fG)))), (mU, .inl (cJ, 20, .inr (.inl (zJ fU)))), (mV, .inl (cJ, 20, .inr (.inl (zJ fV)))), (ro, .inl (cJ, 1, .inr (.inl (zJ fo1))))] ++ pl) H ∧ va_D A ([(hd, .inr (6, [.ref rT, .ref rH, .ref rG, .ref rD, .ref rF])), (rF, .inr (3, [.ref b1, .ref b2, .ref e1, .ref e2, .int (iI m1), .long (lI ff), .long (lI fs), .long (lI tf), .long (lI ts)])), (b1, .inl (cJ, 20, .inr (.inl (zJ bF)))), (b2, .inl (cJ, 20, .inr (.inl (zJ bS)))), (e1, .inl (cJ, 20, .inr (.inl (zJ eF)))), (e2, .inl (cJ, 20, .inr (.inl (zJ eS)))), (hm, .inr (7, [.int (iI th2m), .ref mS, .ref mM, .ref mB, .ref mT, .ref mX, .ref mY, .ref mL, .int (iI sz1), .ref mR, .int (iI at2), .long (lI nu), .ref mt, .ref mx, .ref my, .int (iI fo), .ref mF, .ref mG, .ref mU, .ref mV, .long (lI lo), .long (lI lB), .long (lI hi), .long (lI hB1)])), (mF, .inl (cJ, 20, .inr (.inl (zJ fF)))), (mG, .inl (cJ, 20, .inr (.inl (zJ fG)))), (mU, .inl (cJ, 20, .inr (.inl (zJ fU)))), (mV, .inl (cJ, 20, .inr (.inl (zJ fV)))), (ro, .inl (cJ, 1, .inr (.inl (zJ fo1))))] ++ pl) := pd_part hP3a hD3a [0, 1, 2, 3, 4, 5, 11, 6, 7, 8, 9, 10] (by decide +kernel) rfl
            refine wz_topi (show iI zt = iI th2m by rw [ht9]) ?_
            refine lv_iload hx hb dL_law_1077 (lv_at hl 1 rfl) ?_
            refine wz_topi (show iI z5 = iI th2m by rw [eth]) ?_
            refine lv_icmp_eq (tgt := 1084) hx hb dL_law_1079 (by decide) (fun _ => ?_) (fun q => absurd rfl q)
            refine lv_iload hx hb dL_law_1084 (lv_at hl 1 rfl) ?_
            refine wz_if_ne (tgt := 1100) hx hb dL_law_1086 (by decide) ⟨by omega, by omega⟩ (fun _ => ?_) (fun q => (by exfalso; omega))
            refine lv_goto (tgt := 1103) hx hb dL_law_1100 (by decide) ?_
            refine W.widen (k := cells + 3) (n := slots + 18) (by omega) (by omega) ?_
            exact K hP3 hD3 hS (lv_sub hl [2, 3, 4, 5, 6] rfl) hTA hTB hTC hTE hRG hBY hRD hSP
          · skip
            exfalso; omega
        · skip
          exfalso; omega
      · skip
        obtain ⟨zc, u⟩ := v
        obtain ⟨e5, hc⟩ := hw
        subst e5
        try dsimp only at hc
        obtain ⟨hP1, hD1⟩ : va_P D vwCl ([(hd, .inr (6, [.ref rT, .ref rH, .ref rG, .ref rD, .ref rF])), (rF, .inr (3, [.ref b1, .ref b2, .ref e1, .ref e2, .int (iI m1), .long (lI ff), .long (lI fs), .long (lI tf), .long (lI ts)])), (b1, .inl (cJ, 20, .inr (.inl (zJ bF)))), (b2, .inl (cJ, 20, .inr (.inl (zJ bS)))), (e1, .inl (cJ, 20, .inr (.inl (zJ eF)))), (e2, .inl (cJ, 20, .inr (.inl (zJ eS)))), (hm, .inr (7, [.int (iI th), .ref mS, .ref mM, .ref mB, .ref mT, .ref mX, .ref mY, .ref mL, .int (iI sz1), .ref mR, .int (iI at2), .long (lI nu), .ref mt, .ref mx, .ref my, .int (iI fo), .ref mF, .ref mG, .ref mU, .ref mV, .long (lI lo), .long (lI lB), .long (lI hi), .long (lI hB1)])), (mF, .inl (cJ, 20, .inr (.inl (zJ fF)))), (mG, .inl (cJ, 20, .inr (.inl (zJ fG)))), (mU, .inl (cJ, 20, .inr (.inl (zJ fU)))), (mV, .inl (cJ, 20, .inr (.inl (zJ fV)))), (ro, .inl (cJ, 1, .inr (.inl (zJ (uZ fo1 0 zc)))))] ++ pl) H ∧ va_D A ([(hd, .inr (6, [.ref rT, .ref rH, .ref rG, .ref rD, .ref rF])), (rF, .inr (3, [.ref b1, .ref b2, .ref e1, .ref e2, .int (iI m1), .long (lI ff), .long (lI fs), .long (lI tf), .long (lI ts)])), (b1, .inl (cJ, 20, .inr (.inl (zJ bF)))), (b2, .inl (cJ, 20, .inr (.inl (zJ bS)))), (e1, .inl (cJ, 20, .inr (.inl (zJ eF)))), (e2, .inl (cJ, 20, .inr (.inl (zJ eS)))), (hm, .inr (7, [.int (iI th), .ref mS, .ref mM, .ref mB, .ref mT, .ref mX, .ref mY, .ref mL, .int (iI sz1), .ref mR, .int (iI at2), .long (lI nu), .ref mt, .ref mx, .ref my, .int (iI fo), .ref mF, .ref mG, .ref mU, .ref mV, .long (lI lo), .long (lI lB), .long (lI hi), .long (lI hB1)])), (mF, .inl (cJ, 20, .inr (.inl (zJ fF)))), (mG, .inl (cJ, 20, .inr (.inl (zJ fG)))), (mU, .inl (cJ, 20, .inr (.inl (zJ fU)))), (mV, .inl (cJ, 20, .inr (.inl (zJ fV)))), (ro, .inl (cJ, 1, .inr (.inl (zJ (uZ fo1 0 zc)))))] ++ pl) := pd_part hPa hDa [5, 6, 7, 8, 9, 10, 0, 1, 2, 3, 4, 11] (by decide +kernel) rfl
        refine lv_istore (lv' := [(5, .int (iI 0)), (0, .ref b), (1, .ref hd), (2, .ref hm), (3, .ref ro), (4, .int (iI i))]) hx hb dL_law_1031 hl (by decide) rfl (fun ls hl => ?_)
        refine lv_aload_n hx hb dL_law_1033 rfl (lv_at hl 3 rfl) ?_
        refine lv_aload_n hx hb dL_law_1034 rfl (lv_at hl 1 rfl) ?_
        refine lv_iload hx hb dL_law_1035 (lv_at hl 5 rfl) ?_
        refine lv_iconst (v := iI 1) hx hb dL_law_1037 rfl ?_
        refine wz_iadd hx hb dL_law_1038 ?_
        refine wz_sld hx hb hX hbl hbA hS hL ⟨by omega, by omega⟩ dL_law_1039 ?_
        refine wz_topi (show iI (sX xs (i + 1)) = iI v1 by rw [hv1]) ?_
        refine lv_aload_n hx hb dL_law_1040 rfl (lv_at hl 1 rfl) ?_
        refine lv_iload hx hb dL_law_1041 (lv_at hl 5 rfl) ?_
        refine lv_iconst (v := iI 2) hx hb dL_law_1043 rfl ?_
        refine wz_iadd hx hb dL_law_1044 ?_
        refine wz_sld hx hb hX hbl hbA hS hL ⟨by omega, by omega⟩ dL_law_1045 ?_
        refine wz_topi (show iI (sX xs (i + 2)) = iI v2 by rw [hv2]) ?_
        refine wz_if_eq (tgt := 1053) hx hb dL_law_1046 (by decide) (rv2) (fun c1046 => ?_) (fun c1046 => ?_)
        · skip
          refine lv_iconst (v := iI 0) hx hb dL_law_1053 rfl ?_
          refine lv_aload_n hx hb dL_law_1054 rfl (lv_at hl 1 rfl) ?_
          refine lv_iload hx hb dL_law_1055 (lv_at hl 5 rfl) ?_
          refine lv_iconst (v := iI 3) hx hb dL_law_1057 rfl ?_
          refine wz_iadd hx hb dL_law_1058 ?_
          refine wz_sld hx hb hX hbl hbA hS hL ⟨by omega, by omega⟩ dL_law_1059 ?_
          refine wz_topi (show iI (sX xs (i + 3)) = iI v3 by rw [hv3]) ?_
          refine wz_if_eq (tgt := 1067) hx hb dL_law_1060 (by decide) (rv3) (fun c1060 => ?_) (fun c1060 => ?_)
          · skip
            refine lv_iconst (v := iI 0) hx hb dL_law_1067 rfl ?_
            refine wz_qcalll (wr := [(hd, .inr (6, [.ref rT, .ref rH, .ref rG, .ref rD, .ref rF])), (rF, .inr (3, [.ref b1, .ref b2, .ref e1, .ref e2, .int (iI m1), .long (lI ff), .long (lI fs), .long (lI tf), .long (lI ts)])), (b1, .inl (cJ, 20, .inr (.inl (zJ bF)))), (b2, .inl (cJ, 20, .inr (.inl (zJ bS)))), (e1, .inl (cJ, 20, .inr (.inl (zJ eF)))), (e2, .inl (cJ, 20, .inr (.inl (zJ eS)))), (ro, .inl (cJ, 1, .inr (.inl (zJ (uZ fo1 0 zc)))))]) (va_runV (As := [.int (iI v1), .int (iI 0), .int (iI 0)]) (rest := []) ⟨hx, hb, hml, hown, hts⟩ (k_X7_span l D cI cJ cT H.size hm th mS mM mB mT mX mY mL sz1 mR at2 nu mt mx my fo mF mG mU mV lo lB hi hB1 fF fG fU fV v1 0 0 hSP.2.2.1 rv1 (by decide) (by decide)) (cwV 3 hts gL_law_X7_span rfl rfl rfl (by decide +kernel) ⟨Nat.le_of_ble_eq_true rfl, Nat.le_of_ble_eq_true rfl⟩) (wz_preV hK (vP_l hP1) (vD_l hD1) [6, 7, 8, 9, 10] (by decide) rfl rfl 7 6 rfl rfl) rfl rfl hl.1 rfl (lv_room (Nat.le_of_ble_eq_true rfl)) dL_law_1068 ⟨by have := hrm.1; omega, by have := hrm.2; omega⟩) hP1 hD1 hS hA [6, 7, 8, 9, 10] [0, 1, 2, 3, 4, 5, 11] rfl rfl rfl (by decide) (fun zb u H locs hw hP2a hD2a hS => ?_)
            obtain ⟨th2m, rfl⟩ : ∃ w, w = u := ⟨_, rfl⟩
            try dsimp only at hw
            obtain ⟨hP2, hD2⟩ : va_P D vwCl ([(hd, .inr (6, [.ref rT, .ref rH, .ref rG, .ref rD, .ref rF])), (rF, .inr (3, [.ref b1, .ref b2, .ref e1, .ref e2, .int (iI m1), .long (lI ff), .long (lI fs), .long (lI tf), .long (lI ts)])), (b1, .inl (cJ, 20, .inr (.inl (zJ bF)))), (b2, .inl (cJ, 20, .inr (.inl (zJ bS)))), (e1, .inl (cJ, 20, .inr (.inl (zJ eF)))), (e2, .inl (cJ, 20, .inr (.inl (zJ eS)))), (hm, .inr (7, [.int (iI th2m), .ref mS, .ref mM, .ref mB, .ref mT, .ref mX, .ref mY, .ref mL, .int (iI sz1), .ref mR, .int (iI at2), .long (lI nu), .ref mt, .ref mx, .ref my, .int (iI fo), .ref mF, .ref mG, .ref mU, .ref mV, .long (lI lo), .long (lI lB), .long (lI hi), .long (lI hB1)])), (mF, .inl (cJ, 20, .inr (.inl (zJ fF)))), (mG, .inl (cJ, 20, .inr (.inl (zJ fG)))), (mU, .inl (cJ, 20, .inr (.inl (zJ fU)))), (mV, .inl (cJ, 20, .inr (.inl (zJ fV)))), (ro, .inl (cJ, 1, .inr (.inl (zJ (uZ fo1 0 zc)))))] ++ pl) H ∧ va_D A ([(hd, .inr (6, [.ref rT, .ref rH, .ref rG, .ref rD, .ref rF])), (rF, .inr (3, [.ref b1, .ref b2, .ref e1, .ref e2, .int (iI m1), .long (lI ff), .long (lI fs), .long (lI tf), .long (lI ts)])), (b1, .inl (cJ, 20, .inr (.inl (zJ bF)))), (b2, .inl (cJ, 20, .inr (.inl (zJ bS)))), (e1, .inl (cJ, 20, .inr (.inl (zJ eF)))), (e2, .inl (cJ, 20, .inr (.inl (zJ eS)))), (hm, .inr (7, [.int (iI th2m), .ref mS, .ref mM, .ref mB, .ref mT, .ref mX, .ref mY, .ref mL, .int (iI sz1), .ref mR, .int (iI at2), .long (lI nu), .ref mt, .ref mx, .ref my, .int (iI fo), .ref mF, .ref mG, .ref mU, .ref mV, .long (lI lo), .long (lI lB), .long (lI hi), .long (lI hB1)])), (mF, .inl (cJ, 20, .inr (.inl (zJ fF)))), (mG, .inl (cJ, 20, .inr (.inl (zJ fG)))), (mU, .inl (cJ, 20, .inr (.inl (zJ fU)))), (mV, .inl (cJ, 20, .inr (.inl (zJ fV)))), (ro, .inl (cJ, 1, .inr (.inl (zJ (uZ fo1 0 zc)))))] ++ pl) := pd_part hP2a hD2a [0, 1, 2, 3, 4, 5, 7, 8, 9, 10, 11, 6] (by decide +kernel) rfl
            obtain ⟨eth, ezb⟩ := t_span_r hSP hc hw
            refine lv_lstore (lv' := [(6, .long (lI zb)), (5, .int (iI 0)), (0, .ref b), (1, .ref hd), (2, .ref hm), (3, .ref ro), (4, .int (iI i))]) hx hb dL_law_1071 hl (by decide) rfl (fun ls hl => ?_)
            refine lv_aload_n hx hb dL_law_1073 rfl (lv_at hl 4 rfl) ?_
            refine wz_qcalli (wr := [(hd, .inr (6, [.ref rT, .ref rH, .ref rG, .ref rD, .ref rF])), (rF, .inr (3, [.ref b1, .ref b2, .ref e1, .ref e2, .int (iI m1), .long (lI ff), .long (lI fs), .long (lI tf), .long (lI ts)])), (b1, .inl (cJ, 20, .inr (.inl (zJ bF)))), (b2, .inl (cJ, 20, .inr (.inl (zJ bS)))), (e1, .inl (cJ, 20, .inr (.inl (zJ eF)))), (e2, .inl (cJ, 20, .inr (.inl (zJ eS)))), (mF, .inl (cJ, 20, .inr (.inl (zJ fF)))), (mG, .inl (cJ, 20, .inr (.inl (zJ fG)))), (mU, .inl (cJ, 20, .inr (.inl (zJ fU)))), (mV, .inl (cJ, 20, .inr (.inl (zJ fV)))), (ro, .inl (cJ, 1, .inr (.inl (zJ (uZ fo1 0 zc)))))]) (va_runV (As := []) (rest := []) ⟨hx, hb, hml, hown, hts⟩ (k_X7_thrown l D cI cJ cT H.size hm th2m mS mM mB mT mX mY mL sz1 mR at2 nu mt mx my fo mF mG mU mV lo lB hi hB1 ) (cwV 0 hts gL_law_X7_thrown rfl rfl rfl (by decide +kernel) ⟨Nat.le_of_ble_eq_true rfl, Nat.le_of_ble_eq_true rfl⟩) (wz_preV hK (vP_l hP2) (vD_l hD2) [6] (by decide) rfl rfl 7 6 rfl rfl) rfl rfl hl.1 rfl (lv_room (Nat.le_of_ble_eq_true rfl)) dL_law_1074 ⟨by have := hrm.1; omega, by have := hrm.2; omega⟩) hP2 hD2 hS hA [6] [0, 1, 2, 3, 4, 5, 7, 8, 9, 10, 11] rfl rfl rfl (by decide) (fun zt u H locs ht9 hP3a hD3a hS => ?_)
            try dsimp only at ht9
            obtain ⟨hP3, hD3⟩ : va_P D vwCl ([(hd, .inr (6, [.ref rT, .ref rH, .ref rG, .ref rD, .ref rF])), (rF, .inr (3, [.ref b1, .ref b2, .ref e1, .ref e2, .int (iI m1), .long (lI ff), .long (lI fs), .long (lI tf), .long (lI ts)])), (b1, .inl (cJ, 20, .inr (.inl (zJ bF)))), (b2, .inl (cJ, 20, .inr (.inl (zJ bS)))), (e1, .inl (cJ, 20, .inr (.inl (zJ eF)))), (e2, .inl (cJ, 20, .inr (.inl (zJ eS)))), (hm, .inr (7, [.int (iI th2m), .ref mS, .ref mM, .ref mB, .ref mT, .ref mX, .ref mY, .ref mL, .int (iI sz1), .ref mR, .int (iI at2), .long (lI nu), .ref mt, .ref mx, .ref my, .int (iI fo), .ref mF, .ref mG, .ref mU, .ref mV, .long (lI lo), .long (lI lB), .long (lI hi), .long (lI hB1)])), (mF, .inl (cJ, 20, .inr (.inl (zJ fF)))), (mG, .inl (cJ, 20, .inr (.inl (zJ fG)))), (mU, .inl (cJ, 20, .inr (.inl (zJ fU)))), (mV, .inl (cJ, 20, .inr (.inl (zJ fV)))), (ro, .inl (cJ, 1, .inr (.inl (zJ (uZ fo1 0 zc)))))] ++ pl) H ∧ va_D A ([(hd, .inr (6, [.ref rT, .ref rH, .ref rG, .ref rD, .ref rF])), (rF, .inr (3, [.ref b1, .ref b2, .ref e1, .ref e2, .int (iI m1), .long (lI ff), .long (lI fs), .long (lI tf), .long (lI ts)])), (b1, .inl (cJ, 20, .inr (.inl (zJ bF)))), (b2, .inl (cJ, 20, .inr (.inl (zJ bS)))), (e1, .inl (cJ, 20, .inr (.inl (zJ eF)))), (e2, .inl (cJ, 20, .inr (.inl (zJ eS)))), (hm, .inr (7, [.int (iI th2m), .ref mS, .ref mM, .ref mB, .ref mT, .ref mX, .ref mY, .ref mL, .int (iI sz1), .ref mR, .int (iI at2), .long (lI nu), .ref mt, .ref mx, .ref my, .int (iI fo), .ref mF, .ref mG, .ref mU, .ref mV, .long (lI lo), .long (lI lB), .long (lI hi), .long (lI hB1)])), (mF, .inl (cJ, 20, .inr (.inl (zJ fF)))), (mG, .inl (cJ, 20, .inr (.inl (zJ fG)))), (mU, .inl (cJ, 20, .inr (.inl (zJ fU)))), (mV, .inl (cJ, 20, .inr (.inl (zJ fV)))), (ro, .inl (cJ, 1, .inr (.inl (zJ (uZ fo1 0 zc)))))] ++ pl) := pd_part hP3a hD3a [0, 1, 2, 3, 4, 5, 11, 6, 7, 8, 9, 10] (by decide +kernel) rfl
            refine wz_topi (show iI zt = iI th2m by rw [ht9]) ?_
            refine lv_iload hx hb dL_law_1077 (lv_at hl 1 rfl) ?_
            refine wz_topi (show iI 0 = iI th2m by rw [eth]) ?_
            refine lv_icmp_eq (tgt := 1084) hx hb dL_law_1079 (by decide) (fun _ => ?_) (fun q => absurd rfl q)
            refine lv_iload hx hb dL_law_1084 (lv_at hl 1 rfl) ?_
            refine wz_if_ne (tgt := 1100) hx hb dL_law_1086 (by decide) (by decide) (fun q => absurd rfl q) (fun _ => ?_)
            refine lv_aload_n hx hb dL_law_1089 rfl (lv_at hl 5 rfl) ?_
            refine lv_iconst (v := iI 0) hx hb dL_law_1090 rfl ?_
            refine wz_lald (tys := TY cI cJ cT) hx hb hK (vP_l hP3) 11 1 rfl rfl (by decide) (by decide) dL_law_1091 ?_
            refine wz_topl (y := lI zc) (by rw [uZ_s]) ?_
            refine lv_lload hx hb dL_law_1092 (lv_at hl 0 rfl) ?_
            refine wz_topl (show lI zb = lI zc by rw [ezb]) ?_
            refine W.lcmp hx hb dL_law_1094 ?_
            refine wz_lraw_eq (tgt := 1100) hx hb dL_law_1095 (by decide) (fun _ => ?_) (fun q => absurd rfl q)
            refine lv_goto (tgt := 1103) hx hb dL_law_1100 (by decide) ?_
            refine W.widen (k := cells + 3) (n := slots + 18) (by omega) (by omega) ?_
            exact K hP3 hD3 hS (lv_sub hl [2, 3, 4, 5, 6] rfl) hTA hTB hTC hTE hRG hBY hRD hSP
          · skip
            exfalso; omega
        · skip
          exfalso; omega
    · skip
      refine lv_iconst (v := iI 1) hx hb dL_law_1022 rfl ?_
      refine lv_goto (tgt := 1027) hx hb dL_law_1023 (by decide) ?_
      refine lv_aload_n hx hb dL_law_1027 rfl (lv_at hl 3 rfl) ?_
      refine wz_qhcalli (wr := [(hm, .inr (7, [.int (iI th), .ref mS, .ref mM, .ref mB, .ref mT, .ref mX, .ref mY, .ref mL, .int (iI sz1), .ref mR, .int (iI at2), .long (lI nu), .ref mt, .ref mx, .ref my, .int (iI fo), .ref mF, .ref mG, .ref mU, .ref mV, .long (lI lo), .long (lI lB), .long (lI hi), .long (lI hB1)])), (mF, .inl (cJ, 20, .inr (.inl (zJ fF)))), (mG, .inl (cJ, 20, .inr (.inl (zJ fG)))), (mU, .inl (cJ, 20, .inr (.inl (zJ fU)))), (mV, .inl (cJ, 20, .inr (.inl (zJ fV))))]) (vx_runSX (As := [.ref hd, .int (iI v1), .int (iI 0), .int (iI 1), .ref ro]) (rest := []) ⟨hx, hb, hml, hown, hts⟩ (k_L_span l hLt sa D cI cJ cT H.size hd rT rH rG rD rF b1 b2 e1 e2 m1 ff fs tf ts bF bS eF eS v1 0 1 ro fo1 hSP.2.1 rv1 (by decide) (by decide)) (vx_cwSW 5 hts gL_law_L_span rfl rfl rfl (by decide +kernel) ⟨Nat.le_of_ble_eq_true rfl, Nat.le_of_ble_eq_true rfl⟩) (wz_preSy hK (vP_l hP) (vD_l hD) hTV hThC hTH hS hA [0, 1, 2, 3, 4, 5, 11] (by decide) rfl rfl) rfl rfl hl.1 rfl (lv_room (Nat.le_of_ble_eq_true rfl)) dL_law_1028 ⟨by have := hrm.1; omega, by have := hrm.2; omega⟩) hP hD hS hA [0, 1, 2, 3, 4, 5, 11] [6, 7, 8, 9, 10] rfl rfl rfl (by decide) (fun z5 v H locs hw hPa hDa hS => ?_)
      rcases v with k5 | v
      · skip
        obtain ⟨e5, hk⟩ := hw
        subst e5
        obtain ⟨hP1, hD1⟩ : va_P D vwCl ([(hd, .inr (6, [.ref rT, .ref rH, .ref rG, .ref rD, .ref rF])), (rF, .inr (3, [.ref b1, .ref b2, .ref e1, .ref e2, .int (iI m1), .long (lI ff), .long (lI fs), .long (lI tf), .long (lI ts)])), (b1, .inl (cJ, 20, .inr (.inl (zJ bF)))), (b2, .inl (cJ, 20, .inr (.inl (zJ bS)))), (e1, .inl (cJ, 20, .inr (.inl (zJ eF)))), (e2, .inl (cJ, 20, .inr (.inl (zJ eS)))), (hm, .inr (7, [.int (iI th), .ref mS, .ref mM, .ref mB, .ref mT, .ref mX, .ref mY, .ref mL, .int (iI sz1), .ref mR, .int (iI at2), .long (lI nu), .ref mt, .ref mx, .ref my, .int (iI fo), .ref mF, .ref mG, .ref mU, .ref mV, .long (lI lo), .long (lI lB), .long (lI hi), .long (lI hB1)])), (mF, .inl (cJ, 20, .inr (.inl (zJ fF)))), (mG, .inl (cJ, 20, .inr (.inl (zJ fG)))), (mU, .inl (cJ, 20, .inr (.inl (zJ fU)))), (mV, .inl (cJ, 20, .inr (.inl (zJ fV)))), (ro, .inl (cJ, 1, .inr (.inl (zJ fo1))))] ++ pl) H ∧ va_D A ([(hd, .inr (6, [.ref rT, .ref rH, .ref rG, .ref rD, .ref rF])), (rF, .inr (3, [.ref b1, .ref b2, .ref e1, .ref e2, .int (iI m1), .long (lI ff), .long (lI fs), .long (lI tf), .long (lI ts)])), (b1, .inl (cJ, 20, .inr (.inl (zJ bF)))), (b2, .inl (cJ, 20, .inr (.inl (zJ bS)))), (e1, .inl (cJ, 20, .inr (.inl (zJ eF)))), (e2, .inl (cJ, 20, .inr (.inl (zJ eS)))), (hm, .inr (7, [.int (iI th), .ref mS, .ref mM, .ref mB, .ref mT, .ref mX, .ref mY, .ref mL, .int (iI sz1), .ref mR, .int (iI at2), .long (lI nu), .ref mt, .ref mx, .ref my, .int (iI fo), .ref mF, .ref mG, .ref mU, .ref mV, .long (lI lo), .long (lI lB), .long (lI hi), .long (lI hB1)])), (mF, .inl (cJ, 20, .inr (.inl (zJ fF)))), (mG, .inl (cJ, 20, .inr (.inl (zJ fG)))), (mU, .inl (cJ, 20, .inr (.inl (zJ fU)))), (mV, .inl (cJ, 20, .inr (.inl (zJ fV)))), (ro, .inl (cJ, 1, .inr (.inl (zJ fo1))))] ++ pl) := pd_part hPa hDa [5, 6, 7, 8, 9, 10, 0, 1, 2, 3, 4, 11] (by decide +kernel) rfl
        obtain ⟨k51, k52⟩ : 1 ≤ z5 ∧ z5 ≤ 3 := by rcases hk with ⟨q, -⟩ | ⟨q, -⟩ | ⟨q, -⟩ <;> omega
        refine lv_istore (lv' := [(5, .int (iI z5)), (0, .ref b), (1, .ref hd), (2, .ref hm), (3, .ref ro), (4, .int (iI i))]) hx hb dL_law_1031 hl (by decide) rfl (fun ls hl => ?_)
        refine lv_aload_n hx hb dL_law_1033 rfl (lv_at hl 3 rfl) ?_
        refine lv_aload_n hx hb dL_law_1034 rfl (lv_at hl 1 rfl) ?_
        refine lv_iload hx hb dL_law_1035 (lv_at hl 5 rfl) ?_
        refine lv_iconst (v := iI 1) hx hb dL_law_1037 rfl ?_
        refine wz_iadd hx hb dL_law_1038 ?_
        refine wz_sld hx hb hX hbl hbA hS hL ⟨by omega, by omega⟩ dL_law_1039 ?_
        refine wz_topi (show iI (sX xs (i + 1)) = iI v1 by rw [hv1]) ?_
        refine lv_aload_n hx hb dL_law_1040 rfl (lv_at hl 1 rfl) ?_
        refine lv_iload hx hb dL_law_1041 (lv_at hl 5 rfl) ?_
        refine lv_iconst (v := iI 2) hx hb dL_law_1043 rfl ?_
        refine wz_iadd hx hb dL_law_1044 ?_
        refine wz_sld hx hb hX hbl hbA hS hL ⟨by omega, by omega⟩ dL_law_1045 ?_
        refine wz_topi (show iI (sX xs (i + 2)) = iI v2 by rw [hv2]) ?_
        refine wz_if_eq (tgt := 1053) hx hb dL_law_1046 (by decide) (rv2) (fun c1046 => ?_) (fun c1046 => ?_)
        · skip
          refine lv_iconst (v := iI 0) hx hb dL_law_1053 rfl ?_
          refine lv_aload_n hx hb dL_law_1054 rfl (lv_at hl 1 rfl) ?_
          refine lv_iload hx hb dL_law_1055 (lv_at hl 5 rfl) ?_
          refine lv_iconst (v := iI 3) hx hb dL_law_1057 rfl ?_
          refine wz_iadd hx hb dL_law_1058 ?_
          refine wz_sld hx hb hX hbl hbA hS hL ⟨by omega, by omega⟩ dL_law_1059 ?_
          refine wz_topi (show iI (sX xs (i + 3)) = iI v3 by rw [hv3]) ?_
          refine wz_if_eq (tgt := 1067) hx hb dL_law_1060 (by decide) (rv3) (fun c1060 => ?_) (fun c1060 => ?_)
          · skip
            exfalso; omega
          · skip
            refine lv_iconst (v := iI 1) hx hb dL_law_1063 rfl ?_
            refine lv_goto (tgt := 1068) hx hb dL_law_1064 (by decide) ?_
            refine wz_qcalll (wr := [(hd, .inr (6, [.ref rT, .ref rH, .ref rG, .ref rD, .ref rF])), (rF, .inr (3, [.ref b1, .ref b2, .ref e1, .ref e2, .int (iI m1), .long (lI ff), .long (lI fs), .long (lI tf), .long (lI ts)])), (b1, .inl (cJ, 20, .inr (.inl (zJ bF)))), (b2, .inl (cJ, 20, .inr (.inl (zJ bS)))), (e1, .inl (cJ, 20, .inr (.inl (zJ eF)))), (e2, .inl (cJ, 20, .inr (.inl (zJ eS)))), (ro, .inl (cJ, 1, .inr (.inl (zJ fo1))))]) (va_runV (As := [.int (iI v1), .int (iI 0), .int (iI 1)]) (rest := []) ⟨hx, hb, hml, hown, hts⟩ (k_X7_span l D cI cJ cT H.size hm th mS mM mB mT mX mY mL sz1 mR at2 nu mt mx my fo mF mG mU mV lo lB hi hB1 fF fG fU fV v1 0 1 hSP.2.2.1 rv1 (by decide) (by decide)) (cwV 3 hts gL_law_X7_span rfl rfl rfl (by decide +kernel) ⟨Nat.le_of_ble_eq_true rfl, Nat.le_of_ble_eq_true rfl⟩) (wz_preV hK (vP_l hP1) (vD_l hD1) [6, 7, 8, 9, 10] (by decide) rfl rfl 7 6 rfl rfl) rfl rfl hl.1 rfl (lv_room (Nat.le_of_ble_eq_true rfl)) dL_law_1068 ⟨by have := hrm.1; omega, by have := hrm.2; omega⟩) hP1 hD1 hS hA [6, 7, 8, 9, 10] [0, 1, 2, 3, 4, 5, 11] rfl rfl rfl (by decide) (fun zb u H locs hw hP2a hD2a hS => ?_)
            obtain ⟨th2m, rfl⟩ : ∃ w, w = u := ⟨_, rfl⟩
            try dsimp only at hw
            obtain ⟨hP2, hD2⟩ : va_P D vwCl ([(hd, .inr (6, [.ref rT, .ref rH, .ref rG, .ref rD, .ref rF])), (rF, .inr (3, [.ref b1, .ref b2, .ref e1, .ref e2, .int (iI m1), .long (lI ff), .long (lI fs), .long (lI tf), .long (lI ts)])), (b1, .inl (cJ, 20, .inr (.inl (zJ bF)))), (b2, .inl (cJ, 20, .inr (.inl (zJ bS)))), (e1, .inl (cJ, 20, .inr (.inl (zJ eF)))), (e2, .inl (cJ, 20, .inr (.inl (zJ eS)))), (hm, .inr (7, [.int (iI th2m), .ref mS, .ref mM, .ref mB, .ref mT, .ref mX, .ref mY, .ref mL, .int (iI sz1), .ref mR, .int (iI at2), .long (lI nu), .ref mt, .ref mx, .ref my, .int (iI fo), .ref mF, .ref mG, .ref mU, .ref mV, .long (lI lo), .long (lI lB), .long (lI hi), .long (lI hB1)])), (mF, .inl (cJ, 20, .inr (.inl (zJ fF)))), (mG, .inl (cJ, 20, .inr (.inl (zJ fG)))), (mU, .inl (cJ, 20, .inr (.inl (zJ fU)))), (mV, .inl (cJ, 20, .inr (.inl (zJ fV)))), (ro, .inl (cJ, 1, .inr (.inl (zJ fo1))))] ++ pl) H ∧ va_D A ([(hd, .inr (6, [.ref rT, .ref rH, .ref rG, .ref rD, .ref rF])), (rF, .inr (3, [.ref b1, .ref b2, .ref e1, .ref e2, .int (iI m1), .long (lI ff), .long (lI fs), .long (lI tf), .long (lI ts)])), (b1, .inl (cJ, 20, .inr (.inl (zJ bF)))), (b2, .inl (cJ, 20, .inr (.inl (zJ bS)))), (e1, .inl (cJ, 20, .inr (.inl (zJ eF)))), (e2, .inl (cJ, 20, .inr (.inl (zJ eS)))), (hm, .inr (7, [.int (iI th2m), .ref mS, .ref mM, .ref mB, .ref mT, .ref mX, .ref mY, .ref mL, .int (iI sz1), .ref mR, .int (iI at2), .long (lI nu), .ref mt, .ref mx, .ref my, .int (iI fo), .ref mF, .ref mG, .ref mU, .ref mV, .long (lI lo), .long (lI lB), .long (lI hi), .long (lI hB1)])), (mF, .inl (cJ, 20, .inr (.inl (zJ fF)))), (mG, .inl (cJ, 20, .inr (.inl (zJ fG)))), (mU, .inl (cJ, 20, .inr (.inl (zJ fU)))), (mV, .inl (cJ, 20, .inr (.inl (zJ fV)))), (ro, .inl (cJ, 1, .inr (.inl (zJ fo1))))] ++ pl) := pd_part hP2a hD2a [0, 1, 2, 3, 4, 5, 7, 8, 9, 10, 11, 6] (by decide +kernel) rfl
            have eth := t_span_x hSP hk hw
            refine lv_lstore (lv' := [(6, .long (lI zb)), (5, .int (iI z5)), (0, .ref b), (1, .ref hd), (2, .ref hm), (3, .ref ro), (4, .int (iI i))]) hx hb dL_law_1071 hl (by decide) rfl (fun ls hl => ?_)
            refine lv_aload_n hx hb dL_law_1073 rfl (lv_at hl 4 rfl) ?_
            refine wz_qcalli (wr := [(hd, .inr (6, [.ref rT, .ref rH, .ref rG, .ref rD, .ref rF])), (rF, .inr (3, [.ref b1, .ref b2, .ref e1, .ref e2, .int (iI m1), .long (lI ff), .long (lI fs), .long (lI tf), .long (lI ts)])), (b1, .inl (cJ, 20, .inr (.inl (zJ bF)))), (b2, .inl (cJ, 20, .inr (.inl (zJ bS)))), (e1, .inl (cJ, 20, .inr (.inl (zJ eF)))), (e2, .inl (cJ, 20, .inr (.inl (zJ eS)))), (mF, .inl (cJ, 20, .inr (.inl (zJ fF)))), (mG, .inl (cJ, 20, .inr (.inl (zJ fG)))), (mU, .inl (cJ, 20, .inr (.inl (zJ fU)))), (mV, .inl (cJ, 20, .inr (.inl (zJ fV)))), (ro, .inl (cJ, 1, .inr (.inl (zJ fo1))))]) (va_runV (As := []) (rest := []) ⟨hx, hb, hml, hown, hts⟩ (k_X7_thrown l D cI cJ cT H.size hm th2m mS mM mB mT mX mY mL sz1 mR at2 nu mt mx my fo mF mG mU mV lo lB hi hB1 ) (cwV 0 hts gL_law_X7_thrown rfl rfl rfl (by decide +kernel) ⟨Nat.le_of_ble_eq_true rfl, Nat.le_of_ble_eq_true rfl⟩) (wz_preV hK (vP_l hP2) (vD_l hD2) [6] (by decide) rfl rfl 7 6 rfl rfl) rfl rfl hl.1 rfl (lv_room (Nat.le_of_ble_eq_true rfl)) dL_law_1074 ⟨by have := hrm.1; omega, by have := hrm.2; omega⟩) hP2 hD2 hS hA [6] [0, 1, 2, 3, 4, 5, 7, 8, 9, 10, 11] rfl rfl rfl (by decide) (fun zt u H locs ht9 hP3a hD3a hS => ?_)
            try dsimp only at ht9
            obtain ⟨hP3, hD3⟩ : va_P D vwCl ([(hd, .inr (6, [.ref rT, .ref rH, .ref rG, .ref rD, .ref rF])), (rF, .inr (3, [.ref b1, .ref b2, .ref e1, .ref e2, .int (iI m1), .long (lI ff), .long (lI fs), .long (lI tf), .long (lI ts)])), (b1, .inl (cJ, 20, .inr (.inl (zJ bF)))), (b2, .inl (cJ, 20, .inr (.inl (zJ bS)))), (e1, .inl (cJ, 20, .inr (.inl (zJ eF)))), (e2, .inl (cJ, 20, .inr (.inl (zJ eS)))), (hm, .inr (7, [.int (iI th2m), .ref mS, .ref mM, .ref mB, .ref mT, .ref mX, .ref mY, .ref mL, .int (iI sz1), .ref mR, .int (iI at2), .long (lI nu), .ref mt, .ref mx, .ref my, .int (iI fo), .ref mF, .ref mG, .ref mU, .ref mV, .long (lI lo), .long (lI lB), .long (lI hi), .long (lI hB1)])), (mF, .inl (cJ, 20, .inr (.inl (zJ fF)))), (mG, .inl (cJ, 20, .inr (.inl (zJ fG)))), (mU, .inl (cJ, 20, .inr (.inl (zJ fU)))), (mV, .inl (cJ, 20, .inr (.inl (zJ fV)))), (ro, .inl (cJ, 1, .inr (.inl (zJ fo1))))] ++ pl) H ∧ va_D A ([(hd, .inr (6, [.ref rT, .ref rH, .ref rG, .ref rD, .ref rF])), (rF, .inr (3, [.ref b1, .ref b2, .ref e1, .ref e2, .int (iI m1), .long (lI ff), .long (lI fs), .long (lI tf), .long (lI ts)])), (b1, .inl (cJ, 20, .inr (.inl (zJ bF)))), (b2, .inl (cJ, 20, .inr (.inl (zJ bS)))), (e1, .inl (cJ, 20, .inr (.inl (zJ eF)))), (e2, .inl (cJ, 20, .inr (.inl (zJ eS)))), (hm, .inr (7, [.int (iI th2m), .ref mS, .ref mM, .ref mB, .ref mT, .ref mX, .ref mY, .ref mL, .int (iI sz1), .ref mR, .int (iI at2), .long (lI nu), .ref mt, .ref mx, .ref my, .int (iI fo), .ref mF, .ref mG, .ref mU, .ref mV, .long (lI lo), .long (lI lB), .long (lI hi), .long (lI hB1)])), (mF, .inl (cJ, 20, .inr (.inl (zJ fF)))), (mG, .inl (cJ, 20, .inr (.inl (zJ fG)))), (mU, .inl (cJ, 20, .inr (.inl (zJ fU)))), (mV, .inl (cJ, 20, .inr (.inl (zJ fV)))), (ro, .inl (cJ, 1, .inr (.inl (zJ fo1))))] ++ pl) := pd_part hP3a hD3a [0, 1, 2, 3, 4, 5, 11, 6, 7, 8, 9, 10] (by decide +kernel) rfl
            refine wz_topi (show iI zt = iI th2m by rw [ht9]) ?_
            refine lv_iload hx hb dL_law_1077 (lv_at hl 1 rfl) ?_
            refine wz_topi (show iI z5 = iI th2m by rw [eth]) ?_
            refine lv_icmp_eq (tgt := 1084) hx hb dL_law_1079 (by decide) (fun _ => ?_) (fun q => absurd rfl q)
            refine lv_iload hx hb dL_law_1084 (lv_at hl 1 rfl) ?_
            refine wz_if_ne (tgt := 1100) hx hb dL_law_1086 (by decide) ⟨by omega, by omega⟩ (fun _ => ?_) (fun q => (by exfalso; omega))
            refine lv_goto (tgt := 1103) hx hb dL_law_1100 (by decide) ?_
            refine W.widen (k := cells + 3) (n := slots + 18) (by omega) (by omega) ?_
            exact K hP3 hD3 hS (lv_sub hl [2, 3, 4, 5, 6] rfl) hTA hTB hTC hTE hRG hBY hRD hSP
        · skip
          exfalso; omega
      · skip
        obtain ⟨zc, u⟩ := v
        obtain ⟨e5, hc⟩ := hw
        subst e5
        try dsimp only at hc
        obtain ⟨hP1, hD1⟩ : va_P D vwCl ([(hd, .inr (6, [.ref rT, .ref rH, .ref rG, .ref rD, .ref rF])), (rF, .inr (3, [.ref b1, .ref b2, .ref e1, .ref e2, .int (iI m1), .long (lI ff), .long (lI fs), .long (lI tf), .long (lI ts)])), (b1, .inl (cJ, 20, .inr (.inl (zJ bF)))), (b2, .inl (cJ, 20, .inr (.inl (zJ bS)))), (e1, .inl (cJ, 20, .inr (.inl (zJ eF)))), (e2, .inl (cJ, 20, .inr (.inl (zJ eS)))), (hm, .inr (7, [.int (iI th), .ref mS, .ref mM, .ref mB, .ref mT, .ref mX, .ref mY, .ref mL, .int (iI sz1), .ref mR, .int (iI at2), .long (lI nu), .ref mt, .ref mx, .ref my, .int (iI fo), .ref mF, .ref mG, .ref mU, .ref mV, .long (lI lo), .long (lI lB), .long (lI hi), .long (lI hB1)])), (mF, .inl (cJ, 20, .inr (.inl (zJ fF)))), (mG, .inl (cJ, 20, .inr (.inl (zJ fG)))), (mU, .inl (cJ, 20, .inr (.inl (zJ fU)))), (mV, .inl (cJ, 20, .inr (.inl (zJ fV)))), (ro, .inl (cJ, 1, .inr (.inl (zJ (uZ fo1 0 zc)))))] ++ pl) H ∧ va_D A ([(hd, .inr (6, [.ref rT, .ref rH, .ref rG, .ref rD, .ref rF])), (rF, .inr (3, [.ref b1, .ref b2, .ref e1, .ref e2, .int (iI m1), .long (lI ff), .long (lI fs), .long (lI tf), .long (lI ts)])), (b1, .inl (cJ, 20, .inr (.inl (zJ bF)))), (b2, .inl (cJ, 20, .inr (.inl (zJ bS)))), (e1, .inl (cJ, 20, .inr (.inl (zJ eF)))), (e2, .inl (cJ, 20, .inr (.inl (zJ eS)))), (hm, .inr (7, [.int (iI th), .ref mS, .ref mM, .ref mB, .ref mT, .ref mX, .ref mY, .ref mL, .int (iI sz1), .ref mR, .int (iI at2), .long (lI nu), .ref mt, .ref mx, .ref my, .int (iI fo), .ref mF, .ref mG, .ref mU, .ref mV, .long (lI lo), .long (lI lB), .long (lI hi), .long (lI hB1)])), (mF, .inl (cJ, 20, .inr (.inl (zJ fF)))), (mG, .inl (cJ, 20, .inr (.inl (zJ fG)))), (mU, .inl (cJ, 20, .inr (.inl (zJ fU)))), (mV, .inl (cJ, 20, .inr (.inl (zJ fV)))), (ro, .inl (cJ, 1, .inr (.inl (zJ (uZ fo1 0 zc)))))] ++ pl) := pd_part hPa hDa [5, 6, 7, 8, 9, 10, 0, 1, 2, 3, 4, 11] (by decide +kernel) rfl
        refine lv_istore (lv' := [(5, .int (iI 0)), (0, .ref b), (1, .ref hd), (2, .ref hm), (3, .ref ro), (4, .int (iI i))]) hx hb dL_law_1031 hl (by decide) rfl (fun ls hl => ?_)
        refine lv_aload_n hx hb dL_law_1033 rfl (lv_at hl 3 rfl) ?_
        refine lv_aload_n hx hb dL_law_1034 rfl (lv_at hl 1 rfl) ?_
        refine lv_iload hx hb dL_law_1035 (lv_at hl 5 rfl) ?_
        refine lv_iconst (v := iI 1) hx hb dL_law_1037 rfl ?_
        refine wz_iadd hx hb dL_law_1038 ?_
        refine wz_sld hx hb hX hbl hbA hS hL ⟨by omega, by omega⟩ dL_law_1039 ?_
        refine wz_topi (show iI (sX xs (i + 1)) = iI v1 by rw [hv1]) ?_
        refine lv_aload_n hx hb dL_law_1040 rfl (lv_at hl 1 rfl) ?_
        refine lv_iload hx hb dL_law_1041 (lv_at hl 5 rfl) ?_
        refine lv_iconst (v := iI 2) hx hb dL_law_1043 rfl ?_
        refine wz_iadd hx hb dL_law_1044 ?_
        refine wz_sld hx hb hX hbl hbA hS hL ⟨by omega, by omega⟩ dL_law_1045 ?_
        refine wz_topi (show iI (sX xs (i + 2)) = iI v2 by rw [hv2]) ?_
        refine wz_if_eq (tgt := 1053) hx hb dL_law_1046 (by decide) (rv2) (fun c1046 => ?_) (fun c1046 => ?_)
        · skip
          refine lv_iconst (v := iI 0) hx hb dL_law_1053 rfl ?_
          refine lv_aload_n hx hb dL_law_1054 rfl (lv_at hl 1 rfl) ?_
          refine lv_iload hx hb dL_law_1055 (lv_at hl 5 rfl) ?_
          refine lv_iconst (v := iI 3) hx hb dL_law_1057 rfl ?_
          refine wz_iadd hx hb dL_law_1058 ?_
          refine wz_sld hx hb hX hbl hbA hS hL ⟨by omega, by omega⟩ dL_law_1059 ?_
          refine wz_topi (show iI (sX xs (i + 3)) = iI v3 by rw [hv3]) ?_
          refine wz_if_eq (tgt := 1067) hx hb dL_law_1060 (by decide) (rv3) (fun c1060 => ?_) (fun c1060 => ?_)
          · skip
            exfalso; omega
          · skip
            refine lv_iconst (v := iI 1) hx hb dL_law_1063 rfl ?_
            refine lv_goto (tgt := 1068) hx hb dL_law_1064 (by decide) ?_
            refine wz_qcalll (wr := [(hd, .inr (6, [.ref rT, .ref rH, .ref rG, .ref rD, .ref rF])), (rF, .inr (3, [.ref b1, .ref b2, .ref e1, .ref e2, .int (iI m1), .long (lI ff), .long (lI fs), .long (lI tf), .long (lI ts)])), (b1, .inl (cJ, 20, .inr (.inl (zJ bF)))), (b2, .inl (cJ, 20, .inr (.inl (zJ bS)))), (e1, .inl (cJ, 20, .inr (.inl (zJ eF)))), (e2, .inl (cJ, 20, .inr (.inl (zJ eS)))), (ro, .inl (cJ, 1, .inr (.inl (zJ (uZ fo1 0 zc)))))]) (va_runV (As := [.int (iI v1), .int (iI 0), .int (iI 1)]) (rest := []) ⟨hx, hb, hml, hown, hts⟩ (k_X7_span l D cI cJ cT H.size hm th mS mM mB mT mX mY mL sz1 mR at2 nu mt mx my fo mF mG mU mV lo lB hi hB1 fF fG fU fV v1 0 1 hSP.2.2.1 rv1 (by decide) (by decide)) (cwV 3 hts gL_law_X7_span rfl rfl rfl (by decide +kernel) ⟨Nat.le_of_ble_eq_true rfl, Nat.le_of_ble_eq_true rfl⟩) (wz_preV hK (vP_l hP1) (vD_l hD1) [6, 7, 8, 9, 10] (by decide) rfl rfl 7 6 rfl rfl) rfl rfl hl.1 rfl (lv_room (Nat.le_of_ble_eq_true rfl)) dL_law_1068 ⟨by have := hrm.1; omega, by have := hrm.2; omega⟩) hP1 hD1 hS hA [6, 7, 8, 9, 10] [0, 1, 2, 3, 4, 5, 11] rfl rfl rfl (by decide) (fun zb u H locs hw hP2a hD2a hS => ?_)
            obtain ⟨th2m, rfl⟩ : ∃ w, w = u := ⟨_, rfl⟩
            try dsimp only at hw
            obtain ⟨hP2, hD2⟩ : va_P D vwCl ([(hd, .inr (6, [.ref rT, .ref rH, .ref rG, .ref rD, .ref rF])), (rF, .inr (3, [.ref b1, .ref b2, .ref e1, .ref e2, .int (iI m1), .long (lI ff), .long (lI fs), .long (lI tf), .long (lI ts)])), (b1, .inl (cJ, 20, .inr (.inl (zJ bF)))), (b2, .inl (cJ, 20, .inr (.inl (zJ bS)))), (e1, .inl (cJ, 20, .inr (.inl (zJ eF)))), (e2, .inl (cJ, 20, .inr (.inl (zJ eS)))), (hm, .inr (7, [.int (iI th2m), .ref mS, .ref mM, .ref mB, .ref mT, .ref mX, .ref mY, .ref mL, .int (iI sz1), .ref mR, .int (iI at2), .long (lI nu), .ref mt, .ref mx, .ref my, .int (iI fo), .ref mF, .ref mG, .ref mU, .ref mV, .long (lI lo), .long (lI lB), .long (lI hi), .long (lI hB1)])), (mF, .inl (cJ, 20, .inr (.inl (zJ fF)))), (mG, .inl (cJ, 20, .inr (.inl (zJ fG)))), (mU, .inl (cJ, 20, .inr (.inl (zJ fU)))), (mV, .inl (cJ, 20, .inr (.inl (zJ fV)))), (ro, .inl (cJ, 1, .inr (.inl (zJ (uZ fo1 0 zc)))))] ++ pl) H ∧ va_D A ([(hd, .inr (6, [.ref rT, .ref rH, .ref rG, .ref rD, .ref rF])), (rF, .inr (3, [.ref b1, .ref b2, .ref e1, .ref e2, .int (iI m1), .long (lI ff), .long (lI fs), .long (lI tf), .long (lI ts)])), (b1, .inl (cJ, 20, .inr (.inl (zJ bF)))), (b2, .inl (cJ, 20, .inr (.inl (zJ bS)))), (e1, .inl (cJ, 20, .inr (.inl (zJ eF)))), (e2, .inl (cJ, 20, .inr (.inl (zJ eS)))), (hm, .inr (7, [.int (iI th2m), .ref mS, .ref mM, .ref mB, .ref mT, .ref mX, .ref mY, .ref mL, .int (iI sz1), .ref mR, .int (iI at2), .long (lI nu), .ref mt, .ref mx, .ref my, .int (iI fo), .ref mF, .ref mG, .ref mU, .ref mV, .long (lI lo), .long (lI lB), .long (lI hi), .long (lI hB1)])), (mF, .inl (cJ, 20, .inr (.inl (zJ fF)))), (mG, .inl (cJ, 20, .inr (.inl (zJ fG)))), (mU, .inl (cJ, 20, .inr (.inl (zJ fU)))), (mV, .inl (cJ, 20, .inr (.inl (zJ fV)))), (ro, .inl (cJ, 1, .inr (.inl (zJ (uZ fo1 0 zc)))))] ++ pl) := pd_part hP2a hD2a [0, 1, 2, 3, 4, 5, 7, 8, 9, 10, 11, 6] (by decide +kernel) rfl
            obtain ⟨eth, ezb⟩ := t_span_r hSP hc hw
            refine lv_lstore (lv' := [(6, .long (lI zb)), (5, .int (iI 0)), (0, .ref b), (1, .ref hd), (2, .ref hm), (3, .ref ro), (4, .int (iI i))]) hx hb dL_law_1071 hl (by decide) rfl (fun ls hl => ?_)
            refine lv_aload_n hx hb dL_law_1073 rfl (lv_at hl 4 rfl) ?_
            refine wz_qcalli (wr := [(hd, .inr (6, [.ref rT, .ref rH, .ref rG, .ref rD, .ref rF])), (rF, .inr (3, [.ref b1, .ref b2, .ref e1, .ref e2, .int (iI m1), .long (lI ff), .long (lI fs), .long (lI tf), .long (lI ts)])), (b1, .inl (cJ, 20, .inr (.inl (zJ bF)))), (b2, .inl (cJ, 20, .inr (.inl (zJ bS)))), (e1, .inl (cJ, 20, .inr (.inl (zJ eF)))), (e2, .inl (cJ, 20, .inr (.inl (zJ eS)))), (mF, .inl (cJ, 20, .inr (.inl (zJ fF)))), (mG, .inl (cJ, 20, .inr (.inl (zJ fG)))), (mU, .inl (cJ, 20, .inr (.inl (zJ fU)))), (mV, .inl (cJ, 20, .inr (.inl (zJ fV)))), (ro, .inl (cJ, 1, .inr (.inl (zJ (uZ fo1 0 zc)))))]) (va_runV (As := []) (rest := []) ⟨hx, hb, hml, hown, hts⟩ (k_X7_thrown l D cI cJ cT H.size hm th2m mS mM mB mT mX mY mL sz1 mR at2 nu mt mx my fo mF mG mU mV lo lB hi hB1 ) (cwV 0 hts gL_law_X7_thrown rfl rfl rfl (by decide +kernel) ⟨Nat.le_of_ble_eq_true rfl, Nat.le_of_ble_eq_true rfl⟩) (wz_preV hK (vP_l hP2) (vD_l hD2) [6] (by decide) rfl rfl 7 6 rfl rfl) rfl rfl hl.1 rfl (lv_room (Nat.le_of_ble_eq_true rfl)) dL_law_1074 ⟨by have := hrm.1; omega, by have := hrm.2; omega⟩) hP2 hD2 hS hA [6] [0, 1, 2, 3, 4, 5, 7, 8, 9, 10, 11] rfl rfl rfl (by decide) (fun zt u H locs ht9 hP3a hD3a hS => ?_)
            try dsimp only at ht9
            obtain ⟨hP3, hD3⟩ : va_P D vwCl ([(hd, .inr (6, [.ref rT, .ref rH, .ref rG, .ref rD, .ref rF])), (rF, .inr (3, [.ref b1, .ref b2, .ref e1, .ref e2, .int (iI m1), .long (lI ff), .long (lI fs), .long (lI tf), .long (lI ts)])), (b1, .inl (cJ, 20, .inr (.inl (zJ bF)))), (b2, .inl (cJ, 20, .inr (.inl (zJ bS)))), (e1, .inl (cJ, 20, .inr (.inl (zJ eF)))), (e2, .inl (cJ, 20, .inr (.inl (zJ eS)))), (hm, .inr (7, [.int (iI th2m), .ref mS, .ref mM, .ref mB, .ref mT, .ref mX, .ref mY, .ref mL, .int (iI sz1), .ref mR, .int (iI at2), .long (lI nu), .ref mt, .ref mx, .ref my, .int (iI fo), .ref mF, .ref mG, .ref mU, .ref mV, .long (lI lo), .long (lI lB), .long (lI hi), .long (lI hB1)])), (mF, .inl (cJ, 20, .inr (.inl (zJ fF)))), (mG, .inl (cJ, 20, .inr (.inl (zJ fG)))), (mU, .inl (cJ, 20, .inr (.inl (zJ fU)))), (mV, .inl (cJ, 20, .inr (.inl (zJ fV)))), (ro, .inl (cJ, 1, .inr (.inl (zJ (uZ fo1 0 zc)))))] ++ pl) H ∧ va_D A ([(hd, .inr (6, [.ref rT, .ref rH, .ref rG, .ref rD, .ref rF])), (rF, .inr (3, [.ref b1, .ref b2, .ref e1, .ref e2, .int (iI m1), .long (lI ff), .long (lI fs), .long (lI tf), .long (lI ts)])), (b1, .inl (cJ, 20, .inr (.inl (zJ bF)))), (b2, .inl (cJ, 20, .inr (.inl (zJ bS)))), (e1, .inl (cJ, 20, .inr (.inl (zJ eF)))), (e2, .inl (cJ, 20, .inr (.inl (zJ eS)))), (hm, .inr (7, [.int (iI th2m), .ref mS, .ref mM, .ref mB, .ref mT, .ref mX, .ref mY, .ref mL, .int (iI sz1), .ref mR, .int (iI at2), .long (lI nu), .ref mt, .ref mx, .ref my, .int (iI fo), .ref mF, .ref mG, .ref mU, .ref mV, .long (lI lo), .long (lI lB), .long (lI hi), .long (lI hB1)])), (mF, .inl (cJ, 20, .inr (.inl (zJ fF)))), (mG, .inl (cJ, 20, .inr (.inl (zJ fG)))), (mU, .inl (cJ, 20, .inr (.inl (zJ fU)))), (mV, .inl (cJ, 20, .inr (.inl (zJ fV)))), (ro, .inl (cJ, 1, .inr (.inl (zJ (uZ fo1 0 zc)))))] ++ pl) := pd_part hP3a hD3a [0, 1, 2, 3, 4, 5, 11, 6, 7, 8, 9, 10] (by decide +kernel) rfl
            refine wz_topi (show iI zt = iI th2m by rw [ht9]) ?_
            refine lv_iload hx hb dL_law_1077 (lv_at hl 1 rfl) ?_
            refine wz_topi (show iI 0 = iI th2m by rw [eth]) ?_
            refine lv_icmp_eq (tgt := 1084) hx hb dL_law_1079 (by decide) (fun _ => ?_) (fun q => absurd rfl q)
            refine lv_iload hx hb dL_law_1084 (lv_at hl 1 rfl) ?_
            refine wz_if_ne (tgt := 1100) hx hb dL_law_1086 (by decide) (by decide) (fun q => absurd rfl q) (fun _ => ?_)
            refine lv_aload_n hx hb dL_law_1089 rfl (lv_at hl 5 rfl) ?_
            refine lv_iconst (v := iI 0) hx hb dL_law_1090 rfl ?_
            refine wz_lald (tys := TY cI cJ cT) hx hb hK (vP_l hP3) 11 1 rfl rfl (by decide) (by decide) dL_law_1091 ?_
            refine wz_topl (y := lI zc) (by rw [uZ_s]) ?_
            refine lv_lload hx hb dL_law_1092 (lv_at hl 0 rfl) ?_
            refine wz_topl (show lI zb = lI zc by rw [ezb]) ?_
            refine W.lcmp hx hb dL_law_1094 ?_
            refine wz_lraw_eq (tgt := 1100) hx hb dL_law_1095 (by decide) (fun _ => ?_) (fun q => absurd rfl q)
            refine lv_goto (tgt := 1103) hx hb dL_law_1100 (by decide) ?_
            refine W.widen (k := cells + 3) (n := slots + 18) (by omega) (by omega) ?_
            exact K hP3 hD3 hS (lv_sub hl [2, 3, 4, 5, 6] rfl) hTA hTB hTC hTE hRG hBY hRD hSP
        · skip
          exfalso; omega
  · skip
    refine lv_iconst (v := iI 1) hx hb dL_law_1008 rfl ?_
    refine lv_goto (tgt := 1013) hx hb dL_law_1009 (by decide) ?_
    refine lv_aload_n hx hb dL_law_1013 rfl (lv_at hl 0 rfl) ?_
    refine lv_iload hx hb dL_law_1014 (lv_at hl 4 rfl) ?_
    refine lv_iconst (v := iI 3) hx hb dL_law_1016 rfl ?_
    refine wz_iadd hx hb dL_law_1017 ?_
    refine wz_sld hx hb hX hbl hbA hS hL ⟨by omega, by omega⟩ dL_law_1018 ?_
    refine wz_topi (show iI (sX xs (i + 3)) = iI v3 by rw [hv3]) ?_
    refine wz_if_eq (tgt := 1026) hx hb dL_law_1019 (by decide) (rv3) (fun c1019 => ?_) (fun c1019 => ?_)
    · skip
      refine lv_iconst (v := iI 0) hx hb dL_law_1026 rfl ?_
      refine lv_aload_n hx hb dL_law_1027 rfl (lv_at hl 3 rfl) ?_
      refine wz_qhcalli (wr := [(hm, .inr (7, [.int (iI th), .ref mS, .ref mM, .ref mB, .ref mT, .ref mX, .ref mY, .ref mL, .int (iI sz1), .ref mR, .int (iI at2), .long (lI nu), .ref mt, .ref mx, .ref my, .int (iI fo), .ref mF, .ref mG, .ref mU, .ref mV, .long (lI lo), .long (lI lB), .long (lI hi), .long (lI hB1)])), (mF, .inl (cJ, 20, .inr (.inl (zJ fF)))), (mG, .inl (cJ, 20, .inr (.inl (zJ fG)))), (mU, .inl (cJ, 20, .inr (.inl (zJ fU)))), (mV, .inl (cJ, 20, .inr (.inl (zJ fV))))]) (vx_runSX (As := [.ref hd, .int (iI v1), .int (iI 1), .int (iI 0), .ref ro]) (rest := []) ⟨hx, hb, hml, hown, hts⟩ (k_L_span l hLt sa D cI cJ cT H.size hd rT rH rG rD rF b1 b2 e1 e2 m1 ff fs tf ts bF bS eF eS v1 1 0 ro fo1 hSP.2.1 rv1 (by decide) (by decide)) (vx_cwSW 5 hts gL_law_L_span rfl rfl rfl (by decide +kernel) ⟨Nat.le_of_ble_eq_true rfl, Nat.le_of_ble_eq_true rfl⟩) (wz_preSy hK (vP_l hP) (vD_l hD) hTV hThC hTH hS hA [0, 1, 2, 3, 4, 5, 11] (by decide) rfl rfl) rfl rfl hl.1 rfl (lv_room (Nat.le_of_ble_eq_true rfl)) dL_law_1028 ⟨by have := hrm.1; omega, by have := hrm.2; omega⟩) hP hD hS hA [0, 1, 2, 3, 4, 5, 11] [6, 7, 8, 9, 10] rfl rfl rfl (by decide) (fun z5 v H locs hw hPa hDa hS => ?_)
      rcases v with k5 | v
      · skip
        obtain ⟨e5, hk⟩ := hw
        subst e5
        obtain ⟨hP1, hD1⟩ : va_P D vwCl ([(hd, .inr (6, [.ref rT, .ref rH, .ref rG, .ref rD, .ref rF])), (rF, .inr (3, [.ref b1, .ref b2, .ref e1, .ref e2, .int (iI m1), .long (lI ff), .long (lI fs), .long (lI tf), .long (lI ts)])), (b1, .inl (cJ, 20, .inr (.inl (zJ bF)))), (b2, .inl (cJ, 20, .inr (.inl (zJ bS)))), (e1, .inl (cJ, 20, .inr (.inl (zJ eF)))), (e2, .inl (cJ, 20, .inr (.inl (zJ eS)))), (hm, .inr (7, [.int (iI th), .ref mS, .ref mM, .ref mB, .ref mT, .ref mX, .ref mY, .ref mL, .int (iI sz1), .ref mR, .int (iI at2), .long (lI nu), .ref mt, .ref mx, .ref my, .int (iI fo), .ref mF, .ref mG, .ref mU, .ref mV, .long (lI lo), .long (lI lB), .long (lI hi), .long (lI hB1)])), (mF, .inl (cJ, 20, .inr (.inl (zJ fF)))), (mG, .inl (cJ, 20, .inr (.inl (zJ fG)))), (mU, .inl (cJ, 20, .inr (.inl (zJ fU)))), (mV, .inl (cJ, 20, .inr (.inl (zJ fV)))), (ro, .inl (cJ, 1, .inr (.inl (zJ fo1))))] ++ pl) H ∧ va_D A ([(hd, .inr (6, [.ref rT, .ref rH, .ref rG, .ref rD, .ref rF])), (rF, .inr (3, [.ref b1, .ref b2, .ref e1, .ref e2, .int (iI m1), .long (lI ff), .long (lI fs), .long (lI tf), .long (lI ts)])), (b1, .inl (cJ, 20, .inr (.inl (zJ bF)))), (b2, .inl (cJ, 20, .inr (.inl (zJ bS)))), (e1, .inl (cJ, 20, .inr (.inl (zJ eF)))), (e2, .inl (cJ, 20, .inr (.inl (zJ eS)))), (hm, .inr (7, [.int (iI th), .ref mS, .ref mM, .ref mB, .ref mT, .ref mX, .ref mY, .ref mL, .int (iI sz1), .ref mR, .int (iI at2), .long (lI nu), .ref mt, .ref mx, .ref my, .int (iI fo), .ref mF, .ref mG, .ref mU, .ref mV, .long (lI lo), .long (lI lB), .long (lI hi), .long (lI hB1)])), (mF, .inl (cJ, 20, .inr (.inl (zJ fF)))), (mG, .inl (cJ, 20, .inr (.inl (zJ fG)))), (mU, .inl (cJ, 20, .inr (.inl (zJ fU)))), (mV, .inl (cJ, 20, .inr (.inl (zJ fV)))), (ro, .inl (cJ, 1, .inr (.inl (zJ fo1))))] ++ pl) := pd_part hPa hDa [5, 6, 7, 8, 9, 10, 0, 1, 2, 3, 4, 11] (by decide +kernel) rfl
        obtain ⟨k51, k52⟩ : 1 ≤ z5 ∧ z5 ≤ 3 := by rcases hk with ⟨q, -⟩ | ⟨q, -⟩ | ⟨q, -⟩ <;> omega
        refine lv_istore (lv' := [(5, .int (iI z5)), (0, .ref b), (1, .ref hd), (2, .ref hm), (3, .ref ro), (4, .int (iI i))]) hx hb dL_law_1031 hl (by decide) rfl (fun ls hl => ?_)
        refine lv_aload_n hx hb dL_law_1033 rfl (lv_at hl 3 rfl) ?_
        refine lv_aload_n hx hb dL_law_1034 rfl (lv_at hl 1 rfl) ?_
        refine lv_iload hx hb dL_law_1035 (lv_at hl 5 rfl) ?_
        refine lv_iconst (v := iI 1) hx hb dL_law_1037 rfl ?_
        refine wz_iadd hx hb dL_law_1038 ?_
        refine wz_sld hx hb hX hbl hbA hS hL ⟨by omega, by omega⟩ dL_law_1039 ?_
        refine wz_topi (show iI (sX xs (i + 1)) = iI v1 by rw [hv1]) ?_
        refine lv_aload_n hx hb dL_law_1040 rfl (lv_at hl 1 rfl) ?_
        refine lv_iload hx hb dL_law_1041 (lv_at hl 5 rfl) ?_
        refine lv_iconst (v := iI 2) hx hb dL_law_1043 rfl ?_
        refine wz_iadd hx hb dL_law_1044 ?_
        refine wz_sld hx hb hX hbl hbA hS hL ⟨by omega, by omega⟩ dL_law_1045 ?_
        refine wz_topi (show iI (sX xs (i + 2)) = iI v2 by rw [hv2]) ?_
        refine wz_if_eq (tgt := 1053) hx hb dL_law_1046 (by decide) (rv2) (fun c1046 => ?_) (fun c1046 => ?_)
        · skip
          exfalso; omega
        · skip
          refine lv_iconst (v := iI 1) hx hb dL_law_1049 rfl ?_
          refine lv_goto (tgt := 1054) hx hb dL_law_1050 (by decide) ?_
          refine lv_aload_n hx hb dL_law_1054 rfl (lv_at hl 1 rfl) ?_
          refine lv_iload hx hb dL_law_1055 (lv_at hl 5 rfl) ?_
          refine lv_iconst (v := iI 3) hx hb dL_law_1057 rfl ?_
          refine wz_iadd hx hb dL_law_1058 ?_
          refine wz_sld hx hb hX hbl hbA hS hL ⟨by omega, by omega⟩ dL_law_1059 ?_
          refine wz_topi (show iI (sX xs (i + 3)) = iI v3 by rw [hv3]) ?_
          refine wz_if_eq (tgt := 1067) hx hb dL_law_1060 (by decide) (rv3) (fun c1060 => ?_) (fun c1060 => ?_)
          · skip
            refine lv_iconst (v := iI 0) hx hb dL_law_1067 rfl ?_
            refine wz_qcalll (wr := [(hd, .inr (6, [.ref rT, .ref rH, .ref rG, .ref rD, .ref rF])), (rF, .inr (3, [.ref b1, .ref b2, .ref e1, .ref e2, .int (iI m1), .long (lI ff), .long (lI fs), .long (lI tf), .long (lI ts)])), (b1, .inl (cJ, 20, .inr (.inl (zJ bF)))), (b2, .inl (cJ, 20, .inr (.inl (zJ bS)))), (e1, .inl (cJ, 20, .inr (.inl (zJ eF)))), (e2, .inl (cJ, 20, .inr (.inl (zJ eS)))), (ro, .inl (cJ, 1, .inr (.inl (zJ fo1))))]) (va_runV (As := [.int (iI v1), .int (iI 1), .int (iI 0)]) (rest := []) ⟨hx, hb, hml, hown, hts⟩ (k_X7_span l D cI cJ cT H.size hm th mS mM mB mT mX mY mL sz1 mR at2 nu mt mx my fo mF mG mU mV lo lB hi hB1 fF fG fU fV v1 1 0 hSP.2.2.1 rv1 (by decide) (by decide)) (cwV 3 hts gL_law_X7_span rfl rfl rfl (by decide +kernel) ⟨Nat.le_of_ble_eq_true rfl, Nat.le_of_ble_eq_true rfl⟩) (wz_preV hK (vP_l hP1) (vD_l hD1) [6, 7, 8, 9, 10] (by decide) rfl rfl 7 6 rfl rfl) rfl rfl hl.1 rfl (lv_room (Nat.le_of_ble_eq_true rfl)) dL_law_1068 ⟨by have := hrm.1; omega, by have := hrm.2; omega⟩) hP1 hD1 hS hA [6, 7, 8, 9, 10] [0, 1, 2, 3, 4, 5, 11] rfl rfl rfl (by decide) (fun zb u H locs hw hP2a hD2a hS => ?_)
            obtain ⟨th2m, rfl⟩ : ∃ w, w = u := ⟨_, rfl⟩
            try dsimp only at hw
            obtain ⟨hP2, hD2⟩ : va_P D vwCl ([(hd, .inr (6, [.ref rT, .ref rH, .ref rG, .ref rD, .ref rF])), (rF, .inr (3, [.ref b1, .ref b2, .ref e1, .ref e2, .int (iI m1), .long (lI ff), .long (lI fs), .long (lI tf), .long (lI ts)])), (b1, .inl (cJ, 20, .inr (.inl (zJ bF)))), (b2, .inl (cJ, 20, .inr (.inl (zJ bS)))), (e1, .inl (cJ, 20, .inr (.inl (zJ eF)))), (e2, .inl (cJ, 20, .inr (.inl (zJ eS)))), (hm, .inr (7, [.int (iI th2m), .ref mS, .ref mM, .ref mB, .ref mT, .ref mX, .ref mY, .ref mL, .int (iI sz1), .ref mR, .int (iI at2), .long (lI nu), .ref mt, .ref mx, .ref my, .int (iI fo), .ref mF, .ref mG, .ref mU, .ref mV, .long (lI lo), .long (lI lB), .long (lI hi), .long (lI hB1)])), (mF, .inl (cJ, 20, .inr (.inl (zJ fF)))), (mG, .inl (cJ, 20, .inr (.inl (zJ fG)))), (mU, .inl (cJ, 20, .inr (.inl (zJ fU)))), (mV, .inl (cJ, 20, .inr (.inl (zJ fV)))), (ro, .inl (cJ, 1, .inr (.inl (zJ fo1))))] ++ pl) H ∧ va_D A ([(hd, .inr (6, [.ref rT, .ref rH, .ref rG, .ref rD, .ref rF])), (rF, .inr (3, [.ref b1, .ref b2, .ref e1, .ref e2, .int (iI m1), .long (lI ff), .long (lI fs), .long (lI tf), .long (lI ts)])), (b1, .inl (cJ, 20, .inr (.inl (zJ bF)))), (b2, .inl (cJ, 20, .inr (.inl (zJ bS)))), (e1, .inl (cJ, 20, .inr (.inl (zJ eF)))), (e2, .inl (cJ, 20, .inr (.inl (zJ eS)))), (hm, .inr (7, [.int (iI th2m), .ref mS, .ref mM, .ref mB, .ref mT, .ref mX, .ref mY, .ref mL, .int (iI sz1), .ref mR, .int (iI at2), .long (lI nu), .ref mt, .ref mx, .ref my, .int (iI fo), .ref mF, .ref mG, .ref mU, .ref mV, .long (lI lo), .long (lI lB), .long (lI hi), .long (lI hB1)])), (mF, .inl (cJ, 20, .inr (.inl (zJ fF)))), (mG, .inl (cJ, 20, .inr (.inl (zJ fG)))), (mU, .inl (cJ, 20, .inr (.inl (zJ fU)))), (mV, .inl (cJ, 20, .inr (.inl (zJ fV)))), (ro, .inl (cJ, 1, .inr (.inl (zJ fo1))))] ++ pl) := pd_part hP2a hD2a [0, 1, 2, 3, 4, 5, 7, 8, 9, 10, 11, 6] (by decide +kernel) rfl
            have eth := t_span_x hSP hk hw
            refine lv_lstore (lv' := [(6, .long (lI zb)), (5, .int (iI z5)), (0, .ref b), (1, .ref hd), (2, .ref hm), (3, .ref ro), (4, .int (iI i))]) hx hb dL_law_1071 hl (by decide) rfl (fun ls hl => ?_)
            refine lv_aload_n hx hb dL_law_1073 rfl (lv_at hl 4 rfl) ?_
            refine wz_qcalli (wr := [(hd, .inr (6, [.ref rT, .ref rH, .ref rG, .ref rD, .ref rF])), (rF, .inr (3, [.ref b1, .ref b2, .ref e1, .ref e2, .int (iI m1), .long (lI ff), .long (lI fs), .long (lI tf), .long (lI ts)])), (b1, .inl (cJ, 20, .inr (.inl (zJ bF)))), (b2, .inl (cJ, 20, .inr (.inl (zJ bS)))), (e1, .inl (cJ, 20, .inr (.inl (zJ eF)))), (e2, .inl (cJ, 20, .inr (.inl (zJ eS)))), (mF, .inl (cJ, 20, .inr (.inl (zJ fF)))), (mG, .inl (cJ, 20, .inr (.inl (zJ fG)))), (mU, .inl (cJ, 20, .inr (.inl (zJ fU)))), (mV, .inl (cJ, 20, .inr (.inl (zJ fV)))), (ro, .inl (cJ, 1, .inr (.inl (zJ fo1))))]) (va_runV (As := []) (rest := []) ⟨hx, hb, hml, hown, hts⟩ (k_X7_thrown l D cI cJ cT H.size hm th2m mS mM mB mT mX mY mL sz1 mR at2 nu mt mx my fo mF mG mU mV lo lB hi hB1 ) (cwV 0 hts gL_law_X7_thrown rfl rfl rfl (by decide +kernel) ⟨Nat.le_of_ble_eq_true rfl, Nat.le_of_ble_eq_true rfl⟩) (wz_preV hK (vP_l hP2) (vD_l hD2) [6] (by decide) rfl rfl 7 6 rfl rfl) rfl rfl hl.1 rfl (lv_room (Nat.le_of_ble_eq_true rfl)) dL_law_1074 ⟨by have := hrm.1; omega, by have := hrm.2; omega⟩) hP2 hD2 hS hA [6] [0, 1, 2, 3, 4, 5, 7, 8, 9, 10, 11] rfl rfl rfl (by decide) (fun zt u H locs ht9 hP3a hD3a hS => ?_)
            try dsimp only at ht9
            obtain ⟨hP3, hD3⟩ : va_P D vwCl ([(hd, .inr (6, [.ref rT, .ref rH, .ref rG, .ref rD, .ref rF])), (rF, .inr (3, [.ref b1, .ref b2, .ref e1, .ref e2, .int (iI m1), .long (lI ff), .long (lI fs), .long (lI tf), .long (lI ts)])), (b1, .inl (cJ, 20, .inr (.inl (zJ bF)))), (b2, .inl (cJ, 20, .inr (.inl (zJ bS)))), (e1, .inl (cJ, 20, .inr (.inl (zJ eF)))), (e2, .inl (cJ, 20, .inr (.inl (zJ eS)))), (hm, .inr (7, [.int (iI th2m), .ref mS, .ref mM, .ref mB, .ref mT, .ref mX, .ref mY, .ref mL, .int (iI sz1), .ref mR, .int (iI at2), .long (lI nu), .ref mt, .ref mx, .ref my, .int (iI fo), .ref mF, .ref mG, .ref mU, .ref mV, .long (lI lo), .long (lI lB), .long (lI hi), .long (lI hB1)])), (mF, .inl (cJ, 20, .inr (.inl (zJ fF)))), (mG, .inl (cJ, 20, .inr (.inl (zJ fG)))), (mU, .inl (cJ, 20, .inr (.inl (zJ fU)))), (mV, .inl (cJ, 20, .inr (.inl (zJ fV)))), (ro, .inl (cJ, 1, .inr (.inl (zJ fo1))))] ++ pl) H ∧ va_D A ([(hd, .inr (6, [.ref rT, .ref rH, .ref rG, .ref rD, .ref rF])), (rF, .inr (3, [.ref b1, .ref b2, .ref e1, .ref e2, .int (iI m1), .long (lI ff), .long (lI fs), .long (lI tf), .long (lI ts)])), (b1, .inl (cJ, 20, .inr (.inl (zJ bF)))), (b2, .inl (cJ, 20, .inr (.inl (zJ bS)))), (e1, .inl (cJ, 20, .inr (.inl (zJ eF)))), (e2, .inl (cJ, 20, .inr (.inl (zJ eS)))), (hm, .inr (7, [.int (iI th2m), .ref mS, .ref mM, .ref mB, .ref mT, .ref mX, .ref mY, .ref mL, .int (iI sz1), .ref mR, .int (iI at2), .long (lI nu), .ref mt, .ref mx, .ref my, .int (iI fo), .ref mF, .ref mG, .ref mU, .ref mV, .long (lI lo), .long (lI lB), .long (lI hi), .long (lI hB1)])), (mF, .inl (cJ, 20, .inr (.inl (zJ fF)))), (mG, .inl (cJ, 20, .inr (.inl (zJ fG)))), (mU, .inl (cJ, 20, .inr (.inl (zJ fU)))), (mV, .inl (cJ, 20, .inr (.inl (zJ fV)))), (ro, .inl (cJ, 1, .inr (.inl (zJ fo1))))] ++ pl) := pd_part hP3a hD3a [0, 1, 2, 3, 4, 5, 11, 6, 7, 8, 9, 10] (by decide +kernel) rfl
            refine wz_topi (show iI zt = iI th2m by rw [ht9]) ?_
            refine lv_iload hx hb dL_law_1077 (lv_at hl 1 rfl) ?_
            refine wz_topi (show iI z5 = iI th2m by rw [eth]) ?_
            refine lv_icmp_eq (tgt := 1084) hx hb dL_law_1079 (by decide) (fun _ => ?_) (fun q => absurd rfl q)
            refine lv_iload hx hb dL_law_1084 (lv_at hl 1 rfl) ?_
            refine wz_if_ne (tgt := 1100) hx hb dL_law_1086 (by decide) ⟨by omega, by omega⟩ (fun _ => ?_) (fun q => (by exfalso; omega))
            refine lv_goto (tgt := 1103) hx hb dL_law_1100 (by decide) ?_
            refine W.widen (k := cells + 3) (n := slots + 18) (by omega) (by omega) ?_
            exact K hP3 hD3 hS (lv_sub hl [2, 3, 4, 5, 6] rfl) hTA hTB hTC hTE hRG hBY hRD hSP
          · skip
            exfalso; omega
      · skip
        obtain ⟨zc, u⟩ := v
        obtain ⟨e5, hc⟩ := hw
        subst e5
        try dsimp only at hc
        obtain ⟨hP1, hD1⟩ : va_P D vwCl ([(hd, .inr (6, [.ref rT, .ref rH, .ref rG, .ref rD, .ref rF])), (rF, .inr (3, [.ref b1, .ref b2, .ref e1, .ref e2, .int (iI m1), .long (lI ff), .long (lI fs), .long (lI tf), .long (lI ts)])), (b1, .inl (cJ, 20, .inr (.inl (zJ bF)))), (b2, .inl (cJ, 20, .inr (.inl (zJ bS)))), (e1, .inl (cJ, 20, .inr (.inl (zJ eF)))), (e2, .inl (cJ, 20, .inr (.inl (zJ eS)))), (hm, .inr (7, [.int (iI th), .ref mS, .ref mM, .ref mB, .ref mT, .ref mX, .ref mY, .ref mL, .int (iI sz1), .ref mR, .int (iI at2), .long (lI nu), .ref mt, .ref mx, .ref my, .int (iI fo), .ref mF, .ref mG, .ref mU, .ref mV, .long (lI lo), .long (lI lB), .long (lI hi), .long (lI hB1)])), (mF, .inl (cJ, 20, .inr (.inl (zJ fF)))), (mG, .inl (cJ, 20, .inr (.inl (zJ fG)))), (mU, .inl (cJ, 20, .inr (.inl (zJ fU)))), (mV, .inl (cJ, 20, .inr (.inl (zJ fV)))), (ro, .inl (cJ, 1, .inr (.inl (zJ (uZ fo1 0 zc)))))] ++ pl) H ∧ va_D A ([(hd, .inr (6, [.ref rT, .ref rH, .ref rG, .ref rD, .ref rF])), (rF, .inr (3, [.ref b1, .ref b2, .ref e1, .ref e2, .int (iI m1), .long (lI ff), .long (lI fs), .long (lI tf), .long (lI ts)])), (b1, .inl (cJ, 20, .inr (.inl (zJ bF)))), (b2, .inl (cJ, 20, .inr (.inl (zJ bS)))), (e1, .inl (cJ, 20, .inr (.inl (zJ eF)))), (e2, .inl (cJ, 20, .inr (.inl (zJ eS)))), (hm, .inr (7, [.int (iI th), .ref mS, .ref mM, .ref mB, .ref mT, .ref mX, .ref mY, .ref mL, .int (iI sz1), .ref mR, .int (iI at2), .long (lI nu), .ref mt, .ref mx, .ref my, .int (iI fo), .ref mF, .ref mG, .ref mU, .ref mV, .long (lI lo), .long (lI lB), .long (lI hi), .long (lI hB1)])), (mF, .inl (cJ, 20, .inr (.inl (zJ fF)))), (mG, .inl (cJ, 20, .inr (.inl (zJ fG)))), (mU, .inl (cJ, 20, .inr (.inl (zJ fU)))), (mV, .inl (cJ, 20, .inr (.inl (zJ fV)))), (ro, .inl (cJ, 1, .inr (.inl (zJ (uZ fo1 0 zc)))))] ++ pl) := pd_part hPa hDa [5, 6, 7, 8, 9, 10, 0, 1, 2, 3, 4, 11] (by decide +kernel) rfl
        refine lv_istore (lv' := [(5, .int (iI 0)), (0, .ref b), (1, .ref hd), (2, .ref hm), (3, .ref ro), (4, .int (iI i))]) hx hb dL_law_1031 hl (by decide) rfl (fun ls hl => ?_)
        refine lv_aload_n hx hb dL_law_1033 rfl (lv_at hl 3 rfl) ?_
        refine lv_aload_n hx hb dL_law_1034 rfl (lv_at hl 1 rfl) ?_
        refine lv_iload hx hb dL_law_1035 (lv_at hl 5 rfl) ?_
        refine lv_iconst (v := iI 1) hx hb dL_law_1037 rfl ?_
        refine wz_iadd hx hb dL_law_1038 ?_
        refine wz_sld hx hb hX hbl hbA hS hL ⟨by omega, by omega⟩ dL_law_1039 ?_
        refine wz_topi (show iI (sX xs (i + 1)) = iI v1 by rw [hv1]) ?_
        refine lv_aload_n hx hb dL_law_1040 rfl (lv_at hl 1 rfl) ?_
        refine lv_iload hx hb dL_law_1041 (lv_at hl 5 rfl) ?_
        refine lv_iconst (v := iI 2) hx hb dL_law_1043 rfl ?_
        refine wz_iadd hx hb dL_law_1044 ?_
        refine wz_sld hx hb hX hbl hbA hS hL ⟨by omega, by omega⟩ dL_law_1045 ?_
        refine wz_topi (show iI (sX xs (i + 2)) = iI v2 by rw [hv2]) ?_
        refine wz_if_eq (tgt := 1053) hx hb dL_law_1046 (by decide) (rv2) (fun c1046 => ?_) (fun c1046 => ?_)
        · skip
          exfalso; omega
        · skip
          refine lv_iconst (v := iI 1) hx hb dL_law_1049 rfl ?_
          refine lv_goto (tgt := 1054) hx hb dL_law_1050 (by decide) ?_
          refine lv_aload_n hx hb dL_law_1054 rfl (lv_at hl 1 rfl) ?_
          refine lv_iload hx hb dL_law_1055 (lv_at hl 5 rfl) ?_
          refine lv_iconst (v := iI 3) hx hb dL_law_1057 rfl ?_
          refine wz_iadd hx hb dL_law_1058 ?_
          refine wz_sld hx hb hX hbl hbA hS hL ⟨by omega, by omega⟩ dL_law_1059 ?_
          refine wz_topi (show iI (sX xs (i + 3)) = iI v3 by rw [hv3]) ?_
          refine wz_if_eq (tgt := 1067) hx hb dL_law_1060 (by decide) (rv3) (fun c1060 => ?_) (fun c1060 => ?_)
          · skip
            refine lv_iconst (v := iI 0) hx hb dL_law_1067 rfl ?_
            refine wz_qcalll (wr := [(hd, .inr (6, [.ref rT, .ref rH, .ref rG, .ref rD, .ref rF])), (rF, .inr (3, [.ref b1, .ref b2, .ref e1, .ref e2, .int (iI m1), .long (lI ff), .long (lI fs), .long (lI tf), .long (lI ts)])), (b1, .inl (cJ, 20, .inr (.inl (zJ bF)))), (b2, .inl (cJ, 20, .inr (.inl (zJ bS)))), (e1, .inl (cJ, 20, .inr (.inl (zJ eF)))), (e2, .inl (cJ, 20, .inr (.inl (zJ eS)))), (ro, .inl (cJ, 1, .inr (.inl (zJ (uZ fo1 0 zc)))))]) (va_runV (As := [.int (iI v1), .int (iI 1), .int (iI 0)]) (rest := []) ⟨hx, hb, hml, hown, hts⟩ (k_X7_span l D cI cJ cT H.size hm th mS mM mB mT mX mY mL sz1 mR at2 nu mt mx my fo mF mG mU mV lo lB hi hB1 fF fG fU fV v1 1 0 hSP.2.2.1 rv1 (by decide) (by decide)) (cwV 3 hts gL_law_X7_span rfl rfl rfl (by decide +kernel) ⟨Nat.le_of_ble_eq_true rfl, Nat.le_of_ble_eq_true rfl⟩) (wz_preV hK (vP_l hP1) (vD_l hD1) [6, 7, 8, 9, 10] (by decide) rfl rfl 7 6 rfl rfl) rfl rfl hl.1 rfl (lv_room (Nat.le_of_ble_eq_true rfl)) dL_law_1068 ⟨by have := hrm.1; omega, by have := hrm.2; omega⟩) hP1 hD1 hS hA [6, 7, 8, 9, 10] [0, 1, 2, 3, 4, 5, 11] rfl rfl rfl (by decide) (fun zb u H locs hw hP2a hD2a hS => ?_)
            obtain ⟨th2m, rfl⟩ : ∃ w, w = u := ⟨_, rfl⟩
            try dsimp only at hw
            obtain ⟨hP2, hD2⟩ : va_P D vwCl ([(hd, .inr (6, [.ref rT, .ref rH, .ref rG, .ref rD, .ref rF])), (rF, .inr (3, [.ref b1, .ref b2, .ref e1, .ref e2, .int (iI m1), .long (lI ff), .long (lI fs), .long (lI tf), .long (lI ts)])), (b1, .inl (cJ, 20, .inr (.inl (zJ bF)))), (b2, .inl (cJ, 20, .inr (.inl (zJ bS)))), (e1, .inl (cJ, 20, .inr (.inl (zJ eF)))), (e2, .inl (cJ, 20, .inr (.inl (zJ eS)))), (hm, .inr (7, [.int (iI th2m), .ref mS, .ref mM, .ref mB, .ref mT, .ref mX, .ref mY, .ref mL, .int (iI sz1), .ref mR, .int (iI at2), .long (lI nu), .ref mt, .ref mx, .ref my, .int (iI fo), .ref mF, .ref mG, .ref mU, .ref mV, .long (lI lo), .long (lI lB), .long (lI hi), .long (lI hB1)])), (mF, .inl (cJ, 20, .inr (.inl (zJ fF)))), (mG, .inl (cJ, 20, .inr (.inl (zJ fG)))), (mU, .inl (cJ, 20, .inr (.inl (zJ fU)))), (mV, .inl (cJ, 20, .inr (.inl (zJ fV)))), (ro, .inl (cJ, 1, .inr (.inl (zJ (uZ fo1 0 zc)))))] ++ pl) H ∧ va_D A ([(hd, .inr (6, [.ref rT, .ref rH, .ref rG, .ref rD, .ref rF])), (rF, .inr (3, [.ref b1, .ref b2, .ref e1, .ref e2, .int (iI m1), .long (lI ff), .long (lI fs), .long (lI tf), .long (lI ts)])), (b1, .inl (cJ, 20, .inr (.inl (zJ bF)))), (b2, .inl (cJ, 20, .inr (.inl (zJ bS)))), (e1, .inl (cJ, 20, .inr (.inl (zJ eF)))), (e2, .inl (cJ, 20, .inr (.inl (zJ eS)))), (hm, .inr (7, [.int (iI th2m), .ref mS, .ref mM, .ref mB, .ref mT, .ref mX, .ref mY, .ref mL, .int (iI sz1), .ref mR, .int (iI at2), .long (lI nu), .ref mt, .ref mx, .ref my, .int (iI fo), .ref mF, .ref mG, .ref mU, .ref mV, .long (lI lo), .long (lI lB), .long (lI hi), .long (lI hB1)])), (mF, .inl (cJ, 20, .inr (.inl (zJ fF)))), (mG, .inl (cJ, 20, .inr (.inl (zJ fG)))), (mU, .inl (cJ, 20, .inr (.inl (zJ fU)))), (mV, .inl (cJ, 20, .inr (.inl (zJ fV)))), (ro, .inl (cJ, 1, .inr (.inl (zJ (uZ fo1 0 zc)))))] ++ pl) := pd_part hP2a hD2a [0, 1, 2, 3, 4, 5, 7, 8, 9, 10, 11, 6] (by decide +kernel) rfl
            obtain ⟨eth, ezb⟩ := t_span_r hSP hc hw
            refine lv_lstore (lv' := [(6, .long (lI zb)), (5, .int (iI 0)), (0, .ref b), (1, .ref hd), (2, .ref hm), (3, .ref ro), (4, .int (iI i))]) hx hb dL_law_1071 hl (by decide) rfl (fun ls hl => ?_)
            refine lv_aload_n hx hb dL_law_1073 rfl (lv_at hl 4 rfl) ?_
            refine wz_qcalli (wr := [(hd, .inr (6, [.ref rT, .ref rH, .ref rG, .ref rD, .ref rF])), (rF, .inr (3, [.ref b1, .ref b2, .ref e1, .ref e2, .int (iI m1), .long (lI ff), .long (lI fs), .long (lI tf), .long (lI ts)])), (b1, .inl (cJ, 20, .inr (.inl (zJ bF)))), (b2, .inl (cJ, 20, .inr (.inl (zJ bS)))), (e1, .inl (cJ, 20, .inr (.inl (zJ eF)))), (e2, .inl (cJ, 20, .inr (.inl (zJ eS)))), (mF, .inl (cJ, 20, .inr (.inl (zJ fF)))), (mG, .inl (cJ, 20, .inr (.inl (zJ fG)))), (mU, .inl (cJ, 20, .inr (.inl (zJ fU)))), (mV, .inl (cJ, 20, .inr (.inl (zJ fV)))), (ro, .inl (cJ, 1, .inr (.inl (zJ (uZ fo1 0 zc)))))]) (va_runV (As := []) (rest := []) ⟨hx, hb, hml, hown, hts⟩ (k_X7_thrown l D cI cJ cT H.size hm th2m mS mM mB mT mX mY mL sz1 mR at2 nu mt mx my fo mF mG mU mV lo lB hi hB1 ) (cwV 0 hts gL_law_X7_thrown rfl rfl rfl (by decide +kernel) ⟨Nat.le_of_ble_eq_true rfl, Nat.le_of_ble_eq_true rfl⟩) (wz_preV hK (vP_l hP2) (vD_l hD2) [6] (by decide) rfl rfl 7 6 rfl rfl) rfl rfl hl.1 rfl (lv_room (Nat.le_of_ble_eq_true rfl)) dL_law_1074 ⟨by have := hrm.1; omega, by have := hrm.2; omega⟩) hP2 hD2 hS hA [6] [0, 1, 2, 3, 4, 5, 7, 8, 9, 10, 11] rfl rfl rfl (by decide) (fun zt u H locs ht9 hP3a hD3a hS => ?_)
            try dsimp only at ht9
            obtain ⟨hP3, hD3⟩ : va_P D vwCl ([(hd, .inr (6, [.ref rT, .ref rH, .ref rG, .ref rD, .ref rF])), (rF, .inr (3, [.ref b1, .ref b2, .ref e1, .ref e2, .int (iI m1), .long (lI ff), .long (lI fs), .long (lI tf), .long (lI ts)])), (b1, .inl (cJ, 20, .inr (.inl (zJ bF)))), (b2, .inl (cJ, 20, .inr (.inl (zJ bS)))), (e1, .inl (cJ, 20, .inr (.inl (zJ eF)))), (e2, .inl (cJ, 20, .inr (.inl (zJ eS)))), (hm, .inr (7, [.int (iI th2m), .ref mS, .ref mM, .ref mB, .ref mT, .ref mX, .ref mY, .ref mL, .int (iI sz1), .ref mR, .int (iI at2), .long (lI nu), .ref mt, .ref mx, .ref my, .int (iI fo), .ref mF, .ref mG, .ref mU, .ref mV, .long (lI lo), .long (lI lB), .long (lI hi), .long (lI hB1)])), (mF, .inl (cJ, 20, .inr (.inl (zJ fF)))), (mG, .inl (cJ, 20, .inr (.inl (zJ fG)))), (mU, .inl (cJ, 20, .inr (.inl (zJ fU)))), (mV, .inl (cJ, 20, .inr (.inl (zJ fV)))), (ro, .inl (cJ, 1, .inr (.inl (zJ (uZ fo1 0 zc)))))] ++ pl) H ∧ va_D A ([(hd, .inr (6, [.ref rT, .ref rH, .ref rG, .ref rD, .ref rF])), (rF, .inr (3, [.ref b1, .ref b2, .ref e1, .ref e2, .int (iI m1), .long (lI ff), .long (lI fs), .long (lI tf), .long (lI ts)])), (b1, .inl (cJ, 20, .inr (.inl (zJ bF)))), (b2, .inl (cJ, 20, .inr (.inl (zJ bS)))), (e1, .inl (cJ, 20, .inr (.inl (zJ eF)))), (e2, .inl (cJ, 20, .inr (.inl (zJ eS)))), (hm, .inr (7, [.int (iI th2m), .ref mS, .ref mM, .ref mB, .ref mT, .ref mX, .ref mY, .ref mL, .int (iI sz1), .ref mR, .int (iI at2), .long (lI nu), .ref mt, .ref mx, .ref my, .int (iI fo), .ref mF, .ref mG, .ref mU, .ref mV, .long (lI lo), .long (lI lB), .long (lI hi), .long (lI hB1)])), (mF, .inl (cJ, 20, .inr (.inl (zJ fF)))), (mG, .inl (cJ, 20, .inr (.inl (zJ fG)))), (mU, .inl (cJ, 20, .inr (.inl (zJ fU)))), (mV, .inl (cJ, 20, .inr (.inl (zJ fV)))), (ro, .inl (cJ, 1, .inr (.inl (zJ (uZ fo1 0 zc)))))] ++ pl) := pd_part hP3a hD3a [0, 1, 2, 3, 4, 5, 11, 6, 7, 8, 9, 10] (by decide +kernel) rfl
            refine wz_topi (show iI zt = iI th2m by rw [ht9]) ?_
            refine lv_iload hx hb dL_law_1077 (lv_at hl 1 rfl) ?_
            refine wz_topi (show iI 0 = iI th2m by rw [eth]) ?_
            refine lv_icmp_eq (tgt := 1084) hx hb dL_law_1079 (by decide) (fun _ => ?_) (fun q => absurd rfl q)
            refine lv_iload hx hb dL_law_1084 (lv_at hl 1 rfl) ?_
            refine wz_if_ne (tgt := 1100) hx hb dL_law_1086 (by decide) (by decide) (fun q => absurd rfl q) (fun _ => ?_)
            refine lv_aload_n hx hb dL_law_1089 rfl (lv_at hl 5 rfl) ?_
            refine lv_iconst (v := iI 0) hx hb dL_law_1090 rfl ?_
            refine wz_lald (tys := TY cI cJ cT) hx hb hK (vP_l hP3) 11 1 rfl rfl (by decide) (by decide) dL_law_1091 ?_
            refine wz_topl (y := lI zc) (by rw [uZ_s]) ?_
            refine lv_lload hx hb dL_law_1092 (lv_at hl 0 rfl) ?_
            refine wz_topl (show lI zb = lI zc by rw [ezb]) ?_
            refine W.lcmp hx hb dL_law_1094 ?_
            refine wz_lraw_eq (tgt := 1100) hx hb dL_law_1095 (by decide) (fun _ => ?_) (fun q => absurd rfl q)
            refine lv_goto (tgt := 1103) hx hb dL_law_1100 (by decide) ?_
            refine W.widen (k := cells + 3) (n := slots + 18) (by omega) (by omega) ?_
            exact K hP3 hD3 hS (lv_sub hl [2, 3, 4, 5, 6] rfl) hTA hTB hTC hTE hRG hBY hRD hSP
          · skip
            exfalso; omega
    · skip
      refine lv_iconst (v := iI 1) hx hb dL_law_1022 rfl ?_
      refine lv_goto (tgt := 1027) hx hb dL_law_1023 (by decide) ?_
      refine lv_aload_n hx hb dL_law_1027 rfl (lv_at hl 3 rfl) ?_
      refine wz_qhcalli (wr := [(hm, .inr (7, [.int (iI th), .ref mS, .ref mM, .ref mB, .ref mT, .ref mX, .ref mY, .ref mL, .int (iI sz1), .ref mR, .int (iI at2), .long (lI nu), .ref mt, .ref mx, .ref my, .int (iI fo), .ref mF, .ref mG, .ref mU, .ref mV, .long (lI lo), .long (lI lB), .long (lI hi), .long (lI hB1)])), (mF, .inl (cJ, 20, .inr (.inl (zJ fF)))), (mG, .inl (cJ, 20, .inr (.inl (zJ fG)))), (mU, .inl (cJ, 20, .inr (.inl (zJ fU)))), (mV, .inl (cJ, 20, .inr (.inl (zJ fV))))]) (vx_runSX (As := [.ref hd, .int (iI v1), .int (iI 1), .int (iI 1), .ref ro]) (rest := []) ⟨hx, hb, hml, hown, hts⟩ (k_L_span l hLt sa D cI cJ cT H.size hd rT rH rG rD rF b1 b2 e1 e2 m1 ff fs tf ts bF bS eF eS v1 1 1 ro fo1 hSP.2.1 rv1 (by decide) (by decide)) (vx_cwSW 5 hts gL_law_L_span rfl rfl rfl (by decide +kernel) ⟨Nat.le_of_ble_eq_true rfl, Nat.le_of_ble_eq_true rfl⟩) (wz_preSy hK (vP_l hP) (vD_l hD) hTV hThC hTH hS hA [0, 1, 2, 3, 4, 5, 11] (by decide) rfl rfl) rfl rfl hl.1 rfl (lv_room (Nat.le_of_ble_eq_true rfl)) dL_law_1028 ⟨by have := hrm.1; omega, by have := hrm.2; omega⟩) hP hD hS hA [0, 1, 2, 3, 4, 5, 11] [6, 7, 8, 9, 10] rfl rfl rfl (by decide) (fun z5 v H locs hw hPa hDa hS => ?_)
      rcases v with k5 | v
      · skip
        obtain ⟨e5, hk⟩ := hw
        subst e5
        obtain ⟨hP1, hD1⟩ : va_P D vwCl ([(hd, .inr (6, [.ref rT, .ref rH, .ref rG, .ref rD, .ref rF])), (rF, .inr (3, [.ref b1, .ref b2, .ref e1, .ref e2, .int (iI m1), .long (lI ff), .long (lI fs), .long (lI tf), .long (lI ts)])), (b1, .inl (cJ, 20, .inr (.inl (zJ bF)))), (b2, .inl (cJ, 20, .inr (.inl (zJ bS)))), (e1, .inl (cJ, 20, .inr (.inl (zJ eF)))), (e2, .inl (cJ, 20, .inr (.inl (zJ eS)))), (hm, .inr (7, [.int (iI th), .ref mS, .ref mM, .ref mB, .ref mT, .ref mX, .ref mY, .ref mL, .int (iI sz1), .ref mR, .int (iI at2), .long (lI nu), .ref mt, .ref mx, .ref my, .int (iI fo), .ref mF, .ref mG, .ref mU, .ref mV, .long (lI lo), .long (lI lB), .long (lI hi), .long (lI hB1)])), (mF, .inl (cJ, 20, .inr (.inl (zJ fF)))), (mG, .inl (cJ, 20, .inr (.inl (zJ fG)))), (mU, .inl (cJ, 20, .inr (.inl (zJ fU)))), (mV, .inl (cJ, 20, .inr (.inl (zJ fV)))), (ro, .inl (cJ, 1, .inr (.inl (zJ fo1))))] ++ pl) H ∧ va_D A ([(hd, .inr (6, [.ref rT, .ref rH, .ref rG, .ref rD, .ref rF])), (rF, .inr (3, [.ref b1, .ref b2, .ref e1, .ref e2, .int (iI m1), .long (lI ff), .long (lI fs), .long (lI tf), .long (lI ts)])), (b1, .inl (cJ, 20, .inr (.inl (zJ bF)))), (b2, .inl (cJ, 20, .inr (.inl (zJ bS)))), (e1, .inl (cJ, 20, .inr (.inl (zJ eF)))), (e2, .inl (cJ, 20, .inr (.inl (zJ eS)))), (hm, .inr (7, [.int (iI th), .ref mS, .ref mM, .ref mB, .ref mT, .ref mX, .ref mY, .ref mL, .int (iI sz1), .ref mR, .int (iI at2), .long (lI nu), .ref mt, .ref mx, .ref my, .int (iI fo), .ref mF, .ref mG, .ref mU, .ref mV, .long (lI lo), .long (lI lB), .long (lI hi), .long (lI hB1)])), (mF, .inl (cJ, 20, .inr (.inl (zJ fF)))), (mG, .inl (cJ, 20, .inr (.inl (zJ fG)))), (mU, .inl (cJ, 20, .inr (.inl (zJ fU)))), (mV, .inl (cJ, 20, .inr (.inl (zJ fV)))), (ro, .inl (cJ, 1, .inr (.inl (zJ fo1))))] ++ pl) := pd_part hPa hDa [5, 6, 7, 8, 9, 10, 0, 1, 2, 3, 4, 11] (by decide +kernel) rfl
        obtain ⟨k51, k52⟩ : 1 ≤ z5 ∧ z5 ≤ 3 := by rcases hk with ⟨q, -⟩ | ⟨q, -⟩ | ⟨q, -⟩ <;> omega
        refine lv_istore (lv' := [(5, .int (iI z5)), (0, .ref b), (1, .ref hd), (2, .ref hm), (3, .ref ro), (4, .int (iI i))]) hx hb dL_law_1031 hl (by decide) rfl (fun ls hl => ?_)
        refine lv_aload_n hx hb dL_law_1033 rfl (lv_at hl 3 rfl) ?_
        refine lv_aload_n hx hb dL_law_1034 rfl (lv_at hl 1 rfl) ?_
        refine lv_iload hx hb dL_law_1035 (lv_at hl 5 rfl) ?_
        refine lv_iconst (v := iI 1) hx hb dL_law_1037 rfl ?_
        refine wz_iadd hx hb dL_law_1038 ?_
        refine wz_sld hx hb hX hbl hbA hS hL ⟨by omega, by omega⟩ dL_law_1039 ?_
        refine wz_topi (show iI (sX xs (i + 1)) = iI v1 by rw [hv1]) ?_
        refine lv_aload_n hx hb dL_law_1040 rfl (lv_at hl 1 rfl) ?_
        refine lv_iload hx hb dL_law_1041 (lv_at hl 5 rfl) ?_
        refine lv_iconst (v := iI 2) hx hb dL_law_1043 rfl ?_
        refine wz_iadd hx hb dL_law_1044 ?_
        refine wz_sld hx hb hX hbl hbA hS hL ⟨by omega, by omega⟩ dL_law_1045 ?_
        refine wz_topi (show iI (sX xs (i + 2)) = iI v2 by rw [hv2]) ?_
        refine wz_if_eq (tgt := 1053) hx hb dL_law_1046 (by decide) (rv2) (fun c1046 => ?_) (fun c1046 => ?_)
        · skip
          exfalso; omega
        · skip
          refine lv_iconst (v := iI 1) hx hb dL_law_1049 rfl ?_
          refine lv_goto (tgt := 1054) hx hb dL_law_1050 (by decide) ?_
          refine lv_aload_n hx hb dL_law_1054 rfl (lv_at hl 1 rfl) ?_
          refine lv_iload hx hb dL_law_1055 (lv_at hl 5 rfl) ?_
          refine lv_iconst (v := iI 3) hx hb dL_law_1057 rfl ?_
          refine wz_iadd hx hb dL_law_1058 ?_
          refine wz_sld hx hb hX hbl hbA hS hL ⟨by omega, by omega⟩ dL_law_1059 ?_
          refine wz_topi (show iI (sX xs (i + 3)) = iI v3 by rw [hv3]) ?_
          refine wz_if_eq (tgt := 1067) hx hb dL_law_1060 (by decide) (rv3) (fun c1060 => ?_) (fun c1060 => ?_)
          · skip
            exfalso; omega
          · skip
            refine lv_iconst (v := iI 1) hx hb dL_law_1063 rfl ?_
            refine lv_goto (tgt := 1068) hx hb dL_law_1064 (by decide) ?_
            refine wz_qcalll (wr := [(hd, .inr (6, [.ref rT, .ref rH, .ref rG, .ref rD, .ref rF])), (rF, .inr (3, [.ref b1, .ref b2, .ref e1, .ref e2, .int (iI m1), .long (lI ff), .long (lI fs), .long (lI tf), .long (lI ts)])), (b1, .inl (cJ, 20, .inr (.inl (zJ bF)))), (b2, .inl (cJ, 20, .inr (.inl (zJ bS)))), (e1, .inl (cJ, 20, .inr (.inl (zJ eF)))), (e2, .inl (cJ, 20, .inr (.inl (zJ eS)))), (ro, .inl (cJ, 1, .inr (.inl (zJ fo1))))]) (va_runV (As := [.int (iI v1), .int (iI 1), .int (iI 1)]) (rest := []) ⟨hx, hb, hml, hown, hts⟩ (k_X7_span l D cI cJ cT H.size hm th mS mM mB mT mX mY mL sz1 mR at2 nu mt mx my fo mF mG mU mV lo lB hi hB1 fF fG fU fV v1 1 1 hSP.2.2.1 rv1 (by decide) (by decide)) (cwV 3 hts gL_law_X7_span rfl rfl rfl (by decide +kernel) ⟨Nat.le_of_ble_eq_true rfl, Nat.le_of_ble_eq_true rfl⟩) (wz_preV hK (vP_l hP1) (vD_l hD1) [6, 7, 8, 9, 10] (by decide) rfl rfl 7 6 rfl rfl) rfl rfl hl.1 rfl (lv_room (Nat.le_of_ble_eq_true rfl)) dL_law_1068 ⟨by have := hrm.1; omega, by have := hrm.2; omega⟩) hP1 hD1 hS hA [6, 7, 8, 9, 10] [0, 1, 2, 3, 4, 5, 11] rfl rfl rfl (by decide) (fun zb u H locs hw hP2a hD2a hS => ?_)
            obtain ⟨th2m, rfl⟩ : ∃ w, w = u := ⟨_, rfl⟩
            try dsimp only at hw
            obtain ⟨hP2, hD2⟩ : va_P D vwCl ([(hd, .inr (6, [.ref rT, .ref rH, .ref rG, .ref rD, .ref rF])), (rF, .inr (3, [.ref b1, .ref b2, .ref e1, .ref e2, .int (iI m1), .long (lI ff), .long (lI fs), .long (lI tf), .long (lI ts)])), (b1, .inl (cJ, 20, .inr (.inl (zJ bF)))), (b2, .inl (cJ, 20, .inr (.inl (zJ bS)))), (e1, .inl (cJ, 20, .inr (.inl (zJ eF)))), (e2, .inl (cJ, 20, .inr (.inl (zJ eS)))), (hm, .inr (7, [.int (iI th2m), .ref mS, .ref mM, .ref mB, .ref mT, .ref mX, .ref mY, .ref mL, .int (iI sz1), .ref mR, .int (iI at2), .long (lI nu), .ref mt, .ref mx, .ref my, .int (iI fo), .ref mF, .ref mG, .ref mU, .ref mV, .long (lI lo), .long (lI lB), .long (lI hi), .long (lI hB1)])), (mF, .inl (cJ, 20, .inr (.inl (zJ fF)))), (mG, .inl (cJ, 20, .inr (.inl (zJ fG)))), (mU, .inl (cJ, 20, .inr (.inl (zJ fU)))), (mV, .inl (cJ, 20, .inr (.inl (zJ fV)))), (ro, .inl (cJ, 1, .inr (.inl (zJ fo1))))] ++ pl) H ∧ va_D A ([(hd, .inr (6, [.ref rT, .ref rH, .ref rG, .ref rD, .ref rF])), (rF, .inr (3, [.ref b1, .ref b2, .ref e1, .ref e2, .int (iI m1), .long (lI ff), .long (lI fs), .long (lI tf), .long (lI ts)])), (b1, .inl (cJ, 20, .inr (.inl (zJ bF)))), (b2, .inl (cJ, 20, .inr (.inl (zJ bS)))), (e1, .inl (cJ, 20, .inr (.inl (zJ eF)))), (e2, .inl (cJ, 20, .inr (.inl (zJ eS)))), (hm, .inr (7, [.int (iI th2m), .ref mS, .ref mM, .ref mB, .ref mT, .ref mX, .ref mY, .ref mL, .int (iI sz1), .ref mR, .int (iI at2), .long (lI nu), .ref mt, .ref mx, .ref my, .int (iI fo), .ref mF, .ref mG, .ref mU, .ref mV, .long (lI lo), .long (lI lB), .long (lI hi), .long (lI hB1)])), (mF, .inl (cJ, 20, .inr (.inl (zJ fF)))), (mG, .inl (cJ, 20, .inr (.inl (zJ fG)))), (mU, .inl (cJ, 20, .inr (.inl (zJ fU)))), (mV, .inl (cJ, 20, .inr (.inl (zJ fV)))), (ro, .inl (cJ, 1, .inr (.inl (zJ fo1))))] ++ pl) := pd_part hP2a hD2a [0, 1, 2, 3, 4, 5, 7, 8, 9, 10, 11, 6] (by decide +kernel) rfl
            have eth := t_span_x hSP hk hw
            refine lv_lstore (lv' := [(6, .long (lI zb)), (5, .int (iI z5)), (0, .ref b), (1, .ref hd), (2, .ref hm), (3, .ref ro), (4, .int (iI i))]) hx hb dL_law_1071 hl (by decide) rfl (fun ls hl => ?_)
            refine lv_aload_n hx hb dL_law_1073 rfl (lv_at hl 4 rfl) ?_
            refine wz_qcalli (wr := [(hd, .inr (6, [.ref rT, .ref rH, .ref rG, .ref rD, .ref rF])), (rF, .inr (3, [.ref b1, .ref b2, .ref e1, .ref e2, .int (iI m1), .long (lI ff), .long (lI fs), .long (lI tf), .long (lI ts)])), (b1, .inl (cJ, 20, .inr (.inl (zJ bF)))), (b2, .inl (cJ, 20, .inr (.inl (zJ bS)))), (e1, .inl (cJ, 20, .inr (.inl (zJ eF)))), (e2, .inl (cJ, 20, .inr (.inl (zJ eS)))), (mF, .inl (cJ, 20, .inr (.inl (zJ fF)))), (mG, .inl (cJ, 20, .inr (.inl (zJ fG)))), (mU, .inl (cJ, 20, .inr (.inl (zJ fU)))), (mV, .inl (cJ, 20, .inr (.inl (zJ fV)))), (ro, .inl (cJ, 1, .inr (.inl (zJ fo1))))]) (va_runV (As := []) (rest := []) ⟨hx, hb, hml, hown, hts⟩ (k_X7_thrown l D cI cJ cT H.size hm th2m mS mM mB mT mX mY mL sz1 mR at2 nu mt mx my fo mF mG mU mV lo lB hi hB1 ) (cwV 0 hts gL_law_X7_thrown rfl rfl rfl (by decide +kernel) ⟨Nat.le_of_ble_eq_true rfl, Nat.le_of_ble_eq_true rfl⟩) (wz_preV hK (vP_l hP2) (vD_l hD2) [6] (by decide) rfl rfl 7 6 rfl rfl) rfl rfl hl.1 rfl (lv_room (Nat.le_of_ble_eq_true rfl)) dL_law_1074 ⟨by have := hrm.1; omega, by have := hrm.2; omega⟩) hP2 hD2 hS hA [6] [0, 1, 2, 3, 4, 5, 7, 8, 9, 10, 11] rfl rfl rfl (by decide) (fun zt u H locs ht9 hP3a hD3a hS => ?_)
            try dsimp only at ht9
            obtain ⟨hP3, hD3⟩ : va_P D vwCl ([(hd, .inr (6, [.ref rT, .ref rH, .ref rG, .ref rD, .ref rF])), (rF, .inr (3, [.ref b1, .ref b2, .ref e1, .ref e2, .int (iI m1), .long (lI ff), .long (lI fs), .long (lI tf), .long (lI ts)])), (b1, .inl (cJ, 20, .inr (.inl (zJ bF)))), (b2, .inl (cJ, 20, .inr (.inl (zJ bS)))), (e1, .inl (cJ, 20, .inr (.inl (zJ eF)))), (e2, .inl (cJ, 20, .inr (.inl (zJ eS)))), (hm, .inr (7, [.int (iI th2m), .ref mS, .ref mM, .ref mB, .ref mT, .ref mX, .ref mY, .ref mL, .int (iI sz1), .ref mR, .int (iI at2), .long (lI nu), .ref mt, .ref mx, .ref my, .int (iI fo), .ref mF, .ref mG, .ref mU, .ref mV, .long (lI lo), .long (lI lB), .long (lI hi), .long (lI hB1)])), (mF, .inl (cJ, 20, .inr (.inl (zJ fF)))), (mG, .inl (cJ, 20, .inr (.inl (zJ fG)))), (mU, .inl (cJ, 20, .inr (.inl (zJ fU)))), (mV, .inl (cJ, 20, .inr (.inl (zJ fV)))), (ro, .inl (cJ, 1, .inr (.inl (zJ fo1))))] ++ pl) H ∧ va_D A ([(hd, .inr (6, [.ref rT, .ref rH, .ref rG, .ref rD, .ref rF])), (rF, .inr (3, [.ref b1, .ref b2, .ref e1, .ref e2, .int (iI m1), .long (lI ff), .long (lI fs), .long (lI tf), .long (lI ts)])), (b1, .inl (cJ, 20, .inr (.inl (zJ bF)))), (b2, .inl (cJ, 20, .inr (.inl (zJ bS)))), (e1, .inl (cJ, 20, .inr (.inl (zJ eF)))), (e2, .inl (cJ, 20, .inr (.inl (zJ eS)))), (hm, .inr (7, [.int (iI th2m), .ref mS, .ref mM, .ref mB, .ref mT, .ref mX, .ref mY, .ref mL, .int (iI sz1), .ref mR, .int (iI at2), .long (lI nu), .ref mt, .ref mx, .ref my, .int (iI fo), .ref mF, .ref mG, .ref mU, .ref mV, .long (lI lo), .long (lI lB), .long (lI hi), .long (lI hB1)])), (mF, .inl (cJ, 20, .inr (.inl (zJ fF)))), (mG, .inl (cJ, 20, .inr (.inl (zJ fG)))), (mU, .inl (cJ, 20, .inr (.inl (zJ fU)))), (mV, .inl (cJ, 20, .inr (.inl (zJ fV)))), (ro, .inl (cJ, 1, .inr (.inl (zJ fo1))))] ++ pl) := pd_part hP3a hD3a [0, 1, 2, 3, 4, 5, 11, 6, 7, 8, 9, 10] (by decide +kernel) rfl
            refine wz_topi (show iI zt = iI th2m by rw [ht9]) ?_
            refine lv_iload hx hb dL_law_1077 (lv_at hl 1 rfl) ?_
            refine wz_topi (show iI z5 = iI th2m by rw [eth]) ?_
            refine lv_icmp_eq (tgt := 1084) hx hb dL_law_1079 (by decide) (fun _ => ?_) (fun q => absurd rfl q)
            refine lv_iload hx hb dL_law_1084 (lv_at hl 1 rfl) ?_
            refine wz_if_ne (tgt := 1100) hx hb dL_law_1086 (by decide) ⟨by omega, by omega⟩ (fun _ => ?_) (fun q => (by exfalso; omega))
            refine lv_goto (tgt := 1103) hx hb dL_law_1100 (by decide) ?_
            refine W.widen (k := cells + 3) (n := slots + 18) (by omega) (by omega) ?_
            exact K hP3 hD3 hS (lv_sub hl [2, 3, 4, 5, 6] rfl) hTA hTB hTC hTE hRG hBY hRD hSP
      · skip
        obtain ⟨zc, u⟩ := v
        obtain ⟨e5, hc⟩ := hw
        subst e5
        try dsimp only at hc
        obtain ⟨hP1, hD1⟩ : va_P D vwCl ([(hd, .inr (6, [.ref rT, .ref rH, .ref rG, .ref rD, .ref rF])), (rF, .inr (3, [.ref b1, .ref b2, .ref e1, .ref e2, .int (iI m1), .long (lI ff), .long (lI fs), .long (lI tf), .long (lI ts)])), (b1, .inl (cJ, 20, .inr (.inl (zJ bF)))), (b2, .inl (cJ, 20, .inr (.inl (zJ bS)))), (e1, .inl (cJ, 20, .inr (.inl (zJ eF)))), (e2, .inl (cJ, 20, .inr (.inl (zJ eS)))), (hm, .inr (7, [.int (iI th), .ref mS, .ref mM, .ref mB, .ref mT, .ref mX, .ref mY, .ref mL, .int (iI sz1), .ref mR, .int (iI at2), .long (lI nu), .ref mt, .ref mx, .ref my, .int (iI fo), .ref mF, .ref mG, .ref mU, .ref mV, .long (lI lo), .long (lI lB), .long (lI hi), .long (lI hB1)])), (mF, .inl (cJ, 20, .inr (.inl (zJ fF)))), (mG, .inl (cJ, 20, .inr (.inl (zJ fG)))), (mU, .inl (cJ, 20, .inr (.inl (zJ fU)))), (mV, .inl (cJ, 20, .inr (.inl (zJ fV)))), (ro, .inl (cJ, 1, .inr (.inl (zJ (uZ fo1 0 zc)))))] ++ pl) H ∧ va_D A ([(hd, .inr (6, [.ref rT, .ref rH, .ref rG, .ref rD, .ref rF])), (rF, .inr (3, [.ref b1, .ref b2, .ref e1, .ref e2, .int (iI m1), .long (lI ff), .long (lI fs), .long (lI tf), .long (lI ts)])), (b1, .inl (cJ, 20, .inr (.inl (zJ bF)))), (b2, .inl (cJ, 20, .inr (.inl (zJ bS)))), (e1, .inl (cJ, 20, .inr (.inl (zJ eF)))), (e2, .inl (cJ, 20, .inr (.inl (zJ eS)))), (hm, .inr (7, [.int (iI th), .ref mS, .ref mM, .ref mB, .ref mT, .ref mX, .ref mY, .ref mL, .int (iI sz1), .ref mR, .int (iI at2), .long (lI nu), .ref mt, .ref mx, .ref my, .int (iI fo), .ref mF, .ref mG, .ref mU, .ref mV, .long (lI lo), .long (lI lB), .long (lI hi), .long (lI hB1)])), (mF, .inl (cJ, 20, .inr (.inl (zJ fF)))), (mG, .inl (cJ, 20, .inr (.inl (zJ fG)))), (mU, .inl (cJ, 20, .inr (.inl (zJ fU)))), (mV, .inl (cJ, 20, .inr (.inl (zJ fV)))), (ro, .inl (cJ, 1, .inr (.inl (zJ (uZ fo1 0 zc)))))] ++ pl) := pd_part hPa hDa [5, 6, 7, 8, 9, 10, 0, 1, 2, 3, 4, 11] (by decide +kernel) rfl
        refine lv_istore (lv' := [(5, .int (iI 0)), (0, .ref b), (1, .ref hd), (2, .ref hm), (3, .ref ro), (4, .int (iI i))]) hx hb dL_law_1031 hl (by decide) rfl (fun ls hl => ?_)
        refine lv_aload_n hx hb dL_law_1033 rfl (lv_at hl 3 rfl) ?_
        refine lv_aload_n hx hb dL_law_1034 rfl (lv_at hl 1 rfl) ?_
        refine lv_iload hx hb dL_law_1035 (lv_at hl 5 rfl) ?_
        refine lv_iconst (v := iI 1) hx hb dL_law_1037 rfl ?_
        refine wz_iadd hx hb dL_law_1038 ?_
        refine wz_sld hx hb hX hbl hbA hS hL ⟨by omega, by omega⟩ dL_law_1039 ?_
        refine wz_topi (show iI (sX xs (i + 1)) = iI v1 by rw [hv1]) ?_
        refine lv_aload_n hx hb dL_law_1040 rfl (lv_at hl 1 rfl) ?_
        refine lv_iload hx hb dL_law_1041 (lv_at hl 5 rfl) ?_
        refine lv_iconst (v := iI 2) hx hb dL_law_1043 rfl ?_
        refine wz_iadd hx hb dL_law_1044 ?_
        refine wz_sld hx hb hX hbl hbA hS hL ⟨by omega, by omega⟩ dL_law_1045 ?_
        refine wz_topi (show iI (sX xs (i + 2)) = iI v2 by rw [hv2]) ?_
        refine wz_if_eq (tgt := 1053) hx hb dL_law_1046 (by decide) (rv2) (fun c1046 => ?_) (fun c1046 => ?_)
        · skip
          exfalso; omega
        · skip
          refine lv_iconst (v := iI 1) hx hb dL_law_1049 rfl ?_
          refine lv_goto (tgt := 1054) hx hb dL_law_1050 (by decide) ?_
          refine lv_aload_n hx hb dL_law_1054 rfl (lv_at hl 1 rfl) ?_
          refine lv_iload hx hb dL_law_1055 (lv_at hl 5 rfl) ?_
          refine lv_iconst (v := iI 3) hx hb dL_law_1057 rfl ?_
          refine wz_iadd hx hb dL_law_1058 ?_
          refine wz_sld hx hb hX hbl hbA hS hL ⟨by omega, by omega⟩ dL_law_1059 ?_
          refine wz_topi (show iI (sX xs (i + 3)) = iI v3 by rw [hv3]) ?_
          refine wz_if_eq (tgt := 1067) hx hb dL_law_1060 (by decide) (rv3) (fun c1060 => ?_) (fun c1060 => ?_)
          · skip
            exfalso; omega
          · skip
            refine lv_iconst (v := iI 1) hx hb dL_law_1063 rfl ?_
            refine lv_goto (tgt := 1068) hx hb dL_law_1064 (by decide) ?_
            refine wz_qcalll (wr := [(hd, .inr (6, [.ref rT, .ref rH, .ref rG, .ref rD, .ref rF])), (rF, .inr (3, [.ref b1, .ref b2, .ref e1, .ref e2, .int (iI m1), .long (lI ff), .long (lI fs), .long (lI tf), .long (lI ts)])), (b1, .inl (cJ, 20, .inr (.inl (zJ bF)))), (b2, .inl (cJ, 20, .inr (.inl (zJ bS)))), (e1, .inl (cJ, 20, .inr (.inl (zJ eF)))), (e2, .inl (cJ, 20, .inr (.inl (zJ eS)))), (ro, .inl (cJ, 1, .inr (.inl (zJ (uZ fo1 0 zc)))))]) (va_runV (As := [.int (iI v1), .int (iI 1), .int (iI 1)]) (rest := []) ⟨hx, hb, hml, hown, hts⟩ (k_X7_span l D cI cJ cT H.size hm th mS mM mB mT mX mY mL sz1 mR at2 nu mt mx my fo mF mG mU mV lo lB hi hB1 fF fG fU fV v1 1 1 hSP.2.2.1 rv1 (by decide) (by decide)) (cwV 3 hts gL_law_X7_span rfl rfl rfl (by decide +kernel) ⟨Nat.le_of_ble_eq_true rfl, Nat.le_of_ble_eq_true rfl⟩) (wz_preV hK (vP_l hP1) (vD_l hD1) [6, 7, 8, 9, 10] (by decide) rfl rfl 7 6 rfl rfl) rfl rfl hl.1 rfl (lv_room (Nat.le_of_ble_eq_true rfl)) dL_law_1068 ⟨by have := hrm.1; omega, by have := hrm.2; omega⟩) hP1 hD1 hS hA [6, 7, 8, 9, 10] [0, 1, 2, 3, 4, 5, 11] rfl rfl rfl (by decide) (fun zb u H locs hw hP2a hD2a hS => ?_)
            obtain ⟨th2m, rfl⟩ : ∃ w, w = u := ⟨_, rfl⟩
            try dsimp only at hw
            obtain ⟨hP2, hD2⟩ : va_P D vwCl ([(hd, .inr (6, [.ref rT, .ref rH, .ref rG, .ref rD, .ref rF])), (rF, .inr (3, [.ref b1, .ref b2, .ref e1, .ref e2, .int (iI m1), .long (lI ff), .long (lI fs), .long (lI tf), .long (lI ts)])), (b1, .inl (cJ, 20, .inr (.inl (zJ bF)))), (b2, .inl (cJ, 20, .inr (.inl (zJ bS)))), (e1, .inl (cJ, 20, .inr (.inl (zJ eF)))), (e2, .inl (cJ, 20, .inr (.inl (zJ eS)))), (hm, .inr (7, [.int (iI th2m), .ref mS, .ref mM, .ref mB, .ref mT, .ref mX, .ref mY, .ref mL, .int (iI sz1), .ref mR, .int (iI at2), .long (lI nu), .ref mt, .ref mx, .ref my, .int (iI fo), .ref mF, .ref mG, .ref mU, .ref mV, .long (lI lo), .long (lI lB), .long (lI hi), .long (lI hB1)])), (mF, .inl (cJ, 20, .inr (.inl (zJ fF)))), (mG, .inl (cJ, 20, .inr (.inl (zJ fG)))), (mU, .inl (cJ, 20, .inr (.inl (zJ fU)))), (mV, .inl (cJ, 20, .inr (.inl (zJ fV)))), (ro, .inl (cJ, 1, .inr (.inl (zJ (uZ fo1 0 zc)))))] ++ pl) H ∧ va_D A ([(hd, .inr (6, [.ref rT, .ref rH, .ref rG, .ref rD, .ref rF])), (rF, .inr (3, [.ref b1, .ref b2, .ref e1, .ref e2, .int (iI m1), .long (lI ff), .long (lI fs), .long (lI tf), .long (lI ts)])), (b1, .inl (cJ, 20, .inr (.inl (zJ bF)))), (b2, .inl (cJ, 20, .inr (.inl (zJ bS)))), (e1, .inl (cJ, 20, .inr (.inl (zJ eF)))), (e2, .inl (cJ, 20, .inr (.inl (zJ eS)))), (hm, .inr (7, [.int (iI th2m), .ref mS, .ref mM, .ref mB, .ref mT, .ref mX, .ref mY, .ref mL, .int (iI sz1), .ref mR, .int (iI at2), .long (lI nu), .ref mt, .ref mx, .ref my, .int (iI fo), .ref mF, .ref mG, .ref mU, .ref mV, .long (lI lo), .long (lI lB), .long (lI hi), .long (lI hB1)])), (mF, .inl (cJ, 20, .inr (.inl (zJ fF)))), (mG, .inl (cJ, 20, .inr (.inl (zJ fG)))), (mU, .inl (cJ, 20, .inr (.inl (zJ fU)))), (mV, .inl (cJ, 20, .inr (.inl (zJ fV)))), (ro, .inl (cJ, 1, .inr (.inl (zJ (uZ fo1 0 zc)))))] ++ pl) := pd_part hP2a hD2a [0, 1, 2, 3, 4, 5, 7, 8, 9, 10, 11, 6] (by decide +kernel) rfl
            obtain ⟨eth, ezb⟩ := t_span_r hSP hc hw
            refine lv_lstore (lv' := [(6, .long (lI zb)), (5, .int (iI 0)), (0, .ref b), (1, .ref hd), (2, .ref hm), (3, .ref ro), (4, .int (iI i))]) hx hb dL_law_1071 hl (by decide) rfl (fun ls hl => ?_)
            refine lv_aload_n hx hb dL_law_1073 rfl (lv_at hl 4 rfl) ?_
            refine wz_qcalli (wr := [(hd, .inr (6, [.ref rT, .ref rH, .ref rG, .ref rD, .ref rF])), (rF, .inr (3, [.ref b1, .ref b2, .ref e1, .ref e2, .int (iI m1), .long (lI ff), .long (lI fs), .long (lI tf), .long (lI ts)])), (b1, .inl (cJ, 20, .inr (.inl (zJ bF)))), (b2, .inl (cJ, 20, .inr (.inl (zJ bS)))), (e1, .inl (cJ, 20, .inr (.inl (zJ eF)))), (e2, .inl (cJ, 20, .inr (.inl (zJ eS)))), (mF, .inl (cJ, 20, .inr (.inl (zJ fF)))), (mG, .inl (cJ, 20, .inr (.inl (zJ fG)))), (mU, .inl (cJ, 20, .inr (.inl (zJ fU)))), (mV, .inl (cJ, 20, .inr (.inl (zJ fV)))), (ro, .inl (cJ, 1, .inr (.inl (zJ (uZ fo1 0 zc)))))]) (va_runV (As := []) (rest := []) ⟨hx, hb, hml, hown, hts⟩ (k_X7_thrown l D cI cJ cT H.size hm th2m mS mM mB mT mX mY mL sz1 mR at2 nu mt mx my fo mF mG mU mV lo lB hi hB1 ) (cwV 0 hts gL_law_X7_thrown rfl rfl rfl (by decide +kernel) ⟨Nat.le_of_ble_eq_true rfl, Nat.le_of_ble_eq_true rfl⟩) (wz_preV hK (vP_l hP2) (vD_l hD2) [6] (by decide) rfl rfl 7 6 rfl rfl) rfl rfl hl.1 rfl (lv_room (Nat.le_of_ble_eq_true rfl)) dL_law_1074 ⟨by have := hrm.1; omega, by have := hrm.2; omega⟩) hP2 hD2 hS hA [6] [0, 1, 2, 3, 4, 5, 7, 8, 9, 10, 11] rfl rfl rfl (by decide) (fun zt u H locs ht9 hP3a hD3a hS => ?_)
            try dsimp only at ht9
            obtain ⟨hP3, hD3⟩ : va_P D vwCl ([(hd, .inr (6, [.ref rT, .ref rH, .ref rG, .ref rD, .ref rF])), (rF, .inr (3, [.ref b1, .ref b2, .ref e1, .ref e2, .int (iI m1), .long (lI ff), .long (lI fs), .long (lI tf), .long (lI ts)])), (b1, .inl (cJ, 20, .inr (.inl (zJ bF)))), (b2, .inl (cJ, 20, .inr (.inl (zJ bS)))), (e1, .inl (cJ, 20, .inr (.inl (zJ eF)))), (e2, .inl (cJ, 20, .inr (.inl (zJ eS)))), (hm, .inr (7, [.int (iI th2m), .ref mS, .ref mM, .ref mB, .ref mT, .ref mX, .ref mY, .ref mL, .int (iI sz1), .ref mR, .int (iI at2), .long (lI nu), .ref mt, .ref mx, .ref my, .int (iI fo), .ref mF, .ref mG, .ref mU, .ref mV, .long (lI lo), .long (lI lB), .long (lI hi), .long (lI hB1)])), (mF, .inl (cJ, 20, .inr (.inl (zJ fF)))), (mG, .inl (cJ, 20, .inr (.inl (zJ fG)))), (mU, .inl (cJ, 20, .inr (.inl (zJ fU)))), (mV, .inl (cJ, 20, .inr (.inl (zJ fV)))), (ro, .inl (cJ, 1, .inr (.inl (zJ (uZ fo1 0 zc)))))] ++ pl) H ∧ va_D A ([(hd, .inr (6, [.ref rT, .ref rH, .ref rG, .ref rD, .ref rF])), (rF, .inr (3, [.ref b1, .ref b2, .ref e1, .ref e2, .int (iI m1), .long (lI ff), .long (lI fs), .long (lI tf), .long (lI ts)])), (b1, .inl (cJ, 20, .inr (.inl (zJ bF)))), (b2, .inl (cJ, 20, .inr (.inl (zJ bS)))), (e1, .inl (cJ, 20, .inr (.inl (zJ eF)))), (e2, .inl (cJ, 20, .inr (.inl (zJ eS)))), (hm, .inr (7, [.int (iI th2m), .ref mS, .ref mM, .ref mB, .ref mT, .ref mX, .ref mY, .ref mL, .int (iI sz1), .ref mR, .int (iI at2), .long (lI nu), .ref mt, .ref mx, .ref my, .int (iI fo), .ref mF, .ref mG, .ref mU, .ref mV, .long (lI lo), .long (lI lB), .long (lI hi), .long (lI hB1)])), (mF, .inl (cJ, 20, .inr (.inl (zJ fF)))), (mG, .inl (cJ, 20, .inr (.inl (zJ fG)))), (mU, .inl (cJ, 20, .inr (.inl (zJ fU)))), (mV, .inl (cJ, 20, .inr (.inl (zJ fV)))), (ro, .inl (cJ, 1, .inr (.inl (zJ (uZ fo1 0 zc)))))] ++ pl) := pd_part hP3a hD3a [0, 1, 2, 3, 4, 5, 11, 6, 7, 8, 9, 10] (by decide +kernel) rfl
            refine wz_topi (show iI zt = iI th2m by rw [ht9]) ?_
            refine lv_iload hx hb dL_law_1077 (lv_at hl 1 rfl) ?_
            refine wz_topi (show iI 0 = iI th2m by rw [eth]) ?_
            refine lv_icmp_eq (tgt := 1084) hx hb dL_law_1079 (by decide) (fun _ => ?_) (fun q => absurd rfl q)
            refine lv_iload hx hb dL_law_1084 (lv_at hl 1 rfl) ?_
            refine wz_if_ne (tgt := 1100) hx hb dL_law_1086 (by decide) (by decide) (fun q => absurd rfl q) (fun _ => ?_)
            refine lv_aload_n hx hb dL_law_1089 rfl (lv_at hl 5 rfl) ?_
            refine lv_iconst (v := iI 0) hx hb dL_law_1090 rfl ?_
            refine wz_lald (tys := TY cI cJ cT) hx hb hK (vP_l hP3) 11 1 rfl rfl (by decide) (by decide) dL_law_1091 ?_
            refine wz_topl (y := lI zc) (by rw [uZ_s]) ?_
            refine lv_lload hx hb dL_law_1092 (lv_at hl 0 rfl) ?_
            refine wz_topl (show lI zb = lI zc by rw [ezb]) ?_
            refine W.lcmp hx hb dL_law_1094 ?_
            refine wz_lraw_eq (tgt := 1100) hx hb dL_law_1095 (by decide) (fun _ => ?_) (fun q => absurd rfl q)
            refine lv_goto (tgt := 1103) hx hb dL_law_1100 (by decide) ?_
            refine W.widen (k := cells + 3) (n := slots + 18) (by omega) (by omega) ?_
            exact K hP3 hD3 hS (lv_sub hl [2, 3, 4, 5, 6] rfl) hTA hTB hTC hTE hRG hBY hRD hSP
end LC
