section LC
variable {p : Program} {l : Launch} {e : Env} {s : State} {m : MethodId} {below : List Frame} {meth : Method} {c : Code} {H : Heap} {locs : List Loc} {ls : Array Slot} {cells slots : Nat} {Q : State → Prop} {b L : Nat} {xs : Nat → Int32} {sa : Nat → Nat} {D : va_G} {cI cJ cT : ClassId} {A : Nat → Prop} {pl : va_W}
variable {hd rT rH rG rD rF q9 qb qq p1 p2 p3 b1 b2 e1 e2 kTA kWA kXA kYA kZA kTB kWB kXB kYB kZB kTC kWC kXC kYC kZC kTE kWE kXE kYE kZE hm mS mM mB mT mX mY mL mR mt mx my mF mG mU mV ro : Nat} {tr : Nat → Option Nat} {i ia ib ic ie nb at1 fa rn m1 ff fs tf ts sgA bdA nA sgB bdB nB sgC bdC nC sgE bdE nE th sz1 at2 nu fo lo lB hi hB1 : Int} {sfn fb jt jx jy bF bS eF eS ftA fxA fyA ftB fxB fyB ftC fxC fyC ftE fxE fyE fS fM fB fT fX fY fL fR kt kx ky fF fG fU fV fo1 : Int → Int}
set_option maxHeartbeats 4000000 in
set_option maxRecDepth 100000 in
theorem lc_place (hC : lwC p l s m c b L xs sa D cI cJ cT A) (hIX : IX ia ib ic ie tr kTA kTB kTC kTE) (hTA : TK ia sgA bdA nA ftA fxA fyA fS fM fB fT fX fY) (hTB : TK ib sgB bdB nB ftB fxB fyB fS fM fB fT fX fY) (hTC : TK ic sgC bdC nC ftC fxC fyC fS fM fB fT fX fY) (hTE : TK ie sgE bdE nE ftE fxE fyE fS fM fB fT fX fY) (hRG : RG fS fM fB fT fX fY) (hBY : BY nb fb sz1 fR) (hRD : RD jt jx jy kt kx ky) (hSP : SP m1 bF bS eF eS fo fF fG fU fV) (hin : 0 ≤ i ∧ i + 6 ≤ L) (hF : trk (sX xs (i + 1)) → sX xs (i + 1) = ia) (hrm : cells + 3 ≤ room_1.cells ∧ slots + 18 ≤ room_1.slots) (hP : va_P D vwCl ([(hd, .inr (6, [.ref rT, .ref rH, .ref rG, .ref rD, .ref rF])), (rT, .inl (cT, 4, .inr (.inr (.inr (.inr tr))))), (kTA, .inr (5, [.ref kWA, .int (iI sgA), .int (iI bdA)])), (kWA, .inr (2, [.ref kXA, .ref kYA, .ref kZA, .int (iI nA)])), (kXA, .inl (cI, 20, .inl (zA ftA))), (kYA, .inl (cI, 20, .inl (zA fxA))), (kZA, .inl (cI, 20, .inl (zA fyA))), (hm, .inr (7, [.int (iI th), .ref mS, .ref mM, .ref mB, .ref mT, .ref mX, .ref mY, .ref mL, .int (iI sz1), .ref mR, .int (iI at2), .long (lI nu), .ref mt, .ref mx, .ref my, .int (iI fo), .ref mF, .ref mG, .ref mU, .ref mV, .long (lI lo), .long (lI lB), .long (lI hi), .long (lI hB1)])), (mS, .inl (cI, 4, .inl (zA fS))), (mM, .inl (cI, 4, .inl (zA fM))), (mT, .inl (cI, 80, .inl (zA fT))), (mX, .inl (cI, 80, .inl (zA fX))), (mY, .inl (cI, 80, .inl (zA fY))), (ro, .inl (cJ, 1, .inr (.inl (zJ fo1))))] ++ pl) H) (hD : va_D A ([(hd, .inr (6, [.ref rT, .ref rH, .ref rG, .ref rD, .ref rF])), (rT, .inl (cT, 4, .inr (.inr (.inr (.inr tr))))), (kTA, .inr (5, [.ref kWA, .int (iI sgA), .int (iI bdA)])), (kWA, .inr (2, [.ref kXA, .ref kYA, .ref kZA, .int (iI nA)])), (kXA, .inl (cI, 20, .inl (zA ftA))), (kYA, .inl (cI, 20, .inl (zA fxA))), (kZA, .inl (cI, 20, .inl (zA fyA))), (hm, .inr (7, [.int (iI th), .ref mS, .ref mM, .ref mB, .ref mT, .ref mX, .ref mY, .ref mL, .int (iI sz1), .ref mR, .int (iI at2), .long (lI nu), .ref mt, .ref mx, .ref my, .int (iI fo), .ref mF, .ref mG, .ref mU, .ref mV, .long (lI lo), .long (lI lB), .long (lI hi), .long (lI hB1)])), (mS, .inl (cI, 4, .inl (zA fS))), (mM, .inl (cI, 4, .inl (zA fM))), (mT, .inl (cI, 80, .inl (zA fT))), (mX, .inl (cI, 80, .inl (zA fX))), (mY, .inl (cI, 80, .inl (zA fY))), (ro, .inl (cJ, 1, .inr (.inl (zJ fo1))))] ++ pl)) (hS : va_S A s.heap H locs) (hl : lv_has ls 8 [(0, .ref b), (1, .ref hd), (2, .ref hm), (3, .ref ro), (4, .int (iI i))]) (K : ∀ {sgA bdA nA th sz1 at2 nu fo lo lB hi hB1 : Int} {ftA fxA fyA fS fM fT fX fY fo1 : Int → Int} {H : Heap} {locs : List Loc} {ls : Array Slot}, va_P D vwCl ([(hd, .inr (6, [.ref rT, .ref rH, .ref rG, .ref rD, .ref rF])), (rT, .inl (cT, 4, .inr (.inr (.inr (.inr tr))))), (kTA, .inr (5, [.ref kWA, .int (iI sgA), .int (iI bdA)])), (kWA, .inr (2, [.ref kXA, .ref kYA, .ref kZA, .int (iI nA)])), (kXA, .inl (cI, 20, .inl (zA ftA))), (kYA, .inl (cI, 20, .inl (zA fxA))), (kZA, .inl (cI, 20, .inl (zA fyA))), (hm, .inr (7, [.int (iI th), .ref mS, .ref mM, .ref mB, .ref mT, .ref mX, .ref mY, .ref mL, .int (iI sz1), .ref mR, .int (iI at2), .long (lI nu), .ref mt, .ref mx, .ref my, .int (iI fo), .ref mF, .ref mG, .ref mU, .ref mV, .long (lI lo), .long (lI lB), .long (lI hi), .long (lI hB1)])), (mS, .inl (cI, 4, .inl (zA fS))), (mM, .inl (cI, 4, .inl (zA fM))), (mT, .inl (cI, 80, .inl (zA fT))), (mX, .inl (cI, 80, .inl (zA fX))), (mY, .inl (cI, 80, .inl (zA fY))), (ro, .inl (cJ, 1, .inr (.inl (zJ fo1))))] ++ pl) H → va_D A ([(hd, .inr (6, [.ref rT, .ref rH, .ref rG, .ref rD, .ref rF])), (rT, .inl (cT, 4, .inr (.inr (.inr (.inr tr))))), (kTA, .inr (5, [.ref kWA, .int (iI sgA), .int (iI bdA)])), (kWA, .inr (2, [.ref kXA, .ref kYA, .ref kZA, .int (iI nA)])), (kXA, .inl (cI, 20, .inl (zA ftA))), (kYA, .inl (cI, 20, .inl (zA fxA))), (kZA, .inl (cI, 20, .inl (zA fyA))), (hm, .inr (7, [.int (iI th), .ref mS, .ref mM, .ref mB, .ref mT, .ref mX, .ref mY, .ref mL, .int (iI sz1), .ref mR, .int (iI at2), .long (lI nu), .ref mt, .ref mx, .ref my, .int (iI fo), .ref mF, .ref mG, .ref mU, .ref mV, .long (lI lo), .long (lI lB), .long (lI hi), .long (lI hB1)])), (mS, .inl (cI, 4, .inl (zA fS))), (mM, .inl (cI, 4, .inl (zA fM))), (mT, .inl (cI, 80, .inl (zA fT))), (mX, .inl (cI, 80, .inl (zA fX))), (mY, .inl (cI, 80, .inl (zA fY))), (ro, .inl (cJ, 1, .inr (.inl (zJ fo1))))] ++ pl) → va_S A s.heap H locs → lv_has ls 8 [(0, .ref b), (1, .ref hd), (2, .ref hm), (3, .ref ro), (4, .int (iI i))] → TK ia sgA bdA nA ftA fxA fyA fS fM fB fT fX fY → TK ib sgB bdB nB ftB fxB fyB fS fM fB fT fX fY → TK ic sgC bdC nC ftC fxC fyC fS fM fB fT fX fY → TK ie sgE bdE nE ftE fxE fyE fS fM fB fT fX fY → RG fS fM fB fT fX fY → BY nb fb sz1 fR → RD jt jx jy kt kx ky → SP m1 bF bS eF eS fo fF fG fU fV → W p l e room_1 s m #[Value.ref b] below meth c H locs (cells + 3) (slots + 18) Q (F0 m 1103 ls [])) : W p l e room_1 s m #[Value.ref b] below meth c H locs cells slots Q (F0 m 522 ls []) := by
  obtain ⟨hx, hb, hml, hown, hts, hX, hbl, hbA, hA, hK, hTV, hThC, hTH, hLt, hL⟩ := hC
  obtain ⟨v1, hv1⟩ : ∃ y, sX xs (i + 1) = y := ⟨_, rfl⟩
  have rv1 : rI v1 := by rw [← hv1]; exact sX_r xs _
  obtain ⟨v2, hv2⟩ : ∃ y, sX xs (i + 2) = y := ⟨_, rfl⟩
  have rv2 : rI v2 := by rw [← hv2]; exact sX_r xs _
  obtain ⟨v3, hv3⟩ : ∃ y, sX xs (i + 3) = y := ⟨_, rfl⟩
  have rv3 : rI v3 := by rw [← hv3]; exact sX_r xs _
  obtain ⟨v4, hv4⟩ : ∃ y, sX xs (i + 4) = y := ⟨_, rfl⟩
  have rv4 : rI v4 := by rw [← hv4]; exact sX_r xs _
  rw [hv1] at hF
  obtain ⟨⟨g1, g2⟩, ⟨g3, g4⟩, g5, g6⟩ := TK_r hRG hTA
  refine lv_aload_n hx hb dL_law_522 rfl (lv_at hl 1 rfl) ?_
  refine lv_aload_n hx hb dL_law_523 rfl (lv_at hl 0 rfl) ?_
  refine lv_iload hx hb dL_law_524 (lv_at hl 4 rfl) ?_
  refine lv_iconst (v := iI 1) hx hb dL_law_526 rfl ?_
  refine wz_iadd hx hb dL_law_527 ?_
  refine wz_sld hx hb hX hbl hbA hS hL ⟨by omega, by omega⟩ dL_law_528 ?_
  refine wz_topi (show iI (sX xs (i + 1)) = iI v1 by rw [hv1]) ?_
  refine lv_aload_n hx hb dL_law_529 rfl (lv_at hl 0 rfl) ?_
  refine lv_iload hx hb dL_law_530 (lv_at hl 4 rfl) ?_
  refine lv_iconst (v := iI 2) hx hb dL_law_532 rfl ?_
  refine wz_iadd hx hb dL_law_533 ?_
  refine wz_sld hx hb hX hbl hbA hS hL ⟨by omega, by omega⟩ dL_law_534 ?_
  refine wz_topi (show iI (sX xs (i + 2)) = iI v2 by rw [hv2]) ?_
  refine lv_aload_n hx hb dL_law_535 rfl (lv_at hl 0 rfl) ?_
  refine lv_iload hx hb dL_law_536 (lv_at hl 4 rfl) ?_
  refine lv_iconst (v := iI 3) hx hb dL_law_538 rfl ?_
  refine wz_iadd hx hb dL_law_539 ?_
  refine wz_sld hx hb hX hbl hbA hS hL ⟨by omega, by omega⟩ dL_law_540 ?_
  refine wz_topi (show iI (sX xs (i + 3)) = iI v3 by rw [hv3]) ?_
  refine wz_if_eq (tgt := 548) hx hb dL_law_541 (by decide) (rv3) (fun c541 => ?_) (fun c541 => ?_)
  · skip
    refine lv_iconst (v := iI 0) hx hb dL_law_548 rfl ?_
    refine lv_aload_n hx hb dL_law_549 rfl (lv_at hl 0 rfl) ?_
    refine lv_iload hx hb dL_law_550 (lv_at hl 4 rfl) ?_
    refine lv_iconst (v := iI 4) hx hb dL_law_552 rfl ?_
    refine wz_iadd hx hb dL_law_553 ?_
    refine wz_sld hx hb hX hbl hbA hS hL ⟨by omega, by omega⟩ dL_law_554 ?_
    refine wz_topi (show iI (sX xs (i + 4)) = iI v4 by rw [hv4]) ?_
    refine wz_if_eq (tgt := 562) hx hb dL_law_555 (by decide) (rv4) (fun c555 => ?_) (fun c555 => ?_)
    · skip
      refine lv_iconst (v := iI 0) hx hb dL_law_562 rfl ?_
      refine lv_aload_n hx hb dL_law_563 rfl (lv_at hl 3 rfl) ?_
      refine wz_qhcalli (wr := [(hm, .inr (7, [.int (iI th), .ref mS, .ref mM, .ref mB, .ref mT, .ref mX, .ref mY, .ref mL, .int (iI sz1), .ref mR, .int (iI at2), .long (lI nu), .ref mt, .ref mx, .ref my, .int (iI fo), .ref mF, .ref mG, .ref mU, .ref mV, .long (lI lo), .long (lI lB), .long (lI hi), .long (lI hB1)])), (mS, .inl (cI, 4, .inl (zA fS))), (mM, .inl (cI, 4, .inl (zA fM))), (mT, .inl (cI, 80, .inl (zA fT))), (mX, .inl (cI, 80, .inl (zA fX))), (mY, .inl (cI, 80, .inl (zA fY)))]) (vx_runSX (As := [.ref hd, .int (iI v1), .int (iI v2), .int (iI 0), .int (iI 0), .ref ro]) (rest := []) ⟨hx, hb, hml, hown, hts⟩ (k_L_place l hLt sa D cI cJ cT H.size hd rT rH rG rD rF tr kTA kWA sgA bdA kXA kYA kZA ftA fxA fyA nA v1 v2 0 0 ro fo1 rv1 (fun w => (congrArg (fun z : Int => tr z.toNat) (hF w)).trans hIX.2.2.1) (⟨by omega, by omega⟩) (fun q => ⟨⟨(hTA.2.2.1 q).2, g4⟩, hTA.2.2.2.2.2.1⟩) (⟨g3, g4⟩) hTA.2.2.2.2.2.2.1.1 hTA.2.2.2.2.2.2.1.2.1 hTA.2.2.2.2.2.2.1.2.2 rv2 (by decide) (by decide)) (vx_cwSW 6 hts gL_law_L_place rfl rfl rfl (by decide +kernel) ⟨Nat.le_of_ble_eq_true rfl, Nat.le_of_ble_eq_true rfl⟩) (wz_preSy hK (vP_l hP) (vD_l hD) hTV hThC hTH hS hA [0, 1, 2, 3, 4, 5, 6, 13] (by decide) rfl rfl) rfl rfl hl.1 rfl (lv_room (Nat.le_of_ble_eq_true rfl)) dL_law_564 ⟨by have := hrm.1; omega, by have := hrm.2; omega⟩) hP hD hS hA [0, 1, 2, 3, 4, 5, 6, 13] [7, 8, 9, 10, 11, 12] rfl rfl rfl (by decide) (fun z5 v H locs hw hPa hDa hS => ?_)
      rcases v with k5 | v
      · skip
        obtain ⟨e5, hk⟩ := hw
        subst e5
        obtain ⟨hP1, hD1⟩ : va_P D vwCl ([(hd, .inr (6, [.ref rT, .ref rH, .ref rG, .ref rD, .ref rF])), (rT, .inl (cT, 4, .inr (.inr (.inr (.inr tr))))), (kTA, .inr (5, [.ref kWA, .int (iI sgA), .int (iI bdA)])), (kWA, .inr (2, [.ref kXA, .ref kYA, .ref kZA, .int (iI nA)])), (kXA, .inl (cI, 20, .inl (zA ftA))), (kYA, .inl (cI, 20, .inl (zA fxA))), (kZA, .inl (cI, 20, .inl (zA fyA))), (hm, .inr (7, [.int (iI th), .ref mS, .ref mM, .ref mB, .ref mT, .ref mX, .ref mY, .ref mL, .int (iI sz1), .ref mR, .int (iI at2), .long (lI nu), .ref mt, .ref mx, .ref my, .int (iI fo), .ref mF, .ref mG, .ref mU, .ref mV, .long (lI lo), .long (lI lB), .long (lI hi), .long (lI hB1)])), (mS, .inl (cI, 4, .inl (zA fS))), (mM, .inl (cI, 4, .inl (zA fM))), (mT, .inl (cI, 80, .inl (zA fT))), (mX, .inl (cI, 80, .inl (zA fX))), (mY, .inl (cI, 80, .inl (zA fY))), (ro, .inl (cJ, 1, .inr (.inl (zJ fo1))))] ++ pl) H ∧ va_D A ([(hd, .inr (6, [.ref rT, .ref rH, .ref rG, .ref rD, .ref rF])), (rT, .inl (cT, 4, .inr (.inr (.inr (.inr tr))))), (kTA, .inr (5, [.ref kWA, .int (iI sgA), .int (iI bdA)])), (kWA, .inr (2, [.ref kXA, .ref kYA, .ref kZA, .int (iI nA)])), (kXA, .inl (cI, 20, .inl (zA ftA))), (kYA, .inl (cI, 20, .inl (zA fxA))), (kZA, .inl (cI, 20, .inl (zA fyA))), (hm, .inr (7, [.int (iI th), .ref mS, .ref mM, .ref mB, .ref mT, .ref mX, .ref mY, .ref mL, .int (iI sz1), .ref mR, .int (iI at2), .long (lI nu), .ref mt, .ref mx, .ref my, .int (iI fo), .ref mF, .ref mG, .ref mU, .ref mV, .long (lI lo), .long (lI lB), .long (lI hi), .long (lI hB1)])), (mS, .inl (cI, 4, .inl (zA fS))), (mM, .inl (cI, 4, .inl (zA fM))), (mT, .inl (cI, 80, .inl (zA fT))), (mX, .inl (cI, 80, .inl (zA fX))), (mY, .inl (cI, 80, .inl (zA fY))), (ro, .inl (cJ, 1, .inr (.inl (zJ fo1))))] ++ pl) := pd_part hPa hDa [6, 7, 8, 9, 10, 11, 12, 0, 1, 2, 3, 4, 5, 13] (by decide +kernel) rfl
        obtain ⟨k51, k52⟩ : 1 ≤ z5 ∧ z5 ≤ 3 := by rcases hk with ⟨q, -⟩ | ⟨q, -⟩ | ⟨q, -⟩ <;> omega
        refine lv_istore (lv' := [(5, .int (iI z5)), (0, .ref b), (1, .ref hd), (2, .ref hm), (3, .ref ro), (4, .int (iI i))]) hx hb dL_law_567 hl (by decide) rfl (fun ls hl => ?_)
        refine lv_aload_n hx hb dL_law_569 rfl (lv_at hl 3 rfl) ?_
        refine lv_aload_n hx hb dL_law_570 rfl (lv_at hl 1 rfl) ?_
        refine lv_iload hx hb dL_law_571 (lv_at hl 5 rfl) ?_
        refine lv_iconst (v := iI 1) hx hb dL_law_573 rfl ?_
        refine wz_iadd hx hb dL_law_574 ?_
        refine wz_sld hx hb hX hbl hbA hS hL ⟨by omega, by omega⟩ dL_law_575 ?_
        refine wz_topi (show iI (sX xs (i + 1)) = iI v1 by rw [hv1]) ?_
        refine lv_aload_n hx hb dL_law_576 rfl (lv_at hl 1 rfl) ?_
        refine lv_iload hx hb dL_law_577 (lv_at hl 5 rfl) ?_
        refine lv_iconst (v := iI 2) hx hb dL_law_579 rfl ?_
        refine wz_iadd hx hb dL_law_580 ?_
        refine wz_sld hx hb hX hbl hbA hS hL ⟨by omega, by omega⟩ dL_law_581 ?_
        refine wz_topi (show iI (sX xs (i + 2)) = iI v2 by rw [hv2]) ?_
        refine lv_aload_n hx hb dL_law_582 rfl (lv_at hl 1 rfl) ?_
        refine lv_iload hx hb dL_law_583 (lv_at hl 5 rfl) ?_
        refine lv_iconst (v := iI 3) hx hb dL_law_585 rfl ?_
        refine wz_iadd hx hb dL_law_586 ?_
        refine wz_sld hx hb hX hbl hbA hS hL ⟨by omega, by omega⟩ dL_law_587 ?_
        refine wz_topi (show iI (sX xs (i + 3)) = iI v3 by rw [hv3]) ?_
        refine wz_if_eq (tgt := 595) hx hb dL_law_588 (by decide) (rv3) (fun c588 => ?_) (fun c588 => ?_)
        · skip
          refine lv_iconst (v := iI 0) hx hb dL_law_595 rfl ?_
          refine lv_aload_n hx hb dL_law_596 rfl (lv_at hl 1 rfl) ?_
          refine lv_iload hx hb dL_law_597 (lv_at hl 5 rfl) ?_
          refine lv_iconst (v := iI 4) hx hb dL_law_599 rfl ?_
          refine wz_iadd hx hb dL_law_600 ?_
          refine wz_sld hx hb hX hbl hbA hS hL ⟨by omega, by omega⟩ dL_law_601 ?_
          refine wz_topi (show iI (sX xs (i + 4)) = iI v4 by rw [hv4]) ?_
          refine wz_if_eq (tgt := 609) hx hb dL_law_602 (by decide) (rv4) (fun c602 => ?_) (fun c602 => ?_)
          · skip
            refine lv_iconst (v := iI 0) hx hb dL_law_609 rfl ?_
            refine wz_qcalll (wr := [(hd, .inr (6, [.ref rT, .ref rH, .ref rG, .ref rD, .ref rF])), (rT, .inl (cT, 4, .inr (.inr (.inr (.inr tr))))), (kTA, .inr (5, [.ref kWA, .int (iI sgA), .int (iI bdA)])), (kWA, .inr (2, [.ref kXA, .ref kYA, .ref kZA, .int (iI nA)])), (kXA, .inl (cI, 20, .inl (zA ftA))), (kYA, .inl (cI, 20, .inl (zA fxA))), (kZA, .inl (cI, 20, .inl (zA fyA))), (ro, .inl (cJ, 1, .inr (.inl (zJ fo1))))]) (va_runV (As := [.int (iI v1), .int (iI v2), .int (iI 0), .int (iI 0)]) (rest := []) ⟨hx, hb, hml, hown, hts⟩ (k_X7_place l D cI cJ cT H.size hm th mS mM mB mT mX mY mL sz1 mR at2 nu mt mx my fo mF mG mU mV lo lB hi hB1 fS fM fT fX fY v1 v2 0 0 hRG.1 hRG.2.1 hRG.2.2.2.1 hRG.2.2.2.2.1 hRG.2.2.2.2.2.1 hRG.2.2.2.2.2.2 (inc_all hIX hTA hTB hTC hTE) rv1 rv2 (by decide) (by decide)) (cwV 4 hts gL_law_X7_place rfl rfl rfl (by decide +kernel) ⟨Nat.le_of_ble_eq_true rfl, Nat.le_of_ble_eq_true rfl⟩) (wz_preV hK (vP_l hP1) (vD_l hD1) [7, 8, 9, 10, 11, 12] (by decide) rfl rfl 7 7 rfl rfl) rfl rfl hl.1 rfl (lv_room (Nat.le_of_ble_eq_true rfl)) dL_law_610 ⟨by have := hrm.1; omega, by have := hrm.2; omega⟩) hP1 hD1 hS hA [7, 8, 9, 10, 11, 12] [0, 1, 2, 3, 4, 5, 6, 13] rfl rfl rfl (by decide) (fun zb u H locs hw hP2a hD2a hS => ?_)
            obtain ⟨th2m, km⟩ := u
            try dsimp only at hw
            obtain ⟨hP2, hD2⟩ : va_P D vwCl ([(hd, .inr (6, [.ref rT, .ref rH, .ref rG, .ref rD, .ref rF])), (rT, .inl (cT, 4, .inr (.inr (.inr (.inr tr))))), (kTA, .inr (5, [.ref kWA, .int (iI sgA), .int (iI bdA)])), (kWA, .inr (2, [.ref kXA, .ref kYA, .ref kZA, .int (iI nA)])), (kXA, .inl (cI, 20, .inl (zA ftA))), (kYA, .inl (cI, 20, .inl (zA fxA))), (kZA, .inl (cI, 20, .inl (zA fyA))), (hm, .inr (7, [.int (iI th2m), .ref mS, .ref mM, .ref mB, .ref mT, .ref mX, .ref mY, .ref mL, .int (iI sz1), .ref mR, .int (iI at2), .long (lI nu), .ref mt, .ref mx, .ref my, .int (iI fo), .ref mF, .ref mG, .ref mU, .ref mV, .long (lI lo), .long (lI lB), .long (lI hi), .long (lI hB1)])), (mS, .inl (cI, 4, .inl (zA fS))), (mM, .inl (cI, 4, .inl (zA fM))), (mT, .inl (cI, 80, .inl (zA fT))), (mX, .inl (cI, 80, .inl (zA fX))), (mY, .inl (cI, 80, .inl (zA fY))), (ro, .inl (cJ, 1, .inr (.inl (zJ fo1))))] ++ pl) H ∧ va_D A ([(hd, .inr (6, [.ref rT, .ref rH, .ref rG, .ref rD, .ref rF])), (rT, .inl (cT, 4, .inr (.inr (.inr (.inr tr))))), (kTA, .inr (5, [.ref kWA, .int (iI sgA), .int (iI bdA)])), (kWA, .inr (2, [.ref kXA, .ref kYA, .ref kZA, .int (iI nA)])), (kXA, .inl (cI, 20, .inl (zA ftA))), (kYA, .inl (cI, 20, .inl (zA fxA))), (kZA, .inl (cI, 20, .inl (zA fyA))), (hm, .inr (7, [.int (iI th2m), .ref mS, .ref mM, .ref mB, .ref mT, .ref mX, .ref mY, .ref mL, .int (iI sz1), .ref mR, .int (iI at2), .long (lI nu), .ref mt, .ref mx, .ref my, .int (iI fo), .ref mF, .ref mG, .ref mU, .ref mV, .long (lI lo), .long (lI lB), .long (lI hi), .long (lI hB1)])), (mS, .inl (cI, 4, .inl (zA fS))), (mM, .inl (cI, 4, .inl (zA fM))), (mT, .inl (cI, 80, .inl (zA fT))), (mX, .inl (cI, 80, .inl (zA fX))), (mY, .inl (cI, 80, .inl (zA fY))), (ro, .inl (cJ, 1, .inr (.inl (zJ fo1))))] ++ pl) := pd_part hP2a hD2a [0, 1, 2, 3, 4, 5, 6, 8, 9, 10, 11, 12, 13, 7] (by decide +kernel) rfl
            have eth := t_place_x hF hTA hRG hk hw
            refine lv_lstore (lv' := [(6, .long (lI zb)), (5, .int (iI z5)), (0, .ref b), (1, .ref hd), (2, .ref hm), (3, .ref ro), (4, .int (iI i))]) hx hb dL_law_613 hl (by decide) rfl (fun ls hl => ?_)
            refine lv_aload_n hx hb dL_law_615 rfl (lv_at hl 4 rfl) ?_
            refine wz_qcalli (wr := [(hd, .inr (6, [.ref rT, .ref rH, .ref rG, .ref rD, .ref rF])), (rT, .inl (cT, 4, .inr (.inr (.inr (.inr tr))))), (kTA, .inr (5, [.ref kWA, .int (iI sgA), .int (iI bdA)])), (kWA, .inr (2, [.ref kXA, .ref kYA, .ref kZA, .int (iI nA)])), (kXA, .inl (cI, 20, .inl (zA ftA))), (kYA, .inl (cI, 20, .inl (zA fxA))), (kZA, .inl (cI, 20, .inl (zA fyA))), (mS, .inl (cI, 4, .inl (zA fS))), (mM, .inl (cI, 4, .inl (zA fM))), (mT, .inl (cI, 80, .inl (zA fT))), (mX, .inl (cI, 80, .inl (zA fX))), (mY, .inl (cI, 80, .inl (zA fY))), (ro, .inl (cJ, 1, .inr (.inl (zJ fo1))))]) (va_runV (As := []) (rest := []) ⟨hx, hb, hml, hown, hts⟩ (k_X7_thrown l D cI cJ cT H.size hm th2m mS mM mB mT mX mY mL sz1 mR at2 nu mt mx my fo mF mG mU mV lo lB hi hB1 ) (cwV 0 hts gL_law_X7_thrown rfl rfl rfl (by decide +kernel) ⟨Nat.le_of_ble_eq_true rfl, Nat.le_of_ble_eq_true rfl⟩) (wz_preV hK (vP_l hP2) (vD_l hD2) [7] (by decide) rfl rfl 7 7 rfl rfl) rfl rfl hl.1 rfl (lv_room (Nat.le_of_ble_eq_true rfl)) dL_law_616 ⟨by have := hrm.1; omega, by have := hrm.2; omega⟩) hP2 hD2 hS hA [7] [0, 1, 2, 3, 4, 5, 6, 8, 9, 10, 11, 12, 13] rfl rfl rfl (by decide) (fun zt u H locs ht9 hP3a hD3a hS => ?_)
            try dsimp only at ht9
            obtain ⟨hP3, hD3⟩ : va_P D vwCl ([(hd, .inr (6, [.ref rT, .ref rH, .ref rG, .ref rD, .ref rF])), (rT, .inl (cT, 4, .inr (.inr (.inr (.inr tr))))), (kTA, .inr (5, [.ref kWA, .int (iI sgA), .int (iI bdA)])), (kWA, .inr (2, [.ref kXA, .ref kYA, .ref kZA, .int (iI nA)])), (kXA, .inl (cI, 20, .inl (zA ftA))), (kYA, .inl (cI, 20, .inl (zA fxA))), (kZA, .inl (cI, 20, .inl (zA fyA))), (hm, .inr (7, [.int (iI th2m), .ref mS, .ref mM, .ref mB, .ref mT, .ref mX, .ref mY, .ref mL, .int (iI sz1), .ref mR, .int (iI at2), .long (lI nu), .ref mt, .ref mx, .ref my, .int (iI fo), .ref mF, .ref mG, .ref mU, .ref mV, .long (lI lo), .long (lI lB), .long (lI hi), .long (lI hB1)])), (mS, .inl (cI, 4, .inl (zA fS))), (mM, .inl (cI, 4, .inl (zA fM))), (mT, .inl (cI, 80, .inl (zA fT))), (mX, .inl (cI, 80, .inl (zA fX))), (mY, .inl (cI, 80, .inl (zA fY))), (ro, .inl (cJ, 1, .inr (.inl (zJ fo1))))] ++ pl) H ∧ va_D A ([(hd, .inr (6, [.ref rT, .ref rH, .ref rG, .ref rD, .ref rF])), (rT, .inl (cT, 4, .inr (.inr (.inr (.inr tr))))), (kTA, .inr (5, [.ref kWA, .int (iI sgA), .int (iI bdA)])), (kWA, .inr (2, [.ref kXA, .ref kYA, .ref kZA, .int (iI nA)])), (kXA, .inl (cI, 20, .inl (zA ftA))), (kYA, .inl (cI, 20, .inl (zA fxA))), (kZA, .inl (cI, 20, .inl (zA fyA))), (hm, .inr (7, [.int (iI th2m), .ref mS, .ref mM, .ref mB, .ref mT, .ref mX, .ref mY, .ref mL, .int (iI sz1), .ref mR, .int (iI at2), .long (lI nu), .ref mt, .ref mx, .ref my, .int (iI fo), .ref mF, .ref mG, .ref mU, .ref mV, .long (lI lo), .long (lI lB), .long (lI hi), .long (lI hB1)])), (mS, .inl (cI, 4, .inl (zA fS))), (mM, .inl (cI, 4, .inl (zA fM))), (mT, .inl (cI, 80, .inl (zA fT))), (mX, .inl (cI, 80, .inl (zA fX))), (mY, .inl (cI, 80, .inl (zA fY))), (ro, .inl (cJ, 1, .inr (.inl (zJ fo1))))] ++ pl) := pd_part hP3a hD3a [0, 1, 2, 3, 4, 5, 6, 13, 7, 8, 9, 10, 11, 12] (by decide +kernel) rfl
            refine wz_topi (show iI zt = iI th2m by rw [ht9]) ?_
            refine lv_iload hx hb dL_law_619 (lv_at hl 1 rfl) ?_
            refine wz_topi (show iI z5 = iI th2m by rw [eth]) ?_
            refine lv_icmp_eq (tgt := 626) hx hb dL_law_621 (by decide) (fun _ => ?_) (fun q => absurd rfl q)
            refine lv_iload hx hb dL_law_626 (lv_at hl 1 rfl) ?_
            refine wz_if_ne (tgt := 642) hx hb dL_law_628 (by decide) ⟨by omega, by omega⟩ (fun _ => ?_) (fun q => (by exfalso; omega))
            refine lv_goto (tgt := 1103) hx hb dL_law_642 (by decide) ?_
            refine W.widen (k := cells + 3) (n := slots + 18) (by omega) (by omega) ?_
            exact K hP3 hD3 hS (lv_sub hl [2, 3, 4, 5, 6] rfl) hTA hTB hTC hTE hRG hBY hRD hSP
          · skip
            exfalso; omega
        · skip
          exfalso; omega
      · skip
        obtain ⟨zc, u⟩ := v
        obtain ⟨kc, rfl⟩ : ∃ w, w = u := ⟨_, rfl⟩
        obtain ⟨e5, hc⟩ := hw
        subst e5
        try dsimp only at hc
        obtain ⟨hP1, hD1⟩ : va_P D vwCl ([(hd, .inr (6, [.ref rT, .ref rH, .ref rG, .ref rD, .ref rF])), (rT, .inl (cT, 4, .inr (.inr (.inr (.inr tr))))), (kTA, .inr (5, [.ref kWA, .int (iI sgA), .int (iI bdA)])), (kWA, .inr (2, [.ref kXA, .ref kYA, .ref kZA, .int (iI nA)])), (kXA, .inl (cI, 20, .inl (zA ftA))), (kYA, .inl (cI, 20, .inl (zA fxA))), (kZA, .inl (cI, 20, .inl (zA fyA))), (hm, .inr (7, [.int (iI th), .ref mS, .ref mM, .ref mB, .ref mT, .ref mX, .ref mY, .ref mL, .int (iI sz1), .ref mR, .int (iI at2), .long (lI nu), .ref mt, .ref mx, .ref my, .int (iI fo), .ref mF, .ref mG, .ref mU, .ref mV, .long (lI lo), .long (lI lB), .long (lI hi), .long (lI hB1)])), (mS, .inl (cI, 4, .inl (zA fS))), (mM, .inl (cI, 4, .inl (zA fM))), (mT, .inl (cI, 80, .inl (zA fT))), (mX, .inl (cI, 80, .inl (zA fX))), (mY, .inl (cI, 80, .inl (zA fY))), (ro, .inl (cJ, 1, .inr (.inl (zJ (uZ fo1 0 zc)))))] ++ pl) H ∧ va_D A ([(hd, .inr (6, [.ref rT, .ref rH, .ref rG, .ref rD, .ref rF])), (rT, .inl (cT, 4, .inr (.inr (.inr (.inr tr))))), (kTA, .inr (5, [.ref kWA, .int (iI sgA), .int (iI bdA)])), (kWA, .inr (2, [.ref kXA, .ref kYA, .ref kZA, .int (iI nA)])), (kXA, .inl (cI, 20, .inl (zA ftA))), (kYA, .inl (cI, 20, .inl (zA fxA))), (kZA, .inl (cI, 20, .inl (zA fyA))), (hm, .inr (7, [.int (iI th), .ref mS, .ref mM, .ref mB, .ref mT, .ref mX, .ref mY, .ref mL, .int (iI sz1), .ref mR, .int (iI at2), .long (lI nu), .ref mt, .ref mx, .ref my, .int (iI fo), .ref mF, .ref mG, .ref mU, .ref mV, .long (lI lo), .long (lI lB), .long (lI hi), .long (lI hB1)])), (mS, .inl (cI, 4, .inl (zA fS))), (mM, .inl (cI, 4, .inl (zA fM))), (mT, .inl (cI, 80, .inl (zA fT))), (mX, .inl (cI, 80, .inl (zA fX))), (mY, .inl (cI, 80, .inl (zA fY))), (ro, .inl (cJ, 1, .inr (.inl (zJ (uZ fo1 0 zc)))))] ++ pl) := pd_part hPa hDa [6, 7, 8, 9, 10, 11, 12, 0, 1, 2, 3, 4, 5, 13] (by decide +kernel) rfl
        refine lv_istore (lv' := [(5, .int (iI 0)), (0, .ref b), (1, .ref hd), (2, .ref hm), (3, .ref ro), (4, .int (iI i))]) hx hb dL_law_567 hl (by decide) rfl (fun ls hl => ?_)
        refine lv_aload_n hx hb dL_law_569 rfl (lv_at hl 3 rfl) ?_
        refine lv_aload_n hx hb dL_law_570 rfl (lv_at hl 1 rfl) ?_
        refine lv_iload hx hb dL_law_571 (lv_at hl 5 rfl) ?_
        refine lv_iconst (v := iI 1) hx hb dL_law_573 rfl ?_
        refine wz_iadd hx hb dL_law_574 ?_
        refine wz_sld hx hb hX hbl hbA hS hL ⟨by omega, by omega⟩ dL_law_575 ?_
        refine wz_topi (show iI (sX xs (i + 1)) = iI v1 by rw [hv1]) ?_
        refine lv_aload_n hx hb dL_law_576 rfl (lv_at hl 1 rfl) ?_
        refine lv_iload hx hb dL_law_577 (lv_at hl 5 rfl) ?_
        refine lv_iconst (v := iI 2) hx hb dL_law_579 rfl ?_
        refine wz_iadd hx hb dL_law_580 ?_
        refine wz_sld hx hb hX hbl hbA hS hL ⟨by omega, by omega⟩ dL_law_581 ?_
        refine wz_topi (show iI (sX xs (i + 2)) = iI v2 by rw [hv2]) ?_
        refine lv_aload_n hx hb dL_law_582 rfl (lv_at hl 1 rfl) ?_
        refine lv_iload hx hb dL_law_583 (lv_at hl 5 rfl) ?_
        refine lv_iconst (v := iI 3) hx hb dL_law_585 rfl ?_
        refine wz_iadd hx hb dL_law_586 ?_
        refine wz_sld hx hb hX hbl hbA hS hL ⟨by omega, by omega⟩ dL_law_587 ?_
        refine wz_topi (show iI (sX xs (i + 3)) = iI v3 by rw [hv3]) ?_
        refine wz_if_eq (tgt := 595) hx hb dL_law_588 (by decide) (rv3) (fun c588 => ?_) (fun c588 => ?_)
        · skip
          refine lv_iconst (v := iI 0) hx hb dL_law_595 rfl ?_
          refine lv_aload_n hx hb dL_law_596 rfl (lv_at hl 1 rfl) ?_
          refine lv_iload hx hb dL_law_597 (lv_at hl 5 rfl) ?_
          refine lv_iconst (v := iI 4) hx hb dL_law_599 rfl ?_
          refine wz_iadd hx hb dL_law_600 ?_
          refine wz_sld hx hb hX hbl hbA hS hL ⟨by omega, by omega⟩ dL_law_601 ?_
          refine wz_topi (show iI (sX xs (i + 4)) = iI v4 by rw [hv4]) ?_
          refine wz_if_eq (tgt := 609) hx hb dL_law_602 (by decide) (rv4) (fun c602 => ?_) (fun c602 => ?_)
          · skip
            refine lv_iconst (v := iI 0) hx hb dL_law_609 rfl ?_
            refine wz_qcalll (wr := [(hd, .inr (6, [.ref rT, .ref rH, .ref rG, .ref rD, .ref rF])), (rT, .inl (cT, 4, .inr (.inr (.inr (.inr tr))))), (kTA, .inr (5, [.ref kWA, .int (iI sgA), .int (iI bdA)])), (kWA, .inr (2, [.ref kXA, .ref kYA, .ref kZA, .int (iI nA)])), (kXA, .inl (cI, 20, .inl (zA ftA))), (kYA, .inl (cI, 20, .inl (zA fxA))), (kZA, .inl (cI, 20, .inl (zA fyA))), (ro, .inl (cJ, 1, .inr (.inl (zJ (uZ fo1 0 zc)))))]) (va_runV (As := [.int (iI v1), .int (iI v2), .int (iI 0), .int (iI 0)]) (rest := []) ⟨hx, hb, hml, hown, hts⟩ (k_X7_place l D cI cJ cT H.size hm th mS mM mB mT mX mY mL sz1 mR at2 nu mt mx my fo mF mG mU mV lo lB hi hB1 fS fM fT fX fY v1 v2 0 0 hRG.1 hRG.2.1 hRG.2.2.2.1 hRG.2.2.2.2.1 hRG.2.2.2.2.2.1 hRG.2.2.2.2.2.2 (inc_all hIX hTA hTB hTC hTE) rv1 rv2 (by decide) (by decide)) (cwV 4 hts gL_law_X7_place rfl rfl rfl (by decide +kernel) ⟨Nat.le_of_ble_eq_true rfl, Nat.le_of_ble_eq_true rfl⟩) (wz_preV hK (vP_l hP1) (vD_l hD1) [7, 8, 9, 10, 11, 12] (by decide) rfl rfl 7 7 rfl rfl) rfl rfl hl.1 rfl (lv_room (Nat.le_of_ble_eq_true rfl)) dL_law_610 ⟨by have := hrm.1; omega, by have := hrm.2; omega⟩) hP1 hD1 hS hA [7, 8, 9, 10, 11, 12] [0, 1, 2, 3, 4, 5, 6, 13] rfl rfl rfl (by decide) (fun zb u H locs hw hP2a hD2a hS => ?_)
            obtain ⟨th2m, km⟩ := u
            try dsimp only at hw
            obtain ⟨hP2, hD2⟩ : va_P D vwCl ([(hd, .inr (6, [.ref rT, .ref rH, .ref rG, .ref rD, .ref rF])), (rT, .inl (cT, 4, .inr (.inr (.inr (.inr tr))))), (kTA, .inr (5, [.ref kWA, .int (iI sgA), .int (iI bdA)])), (kWA, .inr (2, [.ref kXA, .ref kYA, .ref kZA, .int (iI nA)])), (kXA, .inl (cI, 20, .inl (zA ftA))), (kYA, .inl (cI, 20, .inl (zA fxA))), (kZA, .inl (cI, 20, .inl (zA fyA))), (hm, .inr (7, [.int (iI th2m), .ref mS, .ref mM, .ref mB, .ref mT, .ref mX, .ref mY, .ref mL, .int (iI sz1), .ref mR, .int (iI at2), .long (lI nu), .ref mt, .ref mx, .ref my, .int (iI fo), .ref mF, .ref mG, .ref mU, .ref mV, .long (lI lo), .long (lI lB), .long (lI hi), .long (lI hB1)])), (mS, .inl (cI, 4, .inl (zA fS))), (mM, .inl (cI, 4, .inl (zA fM))), (mT, .inl (cI, 80, .inl (zA fT))), (mX, .inl (cI, 80, .inl (zA fX))), (mY, .inl (cI, 80, .inl (zA fY))), (ro, .inl (cJ, 1, .inr (.inl (zJ (uZ fo1 0 zc)))))] ++ pl) H ∧ va_D A ([(hd, .inr (6, [.ref rT, .ref rH, .ref rG, .ref rD, .ref rF])), (rT, .inl (cT, 4, .inr (.inr (.inr (.inr tr))))), (kTA, .inr (5, [.ref kWA, .int (iI sgA), .int (iI bdA)])), (kWA, .inr (2, [.ref kXA, .ref kYA, .ref kZA, .int (iI nA)])), (kXA, .inl (cI, 20, .inl (zA ftA))), (kYA, .inl (cI, 20, .inl (zA fxA))), (kZA, .inl (cI, 20, .inl (zA fyA))), (hm, .inr (7, [.int (iI th2m), .ref mS, .ref mM, .ref mB, .ref mT, .ref mX, .ref mY, .ref mL, .int (iI sz1), .ref mR, .int (iI at2), .long (lI nu), .ref mt, .ref mx, .ref my, .int (iI fo), .ref mF, .ref mG, .ref mU, .ref mV, .long (lI lo), .long (lI lB), .long (lI hi), .long (lI hB1)])), (mS, .inl (cI, 4, .inl (zA fS))), (mM, .inl (cI, 4, .inl (zA fM))), (mT, .inl (cI, 80, .inl (zA fT))), (mX, .inl (cI, 80, .inl (zA fX))), (mY, .inl (cI, 80, .inl (zA fY))), (ro, .inl (cJ, 1, .inr (.inl (zJ (uZ fo1 0 zc)))))] ++ pl) := pd_part hP2a hD2a [0, 1, 2, 3, 4, 5, 6, 8, 9, 10, 11, 12, 13, 7] (by decide +kernel) rfl
            obtain ⟨eth, ezb⟩ := t_place_r hF hTA hRG hc hw
            refine lv_lstore (lv' := [(6, .long (lI zb)), (5, .int (iI 0)), (0, .ref b), (1, .ref hd), (2, .ref hm), (3, .ref ro), (4, .int (iI i))]) hx hb dL_law_613 hl (by decide) rfl (fun ls hl => ?_)
            refine lv_aload_n hx hb dL_law_615 rfl (lv_at hl 4 rfl) ?_
            refine wz_qcalli (wr := [(hd, .inr (6, [.ref rT, .ref rH, .ref rG, .ref rD, .ref rF])), (rT, .inl (cT, 4, .inr (.inr (.inr (.inr tr))))), (kTA, .inr (5, [.ref kWA, .int (iI sgA), .int (iI bdA)])), (kWA, .inr (2, [.ref kXA, .ref kYA, .ref kZA, .int (iI nA)])), (kXA, .inl (cI, 20, .inl (zA ftA))), (kYA, .inl (cI, 20, .inl (zA fxA))), (kZA, .inl (cI, 20, .inl (zA fyA))), (mS, .inl (cI, 4, .inl (zA fS))), (mM, .inl (cI, 4, .inl (zA fM))), (mT, .inl (cI, 80, .inl (zA fT))), (mX, .inl (cI, 80, .inl (zA fX))), (mY, .inl (cI, 80, .inl (zA fY))), (ro, .inl (cJ, 1, .inr (.inl (zJ (uZ fo1 0 zc)))))]) (va_runV (As := []) (rest := []) ⟨hx, hb, hml, hown, hts⟩ (k_X7_thrown l D cI cJ cT H.size hm th2m mS mM mB mT mX mY mL sz1 mR at2 nu mt mx my fo mF mG mU mV lo lB hi hB1 ) (cwV 0 hts gL_law_X7_thrown rfl rfl rfl (by decide +kernel) ⟨Nat.le_of_ble_eq_true rfl, Nat.le_of_ble_eq_true rfl⟩) (wz_preV hK (vP_l hP2) (vD_l hD2) [7] (by decide) rfl rfl 7 7 rfl rfl) rfl rfl hl.1 rfl (lv_room (Nat.le_of_ble_eq_true rfl)) dL_law_616 ⟨by have := hrm.1; omega, by have := hrm.2; omega⟩) hP2 hD2 hS hA [7] [0, 1, 2, 3, 4, 5, 6, 8, 9, 10, 11, 12, 13] rfl rfl rfl (by decide) (fun zt u H locs ht9 hP3a hD3a hS => ?_)
            try dsimp only at ht9
            obtain ⟨hP3, hD3⟩ : va_P D vwCl ([(hd, .inr (6, [.ref rT, .ref rH, .ref rG, .ref rD, .ref rF])), (rT, .inl (cT, 4, .inr (.inr (.inr (.inr tr))))), (kTA, .inr (5, [.ref kWA, .int (iI sgA), .int (iI bdA)])), (kWA, .inr (2, [.ref kXA, .ref kYA, .ref kZA, .int (iI nA)])), (kXA, .inl (cI, 20, .inl (zA ftA))), (kYA, .inl (cI, 20, .inl (zA fxA))), (kZA, .inl (cI, 20, .inl (zA fyA))), (hm, .inr (7, [.int (iI th2m), .ref mS, .ref mM, .ref mB, .ref mT, .ref mX, .ref mY, .ref mL, .int (iI sz1), .ref mR, .int (iI at2), .long (lI nu), .ref mt, .ref mx, .ref my, .int (iI fo), .ref mF, .ref mG, .ref mU, .ref mV, .long (lI lo), .long (lI lB), .long (lI hi), .long (lI hB1)])), (mS, .inl (cI, 4, .inl (zA fS))), (mM, .inl (cI, 4, .inl (zA fM))), (mT, .inl (cI, 80, .inl (zA fT))), (mX, .inl (cI, 80, .inl (zA fX))), (mY, .inl (cI, 80, .inl (zA fY))), (ro, .inl (cJ, 1, .inr (.inl (zJ (uZ fo1 0 zc)))))] ++ pl) H ∧ va_D A ([(hd, .inr (6, [.ref rT, .ref rH, .ref rG, .ref rD, .ref rF])), (rT, .inl (cT, 4, .inr (.inr (.inr (.inr tr))))), (kTA, .inr (5, [.ref kWA, .int (iI sgA), .int (iI bdA)])), (kWA, .inr (2, [.ref kXA, .ref kYA, .ref kZA, .int (iI nA)])), (kXA, .inl (cI, 20, .inl (zA ftA))), (kYA, .inl (cI, 20, .inl (zA fxA))), (kZA, .inl (cI, 20, .inl (zA fyA))), (hm, .inr (7, [.int (iI th2m), .ref mS, .ref mM, .ref mB, .ref mT, .ref mX, .ref mY, .ref mL, .int (iI sz1), .ref mR, .int (iI at2), .long (lI nu), .ref mt, .ref mx, .ref my, .int (iI fo), .ref mF, .ref mG, .ref mU, .ref mV, .long (lI lo), .long (lI lB), .long (lI hi), .long (lI hB1)])), (mS, .inl (cI, 4, .inl (zA fS))), (mM, .inl (cI, 4, .inl (zA fM))), (mT, .inl (cI, 80, .inl (zA fT))), (mX, .inl (cI, 80, .inl (zA fX))), (mY, .inl (cI, 80, .inl (zA fY))), (ro, .inl (cJ, 1, .inr (.inl (zJ (uZ fo1 0 zc)))))] ++ pl) := pd_part hP3a hD3a [0, 1, 2, 3, 4, 5, 6, 13, 7, 8, 9, 10, 11, 12] (by decide +kernel) rfl
            refine wz_topi (show iI zt = iI th2m by rw [ht9]) ?_
            refine lv_iload hx hb dL_law_619 (lv_at hl 1 rfl) ?_
            refine wz_topi (show iI 0 = iI th2m by rw [eth]) ?_
            refine lv_icmp_eq (tgt := 626) hx hb dL_law_621 (by decide) (fun _ => ?_) (fun q => absurd rfl q)
            refine lv_iload hx hb dL_law_626 (lv_at hl 1 rfl) ?_
            refine wz_if_ne (tgt := 642) hx hb dL_law_628 (by decide) (by decide) (fun q => absurd rfl q) (fun _ => ?_)
            refine lv_aload_n hx hb dL_law_631 rfl (lv_at hl 5 rfl) ?_
            refine lv_iconst (v := iI 0) hx hb dL_law_632 rfl ?_
            refine wz_lald (tys := TY cI cJ cT) hx hb hK (vP_l hP3) 13 1 rfl rfl (by decide) (by decide) dL_law_633 ?_
            refine wz_topl (y := lI zc) (by rw [uZ_s]) ?_
            refine lv_lload hx hb dL_law_634 (lv_at hl 0 rfl) ?_
            refine wz_topl (show lI zb = lI zc by rw [ezb]) ?_
            refine W.lcmp hx hb dL_law_636 ?_
            refine wz_lraw_eq (tgt := 642) hx hb dL_law_637 (by decide) (fun _ => ?_) (fun q => absurd rfl q)
            refine lv_goto (tgt := 1103) hx hb dL_law_642 (by decide) ?_
            refine W.widen (k := cells + 3) (n := slots + 18) (by omega) (by omega) ?_
            exact K hP3 hD3 hS (lv_sub hl [2, 3, 4, 5, 6] rfl) hTA hTB hTC hTE hRG hBY hRD hSP
          · skip
            exfalso; omega
        · skip
          exfalso; omega
    · skip
      refine lv_iconst (v := iI 1) hx hb dL_law_558 rfl ?_
      refine lv_goto (tgt := 563) hx hb dL_law_559 (by decide) ?_
      refine lv_aload_n hx hb dL_law_563 rfl (lv_at hl 3 rfl) ?_
      refine wz_qhcalli (wr := [(hm, .inr (7, [.int (iI th), .ref mS, .ref mM, .ref mB, .ref mT, .ref mX, .ref mY, .ref mL, .int (iI sz1), .ref mR, .int (iI at2), .long (lI nu), .ref mt, .ref mx, .ref my, .int (iI fo), .ref mF, .ref mG, .ref mU, .ref mV, .long (lI lo), .long (lI lB), .long (lI hi), .long (lI hB1)])), (mS, .inl (cI, 4, .inl (zA fS))), (mM, .inl (cI, 4, .inl (zA fM))), (mT, .inl (cI, 80, .inl (zA fT))), (mX, .inl (cI, 80, .inl (zA fX))), (mY, .inl (cI, 80, .inl (zA fY)))]) (vx_runSX (As := [.ref hd, .int (iI v1), .int (iI v2), .int (iI 0), .int (iI 1), .ref ro]) (rest := []) ⟨hx, hb, hml, hown, hts⟩ (k_L_place l hLt sa D cI cJ cT H.size hd rT rH rG rD rF tr kTA kWA sgA bdA kXA kYA kZA ftA fxA fyA nA v1 v2 0 1 ro fo1 rv1 (fun w => (congrArg (fun z : Int => tr z.toNat) (hF w)).trans hIX.2.2.1) (⟨by omega, by omega⟩) (fun q => ⟨⟨(hTA.2.2.1 q).2, g4⟩, hTA.2.2.2.2.2.1⟩) (⟨g3, g4⟩) hTA.2.2.2.2.2.2.1.1 hTA.2.2.2.2.2.2.1.2.1 hTA.2.2.2.2.2.2.1.2.2 rv2 (by decide) (by decide)) (vx_cwSW 6 hts gL_law_L_place rfl rfl rfl (by decide +kernel) ⟨Nat.le_of_ble_eq_true rfl, Nat.le_of_ble_eq_true rfl⟩) (wz_preSy hK (vP_l hP) (vD_l hD) hTV hThC hTH hS hA [0, 1, 2, 3, 4, 5, 6, 13] (by decide) rfl rfl) rfl rfl hl.1 rfl (lv_room (Nat.le_of_ble_eq_true rfl)) dL_law_564 ⟨by have := hrm.1; omega, by have := hrm.2; omega⟩) hP hD hS hA [0, 1, 2, 3, 4, 5, 6, 13] [7, 8, 9, 10, 11, 12] rfl rfl rfl (by decide) (fun z5 v H locs hw hPa hDa hS => ?_)
      rcases v with k5 | v
      · skip
        obtain ⟨e5, hk⟩ := hw
        subst e5
        obtain ⟨hP1, hD1⟩ : va_P D vwCl ([(hd, .inr (6, [.ref rT, .ref rH, .ref rG, .ref rD, .ref rF])), (rT, .inl (cT, 4, .inr (.inr (.inr (.inr tr))))), (kTA, .inr (5, [.ref kWA, .int (iI sgA), .int (iI bdA)])), (kWA, .inr (2, [.ref kXA, .ref kYA, .ref kZA, .int (iI nA)])), (kXA, .inl (cI, 20, .inl (zA ftA))), (kYA, .inl (cI, 20, .inl (zA fxA))), (kZA, .inl (cI, 20, .inl (zA fyA))), (hm, .inr (7, [.int (iI th), .ref mS, .ref mM, .ref mB, .ref mT, .ref mX, .ref mY, .ref mL, .int (iI sz1), .ref mR, .int (iI at2), .long (lI nu), .ref mt, .ref mx, .ref my, .int (iI fo), .ref mF, .ref mG, .ref mU, .ref mV, .long (lI lo), .long (lI lB), .long (lI hi), .long (lI hB1)])), (mS, .inl (cI, 4, .inl (zA fS))), (mM, .inl (cI, 4, .inl (zA fM))), (mT, .inl (cI, 80, .inl (zA fT))), (mX, .inl (cI, 80, .inl (zA fX))), (mY, .inl (cI, 80, .inl (zA fY))), (ro, .inl (cJ, 1, .inr (.inl (zJ fo1))))] ++ pl) H ∧ va_D A ([(hd, .inr (6, [.ref rT, .ref rH, .ref rG, .ref rD, .ref rF])), (rT, .inl (cT, 4, .inr (.inr (.inr (.inr tr))))), (kTA, .inr (5, [.ref kWA, .int (iI sgA), .int (iI bdA)])), (kWA, .inr (2, [.ref kXA, .ref kYA, .ref kZA, .int (iI nA)])), (kXA, .inl (cI, 20, .inl (zA ftA))), (kYA, .inl (cI, 20, .inl (zA fxA))), (kZA, .inl (cI, 20, .inl (zA fyA))), (hm, .inr (7, [.int (iI th), .ref mS, .ref mM, .ref mB, .ref mT, .ref mX, .ref mY, .ref mL, .int (iI sz1), .ref mR, .int (iI at2), .long (lI nu), .ref mt, .ref mx, .ref my, .int (iI fo), .ref mF, .ref mG, .ref mU, .ref mV, .long (lI lo), .long (lI lB), .long (lI hi), .long (lI hB1)])), (mS, .inl (cI, 4, .inl (zA fS))), (mM, .inl (cI, 4, .inl (zA fM))), (mT, .inl (cI, 80, .inl (zA fT))), (mX, .inl (cI, 80, .inl (zA fX))), (mY, .inl (cI, 80, .inl (zA fY))), (ro, .inl (cJ, 1, .inr (.inl (zJ fo1))))] ++ pl) := pd_part hPa hDa [6, 7, 8, 9, 10, 11, 12, 0, 1, 2, 3, 4, 5, 13] (by decide +kernel) rfl
        obtain ⟨k51, k52⟩ : 1 ≤ z5 ∧ z5 ≤ 3 := by rcases hk with ⟨q, -⟩ | ⟨q, -⟩ | ⟨q, -⟩ <;> omega
        refine lv_istore (lv' := [(5, .int (iI z5)), (0, .ref b), (1, .ref hd), (2, .ref hm), (3, .ref ro), (4, .int (iI i))]) hx hb dL_law_567 hl (by decide) rfl (fun ls hl => ?_)
        refine lv_aload_n hx hb dL_law_569 rfl (lv_at hl 3 rfl) ?_
        refine lv_aload_n hx hb dL_law_570 rfl (lv_at hl 1 rfl) ?_
        refine lv_iload hx hb dL_law_571 (lv_at hl 5 rfl) ?_
        refine lv_iconst (v := iI 1) hx hb dL_law_573 rfl ?_
        refine wz_iadd hx hb dL_law_574 ?_
        refine wz_sld hx hb hX hbl hbA hS hL ⟨by omega, by omega⟩ dL_law_575 ?_
        refine wz_topi (show iI (sX xs (i + 1)) = iI v1 by rw [hv1]) ?_
        refine lv_aload_n hx hb dL_law_576 rfl (lv_at hl 1 rfl) ?_
        refine lv_iload hx hb dL_law_577 (lv_at hl 5 rfl) ?_
        refine lv_iconst (v := iI 2) hx hb dL_law_579 rfl ?_
        refine wz_iadd hx hb dL_law_580 ?_
        refine wz_sld hx hb hX hbl hbA hS hL ⟨by omega, by omega⟩ dL_law_581 ?_
        refine wz_topi (show iI (sX xs (i + 2)) = iI v2 by rw [hv2]) ?_
        refine lv_aload_n hx hb dL_law_582 rfl (lv_at hl 1 rfl) ?_
        refine lv_iload hx hb dL_law_583 (lv_at hl 5 rfl) ?_
        refine lv_iconst (v := iI 3) hx hb dL_law_585 rfl ?_
        refine wz_iadd hx hb dL_law_586 ?_
        refine wz_sld hx hb hX hbl hbA hS hL ⟨by omega, by omega⟩ dL_law_587 ?_
        refine wz_topi (show iI (sX xs (i + 3)) = iI v3 by rw [hv3]) ?_
        refine wz_if_eq (tgt := 595) hx hb dL_law_588 (by decide) (rv3) (fun c588 => ?_) (fun c588 => ?_)
        · skip
          refine lv_iconst (v := iI 0) hx hb dL_law_595 rfl ?_
          refine lv_aload_n hx hb dL_law_596 rfl (lv_at hl 1 rfl) ?_
          refine lv_iload hx hb dL_law_597 (lv_at hl 5 rfl) ?_
          refine lv_iconst (v := iI 4) hx hb dL_law_599 rfl ?_
          refine wz_iadd hx hb dL_law_600 ?_
          refine wz_sld hx hb hX hbl hbA hS hL ⟨by omega, by omega⟩ dL_law_601 ?_
          refine wz_topi (show iI (sX xs (i + 4)) = iI v4 by rw [hv4]) ?_
          refine wz_if_eq (tgt := 609) hx hb dL_law_602 (by decide) (rv4) (fun c602 => ?_) (fun c602 => ?_)
          · skip
            exfalso; omega
          · skip
            refine lv_iconst (v := iI 1) hx hb dL_law_605 rfl ?_
            refine lv_goto (tgt := 610) hx hb dL_law_606 (by decide) ?_
            refine wz_qcalll (wr := [(hd, .inr (6, [.ref rT, .ref rH, .ref rG, .ref rD, .ref rF])), (rT, .inl (cT, 4, .inr (.inr (.inr (.inr tr))))), (kTA, .inr (5, [.ref kWA, .int (iI sgA), .int (iI bdA)])), (kWA, .inr (2, [.ref kXA, .ref kYA, .ref kZA, .int (iI nA)])), (kXA, .inl (cI, 20, .inl (zA ftA))), (kYA, .inl (cI, 20, .inl (zA fxA))), (kZA, .inl (cI, 20, .inl (zA fyA))), (ro, .inl (cJ, 1, .inr (.inl (zJ fo1))))]) (va_runV (As := [.int (iI v1), .int (iI v2), .int (iI 0), .int (iI 1)]) (rest := []) ⟨hx, hb, hml, hown, hts⟩ (k_X7_place l D cI cJ cT H.size hm th mS mM mB mT mX mY mL sz1 mR at2 nu mt mx my fo mF mG mU mV lo lB hi hB1 fS fM fT fX fY v1 v2 0 1 hRG.1 hRG.2.1 hRG.2.2.2.1 hRG.2.2.2.2.1 hRG.2.2.2.2.2.1 hRG.2.2.2.2.2.2 (inc_all hIX hTA hTB hTC hTE) rv1 rv2 (by decide) (by decide)) (cwV 4 hts gL_law_X7_place rfl rfl rfl (by decide +kernel) ⟨Nat.le_of_ble_eq_true rfl, Nat.le_of_ble_eq_true rfl⟩) (wz_preV hK (vP_l hP1) (vD_l hD1) [7, 8, 9, 10, 11, 12] (by decide) rfl rfl 7 7 rfl rfl) rfl rfl hl.1 rfl (lv_room (Nat.le_of_ble_eq_true rfl)) dL_law_610 ⟨by have := hrm.1; omega, by have := hrm.2; omega⟩) hP1 hD1 hS hA [7, 8, 9, 10, 11, 12] [0, 1, 2, 3, 4, 5, 6, 13] rfl rfl rfl (by decide) (fun zb u H locs hw hP2a hD2a hS => ?_)
            obtain ⟨th2m, km⟩ := u
            try dsimp only at hw
            obtain ⟨hP2, hD2⟩ : va_P D vwCl ([(hd, .inr (6, [.ref rT, .ref rH, .ref rG, .ref rD, .ref rF])), (rT, .inl (cT, 4, .inr (.inr (.inr (.inr tr))))), (kTA, .inr (5, [.ref kWA, .int (iI sgA), .int (iI bdA)])), (kWA, .inr (2, [.ref kXA, .ref kYA, .ref kZA, .int (iI nA)])), (kXA, .inl (cI, 20, .inl (zA ftA))), (kYA, .inl (cI, 20, .inl (zA fxA))), (kZA, .inl (cI, 20, .inl (zA fyA))), (hm, .inr (7, [.int (iI th2m), .ref mS, .ref mM, .ref mB, .ref mT, .ref mX, .ref mY, .ref mL, .int (iI sz1), .ref mR, .int (iI at2), .long (lI nu), .ref mt, .ref mx, .ref my, .int (iI fo), .ref mF, .ref mG, .ref mU, .ref mV, .long (lI lo), .long (lI lB), .long (lI hi), .long (lI hB1)])), (mS, .inl (cI, 4, .inl (zA fS))), (mM, .inl (cI, 4, .inl (zA fM))), (mT, .inl (cI, 80, .inl (zA fT))), (mX, .inl (cI, 80, .inl (zA fX))), (mY, .inl (cI, 80, .inl (zA fY))), (ro, .inl (cJ, 1, .inr (.inl (zJ fo1))))] ++ pl) H ∧ va_D A ([(hd, .inr (6, [.ref rT, .ref rH, .ref rG, .ref rD, .ref rF])), (rT, .inl (cT, 4, .inr (.inr (.inr (.inr tr))))), (kTA, .inr (5, [.ref kWA, .int (iI sgA), .int (iI bdA)])), (kWA, .inr (2, [.ref kXA, .ref kYA, .ref kZA, .int (iI nA)])), (kXA, .inl (cI, 20, .inl (zA ftA))), (kYA, .inl (cI, 20, .inl (zA fxA))), (kZA, .inl (cI, 20, .inl (zA fyA))), (hm, .inr (7, [.int (iI th2m), .ref mS, .ref mM, .ref mB, .ref mT, .ref mX, .ref mY, .ref mL, .int (iI sz1), .ref mR, .int (iI at2), .long (lI nu), .ref mt, .ref mx, .ref my, .int (iI fo), .ref mF, .ref mG, .ref mU, .ref mV, .long (lI lo), .long (lI lB), .long (lI hi), .long (lI hB1)])), (mS, .inl (cI, 4, .inl (zA fS))), (mM, .inl (cI, 4, .inl (zA fM))), (mT, .inl (cI, 80, .inl (zA fT))), (mX, .inl (cI, 80, .inl (zA fX))), (mY, .inl (cI, 80, .inl (zA fY))), (ro, .inl (cJ, 1, .inr (.inl (zJ fo1))))] ++ pl) := pd_part hP2a hD2a [0, 1, 2, 3, 4, 5, 6, 8, 9, 10, 11, 12, 13, 7] (by decide +kernel) rfl
            have eth := t_place_x hF hTA hRG hk hw
            refine lv_lstore (lv' := [(6, .long (lI zb)), (5, .int (iI z5)), (0, .ref b), (1, .ref hd), (2, .ref hm), (3, .ref ro), (4, .int (iI i))]) hx hb dL_law_613 hl (by decide) rfl (fun ls hl => ?_)
            refine lv_aload_n hx hb dL_law_615 rfl (lv_at hl 4 rfl) ?_
            refine wz_qcalli (wr := [(hd, .inr (6, [.ref rT, .ref rH, .ref rG, .ref rD, .ref rF])), (rT, .inl (cT, 4, .inr (.inr (.inr (.inr tr))))), (kTA, .inr (5, [.ref kWA, .int (iI sgA), .int (iI bdA)])), (kWA, .inr (2, [.ref kXA, .ref kYA, .ref kZA, .int (iI nA)])), (kXA, .inl (cI, 20, .inl (zA ftA))), (kYA, .inl (cI, 20, .inl (zA fxA))), (kZA, .inl (cI, 20, .inl (zA fyA))), (mS, .inl (cI, 4, .inl (zA fS))), (mM, .inl (cI, 4, .inl (zA fM))), (mT, .inl (cI, 80, .inl (zA fT))), (mX, .inl (cI, 80, .inl (zA fX))), (mY, .inl (cI, 80, .inl (zA fY))), (ro, .inl (cJ, 1, .inr (.inl (zJ fo1))))]) (va_runV (As := []) (rest := []) ⟨hx, hb, hml, hown, hts⟩ (k_X7_thrown l D cI cJ cT H.size hm th2m mS mM mB mT mX mY mL sz1 mR at2 nu mt mx my fo mF mG mU mV lo lB hi hB1 ) (cwV 0 hts gL_law_X7_thrown rfl rfl rfl (by decide +kernel) ⟨Nat.le_of_ble_eq_true rfl, Nat.le_of_ble_eq_true rfl⟩) (wz_preV hK (vP_l hP2) (vD_l hD2) [7] (by decide) rfl rfl 7 7 rfl rfl) rfl rfl hl.1 rfl (lv_room (Nat.le_of_ble_eq_true rfl)) dL_law_616 ⟨by have := hrm.1; omega, by have := hrm.2; omega⟩) hP2 hD2 hS hA [7] [0, 1, 2, 3, 4, 5, 6, 8, 9, 10, 11, 12, 13] rfl rfl rfl (by decide) (fun zt u H locs ht9 hP3a hD3a hS => ?_)
            try dsimp only at ht9
            obtain ⟨hP3, hD3⟩ : va_P D vwCl ([(hd, .inr (6, [.ref rT, .ref rH, .ref rG, .ref rD, .ref rF])), (rT, .inl (cT, 4, .inr (.inr (.inr (.inr tr))))), (kTA, .inr (5, [.ref kWA, .int (iI sgA), .int (iI bdA)])), (kWA, .inr (2, [.ref kXA, .ref kYA, .ref kZA, .int (iI nA)])), (kXA, .inl (cI, 20, .inl (zA ftA))), (kYA, .inl (cI, 20, .inl (zA fxA))), (kZA, .inl (cI, 20, .inl (zA fyA))), (hm, .inr (7, [.int (iI th2m), .ref mS, .ref mM, .ref mB, .ref mT, .ref mX, .ref mY, .ref mL, .int (iI sz1), .ref mR, .int (iI at2), .long (lI nu), .ref mt, .ref mx, .ref my, .int (iI fo), .ref mF, .ref mG, .ref mU, .ref mV, .long (lI lo), .long (lI lB), .long (lI hi), .long (lI hB1)])), (mS, .inl (cI, 4, .inl (zA fS))), (mM, .inl (cI, 4, .inl (zA fM))), (mT, .inl (cI, 80, .inl (zA fT))), (mX, .inl (cI, 80, .inl (zA fX))), (mY, .inl (cI, 80, .inl (zA fY))), (ro, .inl (cJ, 1, .inr (.inl (zJ fo1))))] ++ pl) H ∧ va_D A ([(hd, .inr (6, [.ref rT, .ref rH, .ref rG, .ref rD, .ref rF])), (rT, .inl (cT, 4, .inr (.inr (.inr (.inr tr))))), (kTA, .inr (5, [.ref kWA, .int (iI sgA), .int (iI bdA)])), (kWA, .inr (2, [.ref kXA, .ref kYA, .ref kZA, .int (iI nA)])), (kXA, .inl (cI, 20, .inl (zA ftA))), (kYA, .inl (cI, 20, .inl (zA fxA))), (kZA, .inl (cI, 20, .inl (zA fyA))), (hm, .inr (7, [.int (iI th2m), .ref mS, .ref mM, .ref mB, .ref mT, .ref mX, .ref mY, .ref mL, .int (iI sz1), .ref mR, .int (iI at2), .long (lI nu), .ref mt, .ref mx, .ref my, .int (iI fo), .ref mF, .ref mG, .ref mU, .ref mV, .long (lI lo), .long (lI lB), .long (lI hi), .long (lI hB1)])), (mS, .inl (cI, 4, .inl (zA fS))), (mM, .inl (cI, 4, .inl (zA fM))), (mT, .inl (cI, 80, .inl (zA fT))), (mX, .inl (cI, 80, .inl (zA fX))), (mY, .inl (cI, 80, .inl (zA fY))), (ro, .inl (cJ, 1, .inr (.inl (zJ fo1))))] ++ pl) := pd_part hP3a hD3a [0, 1, 2, 3, 4, 5, 6, 13, 7, 8, 9, 10, 11, 12] (by decide +kernel) rfl
            refine wz_topi (show iI zt = iI th2m by rw [ht9]) ?_
            refine lv_iload hx hb dL_law_619 (lv_at hl 1 rfl) ?_
            refine wz_topi (show iI z5 = iI th2m by rw [eth]) ?_
            refine lv_icmp_eq (tgt := 626) hx hb dL_law_621 (by decide) (fun _ => ?_) (fun q => absurd rfl q)
            refine lv_iload hx hb dL_law_626 (lv_at hl 1 rfl) ?_
            refine wz_if_ne (tgt := 642) hx hb dL_law_628 (by decide) ⟨by omega, by omega⟩ (fun _ => ?_) (fun q => (by exfalso; omega))
            refine lv_goto (tgt := 1103) hx hb dL_law_642 (by decide) ?_
            refine W.widen (k := cells + 3) (n := slots + 18) (by omega) (by omega) ?_
            exact K hP3 hD3 hS (lv_sub hl [2, 3, 4, 5, 6] rfl) hTA hTB hTC hTE hRG hBY hRD hSP
        · skip
          exfalso; omega
      · skip
        obtain ⟨zc, u⟩ := v
        obtain ⟨kc, rfl⟩ : ∃ w, w = u := ⟨_, rfl⟩
        obtain ⟨e5, hc⟩ := hw
        subst e5
        try dsimp only at hc
        obtain ⟨hP1, hD1⟩ : va_P D vwCl ([(hd, .inr (6, [.ref rT, .ref rH, .ref rG, .ref rD, .ref rF])), (rT, .inl (cT, 4, .inr (.inr (.inr (.inr tr))))), (kTA, .inr (5, [.ref kWA, .int (iI sgA), .int (iI bdA)])), (kWA, .inr (2, [.ref kXA, .ref kYA, .ref kZA, .int (iI nA)])), (kXA, .inl (cI, 20, .inl (zA ftA))), (kYA, .inl (cI, 20, .inl (zA fxA))), (kZA, .inl (cI, 20, .inl (zA fyA))), (hm, .inr (7, [.int (iI th), .ref mS, .ref mM, .ref mB, .ref mT, .ref mX, .ref mY, .ref mL, .int (iI sz1), .ref mR, .int (iI at2), .long (lI nu), .ref mt, .ref mx, .ref my, .int (iI fo), .ref mF, .ref mG, .ref mU, .ref mV, .long (lI lo), .long (lI lB), .long (lI hi), .long (lI hB1)])), (mS, .inl (cI, 4, .inl (zA fS))), (mM, .inl (cI, 4, .inl (zA fM))), (mT, .inl (cI, 80, .inl (zA fT))), (mX, .inl (cI, 80, .inl (zA fX))), (mY, .inl (cI, 80, .inl (zA fY))), (ro, .inl (cJ, 1, .inr (.inl (zJ (uZ fo1 0 zc)))))] ++ pl) H ∧ va_D A ([(hd, .inr (6, [.ref rT, .ref rH, .ref rG, .ref rD, .ref rF])), (rT, .inl (cT, 4, .inr (.inr (.inr (.inr tr))))), (kTA, .inr (5, [.ref kWA, .int (iI sgA), .int (iI bdA)])), (kWA, .inr (2, [.ref kXA, .ref kYA, .ref kZA, .int (iI nA)])), (kXA, .inl (cI, 20, .inl (zA ftA))), (kYA, .inl (cI, 20, .inl (zA fxA))), (kZA, .inl (cI, 20, .inl (zA fyA))), (hm, .inr (7, [.int (iI th), .ref mS, .ref mM, .ref mB, .ref mT, .ref mX, .ref mY, .ref mL, .int (iI sz1), .ref mR, .int (iI at2), .long (lI nu), .ref mt, .ref mx, .ref my, .int (iI fo), .ref mF, .ref mG, .ref mU, .ref mV, .long (lI lo), .long (lI lB), .long (lI hi), .long (lI hB1)])), (mS, .inl (cI, 4, .inl (zA fS))), (mM, .inl (cI, 4, .inl (zA fM))), (mT, .inl (cI, 80, .inl (zA fT))), (mX, .inl (cI, 80, .inl (zA fX))), (mY, .inl (cI, 80, .inl (zA fY))), (ro, .inl (cJ, 1, .inr (.inl (zJ (uZ fo1 0 zc)))))] ++ pl) := pd_part hPa hDa [6, 7, 8, 9, 10, 11, 12, 0, 1, 2, 3, 4, 5, 13] (by decide +kernel) rfl
        refine lv_istore (lv' := [(5, .int (iI 0)), (0, .ref b), (1, .ref hd), (2, .ref hm), (3, .ref ro), (4, .int (iI i))]) hx hb dL_law_567 hl (by decide) rfl (fun ls hl => ?_)
        refine lv_aload_n hx hb dL_law_569 rfl (lv_at hl 3 rfl) ?_
        refine lv_aload_n hx hb dL_law_570 rfl (lv_at hl 1 rfl) ?_
        refine lv_iload hx hb dL_law_571 (lv_at hl 5 rfl) ?_
        refine lv_iconst (v := iI 1) hx hb dL_law_573 rfl ?_
        refine wz_iadd hx hb dL_law_574 ?_
        refine wz_sld hx hb hX hbl hbA hS hL ⟨by omega, by omega⟩ dL_law_575 ?_
        refine wz_topi (show iI (sX xs (i + 1)) = iI v1 by rw [hv1]) ?_
        refine lv_aload_n hx hb dL_law_576 rfl (lv_at hl 1 rfl) ?_
        refine lv_iload hx hb dL_law_577 (lv_at hl 5 rfl) ?_
        refine lv_iconst (v := iI 2) hx hb dL_law_579 rfl ?_
        refine wz_iadd hx hb dL_law_580 ?_
        refine wz_sld hx hb hX hbl hbA hS hL ⟨by omega, by omega⟩ dL_law_581 ?_
        refine wz_topi (show iI (sX xs (i + 2)) = iI v2 by rw [hv2]) ?_
        refine lv_aload_n hx hb dL_law_582 rfl (lv_at hl 1 rfl) ?_
        refine lv_iload hx hb dL_law_583 (lv_at hl 5 rfl) ?_
        refine lv_iconst (v := iI 3) hx hb dL_law_585 rfl ?_
        refine wz_iadd hx hb dL_law_586 ?_
        refine wz_sld hx hb hX hbl hbA hS hL ⟨by omega, by omega⟩ dL_law_587 ?_
        refine wz_topi (show iI (sX xs (i + 3)) = iI v3 by rw [hv3]) ?_
        refine wz_if_eq (tgt := 595) hx hb dL_law_588 (by decide) (rv3) (fun c588 => ?_) (fun c588 => ?_)
        · skip
          refine lv_iconst (v := iI 0) hx hb dL_law_595 rfl ?_
          refine lv_aload_n hx hb dL_law_596 rfl (lv_at hl 1 rfl) ?_
          refine lv_iload hx hb dL_law_597 (lv_at hl 5 rfl) ?_
          refine lv_iconst (v := iI 4) hx hb dL_law_599 rfl ?_
          refine wz_iadd hx hb dL_law_600 ?_
          refine wz_sld hx hb hX hbl hbA hS hL ⟨by omega, by omega⟩ dL_law_601 ?_
          refine wz_topi (show iI (sX xs (i + 4)) = iI v4 by rw [hv4]) ?_
          refine wz_if_eq (tgt := 609) hx hb dL_law_602 (by decide) (rv4) (fun c602 => ?_) (fun c602 => ?_)
          · skip
            exfalso; omega
          · skip
            refine lv_iconst (v := iI 1) hx hb dL_law_605 rfl ?_
            refine lv_goto (tgt := 610) hx hb dL_law_606 (by decide) ?_
            refine wz_qcalll (wr := [(hd, .inr (6, [.ref rT, .ref rH, .ref rG, .ref rD, .ref rF])), (rT, .inl (cT, 4, .inr (.inr (.inr (.inr tr))))), (kTA, .inr (5, [.ref kWA, .int (iI sgA), .int (iI bdA)])), (kWA, .inr (2, [.ref kXA, .ref kYA, .ref kZA, .int (iI nA)])), (kXA, .inl (cI, 20, .inl (zA ftA))), (kYA, .inl (cI, 20, .inl (zA fxA))), (kZA, .inl (cI, 20, .inl (zA fyA))), (ro, .inl (cJ, 1, .inr (.inl (zJ (uZ fo1 0 zc)))))]) (va_runV (As := [.int (iI v1), .int (iI v2), .int (iI 0), .int (iI 1)]) (rest := []) ⟨hx, hb, hml, hown, hts⟩ (k_X7_place l D cI cJ cT H.size hm th mS mM mB mT mX mY mL sz1 mR at2 nu mt mx my fo mF mG mU mV lo lB hi hB1 fS fM fT fX fY v1 v2 0 1 hRG.1 hRG.2.1 hRG.2.2.2.1 hRG.2.2.2.2.1 hRG.2.2.2.2.2.1 hRG.2.2.2.2.2.2 (inc_all hIX hTA hTB hTC hTE) rv1 rv2 (by decide) (by decide)) (cwV 4 hts gL_law_X7_place rfl rfl rfl (by decide +kernel) ⟨Nat.le_of_ble_eq_true rfl, Nat.le_of_ble_eq_true rfl⟩) (wz_preV hK (vP_l hP1) (vD_l hD1) [7, 8, 9, 10, 11, 12] (by decide) rfl rfl 7 7 rfl rfl) rfl rfl hl.1 rfl (lv_room (Nat.le_of_ble_eq_true rfl)) dL_law_610 ⟨by have := hrm.1; omega, by have := hrm.2; omega⟩) hP1 hD1 hS hA [7, 8, 9, 10, 11, 12] [0, 1, 2, 3, 4, 5, 6, 13] rfl rfl rfl (by decide) (fun zb u H locs hw hP2a hD2a hS => ?_)
            obtain ⟨th2m, km⟩ := u
            try dsimp only at hw
            obtain ⟨hP2, hD2⟩ : va_P D vwCl ([(hd, .inr (6, [.ref rT, .ref rH, .ref rG, .ref rD, .ref rF])), (rT, .inl (cT, 4, .inr (.inr (.inr (.inr tr))))), (kTA, .inr (5, [.ref kWA, .int (iI sgA), .int (iI bdA)])), (kWA, .inr (2, [.ref kXA, .ref kYA, .ref kZA, .int (iI nA)])), (kXA, .inl (cI, 20, .inl (zA ftA))), (kYA, .inl (cI, 20, .inl (zA fxA))), (kZA, .inl (cI, 20, .inl (zA fyA))), (hm, .inr (7, [.int (iI th2m), .ref mS, .ref mM, .ref mB, .ref mT, .ref mX, .ref mY, .ref mL, .int (iI sz1), .ref mR, .int (iI at2), .long (lI nu), .ref mt, .ref mx, .ref my, .int (iI fo), .ref mF, .ref mG, .ref mU, .ref mV, .long (lI lo), .long (lI lB), .long (lI hi), .long (lI hB1)])), (mS, .inl (cI, 4, .inl (zA fS))), (mM, .inl (cI, 4, .inl (zA fM))), (mT, .inl (cI, 80, .inl (zA fT))), (mX, .inl (cI, 80, .inl (zA fX))), (mY, .inl (cI, 80, .inl (zA fY))), (ro, .inl (cJ, 1, .inr (.inl (zJ (uZ fo1 0 zc)))))] ++ pl) H ∧ va_D A ([(hd, .inr (6, [.ref rT, .ref rH, .ref rG, .ref rD, .ref rF])), (rT, .inl (cT, 4, .inr (.inr (.inr (.inr tr))))), (kTA, .inr (5, [.ref kWA, .int (iI sgA), .int (iI bdA)])), (kWA, .inr (2, [.ref kXA, .ref kYA, .ref kZA, .int (iI nA)])), (kXA, .inl (cI, 20, .inl (zA ftA))), (kYA, .inl (cI, 20, .inl (zA fxA))), (kZA, .inl (cI, 20, .inl (zA fyA))), (hm, .inr (7, [.int (iI th2m), .ref mS, .ref mM, .ref mB, .ref mT, .ref mX, .ref mY, .ref mL, .int (iI sz1), .ref mR, .int (iI at2), .long (lI nu), .ref mt, .ref mx, .ref my, .int (iI fo), .ref mF, .ref mG, .ref mU, .ref mV, .long (lI lo), .long (lI lB), .long (lI hi), .long (lI hB1)])), (mS, .inl (cI, 4, .inl (zA fS))), (mM, .inl (cI, 4, .inl (zA fM))), (mT, .inl (cI, 80, .inl (zA fT))), (mX, .inl (cI, 80, .inl (zA fX))), (mY, .inl (cI, 80, .inl (zA fY))), (ro, .inl (cJ, 1, .inr (.inl (zJ (uZ fo1 0 zc)))))] ++ pl) := pd_part hP2a hD2a [0, 1, 2, 3, 4, 5, 6, 8, 9, 10, 11, 12, 13, 7] (by decide +kernel) rfl
            obtain ⟨eth, ezb⟩ := t_place_r hF hTA hRG hc hw
            refine lv_lstore (lv' := [(6, .long (lI zb)), (5, .int (iI 0)), (0, .ref b), (1, .ref hd), (2, .ref hm), (3, .ref ro), (4, .int (iI i))]) hx hb dL_law_613 hl (by decide) rfl (fun ls hl => ?_)
            refine lv_aload_n hx hb dL_law_615 rfl (lv_at hl 4 rfl) ?_
            refine wz_qcalli (wr := [(hd, .inr (6, [.ref rT, .ref rH, .ref rG, .ref rD, .ref rF])), (rT, .inl (cT, 4, .inr (.inr (.inr (.inr tr))))), (kTA, .inr (5, [.ref kWA, .int (iI sgA), .int (iI bdA)])), (kWA, .inr (2, [.ref kXA, .ref kYA, .ref kZA, .int (iI nA)])), (kXA, .inl (cI, 20, .inl (zA ftA))), (kYA, .inl (cI, 20, .inl (zA fxA))), (kZA, .inl (cI, 20, .inl (zA fyA))), (mS, .inl (cI, 4, .inl (zA fS))), (mM, .inl (cI, 4, .inl (zA fM))), (mT, .inl (cI, 80, .inl (zA fT))), (mX, .inl (cI, 80, .inl (zA fX))), (mY, .inl (cI, 80, .inl (zA fY))), (ro, .inl (cJ, 1, .inr (.inl (zJ (uZ fo1 0 zc)))))]) (va_runV (As := []) (rest := []) ⟨hx, hb, hml, hown, hts⟩ (k_X7_thrown l D cI cJ cT H.size hm th2m mS mM mB mT mX mY mL sz1 mR at2 nu mt mx my fo mF mG mU mV lo lB hi hB1 ) (cwV 0 hts gL_law_X7_thrown rfl rfl rfl (by decide +kernel) ⟨Nat.le_of_ble_eq_true rfl, Nat.le_of_ble_eq_true rfl⟩) (wz_preV hK (vP_l hP2) (vD_l hD2) [7] (by decide) rfl rfl 7 7 rfl rfl) rfl rfl hl.1 rfl (lv_room (Nat.le_of_ble_eq_true rfl)) dL_law_616 ⟨by have := hrm.1; omega, by have := hrm.2; omega⟩) hP2 hD2 hS hA [7] [0, 1, 2, 3, 4, 5, 6, 8, 9, 10, 11, 12, 13] rfl rfl rfl (by decide) (fun zt u H locs ht9 hP3a hD3a hS => ?_)
            try dsimp only at ht9
            obtain ⟨hP3, hD3⟩ : va_P D vwCl ([(hd, .inr (6, [.ref rT, .ref rH, .ref rG, .ref rD, .ref rF])), (rT, .inl (cT, 4, .inr (.inr (.inr (.inr tr))))), (kTA, .inr (5, [.ref kWA, .int (iI sgA), .int (iI bdA)])), (kWA, .inr (2, [.ref kXA, .ref kYA, .ref kZA, .int (iI nA)])), (kXA, .inl (cI, 20, .inl (zA ftA))), (kYA, .inl (cI, 20, .inl (zA fxA))), (kZA, .inl (cI, 20, .inl (zA fyA))), (hm, .inr (7, [.int (iI th2m), .ref mS, .ref mM, .ref mB, .ref mT, .ref mX, .ref mY, .ref mL, .int (iI sz1), .ref mR, .int (iI at2), .long (lI nu), .ref mt, .ref mx, .ref my, .int (iI fo), .ref mF, .ref mG, .ref mU, .ref mV, .long (lI lo), .long (lI lB), .long (lI hi), .long (lI hB1)])), (mS, .inl (cI, 4, .inl (zA fS))), (mM, .inl (cI, 4, .inl (zA fM))), (mT, .inl (cI, 80, .inl (zA fT))), (mX, .inl (cI, 80, .inl (zA fX))), (mY, .inl (cI, 80, .inl (zA fY))), (ro, .inl (cJ, 1, .inr (.inl (zJ (uZ fo1 0 zc)))))] ++ pl) H ∧ va_D A ([(hd, .inr (6, [.ref rT, .ref rH, .ref rG, .ref rD, .ref rF])), (rT, .inl (cT, 4, .inr (.inr (.inr (.inr tr))))), (kTA, .inr (5, [.ref kWA, .int (iI sgA), .int (iI bdA)])), (kWA, .inr (2, [.ref kXA, .ref kYA, .ref kZA, .int (iI nA)])), (kXA, .inl (cI, 20, .inl (zA ftA))), (kYA, .inl (cI, 20, .inl (zA fxA))), (kZA, .inl (cI, 20, .inl (zA fyA))), (hm, .inr (7, [.int (iI th2m), .ref mS, .ref mM, .ref mB, .ref mT, .ref mX, .ref mY, .ref mL, .int (iI sz1), .ref mR, .int (iI at2), .long (lI nu), .ref mt, .ref mx, .ref my, .int (iI fo), .ref mF, .ref mG, .ref mU, .ref mV, .long (lI lo), .long (lI lB), .long (lI hi), .long (lI hB1)])), (mS, .inl (cI, 4, .inl (zA fS))), (mM, .inl (cI, 4, .inl (zA fM))), (mT, .inl (cI, 80, .inl (zA fT))), (mX, .inl (cI, 80, .inl (zA fX))), (mY, .inl (cI, 80, .inl (zA fY))), (ro, .inl (cJ, 1, .inr (.inl (zJ (uZ fo1 0 zc)))))] ++ pl) := pd_part hP3a hD3a [0, 1, 2, 3, 4, 5, 6, 13, 7, 8, 9, 10, 11, 12] (by decide +kernel) rfl
            refine wz_topi (show iI zt = iI th2m by rw [ht9]) ?_
            refine lv_iload hx hb dL_law_619 (lv_at hl 1 rfl) ?_
            refine wz_topi (show iI 0 = iI th2m by rw [eth]) ?_
            refine lv_icmp_eq (tgt := 626) hx hb dL_law_621 (by decide) (fun _ => ?_) (fun q => absurd rfl q)
            refine lv_iload hx hb dL_law_626 (lv_at hl 1 rfl) ?_
            refine wz_if_ne (tgt := 642) hx hb dL_law_628 (by decide) (by decide) (fun q => absurd rfl q) (fun _ => ?_)
            refine lv_aload_n hx hb dL_law_631 rfl (lv_at hl 5 rfl) ?_
            refine lv_iconst (v := iI 0) hx hb dL_law_632 rfl ?_
            refine wz_lald (tys := TY cI cJ cT) hx hb hK (vP_l hP3) 13 1 rfl rfl (by decide) (by decide) dL_law_633 ?_
            refine wz_topl (y := lI zc) (by rw [uZ_s]) ?_
            refine lv_lload hx hb dL_law_634 (lv_at hl 0 rfl) ?_
            refine wz_topl (show lI zb = lI zc by rw [ezb]) ?_
            refine W.lcmp hx hb dL_law_636 ?_
            refine wz_lraw_eq (tgt := 642) hx hb dL_law_637 (by decide) (fun _ => ?_) (fun q => absurd rfl q)
            refine lv_goto (tgt := 1103) hx hb dL_law_642 (by decide) ?_
            refine W.widen (k := cells + 3) (n := slots + 18) (by omega) (by omega) ?_
            exact K hP3 hD3 hS (lv_sub hl [2, 3, 4, 5, 6] rfl) hTA hTB hTC hTE hRG hBY hRD hSP
        · skip
          exfalso; omega
  · skip
    refine lv_iconst (v := iI 1) hx hb dL_law_544 rfl ?_
    refine lv_goto (tgt := 549) hx hb dL_law_545 (by decide) ?_
    refine lv_aload_n hx hb dL_law_549 rfl (lv_at hl 0 rfl) ?_
    refine lv_iload hx hb dL_law_550 (lv_at hl 4 rfl) ?_
    refine lv_iconst (v := iI 4) hx hb dL_law_552 rfl ?_
    refine wz_iadd hx hb dL_law_553 ?_
    refine wz_sld hx hb hX hbl hbA hS hL ⟨by omega, by omega⟩ dL_law_554 ?_
    refine wz_topi (show iI (sX xs (i + 4)) = iI v4 by rw [hv4]) ?_
    refine wz_if_eq (tgt := 562) hx hb dL_law_555 (by decide) (rv4) (fun c555 => ?_) (fun c555 => ?_)
    · skip
      refine lv_iconst (v := iI 0) hx hb dL_law_562 rfl ?_
      refine lv_aload_n hx hb dL_law_563 rfl (lv_at hl 3 rfl) ?_
      refine wz_qhcalli (wr := [(hm, .inr (7, [.int (iI th), .ref mS, .ref mM, .ref mB, .ref mT, .ref mX, .ref mY, .ref mL, .int (iI sz1), .ref mR, .int (iI at2), .long (lI nu), .ref mt, .ref mx, .ref my, .int (iI fo), .ref mF, .ref mG, .ref mU, .ref mV, .long (lI lo), .long (lI lB), .long (lI hi), .long (lI hB1)])), (mS, .inl (cI, 4, .inl (zA fS))), (mM, .inl (cI, 4, .inl (zA fM))), (mT, .inl (cI, 80, .inl (zA fT))), (mX, .inl (cI, 80, .inl (zA fX))), (mY, .inl (cI, 80, .inl (zA fY)))]) (vx_runSX (As := [.ref hd, .int (iI v1), .int (iI v2), .int (iI 1), .int (iI 0), .ref ro]) (rest := []) ⟨hx, hb, hml, hown, hts⟩ (k_L_place l hLt sa D cI cJ cT H.size hd rT rH rG rD rF tr kTA kWA sgA bdA kXA kYA kZA ftA fxA fyA nA v1 v2 1 0 ro fo1 rv1 (fun w => (congrArg (fun z : Int => tr z.toNat) (hF w)).trans hIX.2.2.1) (⟨by omega, by omega⟩) (fun q => ⟨⟨(hTA.2.2.1 q).2, g4⟩, hTA.2.2.2.2.2.1⟩) (⟨g3, g4⟩) hTA.2.2.2.2.2.2.1.1 hTA.2.2.2.2.2.2.1.2.1 hTA.2.2.2.2.2.2.1.2.2 rv2 (by decide) (by decide)) (vx_cwSW 6 hts gL_law_L_place rfl rfl rfl (by decide +kernel) ⟨Nat.le_of_ble_eq_true rfl, Nat.le_of_ble_eq_true rfl⟩) (wz_preSy hK (vP_l hP) (vD_l hD) hTV hThC hTH hS hA [0, 1, 2, 3, 4, 5, 6, 13] (by decide) rfl rfl) rfl rfl hl.1 rfl (lv_room (Nat.le_of_ble_eq_true rfl)) dL_law_564 ⟨by have := hrm.1; omega, by have := hrm.2; omega⟩) hP hD hS hA [0, 1, 2, 3, 4, 5, 6, 13] [7, 8, 9, 10, 11, 12] rfl rfl rfl (by decide) (fun z5 v H locs hw hPa hDa hS => ?_)
      rcases v with k5 | v
      · skip
        obtain ⟨e5, hk⟩ := hw
        subst e5
        obtain ⟨hP1, hD1⟩ : va_P D vwCl ([(hd, .inr (6, [.ref rT, .ref rH, .ref rG, .ref rD, .ref rF])), (rT, .inl (cT, 4, .inr (.inr (.inr (.inr tr))))), (kTA, .inr (5, [.ref kWA, .int (iI sgA), .int (iI bdA)])), (kWA, .inr (2, [.ref kXA, .ref kYA, .ref kZA, .int (iI nA)])), (kXA, .inl (cI, 20, .inl (zA ftA))), (kYA, .inl (cI, 20, .inl (zA fxA))), (kZA, .inl (cI, 20, .inl (zA fyA))), (hm, .inr (7, [.int (iI th), .ref mS, .ref mM, .ref mB, .ref mT, .ref mX, .ref mY, .ref mL, .int (iI sz1), .ref mR, .int (iI at2), .long (lI nu), .ref mt, .ref mx, .ref my, .int (iI fo), .ref mF, .ref mG, .ref mU, .ref mV, .long (lI lo), .long (lI lB), .long (lI hi), .long (lI hB1)])), (mS, .inl (cI, 4, .inl (zA fS))), (mM, .inl (cI, 4, .inl (zA fM))), (mT, .inl (cI, 80, .inl (zA fT))), (mX, .inl (cI, 80, .inl (zA fX))), (mY, .inl (cI, 80, .inl (zA fY))), (ro, .inl (cJ, 1, .inr (.inl (zJ fo1))))] ++ pl) H ∧ va_D A ([(hd, .inr (6, [.ref rT, .ref rH, .ref rG, .ref rD, .ref rF])), (rT, .inl (cT, 4, .inr (.inr (.inr (.inr tr))))), (kTA, .inr (5, [.ref kWA, .int (iI sgA), .int (iI bdA)])), (kWA, .inr (2, [.ref kXA, .ref kYA, .ref kZA, .int (iI nA)])), (kXA, .inl (cI, 20, .inl (zA ftA))), (kYA, .inl (cI, 20, .inl (zA fxA))), (kZA, .inl (cI, 20, .inl (zA fyA))), (hm, .inr (7, [.int (iI th), .ref mS, .ref mM, .ref mB, .ref mT, .ref mX, .ref mY, .ref mL, .int (iI sz1), .ref mR, .int (iI at2), .long (lI nu), .ref mt, .ref mx, .ref my, .int (iI fo), .ref mF, .ref mG, .ref mU, .ref mV, .long (lI lo), .long (lI lB), .long (lI hi), .long (lI hB1)])), (mS, .inl (cI, 4, .inl (zA fS))), (mM, .inl (cI, 4, .inl (zA fM))), (mT, .inl (cI, 80, .inl (zA fT))), (mX, .inl (cI, 80, .inl (zA fX))), (mY, .inl (cI, 80, .inl (zA fY))), (ro, .inl (cJ, 1, .inr (.inl (zJ fo1))))] ++ pl) := pd_part hPa hDa [6, 7, 8, 9, 10, 11, 12, 0, 1, 2, 3, 4, 5, 13] (by decide +kernel) rfl
        obtain ⟨k51, k52⟩ : 1 ≤ z5 ∧ z5 ≤ 3 := by rcases hk with ⟨q, -⟩ | ⟨q, -⟩ | ⟨q, -⟩ <;> omega
        refine lv_istore (lv' := [(5, .int (iI z5)), (0, .ref b), (1, .ref hd), (2, .ref hm), (3, .ref ro), (4, .int (iI i))]) hx hb dL_law_567 hl (by decide) rfl (fun ls hl => ?_)
        refine lv_aload_n hx hb dL_law_569 rfl (lv_at hl 3 rfl) ?_
        refine lv_aload_n hx hb dL_law_570 rfl (lv_at hl 1 rfl) ?_
        refine lv_iload hx hb dL_law_571 (lv_at hl 5 rfl) ?_
        refine lv_iconst (v := iI 1) hx hb dL_law_573 rfl ?_
        refine wz_iadd hx hb dL_law_574 ?_
        refine wz_sld hx hb hX hbl hbA hS hL ⟨by omega, by omega⟩ dL_law_575 ?_
        refine wz_topi (show iI (sX xs (i + 1)) = iI v1 by rw [hv1]) ?_
        refine lv_aload_n hx hb dL_law_576 rfl (lv_at hl 1 rfl) ?_
        refine lv_iload hx hb dL_law_577 (lv_at hl 5 rfl) ?_
        refine lv_iconst (v := iI 2) hx hb dL_law_579 rfl ?_
        refine wz_iadd hx hb dL_law_580 ?_
        refine wz_sld hx hb hX hbl hbA hS hL ⟨by omega, by omega⟩ dL_law_581 ?_
        refine wz_topi (show iI (sX xs (i + 2)) = iI v2 by rw [hv2]) ?_
        refine lv_aload_n hx hb dL_law_582 rfl (lv_at hl 1 rfl) ?_
        refine lv_iload hx hb dL_law_583 (lv_at hl 5 rfl) ?_
        refine lv_iconst (v := iI 3) hx hb dL_law_585 rfl ?_
        refine wz_iadd hx hb dL_law_586 ?_
        refine wz_sld hx hb hX hbl hbA hS hL ⟨by omega, by omega⟩ dL_law_587 ?_
        refine wz_topi (show iI (sX xs (i + 3)) = iI v3 by rw [hv3]) ?_
        refine wz_if_eq (tgt := 595) hx hb dL_law_588 (by decide) (rv3) (fun c588 => ?_) (fun c588 => ?_)
        · skip
          exfalso; omega
        · skip
          refine lv_iconst (v := iI 1) hx hb dL_law_591 rfl ?_
          refine lv_goto (tgt := 596) hx hb dL_law_592 (by decide) ?_
          refine lv_aload_n hx hb dL_law_596 rfl (lv_at hl 1 rfl) ?_
          refine lv_iload hx hb dL_law_597 (lv_at hl 5 rfl) ?_
          refine lv_iconst (v := iI 4) hx hb dL_law_599 rfl ?_
          refine wz_iadd hx hb dL_law_600 ?_
          refine wz_sld hx hb hX hbl hbA hS hL ⟨by omega, by omega⟩ dL_law_601 ?_
          refine wz_topi (show iI (sX xs (i + 4)) = iI v4 by rw [hv4]) ?_
          refine wz_if_eq (tgt := 609) hx hb dL_law_602 (by decide) (rv4) (fun c602 => ?_) (fun c602 => ?_)
          · skip
            refine lv_iconst (v := iI 0) hx hb dL_law_609 rfl ?_
            refine wz_qcalll (wr := [(hd, .inr (6, [.ref rT, .ref rH, .ref rG, .ref rD, .ref rF])), (rT, .inl (cT, 4, .inr (.inr (.inr (.inr tr))))), (kTA, .inr (5, [.ref kWA, .int (iI sgA), .int (iI bdA)])), (kWA, .inr (2, [.ref kXA, .ref kYA, .ref kZA, .int (iI nA)])), (kXA, .inl (cI, 20, .inl (zA ftA))), (kYA, .inl (cI, 20, .inl (zA fxA))), (kZA, .inl (cI, 20, .inl (zA fyA))), (ro, .inl (cJ, 1, .inr (.inl (zJ fo1))))]) (va_runV (As := [.int (iI v1), .int (iI v2), .int (iI 1), .int (iI 0)]) (rest := []) ⟨hx, hb, hml, hown, hts⟩ (k_X7_place l D cI cJ cT H.size hm th mS mM mB mT mX mY mL sz1 mR at2 nu mt mx my fo mF mG mU mV lo lB hi hB1 fS fM fT fX fY v1 v2 1 0 hRG.1 hRG.2.1 hRG.2.2.2.1 hRG.2.2.2.2.1 hRG.2.2.2.2.2.1 hRG.2.2.2.2.2.2 (inc_all hIX hTA hTB hTC hTE) rv1 rv2 (by decide) (by decide)) (cwV 4 hts gL_law_X7_place rfl rfl rfl (by decide +kernel) ⟨Nat.le_of_ble_eq_true rfl, Nat.le_of_ble_eq_true rfl⟩) (wz_preV hK (vP_l hP1) (vD_l hD1) [7, 8, 9, 10, 11, 12] (by decide) rfl rfl 7 7 rfl rfl) rfl rfl hl.1 rfl (lv_room (Nat.le_of_ble_eq_true rfl)) dL_law_610 ⟨by have := hrm.1; omega, by have := hrm.2; omega⟩) hP1 hD1 hS hA [7, 8, 9, 10, 11, 12] [0, 1, 2, 3, 4, 5, 6, 13] rfl rfl rfl (by decide) (fun zb u H locs hw hP2a hD2a hS => ?_)
            obtain ⟨th2m, km⟩ := u
            try dsimp only at hw
            obtain ⟨hP2, hD2⟩ : va_P D vwCl ([(hd, .inr (6, [.ref rT, .ref rH, .ref rG, .ref rD, .ref rF])), (rT, .inl (cT, 4, .inr (.inr (.inr (.inr tr))))), (kTA, .inr (5, [.ref kWA, .int (iI sgA), .int (iI bdA)])), (kWA, .inr (2, [.ref kXA, .ref kYA, .ref kZA, .int (iI nA)])), (kXA, .inl (cI, 20, .inl (zA ftA))), (kYA, .inl (cI, 20, .inl (zA fxA))), (kZA, .inl (cI, 20, .inl (zA fyA))), (hm, .inr (7, [.int (iI th2m), .ref mS, .ref mM, .ref mB, .ref mT, .ref mX, .ref mY, .ref mL, .int (iI sz1), .ref mR, .int (iI at2), .long (lI nu), .ref mt, .ref mx, .ref my, .int (iI fo), .ref mF, .ref mG, .ref mU, .ref mV, .long (lI lo), .long (lI lB), .long (lI hi), .long (lI hB1)])), (mS, .inl (cI, 4, .inl (zA fS))), (mM, .inl (cI, 4, .inl (zA fM))), (mT, .inl (cI, 80, .inl (zA fT))), (mX, .inl (cI, 80, .inl (zA fX))), (mY, .inl (cI, 80, .inl (zA fY))), (ro, .inl (cJ, 1, .inr (.inl (zJ fo1))))] ++ pl) H ∧ va_D A ([(hd, .inr (6, [.ref rT, .ref rH, .ref rG, .ref rD, .ref rF])), (rT, .inl (cT, 4, .inr (.inr (.inr (.inr tr))))), (kTA, .inr (5, [.ref kWA, .int (iI sgA), .int (iI bdA)])), (kWA, .inr (2, [.ref kXA, .ref kYA, .ref kZA, .int (iI nA)])), (kXA, .inl (cI, 20, .inl (zA ftA))), (kYA, .inl (cI, 20, .inl (zA fxA))), (kZA, .inl (cI, 20, .inl (zA fyA))), (hm, .inr (7, [.int (iI th2m), .ref mS, .ref mM, .ref mB, .ref mT, .ref mX, .ref mY, .ref mL, .int (iI sz1), .ref mR, .int (iI at2), .long (lI nu), .ref mt, .ref mx, .ref my, .int (iI fo), .ref mF, .ref mG, .ref mU, .ref mV, .long (lI lo), .long (lI lB), .long (lI hi), .long (lI hB1)])), (mS, .inl (cI, 4, .inl (zA fS))), (mM, .inl (cI, 4, .inl (zA fM))), (mT, .inl (cI, 80, .inl (zA fT))), (mX, .inl (cI, 80, .inl (zA fX))), (mY, .inl (cI, 80, .inl (zA fY))), (ro, .inl (cJ, 1, .inr (.inl (zJ fo1))))] ++ pl) := pd_part hP2a hD2a [0, 1, 2, 3, 4, 5, 6, 8, 9, 10, 11, 12, 13, 7] (by decide +kernel) rfl
            have eth := t_place_x hF hTA hRG hk hw
            refine lv_lstore (lv' := [(6, .long (lI zb)), (5, .int (iI z5)), (0, .ref b), (1, .ref hd), (2, .ref hm), (3, .ref ro), (4, .int (iI i))]) hx hb dL_law_613 hl (by decide) rfl (fun ls hl => ?_)
            refine lv_aload_n hx hb dL_law_615 rfl (lv_at hl 4 rfl) ?_
            refine wz_qcalli (wr := [(hd, .inr (6, [.ref rT, .ref rH, .ref rG, .ref rD, .ref rF])), (rT, .inl (cT, 4, .inr (.inr (.inr (.inr tr))))), (kTA, .inr (5, [.ref kWA, .int (iI sgA), .int (iI bdA)])), (kWA, .inr (2, [.ref kXA, .ref kYA, .ref kZA, .int (iI nA)])), (kXA, .inl (cI, 20, .inl (zA ftA))), (kYA, .inl (cI, 20, .inl (zA fxA))), (kZA, .inl (cI, 20, .inl (zA fyA))), (mS, .inl (cI, 4, .inl (zA fS))), (mM, .inl (cI, 4, .inl (zA fM))), (mT, .inl (cI, 80, .inl (zA fT))), (mX, .inl (cI, 80, .inl (zA fX))), (mY, .inl (cI, 80, .inl (zA fY))), (ro, .inl (cJ, 1, .inr (.inl (zJ fo1))))]) (va_runV (As := []) (rest := []) ⟨hx, hb, hml, hown, hts⟩ (k_X7_thrown l D cI cJ cT H.size hm th2m mS mM mB mT mX mY mL sz1 mR at2 nu mt mx my fo mF mG mU mV lo lB hi hB1 ) (cwV 0 hts gL_law_X7_thrown rfl rfl rfl (by decide +kernel) ⟨Nat.le_of_ble_eq_true rfl, Nat.le_of_ble_eq_true rfl⟩) (wz_preV hK (vP_l hP2) (vD_l hD2) [7] (by decide) rfl rfl 7 7 rfl rfl) rfl rfl hl.1 rfl (lv_room (Nat.le_of_ble_eq_true rfl)) dL_law_616 ⟨by have := hrm.1; omega, by have := hrm.2; omega⟩) hP2 hD2 hS hA [7] [0, 1, 2, 3, 4, 5, 6, 8, 9, 10, 11, 12, 13] rfl rfl rfl (by decide) (fun zt u H locs ht9 hP3a hD3a hS => ?_)
            try dsimp only at ht9
            obtain ⟨hP3, hD3⟩ : va_P D vwCl ([(hd, .inr (6, [.ref rT, .ref rH, .ref rG, .ref rD, .ref rF])), (rT, .inl (cT, 4, .inr (.inr (.inr (.inr tr))))), (kTA, .inr (5, [.ref kWA, .int (iI sgA), .int (iI bdA)])), (kWA, .inr (2, [.ref kXA, .ref kYA, .ref kZA, .int (iI nA)])), (kXA, .inl (cI, 20, .inl (zA ftA))), (kYA, .inl (cI, 20, .inl (zA fxA))), (kZA, .inl (cI, 20, .inl (zA fyA))), (hm, .inr (7, [.int (iI th2m), .ref mS, .ref mM, .ref mB, .ref mT, .ref mX, .ref mY, .ref mL, .int (iI sz1), .ref mR, .int (iI at2), .long (lI nu), .ref mt, .ref mx, .ref my, .int (iI fo), .ref mF, .ref mG, .ref mU, .ref mV, .long (lI lo), .long (lI lB), .long (lI hi), .long (lI hB1)])), (mS, .inl (cI, 4, .inl (zA fS))), (mM, .inl (cI, 4, .inl (zA fM))), (mT, .inl (cI, 80, .inl (zA fT))), (mX, .inl (cI, 80, .inl (zA fX))), (mY, .inl (cI, 80, .inl (zA fY))), (ro, .inl (cJ, 1, .inr (.inl (zJ fo1))))] ++ pl) H ∧ va_D A ([(hd, .inr (6, [.ref rT, .ref rH, .ref rG, .ref rD, .ref rF])), (rT, .inl (cT, 4, .inr (.inr (.inr (.inr tr))))), (kTA, .inr (5, [.ref kWA, .int (iI sgA), .int (iI bdA)])), (kWA, .inr (2, [.ref kXA, .ref kYA, .ref kZA, .int (iI nA)])), (kXA, .inl (cI, 20, .inl (zA ftA))), (kYA, .inl (cI, 20, .inl (zA fxA))), (kZA, .inl (cI, 20, .inl (zA fyA))), (hm, .inr (7, [.int (iI th2m), .ref mS, .ref mM, .ref mB, .ref mT, .ref mX, .ref mY, .ref mL, .int (iI sz1), .ref mR, .int (iI at2), .long (lI nu), .ref mt, .ref mx, .ref my, .int (iI fo), .ref mF, .ref mG, .ref mU, .ref mV, .long (lI lo), .long (lI lB), .long (lI hi), .long (lI hB1)])), (mS, .inl (cI, 4, .inl (zA fS))), (mM, .inl (cI, 4, .inl (zA fM))), (mT, .inl (cI, 80, .inl (zA fT))), (mX, .inl (cI, 80, .inl (zA fX))), (mY, .inl (cI, 80, .inl (zA fY))), (ro, .inl (cJ, 1, .inr (.inl (zJ fo1))))] ++ pl) := pd_part hP3a hD3a [0, 1, 2, 3, 4, 5, 6, 13, 7, 8, 9, 10, 11, 12] (by decide +kernel) rfl
            refine wz_topi (show iI zt = iI th2m by rw [ht9]) ?_
            refine lv_iload hx hb dL_law_619 (lv_at hl 1 rfl) ?_
            refine wz_topi (show iI z5 = iI th2m by rw [eth]) ?_
            refine lv_icmp_eq (tgt := 626) hx hb dL_law_621 (by decide) (fun _ => ?_) (fun q => absurd rfl q)
            refine lv_iload hx hb dL_law_626 (lv_at hl 1 rfl) ?_
            refine wz_if_ne (tgt := 642) hx hb dL_law_628 (by decide) ⟨by omega, by omega⟩ (fun _ => ?_) (fun q => (by exfalso; omega))
            refine lv_goto (tgt := 1103) hx hb dL_law_642 (by decide) ?_
            refine W.widen (k := cells + 3) (n := slots + 18) (by omega) (by omega) ?_
            exact K hP3 hD3 hS (lv_sub hl [2, 3, 4, 5, 6] rfl) hTA hTB hTC hTE hRG hBY hRD hSP
          · skip
            exfalso; omega
      · skip
        obtain ⟨zc, u⟩ := v
        obtain ⟨kc, rfl⟩ : ∃ w, w = u := ⟨_, rfl⟩
        obtain ⟨e5, hc⟩ := hw
        subst e5
        try dsimp only at hc
        obtain ⟨hP1, hD1⟩ : va_P D vwCl ([(hd, .inr (6, [.ref rT, .ref rH, .ref rG, .ref rD, .ref rF])), (rT, .inl (cT, 4, .inr (.inr (.inr (.inr tr))))), (kTA, .inr (5, [.ref kWA, .int (iI sgA), .int (iI bdA)])), (kWA, .inr (2, [.ref kXA, .ref kYA, .ref kZA, .int (iI nA)])), (kXA, .inl (cI, 20, .inl (zA ftA))), (kYA, .inl (cI, 20, .inl (zA fxA))), (kZA, .inl (cI, 20, .inl (zA fyA))), (hm, .inr (7, [.int (iI th), .ref mS, .ref mM, .ref mB, .ref mT, .ref mX, .ref mY, .ref mL, .int (iI sz1), .ref mR, .int (iI at2), .long (lI nu), .ref mt, .ref mx, .ref my, .int (iI fo), .ref mF, .ref mG, .ref mU, .ref mV, .long (lI lo), .long (lI lB), .long (lI hi), .long (lI hB1)])), (mS, .inl (cI, 4, .inl (zA fS))), (mM, .inl (cI, 4, .inl (zA fM))), (mT, .inl (cI, 80, .inl (zA fT))), (mX, .inl (cI, 80, .inl (zA fX))), (mY, .inl (cI, 80, .inl (zA fY))), (ro, .inl (cJ, 1, .inr (.inl (zJ (uZ fo1 0 zc)))))] ++ pl) H ∧ va_D A ([(hd, .inr (6, [.ref rT, .ref rH, .ref rG, .ref rD, .ref rF])), (rT, .inl (cT, 4, .inr (.inr (.inr (.inr tr))))), (kTA, .inr (5, [.ref kWA, .int (iI sgA), .int (iI bdA)])), (kWA, .inr (2, [.ref kXA, .ref kYA, .ref kZA, .int (iI nA)])), (kXA, .inl (cI, 20, .inl (zA ftA))), (kYA, .inl (cI, 20, .inl (zA fxA))), (kZA, .inl (cI, 20, .inl (zA fyA))), (hm, .inr (7, [.int (iI th), .ref mS, .ref mM, .ref mB, .ref mT, .ref mX, .ref mY, .ref mL, .int (iI sz1), .ref mR, .int (iI at2), .long (lI nu), .ref mt, .ref mx, .ref my, .int (iI fo), .ref mF, .ref mG, .ref mU, .ref mV, .long (lI lo), .long (lI lB), .long (lI hi), .long (lI hB1)])), (mS, .inl (cI, 4, .inl (zA fS))), (mM, .inl (cI, 4, .inl (zA fM))), (mT, .inl (cI, 80, .inl (zA fT))), (mX, .inl (cI, 80, .inl (zA fX))), (mY, .inl (cI, 80, .inl (zA fY))), (ro, .inl (cJ, 1, .inr (.inl (zJ (uZ fo1 0 zc)))))] ++ pl) := pd_part hPa hDa [6, 7, 8, 9, 10, 11, 12, 0, 1, 2, 3, 4, 5, 13] (by decide +kernel) rfl
        refine lv_istore (lv' := [(5, .int (iI 0)), (0, .ref b), (1, .ref hd), (2, .ref hm), (3, .ref ro), (4, .int (iI i))]) hx hb dL_law_567 hl (by decide) rfl (fun ls hl => ?_)
        refine lv_aload_n hx hb dL_law_569 rfl (lv_at hl 3 rfl) ?_
        refine lv_aload_n hx hb dL_law_570 rfl (lv_at hl 1 rfl) ?_
        refine lv_iload hx hb dL_law_571 (lv_at hl 5 rfl) ?_
        refine lv_iconst (v := iI 1) hx hb dL_law_573 rfl ?_
        refine wz_iadd hx hb dL_law_574 ?_
        refine wz_sld hx hb hX hbl hbA hS hL ⟨by omega, by omega⟩ dL_law_575 ?_
        refine wz_topi (show iI (sX xs (i + 1)) = iI v1 by rw [hv1]) ?_
        refine lv_aload_n hx hb dL_law_576 rfl (lv_at hl 1 rfl) ?_
        refine lv_iload hx hb dL_law_577 (lv_at hl 5 rfl) ?_
        refine lv_iconst (v := iI 2) hx hb dL_law_579 rfl ?_
        refine wz_iadd hx hb dL_law_580 ?_
        refine wz_sld hx hb hX hbl hbA hS hL ⟨by omega, by omega⟩ dL_law_581 ?_
        refine wz_topi (show iI (sX xs (i + 2)) = iI v2 by rw [hv2]) ?_
        refine lv_aload_n hx hb dL_law_582 rfl (lv_at hl 1 rfl) ?_
        refine lv_iload hx hb dL_law_583 (lv_at hl 5 rfl) ?_
        refine lv_iconst (v := iI 3) hx hb dL_law_585 rfl ?_
        refine wz_iadd hx hb dL_law_586 ?_
        refine wz_sld hx hb hX hbl hbA hS hL ⟨by omega, by omega⟩ dL_law_587 ?_
        refine wz_topi (show iI (sX xs (i + 3)) = iI v3 by rw [hv3]) ?_
        refine wz_if_eq (tgt := 595) hx hb dL_law_588 (by decide) (rv3) (fun c588 => ?_) (fun c588 => ?_)
        · skip
          exfalso; omega
        · skip
          refine lv_iconst (v := iI 1) hx hb dL_law_591 rfl ?_
          refine lv_goto (tgt := 596) hx hb dL_law_592 (by decide) ?_
          refine lv_aload_n hx hb dL_law_596 rfl (lv_at hl 1 rfl) ?_
          refine lv_iload hx hb dL_law_597 (lv_at hl 5 rfl) ?_
          refine lv_iconst (v := iI 4) hx hb dL_law_599 rfl ?_
          refine wz_iadd hx hb dL_law_600 ?_
          refine wz_sld hx hb hX hbl hbA hS hL ⟨by omega, by omega⟩ dL_law_601 ?_
          refine wz_topi (show iI (sX xs (i + 4)) = iI v4 by rw [hv4]) ?_
          refine wz_if_eq (tgt := 609) hx hb dL_law_602 (by decide) (rv4) (fun c602 => ?_) (fun c602 => ?_)
          · skip
            refine lv_iconst (v := iI 0) hx hb dL_law_609 rfl ?_
            refine wz_qcalll (wr := [(hd, .inr (6, [.ref rT, .ref rH, .ref rG, .ref rD, .ref rF])), (rT, .inl (cT, 4, .inr (.inr (.inr (.inr tr))))), (kTA, .inr (5, [.ref kWA, .int (iI sgA), .int (iI bdA)])), (kWA, .inr (2, [.ref kXA, .ref kYA, .ref kZA, .int (iI nA)])), (kXA, .inl (cI, 20, .inl (zA ftA))), (kYA, .inl (cI, 20, .inl (zA fxA))), (kZA, .inl (cI, 20, .inl (zA fyA))), (ro, .inl (cJ, 1, .inr (.inl (zJ (uZ fo1 0 zc)))))]) (va_runV (As := [.int (iI v1), .int (iI v2), .int (iI 1), .int (iI 0)]) (rest := []) ⟨hx, hb, hml, hown, hts⟩ (k_X7_place l D cI cJ cT H.size hm th mS mM mB mT mX mY mL sz1 mR at2 nu mt mx my fo mF mG mU mV lo lB hi hB1 fS fM fT fX fY v1 v2 1 0 hRG.1 hRG.2.1 hRG.2.2.2.1 hRG.2.2.2.2.1 hRG.2.2.2.2.2.1 hRG.2.2.2.2.2.2 (inc_all hIX hTA hTB hTC hTE) rv1 rv2 (by decide) (by decide)) (cwV 4 hts gL_law_X7_place rfl rfl rfl (by decide +kernel) ⟨Nat.le_of_ble_eq_true rfl, Nat.le_of_ble_eq_true rfl⟩) (wz_preV hK (vP_l hP1) (vD_l hD1) [7, 8, 9, 10, 11, 12] (by decide) rfl rfl 7 7 rfl rfl) rfl rfl hl.1 rfl (lv_room (Nat.le_of_ble_eq_true rfl)) dL_law_610 ⟨by have := hrm.1; omega, by have := hrm.2; omega⟩) hP1 hD1 hS hA [7, 8, 9, 10, 11, 12] [0, 1, 2, 3, 4, 5, 6, 13] rfl rfl rfl (by decide) (fun zb u H locs hw hP2a hD2a hS => ?_)
            obtain ⟨th2m, km⟩ := u
            try dsimp only at hw
            obtain ⟨hP2, hD2⟩ : va_P D vwCl ([(hd, .inr (6, [.ref rT, .ref rH, .ref rG, .ref rD, .ref rF])), (rT, .inl (cT, 4, .inr (.inr (.inr (.inr tr))))), (kTA, .inr (5, [.ref kWA, .int (iI sgA), .int (iI bdA)])), (kWA, .inr (2, [.ref kXA, .ref kYA, .ref kZA, .int (iI nA)])), (kXA, .inl (cI, 20, .inl (zA ftA))), (kYA, .inl (cI, 20, .inl (zA fxA))), (kZA, .inl (cI, 20, .inl (zA fyA))), (hm, .inr (7, [.int (iI th2m), .ref mS, .ref mM, .ref mB, .ref mT, .ref mX, .ref mY, .ref mL, .int (iI sz1), .ref mR, .int (iI at2), .long (lI nu), .ref mt, .ref mx, .ref my, .int (iI fo), .ref mF, .ref mG, .ref mU, .ref mV, .long (lI lo), .long (lI lB), .long (lI hi), .long (lI hB1)])), (mS, .inl (cI, 4, .inl (zA fS))), (mM, .inl (cI, 4, .inl (zA fM))), (mT, .inl (cI, 80, .inl (zA fT))), (mX, .inl (cI, 80, .inl (zA fX))), (mY, .inl (cI, 80, .inl (zA fY))), (ro, .inl (cJ, 1, .inr (.inl (zJ (uZ fo1 0 zc)))))] ++ pl) H ∧ va_D A ([(hd, .inr (6, [.ref rT, .ref rH, .ref rG, .ref rD, .ref rF])), (rT, .inl (cT, 4, .inr (.inr (.inr (.inr tr))))), (kTA, .inr (5, [.ref kWA, .int (iI sgA), .int (iI bdA)])), (kWA, .inr (2, [.ref kXA, .ref kYA, .ref kZA, .int (iI nA)])), (kXA, .inl (cI, 20, .inl (zA ftA))), (kYA, .inl (cI, 20, .inl (zA fxA))), (kZA, .inl (cI, 20, .inl (zA fyA))), (hm, .inr (7, [.int (iI th2m), .ref mS, .ref mM, .ref mB, .ref mT, .ref mX, .ref mY, .ref mL, .int (iI sz1), .ref mR, .int (iI at2), .long (lI nu), .ref mt, .ref mx, .ref my, .int (iI fo), .ref mF, .ref mG, .ref mU, .ref mV, .long (lI lo), .long (lI lB), .long (lI hi), .long (lI hB1)])), (mS, .inl (cI, 4, .inl (zA fS))), (mM, .inl (cI, 4, .inl (zA fM))), (mT, .inl (cI, 80, .inl (zA fT))), (mX, .inl (cI, 80, .inl (zA fX))), (mY, .inl (cI, 80, .inl (zA fY))), (ro, .inl (cJ, 1, .inr (.inl (zJ (uZ fo1 0 zc)))))] ++ pl) := pd_part hP2a hD2a [0, 1, 2, 3, 4, 5, 6, 8, 9, 10, 11, 12, 13, 7] (by decide +kernel) rfl
            obtain ⟨eth, ezb⟩ := t_place_r hF hTA hRG hc hw
            refine lv_lstore (lv' := [(6, .long (lI zb)), (5, .int (iI 0)), (0, .ref b), (1, .ref hd), (2, .ref hm), (3, .ref ro), (4, .int (iI i))]) hx hb dL_law_613 hl (by decide) rfl (fun ls hl => ?_)
            refine lv_aload_n hx hb dL_law_615 rfl (lv_at hl 4 rfl) ?_
            refine wz_qcalli (wr := [(hd, .inr (6, [.ref rT, .ref rH, .ref rG, .ref rD, .ref rF])), (rT, .inl (cT, 4, .inr (.inr (.inr (.inr tr))))), (kTA, .inr (5, [.ref kWA, .int (iI sgA), .int (iI bdA)])), (kWA, .inr (2, [.ref kXA, .ref kYA, .ref kZA, .int (iI nA)])), (kXA, .inl (cI, 20, .inl (zA ftA))), (kYA, .inl (cI, 20, .inl (zA fxA))), (kZA, .inl (cI, 20, .inl (zA fyA))), (mS, .inl (cI, 4, .inl (zA fS))), (mM, .inl (cI, 4, .inl (zA fM))), (mT, .inl (cI, 80, .inl (zA fT))), (mX, .inl (cI, 80, .inl (zA fX))), (mY, .inl (cI, 80, .inl (zA fY))), (ro, .inl (cJ, 1, .inr (.inl (zJ (uZ fo1 0 zc)))))]) (va_runV (As := []) (rest := []) ⟨hx, hb, hml, hown, hts⟩ (k_X7_thrown l D cI cJ cT H.size hm th2m mS mM mB mT mX mY mL sz1 mR at2 nu mt mx my fo mF mG mU mV lo lB hi hB1 ) (cwV 0 hts gL_law_X7_thrown rfl rfl rfl (by decide +kernel) ⟨Nat.le_of_ble_eq_true rfl, Nat.le_of_ble_eq_true rfl⟩) (wz_preV hK (vP_l hP2) (vD_l hD2) [7] (by decide) rfl rfl 7 7 rfl rfl) rfl rfl hl.1 rfl (lv_room (Nat.le_of_ble_eq_true rfl)) dL_law_616 ⟨by have := hrm.1; omega, by have := hrm.2; omega⟩) hP2 hD2 hS hA [7] [0, 1, 2, 3, 4, 5, 6, 8, 9, 10, 11, 12, 13] rfl rfl rfl (by decide) (fun zt u H locs ht9 hP3a hD3a hS => ?_)
            try dsimp only at ht9
            obtain ⟨hP3, hD3⟩ : va_P D vwCl ([(hd, .inr (6, [.ref rT, .ref rH, .ref rG, .ref rD, .ref rF])), (rT, .inl (cT, 4, .inr (.inr (.inr (.inr tr))))), (kTA, .inr (5, [.ref kWA, .int (iI sgA), .int (iI bdA)])), (kWA, .inr (2, [.ref kXA, .ref kYA, .ref kZA, .int (iI nA)])), (kXA, .inl (cI, 20, .inl (zA ftA))), (kYA, .inl (cI, 20, .inl (zA fxA))), (kZA, .inl (cI, 20, .inl (zA fyA))), (hm, .inr (7, [.int (iI th2m), .ref mS, .ref mM, .ref mB, .ref mT, .ref mX, .ref mY, .ref mL, .int (iI sz1), .ref mR, .int (iI at2), .long (lI nu), .ref mt, .ref mx, .ref my, .int (iI fo), .ref mF, .ref mG, .ref mU, .ref mV, .long (lI lo), .long (lI lB), .long (lI hi), .long (lI hB1)])), (mS, .inl (cI, 4, .inl (zA fS))), (mM, .inl (cI, 4, .inl (zA fM))), (mT, .inl (cI, 80, .inl (zA fT))), (mX, .inl (cI, 80, .inl (zA fX))), (mY, .inl (cI, 80, .inl (zA fY))), (ro, .inl (cJ, 1, .inr (.inl (zJ (uZ fo1 0 zc)))))] ++ pl) H ∧ va_D A ([(hd, .inr (6, [.ref rT, .ref rH, .ref rG, .ref rD, .ref rF])), (rT, .inl (cT, 4, .inr (.inr (.inr (.inr tr))))), (kTA, .inr (5, [.ref kWA, .int (iI sgA), .int (iI bdA)])), (kWA, .inr (2, [.ref kXA, .ref kYA, .ref kZA, .int (iI nA)])), (kXA, .inl (cI, 20, .inl (zA ftA))), (kYA, .inl (cI, 20, .inl (zA fxA))), (kZA, .inl (cI, 20, .inl (zA fyA))), (hm, .inr (7, [.int (iI th2m), .ref mS, .ref mM, .ref mB, .ref mT, .ref mX, .ref mY, .ref mL, .int (iI sz1), .ref mR, .int (iI at2), .long (lI nu), .ref mt, .ref mx, .ref my, .int (iI fo), .ref mF, .ref mG, .ref mU, .ref mV, .long (lI lo), .long (lI lB), .long (lI hi), .long (lI hB1)])), (mS, .inl (cI, 4, .inl (zA fS))), (mM, .inl (cI, 4, .inl (zA fM))), (mT, .inl (cI, 80, .inl (zA fT))), (mX, .inl (cI, 80, .inl (zA fX))), (mY, .inl (cI, 80, .inl (zA fY))), (ro, .inl (cJ, 1, .inr (.inl (zJ (uZ fo1 0 zc)))))] ++ pl) := pd_part hP3a hD3a [0, 1, 2, 3, 4, 5, 6, 13, 7, 8, 9, 10, 11, 12] (by decide +kernel) rfl
            refine wz_topi (show iI zt = iI th2m by rw [ht9]) ?_
            refine lv_iload hx hb dL_law_619 (lv_at hl 1 rfl) ?_
            refine wz_topi (show iI 0 = iI th2m by rw [eth]) ?_
            refine lv_icmp_eq (tgt := 626) hx hb dL_law_621 (by decide) (fun _ => ?_) (fun q => absurd rfl q)
            refine lv_iload hx hb dL_law_626 (lv_at hl 1 rfl) ?_
            refine wz_if_ne (tgt := 642) hx hb dL_law_628 (by decide) (by decide) (fun q => absurd rfl q) (fun _ => ?_)
            refine lv_aload_n hx hb dL_law_631 rfl (lv_at hl 5 rfl) ?_
            refine lv_iconst (v := iI 0) hx hb dL_law_632 rfl ?_
            refine wz_lald (tys := TY cI cJ cT) hx hb hK (vP_l hP3) 13 1 rfl rfl (by decide) (by decide) dL_law_633 ?_
            refine wz_topl (y := lI zc) (by rw [uZ_s]) ?_
            refine lv_lload hx hb dL_law_634 (lv_at hl 0 rfl) ?_
            refine wz_topl (show lI zb = lI zc by rw [ezb]) ?_
            refine W.lcmp hx hb dL_law_636 ?_
            refine wz_lraw_eq (tgt := 642) hx hb dL_law_637 (by decide) (fun _ => ?_) (fun q => absurd rfl q)
            refine lv_goto (tgt := 1103) hx hb dL_law_642 (by decide) ?_
            refine W.widen (k := cells + 3) (n := slots + 18) (by omega) (by omega) ?_
            exact K hP3 hD3 hS (lv_sub hl [2, 3, 4, 5, 6] rfl) hTA hTB hTC hTE hRG hBY hRD hSP
          · skip
            exfalso; omega
    · skip
      refine lv_iconst (v := iI 1) hx hb dL_law_558 rfl ?_
      refine lv_goto (tgt := 563) hx hb dL_law_559 (by decide) ?_
      refine lv_aload_n hx hb dL_law_563 rfl (lv_at hl 3 rfl) ?_
      refine wz_qhcalli (wr := [(hm, .inr (7, [.int (iI th), .ref mS, .ref mM, .ref mB, .ref mT, .ref mX, .ref mY, .ref mL, .int (iI sz1), .ref mR, .int (iI at2), .long (lI nu), .ref mt, .ref mx, .ref my, .int (iI fo), .ref mF, .ref mG, .ref mU, .ref mV, .long (lI lo), .long (lI lB), .long (lI hi), .long (lI hB1)])), (mS, .inl (cI, 4, .inl (zA fS))), (mM, .inl (cI, 4, .inl (zA fM))), (mT, .inl (cI, 80, .inl (zA fT))), (mX, .inl (cI, 80, .inl (zA fX))), (mY, .inl (cI, 80, .inl (zA fY)))]) (vx_runSX (As := [.ref hd, .int (iI v1), .int (iI v2), .int (iI 1), .int (iI 1), .ref ro]) (rest := []) ⟨hx, hb, hml, hown, hts⟩ (k_L_place l hLt sa D cI cJ cT H.size hd rT rH rG rD rF tr kTA kWA sgA bdA kXA kYA kZA ftA fxA fyA nA v1 v2 1 1 ro fo1 rv1 (fun w => (congrArg (fun z : Int => tr z.toNat) (hF w)).trans hIX.2.2.1) (⟨by omega, by omega⟩) (fun q => ⟨⟨(hTA.2.2.1 q).2, g4⟩, hTA.2.2.2.2.2.1⟩) (⟨g3, g4⟩) hTA.2.2.2.2.2.2.1.1 hTA.2.2.2.2.2.2.1.2.1 hTA.2.2.2.2.2.2.1.2.2 rv2 (by decide) (by decide)) (vx_cwSW 6 hts gL_law_L_place rfl rfl rfl (by decide +kernel) ⟨Nat.le_of_ble_eq_true rfl, Nat.le_of_ble_eq_true rfl⟩) (wz_preSy hK (vP_l hP) (vD_l hD) hTV hThC hTH hS hA [0, 1, 2, 3, 4, 5, 6, 13] (by decide) rfl rfl) rfl rfl hl.1 rfl (lv_room (Nat.le_of_ble_eq_true rfl)) dL_law_564 ⟨by have := hrm.1; omega, by have := hrm.2; omega⟩) hP hD hS hA [0, 1, 2, 3, 4, 5, 6, 13] [7, 8, 9, 10, 11, 12] rfl rfl rfl (by decide) (fun z5 v H locs hw hPa hDa hS => ?_)
      rcases v with k5 | v
      · skip
        obtain ⟨e5, hk⟩ := hw
        subst e5
        obtain ⟨hP1, hD1⟩ : va_P D vwCl ([(hd, .inr (6, [.ref rT, .ref rH, .ref rG, .ref rD, .ref rF])), (rT, .inl (cT, 4, .inr (.inr (.inr (.inr tr))))), (kTA, .inr (5, [.ref kWA, .int (iI sgA), .int (iI bdA)])), (kWA, .inr (2, [.ref kXA, .ref kYA, .ref kZA, .int (iI nA)])), (kXA, .inl (cI, 20, .inl (zA ftA))), (kYA, .inl (cI, 20, .inl (zA fxA))), (kZA, .inl (cI, 20, .inl (zA fyA))), (hm, .inr (7, [.int (iI th), .ref mS, .ref mM, .ref mB, .ref mT, .ref mX, .ref mY, .ref mL, .int (iI sz1), .ref mR, .int (iI at2), .long (lI nu), .ref mt, .ref mx, .ref my, .int (iI fo), .ref mF, .ref mG, .ref mU, .ref mV, .long (lI lo), .long (lI lB), .long (lI hi), .long (lI hB1)])), (mS, .inl (cI, 4, .inl (zA fS))), (mM, .inl (cI, 4, .inl (zA fM))), (mT, .inl (cI, 80, .inl (zA fT))), (mX, .inl (cI, 80, .inl (zA fX))), (mY, .inl (cI, 80, .inl (zA fY))), (ro, .inl (cJ, 1, .inr (.inl (zJ fo1))))] ++ pl) H ∧ va_D A ([(hd, .inr (6, [.ref rT, .ref rH, .ref rG, .ref rD, .ref rF])), (rT, .inl (cT, 4, .inr (.inr (.inr (.inr tr))))), (kTA, .inr (5, [.ref kWA, .int (iI sgA), .int (iI bdA)])), (kWA, .inr (2, [.ref kXA, .ref kYA, .ref kZA, .int (iI nA)])), (kXA, .inl (cI, 20, .inl (zA ftA))), (kYA, .inl (cI, 20, .inl (zA fxA))), (kZA, .inl (cI, 20, .inl (zA fyA))), (hm, .inr (7, [.int (iI th), .ref mS, .ref mM, .ref mB, .ref mT, .ref mX, .ref mY, .ref mL, .int (iI sz1), .ref mR, .int (iI at2), .long (lI nu), .ref mt, .ref mx, .ref my, .int (iI fo), .ref mF, .ref mG, .ref mU, .ref mV, .long (lI lo), .long (lI lB), .long (lI hi), .long (lI hB1)])), (mS, .inl (cI, 4, .inl (zA fS))), (mM, .inl (cI, 4, .inl (zA fM))), (mT, .inl (cI, 80, .inl (zA fT))), (mX, .inl (cI, 80, .inl (zA fX))), (mY, .inl (cI, 80, .inl (zA fY))), (ro, .inl (cJ, 1, .inr (.inl (zJ fo1))))] ++ pl) := pd_part hPa hDa [6, 7, 8, 9, 10, 11, 12, 0, 1, 2, 3, 4, 5, 13] (by decide +kernel) rfl
        obtain ⟨k51, k52⟩ : 1 ≤ z5 ∧ z5 ≤ 3 := by rcases hk with ⟨q, -⟩ | ⟨q, -⟩ | ⟨q, -⟩ <;> omega
        refine lv_istore (lv' := [(5, .int (iI z5)), (0, .ref b), (1, .ref hd), (2, .ref hm), (3, .ref ro), (4, .int (iI i))]) hx hb dL_law_567 hl (by decide) rfl (fun ls hl => ?_)
        refine lv_aload_n hx hb dL_law_569 rfl (lv_at hl 3 rfl) ?_
        refine lv_aload_n hx hb dL_law_570 rfl (lv_at hl 1 rfl) ?_
        refine lv_iload hx hb dL_law_571 (lv_at hl 5 rfl) ?_
        refine lv_iconst (v := iI 1) hx hb dL_law_573 rfl ?_
        refine wz_iadd hx hb dL_law_574 ?_
        refine wz_sld hx hb hX hbl hbA hS hL ⟨by omega, by omega⟩ dL_law_575 ?_
        refine wz_topi (show iI (sX xs (i + 1)) = iI v1 by rw [hv1]) ?_
        refine lv_aload_n hx hb dL_law_576 rfl (lv_at hl 1 rfl) ?_
        refine lv_iload hx hb dL_law_577 (lv_at hl 5 rfl) ?_
        refine lv_iconst (v := iI 2) hx hb dL_law_579 rfl ?_
        refine wz_iadd hx hb dL_law_580 ?_
        refine wz_sld hx hb hX hbl hbA hS hL ⟨by omega, by omega⟩ dL_law_581 ?_
        refine wz_topi (show iI (sX xs (i + 2)) = iI v2 by rw [hv2]) ?_
        refine lv_aload_n hx hb dL_law_582 rfl (lv_at hl 1 rfl) ?_
        refine lv_iload hx hb dL_law_583 (lv_at hl 5 rfl) ?_
        refine lv_iconst (v := iI 3) hx hb dL_law_585 rfl ?_
        refine wz_iadd hx hb dL_law_586 ?_
        refine wz_sld hx hb hX hbl hbA hS hL ⟨by omega, by omega⟩ dL_law_587 ?_
        refine wz_topi (show iI (sX xs (i + 3)) = iI v3 by rw [hv3]) ?_
        refine wz_if_eq (tgt := 595) hx hb dL_law_588 (by decide) (rv3) (fun c588 => ?_) (fun c588 => ?_)
        · skip
          exfalso; omega
        · skip
          refine lv_iconst (v := iI 1) hx hb dL_law_591 rfl ?_
          refine lv_goto (tgt := 596) hx hb dL_law_592 (by decide) ?_
          refine lv_aload_n hx hb dL_law_596 rfl (lv_at hl 1 rfl) ?_
          refine lv_iload hx hb dL_law_597 (lv_at hl 5 rfl) ?_
          refine lv_iconst (v := iI 4) hx hb dL_law_599 rfl ?_
          refine wz_iadd hx hb dL_law_600 ?_
          refine wz_sld hx hb hX hbl hbA hS hL ⟨by omega, by omega⟩ dL_law_601 ?_
          refine wz_topi (show iI (sX xs (i + 4)) = iI v4 by rw [hv4]) ?_
          refine wz_if_eq (tgt := 609) hx hb dL_law_602 (by decide) (rv4) (fun c602 => ?_) (fun c602 => ?_)
          · skip
            exfalso; omega
          · skip
            refine lv_iconst (v := iI 1) hx hb dL_law_605 rfl ?_
            refine lv_goto (tgt := 610) hx hb dL_law_606 (by decide) ?_
            refine wz_qcalll (wr := [(hd, .inr (6, [.ref rT, .ref rH, .ref rG, .ref rD, .ref rF])), (rT, .inl (cT, 4, .inr (.inr (.inr (.inr tr))))), (kTA, .inr (5, [.ref kWA, .int (iI sgA), .int (iI bdA)])), (kWA, .inr (2, [.ref kXA, .ref kYA, .ref kZA, .int (iI nA)])), (kXA, .inl (cI, 20, .inl (zA ftA))), (kYA, .inl (cI, 20, .inl (zA fxA))), (kZA, .inl (cI, 20, .inl (zA fyA))), (ro, .inl (cJ, 1, .inr (.inl (zJ fo1))))]) (va_runV (As := [.int (iI v1), .int (iI v2), .int (iI 1), .int (iI 1)]) (rest := []) ⟨hx, hb, hml, hown, hts⟩ (k_X7_place l D cI cJ cT H.size hm th mS mM mB mT mX mY mL sz1 mR at2 nu mt mx my fo mF mG mU mV lo lB hi hB1 fS fM fT fX fY v1 v2 1 1 hRG.1 hRG.2.1 hRG.2.2.2.1 hRG.2.2.2.2.1 hRG.2.2.2.2.2.1 hRG.2.2.2.2.2.2 (inc_all hIX hTA hTB hTC hTE) rv1 rv2 (by decide) (by decide)) (cwV 4 hts gL_law_X7_place rfl rfl rfl (by decide +kernel) ⟨Nat.le_of_ble_eq_true rfl, Nat.le_of_ble_eq_true rfl⟩) (wz_preV hK (vP_l hP1) (vD_l hD1) [7, 8, 9, 10, 11, 12] (by decide) rfl rfl 7 7 rfl rfl) rfl rfl hl.1 rfl (lv_room (Nat.le_of_ble_eq_true rfl)) dL_law_610 ⟨by have := hrm.1; omega, by have := hrm.2; omega⟩) hP1 hD1 hS hA [7, 8, 9, 10, 11, 12] [0, 1, 2, 3, 4, 5, 6, 13] rfl rfl rfl (by decide) (fun zb u H locs hw hP2a hD2a hS => ?_)
            obtain ⟨th2m, km⟩ := u
            try dsimp only at hw
            obtain ⟨hP2, hD2⟩ : va_P D vwCl ([(hd, .inr (6, [.ref rT, .ref rH, .ref rG, .ref rD, .ref rF])), (rT, .inl (cT, 4, .inr (.inr (.inr (.inr tr))))), (kTA, .inr (5, [.ref kWA, .int (iI sgA), .int (iI bdA)])), (kWA, .inr (2, [.ref kXA, .ref kYA, .ref kZA, .int (iI nA)])), (kXA, .inl (cI, 20, .inl (zA ftA))), (kYA, .inl (cI, 20, .inl (zA fxA))), (kZA, .inl (cI, 20, .inl (zA fyA))), (hm, .inr (7, [.int (iI th2m), .ref mS, .ref mM, .ref mB, .ref mT, .ref mX, .ref mY, .ref mL, .int (iI sz1), .ref mR, .int (iI at2), .long (lI nu), .ref mt, .ref mx, .ref my, .int (iI fo), .ref mF, .ref mG, .ref mU, .ref mV, .long (lI lo), .long (lI lB), .long (lI hi), .long (lI hB1)])), (mS, .inl (cI, 4, .inl (zA fS))), (mM, .inl (cI, 4, .inl (zA fM))), (mT, .inl (cI, 80, .inl (zA fT))), (mX, .inl (cI, 80, .inl (zA fX))), (mY, .inl (cI, 80, .inl (zA fY))), (ro, .inl (cJ, 1, .inr (.inl (zJ fo1))))] ++ pl) H ∧ va_D A ([(hd, .inr (6, [.ref rT, .ref rH, .ref rG, .ref rD, .ref rF])), (rT, .inl (cT, 4, .inr (.inr (.inr (.inr tr))))), (kTA, .inr (5, [.ref kWA, .int (iI sgA), .int (iI bdA)])), (kWA, .inr (2, [.ref kXA, .ref kYA, .ref kZA, .int (iI nA)])), (kXA, .inl (cI, 20, .inl (zA ftA))), (kYA, .inl (cI, 20, .inl (zA fxA))), (kZA, .inl (cI, 20, .inl (zA fyA))), (hm, .inr (7, [.int (iI th2m), .ref mS, .ref mM, .ref mB, .ref mT, .ref mX, .ref mY, .ref mL, .int (iI sz1), .ref mR, .int (iI at2), .long (lI nu), .ref mt, .ref mx, .ref my, .int (iI fo), .ref mF, .ref mG, .ref mU, .ref mV, .long (lI lo), .long (lI lB), .long (lI hi), .long (lI hB1)])), (mS, .inl (cI, 4, .inl (zA fS))), (mM, .inl (cI, 4, .inl (zA fM))), (mT, .inl (cI, 80, .inl (zA fT))), (mX, .inl (cI, 80, .inl (zA fX))), (mY, .inl (cI, 80, .inl (zA fY))), (ro, .inl (cJ, 1, .inr (.inl (zJ fo1))))] ++ pl) := pd_part hP2a hD2a [0, 1, 2, 3, 4, 5, 6, 8, 9, 10, 11, 12, 13, 7] (by decide +kernel) rfl
            have eth := t_place_x hF hTA hRG hk hw
            refine lv_lstore (lv' := [(6, .long (lI zb)), (5, .int (iI z5)), (0, .ref b), (1, .ref hd), (2, .ref hm), (3, .ref ro), (4, .int (iI i))]) hx hb dL_law_613 hl (by decide) rfl (fun ls hl => ?_)
            refine lv_aload_n hx hb dL_law_615 rfl (lv_at hl 4 rfl) ?_
            refine wz_qcalli (wr := [(hd, .inr (6, [.ref rT, .ref rH, .ref rG, .ref rD, .ref rF])), (rT, .inl (cT, 4, .inr (.inr (.inr (.inr tr))))), (kTA, .inr (5, [.ref kWA, .int (iI sgA), .int (iI bdA)])), (kWA, .inr (2, [.ref kXA, .ref kYA, .ref kZA, .int (iI nA)])), (kXA, .inl (cI, 20, .inl (zA ftA))), (kYA, .inl (cI, 20, .inl (zA fxA))), (kZA, .inl (cI, 20, .inl (zA fyA))), (mS, .inl (cI, 4, .inl (zA fS))), (mM, .inl (cI, 4, .inl (zA fM))), (mT, .inl (cI, 80, .inl (zA fT))), (mX, .inl (cI, 80, .inl (zA fX))), (mY, .inl (cI, 80, .inl (zA fY))), (ro, .inl (cJ, 1, .inr (.inl (zJ fo1))))]) (va_runV (As := []) (rest := []) ⟨hx, hb, hml, hown, hts⟩ (k_X7_thrown l D cI cJ cT H.size hm th2m mS mM mB mT mX mY mL sz1 mR at2 nu mt mx my fo mF mG mU mV lo lB hi hB1 ) (cwV 0 hts gL_law_X7_thrown rfl rfl rfl (by decide +kernel) ⟨Nat.le_of_ble_eq_true rfl, Nat.le_of_ble_eq_true rfl⟩) (wz_preV hK (vP_l hP2) (vD_l hD2) [7] (by decide) rfl rfl 7 7 rfl rfl) rfl rfl hl.1 rfl (lv_room (Nat.le_of_ble_eq_true rfl)) dL_law_616 ⟨by have := hrm.1; omega, by have := hrm.2; omega⟩) hP2 hD2 hS hA [7] [0, 1, 2, 3, 4, 5, 6, 8, 9, 10, 11, 12, 13] rfl rfl rfl (by decide) (fun zt u H locs ht9 hP3a hD3a hS => ?_)
            try dsimp only at ht9
            obtain ⟨hP3, hD3⟩ : va_P D vwCl ([(hd, .inr (6, [.ref rT, .ref rH, .ref rG, .ref rD, .ref rF])), (rT, .inl (cT, 4, .inr (.inr (.inr (.inr tr))))), (kTA, .inr (5, [.ref kWA, .int (iI sgA), .int (iI bdA)])), (kWA, .inr (2, [.ref kXA, .ref kYA, .ref kZA, .int (iI nA)])), (kXA, .inl (cI, 20, .inl (zA ftA))), (kYA, .inl (cI, 20, .inl (zA fxA))), (kZA, .inl (cI, 20, .inl (zA fyA))), (hm, .inr (7, [.int (iI th2m), .ref mS, .ref mM, .ref mB, .ref mT, .ref mX, .ref mY, .ref mL, .int (iI sz1), .ref mR, .int (iI at2), .long (lI nu), .ref mt, .ref mx, .ref my, .int (iI fo), .ref mF, .ref mG, .ref mU, .ref mV, .long (lI lo), .long (lI lB), .long (lI hi), .long (lI hB1)])), (mS, .inl (cI, 4, .inl (zA fS))), (mM, .inl (cI, 4, .inl (zA fM))), (mT, .inl (cI, 80, .inl (zA fT))), (mX, .inl (cI, 80, .inl (zA fX))), (mY, .inl (cI, 80, .inl (zA fY))), (ro, .inl (cJ, 1, .inr (.inl (zJ fo1))))] ++ pl) H ∧ va_D A ([(hd, .inr (6, [.ref rT, .ref rH, .ref rG, .ref rD, .ref rF])), (rT, .inl (cT, 4, .inr (.inr (.inr (.inr tr))))), (kTA, .inr (5, [.ref kWA, .int (iI sgA), .int (iI bdA)])), (kWA, .inr (2, [.ref kXA, .ref kYA, .ref kZA, .int (iI nA)])), (kXA, .inl (cI, 20, .inl (zA ftA))), (kYA, .inl (cI, 20, .inl (zA fxA))), (kZA, .inl (cI, 20, .inl (zA fyA))), (hm, .inr (7, [.int (iI th2m), .ref mS, .ref mM, .ref mB, .ref mT, .ref mX, .ref mY, .ref mL, .int (iI sz1), .ref mR, .int (iI at2), .long (lI nu), .ref mt, .ref mx, .ref my, .int (iI fo), .ref mF, .ref mG, .ref mU, .ref mV, .long (lI lo), .long (lI lB), .long (lI hi), .long (lI hB1)])), (mS, .inl (cI, 4, .inl (zA fS))), (mM, .inl (cI, 4, .inl (zA fM))), (mT, .inl (cI, 80, .inl (zA fT))), (mX, .inl (cI, 80, .inl (zA fX))), (mY, .inl (cI, 80, .inl (zA fY))), (ro, .inl (cJ, 1, .inr (.inl (zJ fo1))))] ++ pl) := pd_part hP3a hD3a [0, 1, 2, 3, 4, 5, 6, 13, 7, 8, 9, 10, 11, 12] (by decide +kernel) rfl
            refine wz_topi (show iI zt = iI th2m by rw [ht9]) ?_
            refine lv_iload hx hb dL_law_619 (lv_at hl 1 rfl) ?_
            refine wz_topi (show iI z5 = iI th2m by rw [eth]) ?_
            refine lv_icmp_eq (tgt := 626) hx hb dL_law_621 (by decide) (fun _ => ?_) (fun q => absurd rfl q)
            refine lv_iload hx hb dL_law_626 (lv_at hl 1 rfl) ?_
            refine wz_if_ne (tgt := 642) hx hb dL_law_628 (by decide) ⟨by omega, by omega⟩ (fun _ => ?_) (fun q => (by exfalso; omega))
            refine lv_goto (tgt := 1103) hx hb dL_law_642 (by decide) ?_
            refine W.widen (k := cells + 3) (n := slots + 18) (by omega) (by omega) ?_
            exact K hP3 hD3 hS (lv_sub hl [2, 3, 4, 5, 6] rfl) hTA hTB hTC hTE hRG hBY hRD hSP
      · skip
        obtain ⟨zc, u⟩ := v
        obtain ⟨kc, rfl⟩ : ∃ w, w = u := ⟨_, rfl⟩
        obtain ⟨e5, hc⟩ := hw
        subst e5
        try dsimp only at hc
        obtain ⟨hP1, hD1⟩ : va_P D vwCl ([(hd, .inr (6, [.ref rT, .ref rH, .ref rG, .ref rD, .ref rF])), (rT, .inl (cT, 4, .inr (.inr (.inr (.inr tr))))), (kTA, .inr (5, [.ref kWA, .int (iI sgA), .int (iI bdA)])), (kWA, .inr (2, [.ref kXA, .ref kYA, .ref kZA, .int (iI nA)])), (kXA, .inl (cI, 20, .inl (zA ftA))), (kYA, .inl (cI, 20, .inl (zA fxA))), (kZA, .inl (cI, 20, .inl (zA fyA))), (hm, .inr (7, [.int (iI th), .ref mS, .ref mM, .ref mB, .ref mT, .ref mX, .ref mY, .ref mL, .int (iI sz1), .ref mR, .int (iI at2), .long (lI nu), .ref mt, .ref mx, .ref my, .int (iI fo), .ref mF, .ref mG, .ref mU, .ref mV, .long (lI lo), .long (lI lB), .long (lI hi), .long (lI hB1)])), (mS, .inl (cI, 4, .inl (zA fS))), (mM, .inl (cI, 4, .inl (zA fM))), (mT, .inl (cI, 80, .inl (zA fT))), (mX, .inl (cI, 80, .inl (zA fX))), (mY, .inl (cI, 80, .inl (zA fY))), (ro, .inl (cJ, 1, .inr (.inl (zJ (uZ fo1 0 zc)))))] ++ pl) H ∧ va_D A ([(hd, .inr (6, [.ref rT, .ref rH, .ref rG, .ref rD, .ref rF])), (rT, .inl (cT, 4, .inr (.inr (.inr (.inr tr))))), (kTA, .inr (5, [.ref kWA, .int (iI sgA), .int (iI bdA)])), (kWA, .inr (2, [.ref kXA, .ref kYA, .ref kZA, .int (iI nA)])), (kXA, .inl (cI, 20, .inl (zA ftA))), (kYA, .inl (cI, 20, .inl (zA fxA))), (kZA, .inl (cI, 20, .inl (zA fyA))), (hm, .inr (7, [.int (iI th), .ref mS, .ref mM, .ref mB, .ref mT, .ref mX, .ref mY, .ref mL, .int (iI sz1), .ref mR, .int (iI at2), .long (lI nu), .ref mt, .ref mx, .ref my, .int (iI fo), .ref mF, .ref mG, .ref mU, .ref mV, .long (lI lo), .long (lI lB), .long (lI hi), .long (lI hB1)])), (mS, .inl (cI, 4, .inl (zA fS))), (mM, .inl (cI, 4, .inl (zA fM))), (mT, .inl (cI, 80, .inl (zA fT))), (mX, .inl (cI, 80, .inl (zA fX))), (mY, .inl (cI, 80, .inl (zA fY))), (ro, .inl (cJ, 1, .inr (.inl (zJ (uZ fo1 0 zc)))))] ++ pl) := pd_part hPa hDa [6, 7, 8, 9, 10, 11, 12, 0, 1, 2, 3, 4, 5, 13] (by decide +kernel) rfl
        refine lv_istore (lv' := [(5, .int (iI 0)), (0, .ref b), (1, .ref hd), (2, .ref hm), (3, .ref ro), (4, .int (iI i))]) hx hb dL_law_567 hl (by decide) rfl (fun ls hl => ?_)
        refine lv_aload_n hx hb dL_law_569 rfl (lv_at hl 3 rfl) ?_
        refine lv_aload_n hx hb dL_law_570 rfl (lv_at hl 1 rfl) ?_
        refine lv_iload hx hb dL_law_571 (lv_at hl 5 rfl) ?_
        refine lv_iconst (v := iI 1) hx hb dL_law_573 rfl ?_
        refine wz_iadd hx hb dL_law_574 ?_
        refine wz_sld hx hb hX hbl hbA hS hL ⟨by omega, by omega⟩ dL_law_575 ?_
        refine wz_topi (show iI (sX xs (i + 1)) = iI v1 by rw [hv1]) ?_
        refine lv_aload_n hx hb dL_law_576 rfl (lv_at hl 1 rfl) ?_
        refine lv_iload hx hb dL_law_577 (lv_at hl 5 rfl) ?_
        refine lv_iconst (v := iI 2) hx hb dL_law_579 rfl ?_
        refine wz_iadd hx hb dL_law_580 ?_
        refine wz_sld hx hb hX hbl hbA hS hL ⟨by omega, by omega⟩ dL_law_581 ?_
        refine wz_topi (show iI (sX xs (i + 2)) = iI v2 by rw [hv2]) ?_
        refine lv_aload_n hx hb dL_law_582 rfl (lv_at hl 1 rfl) ?_
        refine lv_iload hx hb dL_law_583 (lv_at hl 5 rfl) ?_
        refine lv_iconst (v := iI 3) hx hb dL_law_585 rfl ?_
        refine wz_iadd hx hb dL_law_586 ?_
        refine wz_sld hx hb hX hbl hbA hS hL ⟨by omega, by omega⟩ dL_law_587 ?_
        refine wz_topi (show iI (sX xs (i + 3)) = iI v3 by rw [hv3]) ?_
        refine wz_if_eq (tgt := 595) hx hb dL_law_588 (by decide) (rv3) (fun c588 => ?_) (fun c588 => ?_)
        · skip
          exfalso; omega
        · skip
          refine lv_iconst (v := iI 1) hx hb dL_law_591 rfl ?_
          refine lv_goto (tgt := 596) hx hb dL_law_592 (by decide) ?_
          refine lv_aload_n hx hb dL_law_596 rfl (lv_at hl 1 rfl) ?_
          refine lv_iload hx hb dL_law_597 (lv_at hl 5 rfl) ?_
          refine lv_iconst (v := iI 4) hx hb dL_law_599 rfl ?_
          refine wz_iadd hx hb dL_law_600 ?_
          refine wz_sld hx hb hX hbl hbA hS hL ⟨by omega, by omega⟩ dL_law_601 ?_
          refine wz_topi (show iI (sX xs (i + 4)) = iI v4 by rw [hv4]) ?_
          refine wz_if_eq (tgt := 609) hx hb dL_law_602 (by decide) (rv4) (fun c602 => ?_) (fun c602 => ?_)
          · skip
            exfalso; omega
          · skip
            refine lv_iconst (v := iI 1) hx hb dL_law_605 rfl ?_
            refine lv_goto (tgt := 610) hx hb dL_law_606 (by decide) ?_
            refine wz_qcalll (wr := [(hd, .inr (6, [.ref rT, .ref rH, .ref rG, .ref rD, .ref rF])), (rT, .inl (cT, 4, .inr (.inr (.inr (.inr tr))))), (kTA, .inr (5, [.ref kWA, .int (iI sgA), .int (iI bdA)])), (kWA, .inr (2, [.ref kXA, .ref kYA, .ref kZA, .int (iI nA)])), (kXA, .inl (cI, 20, .inl (zA ftA))), (kYA, .inl (cI, 20, .inl (zA fxA))), (kZA, .inl (cI, 20, .inl (zA fyA))), (ro, .inl (cJ, 1, .inr (.inl (zJ (uZ fo1 0 zc)))))]) (va_runV (As := [.int (iI v1), .int (iI v2), .int (iI 1), .int (iI 1)]) (rest := []) ⟨hx, hb, hml, hown, hts⟩ (k_X7_place l D cI cJ cT H.size hm th mS mM mB mT mX mY mL sz1 mR at2 nu mt mx my fo mF mG mU mV lo lB hi hB1 fS fM fT fX fY v1 v2 1 1 hRG.1 hRG.2.1 hRG.2.2.2.1 hRG.2.2.2.2.1 hRG.2.2.2.2.2.1 hRG.2.2.2.2.2.2 (inc_all hIX hTA hTB hTC hTE) rv1 rv2 (by decide) (by decide)) (cwV 4 hts gL_law_X7_place rfl rfl rfl (by decide +kernel) ⟨Nat.le_of_ble_eq_true rfl, Nat.le_of_ble_eq_true rfl⟩) (wz_preV hK (vP_l hP1) (vD_l hD1) [7, 8, 9, 10, 11, 12] (by decide) rfl rfl 7 7 rfl rfl) rfl rfl hl.1 rfl (lv_room (Nat.le_of_ble_eq_true rfl)) dL_law_610 ⟨by have := hrm.1; omega, by have := hrm.2; omega⟩) hP1 hD1 hS hA [7, 8, 9, 10, 11, 12] [0, 1, 2, 3, 4, 5, 6, 13] rfl rfl rfl (by decide) (fun zb u H locs hw hP2a hD2a hS => ?_)
            obtain ⟨th2m, km⟩ := u
            try dsimp only at hw
            obtain ⟨hP2, hD2⟩ : va_P D vwCl ([(hd, .inr (6, [.ref rT, .ref rH, .ref rG, .ref rD, .ref rF])), (rT, .inl (cT, 4, .inr (.inr (.inr (.inr tr))))), (kTA, .inr (5, [.ref kWA, .int (iI sgA), .int (iI bdA)])), (kWA, .inr (2, [.ref kXA, .ref kYA, .ref kZA, .int (iI nA)])), (kXA, .inl (cI, 20, .inl (zA ftA))), (kYA, .inl (cI, 20, .inl (zA fxA))), (kZA, .inl (cI, 20, .inl (zA fyA))), (hm, .inr (7, [.int (iI th2m), .ref mS, .ref mM, .ref mB, .ref mT, .ref mX, .ref mY, .ref mL, .int (iI sz1), .ref mR, .int (iI at2), .long (lI nu), .ref mt, .ref mx, .ref my, .int (iI fo), .ref mF, .ref mG, .ref mU, .ref mV, .long (lI lo), .long (lI lB), .long (lI hi), .long (lI hB1)])), (mS, .inl (cI, 4, .inl (zA fS))), (mM, .inl (cI, 4, .inl (zA fM))), (mT, .inl (cI, 80, .inl (zA fT))), (mX, .inl (cI, 80, .inl (zA fX))), (mY, .inl (cI, 80, .inl (zA fY))), (ro, .inl (cJ, 1, .inr (.inl (zJ (uZ fo1 0 zc)))))] ++ pl) H ∧ va_D A ([(hd, .inr (6, [.ref rT, .ref rH, .ref rG, .ref rD, .ref rF])), (rT, .inl (cT, 4, .inr (.inr (.inr (.inr tr))))), (kTA, .inr (5, [.ref kWA, .int (iI sgA), .int (iI bdA)])), (kWA, .inr (2, [.ref kXA, .ref kYA, .ref kZA, .int (iI nA)])), (kXA, .inl (cI, 20, .inl (zA ftA))), (kYA, .inl (cI, 20, .inl (zA fxA))), (kZA, .inl (cI, 20, .inl (zA fyA))), (hm, .inr (7, [.int (iI th2m), .ref mS, .ref mM, .ref mB, .ref mT, .ref mX, .ref mY, .ref mL, .int (iI sz1), .ref mR, .int (iI at2), .long (lI nu), .ref mt, .ref mx, .ref my, .int (iI fo), .ref mF, .ref mG, .ref mU, .ref mV, .long (lI lo), .long (lI lB), .long (lI hi), .long (lI hB1)])), (mS, .inl (cI, 4, .inl (zA fS))), (mM, .inl (cI, 4, .inl (zA fM))), (mT, .inl (cI, 80, .inl (zA fT))), (mX, .inl (cI, 80, .inl (zA fX))), (mY, .inl (cI, 80, .inl (zA fY))), (ro, .inl (cJ, 1, .inr (.inl (zJ (uZ fo1 0 zc)))))] ++ pl) := pd_part hP2a hD2a [0, 1, 2, 3, 4, 5, 6, 8, 9, 10, 11, 12, 13, 7] (by decide +kernel) rfl
            obtain ⟨eth, ezb⟩ := t_place_r hF hTA hRG hc hw
            refine lv_lstore (lv' := [(6, .long (lI zb)), (5, .int (iI 0)), (0, .ref b), (1, .ref hd), (2, .ref hm), (3, .ref ro), (4, .int (iI i))]) hx hb dL_law_613 hl (by decide) rfl (fun ls hl => ?_)
            refine lv_aload_n hx hb dL_law_615 rfl (lv_at hl 4 rfl) ?_
            refine wz_qcalli (wr := [(hd, .inr (6, [.ref rT, .ref rH, .ref rG, .ref rD, .ref rF])), (rT, .inl (cT, 4, .inr (.inr (.inr (.inr tr))))), (kTA, .inr (5, [.ref kWA, .int (iI sgA), .int (iI bdA)])), (kWA, .inr (2, [.ref kXA, .ref kYA, .ref kZA, .int (iI nA)])), (kXA, .inl (cI, 20, .inl (zA ftA))), (kYA, .inl (cI, 20, .inl (zA fxA))), (kZA, .inl (cI, 20, .inl (zA fyA))), (mS, .inl (cI, 4, .inl (zA fS))), (mM, .inl (cI, 4, .inl (zA fM))), (mT, .inl (cI, 80, .inl (zA fT))), (mX, .inl (cI, 80, .inl (zA fX))), (mY, .inl (cI, 80, .inl (zA fY))), (ro, .inl (cJ, 1, .inr (.inl (zJ (uZ fo1 0 zc)))))]) (va_runV (As := []) (rest := []) ⟨hx, hb, hml, hown, hts⟩ (k_X7_thrown l D cI cJ cT H.size hm th2m mS mM mB mT mX mY mL sz1 mR at2 nu mt mx my fo mF mG mU mV lo lB hi hB1 ) (cwV 0 hts gL_law_X7_thrown rfl rfl rfl (by decide +kernel) ⟨Nat.le_of_ble_eq_true rfl, Nat.le_of_ble_eq_true rfl⟩) (wz_preV hK (vP_l hP2) (vD_l hD2) [7] (by decide) rfl rfl 7 7 rfl rfl) rfl rfl hl.1 rfl (lv_room (Nat.le_of_ble_eq_true rfl)) dL_law_616 ⟨by have := hrm.1; omega, by have := hrm.2; omega⟩) hP2 hD2 hS hA [7] [0, 1, 2, 3, 4, 5, 6, 8, 9, 10, 11, 12, 13] rfl rfl rfl (by decide) (fun zt u H locs ht9 hP3a hD3a hS => ?_)
            try dsimp only at ht9
            obtain ⟨hP3, hD3⟩ : va_P D vwCl ([(hd, .inr (6, [.ref rT, .ref rH, .ref rG, .ref rD, .ref rF])), (rT, .inl (cT, 4, .inr (.inr (.inr (.inr tr))))), (kTA, .inr (5, [.ref kWA, .int (iI sgA), .int (iI bdA)])), (kWA, .inr (2, [.ref kXA, .ref kYA, .ref kZA, .int (iI nA)])), (kXA, .inl (cI, 20, .inl (zA ftA))), (kYA, .inl (cI, 20, .inl (zA fxA))), (kZA, .inl (cI, 20, .inl (zA fyA))), (hm, .inr (7, [.int (iI th2m), .ref mS, .ref mM, .ref mB, .ref mT, .ref mX, .ref mY, .ref mL, .int (iI sz1), .ref mR, .int (iI at2), .long (lI nu), .ref mt, .ref mx, .ref my, .int (iI fo), .ref mF, .ref mG, .ref mU, .ref mV, .long (lI lo), .long (lI lB), .long (lI hi), .long (lI hB1)])), (mS, .inl (cI, 4, .inl (zA fS))), (mM, .inl (cI, 4, .inl (zA fM))), (mT, .inl (cI, 80, .inl (zA fT))), (mX, .inl (cI, 80, .inl (zA fX))), (mY, .inl (cI, 80, .inl (zA fY))), (ro, .inl (cJ, 1, .inr (.inl (zJ (uZ fo1 0 zc)))))] ++ pl) H ∧ va_D A ([(hd, .inr (6, [.ref rT, .ref rH, .ref rG, .ref rD, .ref rF])), (rT, .inl (cT, 4, .inr (.inr (.inr (.inr tr))))), (kTA, .inr (5, [.ref kWA, .int (iI sgA), .int (iI bdA)])), (kWA, .inr (2, [.ref kXA, .ref kYA, .ref kZA, .int (iI nA)])), (kXA, .inl (cI, 20, .inl (zA ftA))), (kYA, .inl (cI, 20, .inl (zA fxA))), (kZA, .inl (cI, 20, .inl (zA fyA))), (hm, .inr (7, [.int (iI th2m), .ref mS, .ref mM, .ref mB, .ref mT, .ref mX, .ref mY, .ref mL, .int (iI sz1), .ref mR, .int (iI at2), .long (lI nu), .ref mt, .ref mx, .ref my, .int (iI fo), .ref mF, .ref mG, .ref mU, .ref mV, .long (lI lo), .long (lI lB), .long (lI hi), .long (lI hB1)])), (mS, .inl (cI, 4, .inl (zA fS))), (mM, .inl (cI, 4, .inl (zA fM))), (mT, .inl (cI, 80, .inl (zA fT))), (mX, .inl (cI, 80, .inl (zA fX))), (mY, .inl (cI, 80, .inl (zA fY))), (ro, .inl (cJ, 1, .inr (.inl (zJ (uZ fo1 0 zc)))))] ++ pl) := pd_part hP3a hD3a [0, 1, 2, 3, 4, 5, 6, 13, 7, 8, 9, 10, 11, 12] (by decide +kernel) rfl
            refine wz_topi (show iI zt = iI th2m by rw [ht9]) ?_
            refine lv_iload hx hb dL_law_619 (lv_at hl 1 rfl) ?_
            refine wz_topi (show iI 0 = iI th2m by rw [eth]) ?_
            refine lv_icmp_eq (tgt := 626) hx hb dL_law_621 (by decide) (fun _ => ?_) (fun q => absurd rfl q)
            refine lv_iload hx hb dL_law_626 (lv_at hl 1 rfl) ?_
            refine wz_if_ne (tgt := 642) hx hb dL_law_628 (by decide) (by decide) (fun q => absurd rfl q) (fun _ => ?_)
            refine lv_aload_n hx hb dL_law_631 rfl (lv_at hl 5 rfl) ?_
            refine lv_iconst (v := iI 0) hx hb dL_law_632 rfl ?_
            refine wz_lald (tys := TY cI cJ cT) hx hb hK (vP_l hP3) 13 1 rfl rfl (by decide) (by decide) dL_law_633 ?_
            refine wz_topl (y := lI zc) (by rw [uZ_s]) ?_
            refine lv_lload hx hb dL_law_634 (lv_at hl 0 rfl) ?_
            refine wz_topl (show lI zb = lI zc by rw [ezb]) ?_
            refine W.lcmp hx hb dL_law_636 ?_
            refine wz_lraw_eq (tgt := 642) hx hb dL_law_637 (by decide) (fun _ => ?_) (fun q => absurd rfl q)
            refine lv_goto (tgt := 1103) hx hb dL_law_642 (by decide) ?_
            refine W.widen (k := cells + 3) (n := slots + 18) (by omega) (by omega) ?_
            exact K hP3 hD3 hS (lv_sub hl [2, 3, 4, 5, 6] rfl) hTA hTB hTC hTE hRG hBY hRD hSP
end LC
