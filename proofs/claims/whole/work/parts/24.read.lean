set_option maxHeartbeats 4000000 in
set_option maxRecDepth 100000 in
theorem k_X1_readNumber (l : Launch) (D : va_G) (cI cJ cT : ClassId) (sz : Nat) (h1r : Nat) (qr : Nat) (at1 : Int) (fa : Int) (hb0 : Nat) (qb : Nat) (fb : Int → Int) (nb : Int) (le : Int) (ev : Int) (od : Int) (hB : okB fb) (hnb : 0 ≤ nb ∧ nb ≤ 300) (hat : 0 ≤ at1 ∧ at1 ≤ nb) (hfa : rI fa) (hle : 0 ≤ le ∧ le ≤ 1) (hev : -2147483648 ≤ ev ∧ ev ≤ 2147483647) (hod : -2147483648 ≤ od ∧ od ≤ 2147483647) : Met l yX1_readNumber wsX1_readNumber { frames := 0, cells := 0, slots := 0, locals := 0 } (zPc D (TY cI cJ cT) [.ref h1r, .ref hb0, .long (lI le), .long (lI ev), .long (lI od)] [(h1r, .inr (1, [.ref qr, .int (iI at1), .int (iI fa)])), (hb0, .inr (0, [.ref qb, .int (iI nb)])), (qb, .inl (cI, 300, .inl (zA fb)))] sz) (zQl D (TY cI cJ cT) (va_A [(h1r, .inr (1, [.ref qr, .int (iI at1), .int (iI fa)])), (hb0, .inr (0, [.ref qb, .int (iI nb)])), (qb, .inl (cI, 300, .inl (zA fb)))] sz) (fun (z : Int) (u : Int × Int) => (fa = -1 → u.1 = (rdN 5 fb nb at1 1 0 le ev od).2.2 ∧ (((rdN 5 fb nb at1 1 0 le ev od).1 = 1 ∧ z = (rdN 5 fb nb at1 1 0 le ev od).2.1 ∧ u.2 = -1) ∨ ((rdN 5 fb nb at1 1 0 le ev od).1 = 0 ∧ z = 0 ∧ u.2 = (rdN 5 fb nb at1 1 0 le ev od).2.2))) ∧ (fa ≠ -1 → z = 0 ∧ u.1 = at1 ∧ u.2 = fa)) (fun (u : Int × Int) => [(h1r, .inr (1, [.ref qr, .int (iI u.1), .int (iI u.2)])), (hb0, .inr (0, [.ref qb, .int (iI nb)])), (qb, .inl (cI, 300, .inl (zA fb)))])) 0 0 (va_A [(h1r, .inr (1, [.ref qr, .int (iI at1), .int (iI fa)])), (hb0, .inr (0, [.ref qb, .int (iI nb)])), (qb, .inl (cI, 300, .inl (zA fb)))] sz) := by
  refine zMl (cc := cX1_readNumber) (maxL := 18) (ret := (some .long)) (by decide) rfl (Nat.le_of_ble_eq_true rfl) ?_
  intro p e s m below meth c A ls hE
  obtain ⟨hx, hb, hr, hts, hown, hlocks, hml, hnm, hP, hK, hD, hA, hS, hl⟩ := hE
  have hown : s.vm.findClass RX1 = some m.cls := hown
  have hl : lv_has ls 18 [(0, .ref h1r), (1, .ref hb0), (2, .long (lI le)), (4, .long (lI ev)), (6, .long (lI od))] := hl
  have hin0 : ∀ w ∈ wsX00, w ∈ wsX1_readNumber := by decide +kernel
  have hin1 : ∀ w ∈ wsX10, w ∈ wsX1_readNumber := by decide +kernel
  obtain ⟨Q, hQ⟩ : ∃ Q, Q = MQ below (zQl D (TY cI cJ cT) A (fun (z : Int) (u : Int × Int) => (fa = -1 → u.1 = (rdN 5 fb nb at1 1 0 le ev od).2.2 ∧ (((rdN 5 fb nb at1 1 0 le ev od).1 = 1 ∧ z = (rdN 5 fb nb at1 1 0 le ev od).2.1 ∧ u.2 = -1) ∨ ((rdN 5 fb nb at1 1 0 le ev od).1 = 0 ∧ z = 0 ∧ u.2 = (rdN 5 fb nb at1 1 0 le ev od).2.2))) ∧ (fa ≠ -1 → z = 0 ∧ u.1 = at1 ∧ u.2 = fa)) (fun (u : Int × Int) => [(h1r, .inr (1, [.ref qr, .int (iI u.1), .int (iI u.2)])), (hb0, .inr (0, [.ref qb, .int (iI nb)])), (qb, .inl (cI, 300, .inl (zA fb)))])) ([.ref h1r, .ref hb0, .long (lI le), .long (lI ev), .long (lI od)] : List Value).toArray s 0 0 A := ⟨_, rfl⟩
  rw [← hQ]
  refine lv_lconst (v := lI 0) hx hb dX1_readNumber_0 (by decide) ?_
  refine lv_lstore (lv' := [(8, .long (lI 0)), (0, .ref h1r), (1, .ref hb0), (2, .long (lI le)), (4, .long (lI ev)), (6, .long (lI od))]) hx hb dX1_readNumber_1 hl (by decide) rfl (fun ls hl => ?_)
  refine lv_iconst (v := iI 0) hx hb dX1_readNumber_3 rfl ?_
  refine lv_istore (lv' := [(10, .int (iI 0)), (8, .long (lI 0)), (0, .ref h1r), (1, .ref hb0), (2, .long (lI le)), (4, .long (lI ev)), (6, .long (lI od))]) hx hb dX1_readNumber_4 hl (by decide) rfl (fun ls hl => ?_)
  have LP6 : ∀ (N6 : Nat) (g : Int) (num : Int) (unit : Int) (at2 : Int) (H : Heap) (locs : List Loc) (ls : Array Slot), ((0 ≤ g ∧ g ≤ 4) ∧ unit = 128 ^ (g).toNat ∧ (0 ≤ num ∧ num < unit) ∧ (0 ≤ at2 ∧ at2 ≤ nb) ∧ rdN 5 fb nb at1 1 0 le ev od = rdN (5 - g).toNat fb nb at2 unit num le ev od ∧ (fa ≠ -1 → at2 = at1)) → (5 - g) < (N6 : Int) → va_P D vwCl [(h1r, .inr (1, [.ref qr, .int (iI at2), .int (iI fa)])), (hb0, .inr (0, [.ref qb, .int (iI nb)])), (qb, .inl (cI, 300, .inl (zA fb)))] H → va_D A [(h1r, .inr (1, [.ref qr, .int (iI at2), .int (iI fa)])), (hb0, .inr (0, [.ref qb, .int (iI nb)])), (qb, .inl (cI, 300, .inl (zA fb)))] → va_S A s.heap H locs → lv_has ls 18 [(0, .ref h1r), (1, .ref hb0), (2, .long (lI le)), (4, .long (lI ev)), (6, .long (lI od)), (8, .long (lI num)), (10, .int (iI g))] → W p l e { frames := 0, cells := 0, slots := 0, locals := 0 } s m ([.ref h1r, .ref hb0, .long (lI le), .long (lI ev), .long (lI od)] : List Value).toArray below meth c H locs 0 0 Q (F0 m 6 ls []) := by
    intro N6
    induction N6 with
    | zero =>
      intro g num unit at2 H locs ls hI hm
      obtain ⟨a1, a2, a3, a4, a5, a6⟩ := hI
      exfalso; omega
    | succ N6 ih6 =>
      intro g num unit at2 H locs ls hI hm6 hP hD hS hl
      obtain ⟨a1, a2, a3, a4, a5, a6⟩ := hI
      obtain ⟨u1, u2, u3, u4, u5⟩ := p128 a1.1 a1.2
      rw [← a2] at u1 u2 u3 u4 u5
      have hbm : 0 ≤ fb at2 % 128 * unit ∧ fb at2 % 128 * unit ≤ 127 * unit := ⟨Int.mul_nonneg (by omega) (by omega), Int.mul_le_mul_of_nonneg_right (by omega) (by omega)⟩
      refine lv_iload hx hb dX1_readNumber_6 (lv_at hl 6 rfl) ?_
      refine lv_iconst (v := iI 5) hx hb dX1_readNumber_8 rfl ?_
      refine wz_icmp_ge (tgt := 197) hx hb dX1_readNumber_9 (by decide) ⟨by omega, by omega⟩ (by decide) (fun c9 => ?_) (fun c9 => ?_)
      · skip
        exfalso; omega
      · skip
        refine lv_aload_n hx hb dX1_readNumber_12 rfl (lv_at hl 0 rfl) ?_
        refine va_get (D := D) (ci := 1) (v := .int (iI fa)) (C := RX1) (T := TX1) (N := 3) hx hb hts hin1 hown hK hP 0 rfl rfl 2 (by decide) (hts (.fieldLink RX1 22 "DriftLog$Reader" "fault" "I") (by decide +kernel)) (fun _ h9 => h9) rfl dX1_readNumber_13 ?_
        refine lv_iconst (v := iI (-1)) hx hb dX1_readNumber_16 rfl ?_
        refine wz_icmp_ne (tgt := 197) hx hb dX1_readNumber_17 (by decide) (hfa) (by decide) (fun c17 => ?_) (fun c17 => ?_)
        · skip
          refine lv_lconst (v := lI 0) hx hb dX1_readNumber_197 (by decide) ?_
          rw [hQ]
          exact wz_retl (tys := TY cI cJ cT) (at2, fa) hx hb hr hlocks hK hP hD hS (by (try dsimp only); exact (⟨fun h => absurd h c17, fun _ => ⟨rfl, a6 c17, rfl⟩⟩)) dX1_readNumber_198
        · skip
          refine lv_aload_n hx hb dX1_readNumber_20 rfl (lv_at hl 0 rfl) ?_
          refine va_get (D := D) (ci := 1) (v := .int (iI at2)) (C := RX1) (T := TX1) (N := 3) hx hb hts hin1 hown hK hP 0 rfl rfl 1 (by decide) (hts (.fieldLink RX1 18 "DriftLog$Reader" "at" "I") (by decide +kernel)) (fun _ h9 => h9) rfl dX1_readNumber_21 ?_
          refine lv_aload_n hx hb dX1_readNumber_24 rfl (lv_at hl 1 rfl) ?_
          refine va_get (D := D) (ci := 0) (v := .int (iI nb)) (C := RX0) (T := TX0) (N := 2) hx hb hts hin0 hown hK hP 1 rfl rfl 1 (by decide) (hts (.fieldLink RX1 38 "DriftLog$ByteRow" "size" "I") (by decide +kernel)) (fun _ h9 => h9) rfl dX1_readNumber_25 ?_
          refine wz_icmp_lt (tgt := 41) hx hb dX1_readNumber_28 (by decide) ⟨by omega, by omega⟩ ⟨by omega, by omega⟩ (fun c28 => ?_) (fun c28 => ?_)
          · skip
            refine lv_aload_n hx hb dX1_readNumber_41 rfl (lv_at hl 1 rfl) ?_
            refine va_get (D := D) (ci := 0) (v := .ref qb) (C := RX0) (T := TX0) (N := 2) hx hb hts hin0 hown hK hP 1 rfl rfl 0 (by decide) (hts (.fieldLink RX1 63 "DriftLog$ByteRow" "data" "[I") (by decide +kernel)) (fun _ h9 => h9) rfl dX1_readNumber_42 ?_
            refine lv_aload_n hx hb dX1_readNumber_45 rfl (lv_at hl 0 rfl) ?_
            refine va_get (D := D) (ci := 1) (v := .int (iI at2)) (C := RX1) (T := TX1) (N := 3) hx hb hts hin1 hown hK hP 0 rfl rfl 1 (by decide) (hts (.fieldLink RX1 18 "DriftLog$Reader" "at" "I") (by decide +kernel)) (fun _ h9 => h9) rfl dX1_readNumber_46 ?_
            refine wz_iald (tys := TY cI cJ cT) hx hb hK hP 2 0 rfl rfl (by decide) (by constructor <;> omega) dX1_readNumber_49 ?_
            obtain ⟨b, eb⟩ : ∃ y : Int, y = (fb at2) := ⟨_, rfl⟩
            rw [← eb]
            refine lv_istore (lv' := [(11, .int (iI b)), (0, .ref h1r), (1, .ref hb0), (2, .long (lI le)), (4, .long (lI ev)), (6, .long (lI od)), (8, .long (lI num)), (10, .int (iI g))]) hx hb dX1_readNumber_50 hl (by decide) rfl (fun ls hl => ?_)
            have rb : 0 ≤ b ∧ b ≤ 255 := by rw [eb]; exact hB _
            refine lv_iload hx hb dX1_readNumber_52 (lv_at hl 0 rfl) ?_
            refine lv_bipush (v := iI 127) hx hb dX1_readNumber_54 (by decide) ?_
            refine wz_icmp_gt (tgt := 63) hx hb dX1_readNumber_56 (by decide) ⟨by omega, by omega⟩ (by decide) (fun c56 => ?_) (fun c56 => ?_)
            · skip
              refine lv_iconst (v := iI 0) hx hb dX1_readNumber_63 rfl ?_
              refine lv_istore (lv' := [(12, .int (iI 0)), (11, .int (iI b)), (0, .ref h1r), (1, .ref hb0), (2, .long (lI le)), (4, .long (lI ev)), (6, .long (lI od)), (8, .long (lI num)), (10, .int (iI g))]) hx hb dX1_readNumber_64 hl (by decide) rfl (fun ls hl => ?_)
              refine lv_iload hx hb dX1_readNumber_66 (lv_at hl 1 rfl) ?_
              refine wz_if_ne (tgt := 80) hx hb dX1_readNumber_68 (by decide) ⟨by omega, by omega⟩ (fun c68 => ?_) (fun c68 => ?_)
              · skip
                refine lv_iconst (v := iI 0) hx hb dX1_readNumber_80 rfl ?_
                refine lv_istore (lv' := [(13, .int (iI 0)), (12, .int (iI 0)), (11, .int (iI b)), (0, .ref h1r), (1, .ref hb0), (2, .long (lI le)), (4, .long (lI ev)), (6, .long (lI od)), (8, .long (lI num)), (10, .int (iI g))]) hx hb dX1_readNumber_81 hl (by decide) rfl (fun ls hl => ?_)
                refine lv_lload hx hb dX1_readNumber_83 (lv_at hl 8 rfl) ?_
                refine lv_iload hx hb dX1_readNumber_85 (lv_at hl 2 rfl) ?_
                refine lv_bipush (v := iI 127) hx hb dX1_readNumber_87 (by decide) ?_
                refine lv_iand hx hb dX1_readNumber_89 ?_
                refine wz_topi (y := iI (b % 128)) (iI_and127 (by omega) (by omega)) ?_
                refine wz_i2l hx hb dX1_readNumber_90 ⟨by omega, by omega⟩ ?_
                refine lv_bipush (v := iI 7) hx hb dX1_readNumber_91 (by decide) ?_
                refine lv_iload hx hb dX1_readNumber_93 (lv_at hl 9 rfl) ?_
                refine wz_imul hx hb dX1_readNumber_95 ?_
                refine lv_lshl hx hb dX1_readNumber_96 rfl ?_
                refine wz_topl (y := lI ((b % 128) * unit)) (lI_shl7 a1.1 (by omega) a2) ?_
                refine wz_ladd hx hb dX1_readNumber_97 ?_
                obtain ⟨vn, evn⟩ : ∃ y : Int, y = (num + ((b % 128) * unit)) := ⟨_, rfl⟩
                rw [← evn]
                refine lv_lstore (lv' := [(8, .long (lI vn)), (13, .int (iI 0)), (12, .int (iI 0)), (11, .int (iI b)), (0, .ref h1r), (1, .ref hb0), (2, .long (lI le)), (4, .long (lI ev)), (6, .long (lI od)), (10, .int (iI g))]) hx hb dX1_readNumber_98 hl (by decide) rfl (fun ls hl => ?_)
                rw [eb] at evn
                refine lv_iload hx hb dX1_readNumber_100 (lv_at hl 2 rfl) ?_
                refine wz_if_eq (tgt := 110) hx hb dX1_readNumber_102 (by decide) (by decide) (fun c102 => ?_) (fun c102 => ?_)
                · skip
                  refine lv_lload hx hb dX1_readNumber_110 (lv_at hl 0 rfl) ?_
                  refine lv_lconst (v := lI 1) hx hb dX1_readNumber_112 (by decide) ?_
                  refine lv_bipush (v := iI 7) hx hb dX1_readNumber_113 (by decide) ?_
                  refine lv_iload hx hb dX1_readNumber_115 (lv_at hl 9 rfl) ?_
                  refine wz_imul hx hb dX1_readNumber_117 ?_
                  refine lv_bipush (v := iI 7) hx hb dX1_readNumber_118 (by decide) ?_
                  refine wz_iadd hx hb dX1_readNumber_120 ?_
                  refine lv_lshl hx hb dX1_readNumber_121 rfl ?_
                  refine wz_topl (y := lI (1 * (unit * 128))) (by rw [show (7 * g) + 7 = 7 * (g + 1) by omega]; exact lI_shl7 (by omega) (by omega) (by rw [a2, show (g + 1).toNat = g.toNat + 1 by omega, Int.pow_succ])) ?_
                  refine wz_ladd hx hb dX1_readNumber_122 ?_
                  refine lv_lstore (lv' := [(14, .long (lI (vn + (1 * (unit * 128))))), (8, .long (lI vn)), (13, .int (iI 0)), (12, .int (iI 0)), (11, .int (iI b)), (0, .ref h1r), (1, .ref hb0), (2, .long (lI le)), (4, .long (lI ev)), (6, .long (lI od)), (10, .int (iI g))]) hx hb dX1_readNumber_123 hl (by decide) rfl (fun ls hl => ?_)
                  refine lv_lload hx hb dX1_readNumber_125 (lv_at hl 1 rfl) ?_
                  refine lv_lconst (v := lI 1) hx hb dX1_readNumber_127 (by decide) ?_
                  refine lv_land hx hb dX1_readNumber_128 ?_
                  refine wz_topl (y := lI (vn % 2)) (lI_and1 (by omega) (by omega)) ?_
                  refine lv_lconst (v := lI 0) hx hb dX1_readNumber_129 (by decide) ?_
                  refine W.lcmp hx hb dX1_readNumber_130 ?_
                  refine wz_lif_ne (tgt := 139) hx hb dX1_readNumber_131 (by decide) ⟨by omega, by omega⟩ (by decide) (fun c131 => ?_) (fun c131 => ?_)
                  · skip
                    refine lv_lload hx hb dX1_readNumber_139 (lv_at hl 9 rfl) ?_
                    refine lv_lstore (lv' := [(16, .long (lI od)), (14, .long (lI (vn + (1 * (unit * 128))))), (8, .long (lI vn)), (13, .int (iI 0)), (12, .int (iI 0)), (11, .int (iI b)), (0, .ref h1r), (1, .ref hb0), (2, .long (lI le)), (4, .long (lI ev)), (6, .long (lI od)), (10, .int (iI g))]) hx hb dX1_readNumber_141 hl (by decide) rfl (fun ls hl => ?_)
                    refine lv_iload hx hb dX1_readNumber_143 (lv_at hl 3 rfl) ?_
                    refine wz_if_ne (tgt := 163) hx hb dX1_readNumber_145 (by decide) (by decide) (fun c145 => ?_) (fun c145 => ?_)
                    · skip
                      exact absurd c145 (by decide)
                    · skip
                      refine lv_lload hx hb dX1_readNumber_148 (lv_at hl 1 rfl) ?_
                      refine lv_lload_n hx hb dX1_readNumber_150 rfl (lv_at hl 8 rfl) ?_
                      refine W.lcmp hx hb dX1_readNumber_151 ?_
                      refine wz_lif_lt (tgt := 163) hx hb dX1_readNumber_152 (by decide) ⟨by omega, by omega⟩ ⟨by omega, by omega⟩ (fun c152 => ?_) (fun c152 => ?_)
                      · skip
                        refine lv_aload_n hx hb dX1_readNumber_163 rfl (lv_at hl 6 rfl) ?_
                        refine lv_aload_n hx hb dX1_readNumber_164 rfl (lv_at hl 6 rfl) ?_
                        refine va_get (D := D) (ci := 1) (v := .int (iI at2)) (C := RX1) (T := TX1) (N := 3) hx hb hts hin1 hown hK hP 0 rfl rfl 1 (by decide) (hts (.fieldLink RX1 18 "DriftLog$Reader" "at" "I") (by decide +kernel)) (fun _ h9 => h9) rfl dX1_readNumber_165 ?_
                        refine va_put (D := D) (ci := 1) (v := .int (iI at2)) (ty := .int) (C := RX1) (T := TX1) (N := 3) hx hb hts hin1 tyX1 tyX1_ok nmX1 hown hK hP hD hS 0 rfl rfl 2 (by decide) (hts (.fieldLink RX1 22 "DriftLog$Reader" "fault" "I") (by decide +kernel)) (fun _ h9 => h9) rfl (by decide +kernel) rfl rfl (Nat.le_of_ble_eq_true rfl) dX1_readNumber_168 (fun H locs hP hD hS => ?_)
                        have hP : va_P D vwCl [(h1r, .inr (1, [.ref qr, .int (iI at2), .int (iI at2)])), (hb0, .inr (0, [.ref qb, .int (iI nb)])), (qb, .inl (cI, 300, .inl (zA fb)))] H := hP
                        have hD : va_D A [(h1r, .inr (1, [.ref qr, .int (iI at2), .int (iI at2)])), (hb0, .inr (0, [.ref qb, .int (iI nb)])), (qb, .inl (cI, 300, .inl (zA fb)))] := hD
                        refine lv_lconst (v := lI 0) hx hb dX1_readNumber_171 (by decide) ?_
                        rw [hQ]
                        exact wz_retl (tys := TY cI cJ cT) (at2, at2) hx hb hr hlocks hK hP hD hS (by (try dsimp only); exact (⟨fun _ => by rw [a5, show (5 - g).toNat = (4 - g).toNat + 1 by omega]; first | (rw [rdN_bad c28 (by omega) evn (fun q => by rcases q with ⟨q1, q2, q3⟩; first | omega | (rw [mostZ_e c131] at q2; omega) | (rw [mostZ_o c131] at q2; omega))]; exact ⟨rfl, Or.inr ⟨rfl, rfl, rfl⟩⟩) | (rw [rdN_long c28 (by omega) evn (by first | (rw [mostZ_e c131]; omega) | (rw [mostZ_o c131]; omega))]; exact ⟨rfl, Or.inr ⟨rfl, rfl, rfl⟩⟩), fun h => absurd c17 h⟩)) dX1_readNumber_172
                      · skip
                        refine lv_lload hx hb dX1_readNumber_155 (lv_at hl 1 rfl) ?_
                        refine lv_lload hx hb dX1_readNumber_157 (lv_at hl 0 rfl) ?_
                        refine W.lcmp hx hb dX1_readNumber_159 ?_
                        refine wz_lif_le (tgt := 173) hx hb dX1_readNumber_160 (by decide) ⟨by omega, by omega⟩ ⟨by omega, by omega⟩ (fun c160 => ?_) (fun c160 => ?_)
                        · skip
                          refine lv_aload_n hx hb dX1_readNumber_173 rfl (lv_at hl 6 rfl) ?_
                          refine lv_dup hx hb dX1_readNumber_174 rfl ?_
                          refine va_get (D := D) (ci := 1) (v := .int (iI at2)) (C := RX1) (T := TX1) (N := 3) hx hb hts hin1 hown hK hP 0 rfl rfl 1 (by decide) (hts (.fieldLink RX1 18 "DriftLog$Reader" "at" "I") (by decide +kernel)) (fun _ h9 => h9) rfl dX1_readNumber_175 ?_
                          refine lv_iconst (v := iI 1) hx hb dX1_readNumber_178 rfl ?_
                          refine wz_iadd hx hb dX1_readNumber_179 ?_
                          refine va_put (D := D) (ci := 1) (v := .int (iI (at2 + 1))) (ty := .int) (C := RX1) (T := TX1) (N := 3) hx hb hts hin1 tyX1 tyX1_ok nmX1 hown hK hP hD hS 0 rfl rfl 1 (by decide) (hts (.fieldLink RX1 18 "DriftLog$Reader" "at" "I") (by decide +kernel)) (fun _ h9 => h9) rfl (by decide +kernel) rfl rfl (Nat.le_of_ble_eq_true rfl) dX1_readNumber_180 (fun H locs hP hD hS => ?_)
                          have hP : va_P D vwCl [(h1r, .inr (1, [.ref qr, .int (iI (at2 + 1)), .int (iI fa)])), (hb0, .inr (0, [.ref qb, .int (iI nb)])), (qb, .inl (cI, 300, .inl (zA fb)))] H := hP
                          have hD : va_D A [(h1r, .inr (1, [.ref qr, .int (iI (at2 + 1)), .int (iI fa)])), (hb0, .inr (0, [.ref qb, .int (iI nb)])), (qb, .inl (cI, 300, .inl (zA fb)))] := hD
                          refine lv_iload hx hb dX1_readNumber_183 (lv_at hl 4 rfl) ?_
                          refine wz_if_eq (tgt := 191) hx hb dX1_readNumber_185 (by decide) (by decide) (fun c185 => ?_) (fun c185 => ?_)
                          · skip
                            refine lv_iinc (v := iI (g + 1)) (lv' := [(10, .int (iI (g + 1))), (16, .long (lI od)), (14, .long (lI (vn + (1 * (unit * 128))))), (8, .long (lI vn)), (13, .int (iI 0)), (12, .int (iI 0)), (11, .int (iI b)), (0, .ref h1r), (1, .ref hb0), (2, .long (lI le)), (4, .long (lI ev)), (6, .long (lI od))]) hx hb dX1_readNumber_191 hl (k := 11) rfl (iI_add _ _) (by decide) rfl (fun ls hl => ?_)
                            refine lv_goto (tgt := 6) hx hb dX1_readNumber_194 (by decide) ?_
                            exact ih6 (g + 1) vn (unit * 128) (at2 + 1) _ _ _ ⟨(by constructor <;> omega), (by rw [a2, show (g + 1).toNat = g.toNat + 1 by omega, Int.pow_succ]), (by constructor <;> omega), (by constructor <;> omega), (by rw [a5, show (5 - g).toNat = (5 - (g + 1)).toNat + 1 by omega, rdN_go c28 (by omega) evn (by first | (rw [mostZ_e c131]; omega) | (rw [mostZ_o c131]; omega))]), (fun h => absurd c17 h)⟩ (by omega) hP hD hS (lv_sub hl [7, 8, 9, 10, 11, 3, 0] rfl)
                          · skip
                            exact absurd c185 (by decide)
                        · skip
                          refine lv_aload_n hx hb dX1_readNumber_163 rfl (lv_at hl 6 rfl) ?_
                          refine lv_aload_n hx hb dX1_readNumber_164 rfl (lv_at hl 6 rfl) ?_
                          refine va_get (D := D) (ci := 1) (v := .int (iI at2)) (C := RX1) (T := TX1) (N := 3) hx hb hts hin1 hown hK hP 0 rfl rfl 1 (by decide) (hts (.fieldLink RX1 18 "DriftLog$Reader" "at" "I") (by decide +kernel)) (fun _ h9 => h9) rfl dX1_readNumber_165 ?_
                          refine va_put (D := D) (ci := 1) (v := .int (iI at2)) (ty := .int) (C := RX1) (T := TX1) (N := 3) hx hb hts hin1 tyX1 tyX1_ok nmX1 hown hK hP hD hS 0 rfl rfl 2 (by decide) (hts (.fieldLink RX1 22 "DriftLog$Reader" "fault" "I") (by decide +kernel)) (fun _ h9 => h9) rfl (by decide +kernel) rfl rfl (Nat.le_of_ble_eq_true rfl) dX1_readNumber_168 (fun H locs hP hD hS => ?_)
                          have hP : va_P D vwCl [(h1r, .inr (1, [.ref qr, .int (iI at2), .int (iI at2)])), (hb0, .inr (0, [.ref qb, .int (iI nb)])), (qb, .inl (cI, 300, .inl (zA fb)))] H := hP
                          have hD : va_D A [(h1r, .inr (1, [.ref qr, .int (iI at2), .int (iI at2)])), (hb0, .inr (0, [.ref qb, .int (iI nb)])), (qb, .inl (cI, 300, .inl (zA fb)))] := hD
                          refine lv_lconst (v := lI 0) hx hb dX1_readNumber_171 (by decide) ?_
                          rw [hQ]
                          exact wz_retl (tys := TY cI cJ cT) (at2, at2) hx hb hr hlocks hK hP hD hS (by (try dsimp only); exact (⟨fun _ => by rw [a5, show (5 - g).toNat = (4 - g).toNat + 1 by omega]; first | (rw [rdN_bad c28 (by omega) evn (fun q => by rcases q with ⟨q1, q2, q3⟩; first | omega | (rw [mostZ_e c131] at q2; omega) | (rw [mostZ_o c131] at q2; omega))]; exact ⟨rfl, Or.inr ⟨rfl, rfl, rfl⟩⟩) | (rw [rdN_long c28 (by omega) evn (by first | (rw [mostZ_e c131]; omega) | (rw [mostZ_o c131]; omega))]; exact ⟨rfl, Or.inr ⟨rfl, rfl, rfl⟩⟩), fun h => absurd c17 h⟩)) dX1_readNumber_172
                  · skip
                    refine lv_lload hx hb dX1_readNumber_134 (lv_at hl 8 rfl) ?_
                    refine lv_goto (tgt := 141) hx hb dX1_readNumber_136 (by decide) ?_
                    refine lv_lstore (lv' := [(16, .long (lI ev)), (14, .long (lI (vn + (1 * (unit * 128))))), (8, .long (lI vn)), (13, .int (iI 0)), (12, .int (iI 0)), (11, .int (iI b)), (0, .ref h1r), (1, .ref hb0), (2, .long (lI le)), (4, .long (lI ev)), (6, .long (lI od)), (10, .int (iI g))]) hx hb dX1_readNumber_141 hl (by decide) rfl (fun ls hl => ?_)
                    refine lv_iload hx hb dX1_readNumber_143 (lv_at hl 3 rfl) ?_
                    refine wz_if_ne (tgt := 163) hx hb dX1_readNumber_145 (by decide) (by decide) (fun c145 => ?_) (fun c145 => ?_)
                    · skip
                      exact absurd c145 (by decide)
                    · skip
                      refine lv_lload hx hb dX1_readNumber_148 (lv_at hl 1 rfl) ?_
                      refine lv_lload_n hx hb dX1_readNumber_150 rfl (lv_at hl 8 rfl) ?_
                      refine W.lcmp hx hb dX1_readNumber_151 ?_
                      refine wz_lif_lt (tgt := 163) hx hb dX1_readNumber_152 (by decide) ⟨by omega, by omega⟩ ⟨by omega, by omega⟩ (fun c152 => ?_) (fun c152 => ?_)
                      · skip
                        refine lv_aload_n hx hb dX1_readNumber_163 rfl (lv_at hl 6 rfl) ?_
                        refine lv_aload_n hx hb dX1_readNumber_164 rfl (lv_at hl 6 rfl) ?_
                        refine va_get (D := D) (ci := 1) (v := .int (iI at2)) (C := RX1) (T := TX1) (N := 3) hx hb hts hin1 hown hK hP 0 rfl rfl 1 (by decide) (hts (.fieldLink RX1 18 "DriftLog$Reader" "at" "I") (by decide +kernel)) (fun _ h9 => h9) rfl dX1_readNumber_165 ?_
                        refine va_put (D := D) (ci := 1) (v := .int (iI at2)) (ty := .int) (C := RX1) (T := TX1) (N := 3) hx hb hts hin1 tyX1 tyX1_ok nmX1 hown hK hP hD hS 0 rfl rfl 2 (by decide) (hts (.fieldLink RX1 22 "DriftLog$Reader" "fault" "I") (by decide +kernel)) (fun _ h9 => h9) rfl (by decide +kernel) rfl rfl (Nat.le_of_ble_eq_true rfl) dX1_readNumber_168 (fun H locs hP hD hS => ?_)
                        have hP : va_P D vwCl [(h1r, .inr (1, [.ref qr, .int (iI at2), .int (iI at2)])), (hb0, .inr (0, [.ref qb, .int (iI nb)])), (qb, .inl (cI, 300, .inl (zA fb)))] H := hP
                        have hD : va_D A [(h1r, .inr (1, [.ref qr, .int (iI at2), .int (iI at2)])), (hb0, .inr (0, [.ref qb, .int (iI nb)])), (qb, .inl (cI, 300, .inl (zA fb)))] := hD
                        refine lv_lconst (v := lI 0) hx hb dX1_readNumber_171 (by decide) ?_
                        rw [hQ]
                        exact wz_retl (tys := TY cI cJ cT) (at2, at2) hx hb hr hlocks hK hP hD hS (by (try dsimp only); exact (⟨fun _ => by rw [a5, show (5 - g).toNat = (4 - g).toNat + 1 by omega]; first | (rw [rdN_bad c28 (by omega) evn (fun q => by rcases q with ⟨q1, q2, q3⟩; first | omega | (rw [mostZ_e c131] at q2; omega) | (rw [mostZ_o c131] at q2; omega))]; exact ⟨rfl, Or.inr ⟨rfl, rfl, rfl⟩⟩) | (rw [rdN_long c28 (by omega) evn (by first | (rw [mostZ_e c131]; omega) | (rw [mostZ_o c131]; omega))]; exact ⟨rfl, Or.inr ⟨rfl, rfl, rfl⟩⟩), fun h => absurd c17 h⟩)) dX1_readNumber_172
                      · skip
                        refine lv_lload hx hb dX1_readNumber_155 (lv_at hl 1 rfl) ?_
                        refine lv_lload hx hb dX1_readNumber_157 (lv_at hl 0 rfl) ?_
                        refine W.lcmp hx hb dX1_readNumber_159 ?_
                        refine wz_lif_le (tgt := 173) hx hb dX1_readNumber_160 (by decide) ⟨by omega, by omega⟩ ⟨by omega, by omega⟩ (fun c160 => ?_) (fun c160 => ?_)
                        · skip
                          refine lv_aload_n hx hb dX1_readNumber_173 rfl (lv_at hl 6 rfl) ?_
                          refine lv_dup hx hb dX1_readNumber_174 rfl ?_
                          refine va_get (D := D) (ci := 1) (v := .int (iI at2)) (C := RX1) (T := TX1) (N := 3) hx hb hts hin1 hown hK hP 0 rfl rfl 1 (by decide) (hts (.fieldLink RX1 18 "DriftLog$Reader" "at" "I") (by decide +kernel)) (fun _ h9 => h9) rfl dX1_readNumber_175 ?_
                          refine lv_iconst (v := iI 1) hx hb dX1_readNumber_178 rfl ?_
                          refine wz_iadd hx hb dX1_readNumber_179 ?_
                          refine va_put (D := D) (ci := 1) (v := .int (iI (at2 + 1))) (ty := .int) (C := RX1) (T := TX1) (N := 3) hx hb hts hin1 tyX1 tyX1_ok nmX1 hown hK hP hD hS 0 rfl rfl 1 (by decide) (hts (.fieldLink RX1 18 "DriftLog$Reader" "at" "I") (by decide +kernel)) (fun _ h9 => h9) rfl (by decide +kernel) rfl rfl (Nat.le_of_ble_eq_true rfl) dX1_readNumber_180 (fun H locs hP hD hS => ?_)
                          have hP : va_P D vwCl [(h1r, .inr (1, [.ref qr, .int (iI (at2 + 1)), .int (iI fa)])), (hb0, .inr (0, [.ref qb, .int (iI nb)])), (qb, .inl (cI, 300, .inl (zA fb)))] H := hP
                          have hD : va_D A [(h1r, .inr (1, [.ref qr, .int (iI (at2 + 1)), .int (iI fa)])), (hb0, .inr (0, [.ref qb, .int (iI nb)])), (qb, .inl (cI, 300, .inl (zA fb)))] := hD
                          refine lv_iload hx hb dX1_readNumber_183 (lv_at hl 4 rfl) ?_
                          refine wz_if_eq (tgt := 191) hx hb dX1_readNumber_185 (by decide) (by decide) (fun c185 => ?_) (fun c185 => ?_)
                          · skip
                            refine lv_iinc (v := iI (g + 1)) (lv' := [(10, .int (iI (g + 1))), (16, .long (lI ev)), (14, .long (lI (vn + (1 * (unit * 128))))), (8, .long (lI vn)), (13, .int (iI 0)), (12, .int (iI 0)), (11, .int (iI b)), (0, .ref h1r), (1, .ref hb0), (2, .long (lI le)), (4, .long (lI ev)), (6, .long (lI od))]) hx hb dX1_readNumber_191 hl (k := 11) rfl (iI_add _ _) (by decide) rfl (fun ls hl => ?_)
                            refine lv_goto (tgt := 6) hx hb dX1_readNumber_194 (by decide) ?_
                            exact ih6 (g + 1) vn (unit * 128) (at2 + 1) _ _ _ ⟨(by constructor <;> omega), (by rw [a2, show (g + 1).toNat = g.toNat + 1 by omega, Int.pow_succ]), (by constructor <;> omega), (by constructor <;> omega), (by rw [a5, show (5 - g).toNat = (5 - (g + 1)).toNat + 1 by omega, rdN_go c28 (by omega) evn (by first | (rw [mostZ_e c131]; omega) | (rw [mostZ_o c131]; omega))]), (fun h => absurd c17 h)⟩ (by omega) hP hD hS (lv_sub hl [7, 8, 9, 10, 11, 3, 0] rfl)
                          · skip
                            exact absurd c185 (by decide)
                        · skip
                          refine lv_aload_n hx hb dX1_readNumber_163 rfl (lv_at hl 6 rfl) ?_
                          refine lv_aload_n hx hb dX1_readNumber_164 rfl (lv_at hl 6 rfl) ?_
                          refine va_get (D := D) (ci := 1) (v := .int (iI at2)) (C := RX1) (T := TX1) (N := 3) hx hb hts hin1 hown hK hP 0 rfl rfl 1 (by decide) (hts (.fieldLink RX1 18 "DriftLog$Reader" "at" "I") (by decide +kernel)) (fun _ h9 => h9) rfl dX1_readNumber_165 ?_
                          refine va_put (D := D) (ci := 1) (v := .int (iI at2)) (ty := .int) (C := RX1) (T := TX1) (N := 3) hx hb hts hin1 tyX1 tyX1_ok nmX1 hown hK hP hD hS 0 rfl rfl 2 (by decide) (hts (.fieldLink RX1 22 "DriftLog$Reader" "fault" "I") (by decide +kernel)) (fun _ h9 => h9) rfl (by decide +kernel) rfl rfl (Nat.le_of_ble_eq_true rfl) dX1_readNumber_168 (fun H locs hP hD hS => ?_)
                          have hP : va_P D vwCl [(h1r, .inr (1, [.ref qr, .int (iI at2), .int (iI at2)])), (hb0, .inr (0, [.ref qb, .int (iI nb)])), (qb, .inl (cI, 300, .inl (zA fb)))] H := hP
                          have hD : va_D A [(h1r, .inr (1, [.ref qr, .int (iI at2), .int (iI at2)])), (hb0, .inr (0, [.ref qb, .int (iI nb)])), (qb, .inl (cI, 300, .inl (zA fb)))] := hD
                          refine lv_lconst (v := lI 0) hx hb dX1_readNumber_171 (by decide) ?_
                          rw [hQ]
                          exact wz_retl (tys := TY cI cJ cT) (at2, at2) hx hb hr hlocks hK hP hD hS (by (try dsimp only); exact (⟨fun _ => by rw [a5, show (5 - g).toNat = (4 - g).toNat + 1 by omega]; first | (rw [rdN_bad c28 (by omega) evn (fun q => by rcases q with ⟨q1, q2, q3⟩; first | omega | (rw [mostZ_e c131] at q2; omega) | (rw [mostZ_o c131] at q2; omega))]; exact ⟨rfl, Or.inr ⟨rfl, rfl, rfl⟩⟩) | (rw [rdN_long c28 (by omega) evn (by first | (rw [mostZ_e c131]; omega) | (rw [mostZ_o c131]; omega))]; exact ⟨rfl, Or.inr ⟨rfl, rfl, rfl⟩⟩), fun h => absurd c17 h⟩)) dX1_readNumber_172
                · skip
                  exact absurd c102 (by decide)
              · skip
                exfalso; omega
            · skip
              refine lv_iconst (v := iI 1) hx hb dX1_readNumber_59 rfl ?_
              refine lv_goto (tgt := 64) hx hb dX1_readNumber_60 (by decide) ?_
              refine lv_istore (lv' := [(12, .int (iI 1)), (11, .int (iI b)), (0, .ref h1r), (1, .ref hb0), (2, .long (lI le)), (4, .long (lI ev)), (6, .long (lI od)), (8, .long (lI num)), (10, .int (iI g))]) hx hb dX1_readNumber_64 hl (by decide) rfl (fun ls hl => ?_)
              refine lv_iload hx hb dX1_readNumber_66 (lv_at hl 1 rfl) ?_
              refine wz_if_ne (tgt := 80) hx hb dX1_readNumber_68 (by decide) ⟨by omega, by omega⟩ (fun c68 => ?_) (fun c68 => ?_)
              · skip
                refine lv_iconst (v := iI 0) hx hb dX1_readNumber_80 rfl ?_
                refine lv_istore (lv' := [(13, .int (iI 0)), (12, .int (iI 1)), (11, .int (iI b)), (0, .ref h1r), (1, .ref hb0), (2, .long (lI le)), (4, .long (lI ev)), (6, .long (lI od)), (8, .long (lI num)), (10, .int (iI g))]) hx hb dX1_readNumber_81 hl (by decide) rfl (fun ls hl => ?_)
                refine lv_lload hx hb dX1_readNumber_83 (lv_at hl 8 rfl) ?_
                refine lv_iload hx hb dX1_readNumber_85 (lv_at hl 2 rfl) ?_
                refine lv_bipush (v := iI 127) hx hb dX1_readNumber_87 (by decide) ?_
                refine lv_iand hx hb dX1_readNumber_89 ?_
                refine wz_topi (y := iI (b % 128)) (iI_and127 (by omega) (by omega)) ?_
                refine wz_i2l hx hb dX1_readNumber_90 ⟨by omega, by omega⟩ ?_
                refine lv_bipush (v := iI 7) hx hb dX1_readNumber_91 (by decide) ?_
                refine lv_iload hx hb dX1_readNumber_93 (lv_at hl 9 rfl) ?_
                refine wz_imul hx hb dX1_readNumber_95 ?_
                refine lv_lshl hx hb dX1_readNumber_96 rfl ?_
                refine wz_topl (y := lI ((b % 128) * unit)) (lI_shl7 a1.1 (by omega) a2) ?_
                refine wz_ladd hx hb dX1_readNumber_97 ?_
                obtain ⟨vn, evn⟩ : ∃ y : Int, y = (num + ((b % 128) * unit)) := ⟨_, rfl⟩
                rw [← evn]
                refine lv_lstore (lv' := [(8, .long (lI vn)), (13, .int (iI 0)), (12, .int (iI 1)), (11, .int (iI b)), (0, .ref h1r), (1, .ref hb0), (2, .long (lI le)), (4, .long (lI ev)), (6, .long (lI od)), (10, .int (iI g))]) hx hb dX1_readNumber_98 hl (by decide) rfl (fun ls hl => ?_)
                rw [eb] at evn
                refine lv_iload hx hb dX1_readNumber_100 (lv_at hl 2 rfl) ?_
                refine wz_if_eq (tgt := 110) hx hb dX1_readNumber_102 (by decide) (by decide) (fun c102 => ?_) (fun c102 => ?_)
                · skip
                  exact absurd c102 (by decide)
                · skip
                  refine lv_lload hx hb dX1_readNumber_105 (lv_at hl 0 rfl) ?_
                  refine lv_goto (tgt := 123) hx hb dX1_readNumber_107 (by decide) ?_
                  refine lv_lstore (lv' := [(14, .long (lI vn)), (8, .long (lI vn)), (13, .int (iI 0)), (12, .int (iI 1)), (11, .int (iI b)), (0, .ref h1r), (1, .ref hb0), (2, .long (lI le)), (4, .long (lI ev)), (6, .long (lI od)), (10, .int (iI g))]) hx hb dX1_readNumber_123 hl (by decide) rfl (fun ls hl => ?_)
                  refine lv_lload hx hb dX1_readNumber_125 (lv_at hl 1 rfl) ?_
                  refine lv_lconst (v := lI 1) hx hb dX1_readNumber_127 (by decide) ?_
                  refine lv_land hx hb dX1_readNumber_128 ?_
                  refine wz_topl (y := lI (vn % 2)) (lI_and1 (by omega) (by omega)) ?_
                  refine lv_lconst (v := lI 0) hx hb dX1_readNumber_129 (by decide) ?_
                  refine W.lcmp hx hb dX1_readNumber_130 ?_
                  refine wz_lif_ne (tgt := 139) hx hb dX1_readNumber_131 (by decide) ⟨by omega, by omega⟩ (by decide) (fun c131 => ?_) (fun c131 => ?_)
                  · skip
                    refine lv_lload hx hb dX1_readNumber_139 (lv_at hl 9 rfl) ?_
                    refine lv_lstore (lv' := [(16, .long (lI od)), (14, .long (lI vn)), (8, .long (lI vn)), (13, .int (iI 0)), (12, .int (iI 1)), (11, .int (iI b)), (0, .ref h1r), (1, .ref hb0), (2, .long (lI le)), (4, .long (lI ev)), (6, .long (lI od)), (10, .int (iI g))]) hx hb dX1_readNumber_141 hl (by decide) rfl (fun ls hl => ?_)
                    refine lv_iload hx hb dX1_readNumber_143 (lv_at hl 3 rfl) ?_
                    refine wz_if_ne (tgt := 163) hx hb dX1_readNumber_145 (by decide) (by decide) (fun c145 => ?_) (fun c145 => ?_)
                    · skip
                      exact absurd c145 (by decide)
                    · skip
                      refine lv_lload hx hb dX1_readNumber_148 (lv_at hl 1 rfl) ?_
                      refine lv_lload_n hx hb dX1_readNumber_150 rfl (lv_at hl 8 rfl) ?_
                      refine W.lcmp hx hb dX1_readNumber_151 ?_
                      refine wz_lif_lt (tgt := 163) hx hb dX1_readNumber_152 (by decide) ⟨by omega, by omega⟩ ⟨by omega, by omega⟩ (fun c152 => ?_) (fun c152 => ?_)
                      · skip
                        refine lv_aload_n hx hb dX1_readNumber_163 rfl (lv_at hl 6 rfl) ?_
                        refine lv_aload_n hx hb dX1_readNumber_164 rfl (lv_at hl 6 rfl) ?_
                        refine va_get (D := D) (ci := 1) (v := .int (iI at2)) (C := RX1) (T := TX1) (N := 3) hx hb hts hin1 hown hK hP 0 rfl rfl 1 (by decide) (hts (.fieldLink RX1 18 "DriftLog$Reader" "at" "I") (by decide +kernel)) (fun _ h9 => h9) rfl dX1_readNumber_165 ?_
                        refine va_put (D := D) (ci := 1) (v := .int (iI at2)) (ty := .int) (C := RX1) (T := TX1) (N := 3) hx hb hts hin1 tyX1 tyX1_ok nmX1 hown hK hP hD hS 0 rfl rfl 2 (by decide) (hts (.fieldLink RX1 22 "DriftLog$Reader" "fault" "I") (by decide +kernel)) (fun _ h9 => h9) rfl (by decide +kernel) rfl rfl (Nat.le_of_ble_eq_true rfl) dX1_readNumber_168 (fun H locs hP hD hS => ?_)
                        have hP : va_P D vwCl [(h1r, .inr (1, [.ref qr, .int (iI at2), .int (iI at2)])), (hb0, .inr (0, [.ref qb, .int (iI nb)])), (qb, .inl (cI, 300, .inl (zA fb)))] H := hP
                        have hD : va_D A [(h1r, .inr (1, [.ref qr, .int (iI at2), .int (iI at2)])), (hb0, .inr (0, [.ref qb, .int (iI nb)])), (qb, .inl (cI, 300, .inl (zA fb)))] := hD
                        refine lv_lconst (v := lI 0) hx hb dX1_readNumber_171 (by decide) ?_
                        rw [hQ]
                        exact wz_retl (tys := TY cI cJ cT) (at2, at2) hx hb hr hlocks hK hP hD hS (by (try dsimp only); exact (⟨fun _ => by rw [a5, show (5 - g).toNat = (4 - g).toNat + 1 by omega]; first | (rw [rdN_bad c28 (by omega) evn (fun q => by rcases q with ⟨q1, q2, q3⟩; first | omega | (rw [mostZ_e c131] at q2; omega) | (rw [mostZ_o c131] at q2; omega))]; exact ⟨rfl, Or.inr ⟨rfl, rfl, rfl⟩⟩) | (rw [rdN_long c28 (by omega) evn (by first | (rw [mostZ_e c131]; omega) | (rw [mostZ_o c131]; omega))]; exact ⟨rfl, Or.inr ⟨rfl, rfl, rfl⟩⟩), fun h => absurd c17 h⟩)) dX1_readNumber_172
                      · skip
                        refine lv_lload hx hb dX1_readNumber_155 (lv_at hl 1 rfl) ?_
                        refine lv_lload hx hb dX1_readNumber_157 (lv_at hl 0 rfl) ?_
                        refine W.lcmp hx hb dX1_readNumber_159 ?_
                        refine wz_lif_le (tgt := 173) hx hb dX1_readNumber_160 (by decide) ⟨by omega, by omega⟩ ⟨by omega, by omega⟩ (fun c160 => ?_) (fun c160 => ?_)
                        · skip
                          refine lv_aload_n hx hb dX1_readNumber_173 rfl (lv_at hl 6 rfl) ?_
                          refine lv_dup hx hb dX1_readNumber_174 rfl ?_
                          refine va_get (D := D) (ci := 1) (v := .int (iI at2)) (C := RX1) (T := TX1) (N := 3) hx hb hts hin1 hown hK hP 0 rfl rfl 1 (by decide) (hts (.fieldLink RX1 18 "DriftLog$Reader" "at" "I") (by decide +kernel)) (fun _ h9 => h9) rfl dX1_readNumber_175 ?_
                          refine lv_iconst (v := iI 1) hx hb dX1_readNumber_178 rfl ?_
                          refine wz_iadd hx hb dX1_readNumber_179 ?_
                          refine va_put (D := D) (ci := 1) (v := .int (iI (at2 + 1))) (ty := .int) (C := RX1) (T := TX1) (N := 3) hx hb hts hin1 tyX1 tyX1_ok nmX1 hown hK hP hD hS 0 rfl rfl 1 (by decide) (hts (.fieldLink RX1 18 "DriftLog$Reader" "at" "I") (by decide +kernel)) (fun _ h9 => h9) rfl (by decide +kernel) rfl rfl (Nat.le_of_ble_eq_true rfl) dX1_readNumber_180 (fun H locs hP hD hS => ?_)
                          have hP : va_P D vwCl [(h1r, .inr (1, [.ref qr, .int (iI (at2 + 1)), .int (iI fa)])), (hb0, .inr (0, [.ref qb, .int (iI nb)])), (qb, .inl (cI, 300, .inl (zA fb)))] H := hP
                          have hD : va_D A [(h1r, .inr (1, [.ref qr, .int (iI (at2 + 1)), .int (iI fa)])), (hb0, .inr (0, [.ref qb, .int (iI nb)])), (qb, .inl (cI, 300, .inl (zA fb)))] := hD
                          refine lv_iload hx hb dX1_readNumber_183 (lv_at hl 4 rfl) ?_
                          refine wz_if_eq (tgt := 191) hx hb dX1_readNumber_185 (by decide) (by decide) (fun c185 => ?_) (fun c185 => ?_)
                          · skip
                            exact absurd c185 (by decide)
                          · skip
                            refine lv_lload hx hb dX1_readNumber_188 (lv_at hl 2 rfl) ?_
                            rw [hQ]
                            exact wz_retl (tys := TY cI cJ cT) ((at2 + 1), fa) hx hb hr hlocks hK hP hD hS (by (try dsimp only); exact (⟨fun _ => by rw [a5, show (5 - g).toNat = (4 - g).toNat + 1 by omega, rdN_good c28 (by omega) evn (by omega) (by first | (rw [mostZ_e c131]; omega) | (rw [mostZ_o c131]; omega)) (by first | (left; omega) | (right; omega))]; exact ⟨rfl, Or.inl ⟨rfl, rfl, c17⟩⟩, fun h => absurd c17 h⟩)) dX1_readNumber_190
                        · skip
                          refine lv_aload_n hx hb dX1_readNumber_163 rfl (lv_at hl 6 rfl) ?_
                          refine lv_aload_n hx hb dX1_readNumber_164 rfl (lv_at hl 6 rfl) ?_
                          refine va_get (D := D) (ci := 1) (v := .int (iI at2)) (C := RX1) (T := TX1) (N := 3) hx hb hts hin1 hown hK hP 0 rfl rfl 1 (by decide) (hts (.fieldLink RX1 18 "DriftLog$Reader" "at" "I") (by decide +kernel)) (fun _ h9 => h9) rfl dX1_readNumber_165 ?_
                          refine va_put (D := D) (ci := 1) (v := .int (iI at2)) (ty := .int) (C := RX1) (T := TX1) (N := 3) hx hb hts hin1 tyX1 tyX1_ok nmX1 hown hK hP hD hS 0 rfl rfl 2 (by decide) (hts (.fieldLink RX1 22 "DriftLog$Reader" "fault" "I") (by decide +kernel)) (fun _ h9 => h9) rfl (by decide +kernel) rfl rfl (Nat.le_of_ble_eq_true rfl) dX1_readNumber_168 (fun H locs hP hD hS => ?_)
                          have hP : va_P D vwCl [(h1r, .inr (1, [.ref qr, .int (iI at2), .int (iI at2)])), (hb0, .inr (0, [.ref qb, .int (iI nb)])), (qb, .inl (cI, 300, .inl (zA fb)))] H := hP
                          have hD : va_D A [(h1r, .inr (1, [.ref qr, .int (iI at2), .int (iI at2)])), (hb0, .inr (0, [.ref qb, .int (iI nb)])), (qb, .inl (cI, 300, .inl (zA fb)))] := hD
                          refine lv_lconst (v := lI 0) hx hb dX1_readNumber_171 (by decide) ?_
                          rw [hQ]
                          exact wz_retl (tys := TY cI cJ cT) (at2, at2) hx hb hr hlocks hK hP hD hS (by (try dsimp only); exact (⟨fun _ => by rw [a5, show (5 - g).toNat = (4 - g).toNat + 1 by omega]; first | (rw [rdN_bad c28 (by omega) evn (fun q => by rcases q with ⟨q1, q2, q3⟩; first | omega | (rw [mostZ_e c131] at q2; omega) | (rw [mostZ_o c131] at q2; omega))]; exact ⟨rfl, Or.inr ⟨rfl, rfl, rfl⟩⟩) | (rw [rdN_long c28 (by omega) evn (by first | (rw [mostZ_e c131]; omega) | (rw [mostZ_o c131]; omega))]; exact ⟨rfl, Or.inr ⟨rfl, rfl, rfl⟩⟩), fun h => absurd c17 h⟩)) dX1_readNumber_172
                  · skip
                    refine lv_lload hx hb dX1_readNumber_134 (lv_at hl 8 rfl) ?_
                    refine lv_goto (tgt := 141) hx hb dX1_readNumber_136 (by decide) ?_
                    refine lv_lstore (lv' := [(16, .long (lI ev)), (14, .long (lI vn)), (8, .long (lI vn)), (13, .int (iI 0)), (12, .int (iI 1)), (11, .int (iI b)), (0, .ref h1r), (1, .ref hb0), (2, .long (lI le)), (4, .long (lI ev)), (6, .long (lI od)), (10, .int (iI g))]) hx hb dX1_readNumber_141 hl (by decide) rfl (fun ls hl => ?_)
                    refine lv_iload hx hb dX1_readNumber_143 (lv_at hl 3 rfl) ?_
                    refine wz_if_ne (tgt := 163) hx hb dX1_readNumber_145 (by decide) (by decide) (fun c145 => ?_) (fun c145 => ?_)
                    · skip
                      exact absurd c145 (by decide)
                    · skip
                      refine lv_lload hx hb dX1_readNumber_148 (lv_at hl 1 rfl) ?_
                      refine lv_lload_n hx hb dX1_readNumber_150 rfl (lv_at hl 8 rfl) ?_
                      refine W.lcmp hx hb dX1_readNumber_151 ?_
                      refine wz_lif_lt (tgt := 163) hx hb dX1_readNumber_152 (by decide) ⟨by omega, by omega⟩ ⟨by omega, by omega⟩ (fun c152 => ?_) (fun c152 => ?_)
                      · skip
                        refine lv_aload_n hx hb dX1_readNumber_163 rfl (lv_at hl 6 rfl) ?_
                        refine lv_aload_n hx hb dX1_readNumber_164 rfl (lv_at hl 6 rfl) ?_
                        refine va_get (D := D) (ci := 1) (v := .int (iI at2)) (C := RX1) (T := TX1) (N := 3) hx hb hts hin1 hown hK hP 0 rfl rfl 1 (by decide) (hts (.fieldLink RX1 18 "DriftLog$Reader" "at" "I") (by decide +kernel)) (fun _ h9 => h9) rfl dX1_readNumber_165 ?_
                        refine va_put (D := D) (ci := 1) (v := .int (iI at2)) (ty := .int) (C := RX1) (T := TX1) (N := 3) hx hb hts hin1 tyX1 tyX1_ok nmX1 hown hK hP hD hS 0 rfl rfl 2 (by decide) (hts (.fieldLink RX1 22 "DriftLog$Reader" "fault" "I") (by decide +kernel)) (fun _ h9 => h9) rfl (by decide +kernel) rfl rfl (Nat.le_of_ble_eq_true rfl) dX1_readNumber_168 (fun H locs hP hD hS => ?_)
                        have hP : va_P D vwCl [(h1r, .inr (1, [.ref qr, .int (iI at2), .int (iI at2)])), (hb0, .inr (0, [.ref qb, .int (iI nb)])), (qb, .inl (cI, 300, .inl (zA fb)))] H := hP
                        have hD : va_D A [(h1r, .inr (1, [.ref qr, .int (iI at2), .int (iI at2)])), (hb0, .inr (0, [.ref qb, .int (iI nb)])), (qb, .inl (cI, 300, .inl (zA fb)))] := hD
                        refine lv_lconst (v := lI 0) hx hb dX1_readNumber_171 (by decide) ?_
                        rw [hQ]
                        exact wz_retl (tys := TY cI cJ cT) (at2, at2) hx hb hr hlocks hK hP hD hS (by (try dsimp only); exact (⟨fun _ => by rw [a5, show (5 - g).toNat = (4 - g).toNat + 1 by omega]; first | (rw [rdN_bad c28 (by omega) evn (fun q => by rcases q with ⟨q1, q2, q3⟩; first | omega | (rw [mostZ_e c131] at q2; omega) | (rw [mostZ_o c131] at q2; omega))]; exact ⟨rfl, Or.inr ⟨rfl, rfl, rfl⟩⟩) | (rw [rdN_long c28 (by omega) evn (by first | (rw [mostZ_e c131]; omega) | (rw [mostZ_o c131]; omega))]; exact ⟨rfl, Or.inr ⟨rfl, rfl, rfl⟩⟩), fun h => absurd c17 h⟩)) dX1_readNumber_172
                      · skip
                        refine lv_lload hx hb dX1_readNumber_155 (lv_at hl 1 rfl) ?_
                        refine lv_lload hx hb dX1_readNumber_157 (lv_at hl 0 rfl) ?_
                        refine W.lcmp hx hb dX1_readNumber_159 ?_
                        refine wz_lif_le (tgt := 173) hx hb dX1_readNumber_160 (by decide) ⟨by omega, by omega⟩ ⟨by omega, by omega⟩ (fun c160 => ?_) (fun c160 => ?_)
                        · skip
                          refine lv_aload_n hx hb dX1_readNumber_173 rfl (lv_at hl 6 rfl) ?_
                          refine lv_dup hx hb dX1_readNumber_174 rfl ?_
                          refine va_get (D := D) (ci := 1) (v := .int (iI at2)) (C := RX1) (T := TX1) (N := 3) hx hb hts hin1 hown hK hP 0 rfl rfl 1 (by decide) (hts (.fieldLink RX1 18 "DriftLog$Reader" "at" "I") (by decide +kernel)) (fun _ h9 => h9) rfl dX1_readNumber_175 ?_
                          refine lv_iconst (v := iI 1) hx hb dX1_readNumber_178 rfl ?_
                          refine wz_iadd hx hb dX1_readNumber_179 ?_
                          refine va_put (D := D) (ci := 1) (v := .int (iI (at2 + 1))) (ty := .int) (C := RX1) (T := TX1) (N := 3) hx hb hts hin1 tyX1 tyX1_ok nmX1 hown hK hP hD hS 0 rfl rfl 1 (by decide) (hts (.fieldLink RX1 18 "DriftLog$Reader" "at" "I") (by decide +kernel)) (fun _ h9 => h9) rfl (by decide +kernel) rfl rfl (Nat.le_of_ble_eq_true rfl) dX1_readNumber_180 (fun H locs hP hD hS => ?_)
                          have hP : va_P D vwCl [(h1r, .inr (1, [.ref qr, .int (iI (at2 + 1)), .int (iI fa)])), (hb0, .inr (0, [.ref qb, .int (iI nb)])), (qb, .inl (cI, 300, .inl (zA fb)))] H := hP
                          have hD : va_D A [(h1r, .inr (1, [.ref qr, .int (iI (at2 + 1)), .int (iI fa)])), (hb0, .inr (0, [.ref qb, .int (iI nb)])), (qb, .inl (cI, 300, .inl (zA fb)))] := hD
                          refine lv_iload hx hb dX1_readNumber_183 (lv_at hl 4 rfl) ?_
                          refine wz_if_eq (tgt := 191) hx hb dX1_readNumber_185 (by decide) (by decide) (fun c185 => ?_) (fun c185 => ?_)
                          · skip
                            exact absurd c185 (by decide)
                          · skip
                            refine lv_lload hx hb dX1_readNumber_188 (lv_at hl 2 rfl) ?_
                            rw [hQ]
                            exact wz_retl (tys := TY cI cJ cT) ((at2 + 1), fa) hx hb hr hlocks hK hP hD hS (by (try dsimp only); exact (⟨fun _ => by rw [a5, show (5 - g).toNat = (4 - g).toNat + 1 by omega, rdN_good c28 (by omega) evn (by omega) (by first | (rw [mostZ_e c131]; omega) | (rw [mostZ_o c131]; omega)) (by first | (left; omega) | (right; omega))]; exact ⟨rfl, Or.inl ⟨rfl, rfl, c17⟩⟩, fun h => absurd c17 h⟩)) dX1_readNumber_190
                        · skip
                          refine lv_aload_n hx hb dX1_readNumber_163 rfl (lv_at hl 6 rfl) ?_
                          refine lv_aload_n hx hb dX1_readNumber_164 rfl (lv_at hl 6 rfl) ?_
                          refine va_get (D := D) (ci := 1) (v := .int (iI at2)) (C := RX1) (T := TX1) (N := 3) hx hb hts hin1 hown hK hP 0 rfl rfl 1 (by decide) (hts (.fieldLink RX1 18 "DriftLog$Reader" "at" "I") (by decide +kernel)) (fun _ h9 => h9) rfl dX1_readNumber_165 ?_
                          refine va_put (D := D) (ci := 1) (v := .int (iI at2)) (ty := .int) (C := RX1) (T := TX1) (N := 3) hx hb hts hin1 tyX1 tyX1_ok nmX1 hown hK hP hD hS 0 rfl rfl 2 (by decide) (hts (.fieldLink RX1 22 "DriftLog$Reader" "fault" "I") (by decide +kernel)) (fun _ h9 => h9) rfl (by decide +kernel) rfl rfl (Nat.le_of_ble_eq_true rfl) dX1_readNumber_168 (fun H locs hP hD hS => ?_)
                          have hP : va_P D vwCl [(h1r, .inr (1, [.ref qr, .int (iI at2), .int (iI at2)])), (hb0, .inr (0, [.ref qb, .int (iI nb)])), (qb, .inl (cI, 300, .inl (zA fb)))] H := hP
                          have hD : va_D A [(h1r, .inr (1, [.ref qr, .int (iI at2), .int (iI at2)])), (hb0, .inr (0, [.ref qb, .int (iI nb)])), (qb, .inl (cI, 300, .inl (zA fb)))] := hD
                          refine lv_lconst (v := lI 0) hx hb dX1_readNumber_171 (by decide) ?_
                          rw [hQ]
                          exact wz_retl (tys := TY cI cJ cT) (at2, at2) hx hb hr hlocks hK hP hD hS (by (try dsimp only); exact (⟨fun _ => by rw [a5, show (5 - g).toNat = (4 - g).toNat + 1 by omega]; first | (rw [rdN_bad c28 (by omega) evn (fun q => by rcases q with ⟨q1, q2, q3⟩; first | omega | (rw [mostZ_e c131] at q2; omega) | (rw [mostZ_o c131] at q2; omega))]; exact ⟨rfl, Or.inr ⟨rfl, rfl, rfl⟩⟩) | (rw [rdN_long c28 (by omega) evn (by first | (rw [mostZ_e c131]; omega) | (rw [mostZ_o c131]; omega))]; exact ⟨rfl, Or.inr ⟨rfl, rfl, rfl⟩⟩), fun h => absurd c17 h⟩)) dX1_readNumber_172
              · skip
                refine lv_iload hx hb dX1_readNumber_71 (lv_at hl 8 rfl) ?_
                refine wz_if_le (tgt := 80) hx hb dX1_readNumber_73 (by decide) ⟨by omega, by omega⟩ (fun c73 => ?_) (fun c73 => ?_)
                · skip
                  refine lv_iconst (v := iI 0) hx hb dX1_readNumber_80 rfl ?_
                  refine lv_istore (lv' := [(13, .int (iI 0)), (12, .int (iI 1)), (11, .int (iI b)), (0, .ref h1r), (1, .ref hb0), (2, .long (lI le)), (4, .long (lI ev)), (6, .long (lI od)), (8, .long (lI num)), (10, .int (iI g))]) hx hb dX1_readNumber_81 hl (by decide) rfl (fun ls hl => ?_)
                  refine lv_lload hx hb dX1_readNumber_83 (lv_at hl 8 rfl) ?_
                  refine lv_iload hx hb dX1_readNumber_85 (lv_at hl 2 rfl) ?_
                  refine lv_bipush (v := iI 127) hx hb dX1_readNumber_87 (by decide) ?_
                  refine lv_iand hx hb dX1_readNumber_89 ?_
                  refine wz_topi (y := iI (b % 128)) (iI_and127 (by omega) (by omega)) ?_
                  refine wz_i2l hx hb dX1_readNumber_90 ⟨by omega, by omega⟩ ?_
                  refine lv_bipush (v := iI 7) hx hb dX1_readNumber_91 (by decide) ?_
                  refine lv_iload hx hb dX1_readNumber_93 (lv_at hl 9 rfl) ?_
                  refine wz_imul hx hb dX1_readNumber_95 ?_
                  refine lv_lshl hx hb dX1_readNumber_96 rfl ?_
                  refine wz_topl (y := lI ((b % 128) * unit)) (lI_shl7 a1.1 (by omega) a2) ?_
                  refine wz_ladd hx hb dX1_readNumber_97 ?_
                  obtain ⟨vn, evn⟩ : ∃ y : Int, y = (num + ((b % 128) * unit)) := ⟨_, rfl⟩
                  rw [← evn]
                  refine lv_lstore (lv' := [(8, .long (lI vn)), (13, .int (iI 0)), (12, .int (iI 1)), (11, .int (iI b)), (0, .ref h1r), (1, .ref hb0), (2, .long (lI le)), (4, .long (lI ev)), (6, .long (lI od)), (10, .int (iI g))]) hx hb dX1_readNumber_98 hl (by decide) rfl (fun ls hl => ?_)
                  rw [eb] at evn
                  refine lv_iload hx hb dX1_readNumber_100 (lv_at hl 2 rfl) ?_
                  refine wz_if_eq (tgt := 110) hx hb dX1_readNumber_102 (by decide) (by decide) (fun c102 => ?_) (fun c102 => ?_)
                  · skip
                    exact absurd c102 (by decide)
                  · skip
                    refine lv_lload hx hb dX1_readNumber_105 (lv_at hl 0 rfl) ?_
                    refine lv_goto (tgt := 123) hx hb dX1_readNumber_107 (by decide) ?_
                    refine lv_lstore (lv' := [(14, .long (lI vn)), (8, .long (lI vn)), (13, .int (iI 0)), (12, .int (iI 1)), (11, .int (iI b)), (0, .ref h1r), (1, .ref hb0), (2, .long (lI le)), (4, .long (lI ev)), (6, .long (lI od)), (10, .int (iI g))]) hx hb dX1_readNumber_123 hl (by decide) rfl (fun ls hl => ?_)
                    refine lv_lload hx hb dX1_readNumber_125 (lv_at hl 1 rfl) ?_
                    refine lv_lconst (v := lI 1) hx hb dX1_readNumber_127 (by decide) ?_
                    refine lv_land hx hb dX1_readNumber_128 ?_
                    refine wz_topl (y := lI (vn % 2)) (lI_and1 (by omega) (by omega)) ?_
                    refine lv_lconst (v := lI 0) hx hb dX1_readNumber_129 (by decide) ?_
                    refine W.lcmp hx hb dX1_readNumber_130 ?_
                    refine wz_lif_ne (tgt := 139) hx hb dX1_readNumber_131 (by decide) ⟨by omega, by omega⟩ (by decide) (fun c131 => ?_) (fun c131 => ?_)
                    · skip
                      refine lv_lload hx hb dX1_readNumber_139 (lv_at hl 9 rfl) ?_
                      refine lv_lstore (lv' := [(16, .long (lI od)), (14, .long (lI vn)), (8, .long (lI vn)), (13, .int (iI 0)), (12, .int (iI 1)), (11, .int (iI b)), (0, .ref h1r), (1, .ref hb0), (2, .long (lI le)), (4, .long (lI ev)), (6, .long (lI od)), (10, .int (iI g))]) hx hb dX1_readNumber_141 hl (by decide) rfl (fun ls hl => ?_)
                      refine lv_iload hx hb dX1_readNumber_143 (lv_at hl 3 rfl) ?_
                      refine wz_if_ne (tgt := 163) hx hb dX1_readNumber_145 (by decide) (by decide) (fun c145 => ?_) (fun c145 => ?_)
                      · skip
                        exact absurd c145 (by decide)
                      · skip
                        refine lv_lload hx hb dX1_readNumber_148 (lv_at hl 1 rfl) ?_
                        refine lv_lload_n hx hb dX1_readNumber_150 rfl (lv_at hl 8 rfl) ?_
                        refine W.lcmp hx hb dX1_readNumber_151 ?_
                        refine wz_lif_lt (tgt := 163) hx hb dX1_readNumber_152 (by decide) ⟨by omega, by omega⟩ ⟨by omega, by omega⟩ (fun c152 => ?_) (fun c152 => ?_)
                        · skip
                          refine lv_aload_n hx hb dX1_readNumber_163 rfl (lv_at hl 6 rfl) ?_
                          refine lv_aload_n hx hb dX1_readNumber_164 rfl (lv_at hl 6 rfl) ?_
                          refine va_get (D := D) (ci := 1) (v := .int (iI at2)) (C := RX1) (T := TX1) (N := 3) hx hb hts hin1 hown hK hP 0 rfl rfl 1 (by decide) (hts (.fieldLink RX1 18 "DriftLog$Reader" "at" "I") (by decide +kernel)) (fun _ h9 => h9) rfl dX1_readNumber_165 ?_
                          refine va_put (D := D) (ci := 1) (v := .int (iI at2)) (ty := .int) (C := RX1) (T := TX1) (N := 3) hx hb hts hin1 tyX1 tyX1_ok nmX1 hown hK hP hD hS 0 rfl rfl 2 (by decide) (hts (.fieldLink RX1 22 "DriftLog$Reader" "fault" "I") (by decide +kernel)) (fun _ h9 => h9) rfl (by decide +kernel) rfl rfl (Nat.le_of_ble_eq_true rfl) dX1_readNumber_168 (fun H locs hP hD hS => ?_)
                          have hP : va_P D vwCl [(h1r, .inr (1, [.ref qr, .int (iI at2), .int (iI at2)])), (hb0, .inr (0, [.ref qb, .int (iI nb)])), (qb, .inl (cI, 300, .inl (zA fb)))] H := hP
                          have hD : va_D A [(h1r, .inr (1, [.ref qr, .int (iI at2), .int (iI at2)])), (hb0, .inr (0, [.ref qb, .int (iI nb)])), (qb, .inl (cI, 300, .inl (zA fb)))] := hD
                          refine lv_lconst (v := lI 0) hx hb dX1_readNumber_171 (by decide) ?_
                          rw [hQ]
                          exact wz_retl (tys := TY cI cJ cT) (at2, at2) hx hb hr hlocks hK hP hD hS (by (try dsimp only); exact (⟨fun _ => by rw [a5, show (5 - g).toNat = (4 - g).toNat + 1 by omega]; first | (rw [rdN_bad c28 (by omega) evn (fun q => by rcases q with ⟨q1, q2, q3⟩; first | omega | (rw [mostZ_e c131] at q2; omega) | (rw [mostZ_o c131] at q2; omega))]; exact ⟨rfl, Or.inr ⟨rfl, rfl, rfl⟩⟩) | (rw [rdN_long c28 (by omega) evn (by first | (rw [mostZ_e c131]; omega) | (rw [mostZ_o c131]; omega))]; exact ⟨rfl, Or.inr ⟨rfl, rfl, rfl⟩⟩), fun h => absurd c17 h⟩)) dX1_readNumber_172
                        · skip
                          refine lv_lload hx hb dX1_readNumber_155 (lv_at hl 1 rfl) ?_
                          refine lv_lload hx hb dX1_readNumber_157 (lv_at hl 0 rfl) ?_
                          refine W.lcmp hx hb dX1_readNumber_159 ?_
                          refine wz_lif_le (tgt := 173) hx hb dX1_readNumber_160 (by decide) ⟨by omega, by omega⟩ ⟨by omega, by omega⟩ (fun c160 => ?_) (fun c160 => ?_)
                          · skip
                            refine lv_aload_n hx hb dX1_readNumber_173 rfl (lv_at hl 6 rfl) ?_
                            refine lv_dup hx hb dX1_readNumber_174 rfl ?_
                            refine va_get (D := D) (ci := 1) (v := .int (iI at2)) (C := RX1) (T := TX1) (N := 3) hx hb hts hin1 hown hK hP 0 rfl rfl 1 (by decide) (hts (.fieldLink RX1 18 "DriftLog$Reader" "at" "I") (by decide +kernel)) (fun _ h9 => h9) rfl dX1_readNumber_175 ?_
                            refine lv_iconst (v := iI 1) hx hb dX1_readNumber_178 rfl ?_
                            refine wz_iadd hx hb dX1_readNumber_179 ?_
                            refine va_put (D := D) (ci := 1) (v := .int (iI (at2 + 1))) (ty := .int) (C := RX1) (T := TX1) (N := 3) hx hb hts hin1 tyX1 tyX1_ok nmX1 hown hK hP hD hS 0 rfl rfl 1 (by decide) (hts (.fieldLink RX1 18 "DriftLog$Reader" "at" "I") (by decide +kernel)) (fun _ h9 => h9) rfl (by decide +kernel) rfl rfl (Nat.le_of_ble_eq_true rfl) dX1_readNumber_180 (fun H locs hP hD hS => ?_)
                            have hP : va_P D vwCl [(h1r, .inr (1, [.ref qr, .int (iI (at2 + 1)), .int (iI fa)])), (hb0, .inr (0, [.ref qb, .int (iI nb)])), (qb, .inl (cI, 300, .inl (zA fb)))] H := hP
                            have hD : va_D A [(h1r, .inr (1, [.ref qr, .int (iI (at2 + 1)), .int (iI fa)])), (hb0, .inr (0, [.ref qb, .int (iI nb)])), (qb, .inl (cI, 300, .inl (zA fb)))] := hD
                            refine lv_iload hx hb dX1_readNumber_183 (lv_at hl 4 rfl) ?_
                            refine wz_if_eq (tgt := 191) hx hb dX1_readNumber_185 (by decide) (by decide) (fun c185 => ?_) (fun c185 => ?_)
                            · skip
                              exact absurd c185 (by decide)
                            · skip
                              refine lv_lload hx hb dX1_readNumber_188 (lv_at hl 2 rfl) ?_
                              rw [hQ]
                              exact wz_retl (tys := TY cI cJ cT) ((at2 + 1), fa) hx hb hr hlocks hK hP hD hS (by (try dsimp only); exact (⟨fun _ => by rw [a5, show (5 - g).toNat = (4 - g).toNat + 1 by omega, rdN_good c28 (by omega) evn (by omega) (by first | (rw [mostZ_e c131]; omega) | (rw [mostZ_o c131]; omega)) (by first | (left; omega) | (right; omega))]; exact ⟨rfl, Or.inl ⟨rfl, rfl, c17⟩⟩, fun h => absurd c17 h⟩)) dX1_readNumber_190
                          · skip
                            refine lv_aload_n hx hb dX1_readNumber_163 rfl (lv_at hl 6 rfl) ?_
                            refine lv_aload_n hx hb dX1_readNumber_164 rfl (lv_at hl 6 rfl) ?_
                            refine va_get (D := D) (ci := 1) (v := .int (iI at2)) (C := RX1) (T := TX1) (N := 3) hx hb hts hin1 hown hK hP 0 rfl rfl 1 (by decide) (hts (.fieldLink RX1 18 "DriftLog$Reader" "at" "I") (by decide +kernel)) (fun _ h9 => h9) rfl dX1_readNumber_165 ?_
                            refine va_put (D := D) (ci := 1) (v := .int (iI at2)) (ty := .int) (C := RX1) (T := TX1) (N := 3) hx hb hts hin1 tyX1 tyX1_ok nmX1 hown hK hP hD hS 0 rfl rfl 2 (by decide) (hts (.fieldLink RX1 22 "DriftLog$Reader" "fault" "I") (by decide +kernel)) (fun _ h9 => h9) rfl (by decide +kernel) rfl rfl (Nat.le_of_ble_eq_true rfl) dX1_readNumber_168 (fun H locs hP hD hS => ?_)
                            have hP : va_P D vwCl [(h1r, .inr (1, [.ref qr, .int (iI at2), .int (iI at2)])), (hb0, .inr (0, [.ref qb, .int (iI nb)])), (qb, .inl (cI, 300, .inl (zA fb)))] H := hP
                            have hD : va_D A [(h1r, .inr (1, [.ref qr, .int (iI at2), .int (iI at2)])), (hb0, .inr (0, [.ref qb, .int (iI nb)])), (qb, .inl (cI, 300, .inl (zA fb)))] := hD
                            refine lv_lconst (v := lI 0) hx hb dX1_readNumber_171 (by decide) ?_
                            rw [hQ]
                            exact wz_retl (tys := TY cI cJ cT) (at2, at2) hx hb hr hlocks hK hP hD hS (by (try dsimp only); exact (⟨fun _ => by rw [a5, show (5 - g).toNat = (4 - g).toNat + 1 by omega]; first | (rw [rdN_bad c28 (by omega) evn (fun q => by rcases q with ⟨q1, q2, q3⟩; first | omega | (rw [mostZ_e c131] at q2; omega) | (rw [mostZ_o c131] at q2; omega))]; exact ⟨rfl, Or.inr ⟨rfl, rfl, rfl⟩⟩) | (rw [rdN_long c28 (by omega) evn (by first | (rw [mostZ_e c131]; omega) | (rw [mostZ_o c131]; omega))]; exact ⟨rfl, Or.inr ⟨rfl, rfl, rfl⟩⟩), fun h => absurd c17 h⟩)) dX1_readNumber_172
                    · skip
                      refine lv_lload hx hb dX1_readNumber_134 (lv_at hl 8 rfl) ?_
                      refine lv_goto (tgt := 141) hx hb dX1_readNumber_136 (by decide) ?_
                      refine lv_lstore (lv' := [(16, .long (lI ev)), (14, .long (lI vn)), (8, .long (lI vn)), (13, .int (iI 0)), (12, .int (iI 1)), (11, .int (iI b)), (0, .ref h1r), (1, .ref hb0), (2, .long (lI le)), (4, .long (lI ev)), (6, .long (lI od)), (10, .int (iI g))]) hx hb dX1_readNumber_141 hl (by decide) rfl (fun ls hl => ?_)
                      refine lv_iload hx hb dX1_readNumber_143 (lv_at hl 3 rfl) ?_
                      refine wz_if_ne (tgt := 163) hx hb dX1_readNumber_145 (by decide) (by decide) (fun c145 => ?_) (fun c145 => ?_)
                      · skip
                        exact absurd c145 (by decide)
                      · skip
                        refine lv_lload hx hb dX1_readNumber_148 (lv_at hl 1 rfl) ?_
                        refine lv_lload_n hx hb dX1_readNumber_150 rfl (lv_at hl 8 rfl) ?_
                        refine W.lcmp hx hb dX1_readNumber_151 ?_
                        refine wz_lif_lt (tgt := 163) hx hb dX1_readNumber_152 (by decide) ⟨by omega, by omega⟩ ⟨by omega, by omega⟩ (fun c152 => ?_) (fun c152 => ?_)
                        · skip
                          refine lv_aload_n hx hb dX1_readNumber_163 rfl (lv_at hl 6 rfl) ?_
                          refine lv_aload_n hx hb dX1_readNumber_164 rfl (lv_at hl 6 rfl) ?_
                          refine va_get (D := D) (ci := 1) (v := .int (iI at2)) (C := RX1) (T := TX1) (N := 3) hx hb hts hin1 hown hK hP 0 rfl rfl 1 (by decide) (hts (.fieldLink RX1 18 "DriftLog$Reader" "at" "I") (by decide +kernel)) (fun _ h9 => h9) rfl dX1_readNumber_165 ?_
                          refine va_put (D := D) (ci := 1) (v := .int (iI at2)) (ty := .int) (C := RX1) (T := TX1) (N := 3) hx hb hts hin1 tyX1 tyX1_ok nmX1 hown hK hP hD hS 0 rfl rfl 2 (by decide) (hts (.fieldLink RX1 22 "DriftLog$Reader" "fault" "I") (by decide +kernel)) (fun _ h9 => h9) rfl (by decide +kernel) rfl rfl (Nat.le_of_ble_eq_true rfl) dX1_readNumber_168 (fun H locs hP hD hS => ?_)
                          have hP : va_P D vwCl [(h1r, .inr (1, [.ref qr, .int (iI at2), .int (iI at2)])), (hb0, .inr (0, [.ref qb, .int (iI nb)])), (qb, .inl (cI, 300, .inl (zA fb)))] H := hP
                          have hD : va_D A [(h1r, .inr (1, [.ref qr, .int (iI at2), .int (iI at2)])), (hb0, .inr (0, [.ref qb, .int (iI nb)])), (qb, .inl (cI, 300, .inl (zA fb)))] := hD
                          refine lv_lconst (v := lI 0) hx hb dX1_readNumber_171 (by decide) ?_
                          rw [hQ]
                          exact wz_retl (tys := TY cI cJ cT) (at2, at2) hx hb hr hlocks hK hP hD hS (by (try dsimp only); exact (⟨fun _ => by rw [a5, show (5 - g).toNat = (4 - g).toNat + 1 by omega]; first | (rw [rdN_bad c28 (by omega) evn (fun q => by rcases q with ⟨q1, q2, q3⟩; first | omega | (rw [mostZ_e c131] at q2; omega) | (rw [mostZ_o c131] at q2; omega))]; exact ⟨rfl, Or.inr ⟨rfl, rfl, rfl⟩⟩) | (rw [rdN_long c28 (by omega) evn (by first | (rw [mostZ_e c131]; omega) | (rw [mostZ_o c131]; omega))]; exact ⟨rfl, Or.inr ⟨rfl, rfl, rfl⟩⟩), fun h => absurd c17 h⟩)) dX1_readNumber_172
                        · skip
                          refine lv_lload hx hb dX1_readNumber_155 (lv_at hl 1 rfl) ?_
                          refine lv_lload hx hb dX1_readNumber_157 (lv_at hl 0 rfl) ?_
                          refine W.lcmp hx hb dX1_readNumber_159 ?_
                          refine wz_lif_le (tgt := 173) hx hb dX1_readNumber_160 (by decide) ⟨by omega, by omega⟩ ⟨by omega, by omega⟩ (fun c160 => ?_) (fun c160 => ?_)
                          · skip
                            refine lv_aload_n hx hb dX1_readNumber_173 rfl (lv_at hl 6 rfl) ?_
                            refine lv_dup hx hb dX1_readNumber_174 rfl ?_
                            refine va_get (D := D) (ci := 1) (v := .int (iI at2)) (C := RX1) (T := TX1) (N := 3) hx hb hts hin1 hown hK hP 0 rfl rfl 1 (by decide) (hts (.fieldLink RX1 18 "DriftLog$Reader" "at" "I") (by decide +kernel)) (fun _ h9 => h9) rfl dX1_readNumber_175 ?_
                            refine lv_iconst (v := iI 1) hx hb dX1_readNumber_178 rfl ?_
                            refine wz_iadd hx hb dX1_readNumber_179 ?_
                            refine va_put (D := D) (ci := 1) (v := .int (iI (at2 + 1))) (ty := .int) (C := RX1) (T := TX1) (N := 3) hx hb hts hin1 tyX1 tyX1_ok nmX1 hown hK hP hD hS 0 rfl rfl 1 (by decide) (hts (.fieldLink RX1 18 "DriftLog$Reader" "at" "I") (by decide +kernel)) (fun _ h9 => h9) rfl (by decide +kernel) rfl rfl (Nat.le_of_ble_eq_true rfl) dX1_readNumber_180 (fun H locs hP hD hS => ?_)
                            have hP : va_P D vwCl [(h1r, .inr (1, [.ref qr, .int (iI (at2 + 1)), .int (iI fa)])), (hb0, .inr (0, [.ref qb, .int (iI nb)])), (qb, .inl (cI, 300, .inl (zA fb)))] H := hP
                            have hD : va_D A [(h1r, .inr (1, [.ref qr, .int (iI (at2 + 1)), .int (iI fa)])), (hb0, .inr (0, [.ref qb, .int (iI nb)])), (qb, .inl (cI, 300, .inl (zA fb)))] := hD
                            refine lv_iload hx hb dX1_readNumber_183 (lv_at hl 4 rfl) ?_
                            refine wz_if_eq (tgt := 191) hx hb dX1_readNumber_185 (by decide) (by decide) (fun c185 => ?_) (fun c185 => ?_)
                            · skip
                              exact absurd c185 (by decide)
                            · skip
                              refine lv_lload hx hb dX1_readNumber_188 (lv_at hl 2 rfl) ?_
                              rw [hQ]
                              exact wz_retl (tys := TY cI cJ cT) ((at2 + 1), fa) hx hb hr hlocks hK hP hD hS (by (try dsimp only); exact (⟨fun _ => by rw [a5, show (5 - g).toNat = (4 - g).toNat + 1 by omega, rdN_good c28 (by omega) evn (by omega) (by first | (rw [mostZ_e c131]; omega) | (rw [mostZ_o c131]; omega)) (by first | (left; omega) | (right; omega))]; exact ⟨rfl, Or.inl ⟨rfl, rfl, c17⟩⟩, fun h => absurd c17 h⟩)) dX1_readNumber_190
                          · skip
                            refine lv_aload_n hx hb dX1_readNumber_163 rfl (lv_at hl 6 rfl) ?_
                            refine lv_aload_n hx hb dX1_readNumber_164 rfl (lv_at hl 6 rfl) ?_
                            refine va_get (D := D) (ci := 1) (v := .int (iI at2)) (C := RX1) (T := TX1) (N := 3) hx hb hts hin1 hown hK hP 0 rfl rfl 1 (by decide) (hts (.fieldLink RX1 18 "DriftLog$Reader" "at" "I") (by decide +kernel)) (fun _ h9 => h9) rfl dX1_readNumber_165 ?_
                            refine va_put (D := D) (ci := 1) (v := .int (iI at2)) (ty := .int) (C := RX1) (T := TX1) (N := 3) hx hb hts hin1 tyX1 tyX1_ok nmX1 hown hK hP hD hS 0 rfl rfl 2 (by decide) (hts (.fieldLink RX1 22 "DriftLog$Reader" "fault" "I") (by decide +kernel)) (fun _ h9 => h9) rfl (by decide +kernel) rfl rfl (Nat.le_of_ble_eq_true rfl) dX1_readNumber_168 (fun H locs hP hD hS => ?_)
                            have hP : va_P D vwCl [(h1r, .inr (1, [.ref qr, .int (iI at2), .int (iI at2)])), (hb0, .inr (0, [.ref qb, .int (iI nb)])), (qb, .inl (cI, 300, .inl (zA fb)))] H := hP
                            have hD : va_D A [(h1r, .inr (1, [.ref qr, .int (iI at2), .int (iI at2)])), (hb0, .inr (0, [.ref qb, .int (iI nb)])), (qb, .inl (cI, 300, .inl (zA fb)))] := hD
                            refine lv_lconst (v := lI 0) hx hb dX1_readNumber_171 (by decide) ?_
                            rw [hQ]
                            exact wz_retl (tys := TY cI cJ cT) (at2, at2) hx hb hr hlocks hK hP hD hS (by (try dsimp only); exact (⟨fun _ => by rw [a5, show (5 - g).toNat = (4 - g).toNat + 1 by omega]; first | (rw [rdN_bad c28 (by omega) evn (fun q => by rcases q with ⟨q1, q2, q3⟩; first | omega | (rw [mostZ_e c131] at q2; omega) | (rw [mostZ_o c131] at q2; omega))]; exact ⟨rfl, Or.inr ⟨rfl, rfl, rfl⟩⟩) | (rw [rdN_long c28 (by omega) evn (by first | (rw [mostZ_e c131]; omega) | (rw [mostZ_o c131]; omega))]; exact ⟨rfl, Or.inr ⟨rfl, rfl, rfl⟩⟩), fun h => absurd c17 h⟩)) dX1_readNumber_172
                · skip
                  refine lv_iconst (v := iI 1) hx hb dX1_readNumber_76 rfl ?_
                  refine lv_goto (tgt := 81) hx hb dX1_readNumber_77 (by decide) ?_
                  refine lv_istore (lv' := [(13, .int (iI 1)), (12, .int (iI 1)), (11, .int (iI b)), (0, .ref h1r), (1, .ref hb0), (2, .long (lI le)), (4, .long (lI ev)), (6, .long (lI od)), (8, .long (lI num)), (10, .int (iI g))]) hx hb dX1_readNumber_81 hl (by decide) rfl (fun ls hl => ?_)
                  refine lv_lload hx hb dX1_readNumber_83 (lv_at hl 8 rfl) ?_
                  refine lv_iload hx hb dX1_readNumber_85 (lv_at hl 2 rfl) ?_
                  refine lv_bipush (v := iI 127) hx hb dX1_readNumber_87 (by decide) ?_
                  refine lv_iand hx hb dX1_readNumber_89 ?_
                  refine wz_topi (y := iI (b % 128)) (iI_and127 (by omega) (by omega)) ?_
                  refine wz_i2l hx hb dX1_readNumber_90 ⟨by omega, by omega⟩ ?_
                  refine lv_bipush (v := iI 7) hx hb dX1_readNumber_91 (by decide) ?_
                  refine lv_iload hx hb dX1_readNumber_93 (lv_at hl 9 rfl) ?_
                  refine wz_imul hx hb dX1_readNumber_95 ?_
                  refine lv_lshl hx hb dX1_readNumber_96 rfl ?_
                  refine wz_topl (y := lI ((b % 128) * unit)) (lI_shl7 a1.1 (by omega) a2) ?_
                  refine wz_ladd hx hb dX1_readNumber_97 ?_
                  obtain ⟨vn, evn⟩ : ∃ y : Int, y = (num + ((b % 128) * unit)) := ⟨_, rfl⟩
                  rw [← evn]
                  refine lv_lstore (lv' := [(8, .long (lI vn)), (13, .int (iI 1)), (12, .int (iI 1)), (11, .int (iI b)), (0, .ref h1r), (1, .ref hb0), (2, .long (lI le)), (4, .long (lI ev)), (6, .long (lI od)), (10, .int (iI g))]) hx hb dX1_readNumber_98 hl (by decide) rfl (fun ls hl => ?_)
                  rw [eb] at evn
                  refine lv_iload hx hb dX1_readNumber_100 (lv_at hl 2 rfl) ?_
                  refine wz_if_eq (tgt := 110) hx hb dX1_readNumber_102 (by decide) (by decide) (fun c102 => ?_) (fun c102 => ?_)
                  · skip
                    exact absurd c102 (by decide)
                  · skip
                    refine lv_lload hx hb dX1_readNumber_105 (lv_at hl 0 rfl) ?_
                    refine lv_goto (tgt := 123) hx hb dX1_readNumber_107 (by decide) ?_
                    refine lv_lstore (lv' := [(14, .long (lI vn)), (8, .long (lI vn)), (13, .int (iI 1)), (12, .int (iI 1)), (11, .int (iI b)), (0, .ref h1r), (1, .ref hb0), (2, .long (lI le)), (4, .long (lI ev)), (6, .long (lI od)), (10, .int (iI g))]) hx hb dX1_readNumber_123 hl (by decide) rfl (fun ls hl => ?_)
                    refine lv_lload hx hb dX1_readNumber_125 (lv_at hl 1 rfl) ?_
                    refine lv_lconst (v := lI 1) hx hb dX1_readNumber_127 (by decide) ?_
                    refine lv_land hx hb dX1_readNumber_128 ?_
                    refine wz_topl (y := lI (vn % 2)) (lI_and1 (by omega) (by omega)) ?_
                    refine lv_lconst (v := lI 0) hx hb dX1_readNumber_129 (by decide) ?_
                    refine W.lcmp hx hb dX1_readNumber_130 ?_
                    refine wz_lif_ne (tgt := 139) hx hb dX1_readNumber_131 (by decide) ⟨by omega, by omega⟩ (by decide) (fun c131 => ?_) (fun c131 => ?_)
                    · skip
                      refine lv_lload hx hb dX1_readNumber_139 (lv_at hl 9 rfl) ?_
                      refine lv_lstore (lv' := [(16, .long (lI od)), (14, .long (lI vn)), (8, .long (lI vn)), (13, .int (iI 1)), (12, .int (iI 1)), (11, .int (iI b)), (0, .ref h1r), (1, .ref hb0), (2, .long (lI le)), (4, .long (lI ev)), (6, .long (lI od)), (10, .int (iI g))]) hx hb dX1_readNumber_141 hl (by decide) rfl (fun ls hl => ?_)
                      refine lv_iload hx hb dX1_readNumber_143 (lv_at hl 3 rfl) ?_
                      refine wz_if_ne (tgt := 163) hx hb dX1_readNumber_145 (by decide) (by decide) (fun c145 => ?_) (fun c145 => ?_)
                      · skip
                        refine lv_aload_n hx hb dX1_readNumber_163 rfl (lv_at hl 6 rfl) ?_
                        refine lv_aload_n hx hb dX1_readNumber_164 rfl (lv_at hl 6 rfl) ?_
                        refine va_get (D := D) (ci := 1) (v := .int (iI at2)) (C := RX1) (T := TX1) (N := 3) hx hb hts hin1 hown hK hP 0 rfl rfl 1 (by decide) (hts (.fieldLink RX1 18 "DriftLog$Reader" "at" "I") (by decide +kernel)) (fun _ h9 => h9) rfl dX1_readNumber_165 ?_
                        refine va_put (D := D) (ci := 1) (v := .int (iI at2)) (ty := .int) (C := RX1) (T := TX1) (N := 3) hx hb hts hin1 tyX1 tyX1_ok nmX1 hown hK hP hD hS 0 rfl rfl 2 (by decide) (hts (.fieldLink RX1 22 "DriftLog$Reader" "fault" "I") (by decide +kernel)) (fun _ h9 => h9) rfl (by decide +kernel) rfl rfl (Nat.le_of_ble_eq_true rfl) dX1_readNumber_168 (fun H locs hP hD hS => ?_)
                        have hP : va_P D vwCl [(h1r, .inr (1, [.ref qr, .int (iI at2), .int (iI at2)])), (hb0, .inr (0, [.ref qb, .int (iI nb)])), (qb, .inl (cI, 300, .inl (zA fb)))] H := hP
                        have hD : va_D A [(h1r, .inr (1, [.ref qr, .int (iI at2), .int (iI at2)])), (hb0, .inr (0, [.ref qb, .int (iI nb)])), (qb, .inl (cI, 300, .inl (zA fb)))] := hD
                        refine lv_lconst (v := lI 0) hx hb dX1_readNumber_171 (by decide) ?_
                        rw [hQ]
                        exact wz_retl (tys := TY cI cJ cT) (at2, at2) hx hb hr hlocks hK hP hD hS (by (try dsimp only); exact (⟨fun _ => by rw [a5, show (5 - g).toNat = (4 - g).toNat + 1 by omega]; first | (rw [rdN_bad c28 (by omega) evn (fun q => by rcases q with ⟨q1, q2, q3⟩; first | omega | (rw [mostZ_e c131] at q2; omega) | (rw [mostZ_o c131] at q2; omega))]; exact ⟨rfl, Or.inr ⟨rfl, rfl, rfl⟩⟩) | (rw [rdN_long c28 (by omega) evn (by first | (rw [mostZ_e c131]; omega) | (rw [mostZ_o c131]; omega))]; exact ⟨rfl, Or.inr ⟨rfl, rfl, rfl⟩⟩), fun h => absurd c17 h⟩)) dX1_readNumber_172
                      · skip
                        exact absurd c145 (by decide)
                    · skip
                      refine lv_lload hx hb dX1_readNumber_134 (lv_at hl 8 rfl) ?_
                      refine lv_goto (tgt := 141) hx hb dX1_readNumber_136 (by decide) ?_
                      refine lv_lstore (lv' := [(16, .long (lI ev)), (14, .long (lI vn)), (8, .long (lI vn)), (13, .int (iI 1)), (12, .int (iI 1)), (11, .int (iI b)), (0, .ref h1r), (1, .ref hb0), (2, .long (lI le)), (4, .long (lI ev)), (6, .long (lI od)), (10, .int (iI g))]) hx hb dX1_readNumber_141 hl (by decide) rfl (fun ls hl => ?_)
                      refine lv_iload hx hb dX1_readNumber_143 (lv_at hl 3 rfl) ?_
                      refine wz_if_ne (tgt := 163) hx hb dX1_readNumber_145 (by decide) (by decide) (fun c145 => ?_) (fun c145 => ?_)
                      · skip
                        refine lv_aload_n hx hb dX1_readNumber_163 rfl (lv_at hl 6 rfl) ?_
                        refine lv_aload_n hx hb dX1_readNumber_164 rfl (lv_at hl 6 rfl) ?_
                        refine va_get (D := D) (ci := 1) (v := .int (iI at2)) (C := RX1) (T := TX1) (N := 3) hx hb hts hin1 hown hK hP 0 rfl rfl 1 (by decide) (hts (.fieldLink RX1 18 "DriftLog$Reader" "at" "I") (by decide +kernel)) (fun _ h9 => h9) rfl dX1_readNumber_165 ?_
                        refine va_put (D := D) (ci := 1) (v := .int (iI at2)) (ty := .int) (C := RX1) (T := TX1) (N := 3) hx hb hts hin1 tyX1 tyX1_ok nmX1 hown hK hP hD hS 0 rfl rfl 2 (by decide) (hts (.fieldLink RX1 22 "DriftLog$Reader" "fault" "I") (by decide +kernel)) (fun _ h9 => h9) rfl (by decide +kernel) rfl rfl (Nat.le_of_ble_eq_true rfl) dX1_readNumber_168 (fun H locs hP hD hS => ?_)
                        have hP : va_P D vwCl [(h1r, .inr (1, [.ref qr, .int (iI at2), .int (iI at2)])), (hb0, .inr (0, [.ref qb, .int (iI nb)])), (qb, .inl (cI, 300, .inl (zA fb)))] H := hP
                        have hD : va_D A [(h1r, .inr (1, [.ref qr, .int (iI at2), .int (iI at2)])), (hb0, .inr (0, [.ref qb, .int (iI nb)])), (qb, .inl (cI, 300, .inl (zA fb)))] := hD
                        refine lv_lconst (v := lI 0) hx hb dX1_readNumber_171 (by decide) ?_
                        rw [hQ]
                        exact wz_retl (tys := TY cI cJ cT) (at2, at2) hx hb hr hlocks hK hP hD hS (by (try dsimp only); exact (⟨fun _ => by rw [a5, show (5 - g).toNat = (4 - g).toNat + 1 by omega]; first | (rw [rdN_bad c28 (by omega) evn (fun q => by rcases q with ⟨q1, q2, q3⟩; first | omega | (rw [mostZ_e c131] at q2; omega) | (rw [mostZ_o c131] at q2; omega))]; exact ⟨rfl, Or.inr ⟨rfl, rfl, rfl⟩⟩) | (rw [rdN_long c28 (by omega) evn (by first | (rw [mostZ_e c131]; omega) | (rw [mostZ_o c131]; omega))]; exact ⟨rfl, Or.inr ⟨rfl, rfl, rfl⟩⟩), fun h => absurd c17 h⟩)) dX1_readNumber_172
                      · skip
                        exact absurd c145 (by decide)
          · skip
            refine lv_aload_n hx hb dX1_readNumber_31 rfl (lv_at hl 0 rfl) ?_
            refine lv_aload_n hx hb dX1_readNumber_32 rfl (lv_at hl 0 rfl) ?_
            refine va_get (D := D) (ci := 1) (v := .int (iI at2)) (C := RX1) (T := TX1) (N := 3) hx hb hts hin1 hown hK hP 0 rfl rfl 1 (by decide) (hts (.fieldLink RX1 18 "DriftLog$Reader" "at" "I") (by decide +kernel)) (fun _ h9 => h9) rfl dX1_readNumber_33 ?_
            refine va_put (D := D) (ci := 1) (v := .int (iI at2)) (ty := .int) (C := RX1) (T := TX1) (N := 3) hx hb hts hin1 tyX1 tyX1_ok nmX1 hown hK hP hD hS 0 rfl rfl 2 (by decide) (hts (.fieldLink RX1 22 "DriftLog$Reader" "fault" "I") (by decide +kernel)) (fun _ h9 => h9) rfl (by decide +kernel) rfl rfl (Nat.le_of_ble_eq_true rfl) dX1_readNumber_36 (fun H locs hP hD hS => ?_)
            have hP : va_P D vwCl [(h1r, .inr (1, [.ref qr, .int (iI at2), .int (iI at2)])), (hb0, .inr (0, [.ref qb, .int (iI nb)])), (qb, .inl (cI, 300, .inl (zA fb)))] H := hP
            have hD : va_D A [(h1r, .inr (1, [.ref qr, .int (iI at2), .int (iI at2)])), (hb0, .inr (0, [.ref qb, .int (iI nb)])), (qb, .inl (cI, 300, .inl (zA fb)))] := hD
            refine lv_lconst (v := lI 0) hx hb dX1_readNumber_39 (by decide) ?_
            rw [hQ]
            exact wz_retl (tys := TY cI cJ cT) (at2, at2) hx hb hr hlocks hK hP hD hS (by (try dsimp only); exact (⟨fun _ => by rw [a5, show (5 - g).toNat = (4 - g).toNat + 1 by omega, rdN_end c28]; exact ⟨rfl, Or.inr ⟨rfl, rfl, rfl⟩⟩, fun h => absurd c17 h⟩)) dX1_readNumber_40
  exact LP6 (Int.toNat (5 - 0) + 1) 0 0 1 at1 _ _ _ ⟨(by decide), (rfl), (by decide), (hat), (rfl), (fun _ => rfl)⟩ (by omega) hP hD hS (lv_sub hl [2, 3, 4, 5, 6, 1, 0] rfl)
