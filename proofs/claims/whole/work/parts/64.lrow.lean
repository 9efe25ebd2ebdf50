/-! the law's own rows -/
def sX (xs : Nat → Int32) (i : Int) : Int := (xs i.toNat).toInt
theorem sX_r (xs : Nat → Int32) (i : Int) : rI (sX xs i) := iI_r _
def lwC (p : Program) (l : Launch) (s : State) (m : MethodId) (c : Code) (b L : Nat) (xs : Nat → Int32) (sa : Nat → Nat) (D : va_G) (cI cJ cT : ClassId) (A : Nat → Prop) : Prop := p.tables.exec = Jvm.exec ∧ c.code = cL_law ∧ c.maxLocals = 8 ∧ s.vm.findClass RL = some m.cls ∧ (∀ w ∈ wsL_law, w.before #[Value.ref b] s = true) ∧ va_X b L xs s s.heap ∧ b < s.heap.size ∧ ¬ A b ∧ (∀ q, s.heap.size ≤ q → A q) ∧ va_K D vwCl (TY cI cJ cT) s ∧ thV sa s ∧ thC s ∧ thH A s s.heap ∧ l.stackTraces = false ∧ L ≤ 384
section LR
variable {p : Program} {l : Launch} {e : Env} {R : Room} {s : State} {m : MethodId} {args : Array Value} {below : List Frame} {meth : Method} {c : Code} {H H0 : Heap} {locs : List Loc} {cells slots : Nat} {Q : State → Prop} {cc : ByteArray} {pc : Nat} {ls : Array Slot} {rest : List Value} {A : Nat → Prop}
theorem wz_sld (hexec : p.tables.exec = Jvm.exec) (hb : c.code = cc) {b L : Nat} {xs : Nat → Int32} (hX : va_X b L xs s H0) (hbl : b < H0.size) (hbA : ¬ A b) (hS : va_S A H0 H locs) (hL : L ≤ 384) {i : Int} (hi : 0 ≤ i ∧ i < L) (hdg : decode cc pc = .ok (.iaload, 1))
    (kk : W p l e R s m args below meth c H locs cells slots Q (F0 m (pc + 1) ls (.int (iI (sX xs i)) :: rest))) : W p l e R s m args below meth c H locs cells slots Q (F0 m pc ls (.int (iI i) :: .ref b :: rest)) := by
  refine va_sld hexec hb hX hbl hbA hS (iI_in hi.1 hi.2 (by omega)) hdg ?_
  rw [iI_clamp hi.1 (by omega)]
  unfold sX at kk
  rw [iI_of] at kk
  exact kk
theorem wz_slen (hexec : p.tables.exec = Jvm.exec) (hb : c.code = cc) {b L : Nat} {xs : Nat → Int32} (hX : va_X b L xs s H0) (hbl : b < H0.size) (hbA : ¬ A b) (hS : va_S A H0 H locs) (hdg : decode cc pc = .ok (.arraylength, 1))
    (kk : W p l e R s m args below meth c H locs cells slots Q (F0 m (pc + 1) ls (.int (iI (L : Int)) :: rest))) : W p l e R s m args below meth c H locs cells slots Q (F0 m pc ls (.ref b :: rest)) := by
  refine va_slen hexec hb hX hbl hbA hS hdg ?_
  rw [show Int32.ofNat L = iI (L : Int) from (Int32.ofInt_eq_ofNat).symm]
  exact kk
end LR
section LQ
variable {p : Program} {l : Launch} {e : Env} {R : Room} {s : State} {m : MethodId} {args : Array Value} {below : List Frame} {meth : Method} {c : Code} {H : Heap} {locs : List Loc} {cells slots : Nat} {Q : State → Prop} {pc : Nat} {ls : Array Slot} {rest : List Value}
variable {D : va_G} {tys : List (ClassId × FieldType)} {ws wc wr pl : va_W} {A : Nat → Prop} {st0 : List Value} {mc ms : Nat} {a : Array Value}
theorem vP_l {cl : List vw_C} (h : va_P D cl (ws ++ pl) H) : va_P D cl ws H := fun k q hk => h k q (by rw [List.getElem?_append_left (List.getElem?_eq_some_iff.mp hk).1]; exact hk)
theorem vD_l (h : va_D A (ws ++ pl)) : va_D A ws := ⟨fun i j x y hi hj e => h.1 i j x y (by rw [List.getElem?_append_left (List.getElem?_eq_some_iff.mp hi).1]; exact hi) (by rw [List.getElem?_append_left (List.getElem?_eq_some_iff.mp hj).1]; exact hj) e, fun k q hk => h.2 k q (by rw [List.getElem?_append_left (List.getElem?_eq_some_iff.mp hk).1]; exact hk)⟩
theorem wz_qcalli {S : Type} {post : Int → S → Prop} {w1 : S → va_W} (hr : va_Run p l e R s m args below meth c H locs cells slots mc ms (F0 m pc ls st0) rest (zQi D tys (va_A wc H.size) post w1 a) (va_A wc H.size)) (hP : va_P D vwCl (ws ++ pl) H) (hD : va_D A (ws ++ pl)) (hS : va_S A s.heap H locs) (hA : ∀ q, s.heap.size ≤ q → A q) (isC isR : List Nat) (hC : isC.map (fun i => ws[i]?) = wc.map some) (hR : isR.map (fun i => ws[i]?) = wr.map some) (hn : va_nd isR = true) (hdis : ∀ i ∈ isR, i ∉ isC)
    (kk : ∀ (z : Int) (u : S) (H1 : Heap) (locs1 : List Loc), post z u → va_P D vwCl ((wr ++ w1 u) ++ pl) H1 → va_D A ((wr ++ w1 u) ++ pl) → va_S A s.heap H1 locs1 → W p l e R s m args below meth c H1 locs1 (cells + mc) (slots + ms) Q (F0 m (pc + 3) ls (.int (iI z) :: rest))) : W p l e R s m args below meth c H locs cells slots Q (F0 m pc ls st0) := by
  have hF := va_free (wc := wc) (vD_l hD) hS hA isC hC
  refine va_calli hr hS (fun q _ h => hF q h) hF (fun r u t H1 locs1 ht hvm hw hB hz1 hk1 hS1 => ?_)
  obtain ⟨z, u⟩ := u
  obtain ⟨hr1, hw⟩ := hw
  obtain ⟨hP1, hK1, hD1⟩ := hB
  subst hr1
  rw [ht] at hP1
  obtain ⟨hP2, hD2⟩ := va_joinQ (wr := wr) hP hD isC isR hC hR hn hdis hk1 hF hP1 hD1
  exact kk z u H1 locs1 hw hP2 hD2 hS1
theorem wz_qcalll {S : Type} {post : Int → S → Prop} {w1 : S → va_W} (hr : va_Run p l e R s m args below meth c H locs cells slots mc ms (F0 m pc ls st0) rest (zQl D tys (va_A wc H.size) post w1 a) (va_A wc H.size)) (hP : va_P D vwCl (ws ++ pl) H) (hD : va_D A (ws ++ pl)) (hS : va_S A s.heap H locs) (hA : ∀ q, s.heap.size ≤ q → A q) (isC isR : List Nat) (hC : isC.map (fun i => ws[i]?) = wc.map some) (hR : isR.map (fun i => ws[i]?) = wr.map some) (hn : va_nd isR = true) (hdis : ∀ i ∈ isR, i ∉ isC)
    (kk : ∀ (z : Int) (u : S) (H1 : Heap) (locs1 : List Loc), post z u → va_P D vwCl ((wr ++ w1 u) ++ pl) H1 → va_D A ((wr ++ w1 u) ++ pl) → va_S A s.heap H1 locs1 → W p l e R s m args below meth c H1 locs1 (cells + mc) (slots + ms) Q (F0 m (pc + 3) ls (.long (lI z) :: rest))) : W p l e R s m args below meth c H locs cells slots Q (F0 m pc ls st0) := by
  have hF := va_free (wc := wc) (vD_l hD) hS hA isC hC
  refine va_calll hr hS (fun q _ h => hF q h) hF (fun r u t H1 locs1 ht hvm hw hB hz1 hk1 hS1 => ?_)
  obtain ⟨z, u⟩ := u
  obtain ⟨hr1, hw⟩ := hw
  obtain ⟨hP1, hK1, hD1⟩ := hB
  subst hr1
  rw [ht] at hP1
  obtain ⟨hP2, hD2⟩ := va_joinQ (wr := wr) hP hD isC isR hC hR hn hdis hk1 hF hP1 hD1
  exact kk z u H1 locs1 hw hP2 hD2 hS1
theorem wz_qcallv {S : Type} {post : S → Prop} {w1 : S → va_W} (hr : va_Run p l e R s m args below meth c H locs cells slots mc ms (F0 m pc ls st0) rest (zQv D tys (va_A wc H.size) post w1 a) (va_A wc H.size)) (hP : va_P D vwCl (ws ++ pl) H) (hD : va_D A (ws ++ pl)) (hS : va_S A s.heap H locs) (hA : ∀ q, s.heap.size ≤ q → A q) (isC isR : List Nat) (hC : isC.map (fun i => ws[i]?) = wc.map some) (hR : isR.map (fun i => ws[i]?) = wr.map some) (hn : va_nd isR = true) (hdis : ∀ i ∈ isR, i ∉ isC)
    (kk : ∀ (u : S) (H1 : Heap) (locs1 : List Loc), post u → va_P D vwCl ((wr ++ w1 u) ++ pl) H1 → va_D A ((wr ++ w1 u) ++ pl) → va_S A s.heap H1 locs1 → W p l e R s m args below meth c H1 locs1 (cells + mc) (slots + ms) Q (F0 m (pc + 3) ls rest)) : W p l e R s m args below meth c H locs cells slots Q (F0 m pc ls st0) := by
  have hF := va_free (wc := wc) (vD_l hD) hS hA isC hC
  refine va_callv hr hS (fun q _ h => hF q h) hF (fun u t H1 locs1 ht hvm hw hB hz1 hk1 hS1 => ?_)
  obtain ⟨hP1, hK1, hD1⟩ := hB
  rw [ht] at hP1
  obtain ⟨hP2, hD2⟩ := va_joinQ (wr := wr) hP hD isC isR hC hR hn hdis hk1 hF hP1 hD1
  exact kk u H1 locs1 hw hP2 hD2 hS1
theorem wz_qhcalli {S : Type} {post : Int → S → Prop} {w1 : S → va_W} (hr : vx_Run p l e R s m args below meth c H locs cells slots mc ms (F0 m pc ls st0) rest (zQi D tys (va_A wc H.size) post w1 a) (zX D tys (va_A wc H.size) wc (fun _ => False)) (va_A wc H.size)) (hP : va_P D vwCl (ws ++ pl) H) (hD : va_D A (ws ++ pl)) (hS : va_S A s.heap H locs) (hA : ∀ q, s.heap.size ≤ q → A q) (isC isR : List Nat) (hC : isC.map (fun i => ws[i]?) = wc.map some) (hR : isR.map (fun i => ws[i]?) = wr.map some) (hn : va_nd isR = true) (hdis : ∀ i ∈ isR, i ∉ isC)
    (kk : ∀ (z : Int) (u : S) (H1 : Heap) (locs1 : List Loc), post z u → va_P D vwCl ((wr ++ w1 u) ++ pl) H1 → va_D A ((wr ++ w1 u) ++ pl) → va_S A s.heap H1 locs1 → W p l e R s m args below meth c H1 locs1 (cells + mc) (slots + ms) Q (F0 m (pc + 3) ls (.int (iI z) :: rest))) : W p l e R s m args below meth c H locs cells slots Q (F0 m pc ls st0) := by
  have hF := va_free (wc := wc) (vD_l hD) hS hA isC hC
  refine vx_calli hr hS (fun q _ h => hF q h) hF (fun q _ h => hF q h) (fun E ce q9 u t H1 locs1 ht hvm hw hB hz1 hk1 hS1 hce hcv hcl => hB.1.elim) (fun r u t H1 locs1 ht hvm hw hB hz1 hk1 hS1 => ?_)
  obtain ⟨z, u⟩ := u
  obtain ⟨hr1, hw⟩ := hw
  obtain ⟨hP1, hK1, hD1⟩ := hB
  subst hr1
  rw [ht] at hP1
  obtain ⟨hP2, hD2⟩ := va_joinQ (wr := wr) hP hD isC isR hC hR hn hdis hk1 hF hP1 hD1
  exact kk z u H1 locs1 hw hP2 hD2 hS1
end LQ
theorem pd_part {D : va_G} {cl : List vw_C} {A : Nat → Prop} {X cx pl : va_W} {H : Heap} (hP : va_P D cl (X ++ pl) H) (hD : va_D A (X ++ pl)) (is : List Nat) (hn : va_nd is = true) (hs : is.map (fun i => X[i]?) = cx.map some) : va_P D cl (cx ++ pl) H ∧ va_D A (cx ++ pl) := ⟨hP.part is hs, hD.part is hn hs⟩
theorem pd_sub {D : va_G} {cl : List vw_C} {A : Nat → Prop} {X cx : va_W} {H : Heap} (hP : va_P D cl X H) (hD : va_D A X) (is : List Nat) (hn : va_nd is = true) (hs : is.map (fun i => X[i]?) = cx.map some) : va_P D cl cx H ∧ va_D A cx := by
  have h := pd_part (pl := []) (by rw [List.append_nil]; exact hP) (by rw [List.append_nil]; exact hD) is hn hs
  rw [List.append_nil] at h
  exact h
theorem okSp_0 {m1 : Int} {bF bS eF eS : Int → Int} (h : okSp (m1, bF, bS, eF, eS)) : okSp (0, bF, bS, eF, eS) := ⟨⟨Int.le_refl 0, by dsimp only; decide⟩, h.2.1, h.2.2.1, fun i a b => by dsimp only at b; omega, fun i a b => by dsimp only at b; omega⟩
theorem okM_0 {m1 : Int} {bF bS eF eS : Int → Int} (h : okM (m1, bF, bS, eF, eS)) : okM (0, bF, bS, eF, eS) := ⟨⟨Int.le_refl 0, by dsimp only; decide⟩, h.2⟩
