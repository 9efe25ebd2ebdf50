/-! making -/
def nkV (U : State) : Prop := va_Nw (.methodLinkNest RX6 17 yX4_init "DriftLog") U ∧ va_Nw (.methodLinkNest RX6 24 yX0_init "DriftLog") U ∧ va_Nw (.methodLinkNest RX6 31 yX1_init "DriftLog") U ∧ va_Nw (.methodLinkNest RX6 38 yX3_init "DriftLog") U ∧ va_Nw (.methodLinkNest RX6 43 yX5_init "DriftLog") U ∧ va_Nw (.methodLinkNest RX1 11 yX2_init "DriftLog") U ∧ va_Nw (.methodLinkNest RX5 11 yX2_init "DriftLog") U ∧ va_AO "DriftLog$Track" U
theorem nkV.warm {s U : State} (hW : s.WarmedH U.vm) (h : nkV s) : nkV U := by
  obtain ⟨h1, h2, h3, h4, h5, h6, h7, h8⟩ := h
  exact ⟨va_Nw.warmM hW h1, va_Nw.warmM hW h2, va_Nw.warmM hW h3, va_Nw.warmM hW h4, va_Nw.warmM hW h5, va_Nw.warmM hW h6, va_Nw.warmM hW h7, va_AO.moved hW.alike h8⟩
theorem nkV.same {u U : State} (hv : u.vm = U.vm) (h : nkV u) : nkV U := by
  obtain ⟨h1, h2, h3, h4, h5, h6, h7, h8⟩ := h
  exact ⟨va_Nw.same rfl hv h1, va_Nw.same rfl hv h2, va_Nw.same rfl hv h3, va_Nw.same rfl hv h4, va_Nw.same rfl hv h5, va_Nw.same rfl hv h6, va_Nw.same rfl hv h7, va_AO.moved (by rw [hv]; exact Vm.Alike.refl _) h8⟩
def zPi (D : va_G) (tys : List (ClassId × FieldType)) (av : List Value) (ws : va_W) (sz : Nat) : Array Value → State → Prop := va_Pc av (fun U => U.heap.size = sz ∧ va_P D vwCl ws U.heap ∧ va_K D vwCl tys U ∧ va_D (fun _ => True) ws ∧ nkV U)
theorem zPi_blind {D : va_G} {tys : List (ClassId × FieldType)} {av : List Value} {ws : va_W} {sz : Nat} : FrameBlind (zPi D tys av ws sz) := fun a U g mk q => by
  obtain ⟨q0, q1, qP, qK, qD, qV⟩ := q
  exact ⟨q0, q1, qP, va_K.moved (u := U) (U := U.calling g mk a) (Vm.Alike.refl U.vm) qK, qD, nkV.same (u := U) (U := U.calling g mk a) rfl qV⟩
theorem wz_preSi {s : State} {H : Heap} {A : Nat → Prop} {D : va_G} {tys : List (ClassId × FieldType)} {As : List Value} {ws wc : va_W} (hV : nkV s) (hK : va_K D vwCl tys s) (hP : va_P D vwCl ws H) (hD : va_D A ws) (isC : List Nat) (hn : va_nd isC = true) (hC : isC.filterMap (fun i => ws[i]?) = wc) (hC2 : isC.map (fun i => ws[i]?) = wc.map some) : PreS s H (zPi D tys As wc H.size) As := by
  have hPc := hP.sub isC hC
  have hDc := hD.sub isC hn hC2
  exact ⟨zPi_blind, fun U hU hW => ⟨rfl, by rw [hU], by rw [hU]; exact hPc, va_K.moved hW.alike hK, hDc.weaken (fun _ _ _ _ => trivial), hV.warm hW⟩⟩
theorem zIv {S : Type} {l : Launch} {D : va_G} {tys : List (ClassId × FieldType)} {y : MethodName} {ws ws' : List Cond} {rm : Room} {av : List Value} {wc : va_W} {sz mc ms : Nat} {cc : ByteArray} {maxL : Nat} {ret : Option FieldType} {post : S → Prop} {w1 : S → va_W} (hy : plainName y.cls = true) (hw : ws = Cond.code y cc maxL ret :: ws') (hlen : (lg_sl av).length ≤ maxL)
    (body : ∀ (p : Program) (e : Env) (s : State) (m : MethodId) (below : List Frame) (meth : Method) (c : Code) (A : Nat → Prop) (ls : Array Slot), zE D tys ws y cc maxL ret av wc p s m meth c A ls → nkV s → W p l e rm s m av.toArray below meth c s.heap [] 0 0 (MQ below (zQv D tys A post w1) av.toArray s mc ms A) (F0 m 0 ls [])) :
    Met l y ws rm (zPi D tys av wc sz) (zQv D tys (va_A wc sz) post w1) mc ms (va_A wc sz) := by
  refine Met.ofW (cc := cc) (maxL := maxL) (ret := ret) hy hw ?_
  intro p e s m args below meth c s₁ B hml hv
  obtain ⟨rfl, hsz, hP, hK, hD0, hV⟩ := hv
  subst hsz
  rw [lg_entry_eq]
  exact body p e s m below meth c (va_A wc s.heap.size) _ ⟨B.exec, B.bytes, B.returns, atoms_spec (ws := ws) B.pre, findClass_of_methodNamed B.named, B.notSynchronized, hml, (name_of_methodNamed B.named B.method).1, hP, hK, hD0.self (sz := s.heap.size), fun q h => Or.inr h, va_S.rf, lv_entry av hlen⟩ hV
theorem zA0 : (fun j : Nat => Value.int (zA (fun _ => 0) j)) = fun _ => defaultValue .int := by
  funext j
  show Value.int (iI 0) = _
  rw [← iI_0]
  rfl
theorem lI_0 : (0 : Int64) = lI 0 := by decide
theorem zJ0 : (fun j : Nat => Value.long (zJ (fun _ => 0) j)) = fun _ => defaultValue .long := by
  funext j
  show Value.long (lI 0) = _
  rw [← lI_0]
  rfl
section WI1
variable {p : Program} {l : Launch} {e : Env} {R : Room} {s : State} {m : MethodId} {args : Array Value} {below : List Frame} {meth : Method} {c : Code} {H : Heap} {locs : List Loc} {cells slots : Nat} {Q : State → Prop}
variable {cc : ByteArray} {pc : Nat} {ls : Array Slot} {rest : List Value}
variable {D : va_G} {cl : List vw_C} {cI cJ cT : ClassId} {ws : va_W} {A : Nat → Prop} {H0 : Heap} {a : Nat}
theorem wz_newi (hexec : p.tables.exec = Jvm.exec) (hb : c.code = cc) (harr : (Cond.arrayClass .int).before args s = true) (hK : va_K D cl (TY cI cJ cT) s) (hP : va_P D cl ws H) (hD : va_D A ws) (hS : va_S A H0 H locs) (hA : ∀ q, H0.size ≤ q → A q) {n : Int} {N : Nat} (hn : n = (N : Int)) (hN : N ≤ 1000) (hcells : cells + 1 ≤ R.cells) (hslots : slots + N ≤ R.slots) (hdg : decode cc pc = .ok (.newarray .int, 2))
    (kk : ∀ (q : Nat) (H1 : Heap), va_P D cl (ws ++ [(q, .inl (cI, (N, .inl (zA (fun _ => 0)))))]) H1 → va_D A (ws ++ [(q, .inl (cI, (N, .inl (zA (fun _ => 0)))))]) → va_S A H0 H1 locs → W p l e R s m args below meth c H1 locs (cells + 1) (slots + N) Q (F0 m (pc + 2) ls (.ref q :: rest))) : W p l e R s m args below meth c H locs cells slots Q (F0 m pc ls (.int (iI n) :: rest)) := by
  subst hn
  refine va_newa (atype := .int) (a0 := (N, .inl (zA (fun _ => 0)))) (ty := .int) hexec hb harr rfl hK hP hD hS hA (fun cA => (vp_cell_i _ _ _).trans (congrArg (arrV cA N) zA0)) (fun q => by have := (iI_lt ⟨by omega, by omega⟩ rI_0).mp (iI_0 ▸ q); omega) (by rw [iI_clamp (by omega) (by omega)]; omega) (by show N * 4 ≤ _; omega) hcells hslots hdg (fun q cA H1 hK1 hP1 hD1 hS1 => ?_)
  have e : cA = cI := Option.some.inj ((hK1.2 3 (cA, .int) rfl).2.symm.trans (hK1.2 0 (cI, .int) rfl).2)
  subst e
  exact kk q H1 hP1 hD1 hS1
theorem wz_newl (hexec : p.tables.exec = Jvm.exec) (hb : c.code = cc) (harr : (Cond.arrayClass .long).before args s = true) (hK : va_K D cl (TY cI cJ cT) s) (hP : va_P D cl ws H) (hD : va_D A ws) (hS : va_S A H0 H locs) (hA : ∀ q, H0.size ≤ q → A q) {n : Int} {N : Nat} (hn : n = (N : Int)) (hN : N ≤ 1000) (hcells : cells + 1 ≤ R.cells) (hslots : slots + N ≤ R.slots) (hdg : decode cc pc = .ok (.newarray .long, 2))
    (kk : ∀ (q : Nat) (H1 : Heap), va_P D cl (ws ++ [(q, .inl (cJ, (N, .inr (.inl (zJ (fun _ => 0))))))]) H1 → va_D A (ws ++ [(q, .inl (cJ, (N, .inr (.inl (zJ (fun _ => 0))))))]) → va_S A H0 H1 locs → W p l e R s m args below meth c H1 locs (cells + 1) (slots + N) Q (F0 m (pc + 2) ls (.ref q :: rest))) : W p l e R s m args below meth c H locs cells slots Q (F0 m pc ls (.int (iI n) :: rest)) := by
  subst hn
  refine va_newa (atype := .long) (a0 := (N, .inr (.inl (zJ (fun _ => 0))))) (ty := .long) hexec hb harr rfl hK hP hD hS hA (fun cA => (vp_cell_l _ _ _).trans (congrArg (arrV cA N) zJ0)) (fun q => by have := (iI_lt ⟨by omega, by omega⟩ rI_0).mp (iI_0 ▸ q); omega) (by rw [iI_clamp (by omega) (by omega)]; omega) (by show N * 8 ≤ _; omega) hcells hslots hdg (fun q cA H1 hK1 hP1 hD1 hS1 => ?_)
  have e : cA = cJ := Option.some.inj ((hK1.2 3 (cA, .long) rfl).2.symm.trans (hK1.2 1 (cJ, .long) rfl).2)
  subst e
  exact kk q H1 hP1 hD1 hS1
theorem wz_newt {own : String} {index : Nat} (hexec : p.tables.exec = Jvm.exec) (hb : c.code = cc) (hown : s.vm.findClass own = some m.cls) (hclink : (Cond.classLink own index "DriftLog$Track").before args s = true) (hover : va_AO "DriftLog$Track" s) (hK : va_K D cl (TY cI cJ cT) s) (hP : va_P D cl ws H) (hD : va_D A ws) (hS : va_S A H0 H locs) (hA : ∀ q, H0.size ≤ q → A q) {n : Int} {N : Nat} (hn : n = (N : Int)) (hN : N ≤ 1000) (hcells : cells + 1 ≤ R.cells) (hslots : slots + N ≤ R.slots) (hdg : decode cc pc = .ok (.anewarray index, 3))
    (kk : ∀ (q : Nat) (H1 : Heap), va_P D cl (ws ++ [(q, .inl (cT, N, .inr (.inr (.inr (.inr (fun _ => none))))))]) H1 → va_D A (ws ++ [(q, .inl (cT, N, .inr (.inr (.inr (.inr (fun _ => none))))))]) → va_S A H0 H1 locs → W p l e R s m args below meth c H1 locs (cells + 1) (slots + N) Q (F0 m (pc + 3) ls (.ref q :: rest))) : W p l e R s m args below meth c H locs cells slots Q (F0 m pc ls (.int (iI n) :: rest)) := by
  subst hn
  refine va_newq hexec hb hown hclink hover hK hP hD hS hA (fun q => by have := (iI_lt ⟨by omega, by omega⟩ rI_0).mp (iI_0 ▸ q); omega) (show (iI (N : Int)).toNatClampNeg = N by rw [iI_clamp (by omega) (by omega)]; omega) (by omega) hcells hslots hdg (fun q cA H1 hK1 hP1 hD1 hS1 => ?_)
  obtain ⟨-, -, -, -, -, r1⟩ := (hK1.2 3 (cA, .object "DriftLog$Track") rfl).2
  obtain ⟨-, -, -, -, -, r2⟩ := (hK1.2 2 (cT, .object "DriftLog$Track") rfl).2
  have e : cA = cT := Option.some.inj (r1.symm.trans r2)
  subst e
  exact kk q H1 hP1 hD1 hS1
theorem wz_aast (hexec : p.tables.exec = Jvm.exec) (hb : c.code = cc) {tys : List (ClassId × FieldType)} (hK : va_K D cl tys s) (hP : va_P D cl ws H) (hD : va_D A ws) (hS : va_S A H0 H locs) (q0 t0 qk ci : Nat) {cA : ClassId} {r : vw_C} {n v : Nat} {vs : List Value} {f : Nat → Option Nat} (ha : ws[q0]? = some (a, .inl (cA, n, .inr (.inr (.inr (.inr f)))))) (ht : tys[t0]? = some (cA, .object r.1)) (hv : ws[qk]? = some (v, .inr (ci, vs))) (hc : cl[ci]? = some r) {i : Int} (hn : (n : Int) ≤ 2147483647) (h0 : 0 ≤ i ∧ i < n) (hdg : decode cc pc = .ok (.aastore, 1))
    (kk : ∀ (H1 : Heap) (locs1 : List Loc), va_P D cl (ws.set q0 (a, .inl (cA, n, .inr (.inr (.inr (.inr (va_up f i.toNat (some v)))))))) H1 → va_D A (ws.set q0 (a, .inl (cA, n, .inr (.inr (.inr (.inr (va_up f i.toNat (some v)))))))) → va_S A H0 H1 locs1 → W p l e R s m args below meth c H1 locs1 cells slots Q (F0 m (pc + 1) ls rest)) : W p l e R s m args below meth c H locs cells slots Q (F0 m pc ls (.ref v :: .int (iI i) :: .ref a :: rest)) := by
  refine va_astq hexec hb hK hP hD hS q0 t0 qk ci ha ht hv hc (iI_in h0.1 h0.2 hn) hdg (fun H1 locs1 hP1 hD1 hS1 => ?_)
  rw [iI_clamp h0.1 (by have := h0.2; omega)] at hP1 hD1
  exact kk H1 locs1 hP1 hD1 hS1
end WI1
