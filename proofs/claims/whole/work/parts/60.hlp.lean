/-! a static method with a table of its own: it calls a method of the class and catches what that throws -/
def thC (U : State) : Prop := va_Nc nIS nIO U ∧ va_Nc nIA nIO U ∧ va_Nc nIA nIS U
theorem thC.moved {u U : State} (hvm : u.vm.Alike U.vm) (h : thC u) : thC U := ⟨va_Nc.moved hvm h.1, va_Nc.moved hvm h.2.1, va_Nc.moved hvm h.2.2⟩
def zPy (D : va_G) (tys : List (ClassId × FieldType)) (av : List Value) (ws : va_W) (sz : Nat) (sa : Nat → Nat) : Array Value → State → Prop := va_Pc av (fun U => U.heap.size = sz ∧ va_P D vwCl ws U.heap ∧ va_K D vwCl tys U ∧ va_D (fun _ => True) ws ∧ thV sa U ∧ thC U ∧ thH (va_A ws sz) U U.heap)
theorem zPy_blind {D : va_G} {tys : List (ClassId × FieldType)} {av : List Value} {ws : va_W} {sz : Nat} {sa : Nat → Nat} : FrameBlind (zPy D tys av ws sz sa) := fun a U g mk q => by
  obtain ⟨q0, q1, qP, qK, qD, qV, qC, qH⟩ := q
  exact ⟨q0, q1, qP, va_K.moved (u := U) (U := U.calling g mk a) (Vm.Alike.refl U.vm) qK, qD, thV.same (u := U) (U := U.calling g mk a) rfl qV, thC.moved (u := U) (U := U.calling g mk a) (Vm.Alike.refl U.vm) qC, thH.moved (u := U) (U := U.calling g mk a) (Vm.Alike.refl U.vm) qH⟩
theorem wz_preSy {s : State} {H : Heap} {A : Nat → Prop} {D : va_G} {tys : List (ClassId × FieldType)} {As : List Value} {ws wc : va_W} {sa : Nat → Nat} {locs : List Loc} (hK : va_K D vwCl tys s) (hP : va_P D vwCl ws H) (hD : va_D A ws) (hTV : thV sa s) (hTC : thC s) (hTH : thH A s s.heap) (hS : va_S A s.heap H locs) (hA : ∀ q, s.heap.size ≤ q → A q) (isC : List Nat) (hn : va_nd isC = true) (hC : isC.filterMap (fun i => ws[i]?) = wc) (hC2 : isC.map (fun i => ws[i]?) = wc.map some) : PreS s H (zPy D tys As wc H.size sa) As := by
  have hPc := hP.sub isC hC
  have hDc := hD.sub isC hn hC2
  have hF := va_free (wc := wc) hD hS hA isC hC2
  exact ⟨zPy_blind, fun U hU hW => ⟨rfl, by rw [hU], by rw [hU]; exact hPc, va_K.moved hW.alike hK, hDc.weaken (fun _ _ _ _ => trivial), hTV.warm hW, thC.moved hW.alike hTC, by rw [hU]; exact thH.moved hW.alike ((hTH.kept hS.2.1).narrow hF)⟩⟩
theorem zHi {S : Type} {l : Launch} {D : va_G} {tys : List (ClassId × FieldType)} {y : MethodName} {ws ws' : List Cond} {rm : Room} {av : List Value} {wc : va_W} {sz mc ms : Nat} {sa : Nat → Nat} {pe : String → Prop} {cc : ByteArray} {maxL : Nat} {ret : Option FieldType} {hh : List (Nat × Nat × Nat × Nat)} {post : Int → S → Prop} {w1 : S → va_W} (hy : plainName y.cls = true) (hw : ws = Cond.codeWith y cc maxL ret hh :: ws') (hlen : (lg_sl av).length ≤ maxL)
    (body : ∀ (p : Program) (e : Env) (s : State) (m : MethodId) (below : List Frame) (meth : Method) (c : Code) (A : Nat → Prop) (ls : Array Slot), zE D tys ws y cc maxL ret av wc p s m meth c A ls → thV sa s → thC s → thH A s s.heap → c.exceptionTable.toList = tableOf hh → W p l e rm s m av.toArray below meth c s.heap [] 0 0 (vx_MQ below (zQi D tys A post w1) (zX D tys A wc pe) av.toArray s mc ms A) (F0 m 0 ls [])) :
    vx_Met l y ws rm (zPy D tys av wc sz sa) (zQi D tys (va_A wc sz) post w1) (zX D tys (va_A wc sz) wc pe) mc ms (va_A wc sz) := by
  refine vx_ofWH (cc := cc) (maxL := maxL) (ret := ret) (hh := hh) hy hw ?_
  intro p e s m args below meth c s₁ B hml hv
  obtain ⟨rfl, hsz, hP, hK, hD0, hV, hC, hH⟩ := hv
  subst hsz
  have hT := vx_table (x := y) B (atoms_spec (ws := ws) B.pre _ (by rw [hw]; exact List.mem_cons_self))
  rw [lg_entry_eq]
  exact body p e s m below meth c (va_A wc s.heap.size) _ ⟨B.exec, B.bytes, B.returns, atoms_spec (ws := ws) B.pre, findClass_of_methodNamed B.named, B.notSynchronized, hml, (name_of_methodNamed B.named B.method).1, hP, hK, hD0.self (sz := s.heap.size), fun q h => Or.inr h, va_S.rf, lv_entry av hlen⟩ hV hC hH hT
def nZ (z : Int) : Int := (iI z).toInt
theorem nZ_l (z : Int) : (iI z).toInt64 = lI (nZ z) := rfl
theorem nZ_r (z : Int) : rI (nZ z) := by
  have h1 := (iI z).minValue_le_toInt
  have h2 := (iI z).toInt_le
  constructor
  · have : Int32.minValue.toInt = -2147483648 := by decide
    unfold nZ; omega
  · have : Int32.maxValue.toInt = 2147483647 := by decide
    unfold nZ; omega
section WH
variable {p : Program} {l : Launch} {e : Env} {R : Room} {s : State} {m : MethodId} {args : Array Value} {below : List Frame} {meth : Method} {c : Code} {H : Heap} {locs : List Loc} {cells slots : Nat} {Q : State → Prop}
variable {cc : ByteArray} {pc : Nat} {ls : Array Slot} {rest : List Value}
variable {D : va_G} {tys : List (ClassId × FieldType)} {ws wc wr ws0 : va_W} {A : Nat → Prop} {st0 : List Value} {mc ms mc1 ms1 : Nat} {a : Array Value} {pe peC : String → Prop}
theorem wz_i2lN (hexec : p.tables.exec = Jvm.exec) (hb : c.code = cc) {x : Int} (hdg : decode cc pc = .ok (.i2l, 1)) (k : W p l e R s m args below meth c H locs cells slots Q (F0 m (pc + 1) ls (.long (lI (nZ x)) :: rest))) : W p l e R s m args below meth c H locs cells slots Q (F0 m pc ls (.int (iI x) :: rest)) := lv_i2l hexec hb hdg (nZ_l x) k
theorem wz_hcalli {S : Type} {post : Int → S → Prop} {w1 : S → va_W} (hr : vx_Run p l e R s m args below meth c H locs cells slots mc1 ms1 (F0 m pc ls st0) rest (zQi D tys (va_A wc H.size) post w1 a) (zX D tys (va_A wc H.size) wc peC) (va_A wc H.size)) (hP : va_P D vwCl ws H) (hD : va_D A ws) (hS : va_S A s.heap H locs) (hA : ∀ q, s.heap.size ≤ q → A q) (isC isR : List Nat) (hC : isC.map (fun i => ws[i]?) = wc.map some) (hR : isR.map (fun i => ws[i]?) = wr.map some) (hn : va_nd isR = true) (hdis : ∀ i ∈ isR, i ∉ isC)
    (kx : ∀ (E : String) (ce : Cell) (q9 : Addr) (H1 : Heap) (locs1 : List Loc), peC E → va_P D vwCl (wr ++ wc) H1 → va_D A (wr ++ wc) → va_S A s.heap H1 locs1 → H1[q9]? = some ce → ce.vm = .none → s.vm.findClass E = some ce.cls → vx_W p l e R s m args below meth c H1 locs1 (cells + mc1) (slots + ms1) Q (F0 m pc ls rest) q9)
    (kk : ∀ (z : Int) (u : S) (H1 : Heap) (locs1 : List Loc), post z u → va_P D vwCl (wr ++ w1 u) H1 → va_D A (wr ++ w1 u) → va_S A s.heap H1 locs1 → W p l e R s m args below meth c H1 locs1 (cells + mc1) (slots + ms1) Q (F0 m (pc + 3) ls (.int (iI z) :: rest))) : W p l e R s m args below meth c H locs cells slots Q (F0 m pc ls st0) := by
  have hF := va_free (wc := wc) hD hS hA isC hC
  refine vx_calli hr hS (fun q _ h => hF q h) hF (fun q _ h => hF q h) (fun E ce q9 u t H1 locs1 ht hvm hw hB hz1 hk1 hS1 hce hcv hcl => ?_) (fun r u t H1 locs1 ht hvm hw hB hz1 hk1 hS1 => ?_)
  · obtain ⟨hE, hP1, hK1, hD1⟩ := hB
    rw [ht] at hP1
    obtain ⟨hP2, hD2⟩ := va_join (wr := wr) hP hD isC isR hC hR hn hdis hk1 hF hP1 hD1
    exact kx E ce q9 H1 locs1 hE hP2 hD2 hS1 hce hcv hcl
  · obtain ⟨z, u⟩ := u
    obtain ⟨hr1, hw⟩ := hw
    obtain ⟨hP1, hK1, hD1⟩ := hB
    subst hr1
    rw [ht] at hP1
    obtain ⟨hP2, hD2⟩ := va_join (wr := wr) hP hD isC isR hC hR hn hdis hk1 hF hP1 hD1
    exact kk z u H1 locs1 hw hP2 hD2 hS1
theorem wz_hcalll {S : Type} {post : Int → S → Prop} {w1 : S → va_W} (hr : vx_Run p l e R s m args below meth c H locs cells slots mc1 ms1 (F0 m pc ls st0) rest (zQl D tys (va_A wc H.size) post w1 a) (zX D tys (va_A wc H.size) wc peC) (va_A wc H.size)) (hP : va_P D vwCl ws H) (hD : va_D A ws) (hS : va_S A s.heap H locs) (hA : ∀ q, s.heap.size ≤ q → A q) (isC isR : List Nat) (hC : isC.map (fun i => ws[i]?) = wc.map some) (hR : isR.map (fun i => ws[i]?) = wr.map some) (hn : va_nd isR = true) (hdis : ∀ i ∈ isR, i ∉ isC)
    (kx : ∀ (E : String) (ce : Cell) (q9 : Addr) (H1 : Heap) (locs1 : List Loc), peC E → va_P D vwCl (wr ++ wc) H1 → va_D A (wr ++ wc) → va_S A s.heap H1 locs1 → H1[q9]? = some ce → ce.vm = .none → s.vm.findClass E = some ce.cls → vx_W p l e R s m args below meth c H1 locs1 (cells + mc1) (slots + ms1) Q (F0 m pc ls rest) q9)
    (kk : ∀ (z : Int) (u : S) (H1 : Heap) (locs1 : List Loc), post z u → va_P D vwCl (wr ++ w1 u) H1 → va_D A (wr ++ w1 u) → va_S A s.heap H1 locs1 → W p l e R s m args below meth c H1 locs1 (cells + mc1) (slots + ms1) Q (F0 m (pc + 3) ls (.long (lI z) :: rest))) : W p l e R s m args below meth c H locs cells slots Q (F0 m pc ls st0) := by
  have hF := va_free (wc := wc) hD hS hA isC hC
  refine vx_calll hr hS (fun q _ h => hF q h) hF (fun q _ h => hF q h) (fun E ce q9 u t H1 locs1 ht hvm hw hB hz1 hk1 hS1 hce hcv hcl => ?_) (fun r u t H1 locs1 ht hvm hw hB hz1 hk1 hS1 => ?_)
  · obtain ⟨hE, hP1, hK1, hD1⟩ := hB
    rw [ht] at hP1
    obtain ⟨hP2, hD2⟩ := va_join (wr := wr) hP hD isC isR hC hR hn hdis hk1 hF hP1 hD1
    exact kx E ce q9 H1 locs1 hE hP2 hD2 hS1 hce hcv hcl
  · obtain ⟨z, u⟩ := u
    obtain ⟨hr1, hw⟩ := hw
    obtain ⟨hP1, hK1, hD1⟩ := hB
    subst hr1
    rw [ht] at hP1
    obtain ⟨hP2, hD2⟩ := va_join (wr := wr) hP hD isC isR hC hR hn hdis hk1 hF hP1 hD1
    exact kk z u H1 locs1 hw hP2 hD2 hS1
theorem wz_hcallv {S : Type} {post : S → Prop} {w1 : S → va_W} (hr : vx_Run p l e R s m args below meth c H locs cells slots mc1 ms1 (F0 m pc ls st0) rest (zQv D tys (va_A wc H.size) post w1 a) (zX D tys (va_A wc H.size) wc peC) (va_A wc H.size)) (hP : va_P D vwCl ws H) (hD : va_D A ws) (hS : va_S A s.heap H locs) (hA : ∀ q, s.heap.size ≤ q → A q) (isC isR : List Nat) (hC : isC.map (fun i => ws[i]?) = wc.map some) (hR : isR.map (fun i => ws[i]?) = wr.map some) (hn : va_nd isR = true) (hdis : ∀ i ∈ isR, i ∉ isC)
    (kx : ∀ (E : String) (ce : Cell) (q9 : Addr) (H1 : Heap) (locs1 : List Loc), peC E → va_P D vwCl (wr ++ wc) H1 → va_D A (wr ++ wc) → va_S A s.heap H1 locs1 → H1[q9]? = some ce → ce.vm = .none → s.vm.findClass E = some ce.cls → vx_W p l e R s m args below meth c H1 locs1 (cells + mc1) (slots + ms1) Q (F0 m pc ls rest) q9)
    (kk : ∀ (u : S) (H1 : Heap) (locs1 : List Loc), post u → va_P D vwCl (wr ++ w1 u) H1 → va_D A (wr ++ w1 u) → va_S A s.heap H1 locs1 → W p l e R s m args below meth c H1 locs1 (cells + mc1) (slots + ms1) Q (F0 m (pc + 3) ls rest)) : W p l e R s m args below meth c H locs cells slots Q (F0 m pc ls st0) := by
  have hF := va_free (wc := wc) hD hS hA isC hC
  refine vx_callv hr hS (fun q _ h => hF q h) hF (fun q _ h => hF q h) (fun E ce q9 u t H1 locs1 ht hvm hw hB hz1 hk1 hS1 hce hcv hcl => ?_) (fun u t H1 locs1 ht hvm hw hB hz1 hk1 hS1 => ?_)
  · obtain ⟨hE, hP1, hK1, hD1⟩ := hB
    rw [ht] at hP1
    obtain ⟨hP2, hD2⟩ := va_join (wr := wr) hP hD isC isR hC hR hn hdis hk1 hF hP1 hD1
    exact kx E ce q9 H1 locs1 hE hP2 hD2 hS1 hce hcv hcl
  · obtain ⟨hP1, hK1, hD1⟩ := hB
    rw [ht] at hP1
    obtain ⟨hP2, hD2⟩ := va_join (wr := wr) hP hD isC isR hC hR hn hdis hk1 hF hP1 hD1
    exact kk u H1 locs1 hw hP2 hD2 hS1
theorem thV.cIO {sa : Nat → Nat} (h : thV sa s) : (Cond.castable nIO nIO).before args s = true := va_Nw.use rfl h.2.2.2.1
theorem thV.cIS {sa : Nat → Nat} (h : thV sa s) : (Cond.castable nIS nIS).before args s = true := va_Nw.use rfl h.2.2.2.2.1
theorem thV.cIA {sa : Nat → Nat} (h : thV sa s) : (Cond.castable nIA nIA).before args s = true := va_Nw.use rfl h.2.2.2.2.2.1
variable {own : String} {sa : Nat → Nat} {en h1 h2 h3 : Nat} {ce : Cell} {q9 : Addr}
theorem cov {a b h t pc : Nat} (h1 : a ≤ pc) (h2 : pc < b) : covers ⟨a, b, h, t⟩ pc = true := by simp [covers, h1, h2]
theorem wx_IO (hown : s.vm.findClass own = some m.cls) (hTV : thV sa s) (suf : List (Nat × Nat × Nat × Nat)) (hT : c.exceptionTable.toList = tableOf ((0, en, h1, 13) :: suf)) (hpc : pc < en) (hl : (Cond.classLink own 13 nIO).before args s = true) (hcell : H[q9]? = some ce) (hv : ce.vm = .none) (hcl : s.vm.findClass nIO = some ce.cls) (kk : W p l e R s m args below meth c H locs cells slots Q (F0 m h1 ls [.ref q9])) : vx_W p l e R s m args below meth c H locs cells slots Q (F0 m pc ls rest) q9 :=
  wx_catch (own := own) (name := nIO) (E := nIO) hown [] ⟨0, en, h1, 13⟩ (tableOf suf) hT (fun z hz => absurd hz List.not_mem_nil) (cov (Nat.zero_le _) hpc) (Nat.succ_ne_zero _) hl hTV.cIO hcell hv hcl kk
theorem wx_IS (hown : s.vm.findClass own = some m.cls) (hTV : thV sa s) (hTC : thC s) (suf : List (Nat × Nat × Nat × Nat)) (hT : c.exceptionTable.toList = tableOf ((0, en, h1, 13) :: (0, en, h2, 15) :: suf)) (hpc : pc < en) (hl : (Cond.classLink own 13 nIO).before args s = true) (hl2 : (Cond.classLink own 15 nIS).before args s = true) (hcell : H[q9]? = some ce) (hv : ce.vm = .none) (hcl : s.vm.findClass nIS = some ce.cls) (kk : W p l e R s m args below meth c H locs cells slots Q (F0 m h2 ls [.ref q9])) : vx_W p l e R s m args below meth c H locs cells slots Q (F0 m pc ls rest) q9 :=
  wx_catch (own := own) (name := nIS) (E := nIS) hown [⟨0, en, h1, 13⟩] ⟨0, en, h2, 15⟩ (tableOf suf) hT (fun z hz => by
    obtain rfl := List.mem_singleton.mp hz
    exact Or.inr ⟨Nat.succ_ne_zero _, nIO, hl, hTC.1⟩) (cov (Nat.zero_le _) hpc) (Nat.succ_ne_zero _) hl2 hTV.cIS hcell hv hcl kk
theorem wx_IA (hown : s.vm.findClass own = some m.cls) (hTV : thV sa s) (hTC : thC s) (suf : List (Nat × Nat × Nat × Nat)) (hT : c.exceptionTable.toList = tableOf ((0, en, h1, 13) :: (0, en, h2, 15) :: (0, en, h3, 21) :: suf)) (hpc : pc < en) (hl : (Cond.classLink own 13 nIO).before args s = true) (hl2 : (Cond.classLink own 15 nIS).before args s = true) (hl3 : (Cond.classLink own 21 nIA).before args s = true) (hcell : H[q9]? = some ce) (hv : ce.vm = .none) (hcl : s.vm.findClass nIA = some ce.cls) (kk : W p l e R s m args below meth c H locs cells slots Q (F0 m h3 ls [.ref q9])) : vx_W p l e R s m args below meth c H locs cells slots Q (F0 m pc ls rest) q9 :=
  wx_catch (own := own) (name := nIA) (E := nIA) hown [⟨0, en, h1, 13⟩, ⟨0, en, h2, 15⟩] ⟨0, en, h3, 21⟩ (tableOf suf) hT (fun z hz => by
    rcases List.mem_cons.mp hz with rfl | hz
    · exact Or.inr ⟨Nat.succ_ne_zero _, nIO, hl, hTC.2.1⟩
    · obtain rfl := List.mem_singleton.mp hz
      exact Or.inr ⟨Nat.succ_ne_zero _, nIS, hl2, hTC.2.2⟩) (cov (Nat.zero_le _) hpc) (Nat.succ_ne_zero _) hl3 hTV.cIA hcell hv hcl kk
end WH
