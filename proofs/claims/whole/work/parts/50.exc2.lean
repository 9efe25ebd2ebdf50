abbrev nIO : String := "java/lang/IndexOutOfBoundsException"
abbrev nIS : String := "java/lang/IllegalStateException"
abbrev nIA : String := "java/lang/IllegalArgumentException"
abbrev nmE : List String := ["java/lang/RuntimeException", "java/lang/Exception"]
def strs : List (Nat × String) := [(182, "no such track"), (184, "the track is in another state"), (63, "the track has 20 samples"), (75, "a number of the sample is out of its range"), (82, "the time is not above the last one"), (88, "the track has no sample"), (94, "e is not 0 .. 65535"), (108, "e is below 0 or the bound would be above 65535"), (119, "no such sample"), (128, "no such w"), (134, "the track has no motion at that time"), (160, "a number of the frame is out of its range"), (167, "no such span")]
/-- what a throw needs of the tables and of the texts -/
def thV (sa : Nat → Nat) (U : State) : Prop := va_Nw (.declares (Bundle.initS "java/lang/RuntimeException")) U ∧ va_Nw (.declares (Bundle.initS "java/lang/Exception")) U ∧ va_Nw (.declares (Bundle.initS Bundle.tN)) U ∧ va_Nw (.castable nIO nIO) U ∧ va_Nw (.castable nIS nIS) U ∧ va_Nw (.castable nIA nIA) U ∧ ∀ q ∈ strs, vk_R RX6 q.1 q.2 (sa q.1) U
/-- .. and of the heap -/
def thH (A : Nat → Prop) (U : State) (H : Heap) : Prop := vx_Zq Bundle.tN "UNASSIGNED_STACK" Bundle.steD A U H ∧ vx_Zq Bundle.tN "SUPPRESSED_SENTINEL" Bundle.listD A U H
theorem thV.warm {sa : Nat → Nat} {s U : State} (hW : s.WarmedH U.vm) (h : thV sa s) : thV sa U := by
  obtain ⟨h1, h2, h3, h4, h5, h6, h7⟩ := h
  exact ⟨va_Nw.warmD hW h1, va_Nw.warmD hW h2, va_Nw.warmD hW h3, va_Nw.warmC hW h4, va_Nw.warmC hW h5, va_Nw.warmC hW h6, fun q hq => vk_R.warm hW (h7 q hq)⟩
theorem thV.same {sa : Nat → Nat} {u U : State} (hv : u.vm = U.vm) (h : thV sa u) : thV sa U := by
  obtain ⟨h1, h2, h3, h4, h5, h6, h7⟩ := h
  exact ⟨va_Nw.same rfl hv h1, va_Nw.same rfl hv h2, va_Nw.same rfl hv h3, va_Nw.same rfl hv h4, va_Nw.same rfl hv h5, va_Nw.same rfl hv h6, fun q hq => vk_R.same hv.symm (h7 q hq)⟩
theorem thH.moved {A : Nat → Prop} {u U : State} {H : Heap} (hvm : u.vm.Alike U.vm) (h : thH A u H) : thH A U H := ⟨vx_Zq.moved hvm h.1, vx_Zq.moved hvm h.2⟩
theorem thH.kept {A : Nat → Prop} {U : State} {H H1 : Heap} (h : thH A U H) (hq : ∀ a : Nat, a < H.size → ¬ A a → H1[a]? = H[a]?) : thH A U H1 := ⟨vx_Zq.kept h.1 hq, vx_Zq.kept h.2 hq⟩
theorem thH.narrow {A B : Nat → Prop} {U : State} {H : Heap} (h : thH A U H) (hAB : ∀ q, B q → A q) : thH B U H := ⟨vx_Zq.narrow h.1 hAB, vx_Zq.narrow h.2 hAB⟩
def zPx (D : va_G) (tys : List (ClassId × FieldType)) (av : List Value) (ws : va_W) (sz : Nat) (sa : Nat → Nat) : Array Value → State → Prop := va_Pc av (fun U => U.heap.size = sz ∧ va_P D vwCl ws U.heap ∧ va_K D vwCl tys U ∧ va_D (fun _ => True) ws ∧ thV sa U ∧ thH (va_A ws sz) U U.heap)
def zX (D : va_G) (tys : List (ClassId × FieldType)) (A : Nat → Prop) (ws : va_W) (pe : String → Prop) : String → State → State → Prop := vx_X (fun _ : Unit => True) (fun E _ t => pe E ∧ zB D tys A ws t) A
def zQr {S : Type} (D : va_G) (tys : List (ClassId × FieldType)) (A : Nat → Prop) (post : Nat → S → Prop) (w1 : S → va_W) : Array Value → State → Outcome → State → Prop := va_Qr (fun _ : S => True) (fun u a t => post a u ∧ zB D tys A (w1 u) t) A
theorem zPx_blind {D : va_G} {tys : List (ClassId × FieldType)} {av : List Value} {ws : va_W} {sz : Nat} {sa : Nat → Nat} : FrameBlind (zPx D tys av ws sz sa) := fun a U g mk q => by
  obtain ⟨q0, q1, qP, qK, qD, qV, qH⟩ := q
  exact ⟨q0, q1, qP, va_K.moved (u := U) (U := U.calling g mk a) (Vm.Alike.refl U.vm) qK, qD, thV.same (u := U) (U := U.calling g mk a) rfl qV, thH.moved (u := U) (U := U.calling g mk a) (Vm.Alike.refl U.vm) qH⟩
theorem wz_preSx {s : State} {H : Heap} {A : Nat → Prop} {D : va_G} {tys : List (ClassId × FieldType)} {As : List Value} {ws wc : va_W} {sa : Nat → Nat} {locs : List Loc} (hK : va_K D vwCl tys s) (hP : va_P D vwCl ws H) (hD : va_D A ws) (hTV : thV sa s) (hTH : thH A s s.heap) (hS : va_S A s.heap H locs) (hA : ∀ q, s.heap.size ≤ q → A q) (isC : List Nat) (hn : va_nd isC = true) (hC : isC.filterMap (fun i => ws[i]?) = wc) (hC2 : isC.map (fun i => ws[i]?) = wc.map some) : PreS s H (zPx D tys As wc H.size sa) As := by
  have hPc := hP.sub isC hC
  have hDc := hD.sub isC hn hC2
  have hF := va_free (wc := wc) hD hS hA isC hC2
  exact ⟨zPx_blind, fun U hU hW => ⟨rfl, by rw [hU], by rw [hU]; exact hPc, va_K.moved hW.alike hK, hDc.weaken (fun _ _ _ _ => trivial), hTV.warm hW, by rw [hU]; exact thH.moved hW.alike ((hTH.kept hS.2.1).narrow hF)⟩⟩
theorem wz_preVx {s : State} {H : Heap} {A : Nat → Prop} {D : va_G} {tys : List (ClassId × FieldType)} {b : Nat} {As : List Value} {ws wc : va_W} {sa : Nat → Nat} {locs : List Loc} (hK : va_K D vwCl tys s) (hP : va_P D vwCl ws H) (hD : va_D A ws) (hTV : thV sa s) (hTH : thH A s s.heap) (hS : va_S A s.heap H locs) (hA : ∀ q, s.heap.size ≤ q → A q) (isC : List Nat) (hn : va_nd isC = true) (hC : isC.filterMap (fun i => ws[i]?) = wc) (hC2 : isC.map (fun i => ws[i]?) = wc.map some) (ci q0 : Nat) {q : vw_C} {fs : List Value} (hc : vwCl[ci]? = some q) (he : ws[q0]? = some (b, .inr (ci, fs))) : PreV s H q.1 b (zPx D tys (.ref b :: As) wc H.size sa) As := by
  have h := wz_preSx (As := .ref b :: As) hK hP hD hTV hTH hS hA isC hn hC hC2
  exact ⟨h.1, va_recv hK hP hc he, h.2⟩
theorem hat_IO {args : Array Value} {s : State} {sa : Nat → Nat} (h1 : ∀ w ∈ (vx_atS RX6 121 nIO nmE).filter goodWord, w.before args s = true) (hV : thV sa s) : ∀ w ∈ vx_atS RX6 121 nIO nmE, w.before args s = true := by
  obtain ⟨d1, d2, d3, h4, h5, h6, -⟩ := hV
  exact vx_hat h1 (B := [.declares (Bundle.initS "java/lang/RuntimeException"), .declares (Bundle.initS "java/lang/Exception"), .declares (Bundle.initS Bundle.tN), .castable nIO nIO]) (by decide +kernel) (vx_c (va_Nw.use rfl d1) (vx_c (va_Nw.use rfl d2) (vx_c (va_Nw.use rfl d3) (vx_c (va_Nw.use rfl h4) vx_n))))
theorem hgd_IO {ik : Nat} : ∀ w ∈ Cond.classLink RX6 ik nIO :: Cond.initialized nIO :: vx_atS RX6 121 nIO nmE, vx_ot w = true := by
  intro w hw
  rcases List.mem_cons.mp hw with q | q
  · subst q; rfl
  · clear hw
    revert w
    decide +kernel
theorem hat_IS {args : Array Value} {s : State} {sa : Nat → Nat} (h1 : ∀ w ∈ (vx_atS RX6 65 nIS nmE).filter goodWord, w.before args s = true) (hV : thV sa s) : ∀ w ∈ vx_atS RX6 65 nIS nmE, w.before args s = true := by
  obtain ⟨d1, d2, d3, h4, h5, h6, -⟩ := hV
  exact vx_hat h1 (B := [.declares (Bundle.initS "java/lang/RuntimeException"), .declares (Bundle.initS "java/lang/Exception"), .declares (Bundle.initS Bundle.tN), .castable nIS nIS]) (by decide +kernel) (vx_c (va_Nw.use rfl d1) (vx_c (va_Nw.use rfl d2) (vx_c (va_Nw.use rfl d3) (vx_c (va_Nw.use rfl h5) vx_n))))
theorem hgd_IS {ik : Nat} : ∀ w ∈ Cond.classLink RX6 ik nIS :: Cond.initialized nIS :: vx_atS RX6 65 nIS nmE, vx_ot w = true := by
  intro w hw
  rcases List.mem_cons.mp hw with q | q
  · subst q; rfl
  · clear hw
    revert w
    decide +kernel
theorem hat_IA {args : Array Value} {s : State} {sa : Nat → Nat} (h1 : ∀ w ∈ (vx_atS RX6 77 nIA nmE).filter goodWord, w.before args s = true) (hV : thV sa s) : ∀ w ∈ vx_atS RX6 77 nIA nmE, w.before args s = true := by
  obtain ⟨d1, d2, d3, h4, h5, h6, -⟩ := hV
  exact vx_hat h1 (B := [.declares (Bundle.initS "java/lang/RuntimeException"), .declares (Bundle.initS "java/lang/Exception"), .declares (Bundle.initS Bundle.tN), .castable nIA nIA]) (by decide +kernel) (vx_c (va_Nw.use rfl d1) (vx_c (va_Nw.use rfl d2) (vx_c (va_Nw.use rfl d3) (vx_c (va_Nw.use rfl h6) vx_n))))
theorem hgd_IA {ik : Nat} : ∀ w ∈ Cond.classLink RX6 ik nIA :: Cond.initialized nIA :: vx_atS RX6 77 nIA nmE, vx_ot w = true := by
  intro w hw
  rcases List.mem_cons.mp hw with q | q
  · subst q; rfl
  · clear hw
    revert w
    decide +kernel
section WX1
variable {p : Program} {l : Launch} {e : Env} {R : Room} {s : State} {m : MethodId} {args : Array Value} {below : List Frame} {meth : Method} {c : Code} {H : Heap} {locs : List Loc} {cells slots : Nat} {Q : State → Prop}
variable {cc : ByteArray} {pc : Nat} {ls : Array Slot} {rest : List Value}
variable {D : va_G} {tys : List (ClassId × FieldType)} {ws wc wr ws0 : va_W} {A : Nat → Prop} {st0 : List Value} {mc ms mc1 ms1 : Nat} {a : Array Value} {pe peC : String → Prop}
/-- throw new E("text"): the world as it was at the start -/
theorem wz_throw {Qc : Array Value → State → Outcome → State → Prop} {own cls text : String} {ik is ic sa9 : Nat} (hexec : p.tables.exec = Jvm.exec) (hb : c.code = cc) (hLt : l.stackTraces = false) (hown : s.vm.findClass own = some m.cls) (hcls : Bundle.fit cls = true)
    (hk : (Cond.classLink own ik cls).before args s = true) (hini : (Cond.initialized cls).before args s = true) (hstr : vk_R own is text sa9 s) (hat : ∀ w ∈ vx_atS own ic cls nmE, w.before args s = true) (hgood : ∀ w ∈ Cond.classLink own ik cls :: Cond.initialized cls :: vx_atS own ic cls nmE, vx_ot w = true)
    (hTH : thH A s s.heap) (hsize : ls.size = c.maxLocals) (d0 : decode cc pc = .ok (.new ik, 3)) (d3 : decode cc (pc + 3) = .ok (.dup, 1)) (d4 : decode cc (pc + 4) = .ok (.ldc is, 2)) (d6 : decode cc (pc + 6) = .ok (.invokespecial ic, 3)) (d9 : decode cc (pc + 9) = .ok (.athrow, 1))
    (hT : ∀ x ∈ c.exceptionTable.toList, False) (hRf : 5 < R.frames) (hRl : (rest.map fun v => v.category).sum + 82 ≤ R.locals) (hRc : cells + 1 ≤ R.cells) (hRs : slots + 6 ≤ R.slots) (hlocks : meth.locks = false)
    (hK : va_K D vwCl tys s) (hP : va_P D vwCl ws H) (hD : va_D A ws) (hS : va_S A s.heap H locs) (hpe : pe cls) (hc : cells + 1 ≤ mc) (hs : slots + 6 ≤ ms) : W p l e R s m args below meth c H locs cells slots (vx_MQ below Qc (zX D tys A ws pe) args s mc ms A) (F0 m pc ls rest) :=
  vx_throwS (names := nmE) hexec hb hLt hown hcls (by decide) hk hini hstr hat hgood hTH.1 hTH.2 hS hsize d0 d3 d4 d6 d9 (fun x hx => (hT x hx).elim) hRf hRl hRc hRs hlocks
    (fun t hal hsz hkp => ⟨(), trivial, ⟨hpe, hP.kept (fun k x hx => hkp x.1 ((hP k x hx).lt)), va_K.moved hal hK, hD⟩, Nat.le_trans hS.1 hsz, fun q h1 h2 => by rw [hkp q (Nat.lt_of_lt_of_le h1 hS.1)]; exact hS.2.1 q h1 h2⟩) hS.2.2 hc hs
theorem vx_callr9 {S SX : Type} {A0 A1 : Nat → Prop} {H0 : Heap} {free : Addr → Prop} {post : S → Prop} {px : SX → Prop} {B : S → Nat → State → Prop} {BX : String → SX → State → Prop} {AX : Nat → Prop} (hr : vx_Run p l e R s m args below meth c H locs cells slots mc ms (F0 m pc ls st0) rest (va_Qr post B A1 a) (vx_X px BX AX) free) (hS : va_S A0 H0 H locs) (hA : ∀ q, q < H.size → A1 q → A0 q) (hf : ∀ q, free q → A0 q) (hAX : ∀ q, q < H.size → AX q → A0 q)
    (kx : ∀ (E : String) (ce : Cell) (q9 : Addr) (u : SX) (t : State) (H1 : Heap) (locs1 : List Loc), t.heap = H1 → s.vm.Alike t.vm → px u → BX E u t → H.size ≤ H1.size → (∀ q : Nat, q < H.size → ¬ AX q → H1[q]? = H[q]?) → va_S A0 H0 H1 locs1 → H1[q9]? = some ce → ce.vm = .none → s.vm.findClass E = some ce.cls → vx_W p l e R s m args below meth c H1 locs1 (cells + mc) (slots + ms) Q (F0 m pc ls rest) q9)
    (kk : ∀ (u : S) (ra : Nat) (t : State) (H1 : Heap) (locs1 : List Loc), t.heap = H1 → s.vm.Alike t.vm → post u → B u ra t → H.size ≤ H1.size → (∀ q : Nat, q < H.size → ¬ A1 q → H1[q]? = H[q]?) → va_S A0 H0 H1 locs1 → W p l e R s m args below meth c H1 locs1 (cells + mc) (slots + ms) Q (F0 m (pc + 3) ls (.ref ra :: rest))) : W p l e R s m args below meth c H locs cells slots Q (F0 m pc ls st0) := by
  intro T hT X
  rcases hr T hT X with ⟨v, st₀, t, T', L, h0, X', hL, e1, e2, ⟨⟨u, ra, hv, hp, hb⟩, hF⟩, st⟩ | ⟨q, st₀, t, T', L, E, ce, h0, X', hL, e1, e2, ⟨u, hp, hb, hF⟩, hce, hcv, hcl, st⟩
  · cases hv
    obtain ⟨k1, k2, k3⟩ := vx_keep h0 e1 hS hA hf hL hF
    obtain ⟨t2, a1, b1⟩ := kk u ra t T'.heap (locs ++ L) e1.symm (by rw [← e2]; exact X'.warmed.alike) hp hb k1 k2 k3 T' rfl X'
    exact ⟨t2, st t2 a1, b1⟩
  · obtain ⟨k1, k2, k3⟩ := vx_keep h0 e1 hS hAX hf hL hF
    obtain ⟨t2, a1, b1⟩ := kx E ce q u t T'.heap (locs ++ L) e1.symm (by rw [← e2]; exact X'.warmed.alike) hp hb k1 k2 k3 (by rw [e1]; exact hce) hcv hcl T' rfl X'
    exact ⟨t2, st.trans a1, b1⟩
theorem wz_xcalli {Qc : Array Value → State → Outcome → State → Prop} {S : Type} {post : Int → S → Prop} {w1 : S → va_W} (hr : vx_Run p l e R s m args below meth c H locs cells slots mc1 ms1 (F0 m pc ls st0) rest (zQi D tys (va_A wc H.size) post w1 a) (zX D tys (va_A wc H.size) wc peC) (va_A wc H.size)) (hK : va_K D vwCl tys s) (hP : va_P D vwCl ws H) (hD : va_D A ws) (hS : va_S A s.heap H locs) (hA : ∀ q, s.heap.size ≤ q → A q) (isC isR : List Nat) (hC : isC.map (fun i => ws[i]?) = wc.map some) (hR : isR.map (fun i => ws[i]?) = wr.map some) (hn : va_nd isR = true) (hdis : ∀ i ∈ isR, i ∉ isC)
    (pm : List Nat) (hp1 : pm.filterMap (fun i => (wr ++ wc)[i]?) = ws0) (hp2 : va_nd pm = true) (hp3 : pm.map (fun i => (wr ++ wc)[i]?) = ws0.map some) (hT : ∀ x ∈ c.exceptionTable.toList, False) (hlocks : meth.locks = false) (hpe : ∀ E, peC E → pe E) (hc : cells + mc1 ≤ mc) (hs : slots + ms1 ≤ ms)
    (kk : ∀ (z : Int) (u : S) (H1 : Heap) (locs1 : List Loc), post z u → va_P D vwCl (wr ++ w1 u) H1 → va_D A (wr ++ w1 u) → va_S A s.heap H1 locs1 → W p l e R s m args below meth c H1 locs1 (cells + mc1) (slots + ms1) (vx_MQ below Qc (zX D tys A ws0 pe) args s mc ms A) (F0 m (pc + 3) ls (.int (iI z) :: rest))) : W p l e R s m args below meth c H locs cells slots (vx_MQ below Qc (zX D tys A ws0 pe) args s mc ms A) (F0 m pc ls st0) := by
  have hF := va_free (wc := wc) hD hS hA isC hC
  refine vx_calli hr hS (fun q _ h => hF q h) hF (fun q _ h => hF q h) (fun E ce q9 u t H1 locs1 ht hvm hw hB hz1 hk1 hS1 hce hcv hcl => ?_) (fun r u t H1 locs1 ht hvm hw hB hz1 hk1 hS1 => ?_)
  · obtain ⟨hE, hP1, hK1, hD1⟩ := hB
    rw [ht] at hP1
    obtain ⟨hP2, hD2⟩ := va_join (wr := wr) hP hD isC isR hC hR hn hdis hk1 hF hP1 hD1
    exact vx_out (fun x hx => (hT x hx).elim) hlocks hce hcv hcl (fun t1 ht1 hal => ⟨(), trivial, ⟨hpe E hE, by rw [ht1]; exact hP2.sub pm hp1, va_K.moved hal hK, hD2.sub pm hp2 hp3⟩, hS1.F ht1⟩) hS1.2.2 hc hs
  · obtain ⟨z, u⟩ := u
    obtain ⟨hr1, hw⟩ := hw
    obtain ⟨hP1, hK1, hD1⟩ := hB
    subst hr1
    rw [ht] at hP1
    obtain ⟨hP2, hD2⟩ := va_join (wr := wr) hP hD isC isR hC hR hn hdis hk1 hF hP1 hD1
    exact kk z u H1 locs1 hw hP2 hD2 hS1
theorem wz_xcalll {Qc : Array Value → State → Outcome → State → Prop} {S : Type} {post : Int → S → Prop} {w1 : S → va_W} (hr : vx_Run p l e R s m args below meth c H locs cells slots mc1 ms1 (F0 m pc ls st0) rest (zQl D tys (va_A wc H.size) post w1 a) (zX D tys (va_A wc H.size) wc peC) (va_A wc H.size)) (hK : va_K D vwCl tys s) (hP : va_P D vwCl ws H) (hD : va_D A ws) (hS : va_S A s.heap H locs) (hA : ∀ q, s.heap.size ≤ q → A q) (isC isR : List Nat) (hC : isC.map (fun i => ws[i]?) = wc.map some) (hR : isR.map (fun i => ws[i]?) = wr.map some) (hn : va_nd isR = true) (hdis : ∀ i ∈ isR, i ∉ isC)
    (pm : List Nat) (hp1 : pm.filterMap (fun i => (wr ++ wc)[i]?) = ws0) (hp2 : va_nd pm = true) (hp3 : pm.map (fun i => (wr ++ wc)[i]?) = ws0.map some) (hT : ∀ x ∈ c.exceptionTable.toList, False) (hlocks : meth.locks = false) (hpe : ∀ E, peC E → pe E) (hc : cells + mc1 ≤ mc) (hs : slots + ms1 ≤ ms)
    (kk : ∀ (z : Int) (u : S) (H1 : Heap) (locs1 : List Loc), post z u → va_P D vwCl (wr ++ w1 u) H1 → va_D A (wr ++ w1 u) → va_S A s.heap H1 locs1 → W p l e R s m args below meth c H1 locs1 (cells + mc1) (slots + ms1) (vx_MQ below Qc (zX D tys A ws0 pe) args s mc ms A) (F0 m (pc + 3) ls (.long (lI z) :: rest))) : W p l e R s m args below meth c H locs cells slots (vx_MQ below Qc (zX D tys A ws0 pe) args s mc ms A) (F0 m pc ls st0) := by
  have hF := va_free (wc := wc) hD hS hA isC hC
  refine vx_calll hr hS (fun q _ h => hF q h) hF (fun q _ h => hF q h) (fun E ce q9 u t H1 locs1 ht hvm hw hB hz1 hk1 hS1 hce hcv hcl => ?_) (fun r u t H1 locs1 ht hvm hw hB hz1 hk1 hS1 => ?_)
  · obtain ⟨hE, hP1, hK1, hD1⟩ := hB
    rw [ht] at hP1
    obtain ⟨hP2, hD2⟩ := va_join (wr := wr) hP hD isC isR hC hR hn hdis hk1 hF hP1 hD1
    exact vx_out (fun x hx => (hT x hx).elim) hlocks hce hcv hcl (fun t1 ht1 hal => ⟨(), trivial, ⟨hpe E hE, by rw [ht1]; exact hP2.sub pm hp1, va_K.moved hal hK, hD2.sub pm hp2 hp3⟩, hS1.F ht1⟩) hS1.2.2 hc hs
  · obtain ⟨z, u⟩ := u
    obtain ⟨hr1, hw⟩ := hw
    obtain ⟨hP1, hK1, hD1⟩ := hB
    subst hr1
    rw [ht] at hP1
    obtain ⟨hP2, hD2⟩ := va_join (wr := wr) hP hD isC isR hC hR hn hdis hk1 hF hP1 hD1
    exact kk z u H1 locs1 hw hP2 hD2 hS1
theorem wz_xcallv {Qc : Array Value → State → Outcome → State → Prop} {S : Type} {post : S → Prop} {w1 : S → va_W} (hr : vx_Run p l e R s m args below meth c H locs cells slots mc1 ms1 (F0 m pc ls st0) rest (zQv D tys (va_A wc H.size) post w1 a) (zX D tys (va_A wc H.size) wc peC) (va_A wc H.size)) (hK : va_K D vwCl tys s) (hP : va_P D vwCl ws H) (hD : va_D A ws) (hS : va_S A s.heap H locs) (hA : ∀ q, s.heap.size ≤ q → A q) (isC isR : List Nat) (hC : isC.map (fun i => ws[i]?) = wc.map some) (hR : isR.map (fun i => ws[i]?) = wr.map some) (hn : va_nd isR = true) (hdis : ∀ i ∈ isR, i ∉ isC)
    (pm : List Nat) (hp1 : pm.filterMap (fun i => (wr ++ wc)[i]?) = ws0) (hp2 : va_nd pm = true) (hp3 : pm.map (fun i => (wr ++ wc)[i]?) = ws0.map some) (hT : ∀ x ∈ c.exceptionTable.toList, False) (hlocks : meth.locks = false) (hpe : ∀ E, peC E → pe E) (hc : cells + mc1 ≤ mc) (hs : slots + ms1 ≤ ms)
    (kk : ∀ (u : S) (H1 : Heap) (locs1 : List Loc), post u → va_P D vwCl (wr ++ w1 u) H1 → va_D A (wr ++ w1 u) → va_S A s.heap H1 locs1 → W p l e R s m args below meth c H1 locs1 (cells + mc1) (slots + ms1) (vx_MQ below Qc (zX D tys A ws0 pe) args s mc ms A) (F0 m (pc + 3) ls rest)) : W p l e R s m args below meth c H locs cells slots (vx_MQ below Qc (zX D tys A ws0 pe) args s mc ms A) (F0 m pc ls st0) := by
  have hF := va_free (wc := wc) hD hS hA isC hC
  refine vx_callv hr hS (fun q _ h => hF q h) hF (fun q _ h => hF q h) (fun E ce q9 u t H1 locs1 ht hvm hw hB hz1 hk1 hS1 hce hcv hcl => ?_) (fun u t H1 locs1 ht hvm hw hB hz1 hk1 hS1 => ?_)
  · obtain ⟨hE, hP1, hK1, hD1⟩ := hB
    rw [ht] at hP1
    obtain ⟨hP2, hD2⟩ := va_join (wr := wr) hP hD isC isR hC hR hn hdis hk1 hF hP1 hD1
    exact vx_out (fun x hx => (hT x hx).elim) hlocks hce hcv hcl (fun t1 ht1 hal => ⟨(), trivial, ⟨hpe E hE, by rw [ht1]; exact hP2.sub pm hp1, va_K.moved hal hK, hD2.sub pm hp2 hp3⟩, hS1.F ht1⟩) hS1.2.2 hc hs
  · obtain ⟨hP1, hK1, hD1⟩ := hB
    rw [ht] at hP1
    obtain ⟨hP2, hD2⟩ := va_join (wr := wr) hP hD isC isR hC hR hn hdis hk1 hF hP1 hD1
    exact kk u H1 locs1 hw hP2 hD2 hS1
theorem wz_xcallr {Qc : Array Value → State → Outcome → State → Prop} {S : Type} {post : Nat → S → Prop} {w1 : S → va_W} (hr : vx_Run p l e R s m args below meth c H locs cells slots mc1 ms1 (F0 m pc ls st0) rest (zQr D tys (va_A wc H.size) post w1 a) (zX D tys (va_A wc H.size) wc peC) (va_A wc H.size)) (hK : va_K D vwCl tys s) (hP : va_P D vwCl ws H) (hD : va_D A ws) (hS : va_S A s.heap H locs) (hA : ∀ q, s.heap.size ≤ q → A q) (isC isR : List Nat) (hC : isC.map (fun i => ws[i]?) = wc.map some) (hR : isR.map (fun i => ws[i]?) = wr.map some) (hn : va_nd isR = true) (hdis : ∀ i ∈ isR, i ∉ isC)
    (pm : List Nat) (hp1 : pm.filterMap (fun i => (wr ++ wc)[i]?) = ws0) (hp2 : va_nd pm = true) (hp3 : pm.map (fun i => (wr ++ wc)[i]?) = ws0.map some) (hT : ∀ x ∈ c.exceptionTable.toList, False) (hlocks : meth.locks = false) (hpe : ∀ E, peC E → pe E) (hc : cells + mc1 ≤ mc) (hs : slots + ms1 ≤ ms)
    (kk : ∀ (z : Nat) (u : S) (H1 : Heap) (locs1 : List Loc), post z u → va_P D vwCl (wr ++ w1 u) H1 → va_D A (wr ++ w1 u) → va_S A s.heap H1 locs1 → W p l e R s m args below meth c H1 locs1 (cells + mc1) (slots + ms1) (vx_MQ below Qc (zX D tys A ws0 pe) args s mc ms A) (F0 m (pc + 3) ls (.ref z :: rest))) : W p l e R s m args below meth c H locs cells slots (vx_MQ below Qc (zX D tys A ws0 pe) args s mc ms A) (F0 m pc ls st0) := by
  have hF := va_free (wc := wc) hD hS hA isC hC
  refine vx_callr9 hr hS (fun q _ h => hF q h) hF (fun q _ h => hF q h) (fun E ce q9 u t H1 locs1 ht hvm hw hB hz1 hk1 hS1 hce hcv hcl => ?_) (fun u z t H1 locs1 ht hvm hw hB hz1 hk1 hS1 => ?_)
  · obtain ⟨hE, hP1, hK1, hD1⟩ := hB
    rw [ht] at hP1
    obtain ⟨hP2, hD2⟩ := va_join (wr := wr) hP hD isC isR hC hR hn hdis hk1 hF hP1 hD1
    exact vx_out (fun x hx => (hT x hx).elim) hlocks hce hcv hcl (fun t1 ht1 hal => ⟨(), trivial, ⟨hpe E hE, by rw [ht1]; exact hP2.sub pm hp1, va_K.moved hal hK, hD2.sub pm hp2 hp3⟩, hS1.F ht1⟩) hS1.2.2 hc hs
  · obtain ⟨hw, hP1, hK1, hD1⟩ := hB
    rw [ht] at hP1
    obtain ⟨hP2, hD2⟩ := va_join (wr := wr) hP hD isC isR hC hR hn hdis hk1 hF hP1 hD1
    exact kk z u H1 locs1 hw hP2 hD2 hS1
theorem wz_retr {S : Type} {post : Nat → S → Prop} {w1 : S → va_W} {z : Nat} {rt : FieldType} (u : S) (hexec : p.tables.exec = Jvm.exec) (hb : c.code = cc) (hr : meth.sig.returnType = some rt) (hrt : (∃ n, rt = .object n) ∨ ∃ t, rt = .array t) (hlocks : meth.locks = false) (hK : va_K D vwCl tys s) (hP : va_P D vwCl (w1 u) H) (hD : va_D A (w1 u)) (hS : va_S A s.heap H locs) (hp : post z u) (hdg : decode cc pc = .ok (.areturn, 1)) : W p l e R s m args below meth c H locs cells slots (MQ below (zQr D tys A post w1) args s cells slots A) (F0 m pc ls [.ref z]) :=
  W.aret (v := .ref z) hexec hb hr hrt (Or.inr ⟨z, rfl⟩) (fun t ht hW => ⟨⟨u, z, rfl, trivial, hp, by rw [ht]; exact hP, va_K.moved hW.alike hK, hD⟩, hS.F ht⟩) hS.2.2 hdg hlocks
theorem wz_tab3 {w : Int} {dflt o0 o1 o2 : Int} {len t0 t1 t2 td : Nat} (hexec : p.tables.exec = Jvm.exec) (hb : c.code = cc) (hdg : decode cc pc = .ok (.tableswitch dflt 0 2 #[o0, o1, o2], len)) (h0 : (pc : Int) + o0 = (t0 : Int)) (h1 : (pc : Int) + o1 = (t1 : Int)) (h2 : (pc : Int) + o2 = (t2 : Int)) (hd : (pc : Int) + dflt = (td : Int)) (hw : rI w)
    (k0 : w = 0 → W p l e R s m args below meth c H locs cells slots Q (F0 m t0 ls rest)) (k1 : w = 1 → W p l e R s m args below meth c H locs cells slots Q (F0 m t1 ls rest)) (k2 : w = 2 → W p l e R s m args below meth c H locs cells slots Q (F0 m t2 ls rest)) (kd : w < 0 ∨ 2 < w → W p l e R s m args below meth c H locs cells slots Q (F0 m td ls rest)) : W p l e R s m args below meth c H locs cells slots Q (F0 m pc ls (.int (iI w) :: rest)) := by
  have e := iI_toInt hw
  rcases Classical.em (w < 0 ∨ 2 < w) with q | q
  · exact lv_tableOut hexec hb hdg (by rw [e]; exact q) hd (kd q)
  · obtain q0 | q0 | q0 : w = 0 ∨ w = 1 ∨ w = 2 := by omega
    · exact lv_tableIn hexec hb hdg (by rw [e]; omega) (by rw [e]; omega) (by rw [e, q0]; rfl) h0 (k0 q0)
    · exact lv_tableIn hexec hb hdg (by rw [e]; omega) (by rw [e]; omega) (by rw [e, q0]; rfl) h1 (k1 q0)
    · exact lv_tableIn hexec hb hdg (by rw [e]; omega) (by rw [e]; omega) (by rw [e, q0]; rfl) h2 (k2 q0)
end WX1
theorem zNi {S : Type} {l : Launch} {D : va_G} {tys : List (ClassId × FieldType)} {y : MethodName} {ws ws' : List Cond} {rm : Room} {av : List Value} {wc : va_W} {sz mc ms : Nat} {sa : Nat → Nat} {pe : String → Prop} {cc : ByteArray} {maxL : Nat} {ret : Option FieldType} {post : Int → S → Prop} {w1 : S → va_W} (hy : plainName y.cls = true) (hw : ws = Cond.code y cc maxL ret :: ws') (hlen : (lg_sl av).length ≤ maxL)
    (body : ∀ (p : Program) (e : Env) (s : State) (m : MethodId) (below : List Frame) (meth : Method) (c : Code) (A : Nat → Prop) (ls : Array Slot), zE D tys ws y cc maxL ret av wc p s m meth c A ls → thV sa s → thH A s s.heap → (∀ x ∈ c.exceptionTable.toList, False) → W p l e rm s m av.toArray below meth c s.heap [] 0 0 (vx_MQ below (zQi D tys A post w1) (zX D tys A wc pe) av.toArray s mc ms A) (F0 m 0 ls [])) :
    vx_Met l y ws rm (zPx D tys av wc sz sa) (zQi D tys (va_A wc sz) post w1) (zX D tys (va_A wc sz) wc pe) mc ms (va_A wc sz) := by
  refine vx_ofW (cc := cc) (maxL := maxL) (ret := ret) hy hw ?_
  intro p e s m args below meth c s₁ B hml hT hv
  obtain ⟨rfl, hsz, hP, hK, hD0, hV, hH⟩ := hv
  subst hsz
  rw [lg_entry_eq]
  exact body p e s m below meth c (va_A wc s.heap.size) _ ⟨B.exec, B.bytes, B.returns, atoms_spec (ws := ws) B.pre, findClass_of_methodNamed B.named, B.notSynchronized, hml, (name_of_methodNamed B.named B.method).1, hP, hK, hD0.self (sz := s.heap.size), fun q h => Or.inr h, va_S.rf, lv_entry av hlen⟩ hV hH hT
theorem zNl {S : Type} {l : Launch} {D : va_G} {tys : List (ClassId × FieldType)} {y : MethodName} {ws ws' : List Cond} {rm : Room} {av : List Value} {wc : va_W} {sz mc ms : Nat} {sa : Nat → Nat} {pe : String → Prop} {cc : ByteArray} {maxL : Nat} {ret : Option FieldType} {post : Int → S → Prop} {w1 : S → va_W} (hy : plainName y.cls = true) (hw : ws = Cond.code y cc maxL ret :: ws') (hlen : (lg_sl av).length ≤ maxL)
    (body : ∀ (p : Program) (e : Env) (s : State) (m : MethodId) (below : List Frame) (meth : Method) (c : Code) (A : Nat → Prop) (ls : Array Slot), zE D tys ws y cc maxL ret av wc p s m meth c A ls → thV sa s → thH A s s.heap → (∀ x ∈ c.exceptionTable.toList, False) → W p l e rm s m av.toArray below meth c s.heap [] 0 0 (vx_MQ below (zQl D tys A post w1) (zX D tys A wc pe) av.toArray s mc ms A) (F0 m 0 ls [])) :
    vx_Met l y ws rm (zPx D tys av wc sz sa) (zQl D tys (va_A wc sz) post w1) (zX D tys (va_A wc sz) wc pe) mc ms (va_A wc sz) := by
  refine vx_ofW (cc := cc) (maxL := maxL) (ret := ret) hy hw ?_
  intro p e s m args below meth c s₁ B hml hT hv
  obtain ⟨rfl, hsz, hP, hK, hD0, hV, hH⟩ := hv
  subst hsz
  rw [lg_entry_eq]
  exact body p e s m below meth c (va_A wc s.heap.size) _ ⟨B.exec, B.bytes, B.returns, atoms_spec (ws := ws) B.pre, findClass_of_methodNamed B.named, B.notSynchronized, hml, (name_of_methodNamed B.named B.method).1, hP, hK, hD0.self (sz := s.heap.size), fun q h => Or.inr h, va_S.rf, lv_entry av hlen⟩ hV hH hT
theorem zNv {S : Type} {l : Launch} {D : va_G} {tys : List (ClassId × FieldType)} {y : MethodName} {ws ws' : List Cond} {rm : Room} {av : List Value} {wc : va_W} {sz mc ms : Nat} {sa : Nat → Nat} {pe : String → Prop} {cc : ByteArray} {maxL : Nat} {ret : Option FieldType} {post : S → Prop} {w1 : S → va_W} (hy : plainName y.cls = true) (hw : ws = Cond.code y cc maxL ret :: ws') (hlen : (lg_sl av).length ≤ maxL)
    (body : ∀ (p : Program) (e : Env) (s : State) (m : MethodId) (below : List Frame) (meth : Method) (c : Code) (A : Nat → Prop) (ls : Array Slot), zE D tys ws y cc maxL ret av wc p s m meth c A ls → thV sa s → thH A s s.heap → (∀ x ∈ c.exceptionTable.toList, False) → W p l e rm s m av.toArray below meth c s.heap [] 0 0 (vx_MQ below (zQv D tys A post w1) (zX D tys A wc pe) av.toArray s mc ms A) (F0 m 0 ls [])) :
    vx_Met l y ws rm (zPx D tys av wc sz sa) (zQv D tys (va_A wc sz) post w1) (zX D tys (va_A wc sz) wc pe) mc ms (va_A wc sz) := by
  refine vx_ofW (cc := cc) (maxL := maxL) (ret := ret) hy hw ?_
  intro p e s m args below meth c s₁ B hml hT hv
  obtain ⟨rfl, hsz, hP, hK, hD0, hV, hH⟩ := hv
  subst hsz
  rw [lg_entry_eq]
  exact body p e s m below meth c (va_A wc s.heap.size) _ ⟨B.exec, B.bytes, B.returns, atoms_spec (ws := ws) B.pre, findClass_of_methodNamed B.named, B.notSynchronized, hml, (name_of_methodNamed B.named B.method).1, hP, hK, hD0.self (sz := s.heap.size), fun q h => Or.inr h, va_S.rf, lv_entry av hlen⟩ hV hH hT
theorem zNr {S : Type} {l : Launch} {D : va_G} {tys : List (ClassId × FieldType)} {y : MethodName} {ws ws' : List Cond} {rm : Room} {av : List Value} {wc : va_W} {sz mc ms : Nat} {sa : Nat → Nat} {pe : String → Prop} {cc : ByteArray} {maxL : Nat} {ret : Option FieldType} {post : Nat → S → Prop} {w1 : S → va_W} (hy : plainName y.cls = true) (hw : ws = Cond.code y cc maxL ret :: ws') (hlen : (lg_sl av).length ≤ maxL)
    (body : ∀ (p : Program) (e : Env) (s : State) (m : MethodId) (below : List Frame) (meth : Method) (c : Code) (A : Nat → Prop) (ls : Array Slot), zE D tys ws y cc maxL ret av wc p s m meth c A ls → thV sa s → thH A s s.heap → (∀ x ∈ c.exceptionTable.toList, False) → W p l e rm s m av.toArray below meth c s.heap [] 0 0 (vx_MQ below (zQr D tys A post w1) (zX D tys A wc pe) av.toArray s mc ms A) (F0 m 0 ls [])) :
    vx_Met l y ws rm (zPx D tys av wc sz sa) (zQr D tys (va_A wc sz) post w1) (zX D tys (va_A wc sz) wc pe) mc ms (va_A wc sz) := by
  refine vx_ofW (cc := cc) (maxL := maxL) (ret := ret) hy hw ?_
  intro p e s m args below meth c s₁ B hml hT hv
  obtain ⟨rfl, hsz, hP, hK, hD0, hV, hH⟩ := hv
  subst hsz
  rw [lg_entry_eq]
  exact body p e s m below meth c (va_A wc s.heap.size) _ ⟨B.exec, B.bytes, B.returns, atoms_spec (ws := ws) B.pre, findClass_of_methodNamed B.named, B.notSynchronized, hml, (name_of_methodNamed B.named B.method).1, hP, hK, hD0.self (sz := s.heap.size), fun q h => Or.inr h, va_S.rf, lv_entry av hlen⟩ hV hH hT
theorem incF {n k : Int} {f : Int → Int} (h : incP n f) (hk : k ≤ n) : 0 < k → f 0 ≤ f (k - 1) := by
  intro hp
  obtain ⟨j, rfl⟩ : ∃ j : Nat, k = (j : Int) + 1 := ⟨(k - 1).toNat, by omega⟩
  rw [show (j : Int) + 1 - 1 = (j : Int) by omega]
  clear hp
  induction j with
  | zero => exact Int.le_refl _
  | succ j ih =>
    have h1 := ih (by omega)
    have h2 := h j (by omega) (by omega)
    have e : ((j + 1 : Nat) : Int) = (j : Int) + 1 := by omega
    rw [e]
    omega
theorem incL {n k : Int} {f : Int → Int} (h : incP n f) (h0 : 0 ≤ k) (hk : k < n) : f k ≤ f (n - 1) := by
  obtain ⟨j, hj⟩ : ∃ j : Nat, n - 1 = k + (j : Int) := ⟨(n - 1 - k).toNat, by omega⟩
  rw [hj]
  have key : ∀ i : Nat, k + (i : Int) < n → f k ≤ f (k + (i : Int)) := by
    intro i
    induction i with
    | zero => intro _; rw [show k + ((0 : Nat) : Int) = k by omega]; exact Int.le_refl _
    | succ i ih =>
      intro w
      have h1 := ih (by omega)
      have h2 := h (k + (i : Int)) (by omega) (by omega)
      rw [show k + ((i + 1 : Nat) : Int) = k + (i : Int) + 1 by omega]
      omega
  exact key j (by omega)
