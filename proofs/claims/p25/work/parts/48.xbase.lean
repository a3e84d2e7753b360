/-! XBASE: rows for methods that throw -/
def txX8 : List (Nat × String) := [(67, "the effect is none of HIT to TURN"), (72, "the number is not 1 to 9"), (80, "there are 20 kinds"), (105, "many is not 1 to 9"), (111, "days is not 1 to 100"), (116, "the day would be above 1000"), (118, "the card is not in the collection"), (124, "the card is banned"), (129, "there are 6 plays on the stack"), (144, "the stack is empty"), (150, "the doing is refused"), (172, "the deck has 8 cards"), (177, "the deck has as many of the kind as it may"), (186, "players is not 2 to 6"), (188, "cards is not 3 to 6"), (191, "x is not 0 to 65536"), (193, "there are no kinds"), (200, "the place is below 0"), (213, "no draft goes on"), (215, "the pack has not so many cards"), (223, "both kinds are the same"), (229, "the place is not 0 to 5"), (242, "in is not 0 to 63"), (247, "both players are the same"), (254, "there is no such player"), (256, "there is no such kind"), (258, "the day is not today to 1000")]
def wThr (A : Nat → Prop) (U : State) : Prop := vx_Zq Bundle.tN "UNASSIGNED_STACK" Bundle.steD A U U.heap ∧ vx_Zq Bundle.tN "SUPPRESSED_SENTINEL" Bundle.listD A U U.heap ∧ (∀ q ∈ txX8, ∃ a : Nat, vk_R RX8 q.1 q.2 a U) ∧ (∀ E ∈ ["java/lang/IllegalArgumentException", "java/lang/IllegalStateException", "java/lang/IndexOutOfBoundsException"], va_Nw (.castable E E) U) ∧ ∀ X ∈ ["java/lang/RuntimeException", "java/lang/Exception", "java/lang/Throwable"], va_Nw (.declares (Bundle.initS X)) U
def xBw (cls : String) : List Cond := [.castable cls cls, .declares (Bundle.initS "java/lang/RuntimeException"), .declares (Bundle.initS "java/lang/Exception"), .declares (Bundle.initS "java/lang/Throwable")]
theorem wThr.to {A A' : Nat → Prop} {s U : State} {H : Heap} {locs : List Loc} (h : wThr A s) (hS : va_S A s.heap H locs) (hU : U.heap = H) (hW : s.WarmedH U.vm) (hAB : ∀ q, A' q → A q) : wThr A' U := by
  obtain ⟨h1, h2, h3, h4, h5⟩ := h
  have k : ∀ a : Nat, a < s.heap.size → ¬ A a → H[a]? = s.heap[a]? := hS.2.1
  refine ⟨?_, ?_, fun q hq => ?_, fun E hE => va_Nw.warmC hW (h4 E hE), fun X hX => va_Nw.warmD hW (h5 X hX)⟩
  · rw [hU]
    exact (vx_Zq.moved hW.alike (h1.kept k)).narrow hAB
  · rw [hU]
    exact (vx_Zq.moved hW.alike (h2.kept k)).narrow hAB
  · obtain ⟨a, ha⟩ := h3 q hq
    exact ⟨a, vk_R.warm hW ha⟩
theorem wThr.calling {A : Nat → Prop} {U : State} (h : wThr A U) (g : JFrame) (mk : MethodId) (a : Array Value) : wThr A (U.calling g mk a) := by
  obtain ⟨h1, h2, h3, h4, h5⟩ := h
  refine ⟨vx_Zq.moved (u := U) (U := U.calling g mk a) (Vm.Alike.refl U.vm) h1, vx_Zq.moved (u := U) (U := U.calling g mk a) (Vm.Alike.refl U.vm) h2, fun q hq => ?_, fun E hE => va_Nw.warmC (s := U) (U := U.calling g mk a) (State.WarmedH.refl U) (h4 E hE), fun X hX => va_Nw.warmD (s := U) (U := U.calling g mk a) (State.WarmedH.refl U) (h5 X hX)⟩
  obtain ⟨b, hb⟩ := h3 q hq
  exact ⟨b, vk_R.warm (s := U) (U := U.calling g mk a) (State.WarmedH.refl U) hb⟩
def wXPc (av : List Value) (D : va_G) (tys : List (ClassId × FieldType)) (sz : Nat) (ws : va_W) : Array Value → State → Prop := va_Pc av (fun U => U.heap.size = sz ∧ va_P D vwCl ws U.heap ∧ va_K D vwCl tys U ∧ va_D (fun _ => True) ws ∧ wThr (va_A ws sz) U)
theorem wXPc_blind {av : List Value} {D : va_G} {tys : List (ClassId × FieldType)} {sz : Nat} {ws : va_W} : FrameBlind (wXPc av D tys sz ws) := fun a U g mk q => by
  obtain ⟨q0, q1, qP, qK, qD, qT⟩ := q
  exact ⟨q0, q1, qP, va_K.moved (u := U) (U := U.calling g mk a) (Vm.Alike.refl U.vm) qK, qD, qT.calling g mk a⟩
def wXQv {M : Type} (o : (Unit × M) ⊕ (String × M)) (wf : M → va_W) (D : va_G) (A : Nat → Prop) : Array Value → State → Outcome → State → Prop := va_Qv (fun u : M => o = .inl ((), u)) (fun u t => va_P D vwCl (wf u) t.heap ∧ va_D A (wf u)) A
def wXQi {M : Type} (o : (Int32 × M) ⊕ (String × M)) (wf : M → va_W) (D : va_G) (A : Nat → Prop) : Array Value → State → Outcome → State → Prop := va_Qi (fun (r : Int32) (u : M) => o = .inl (r, u)) (fun u t => va_P D vwCl (wf u) t.heap ∧ va_D A (wf u)) A
def wXQz {M : Type} (o : (Int32 × M) ⊕ (String × M)) (wf : M → va_W) (D : va_G) (A : Nat → Prop) : Array Value → State → Outcome → State → Prop := va_Qi (fun (r : Int32) (u : M) => o = .inl (r, u) ∧ wB r) (fun u t => va_P D vwCl (wf u) t.heap ∧ va_D A (wf u)) A
def wXX {R M : Type} (o : (R × M) ⊕ (String × M)) (wf : M → va_W) (D : va_G) (A : Nat → Prop) : String → State → State → Prop := vx_X (fun _ : M => True) (fun E u t => o = .inr (E, u) ∧ va_P D vwCl (wf u) t.heap ∧ va_D A (wf u)) A
theorem xb_IAE : ∀ w ∈ (vx_atS RX8 69 "java/lang/IllegalArgumentException" ["java/lang/RuntimeException", "java/lang/Exception"]).filter (fun w => !goodWord w), w ∈ xBw "java/lang/IllegalArgumentException" := by decide +kernel
theorem xg_IAE : ∀ w ∈ Cond.classLink RX8 65 "java/lang/IllegalArgumentException" :: Cond.initialized "java/lang/IllegalArgumentException" :: vx_atS RX8 69 "java/lang/IllegalArgumentException" ["java/lang/RuntimeException", "java/lang/Exception"], vx_ot w = true := by decide +kernel
theorem xb_ISE : ∀ w ∈ (vx_atS RX8 82 "java/lang/IllegalStateException" ["java/lang/RuntimeException", "java/lang/Exception"]).filter (fun w => !goodWord w), w ∈ xBw "java/lang/IllegalStateException" := by decide +kernel
theorem xg_ISE : ∀ w ∈ Cond.classLink RX8 78 "java/lang/IllegalStateException" :: Cond.initialized "java/lang/IllegalStateException" :: vx_atS RX8 82 "java/lang/IllegalStateException" ["java/lang/RuntimeException", "java/lang/Exception"], vx_ot w = true := by decide +kernel
theorem xb_IOB : ∀ w ∈ (vx_atS RX8 202 "java/lang/IndexOutOfBoundsException" ["java/lang/RuntimeException", "java/lang/Exception"]).filter (fun w => !goodWord w), w ∈ xBw "java/lang/IndexOutOfBoundsException" := by decide +kernel
theorem xg_IOB : ∀ w ∈ Cond.classLink RX8 198 "java/lang/IndexOutOfBoundsException" :: Cond.initialized "java/lang/IndexOutOfBoundsException" :: vx_atS RX8 202 "java/lang/IndexOutOfBoundsException" ["java/lang/RuntimeException", "java/lang/Exception"], vx_ot w = true := by decide +kernel
section WXR
variable {p : Program} {l : Launch} {e : Env} {R : Room} {s : State} {m : MethodId} {args : Array Value} {below : List Frame} {meth : Method} {c : Code} {H : Heap} {locs : List Loc} {cells slots : Nat} {Q : State → Prop}
variable {cc : ByteArray} {pc : Nat} {ls : Array Slot} {rest : List Value} {D : va_G} {cl : List vw_C} {A : Nat → Prop} {a : Nat} {tys : List (ClassId × FieldType)} {ws : va_W} {H0 : Heap}
theorem w_preXV {wc : va_W} {C : String} {b : Nat} {As : List Value} (hK : va_K D vwCl tys s) (hPc : va_P D vwCl wc H) (hDc : va_D A wc) (hT : wThr A s) (hS : va_S A s.heap H locs) (hAB : ∀ q, va_A wc H.size q → A q) (q0 ci : Nat) {fs : List Value} {qc : vw_C} (hq : wc[q0]? = some (b, .inr (ci, fs))) (hcl : vwCl[ci]? = some qc) (hqC : qc.1 = C) : PreV s H C b (wXPc (.ref b :: As) D tys H.size wc) As := by
  subst hqC
  exact ⟨wXPc_blind, va_recv hK hPc hcl hq, fun U hU hW => ⟨rfl, by rw [hU], by rw [hU]; exact hPc, va_K.moved hW.alike hK, hDc.weaken (fun _ _ _ _ => trivial), hT.to hS hU hW hAB⟩⟩
theorem w_preXS {wc : va_W} {As : List Value} (hK : va_K D vwCl tys s) (hPc : va_P D vwCl wc H) (hDc : va_D A wc) (hT : wThr A s) (hS : va_S A s.heap H locs) (hAB : ∀ q, va_A wc H.size q → A q) : PreS s H (wXPc As D tys H.size wc) As :=
  ⟨wXPc_blind, fun U hU hW => ⟨rfl, by rw [hU], by rw [hU]; exact hPc, va_K.moved hW.alike hK, hDc.weaken (fun _ _ _ _ => trivial), hT.to hS hU hW hAB⟩⟩
theorem wThr.xbw {A : Nat → Prop} {cls : String} (hT : wThr A s) (hE : cls ∈ ["java/lang/IllegalArgumentException", "java/lang/IllegalStateException", "java/lang/IndexOutOfBoundsException"]) : ∀ w ∈ xBw cls, w.before args s = true := by
  intro w hw
  have h : w.onTables = true ∧ va_Nw w s := by
    simp only [xBw, List.mem_cons, List.not_mem_nil, or_false] at hw
    rcases hw with rfl | rfl | rfl | rfl
    · exact ⟨rfl, hT.2.2.2.1 cls hE⟩
    · exact ⟨rfl, hT.2.2.2.2 _ (by decide)⟩
    · exact ⟨rfl, hT.2.2.2.2 _ (by decide)⟩
    · exact ⟨rfl, hT.2.2.2.2 _ (by decide)⟩
  exact va_tabs h.1 rfl h.2
theorem w_keepP {wc : va_W} {H1 : Heap} (hP : va_P D vwCl ws H) (h : ∀ q : Nat, q < H.size → H1[q]? = H[q]?) : va_P D vwCl ws H1 := fun k q hq => (hP k q hq).kept (h _ (hP k q hq).lt)
theorem w_keep0 {H1 : Heap} (hP : va_P D vwCl ws H) (hk1 : ∀ q : Nat, q < H.size → ¬ va_A [] H.size q → H1[q]? = H[q]?) : va_P D vwCl ws H1 := fun k q hq => (hP k q hq).kept (hk1 _ (hP k q hq).lt (fun h => by
  rcases h with ⟨k, e, h⟩ | h
  · simp at h
  · exact absurd (hP _ q hq).lt (Nat.not_lt.mpr h)))
theorem w_free0 (hS : va_S A s.heap H locs) (hA : ∀ q, s.heap.size ≤ q → A q) : ∀ q : Nat, va_A [] H.size q → A q := fun q h => by
  rcases h with ⟨k, e, h⟩ | h
  · simp at h
  · exact hA q (Nat.le_trans hS.1 h)
/-- the end of a method that throws by itself -/
theorem w_throwS {M RT : Type} {wf : M → va_W} {u0 : M} {Qc : Array Value → State → Outcome → State → Prop} {cls text : String} {names : List String} {ik is ic mc ms : Nat} {own : String} (hexec : p.tables.exec = Jvm.exec) (hb : c.code = cc) (hl : l.stackTraces = false)
    (hown : s.vm.findClass RX8 = some m.cls) (hcls : Bundle.fit cls = true) (hnames : ∀ n ∈ names, Bundle.fit n = true) (hk : (Cond.classLink RX8 ik cls).before args s = true) (hini : (Cond.initialized cls).before args s = true) (hT : wThr A s) (htx : (is, text) ∈ txX8)
    (hg1 : ∀ w ∈ (vx_atS RX8 ic cls names).filter goodWord, w.before args s = true) (hE : cls ∈ ["java/lang/IllegalArgumentException", "java/lang/IllegalStateException", "java/lang/IndexOutOfBoundsException"]) (hxb : ∀ w ∈ (vx_atS RX8 ic cls names).filter (fun w => !goodWord w), w ∈ xBw cls)
    (hgood : ∀ w ∈ Cond.classLink RX8 ik cls :: Cond.initialized cls :: vx_atS RX8 ic cls names, vx_ot w = true) (hsize : ls.size = c.maxLocals) (hnot : ∀ x ∈ c.exceptionTable.toList, False) (hlocks : meth.locks = false)
    (d0 : decode cc pc = .ok (.new ik, 3)) (d3 : decode cc (pc + 3) = .ok (.dup, 1)) (d4 : decode cc (pc + 4) = .ok (.ldc is, 2)) (d6 : decode cc (pc + 6) = .ok (.invokespecial ic, 3)) (d9 : decode cc (pc + 9) = .ok (.athrow, 1))
    (hRframes : names.length + 3 < R.frames) (hRlocals : (rest.map fun v => v.category).sum + (13 * (names.length + 1) + 43) ≤ R.locals) (hRcells : cells + 1 ≤ R.cells) (hRslots : slots + 6 ≤ R.slots) (hc : cells + 1 ≤ mc) (hs : slots + 6 ≤ ms)
    (hP : va_P D vwCl (wf u0) H) (hD : va_D A (wf u0)) (hS : va_S A s.heap H locs) :
    W p l e R s m args below meth c H locs cells slots (vx_MQ below Qc (wXX (R := RT) (.inr (cls, u0)) wf D A) args s mc ms A) (F0 m pc ls rest) := by
  obtain ⟨sa, hstr⟩ := hT.2.2.1 _ htx
  refine vx_throwS (A := A) (names := names) (ik := ik) (is := is) (ic := ic) hexec hb hl hown hcls hnames hk hini hstr (vx_hat (B := xBw cls) hg1 hxb (wThr.xbw hT hE)) hgood hT.1 hT.2.1 hS hsize d0 d3 d4 d6 d9 (fun x hx => absurd (hnot x hx) id) hRframes hRlocals hRcells hRslots hlocks (fun t hvm hz hk => ⟨u0, trivial, ⟨rfl, w_keepP (wc := []) hP hk, hD⟩, ?_⟩) hS.2.2 hc hs
  exact ⟨Nat.le_trans hS.1 hz, fun q h1 h2 => by rw [hk q (Nat.lt_of_lt_of_le h1 hS.1)]; exact hS.2.1 q h1 h2⟩
theorem w_throwSW {M RT : Type} {wf : M → va_W} {u0 : M} {Qc : Array Value → State → Outcome → State → Prop} {cls text : String} {names : List String} {ik is ic mc ms : Nat} {own : String} (hexec : p.tables.exec = Jvm.exec) (hb : c.code = cc) (hl : l.stackTraces = false)
    (hown : s.vm.findClass RX8 = some m.cls) (hcls : Bundle.fit cls = true) (hnames : ∀ n ∈ names, Bundle.fit n = true) (hk : (Cond.classLink RX8 ik cls).before args s = true) (hini : (Cond.initialized cls).before args s = true) (hT : wThr A s) (htx : (is, text) ∈ txX8)
    (hg1 : ∀ w ∈ (vx_atS RX8 ic cls names).filter goodWord, w.before args s = true) (hE : cls ∈ ["java/lang/IllegalArgumentException", "java/lang/IllegalStateException", "java/lang/IndexOutOfBoundsException"]) (hxb : ∀ w ∈ (vx_atS RX8 ic cls names).filter (fun w => !goodWord w), w ∈ xBw cls)
    (hgood : ∀ w ∈ Cond.classLink RX8 ik cls :: Cond.initialized cls :: vx_atS RX8 ic cls names, vx_ot w = true) (hsize : ls.size = c.maxLocals) (hnot : ∀ x ∈ c.exceptionTable.toList, False) (hlocks : meth.locks = false)
    (d0 : decode cc pc = .ok (.new ik, 3)) (d3 : decode cc (pc + 3) = .ok (.dup, 1)) (d4 : decode cc (pc + 4) = .ok (.ldc_w is, 3)) (d7 : decode cc (pc + 7) = .ok (.invokespecial ic, 3)) (d10 : decode cc (pc + 10) = .ok (.athrow, 1))
    (hRframes : names.length + 3 < R.frames) (hRlocals : (rest.map fun v => v.category).sum + (13 * (names.length + 1) + 43) ≤ R.locals) (hRcells : cells + 1 ≤ R.cells) (hRslots : slots + 6 ≤ R.slots) (hc : cells + 1 ≤ mc) (hs : slots + 6 ≤ ms)
    (hP : va_P D vwCl (wf u0) H) (hD : va_D A (wf u0)) (hS : va_S A s.heap H locs) :
    W p l e R s m args below meth c H locs cells slots (vx_MQ below Qc (wXX (R := RT) (.inr (cls, u0)) wf D A) args s mc ms A) (F0 m pc ls rest) := by
  obtain ⟨sa, hstr⟩ := hT.2.2.1 _ htx
  refine vx_throwSW (A := A) (names := names) (ik := ik) (is := is) (ic := ic) hexec hb hl hown hcls hnames hk hini hstr (vx_hat (B := xBw cls) hg1 hxb (wThr.xbw hT hE)) hgood hT.1 hT.2.1 hS hsize d0 d3 d4 d7 d10 (fun x hx => absurd (hnot x hx) id) hRframes hRlocals hRcells hRslots hlocks (fun t hvm hz hk => ⟨u0, trivial, ⟨rfl, w_keepP (wc := []) hP hk, hD⟩, ?_⟩) hS.2.2 hc hs
  exact ⟨Nat.le_trans hS.1 hz, fun q h1 h2 => by rw [hk q (Nat.lt_of_lt_of_le h1 hS.1)]; exact hS.2.1 q h1 h2⟩
/-- .. that lets through what a callee threw -/
theorem w_xout {M RT : Type} {wf : M → va_W} {u0 : M} {Qc : Array Value → State → Outcome → State → Prop} {E : String} {ce : Cell} {q : Addr} {mc ms : Nat} (hnot : ∀ x ∈ c.exceptionTable.toList, False) (hlocks : meth.locks = false) (hcell : H[q]? = some ce) (hv : ce.vm = .none) (hcl : s.vm.findClass E = some ce.cls)
    (hP : va_P D vwCl (wf u0) H) (hD : va_D A (wf u0)) (hS : va_S A s.heap H locs) (hc : cells ≤ mc) (hs : slots ≤ ms) : vx_W p l e R s m args below meth c H locs cells slots (vx_MQ below Qc (wXX (R := RT) (.inr (E, u0)) wf D A) args s mc ms A) (F0 m pc ls rest) q :=
  vx_out (fun x hx => absurd (hnot x hx) id) hlocks hcell hv hcl (fun t ht hvm => ⟨u0, trivial, ⟨rfl, by rw [ht]; exact hP, hD⟩, hS.F ht⟩) hS.2.2 hc hs
theorem w_xvret {M : Type} {wf : M → va_W} {u0 : M} {XC : String → State → State → Prop} {mc ms : Nat} (hexec : p.tables.exec = Jvm.exec) (hb : c.code = cc) (hr : meth.sig.returnType = none) (hlocks : meth.locks = false) (hP : va_P D vwCl (wf u0) H) (hD : va_D A (wf u0)) (hS : va_S A s.heap H locs) (hc : cells ≤ mc) (hs : slots ≤ ms) (hdg : decode cc pc = .ok (.return_, 1)) : W p l e R s m args below meth c H locs cells slots (vx_MQ below (wXQv (.inl ((), u0)) wf D A) XC args s mc ms A) (F0 m pc ls []) :=
  vx_ret (W.widen hc hs (W.vret hexec hb hr (fun t ht hW => ⟨⟨u0, rfl, rfl, by rw [ht]; exact hP, hD⟩, hS.F ht⟩) hS.2.2 hdg hlocks))
theorem w_xiret {M : Type} {wf : M → va_W} {u0 : M} {v : Int32} {XC : String → State → State → Prop} {mc ms : Nat} (hexec : p.tables.exec = Jvm.exec) (hb : c.code = cc) (hr : meth.sig.returnType = some .int) (hlocks : meth.locks = false) (hP : va_P D vwCl (wf u0) H) (hD : va_D A (wf u0)) (hS : va_S A s.heap H locs) (hc : cells ≤ mc) (hs : slots ≤ ms) (hdg : decode cc pc = .ok (.ireturn, 1)) : W p l e R s m args below meth c H locs cells slots (vx_MQ below (wXQi (.inl (v, u0)) wf D A) XC args s mc ms A) (F0 m pc ls [.int v]) :=
  vx_ret (W.widen hc hs (W.iret (v := v) hexec hb hr (fun t ht hW => ⟨⟨v, u0, rfl, rfl, by rw [ht]; exact hP, hD⟩, hS.F ht⟩) hS.2.2 hdg hlocks))
theorem w_xzret {M : Type} {wf : M → va_W} {u0 : M} {v : Int32} {XC : String → State → State → Prop} {mc ms : Nat} (hexec : p.tables.exec = Jvm.exec) (hb : c.code = cc) (hr : meth.sig.returnType = some .boolean) (hlocks : meth.locks = false) (hw : wB v) (hP : va_P D vwCl (wf u0) H) (hD : va_D A (wf u0)) (hS : va_S A s.heap H locs) (hc : cells ≤ mc) (hs : slots ≤ ms) (hdg : decode cc pc = .ok (.ireturn, 1)) : W p l e R s m args below meth c H locs cells slots (vx_MQ below (wXQz (.inl (v, u0)) wf D A) XC args s mc ms A) (F0 m pc ls [.int v]) :=
  vx_ret (W.widen hc hs (W.zret (v := v) hexec hb hr (wB_n hw) (fun t ht hW => ⟨⟨v, u0, rfl, ⟨rfl, hw⟩, by rw [ht]; exact hP, hD⟩, hS.F ht⟩) hS.2.2 hdg hlocks))
theorem w_callXVv_ok {y : MethodName} {bytes : ByteArray} {maxL nL n index mc ms : Nat} {ret : Option FieldType} {wsy : List Cond} {rm : Room} {Ts : List Cond} {As st : List Value} {own C : String} {b : Nat} {wc wr ws1 : va_W} {M : Type} {wf : M → va_W} {u0 : M} 
    (S : CallFix p m c cc nL s args Ts own) (hM : vx_Met l y wsy rm (wXPc (.ref b :: As) D tys H.size wc) (wXQv (M := M) (.inl ((), u0)) wf D (va_A wc H.size)) (wXX (R := Unit) (.inl ((), u0)) wf D (va_A wc H.size)) mc ms (va_A wc H.size)) (cw : CallW R s args own C index y bytes maxL ret wsy rm mc ms n) (hK : va_K D vwCl tys s) (q0 ci : Nat) {fs : List Value} {qc : vw_C} (hq : wc[q0]? = some (b, .inr (ci, fs))) (hcl : vwCl[ci]? = some qc) (hqC : qc.1 = C) (hP : va_P D vwCl ws H) (hD : va_D A ws) (hS : va_S A s.heap H locs) (hA : ∀ q, s.heap.size ≤ q → A q) (hT : wThr A s) (isC isR isN : List Nat) (hC : isC.map (fun i => ws[i]?) = wc.map some) (hnC : va_nd isC = true) (hR : isR.map (fun i => ws[i]?) = wr.map some) (hn : va_nd isR = true) (hdis : ∀ i ∈ isR, i ∉ isC) (hN : isN.map (fun i => (wr ++ wf u0)[i]?) = ws1.map some) (hnN : va_nd isN = true)
    (hlen : As.length = n) (hsize : ls.size = nL) (hst : st = As.reverse ++ .ref b :: rest) (hrest : (rest.map fun v => v.category).sum ≤ 8) (hdg : decode cc pc = .ok (.invokevirtual index, 3)) (hroom : cells + mc ≤ R.cells ∧ slots + ms ≤ R.slots)
    (kk : ∀ (H1 : Heap) (locs1 : List Loc), va_P D vwCl ws1 H1 → va_D A ws1 → va_S A s.heap H1 locs1 → W p l e R s m args below meth c H1 locs1 (cells + mc) (slots + ms) Q (F0 m (pc + 3) ls rest)) : W p l e R s m args below meth c H locs cells slots Q (F0 m pc ls st) := by
  subst hst
  have hPc := hP.sub isC (w_fm hC)
  have hDc := hD.sub isC hnC hC
  have hFc := va_free hD hS hA isC hC
  refine vx_callv (vx_runV S hM cw (w_preXV hK hPc hDc hT hS hFc q0 ci hq hcl hqC) rfl hlen hsize rfl (lv_room hrest) hdg hroom) hS (fun q _ h => hFc q h) hFc (fun q _ h => hFc q h) (fun E ce q9 u t H1 locs1 ht hvm hp hB hz hk1 hS1 hc1 hc2 hc3 => ?_) (fun u t H1 locs1 ht hvm hw hB hz1 hk1 hS1 => ?_)
  · exact absurd hB.1 (fun h => nomatch h)
  · cases hw
    obtain ⟨g1, g2⟩ := w_back hP hD hS hA isC isR isN hC hR hn hdis hN hnN ht hB hk1
    exact kk H1 locs1 g1 g2 hS1
theorem w_callXSv_ok {y : MethodName} {bytes : ByteArray} {maxL nL n index mc ms : Nat} {ret : Option FieldType} {wsy : List Cond} {rm : Room} {Ts : List Cond} {As st : List Value} {own : String} {u0 : Unit} 
    (S : CallFix p m c cc nL s args Ts own) (hM : vx_Met l y wsy rm (wXPc As D tys H.size []) (wXQv (M := Unit) (.inl ((), u0)) (fun _ => []) D (va_A [] H.size)) (wXX (R := Unit) (.inl ((), u0)) (fun _ => []) D (va_A [] H.size)) mc ms (va_A [] H.size)) (cw : CallB R s args own index y bytes maxL ret wsy rm mc ms n ∧ (Cond.static y).before args s = true) (hK : va_K D vwCl tys s) (hP : va_P D vwCl ws H) (hS : va_S A s.heap H locs) (hA : ∀ q, s.heap.size ≤ q → A q) (hT : wThr A s)
    (hlen : As.length = n) (hsize : ls.size = nL) (hst : st = As.reverse ++ rest) (hrest : (rest.map fun v => v.category).sum ≤ 8) (hdg : decode cc pc = .ok (.invokestatic index, 3)) (hroom : cells + mc ≤ R.cells ∧ slots + ms ≤ R.slots)
    (kk : ∀ (H1 : Heap) (locs1 : List Loc), va_P D vwCl ws H1 → va_S A s.heap H1 locs1 → W p l e R s m args below meth c H1 locs1 (cells + mc) (slots + ms) Q (F0 m (pc + 3) ls rest)) : W p l e R s m args below meth c H locs cells slots Q (F0 m pc ls st) := by
  subst hst
  have hP0 : va_P D vwCl ([] : va_W) H := fun k q h => by simp at h
  have hD0 : va_D A ([] : va_W) := ⟨fun i j p q h => by simp at h, fun k q h => by simp at h⟩
  have hFc := w_free0 hS hA
  refine vx_callv (vx_runS S hM cw (w_preXS hK hP0 hD0 hT hS hFc) rfl hlen hsize rfl (lv_room hrest) hdg hroom) hS (fun q _ h => hFc q h) hFc (fun q _ h => hFc q h) (fun E ce q9 u t H1 locs1 ht hvm hp hB hz hk1 hS1 hc1 hc2 hc3 => ?_) (fun u t H1 locs1 ht hvm hw hB hz1 hk1 hS1 => ?_)
  · exact absurd hB.1 (fun h => nomatch h)
  · cases hw
    exact kk H1 locs1 (w_keep0 hP hk1) hS1
theorem w_callXVv_thr {y : MethodName} {bytes : ByteArray} {maxL nL n index mc ms : Nat} {ret : Option FieldType} {wsy : List Cond} {rm : Room} {Ts : List Cond} {As st : List Value} {own C : String} {b : Nat} {wc wr ws1 : va_W} {M : Type} {wf : M → va_W} {u0 : M} {E0 : String}
    (S : CallFix p m c cc nL s args Ts own) (hM : vx_Met l y wsy rm (wXPc (.ref b :: As) D tys H.size wc) (wXQv (M := M) (.inr (E0, u0)) wf D (va_A wc H.size)) (wXX (R := Unit) (.inr (E0, u0)) wf D (va_A wc H.size)) mc ms (va_A wc H.size)) (cw : CallW R s args own C index y bytes maxL ret wsy rm mc ms n) (hK : va_K D vwCl tys s) (q0 ci : Nat) {fs : List Value} {qc : vw_C} (hq : wc[q0]? = some (b, .inr (ci, fs))) (hcl : vwCl[ci]? = some qc) (hqC : qc.1 = C) (hP : va_P D vwCl ws H) (hD : va_D A ws) (hS : va_S A s.heap H locs) (hA : ∀ q, s.heap.size ≤ q → A q) (hT : wThr A s) (isC isR isN : List Nat) (hC : isC.map (fun i => ws[i]?) = wc.map some) (hnC : va_nd isC = true) (hR : isR.map (fun i => ws[i]?) = wr.map some) (hn : va_nd isR = true) (hdis : ∀ i ∈ isR, i ∉ isC) (hN : isN.map (fun i => (wr ++ wf u0)[i]?) = ws1.map some) (hnN : va_nd isN = true)
    (hlen : As.length = n) (hsize : ls.size = nL) (hst : st = As.reverse ++ .ref b :: rest) (hrest : (rest.map fun v => v.category).sum ≤ 8) (hdg : decode cc pc = .ok (.invokevirtual index, 3)) (hroom : cells + mc ≤ R.cells ∧ slots + ms ≤ R.slots)
    (kk : ∀ (ce : Cell) (q9 : Addr) (H1 : Heap) (locs1 : List Loc), va_P D vwCl ws1 H1 → va_D A ws1 → va_S A s.heap H1 locs1 → H1[q9]? = some ce → ce.vm = .none → s.vm.findClass E0 = some ce.cls → vx_W p l e R s m args below meth c H1 locs1 (cells + mc) (slots + ms) Q (F0 m pc ls rest) q9) : W p l e R s m args below meth c H locs cells slots Q (F0 m pc ls st) := by
  subst hst
  have hPc := hP.sub isC (w_fm hC)
  have hDc := hD.sub isC hnC hC
  have hFc := va_free hD hS hA isC hC
  refine vx_callv (vx_runV S hM cw (w_preXV hK hPc hDc hT hS hFc q0 ci hq hcl hqC) rfl hlen hsize rfl (lv_room hrest) hdg hroom) hS (fun q _ h => hFc q h) hFc (fun q _ h => hFc q h) (fun E ce q9 u t H1 locs1 ht hvm hp hB hz hk1 hS1 hc1 hc2 hc3 => ?_) (fun u t H1 locs1 ht hvm hw hB hz1 hk1 hS1 => ?_)
  · obtain ⟨he, hB⟩ := hB
    cases he
    obtain ⟨g1, g2⟩ := w_back hP hD hS hA isC isR isN hC hR hn hdis hN hnN ht hB hk1
    exact kk ce q9 H1 locs1 g1 g2 hS1 hc1 hc2 hc3
  · exact absurd hw (fun h => nomatch h)
theorem w_callXSv_thr {y : MethodName} {bytes : ByteArray} {maxL nL n index mc ms : Nat} {ret : Option FieldType} {wsy : List Cond} {rm : Room} {Ts : List Cond} {As st : List Value} {own : String} {u0 : Unit} {E0 : String}
    (S : CallFix p m c cc nL s args Ts own) (hM : vx_Met l y wsy rm (wXPc As D tys H.size []) (wXQv (M := Unit) (.inr (E0, u0)) (fun _ => []) D (va_A [] H.size)) (wXX (R := Unit) (.inr (E0, u0)) (fun _ => []) D (va_A [] H.size)) mc ms (va_A [] H.size)) (cw : CallB R s args own index y bytes maxL ret wsy rm mc ms n ∧ (Cond.static y).before args s = true) (hK : va_K D vwCl tys s) (hP : va_P D vwCl ws H) (hS : va_S A s.heap H locs) (hA : ∀ q, s.heap.size ≤ q → A q) (hT : wThr A s)
    (hlen : As.length = n) (hsize : ls.size = nL) (hst : st = As.reverse ++ rest) (hrest : (rest.map fun v => v.category).sum ≤ 8) (hdg : decode cc pc = .ok (.invokestatic index, 3)) (hroom : cells + mc ≤ R.cells ∧ slots + ms ≤ R.slots)
    (kk : ∀ (ce : Cell) (q9 : Addr) (H1 : Heap) (locs1 : List Loc), va_P D vwCl ws H1 → va_S A s.heap H1 locs1 → H1[q9]? = some ce → ce.vm = .none → s.vm.findClass E0 = some ce.cls → vx_W p l e R s m args below meth c H1 locs1 (cells + mc) (slots + ms) Q (F0 m pc ls rest) q9) : W p l e R s m args below meth c H locs cells slots Q (F0 m pc ls st) := by
  subst hst
  have hP0 : va_P D vwCl ([] : va_W) H := fun k q h => by simp at h
  have hD0 : va_D A ([] : va_W) := ⟨fun i j p q h => by simp at h, fun k q h => by simp at h⟩
  have hFc := w_free0 hS hA
  refine vx_callv (vx_runS S hM cw (w_preXS hK hP0 hD0 hT hS hFc) rfl hlen hsize rfl (lv_room hrest) hdg hroom) hS (fun q _ h => hFc q h) hFc (fun q _ h => hFc q h) (fun E ce q9 u t H1 locs1 ht hvm hp hB hz hk1 hS1 hc1 hc2 hc3 => ?_) (fun u t H1 locs1 ht hvm hw hB hz1 hk1 hS1 => ?_)
  · obtain ⟨he, hB⟩ := hB
    cases he
    exact kk ce q9 H1 locs1 (w_keep0 hP hk1) hS1 hc1 hc2 hc3
  · exact absurd hw (fun h => nomatch h)
theorem w_callXVi_ok {y : MethodName} {bytes : ByteArray} {maxL nL n index mc ms : Nat} {ret : Option FieldType} {wsy : List Cond} {rm : Room} {Ts : List Cond} {As st : List Value} {own C : String} {b : Nat} {wc wr ws1 : va_W} {M : Type} {wf : M → va_W} {u0 : M} {r0 : Int32}
    (S : CallFix p m c cc nL s args Ts own) (hM : vx_Met l y wsy rm (wXPc (.ref b :: As) D tys H.size wc) (wXQi (M := M) (.inl (r0, u0)) wf D (va_A wc H.size)) (wXX (R := Int32) (.inl (r0, u0)) wf D (va_A wc H.size)) mc ms (va_A wc H.size)) (cw : CallW R s args own C index y bytes maxL ret wsy rm mc ms n) (hK : va_K D vwCl tys s) (q0 ci : Nat) {fs : List Value} {qc : vw_C} (hq : wc[q0]? = some (b, .inr (ci, fs))) (hcl : vwCl[ci]? = some qc) (hqC : qc.1 = C) (hP : va_P D vwCl ws H) (hD : va_D A ws) (hS : va_S A s.heap H locs) (hA : ∀ q, s.heap.size ≤ q → A q) (hT : wThr A s) (isC isR isN : List Nat) (hC : isC.map (fun i => ws[i]?) = wc.map some) (hnC : va_nd isC = true) (hR : isR.map (fun i => ws[i]?) = wr.map some) (hn : va_nd isR = true) (hdis : ∀ i ∈ isR, i ∉ isC) (hN : isN.map (fun i => (wr ++ wf u0)[i]?) = ws1.map some) (hnN : va_nd isN = true)
    (hlen : As.length = n) (hsize : ls.size = nL) (hst : st = As.reverse ++ .ref b :: rest) (hrest : (rest.map fun v => v.category).sum ≤ 8) (hdg : decode cc pc = .ok (.invokevirtual index, 3)) (hroom : cells + mc ≤ R.cells ∧ slots + ms ≤ R.slots)
    (kk : ∀ (H1 : Heap) (locs1 : List Loc), va_P D vwCl ws1 H1 → va_D A ws1 → va_S A s.heap H1 locs1 → W p l e R s m args below meth c H1 locs1 (cells + mc) (slots + ms) Q (F0 m (pc + 3) ls (.int r0 :: rest))) : W p l e R s m args below meth c H locs cells slots Q (F0 m pc ls st) := by
  subst hst
  have hPc := hP.sub isC (w_fm hC)
  have hDc := hD.sub isC hnC hC
  have hFc := va_free hD hS hA isC hC
  refine vx_calli (vx_runV S hM cw (w_preXV hK hPc hDc hT hS hFc q0 ci hq hcl hqC) rfl hlen hsize rfl (lv_room hrest) hdg hroom) hS (fun q _ h => hFc q h) hFc (fun q _ h => hFc q h) (fun E ce q9 u t H1 locs1 ht hvm hp hB hz hk1 hS1 hc1 hc2 hc3 => ?_) (fun r_2 u t H1 locs1 ht hvm hw hB hz1 hk1 hS1 => ?_)
  · exact absurd hB.1 (fun h => nomatch h)
  · cases hw
    obtain ⟨g1, g2⟩ := w_back hP hD hS hA isC isR isN hC hR hn hdis hN hnN ht hB hk1
    exact kk H1 locs1 g1 g2 hS1
theorem w_callXVi_thr {y : MethodName} {bytes : ByteArray} {maxL nL n index mc ms : Nat} {ret : Option FieldType} {wsy : List Cond} {rm : Room} {Ts : List Cond} {As st : List Value} {own C : String} {b : Nat} {wc wr ws1 : va_W} {M : Type} {wf : M → va_W} {u0 : M} {E0 : String}
    (S : CallFix p m c cc nL s args Ts own) (hM : vx_Met l y wsy rm (wXPc (.ref b :: As) D tys H.size wc) (wXQi (M := M) (.inr (E0, u0)) wf D (va_A wc H.size)) (wXX (R := Int32) (.inr (E0, u0)) wf D (va_A wc H.size)) mc ms (va_A wc H.size)) (cw : CallW R s args own C index y bytes maxL ret wsy rm mc ms n) (hK : va_K D vwCl tys s) (q0 ci : Nat) {fs : List Value} {qc : vw_C} (hq : wc[q0]? = some (b, .inr (ci, fs))) (hcl : vwCl[ci]? = some qc) (hqC : qc.1 = C) (hP : va_P D vwCl ws H) (hD : va_D A ws) (hS : va_S A s.heap H locs) (hA : ∀ q, s.heap.size ≤ q → A q) (hT : wThr A s) (isC isR isN : List Nat) (hC : isC.map (fun i => ws[i]?) = wc.map some) (hnC : va_nd isC = true) (hR : isR.map (fun i => ws[i]?) = wr.map some) (hn : va_nd isR = true) (hdis : ∀ i ∈ isR, i ∉ isC) (hN : isN.map (fun i => (wr ++ wf u0)[i]?) = ws1.map some) (hnN : va_nd isN = true)
    (hlen : As.length = n) (hsize : ls.size = nL) (hst : st = As.reverse ++ .ref b :: rest) (hrest : (rest.map fun v => v.category).sum ≤ 8) (hdg : decode cc pc = .ok (.invokevirtual index, 3)) (hroom : cells + mc ≤ R.cells ∧ slots + ms ≤ R.slots)
    (kk : ∀ (ce : Cell) (q9 : Addr) (H1 : Heap) (locs1 : List Loc), va_P D vwCl ws1 H1 → va_D A ws1 → va_S A s.heap H1 locs1 → H1[q9]? = some ce → ce.vm = .none → s.vm.findClass E0 = some ce.cls → vx_W p l e R s m args below meth c H1 locs1 (cells + mc) (slots + ms) Q (F0 m pc ls rest) q9) : W p l e R s m args below meth c H locs cells slots Q (F0 m pc ls st) := by
  subst hst
  have hPc := hP.sub isC (w_fm hC)
  have hDc := hD.sub isC hnC hC
  have hFc := va_free hD hS hA isC hC
  refine vx_calli (vx_runV S hM cw (w_preXV hK hPc hDc hT hS hFc q0 ci hq hcl hqC) rfl hlen hsize rfl (lv_room hrest) hdg hroom) hS (fun q _ h => hFc q h) hFc (fun q _ h => hFc q h) (fun E ce q9 u t H1 locs1 ht hvm hp hB hz hk1 hS1 hc1 hc2 hc3 => ?_) (fun r_2 u t H1 locs1 ht hvm hw hB hz1 hk1 hS1 => ?_)
  · obtain ⟨he, hB⟩ := hB
    cases he
    obtain ⟨g1, g2⟩ := w_back hP hD hS hA isC isR isN hC hR hn hdis hN hnN ht hB hk1
    exact kk ce q9 H1 locs1 g1 g2 hS1 hc1 hc2 hc3
  · exact absurd hw (fun h => nomatch h)
theorem w_callXVz_ok {y : MethodName} {bytes : ByteArray} {maxL nL n index mc ms : Nat} {ret : Option FieldType} {wsy : List Cond} {rm : Room} {Ts : List Cond} {As st : List Value} {own C : String} {b : Nat} {wc wr ws1 : va_W} {M : Type} {wf : M → va_W} {u0 : M} {r0 : Int32}
    (S : CallFix p m c cc nL s args Ts own) (hM : vx_Met l y wsy rm (wXPc (.ref b :: As) D tys H.size wc) (wXQz (M := M) (.inl (r0, u0)) wf D (va_A wc H.size)) (wXX (R := Int32) (.inl (r0, u0)) wf D (va_A wc H.size)) mc ms (va_A wc H.size)) (cw : CallW R s args own C index y bytes maxL ret wsy rm mc ms n) (hK : va_K D vwCl tys s) (q0 ci : Nat) {fs : List Value} {qc : vw_C} (hq : wc[q0]? = some (b, .inr (ci, fs))) (hcl : vwCl[ci]? = some qc) (hqC : qc.1 = C) (hP : va_P D vwCl ws H) (hD : va_D A ws) (hS : va_S A s.heap H locs) (hA : ∀ q, s.heap.size ≤ q → A q) (hT : wThr A s) (isC isR isN : List Nat) (hC : isC.map (fun i => ws[i]?) = wc.map some) (hnC : va_nd isC = true) (hR : isR.map (fun i => ws[i]?) = wr.map some) (hn : va_nd isR = true) (hdis : ∀ i ∈ isR, i ∉ isC) (hN : isN.map (fun i => (wr ++ wf u0)[i]?) = ws1.map some) (hnN : va_nd isN = true)
    (hlen : As.length = n) (hsize : ls.size = nL) (hst : st = As.reverse ++ .ref b :: rest) (hrest : (rest.map fun v => v.category).sum ≤ 8) (hdg : decode cc pc = .ok (.invokevirtual index, 3)) (hroom : cells + mc ≤ R.cells ∧ slots + ms ≤ R.slots)
    (kk : wB r0 → ∀ (H1 : Heap) (locs1 : List Loc), va_P D vwCl ws1 H1 → va_D A ws1 → va_S A s.heap H1 locs1 → W p l e R s m args below meth c H1 locs1 (cells + mc) (slots + ms) Q (F0 m (pc + 3) ls (.int r0 :: rest))) : W p l e R s m args below meth c H locs cells slots Q (F0 m pc ls st) := by
  subst hst
  have hPc := hP.sub isC (w_fm hC)
  have hDc := hD.sub isC hnC hC
  have hFc := va_free hD hS hA isC hC
  refine vx_calli (vx_runV S hM cw (w_preXV hK hPc hDc hT hS hFc q0 ci hq hcl hqC) rfl hlen hsize rfl (lv_room hrest) hdg hroom) hS (fun q _ h => hFc q h) hFc (fun q _ h => hFc q h) (fun E ce q9 u t H1 locs1 ht hvm hp hB hz hk1 hS1 hc1 hc2 hc3 => ?_) (fun r_2 u t H1 locs1 ht hvm hw hB hz1 hk1 hS1 => ?_)
  · exact absurd hB.1 (fun h => nomatch h)
  · obtain ⟨hw, hwb⟩ := hw
    cases hw
    obtain ⟨g1, g2⟩ := w_back hP hD hS hA isC isR isN hC hR hn hdis hN hnN ht hB hk1
    exact kk hwb H1 locs1 g1 g2 hS1
theorem w_callXVz_thr {y : MethodName} {bytes : ByteArray} {maxL nL n index mc ms : Nat} {ret : Option FieldType} {wsy : List Cond} {rm : Room} {Ts : List Cond} {As st : List Value} {own C : String} {b : Nat} {wc wr ws1 : va_W} {M : Type} {wf : M → va_W} {u0 : M} {E0 : String}
    (S : CallFix p m c cc nL s args Ts own) (hM : vx_Met l y wsy rm (wXPc (.ref b :: As) D tys H.size wc) (wXQz (M := M) (.inr (E0, u0)) wf D (va_A wc H.size)) (wXX (R := Int32) (.inr (E0, u0)) wf D (va_A wc H.size)) mc ms (va_A wc H.size)) (cw : CallW R s args own C index y bytes maxL ret wsy rm mc ms n) (hK : va_K D vwCl tys s) (q0 ci : Nat) {fs : List Value} {qc : vw_C} (hq : wc[q0]? = some (b, .inr (ci, fs))) (hcl : vwCl[ci]? = some qc) (hqC : qc.1 = C) (hP : va_P D vwCl ws H) (hD : va_D A ws) (hS : va_S A s.heap H locs) (hA : ∀ q, s.heap.size ≤ q → A q) (hT : wThr A s) (isC isR isN : List Nat) (hC : isC.map (fun i => ws[i]?) = wc.map some) (hnC : va_nd isC = true) (hR : isR.map (fun i => ws[i]?) = wr.map some) (hn : va_nd isR = true) (hdis : ∀ i ∈ isR, i ∉ isC) (hN : isN.map (fun i => (wr ++ wf u0)[i]?) = ws1.map some) (hnN : va_nd isN = true)
    (hlen : As.length = n) (hsize : ls.size = nL) (hst : st = As.reverse ++ .ref b :: rest) (hrest : (rest.map fun v => v.category).sum ≤ 8) (hdg : decode cc pc = .ok (.invokevirtual index, 3)) (hroom : cells + mc ≤ R.cells ∧ slots + ms ≤ R.slots)
    (kk : ∀ (ce : Cell) (q9 : Addr) (H1 : Heap) (locs1 : List Loc), va_P D vwCl ws1 H1 → va_D A ws1 → va_S A s.heap H1 locs1 → H1[q9]? = some ce → ce.vm = .none → s.vm.findClass E0 = some ce.cls → vx_W p l e R s m args below meth c H1 locs1 (cells + mc) (slots + ms) Q (F0 m pc ls rest) q9) : W p l e R s m args below meth c H locs cells slots Q (F0 m pc ls st) := by
  subst hst
  have hPc := hP.sub isC (w_fm hC)
  have hDc := hD.sub isC hnC hC
  have hFc := va_free hD hS hA isC hC
  refine vx_calli (vx_runV S hM cw (w_preXV hK hPc hDc hT hS hFc q0 ci hq hcl hqC) rfl hlen hsize rfl (lv_room hrest) hdg hroom) hS (fun q _ h => hFc q h) hFc (fun q _ h => hFc q h) (fun E ce q9 u t H1 locs1 ht hvm hp hB hz hk1 hS1 hc1 hc2 hc3 => ?_) (fun r_2 u t H1 locs1 ht hvm hw hB hz1 hk1 hS1 => ?_)
  · obtain ⟨he, hB⟩ := hB
    cases he
    obtain ⟨g1, g2⟩ := w_back hP hD hS hA isC isR isN hC hR hn hdis hN hnN ht hB hk1
    exact kk ce q9 H1 locs1 g1 g2 hS1 hc1 hc2 hc3
  · exact absurd hw.1 (fun h => nomatch h)
end WXR
