/-! BASE: pure words that the printed functions are made of, and rows for calls, returns and grids over the kit's rows -/
def g_in (i : Int32) (n : Nat) : Bool := !(decide (i < 0) || decide (n ≤ i.toNatClampNeg))
theorem g_vp {i : Int32} {n : Nat} (h : g_in i n = true) : vp_in i n := by
  intro q
  rcases q with q | q <;> simp [g_in, q] at h
theorem g_lt {i : Int32} {n : Nat} (h : g_in i n = true) : i.toNatClampNeg < n := Nat.not_le.mp fun q => g_vp h (Or.inr q)
def ck {α : Type} (b : Bool) (k : Option α) : Option α := if b = true then k else none
theorem ck_s {α : Type} {b : Bool} {k : Option α} {o : α} (h : ck b k = some o) : b = true ∧ k = some o := by
  unfold ck at h
  by_cases hb : b = true
  · rw [if_pos hb] at h
    exact ⟨hb, h⟩
  · rw [if_neg hb] at h
    cases h
def nm {α β : Type} (x : α) (f : α → β) : β := f x
theorem nm_s {α β : Type} {x : α} {f : α → β} {o : β} (h : nm x f = o) : ∃ y, y = x ∧ f y = o := ⟨x, rfl, h⟩
theorem it_t {c : Prop} {d : Decidable c} {α : Type} {a b o : α} (h : @ite α c d a b = o) (hc : c) : a = o := by
  rw [if_pos hc] at h
  exact h
theorem it_f {c : Prop} {d : Decidable c} {α : Type} {a b o : α} (h : @ite α c d a b = o) (hc : ¬ c) : b = o := by
  rw [if_neg hc] at h
  exact h
def ob {α β : Type} (x : Option α) (f : α → Option β) : Option β := x.bind f
theorem ob_s {α β : Type} {x : Option α} {f : α → Option β} {o : β} (h : ob x f = some o) : ∃ y, x = some y ∧ f y = some o := by
  cases x with
  | none => cases h
  | some y => exact ⟨y, rfl, h⟩
/-- an answer with what was written, or the class of what was thrown -/
def xm {α : Type} (o : (Unit × Unit) ⊕ (String × Unit)) (fx : String → α) (k : α) : α := match o with
  | .inl _ => k
  | .inr q => fx q.1
theorem xo_cs (o : (Unit × Unit) ⊕ (String × Unit)) : (∃ E : String, o = .inr (E, ())) ∨ o = .inl ((), ()) := by
  rcases o with ⟨⟨⟩, ⟨⟩⟩ | ⟨E, ⟨⟩⟩
  · exact Or.inr rfl
  · exact Or.inl ⟨E, rfl⟩
def nz (y : Int32) : Bool := !decide (y = 0)
theorem nz_n {y : Int32} (h : nz y = true) : ¬ y = 0 := by
  intro q
  simp [nz, q] at h
def wB (x : Int32) : Prop := x = 0 ∨ x = 1
theorem wB_n {x : Int32} (h : wB x) : narrow .boolean (.int x) = .int x := by
  rcases h with rfl | rfl <;> rfl
theorem wB_f {x : Int32} (h : wB x) : fits .boolean (.int x) = true := by
  rcases h with rfl | rfl <;> rfl
theorem wB_v {x : Int32} (h : wB x) : vp_nar .boolean x = x := by
  rcases h with rfl | rfl <;> rfl
theorem i32_of {x : Int32} {k : Int} (h : x.toInt = k) : x = Int32.ofInt k := by
  rw [← h, Int32.ofInt_toInt]
theorem fin6 {P : Nat → Prop} (h0 : P 0) (h1 : P 1) (h2 : P 2) (h3 : P 3) (h4 : P 4) (h5 : P 5) : ∀ j : Nat, j < 6 → P j := by
  intro j hj
  match j, hj with
  | 0, _ => exact h0
  | 1, _ => exact h1
  | 2, _ => exact h2
  | 3, _ => exact h3
  | 4, _ => exact h4
  | 5, _ => exact h5
  | j + 6, hj => exact absurd hj (by omega)
/-- six rows of k places each, of a grid M, at the addresses r 0 to r 5 -/
abbrev gRows (r : Nat → Nat) (cI : ClassId) (k : Nat) (M : Nat → Nat → Int32) : va_W := [(r 0, .inl (cI, k, .inl (M 0))), (r 1, .inl (cI, k, .inl (M 1))), (r 2, .inl (cI, k, .inl (M 2))), (r 3, .inl (cI, k, .inl (M 3))), (r 4, .inl (cI, k, .inl (M 4))), (r 5, .inl (cI, k, .inl (M 5)))]
abbrev gOut (g : Nat) (r : Nat → Nat) (cG : ClassId) (n : Nat) : Nat × va_E := (g, .inl (cG, n, .inr (.inr (.inr (.inr (fun j => if j < n then some (r j) else none))))))
def gup (M : Nat → Nat → Int32) (i j : Nat) (v : Int32) : Nat → Nat → Int32 := fun a => if a = i then upd (M a) j v else M a
abbrev tysW (cI _cJ _cZ cG : ClassId) : List (ClassId × FieldType) := [(cI, .int), (cI, .int), (cI, .int), (cG, .array .int)]
def wPc (av : List Value) (D : va_G) (tys : List (ClassId × FieldType)) (sz : Nat) (ws : va_W) : Array Value → State → Prop := va_Pc av (fun U => U.heap.size = sz ∧ va_P D vwCl ws U.heap ∧ va_K D vwCl tys U ∧ va_D (fun _ => True) ws)
theorem wPc_blind {av : List Value} {D : va_G} {tys : List (ClassId × FieldType)} {sz : Nat} {ws : va_W} : FrameBlind (wPc av D tys sz ws) := fun a U g mk q => by
  obtain ⟨q0, q1, qP, qK, qD⟩ := q
  exact ⟨q0, q1, qP, va_K.moved (u := U) (U := U.calling g mk a) (Vm.Alike.refl U.vm) qK, qD⟩
def wQv (w1 : va_W) (D : va_G) (A : Nat → Prop) : Array Value → State → Outcome → State → Prop := va_Qv (fun _ : Unit => True) (fun _ t => va_P D vwCl w1 t.heap ∧ va_D A w1) A
def wQi (r0 : Int32) (w1 : va_W) (D : va_G) (A : Nat → Prop) : Array Value → State → Outcome → State → Prop := va_Qi (fun (r : Int32) (_ : Unit) => r = r0) (fun _ t => va_P D vwCl w1 t.heap ∧ va_D A w1) A
def wQl (r0 : Int64) (w1 : va_W) (D : va_G) (A : Nat → Prop) : Array Value → State → Outcome → State → Prop := va_Ql (fun (r : Int64) (_ : Unit) => r = r0) (fun _ t => va_P D vwCl w1 t.heap ∧ va_D A w1) A
/-- what a walk of a method's body has at hand -/
def wCX (p : Program) (s : State) (args : Array Value) (m : MethodId) (meth : Method) (c : Code) (cc : ByteArray) (nL : Nat) (ret : Option FieldType) (own : String) (Ts : List Cond) : Prop :=
  p.tables.exec = Jvm.exec ∧ c.code = cc ∧ meth.sig.returnType = ret ∧ c.maxLocals = nL ∧ s.vm.findClass own = some m.cls ∧ (∀ w ∈ Ts, w.before args s = true) ∧ meth.locks = false
def wQz (r0 : Int32) (w1 : va_W) (D : va_G) (A : Nat → Prop) : Array Value → State → Outcome → State → Prop := va_Qi (fun (r : Int32) (_ : Unit) => r = r0 ∧ wB r0) (fun _ t => va_P D vwCl w1 t.heap ∧ va_D A w1) A
theorem w_fm {α β : Type} {f : α → Option β} : ∀ {is : List α} {w : List β}, is.map f = w.map some → is.filterMap f = w
  | [], [], _ => rfl
  | [], _ :: _, h => by simp at h
  | _ :: _, [], h => by simp at h
  | i :: is, x :: w, h => by
    rw [List.map_cons, List.map_cons, List.cons.injEq] at h
    rw [List.filterMap_cons, h.1, w_fm h.2]
section WR
variable {p : Program} {l : Launch} {e : Env} {R : Room} {s : State} {m : MethodId} {args : Array Value} {below : List Frame} {meth : Method} {c : Code} {H : Heap} {locs : List Loc} {cells slots : Nat} {Q : State → Prop}
variable {cc : ByteArray} {pc : Nat} {ls : Array Slot} {rest : List Value} {D : va_G} {cl : List vw_C} {A : Nat → Prop} {a : Nat} {tys : List (ClassId × FieldType)} {ws : va_W} {H0 : Heap}
theorem w_eqi {x y : Int32} (h : y = x) (k : W p l e R s m args below meth c H locs cells slots Q (F0 m pc ls (.int y :: rest))) : W p l e R s m args below meth c H locs cells slots Q (F0 m pc ls (.int x :: rest)) := h ▸ k
theorem w_eql {x y : Int64} (h : y = x) (k : W p l e R s m args below meth c H locs cells slots Q (F0 m pc ls (.long y :: rest))) : W p l e R s m args below meth c H locs cells slots Q (F0 m pc ls (.long x :: rest)) := h ▸ k
theorem w_aald (hexec : p.tables.exec = Jvm.exec) (hb : c.code = cc) (hK : va_K D cl tys s) (hP : va_P D cl ws H) (q0 t0 : Nat) {cA : ClassId} {n : Nat} {r : Nat → Nat} (ha : ws[q0]? = some (gOut a r cA n)) (ht : tys[t0]? = some (cA, .array .int)) {i : Int32} (hin : vp_in i n) (hdg : decode cc pc = .ok (.aaload, 1))
    (kk : W p l e R s m args below meth c H locs cells slots Q (F0 m (pc + 1) ls (.ref (r i.toNatClampNeg) :: rest))) : W p l e R s m args below meth c H locs cells slots Q (F0 m pc ls (.int i :: .ref a :: rest)) := by
  have hlt : i.toNatClampNeg < n := Nat.not_le.mp fun q => hin (Or.inr q)
  refine W.aald (v := va_rf (if i.toNatClampNeg < n then some (r i.toNatClampNeg) else none)) (ty := .array .int) hexec hb (hP q0 _ ha) ((hK.2 t0 _ ht).1 n (fun j => va_rf (if j < n then some (r j) else none))) rfl (fun q => by cases q) (by show ¬ (i < 0 ∨ (arrV _ _ _).slots.size ≤ _); rw [arrV_size]; exact hin) (by show (arrV _ _ _).slots[_]? = _; rw [arrV_read _ _ hlt]) rfl rfl hdg ?_
  rw [if_pos hlt]
  exact kk
/-- what a call gives back to the caller's world -/
theorem w_back {wc wr w1 ws1 : va_W} {H1 : Heap} {t : State} (hP : va_P D vwCl ws H) (hD : va_D A ws) (hS : va_S A s.heap H locs) (hA : ∀ q, s.heap.size ≤ q → A q) (isC isR isN : List Nat) (hC : isC.map (fun i => ws[i]?) = wc.map some) (hR : isR.map (fun i => ws[i]?) = wr.map some) (hn : va_nd isR = true) (hdis : ∀ i ∈ isR, i ∉ isC) (hN : isN.map (fun i => (wr ++ w1)[i]?) = ws1.map some) (hnN : va_nd isN = true)
    (ht : t.heap = H1) (hB : va_P D vwCl w1 t.heap ∧ va_D (va_A wc H.size) w1) (hk1 : ∀ q : Nat, q < H.size → ¬ va_A wc H.size q → H1[q]? = H[q]?) : va_P D vwCl ws1 H1 ∧ va_D A ws1 := by
  obtain ⟨hP1, hD1⟩ := hB
  rw [ht] at hP1
  obtain ⟨g1, g2⟩ := va_join hP hD isC isR hC hR hn hdis hk1 (va_free hD hS hA isC hC) hP1 hD1
  exact ⟨g1.sub isN (w_fm hN), g2.sub isN hnN hN⟩
theorem w_preV {wc : va_W} {C : String} {b : Nat} {As : List Value} (hK : va_K D vwCl tys s) (hPc : va_P D vwCl wc H) (hDc : va_D A wc) (q0 ci : Nat) {fs : List Value} {qc : vw_C} (hq : wc[q0]? = some (b, .inr (ci, fs))) (hcl : vwCl[ci]? = some qc) (hqC : qc.1 = C) : PreV s H C b (wPc (.ref b :: As) D tys H.size wc) As := by
  subst hqC
  exact ⟨wPc_blind, va_recv hK hPc hcl hq, fun U hU hW => ⟨rfl, by rw [hU], by rw [hU]; exact hPc, va_K.moved hW.alike hK, hDc.weaken (fun _ _ _ _ => trivial)⟩⟩
theorem w_preS {wc : va_W} {As : List Value} (hK : va_K D vwCl tys s) (hPc : va_P D vwCl wc H) (hDc : va_D A wc) : PreS s H (wPc As D tys H.size wc) As :=
  ⟨wPc_blind, fun U hU hW => ⟨rfl, by rw [hU], by rw [hU]; exact hPc, va_K.moved hW.alike hK, hDc.weaken (fun _ _ _ _ => trivial)⟩⟩
theorem w_callVi {y : MethodName} {bytes : ByteArray} {maxL nL n index : Nat} {ret : Option FieldType} {wsy : List Cond} {rm : Room} {Ts : List Cond} {own C : String} {As st : List Value} {b : Nat} {wc wr w1 ws1 : va_W} {r0 : Int32}
    (S : CallFix p m c cc nL s args Ts own) (hM : Met l y wsy rm (wPc (.ref b :: As) D tys H.size wc) (wQi r0 w1 D (va_A wc H.size)) 0 0 (va_A wc H.size)) (cw : CallW R s args own C index y bytes maxL ret wsy rm 0 0 n) (hK : va_K D vwCl tys s) (q0 ci : Nat) {fs : List Value} {qc : vw_C} (hq : wc[q0]? = some (b, .inr (ci, fs))) (hcl : vwCl[ci]? = some qc) (hqC : qc.1 = C)
    (hP : va_P D vwCl ws H) (hD : va_D A ws) (hS : va_S A s.heap H locs) (hA : ∀ q, s.heap.size ≤ q → A q) (isC isR isN : List Nat) (hC : isC.map (fun i => ws[i]?) = wc.map some) (hnC : va_nd isC = true) (hR : isR.map (fun i => ws[i]?) = wr.map some) (hn : va_nd isR = true) (hdis : ∀ i ∈ isR, i ∉ isC) (hN : isN.map (fun i => (wr ++ w1)[i]?) = ws1.map some) (hnN : va_nd isN = true)
    (hlen : As.length = n) (hsize : ls.size = nL) (hst : st = As.reverse ++ .ref b :: rest) (hrest : (rest.map fun v => v.category).sum ≤ 8) (hdg : decode cc pc = .ok (.invokevirtual index, 3)) (hroom : cells ≤ R.cells ∧ slots ≤ R.slots)
    (kk : ∀ (H1 : Heap) (locs1 : List Loc), va_P D vwCl ws1 H1 → va_D A ws1 → va_S A s.heap H1 locs1 → W p l e R s m args below meth c H1 locs1 cells slots Q (F0 m (pc + 3) ls (.int r0 :: rest))) : W p l e R s m args below meth c H locs cells slots Q (F0 m pc ls st) := by
  subst hst
  have hPc := hP.sub isC (w_fm hC)
  have hDc := hD.sub isC hnC hC
  have hFc := va_free hD hS hA isC hC
  refine va_calli (va_runV S hM cw (w_preV hK hPc hDc q0 ci hq hcl hqC) rfl hlen hsize rfl (lv_room hrest) hdg hroom) hS (fun q _ h => hFc q h) hFc (fun r_2 u t H1 locs1 ht hvm hw hB hz1 hk1 hS1 => ?_)
  obtain ⟨g1, g2⟩ := w_back hP hD hS hA isC isR isN hC hR hn hdis hN hnN ht hB hk1
  subst hw
  exact kk H1 locs1 g1 g2 hS1
theorem w_callVz {y : MethodName} {bytes : ByteArray} {maxL nL n index : Nat} {ret : Option FieldType} {wsy : List Cond} {rm : Room} {Ts : List Cond} {own C : String} {As st : List Value} {b : Nat} {wc wr w1 ws1 : va_W} {r0 : Int32}
    (S : CallFix p m c cc nL s args Ts own) (hM : Met l y wsy rm (wPc (.ref b :: As) D tys H.size wc) (wQz r0 w1 D (va_A wc H.size)) 0 0 (va_A wc H.size)) (cw : CallW R s args own C index y bytes maxL ret wsy rm 0 0 n) (hK : va_K D vwCl tys s) (q0 ci : Nat) {fs : List Value} {qc : vw_C} (hq : wc[q0]? = some (b, .inr (ci, fs))) (hcl : vwCl[ci]? = some qc) (hqC : qc.1 = C)
    (hP : va_P D vwCl ws H) (hD : va_D A ws) (hS : va_S A s.heap H locs) (hA : ∀ q, s.heap.size ≤ q → A q) (isC isR isN : List Nat) (hC : isC.map (fun i => ws[i]?) = wc.map some) (hnC : va_nd isC = true) (hR : isR.map (fun i => ws[i]?) = wr.map some) (hn : va_nd isR = true) (hdis : ∀ i ∈ isR, i ∉ isC) (hN : isN.map (fun i => (wr ++ w1)[i]?) = ws1.map some) (hnN : va_nd isN = true)
    (hlen : As.length = n) (hsize : ls.size = nL) (hst : st = As.reverse ++ .ref b :: rest) (hrest : (rest.map fun v => v.category).sum ≤ 8) (hdg : decode cc pc = .ok (.invokevirtual index, 3)) (hroom : cells ≤ R.cells ∧ slots ≤ R.slots)
    (kk : wB r0 → ∀ (H1 : Heap) (locs1 : List Loc), va_P D vwCl ws1 H1 → va_D A ws1 → va_S A s.heap H1 locs1 → W p l e R s m args below meth c H1 locs1 cells slots Q (F0 m (pc + 3) ls (.int r0 :: rest))) : W p l e R s m args below meth c H locs cells slots Q (F0 m pc ls st) := by
  subst hst
  have hPc := hP.sub isC (w_fm hC)
  have hDc := hD.sub isC hnC hC
  have hFc := va_free hD hS hA isC hC
  refine va_calli (va_runV S hM cw (w_preV hK hPc hDc q0 ci hq hcl hqC) rfl hlen hsize rfl (lv_room hrest) hdg hroom) hS (fun q _ h => hFc q h) hFc (fun r_2 u t H1 locs1 ht hvm hw hB hz1 hk1 hS1 => ?_)
  obtain ⟨g1, g2⟩ := w_back hP hD hS hA isC isR isN hC hR hn hdis hN hnN ht hB hk1
  obtain ⟨rfl, hw⟩ := hw
  exact kk hw H1 locs1 g1 g2 hS1
theorem w_callVv {y : MethodName} {bytes : ByteArray} {maxL nL n index : Nat} {ret : Option FieldType} {wsy : List Cond} {rm : Room} {Ts : List Cond} {own C : String} {As st : List Value} {b : Nat} {wc wr w1 ws1 : va_W}
    (S : CallFix p m c cc nL s args Ts own) (hM : Met l y wsy rm (wPc (.ref b :: As) D tys H.size wc) (wQv w1 D (va_A wc H.size)) 0 0 (va_A wc H.size)) (cw : CallW R s args own C index y bytes maxL ret wsy rm 0 0 n) (hK : va_K D vwCl tys s) (q0 ci : Nat) {fs : List Value} {qc : vw_C} (hq : wc[q0]? = some (b, .inr (ci, fs))) (hcl : vwCl[ci]? = some qc) (hqC : qc.1 = C)
    (hP : va_P D vwCl ws H) (hD : va_D A ws) (hS : va_S A s.heap H locs) (hA : ∀ q, s.heap.size ≤ q → A q) (isC isR isN : List Nat) (hC : isC.map (fun i => ws[i]?) = wc.map some) (hnC : va_nd isC = true) (hR : isR.map (fun i => ws[i]?) = wr.map some) (hn : va_nd isR = true) (hdis : ∀ i ∈ isR, i ∉ isC) (hN : isN.map (fun i => (wr ++ w1)[i]?) = ws1.map some) (hnN : va_nd isN = true)
    (hlen : As.length = n) (hsize : ls.size = nL) (hst : st = As.reverse ++ .ref b :: rest) (hrest : (rest.map fun v => v.category).sum ≤ 8) (hdg : decode cc pc = .ok (.invokevirtual index, 3)) (hroom : cells ≤ R.cells ∧ slots ≤ R.slots)
    (kk : ∀ (H1 : Heap) (locs1 : List Loc), va_P D vwCl ws1 H1 → va_D A ws1 → va_S A s.heap H1 locs1 → W p l e R s m args below meth c H1 locs1 cells slots Q (F0 m (pc + 3) ls rest)) : W p l e R s m args below meth c H locs cells slots Q (F0 m pc ls st) := by
  subst hst
  have hPc := hP.sub isC (w_fm hC)
  have hDc := hD.sub isC hnC hC
  have hFc := va_free hD hS hA isC hC
  refine va_callv (va_runV S hM cw (w_preV hK hPc hDc q0 ci hq hcl hqC) rfl hlen hsize rfl (lv_room hrest) hdg hroom) hS (fun q _ h => hFc q h) hFc (fun u t H1 locs1 ht hvm hw hB hz1 hk1 hS1 => ?_)
  obtain ⟨g1, g2⟩ := w_back hP hD hS hA isC isR isN hC hR hn hdis hN hnN ht hB hk1
  exact kk H1 locs1 g1 g2 hS1
/-- a static call that touches no cell -/
theorem w_callSi {y : MethodName} {bytes : ByteArray} {maxL nL n index : Nat} {ret : Option FieldType} {wsy : List Cond} {rm : Room} {Ts : List Cond} {own : String} {As st : List Value} {r0 : Int32}
    (S : CallFix p m c cc nL s args Ts own) (hM : Met l y wsy rm (wPc As D tys H.size []) (wQi r0 [] D (va_A [] H.size)) 0 0 (va_A [] H.size)) (cw : CallB R s args own index y bytes maxL ret wsy rm 0 0 n ∧ (Cond.static y).before args s = true) (hK : va_K D vwCl tys s)
    (hP : va_P D vwCl ws H) (hS : va_S A s.heap H locs) (hA : ∀ q, s.heap.size ≤ q → A q)
    (hlen : As.length = n) (hsize : ls.size = nL) (hst : st = As.reverse ++ rest) (hrest : (rest.map fun v => v.category).sum ≤ 8) (hdg : decode cc pc = .ok (.invokestatic index, 3)) (hroom : cells ≤ R.cells ∧ slots ≤ R.slots)
    (kk : ∀ (H1 : Heap) (locs1 : List Loc), va_P D vwCl ws H1 → va_S A s.heap H1 locs1 → W p l e R s m args below meth c H1 locs1 cells slots Q (F0 m (pc + 3) ls (.int r0 :: rest))) : W p l e R s m args below meth c H locs cells slots Q (F0 m pc ls st) := by
  subst hst
  have hP0 : va_P D vwCl ([] : va_W) H := fun k q h => by simp at h
  have hD0 : va_D A ([] : va_W) := ⟨fun i j p q h => by simp at h, fun k q h => by simp at h⟩
  have hFc : ∀ q : Nat, va_A [] H.size q → A q := fun q h => by
    rcases h with ⟨k, e, h⟩ | h
    · simp at h
    · exact hA q (Nat.le_trans hS.1 h)
  refine va_calli (va_runS S hM cw (w_preS hK hP0 hD0) rfl hlen hsize rfl (lv_room hrest) hdg hroom) hS (fun q _ h => hFc q h) hFc (fun r_2 u t H1 locs1 ht hvm hw hB hz1 hk1 hS1 => ?_)
  subst hw
  refine kk H1 locs1 (fun k q hq => (hP k q hq).kept (hk1 _ (hP k q hq).lt (fun h => ?_))) hS1
  rcases h with ⟨k, e, h⟩ | h
  · simp at h
  · exact absurd (hP k q hq).lt (Nat.not_lt.mpr h)
theorem w_callSz {y : MethodName} {bytes : ByteArray} {maxL nL n index : Nat} {ret : Option FieldType} {wsy : List Cond} {rm : Room} {Ts : List Cond} {own : String} {As st : List Value} {r0 : Int32}
    (S : CallFix p m c cc nL s args Ts own) (hM : Met l y wsy rm (wPc As D tys H.size []) (wQz r0 [] D (va_A [] H.size)) 0 0 (va_A [] H.size)) (cw : CallB R s args own index y bytes maxL ret wsy rm 0 0 n ∧ (Cond.static y).before args s = true) (hK : va_K D vwCl tys s)
    (hP : va_P D vwCl ws H) (hS : va_S A s.heap H locs) (hA : ∀ q, s.heap.size ≤ q → A q)
    (hlen : As.length = n) (hsize : ls.size = nL) (hst : st = As.reverse ++ rest) (hrest : (rest.map fun v => v.category).sum ≤ 8) (hdg : decode cc pc = .ok (.invokestatic index, 3)) (hroom : cells ≤ R.cells ∧ slots ≤ R.slots)
    (kk : wB r0 → ∀ (H1 : Heap) (locs1 : List Loc), va_P D vwCl ws H1 → va_S A s.heap H1 locs1 → W p l e R s m args below meth c H1 locs1 cells slots Q (F0 m (pc + 3) ls (.int r0 :: rest))) : W p l e R s m args below meth c H locs cells slots Q (F0 m pc ls st) := by
  subst hst
  have hP0 : va_P D vwCl ([] : va_W) H := fun k q h => by simp at h
  have hD0 : va_D A ([] : va_W) := ⟨fun i j p q h => by simp at h, fun k q h => by simp at h⟩
  have hFc : ∀ q : Nat, va_A [] H.size q → A q := fun q h => by
    rcases h with ⟨k, e, h⟩ | h
    · simp at h
    · exact hA q (Nat.le_trans hS.1 h)
  refine va_calli (va_runS S hM cw (w_preS hK hP0 hD0) rfl hlen hsize rfl (lv_room hrest) hdg hroom) hS (fun q _ h => hFc q h) hFc (fun r_2 u t H1 locs1 ht hvm hw hB hz1 hk1 hS1 => ?_)
  obtain ⟨rfl, hw⟩ := hw
  refine kk hw H1 locs1 (fun k q hq => (hP k q hq).kept (hk1 _ (hP k q hq).lt (fun h => ?_))) hS1
  rcases h with ⟨k, e, h⟩ | h
  · simp at h
  · exact absurd (hP k q hq).lt (Nat.not_lt.mpr h)
theorem w_vret {w1 : va_W} (hexec : p.tables.exec = Jvm.exec) (hb : c.code = cc) (hr : meth.sig.returnType = none) (hlocks : meth.locks = false) (hP : va_P D vwCl w1 H) (hD : va_D A w1) (hS : va_S A s.heap H locs) (hdg : decode cc pc = .ok (.return_, 1)) : W p l e R s m args below meth c H locs cells slots (MQ below (wQv w1 D A) args s cells slots A) (F0 m pc ls []) :=
  W.vret hexec hb hr (fun t ht hW => ⟨⟨(), rfl, trivial, by rw [ht]; exact hP, hD⟩, hS.F ht⟩) hS.2.2 hdg hlocks
theorem w_iret {w1 : va_W} {v r0 : Int32} (hexec : p.tables.exec = Jvm.exec) (hb : c.code = cc) (hr : meth.sig.returnType = some .int) (hlocks : meth.locks = false) (hv : v = r0) (hP : va_P D vwCl w1 H) (hD : va_D A w1) (hS : va_S A s.heap H locs) (hdg : decode cc pc = .ok (.ireturn, 1)) : W p l e R s m args below meth c H locs cells slots (MQ below (wQi r0 w1 D A) args s cells slots A) (F0 m pc ls [.int v]) :=
  W.iret (v := v) hexec hb hr (fun t ht hW => ⟨⟨v, (), rfl, hv, by rw [ht]; exact hP, hD⟩, hS.F ht⟩) hS.2.2 hdg hlocks
theorem w_zret {w1 : va_W} {v r0 : Int32} (hexec : p.tables.exec = Jvm.exec) (hb : c.code = cc) (hr : meth.sig.returnType = some .boolean) (hlocks : meth.locks = false) (hv : v = r0) (hw : wB v) (hP : va_P D vwCl w1 H) (hD : va_D A w1) (hS : va_S A s.heap H locs) (hdg : decode cc pc = .ok (.ireturn, 1)) : W p l e R s m args below meth c H locs cells slots (MQ below (wQz r0 w1 D A) args s cells slots A) (F0 m pc ls [.int v]) :=
  W.zret (v := v) hexec hb hr (wB_n hw) (fun t ht hW => ⟨⟨v, (), rfl, ⟨hv, hv ▸ hw⟩, by rw [ht]; exact hP, hD⟩, hS.F ht⟩) hS.2.2 hdg hlocks
end WR
