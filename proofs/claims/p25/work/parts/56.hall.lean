/-! the hall as one world, and rows for calls on it -/
def wNcs (U : State) : Prop := ∀ q ∈ [("java/lang/IllegalArgumentException", "java/lang/IllegalStateException"), ("java/lang/IllegalArgumentException", "java/lang/IndexOutOfBoundsException"), ("java/lang/IllegalStateException", "java/lang/IllegalArgumentException"), ("java/lang/IllegalStateException", "java/lang/IndexOutOfBoundsException"), ("java/lang/IndexOutOfBoundsException", "java/lang/IllegalArgumentException"), ("java/lang/IndexOutOfBoundsException", "java/lang/IllegalStateException")], va_Nc q.1 q.2 U
theorem wNcs.moved {u U : State} (hvm : u.vm.Alike U.vm) (h : wNcs u) : wNcs U := fun q hq => va_Nc.moved hvm (h q hq)
section HQR
variable {p : Program} {l : Launch} {e : Env} {R : Room} {s : State} {m : MethodId} {args : Array Value} {below : List Frame} {meth : Method} {c : Code} {H : Heap} {locs : List Loc} {cells slots : Nat} {Q : State → Prop}
variable {cc : ByteArray} {pc : Nat} {ls : Array Slot} {rest : List Value} {D : va_G} {cl : List vw_C} {A : Nat → Prop} {a : Nat} {tys : List (ClassId × FieldType)} {ws : va_W} {H0 : Heap}
theorem w_permP {ws ws' : va_W} (h : ws.Perm ws') (hP : va_P D cl ws H) : va_P D cl ws' H := fun k q hk => by
  have hm : q ∈ ws := h.mem_iff.mpr (List.mem_of_getElem? hk)
  obtain ⟨i, hi⟩ := List.getElem?_of_mem hm
  exact hP i q hi
theorem w_ndD {ws : va_W} : (∀ (i j : Nat) (p q : Nat × va_E), ws[i]? = some p → ws[j]? = some q → p.1 = q.1 → i = j) ↔ (ws.map Prod.fst).Nodup := by
  constructor
  · intro h
    refine List.pairwise_iff_getElem.mpr (fun i j hi hj hij e => ?_)
    rw [List.length_map] at hi hj
    rw [List.getElem_map, List.getElem_map] at e
    have := h i j _ _ (List.getElem?_eq_getElem hi) (List.getElem?_eq_getElem hj) e
    omega
  · intro h i j p q hp hq e
    have h := List.pairwise_iff_getElem.mp h
    obtain ⟨hi, ep⟩ := List.getElem?_eq_some_iff.mp hp
    obtain ⟨hj, eq⟩ := List.getElem?_eq_some_iff.mp hq
    have key : ∀ (i j : Nat) (hi : i < ws.length) (hj : j < ws.length), i < j → ws[i].1 ≠ ws[j].1 := fun i j hi hj hij z => by
      have := h i j (by rw [List.length_map]; exact hi) (by rw [List.length_map]; exact hj) hij
      rw [List.getElem_map, List.getElem_map] at this
      exact this z
    rcases Nat.lt_trichotomy i j with z | z | z
    · exact absurd (by rw [ep, eq]; exact e) (key i j hi hj z)
    · exact z
    · exact absurd (by rw [ep, eq]; exact e.symm) (key j i hj hi z)
theorem w_permD {ws ws' : va_W} (h : ws.Perm ws') (hD : va_D A ws) : va_D A ws' :=
  ⟨w_ndD.mpr ((h.map Prod.fst).nodup_iff.mp (w_ndD.mp hD.1)), fun k q hk => by
    have hm : q ∈ ws := h.mem_iff.mpr (List.mem_of_getElem? hk)
    obtain ⟨i, hi⟩ := List.getElem?_of_mem hm
    exact hD.2 i q hi⟩
theorem w_lP {X Y : va_W} (h : va_P D cl (X ++ Y) H) : va_P D cl X H := fun k q hk => h k q (by
  rw [List.getElem?_append_left (List.getElem?_eq_some_iff.mp hk).1]
  exact hk)
theorem w_lD {X Y : va_W} (h : va_D A (X ++ Y)) : va_D A X :=
  have k : ∀ (i : Nat) (q : Nat × va_E), X[i]? = some q → (X ++ Y)[i]? = some q := fun i q hk => by
    rw [List.getElem?_append_left (List.getElem?_eq_some_iff.mp hk).1]
    exact hk
  ⟨fun i j p q hp hq e => h.1 i j p q (k i p hp) (k j q hq) e, fun i q hq => h.2 i q (k i q hq)⟩
theorem w_range {α : Type} (l : List α) : (List.range l.length).map (fun i => l[i]?) = l.map some := by
  apply List.ext_getElem
  · rw [List.length_map, List.length_map, List.length_range]
  · intro i h1 h2
    rw [List.getElem_map, List.getElem_map, List.getElem_range]
    rw [List.length_map] at h2
    exact List.getElem?_eq_getElem h2
theorem w_pick {α : Type} {Y X : List α} {isN : List Nat} (hN : isN.map (fun i => Y[i]?) = X.map some) (hnN : isN.isPerm (List.range isN.length) = true) (hw : Y.length = isN.length) : Y.Perm X := by
  have h1 : isN.Perm (List.range Y.length) := by
    rw [hw]
    exact List.isPerm_iff.mp hnN
  have h2 := h1.map (fun i => Y[i]?)
  rw [w_range, hN] at h2
  have h3 := h2.filterMap id
  have e : ∀ l : List α, (l.map some).filterMap id = l := fun l => by simp
  rw [e, e] at h3
  exact h3.symm
theorem w_backQ {X pl wc wr w1 ws1 : va_W} {H1 : Heap} {t : State} (hP : va_P D vwCl (X ++ pl) H) (hD : va_D A (X ++ pl)) (hS : va_S A s.heap H locs) (hA : ∀ q, s.heap.size ≤ q → A q) (isC isR isN : List Nat) (hC : isC.map (fun i => X[i]?) = wc.map some) (hR : isR.map (fun i => X[i]?) = wr.map some) (hn : va_nd isR = true) (hdis : ∀ i ∈ isR, i ∉ isC) (hN : isN.map (fun i => (wr ++ w1)[i]?) = ws1.map some) (hnN : isN.isPerm (List.range isN.length) = true) (hwN : (wr ++ w1).length = isN.length)
    (ht : t.heap = H1) (hB : va_P D vwCl w1 t.heap ∧ va_D (va_A wc H.size) w1) (hk1 : ∀ q : Nat, q < H.size → ¬ va_A wc H.size q → H1[q]? = H[q]?) : va_P D vwCl (ws1 ++ pl) H1 ∧ va_D A (ws1 ++ pl) := by
  obtain ⟨hP1, hD1⟩ := hB
  rw [ht] at hP1
  obtain ⟨g1, g2⟩ := va_joinQ hP hD isC isR hC hR hn hdis hk1 (va_free (w_lD hD) hS hA isC hC) hP1 hD1
  have hp := (w_pick hN hnN hwN).append_right pl
  exact ⟨w_permP hp g1, w_permD hp g2⟩
theorem w_blkPerm (Bs : List va_W) (π1 π2 : List Nat) (h : (π1 ++ π2).isPerm (List.range Bs.length) = true) : Bs.flatten.Perm ((π1.map (fun i => Bs.getD i [])).flatten ++ (π2.map (fun i => Bs.getD i [])).flatten) := by
  rw [← List.flatten_append, ← List.map_append]
  refine List.Perm.flatten ?_
  have h2 := (List.isPerm_iff.mp h).map (fun i => Bs.getD i [])
  have e : (List.range Bs.length).map (fun i => Bs.getD i []) = Bs := by
    apply List.ext_getElem
    · rw [List.length_map, List.length_range]
    · intro i h1 h2
      rw [List.getElem_map, List.getElem_range, List.getD_eq_getElem?_getD, List.getElem?_eq_getElem h2, Option.getD_some]
  rw [e] at h2
  exact h2.symm
end HQR
abbrev HW (cI cJ cZ cG : ClassId) (ad : Nat → Nat) (rw : Nat → Nat → Nat) (σ : CT) : va_W := ([[(ad 0, .inr (8, [.ref (ad 1), .ref (ad 2), .ref (ad 3), .ref (ad 4), .ref (ad 5), .ref (ad 6), .ref (ad 7), .ref (ad 8), .int (σ.1 0)]))], (wcX2_full cI cJ cZ cG (ad 1) (ad 9) (ad 10) (ad 11) (σ.1 1) (σ.2.1 0) (σ.2.1 1) (σ.2.1 2)), (wcX5_full cI cJ cZ cG (ad 2) (ad 12) (ad 13) (ad 14) (rw 0) (rw 1) (σ.2.2 0) (σ.2.2 1) (σ.2.1 3)), (wcX6_full cI cJ cZ cG (ad 3) (ad 15) (ad 16) (ad 17) (ad 18) (ad 19) (ad 20) (σ.1 2) (σ.2.1 4) (σ.2.1 5) (σ.2.1 6) (σ.2.1 7) (σ.2.1 8) (σ.2.1 9)), (wcX4_full cI cJ cZ cG (ad 4) (ad 21) (ad 22) (ad 23) (ad 24) (ad 25) (ad 26) (ad 27) (σ.1 3) (σ.1 4) (σ.1 5) (σ.1 6) (σ.1 7) (σ.2.1 10) (σ.2.1 11) (σ.2.1 12) (σ.2.1 13) (σ.2.1 14) (σ.2.1 15)), (wcX1_full cI cJ cZ cG (ad 5) (ad 28) (ad 29) (ad 30) (ad 31) (ad 32) (ad 33) (ad 34) (ad 35) (σ.1 8) (σ.2.1 16) (σ.1 9) (σ.2.1 17) (σ.2.1 18) (σ.2.1 19) (σ.2.1 20) (σ.2.1 21) (σ.2.1 22)), (wcX0_full cI cJ cZ cG (ad 6) (ad 36) (rw 2) (σ.1 10) (σ.1 11) (σ.1 12) (σ.1 13) (σ.2.2 2)), (wcX7_full cI cJ cZ cG (ad 7) (ad 37) (ad 38) (ad 39) (σ.1 14) (σ.2.1 23) (σ.2.1 24) (σ.2.1 25)), (wcX3_full cI cJ cZ cG (ad 8) (ad 40) (ad 41) (ad 42) (ad 43) (σ.1 15) (σ.2.1 26) (σ.2.1 27) (σ.2.1 28) (σ.2.1 29))] : List va_W).flatten
theorem w_Aeq {X Y : va_W} (h : X.map Prod.fst = Y.map Prod.fst) (sz : Nat) : va_A X sz = va_A Y sz := by
  have key : ∀ {X Y : va_W}, X.map Prod.fst = Y.map Prod.fst → ∀ q, va_A X sz q → va_A Y sz q := by
    intro X Y h q hq
    rcases hq with ⟨k, e, hk⟩ | hq
    · have h1 : (X.map Prod.fst)[k]? = some q := by rw [List.getElem?_map, hk]; rfl
      rw [h, List.getElem?_map] at h1
      cases hy : Y[k]? with
      | none => rw [hy] at h1; cases h1
      | some y =>
        rw [hy] at h1
        simp only [Option.map_some, Option.some.injEq] at h1
        exact Or.inl ⟨k, y.2, by rw [hy, ← h1]⟩
    · exact Or.inr hq
  funext q
  exact propext ⟨key h q, key h.symm q⟩
def HA (cI cJ cZ cG : ClassId) (ad : Nat → Nat) (rw : Nat → Nat → Nat) (sz : Nat) : Nat → Prop := va_A (HW cI cJ cZ cG ad rw (fun _ => 0, fun _ _ => 0, fun _ _ _ => 0)) sz
theorem HW_fst (cI cJ cZ cG : ClassId) (ad : Nat → Nat) (rw : Nat → Nat → Nat) (σ τ : CT) : (HW cI cJ cZ cG ad rw σ).map Prod.fst = (HW cI cJ cZ cG ad rw τ).map Prod.fst := rfl
theorem HA_eq {cI cJ cZ cG : ClassId} {ad : Nat → Nat} {rw : Nat → Nat → Nat} (σ : CT) (sz : Nat) : va_A (HW cI cJ cZ cG ad rw σ) sz = HA cI cJ cZ cG ad rw sz := w_Aeq (HW_fst cI cJ cZ cG ad rw σ _) sz
theorem HA_hi {cI cJ cZ cG : ClassId} {ad : Nat → Nat} {rw : Nat → Nat → Nat} {sz : Nat} : ∀ q, sz ≤ q → HA cI cJ cZ cG ad rw sz q := fun q h => Or.inr h
/-- the heap holds a hall that is in the state a -/
def HWe (D : va_G) (cI cJ cZ cG : ClassId) (A : Nat → Prop) (ad : Nat → Nat) (rw : Nat → Nat → Nat) (q : Nat) (a : AT) (H : Heap) : Prop := ∃ σ : CT, va_P D vwCl (HW cI cJ cZ cG ad rw σ) H ∧ va_D A (HW cI cJ cZ cG ad rw σ) ∧ Rel q a σ
def HXPc (av : List Value) (D : va_G) (cI cJ cZ cG : ClassId) (sz : Nat) (ad : Nat → Nat) (rw : Nat → Nat → Nat) (q : Nat) (a : AT) : Array Value → State → Prop := va_Pc av (fun U => U.heap.size = sz ∧ HWe D cI cJ cZ cG (fun _ => True) ad rw q a U.heap ∧ va_K D vwCl (tysW cI cJ cZ cG) U ∧ wThr (HA cI cJ cZ cG ad rw sz) U)
def HPc (av : List Value) (D : va_G) (cI cJ cZ cG : ClassId) (sz : Nat) (ad : Nat → Nat) (rw : Nat → Nat → Nat) (q : Nat) (a : AT) : Array Value → State → Prop := va_Pc av (fun U => U.heap.size = sz ∧ HWe D cI cJ cZ cG (fun _ => True) ad rw q a U.heap ∧ va_K D vwCl (tysW cI cJ cZ cG) U ∧ wThr (HA cI cJ cZ cG ad rw sz) U ∧ wNcs U)
theorem HXPc_blind {av : List Value} {D : va_G} {cI cJ cZ cG : ClassId} {sz : Nat} {ad : Nat → Nat} {rw : Nat → Nat → Nat} {q : Nat} {a : AT} : FrameBlind (HXPc av D cI cJ cZ cG sz ad rw q a) := fun b U g mk h => by
  obtain ⟨q0, q1, qP, qK, qT⟩ := h
  exact ⟨q0, q1, qP, va_K.moved (u := U) (U := U.calling g mk b) (Vm.Alike.refl U.vm) qK, qT.calling g mk b⟩
theorem HPc_blind {av : List Value} {D : va_G} {cI cJ cZ cG : ClassId} {sz : Nat} {ad : Nat → Nat} {rw : Nat → Nat → Nat} {q : Nat} {a : AT} : FrameBlind (HPc av D cI cJ cZ cG sz ad rw q a) := fun b U g mk h => by
  obtain ⟨q0, q1, qP, qK, qT, qN⟩ := h
  exact ⟨q0, q1, qP, va_K.moved (u := U) (U := U.calling g mk b) (Vm.Alike.refl U.vm) qK, qT.calling g mk b, wNcs.moved (u := U) (U := U.calling g mk b) (Vm.Alike.refl U.vm) qN⟩
def HXQi (res : Option (Int32 × AT)) (D : va_G) (cI cJ cZ cG : ClassId) (A : Nat → Prop) (ad : Nat → Nat) (rw : Nat → Nat → Nat) (q : Nat) : Array Value → State → Outcome → State → Prop := va_Qi (fun (r : Int32) (a' : AT) => res = some (r, a')) (fun a' t => HWe D cI cJ cZ cG A ad rw q a' t.heap) A
def HXQv (res : Option (Int32 × AT)) (D : va_G) (cI cJ cZ cG : ClassId) (A : Nat → Prop) (ad : Nat → Nat) (rw : Nat → Nat → Nat) (q : Nat) : Array Value → State → Outcome → State → Prop := va_Qv (fun a' : AT => res = some (0, a')) (fun a' t => HWe D cI cJ cZ cG A ad rw q a' t.heap) A
def HXX (Es : List String) (res : Option (Int32 × AT)) (a : AT) (D : va_G) (cI cJ cZ cG : ClassId) (A : Nat → Prop) (ad : Nat → Nat) (rw : Nat → Nat → Nat) (q : Nat) : String → State → State → Prop := vx_X (fun _ : Unit => res = none) (fun E _ t => E ∈ Es ∧ HWe D cI cJ cZ cG A ad rw q a t.heap) A
def HQl (r0 : Int64) (a' : AT) (D : va_G) (cI cJ cZ cG : ClassId) (A : Nat → Prop) (ad : Nat → Nat) (rw : Nat → Nat → Nat) (q : Nat) : Array Value → State → Outcome → State → Prop := va_Ql (fun (r : Int64) (_ : Unit) => r = r0) (fun _ t => HWe D cI cJ cZ cG A ad rw q a' t.heap) A
def tl (res : Option (Int32 × AT)) : Int64 := match res with
  | some (r, _) => r.toInt64
  | none => -9000000000000000
def tz (res : Option (Int32 × AT)) : Int64 := match res with
  | some (r, _) => if r = 0 then 0 else 1
  | none => -9000000000000000
def nx (a : AT) (res : Option (Int32 × AT)) : AT := match res with
  | some (_, a') => a'
  | none => a
theorem met_liftX {l : Launch} {y : MethodName} {ws : List Cond} {rm : Room} {Pc' : Array Value → State → Prop} {Qc' : Array Value → State → Outcome → State → Prop} {XC' : String → State → State → Prop} {mc ms : Nat} {free' : Addr → Prop} (h : ∀ args s, Pc' args s → ∃ (Pc : Array Value → State → Prop) (Qc : Array Value → State → Outcome → State → Prop) (XC : String → State → State → Prop) (free : Addr → Prop), vx_Met l y ws rm Pc Qc XC mc ms free ∧ Pc args s ∧ (∀ o t, Qc args s o t → Qc' args s o t) ∧ (∀ E t, XC E s t → XC' E s t) ∧ ∀ q, free q → free' q) : vx_Met l y ws rm Pc' Qc' XC' mc ms free' := by
  intro p e ha hc hk s m args below hf happ hP hK
  obtain ⟨Pc, Qc, XC, free, hM, hp, hQ, hX, hfr⟩ := h args s hP
  obtain ⟨n, o, h1, h2, h3, h4⟩ := hM p e ha hc hk s m args below hf happ hp hK
  refine ⟨n, o, h1, h2, h3, ?_⟩
  rcases h4 with ⟨h5, L, h6, h7⟩ | ⟨q, h5, E, ce, L, h6, c1, c2, c3, c4, c5, c6⟩
  · exact Or.inl ⟨hQ _ _ h5, L, h6, fun q hq => hfr _ (h7 q hq)⟩
  · exact Or.inr ⟨q, h5, E, ce, L, hX _ _ h6, c1, c2, c3, c4, c5, fun z hz => hfr _ (c6 z hz)⟩
theorem met_lift {l : Launch} {y : MethodName} {ws : List Cond} {rm : Room} {Pc' : Array Value → State → Prop} {Qc' : Array Value → State → Outcome → State → Prop} {mc ms : Nat} {free' : Addr → Prop} (h : ∀ args s, Pc' args s → ∃ (Pc : Array Value → State → Prop) (Qc : Array Value → State → Outcome → State → Prop) (free : Addr → Prop), Met l y ws rm Pc Qc mc ms free ∧ Pc args s ∧ (∀ o t, Qc args s o t → Qc' args s o t) ∧ ∀ q, free q → free' q) : Met l y ws rm Pc' Qc' mc ms free' := by
  intro p e ha hc hk s m args below hf happ hP hK
  obtain ⟨Pc, Qc, free, hM, hp, hQ, hfr⟩ := h args s hP
  obtain ⟨n, o, h1, h2, h3, h4⟩ := hM p e ha hc hk s m args below hf happ hp hK
  obtain ⟨h5, L, h6, h7⟩ := h4
  exact ⟨n, o, h1, h2, h3, hQ _ _ h5, L, h6, fun q hq => hfr _ (h7 q hq)⟩
theorem HWe.mono {D : va_G} {cI cJ cZ cG : ClassId} {A : Nat → Prop} {ad : Nat → Nat} {rw : Nat → Nat → Nat} {q q' : Nat} {a : AT} {H : Heap} (h : HWe D cI cJ cZ cG A ad rw q a H) (hq : q ≤ q') : HWe D cI cJ cZ cG A ad rw q' a H := by
  obtain ⟨σ, h1, h2, h3⟩ := h
  exact ⟨σ, h1, h2, h3.mono hq⟩
theorem HWe.self {D : va_G} {cI cJ cZ cG : ClassId} {A : Nat → Prop} {ad : Nat → Nat} {rw : Nat → Nat → Nat} {q sz : Nat} {a : AT} {H : Heap} (h : HWe D cI cJ cZ cG A ad rw q a H) : HWe D cI cJ cZ cG (HA cI cJ cZ cG ad rw sz) ad rw q a H := by
  obtain ⟨σ, h1, h2, h3⟩ := h
  exact ⟨σ, h1, by rw [← HA_eq σ]; exact h2.self, h3⟩
theorem HWe.weak {D : va_G} {cI cJ cZ cG : ClassId} {A B : Nat → Prop} {ad : Nat → Nat} {rw : Nat → Nat → Nat} {q : Nat} {a : AT} {H : Heap} (h : HWe D cI cJ cZ cG A ad rw q a H) (hAB : ∀ q, A q → B q) : HWe D cI cJ cZ cG B ad rw q a H := by
  obtain ⟨σ, h1, h2, h3⟩ := h
  exact ⟨σ, h1, ⟨h2.1, fun k x hk => hAB _ (h2.2 k x hk)⟩, h3⟩
theorem HWe.free {D : va_G} {cI cJ cZ cG : ClassId} {A : Nat → Prop} {ad : Nat → Nat} {rw : Nat → Nat → Nat} {q sz : Nat} {a : AT} {H : Heap} (h : HWe D cI cJ cZ cG A ad rw q a H) (hA : ∀ x, sz ≤ x → A x) : ∀ x, HA cI cJ cZ cG ad rw sz x → A x := by
  obtain ⟨σ, h1, h2, h3⟩ := h
  rw [← HA_eq σ]
  intro x hx
  rcases hx with ⟨k, e, hk⟩ | hx
  · exact h2.2 k _ hk
  · exact hA x hx
/-- two halls, apart -/
def HW2 (D : va_G) (cI cJ cZ cG : ClassId) (A : Nat → Prop) (ad : Nat → Nat) (rw : Nat → Nat → Nat) (q : Nat) (a : AT) (ad' : Nat → Nat) (rw' : Nat → Nat → Nat) (q' : Nat) (a' : AT) (H : Heap) : Prop := ∃ σ τ : CT, va_P D vwCl (HW cI cJ cZ cG ad rw σ ++ HW cI cJ cZ cG ad' rw' τ) H ∧ va_D A (HW cI cJ cZ cG ad rw σ ++ HW cI cJ cZ cG ad' rw' τ) ∧ Rel q a σ ∧ Rel q' a' τ
theorem HW2.symm {D : va_G} {cI cJ cZ cG : ClassId} {A : Nat → Prop} {ad : Nat → Nat} {rw : Nat → Nat → Nat} {q : Nat} {a : AT} {ad' : Nat → Nat} {rw' : Nat → Nat → Nat} {q' : Nat} {a' : AT} {H : Heap} (h : HW2 D cI cJ cZ cG A ad rw q a ad' rw' q' a' H) : HW2 D cI cJ cZ cG A ad' rw' q' a' ad rw q a H := by
  obtain ⟨σ, τ, h1, h2, h3, h4⟩ := h
  exact ⟨τ, σ, w_permP List.perm_append_comm h1, w_permD List.perm_append_comm h2, h4, h3⟩
theorem HW2.fst {D : va_G} {cI cJ cZ cG : ClassId} {A : Nat → Prop} {ad : Nat → Nat} {rw : Nat → Nat → Nat} {q : Nat} {a : AT} {ad' : Nat → Nat} {rw' : Nat → Nat → Nat} {q' : Nat} {a' : AT} {H : Heap} (h : HW2 D cI cJ cZ cG A ad rw q a ad' rw' q' a' H) : HWe D cI cJ cZ cG A ad rw q a H := by
  obtain ⟨σ, τ, h1, h2, h3, h4⟩ := h
  exact ⟨σ, w_lP h1, w_lD h2, h3⟩
theorem HW2.self {D : va_G} {cI cJ cZ cG : ClassId} {A : Nat → Prop} {ad : Nat → Nat} {rw : Nat → Nat → Nat} {q : Nat} {a : AT} {ad' : Nat → Nat} {rw' : Nat → Nat → Nat} {q' sz : Nat} {a' : AT} {H : Heap} (h : HW2 D cI cJ cZ cG A ad rw q a ad' rw' q' a' H) : HW2 D cI cJ cZ cG (fun x => HA cI cJ cZ cG ad rw sz x ∨ HA cI cJ cZ cG ad' rw' sz x) ad rw q a ad' rw' q' a' H := by
  obtain ⟨σ, τ, h1, h2, h3, h4⟩ := h
  refine ⟨σ, τ, h1, ⟨h2.1, fun k x hk => ?_⟩, h3, h4⟩
  rcases List.mem_append.mp (List.mem_of_getElem? hk) with hm | hm
  · obtain ⟨i, hi⟩ := List.getElem?_of_mem hm
    left
    rw [← HA_eq σ]
    exact Or.inl ⟨i, x.2, hi⟩
  · obtain ⟨i, hi⟩ := List.getElem?_of_mem hm
    right
    rw [← HA_eq τ]
    exact Or.inl ⟨i, x.2, hi⟩
/-- a world in which one hall is called, the rest stays -/
def Foc (D : va_G) (cI cJ cZ cG : ClassId) (A : Nat → Prop) (ad : Nat → Nat) (rw : Nat → Nat → Nat) (G : Nat → AT → Heap → Prop) : Prop := (∀ q a H, G q a H → HWe D cI cJ cZ cG A ad rw q a H) ∧ ∀ q a q' a' (H H1 : Heap), G q a H → (∀ x, HA cI cJ cZ cG ad rw H.size x → A x) → HWe D cI cJ cZ cG (HA cI cJ cZ cG ad rw H.size) ad rw q' a' H1 → (∀ x : Nat, x < H.size → ¬ HA cI cJ cZ cG ad rw H.size x → H1[x]? = H[x]?) → G q' a' H1
theorem Foc.one {D : va_G} {cI cJ cZ cG : ClassId} {A : Nat → Prop} {ad : Nat → Nat} {rw : Nat → Nat → Nat} : Foc D cI cJ cZ cG A ad rw (HWe D cI cJ cZ cG A ad rw) := ⟨fun q a H h => h, fun q a q' a' H H1 h hA h' _ => h'.weak hA⟩
theorem Foc.fst {D : va_G} {cI cJ cZ cG : ClassId} {A : Nat → Prop} {ad : Nat → Nat} {rw : Nat → Nat → Nat} {ad' : Nat → Nat} {rw' : Nat → Nat → Nat} {q0 : Nat} {a0 : AT} : Foc D cI cJ cZ cG A ad rw (fun q a H => HW2 D cI cJ cZ cG A ad rw q a ad' rw' q0 a0 H) := by
  refine ⟨fun q a H h => h.fst, fun q a q' a' H H1 h hA h' hk => ?_⟩
  obtain ⟨σ, τ, h1, h2, h3, h4⟩ := h
  obtain ⟨σ', g1, g2, g3⟩ := h'
  have e := HA_eq (cI := cI) (cJ := cJ) (cZ := cZ) (cG := cG) (ad := ad) (rw := rw) σ H.size
  have hr : (List.range (HW cI cJ cZ cG ad rw σ).length).map (fun i => (HW cI cJ cZ cG ad rw σ)[i]?) = (HW cI cJ cZ cG ad rw σ).map some := w_range _
  obtain ⟨k1, k2⟩ := va_joinQ (wr := []) h1 h2 (List.range (HW cI cJ cZ cG ad rw σ).length) [] hr rfl rfl (fun i hi => absurd hi List.not_mem_nil) (fun x hx hn => hk x hx (by rw [← e]; exact hn)) (fun x hx => hA x (by rw [← e]; exact hx)) g1 (by rw [e]; exact g2)
  exact ⟨σ', τ, k1, k2, g3, h4⟩
theorem Foc.snd {D : va_G} {cI cJ cZ cG : ClassId} {A : Nat → Prop} {ad : Nat → Nat} {rw : Nat → Nat → Nat} {ad' : Nat → Nat} {rw' : Nat → Nat → Nat} {q0 : Nat} {a0 : AT} : Foc D cI cJ cZ cG A ad' rw' (fun q a H => HW2 D cI cJ cZ cG A ad rw q0 a0 ad' rw' q a H) :=
  ⟨fun q a H h => h.symm.fst, fun q a q' a' H H1 h hA h' hk => HW2.symm (Foc.fst.2 q a q' a' H H1 h.symm hA h' hk)⟩
section HXR
variable {p : Program} {l : Launch} {e : Env} {R : Room} {s : State} {m : MethodId} {args : Array Value} {below : List Frame} {meth : Method} {c : Code} {H : Heap} {locs : List Loc} {cells slots : Nat} {Q : State → Prop}
variable {cc : ByteArray} {pc : Nat} {ls : Array Slot} {rest : List Value} {D : va_G} {A : Nat → Prop} {cI cJ cZ cG : ClassId} {ad : Nat → Nat} {rw : Nat → Nat → Nat} {q q' : Nat} {a : AT} {G : Nat → AT → Heap → Prop}
theorem h_preX {As : List Value} (hK : va_K D vwCl (tysW cI cJ cZ cG) s) (hG : HWe D cI cJ cZ cG A ad rw q a H) (hT : wThr A s) (hS : va_S A s.heap H locs) (hAB : ∀ x, HA cI cJ cZ cG ad rw H.size x → A x) : PreV s H RX8 (ad 0) (HXPc (.ref (ad 0) :: As) D cI cJ cZ cG H.size ad rw q a) As := by
  obtain ⟨σ, h1, h2, h3⟩ := hG
  exact ⟨HXPc_blind, va_recv hK h1 (q0 := 0) (ci := 8) rfl rfl, fun U hU hW => ⟨rfl, by rw [hU], ⟨σ, by rw [hU]; exact h1, h2.weaken (fun _ _ _ _ => trivial), h3⟩, va_K.moved hW.alike hK, hT.to hS hU hW hAB⟩⟩
theorem h_preL {As : List Value} (hK : va_K D vwCl (tysW cI cJ cZ cG) s) (hG : HWe D cI cJ cZ cG A ad rw q a H) (hT : wThr A s) (hN : wNcs s) (hS : va_S A s.heap H locs) (hAB : ∀ x, HA cI cJ cZ cG ad rw H.size x → A x) : PreS s H (HPc As D cI cJ cZ cG H.size ad rw q a) As := by
  obtain ⟨σ, h1, h2, h3⟩ := hG
  exact ⟨HPc_blind, fun U hU hW => ⟨rfl, by rw [hU], ⟨σ, by rw [hU]; exact h1, h2.weaken (fun _ _ _ _ => trivial), h3⟩, va_K.moved hW.alike hK, hT.to hS hU hW hAB, hN.moved hW.alike⟩⟩
theorem h_callXi {y : MethodName} {bytes : ByteArray} {maxL nL n index mc ms : Nat} {ret : Option FieldType} {wsy : List Cond} {rm : Room} {Ts : List Cond} {own : String} {As st : List Value} {res : Option (Int32 × AT)} {Es : List String}
    (S : CallFix p m c cc nL s args Ts own) (hM : vx_Met l y wsy rm (HXPc (.ref (ad 0) :: As) D cI cJ cZ cG H.size ad rw q a) (HXQi res D cI cJ cZ cG (HA cI cJ cZ cG ad rw H.size) ad rw q') (HXX Es res a D cI cJ cZ cG (HA cI cJ cZ cG ad rw H.size) ad rw q') mc ms (HA cI cJ cZ cG ad rw H.size)) (cw : CallW R s args own RX8 index y bytes maxL ret wsy rm mc ms n) (hK : va_K D vwCl (tysW cI cJ cZ cG) s) (hF : Foc D cI cJ cZ cG A ad rw G) (hG : G q a H) (hS : va_S A s.heap H locs) (hA : ∀ q, s.heap.size ≤ q → A q) (hT : wThr A s)
    (hlen : As.length = n) (hsize : ls.size = nL) (hst : st = As.reverse ++ .ref (ad 0) :: rest) (hrest : (rest.map fun v => v.category).sum ≤ 8) (hdg : decode cc pc = .ok (.invokevirtual index, 3)) (hroom : cells + mc ≤ R.cells ∧ slots + ms ≤ R.slots)
    (kx : ∀ (E : String) (ce : Cell) (q9 : Addr) (H1 : Heap) (locs1 : List Loc), res = none → E ∈ Es → G q' a H1 → va_S A s.heap H1 locs1 → H1[q9]? = some ce → ce.vm = .none → s.vm.findClass E = some ce.cls → vx_W p l e R s m args below meth c H1 locs1 (cells + mc) (slots + ms) Q (F0 m pc ls rest) q9)
    (kk : ∀ (r : Int32) (a' : AT) (H1 : Heap) (locs1 : List Loc), res = some (r, a') → G q' a' H1 → va_S A s.heap H1 locs1 → W p l e R s m args below meth c H1 locs1 (cells + mc) (slots + ms) Q (F0 m (pc + 3) ls (.int r :: rest))) : W p l e R s m args below meth c H locs cells slots Q (F0 m pc ls st) := by
  subst hst
  have hGe := hF.1 q a H hG
  have hFc := hGe.free (sz := H.size) (fun x hx => hA x (Nat.le_trans hS.1 hx))
  refine vx_calli (vx_runV S hM cw (h_preX hK hGe hT hS hFc) rfl hlen hsize rfl (lv_room hrest) hdg hroom) hS (fun q _ h => hFc q h) hFc (fun q _ h => hFc q h) (fun E ce q9 u t H1 locs1 ht hvm hp hB hz hk1 hS1 hc1 hc2 hc3 => ?_) (fun r u t H1 locs1 ht hvm hw hB hz1 hk1 hS1 => ?_)
  · rw [ht] at hB
    exact kx E ce q9 H1 locs1 hp hB.1 (hF.2 q a q' a H H1 hG hFc hB.2 hk1) hS1 hc1 hc2 hc3
  · rw [ht] at hB
    exact kk r u H1 locs1 hw (hF.2 q a q' u H H1 hG hFc hB hk1) hS1
theorem h_callXv {y : MethodName} {bytes : ByteArray} {maxL nL n index mc ms : Nat} {ret : Option FieldType} {wsy : List Cond} {rm : Room} {Ts : List Cond} {own : String} {As st : List Value} {res : Option (Int32 × AT)} {Es : List String}
    (S : CallFix p m c cc nL s args Ts own) (hM : vx_Met l y wsy rm (HXPc (.ref (ad 0) :: As) D cI cJ cZ cG H.size ad rw q a) (HXQv res D cI cJ cZ cG (HA cI cJ cZ cG ad rw H.size) ad rw q') (HXX Es res a D cI cJ cZ cG (HA cI cJ cZ cG ad rw H.size) ad rw q') mc ms (HA cI cJ cZ cG ad rw H.size)) (cw : CallW R s args own RX8 index y bytes maxL ret wsy rm mc ms n) (hK : va_K D vwCl (tysW cI cJ cZ cG) s) (hF : Foc D cI cJ cZ cG A ad rw G) (hG : G q a H) (hS : va_S A s.heap H locs) (hA : ∀ q, s.heap.size ≤ q → A q) (hT : wThr A s)
    (hlen : As.length = n) (hsize : ls.size = nL) (hst : st = As.reverse ++ .ref (ad 0) :: rest) (hrest : (rest.map fun v => v.category).sum ≤ 8) (hdg : decode cc pc = .ok (.invokevirtual index, 3)) (hroom : cells + mc ≤ R.cells ∧ slots + ms ≤ R.slots)
    (kx : ∀ (E : String) (ce : Cell) (q9 : Addr) (H1 : Heap) (locs1 : List Loc), res = none → E ∈ Es → G q' a H1 → va_S A s.heap H1 locs1 → H1[q9]? = some ce → ce.vm = .none → s.vm.findClass E = some ce.cls → vx_W p l e R s m args below meth c H1 locs1 (cells + mc) (slots + ms) Q (F0 m pc ls rest) q9)
    (kk : ∀ (a' : AT) (H1 : Heap) (locs1 : List Loc), res = some (0, a') → G q' a' H1 → va_S A s.heap H1 locs1 → W p l e R s m args below meth c H1 locs1 (cells + mc) (slots + ms) Q (F0 m (pc + 3) ls rest)) : W p l e R s m args below meth c H locs cells slots Q (F0 m pc ls st) := by
  subst hst
  have hGe := hF.1 q a H hG
  have hFc := hGe.free (sz := H.size) (fun x hx => hA x (Nat.le_trans hS.1 hx))
  refine vx_callv (vx_runV S hM cw (h_preX hK hGe hT hS hFc) rfl hlen hsize rfl (lv_room hrest) hdg hroom) hS (fun q _ h => hFc q h) hFc (fun q _ h => hFc q h) (fun E ce q9 u t H1 locs1 ht hvm hp hB hz hk1 hS1 hc1 hc2 hc3 => ?_) (fun u t H1 locs1 ht hvm hw hB hz1 hk1 hS1 => ?_)
  · rw [ht] at hB
    exact kx E ce q9 H1 locs1 hp hB.1 (hF.2 q a q' a H H1 hG hFc hB.2 hk1) hS1 hc1 hc2 hc3
  · rw [ht] at hB
    exact kk u H1 locs1 hw (hF.2 q a q' u H H1 hG hFc hB hk1) hS1
/-- .. where the answer is known -/
theorem h_callXo {y : MethodName} {bytes : ByteArray} {maxL nL n index mc ms : Nat} {ret : Option FieldType} {wsy : List Cond} {rm : Room} {Ts : List Cond} {own : String} {As st : List Value} {res : Option (Int32 × AT)} {Es : List String} {r0 : Int32} {a0 : AT}
    (S : CallFix p m c cc nL s args Ts own) (hM : vx_Met l y wsy rm (HXPc (.ref (ad 0) :: As) D cI cJ cZ cG H.size ad rw q a) (HXQi res D cI cJ cZ cG (HA cI cJ cZ cG ad rw H.size) ad rw q') (HXX Es res a D cI cJ cZ cG (HA cI cJ cZ cG ad rw H.size) ad rw q') mc ms (HA cI cJ cZ cG ad rw H.size)) (hres : res = some (r0, a0)) (cw : CallW R s args own RX8 index y bytes maxL ret wsy rm mc ms n) (hK : va_K D vwCl (tysW cI cJ cZ cG) s) (hF : Foc D cI cJ cZ cG A ad rw G) (hG : G q a H) (hS : va_S A s.heap H locs) (hA : ∀ q, s.heap.size ≤ q → A q) (hT : wThr A s)
    (hlen : As.length = n) (hsize : ls.size = nL) (hst : st = As.reverse ++ .ref (ad 0) :: rest) (hrest : (rest.map fun v => v.category).sum ≤ 8) (hdg : decode cc pc = .ok (.invokevirtual index, 3)) (hroom : cells + mc ≤ R.cells ∧ slots + ms ≤ R.slots)
    (kk : ∀ (H1 : Heap) (locs1 : List Loc), G q' a0 H1 → va_S A s.heap H1 locs1 → W p l e R s m args below meth c H1 locs1 (cells + mc) (slots + ms) Q (F0 m (pc + 3) ls (.int r0 :: rest))) : W p l e R s m args below meth c H locs cells slots Q (F0 m pc ls st) := by
  refine h_callXi S hM cw hK hF hG hS hA hT hlen hsize hst hrest hdg hroom (fun E ce q9 H1 locs1 hn => ?_) (fun r a' H1 locs1 hr hG1 hS1 => ?_)
  · rw [hres] at hn
    cases hn
  · rw [hres] at hr
    cases hr
    exact kk H1 locs1 hG1 hS1
/-- a method of the hall that throws nothing -/
theorem h_callMi {y : MethodName} {bytes : ByteArray} {maxL nL n index mc ms : Nat} {ret : Option FieldType} {wsy : List Cond} {rm : Room} {Ts : List Cond} {own : String} {As st : List Value} {res : Option (Int32 × AT)}
    (S : CallFix p m c cc nL s args Ts own) (hM : Met l y wsy rm (HXPc (.ref (ad 0) :: As) D cI cJ cZ cG H.size ad rw q a) (HXQi res D cI cJ cZ cG (HA cI cJ cZ cG ad rw H.size) ad rw q') mc ms (HA cI cJ cZ cG ad rw H.size)) (cw : CallW R s args own RX8 index y bytes maxL ret wsy rm mc ms n) (hK : va_K D vwCl (tysW cI cJ cZ cG) s) (hF : Foc D cI cJ cZ cG A ad rw G) (hG : G q a H) (hS : va_S A s.heap H locs) (hA : ∀ q, s.heap.size ≤ q → A q) (hT : wThr A s)
    (hlen : As.length = n) (hsize : ls.size = nL) (hst : st = As.reverse ++ .ref (ad 0) :: rest) (hrest : (rest.map fun v => v.category).sum ≤ 8) (hdg : decode cc pc = .ok (.invokevirtual index, 3)) (hroom : cells + mc ≤ R.cells ∧ slots + ms ≤ R.slots)
    (kk : ∀ (r : Int32) (a' : AT) (H1 : Heap) (locs1 : List Loc), res = some (r, a') → G q' a' H1 → va_S A s.heap H1 locs1 → W p l e R s m args below meth c H1 locs1 (cells + mc) (slots + ms) Q (F0 m (pc + 3) ls (.int r :: rest))) : W p l e R s m args below meth c H locs cells slots Q (F0 m pc ls st) := by
  subst hst
  have hGe := hF.1 q a H hG
  have hFc := hGe.free (sz := H.size) (fun x hx => hA x (Nat.le_trans hS.1 hx))
  refine va_calli (va_runV S hM cw (h_preX hK hGe hT hS hFc) rfl hlen hsize rfl (lv_room hrest) hdg hroom) hS (fun q _ h => hFc q h) hFc (fun r u t H1 locs1 ht hvm hw hB hz1 hk1 hS1 => ?_)
  rw [ht] at hB
  exact kk r u H1 locs1 hw (hF.2 q a q' u H H1 hG hFc hB hk1) hS1
/-- a helper of the law, with a table of its own -/
theorem h_callL {y : MethodName} {bytes : ByteArray} {maxL nL n index mc ms : Nat} {ret : Option FieldType} {hh : List (Nat × Nat × Nat × Nat)} {wsy : List Cond} {rm : Room} {Ts : List Cond} {own : String} {As st : List Value} {r0 : Int64} {a' : AT}
    (S : CallFix p m c cc nL s args Ts own) (hM : Met l y wsy rm (HPc As D cI cJ cZ cG H.size ad rw q a) (HQl r0 a' D cI cJ cZ cG (HA cI cJ cZ cG ad rw H.size) ad rw q') mc ms (HA cI cJ cZ cG ad rw H.size)) (cw : vx_CSW R s args own index y bytes maxL ret hh wsy rm mc ms n) (hK : va_K D vwCl (tysW cI cJ cZ cG) s) (hF : Foc D cI cJ cZ cG A ad rw G) (hG : G q a H) (hS : va_S A s.heap H locs) (hA : ∀ q, s.heap.size ≤ q → A q) (hT : wThr A s) (hN : wNcs s)
    (hlen : As.length = n) (hsize : ls.size = nL) (hst : st = As.reverse ++ rest) (hrest : (rest.map fun v => v.category).sum ≤ 8) (hdg : decode cc pc = .ok (.invokestatic index, 3)) (hroom : cells + mc ≤ R.cells ∧ slots + ms ≤ R.slots)
    (kk : ∀ (H1 : Heap) (locs1 : List Loc), G q' a' H1 → va_S A s.heap H1 locs1 → W p l e R s m args below meth c H1 locs1 (cells + mc) (slots + ms) Q (F0 m (pc + 3) ls (.long r0 :: rest))) : W p l e R s m args below meth c H locs cells slots Q (F0 m pc ls st) := by
  subst hst
  have hGe := hF.1 q a H hG
  have hFc := hGe.free (sz := H.size) (fun x hx => hA x (Nat.le_trans hS.1 hx))
  refine va_calll (vx_runSW S hM cw (h_preL hK hGe hT hN hS hFc) rfl hlen hsize rfl (lv_room hrest) hdg hroom) hS (fun q _ h => hFc q h) hFc (fun r u t H1 locs1 ht hvm hw hB hz1 hk1 hS1 => ?_)
  rw [ht] at hB
  subst hw
  exact kk H1 locs1 (hF.2 q a q' a' H H1 hG hFc hB hk1) hS1
/-- .. without one -/
theorem h_callS {y : MethodName} {bytes : ByteArray} {maxL nL n index mc ms : Nat} {ret : Option FieldType} {wsy : List Cond} {rm : Room} {Ts : List Cond} {own : String} {As st : List Value} {r0 : Int64} {a' : AT}
    (S : CallFix p m c cc nL s args Ts own) (hM : Met l y wsy rm (HPc As D cI cJ cZ cG H.size ad rw q a) (HQl r0 a' D cI cJ cZ cG (HA cI cJ cZ cG ad rw H.size) ad rw q') mc ms (HA cI cJ cZ cG ad rw H.size)) (cw : CallB R s args own index y bytes maxL ret wsy rm mc ms n ∧ (Cond.static y).before args s = true) (hK : va_K D vwCl (tysW cI cJ cZ cG) s) (hF : Foc D cI cJ cZ cG A ad rw G) (hG : G q a H) (hS : va_S A s.heap H locs) (hA : ∀ q, s.heap.size ≤ q → A q) (hT : wThr A s) (hN : wNcs s)
    (hlen : As.length = n) (hsize : ls.size = nL) (hst : st = As.reverse ++ rest) (hrest : (rest.map fun v => v.category).sum ≤ 8) (hdg : decode cc pc = .ok (.invokestatic index, 3)) (hroom : cells + mc ≤ R.cells ∧ slots + ms ≤ R.slots)
    (kk : ∀ (H1 : Heap) (locs1 : List Loc), G q' a' H1 → va_S A s.heap H1 locs1 → W p l e R s m args below meth c H1 locs1 (cells + mc) (slots + ms) Q (F0 m (pc + 3) ls (.long r0 :: rest))) : W p l e R s m args below meth c H locs cells slots Q (F0 m pc ls st) := by
  subst hst
  have hGe := hF.1 q a H hG
  have hFc := hGe.free (sz := H.size) (fun x hx => hA x (Nat.le_trans hS.1 hx))
  refine va_calll (va_runS S hM cw (h_preL hK hGe hT hN hS hFc) rfl hlen hsize rfl (lv_room hrest) hdg hroom) hS (fun q _ h => hFc q h) hFc (fun r u t H1 locs1 ht hvm hw hB hz1 hk1 hS1 => ?_)
  rw [ht] at hB
  subst hw
  exact kk H1 locs1 (hF.2 q a q' a' H H1 hG hFc hB hk1) hS1
/-- a static method that touches no cell -/
theorem h_callP {y : MethodName} {bytes : ByteArray} {maxL nL n index : Nat} {ret : Option FieldType} {wsy : List Cond} {rm : Room} {Ts : List Cond} {own : String} {As st : List Value} {r0 : Int32}
    (S : CallFix p m c cc nL s args Ts own) (hM : Met l y wsy rm (wPc As D (tysW cI cJ cZ cG) H.size []) (wQi r0 [] D (va_A [] H.size)) 0 0 (va_A [] H.size)) (cw : CallB R s args own index y bytes maxL ret wsy rm 0 0 n ∧ (Cond.static y).before args s = true) (hK : va_K D vwCl (tysW cI cJ cZ cG) s)
    (hS : va_S A s.heap H locs) (hA : ∀ q, s.heap.size ≤ q → A q)
    (hlen : As.length = n) (hsize : ls.size = nL) (hst : st = As.reverse ++ rest) (hrest : (rest.map fun v => v.category).sum ≤ 8) (hdg : decode cc pc = .ok (.invokestatic index, 3)) (hroom : cells ≤ R.cells ∧ slots ≤ R.slots)
    (kk : ∀ (H1 : Heap) (locs1 : List Loc), H.size ≤ H1.size → (∀ x : Nat, x < H.size → H1[x]? = H[x]?) → va_S A s.heap H1 locs1 → W p l e R s m args below meth c H1 locs1 cells slots Q (F0 m (pc + 3) ls (.int r0 :: rest))) : W p l e R s m args below meth c H locs cells slots Q (F0 m pc ls st) := by
  subst hst
  have hP0 : va_P D vwCl ([] : va_W) H := fun k q h => by simp at h
  have hD0 : va_D A ([] : va_W) := ⟨fun i j p q h => by simp at h, fun k q h => by simp at h⟩
  have hFc := w_free0 hS hA
  refine va_calli (va_runS S hM cw (w_preS hK hP0 hD0) rfl hlen hsize rfl (lv_room hrest) hdg hroom) hS (fun q _ h => hFc q h) hFc (fun r u t H1 locs1 ht hvm hw hB hz1 hk1 hS1 => ?_)
  subst hw
  refine kk H1 locs1 hz1 (fun x hx => hk1 x hx (fun h => ?_)) hS1
  rcases h with ⟨k, e, h⟩ | h
  · simp at h
  · omega
theorem h_keep {H1 : Heap} (hG : HWe D cI cJ cZ cG A ad rw q a H) (hk : ∀ x : Nat, x < H.size → H1[x]? = H[x]?) : HWe D cI cJ cZ cG A ad rw q a H1 := by
  obtain ⟨σ, h1, h2, h3⟩ := hG
  exact ⟨σ, fun k x hx => (h1 k x hx).kept (hk _ (h1 k x hx).lt), h2, h3⟩
theorem h_keep2 {ad' : Nat → Nat} {rw' : Nat → Nat → Nat} {a' : AT} {H1 : Heap} (hG : HW2 D cI cJ cZ cG A ad rw q a ad' rw' q' a' H) (hk : ∀ x : Nat, x < H.size → H1[x]? = H[x]?) : HW2 D cI cJ cZ cG A ad rw q a ad' rw' q' a' H1 := by
  obtain ⟨σ, τ, h1, h2, h3⟩ := hG
  exact ⟨σ, τ, fun k x hx => (h1 k x hx).kept (hk _ (h1 k x hx).lt), h2, h3⟩
theorem h_lret {v r0 : Int64} {a' : AT} {mc ms : Nat} (hexec : p.tables.exec = Jvm.exec) (hb : c.code = cc) (hr : meth.sig.returnType = some .long) (hlocks : meth.locks = false) (hv : v = r0) (hG : HWe D cI cJ cZ cG A ad rw q a' H) (hS : va_S A s.heap H locs) (hc : cells ≤ mc) (hs : slots ≤ ms) (hdg : decode cc pc = .ok (.lreturn, 1)) : W p l e R s m args below meth c H locs cells slots (MQ below (HQl r0 a' D cI cJ cZ cG A ad rw q) args s mc ms A) (F0 m pc ls [.long v]) :=
  W.widen hc hs (W.lret (v := v) hexec hb hr (fun t ht hW => ⟨⟨v, (), rfl, hv, (by show HWe D cI cJ cZ cG A ad rw q a' t.heap; rw [ht]; exact hG)⟩, hS.F ht⟩) hS.2.2 hdg hlocks)
end HXR
