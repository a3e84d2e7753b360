/-! QROWS: a call of a method over some fixed cells and a rest that stays closed -/
section WQR
variable {p : Program} {l : Launch} {e : Env} {R : Room} {s : State} {m : MethodId} {args : Array Value} {below : List Frame} {meth : Method} {c : Code} {H : Heap} {locs : List Loc} {cells slots : Nat} {Q : State → Prop}
variable {cc : ByteArray} {pc : Nat} {ls : Array Slot} {rest : List Value} {D : va_G} {cl : List vw_C} {A : Nat → Prop} {a : Nat} {tys : List (ClassId × FieldType)} {ws : va_W} {H0 : Heap}
theorem w_permP {ws ws' : va_W} (h : ws.Perm ws') (hP : va_P D cl ws H) : va_P D cl ws' H := fun k q hk => by
  have hm : q ∈ ws := h.mem_iff.mpr (List.mem_of_getElem? hk)
  obtain ⟨i, hi⟩ := List.getElem?_of_mem hm
  exact hP i q hi
theorem w_ndD {ws : va_W} : (∀ (i j : Nat) (p q : Nat × va_E), ws[i]? = some p → ws[j]? = some q → p.1 = q.1 → i = j) ↔ (ws.map Prod.fst).Nodup := by
  constructor
  · intro h
    refine List.pairwise_iff_getElem.mpr (fun i j hi hj hij e => ?_)
    rw [List.length_map] at hi hj
    rw [List.getElem_map, List.getElem_map] at e
    have := h i j _ _ (List.getElem?_eq_getElem hi) (List.getElem?_eq_getElem hj) e
    omega
  · intro h i j p q hp hq e
    have h := List.pairwise_iff_getElem.mp h
    obtain ⟨hi, ep⟩ := List.getElem?_eq_some_iff.mp hp
    obtain ⟨hj, eq⟩ := List.getElem?_eq_some_iff.mp hq
    have key : ∀ (i j : Nat) (hi : i < ws.length) (hj : j < ws.length), i < j → ws[i].1 ≠ ws[j].1 := fun i j hi hj hij z => by
      have := h i j (by rw [List.length_map]; exact hi) (by rw [List.length_map]; exact hj) hij
      rw [List.getElem_map, List.getElem_map] at this
      exact this z
    rcases Nat.lt_trichotomy i j with z | z | z
    · exact absurd (by rw [ep, eq]; exact e) (key i j hi hj z)
    · exact z
    · exact absurd (by rw [ep, eq]; exact e.symm) (key j i hj hi z)
theorem w_permD {ws ws' : va_W} (h : ws.Perm ws') (hD : va_D A ws) : va_D A ws' :=
  ⟨w_ndD.mpr ((h.map Prod.fst).nodup_iff.mp (w_ndD.mp hD.1)), fun k q hk => by
    have hm : q ∈ ws := h.mem_iff.mpr (List.mem_of_getElem? hk)
    obtain ⟨i, hi⟩ := List.getElem?_of_mem hm
    exact hD.2 i q hi⟩
theorem w_lP {X Y : va_W} (h : va_P D cl (X ++ Y) H) : va_P D cl X H := fun k q hk => h k q (by
  rw [List.getElem?_append_left (List.getElem?_eq_some_iff.mp hk).1]
  exact hk)
theorem w_lD {X Y : va_W} (h : va_D A (X ++ Y)) : va_D A X :=
  have k : ∀ (i : Nat) (q : Nat × va_E), X[i]? = some q → (X ++ Y)[i]? = some q := fun i q hk => by
    rw [List.getElem?_append_left (List.getElem?_eq_some_iff.mp hk).1]
    exact hk
  ⟨fun i j p q hp hq e => h.1 i j p q (k i p hp) (k j q hq) e, fun i q hq => h.2 i q (k i q hq)⟩
theorem w_range {α : Type} (l : List α) : (List.range l.length).map (fun i => l[i]?) = l.map some := by
  apply List.ext_getElem
  · rw [List.length_map, List.length_map, List.length_range]
  · intro i h1 h2
    rw [List.getElem_map, List.getElem_map, List.getElem_range]
    rw [List.length_map] at h2
    exact List.getElem?_eq_getElem h2
theorem w_pick {α : Type} {Y X : List α} {isN : List Nat} (hN : isN.map (fun i => Y[i]?) = X.map some) (hnN : isN.isPerm (List.range isN.length) = true) (hw : Y.length = isN.length) : Y.Perm X := by
  have h1 : isN.Perm (List.range Y.length) := by
    rw [hw]
    exact List.isPerm_iff.mp hnN
  have h2 := h1.map (fun i => Y[i]?)
  rw [w_range, hN] at h2
  have h3 := h2.filterMap id
  have e : ∀ l : List α, (l.map some).filterMap id = l := fun l => by simp
  rw [e, e] at h3
  exact h3.symm
theorem w_backQ {X pl wc wr w1 ws1 : va_W} {H1 : Heap} {t : State} (hP : va_P D vwCl (X ++ pl) H) (hD : va_D A (X ++ pl)) (hS : va_S A s.heap H locs) (hA : ∀ q, s.heap.size ≤ q → A q) (isC isR isN : List Nat) (hC : isC.map (fun i => X[i]?) = wc.map some) (hR : isR.map (fun i => X[i]?) = wr.map some) (hn : va_nd isR = true) (hdis : ∀ i ∈ isR, i ∉ isC) (hN : isN.map (fun i => (wr ++ w1)[i]?) = ws1.map some) (hnN : isN.isPerm (List.range isN.length) = true) (hwN : (wr ++ w1).length = isN.length)
    (ht : t.heap = H1) (hB : va_P D vwCl w1 t.heap ∧ va_D (va_A wc H.size) w1) (hk1 : ∀ q : Nat, q < H.size → ¬ va_A wc H.size q → H1[q]? = H[q]?) : va_P D vwCl (ws1 ++ pl) H1 ∧ va_D A (ws1 ++ pl) := by
  obtain ⟨hP1, hD1⟩ := hB
  rw [ht] at hP1
  obtain ⟨g1, g2⟩ := va_joinQ hP hD isC isR hC hR hn hdis hk1 (va_free (w_lD hD) hS hA isC hC) hP1 hD1
  have hp := (w_pick hN hnN hwN).append_right pl
  exact ⟨w_permP hp g1, w_permD hp g2⟩
theorem w_blkPerm (Bs : List va_W) (π1 π2 : List Nat) (h : (π1 ++ π2).isPerm (List.range Bs.length) = true) : Bs.flatten.Perm ((π1.map (fun i => Bs.getD i [])).flatten ++ (π2.map (fun i => Bs.getD i [])).flatten) := by
  rw [← List.flatten_append, ← List.map_append]
  refine List.Perm.flatten ?_
  have h2 := (List.isPerm_iff.mp h).map (fun i => Bs.getD i [])
  have e : (List.range Bs.length).map (fun i => Bs.getD i []) = Bs := by
    apply List.ext_getElem
    · rw [List.length_map, List.length_range]
    · intro i h1 h2
      rw [List.getElem_map, List.getElem_range, List.getD_eq_getElem?_getD, List.getElem?_eq_getElem h2, Option.getD_some]
  rw [e] at h2
  exact h2.symm
theorem w_callViQ {y : MethodName} {bytes : ByteArray} {maxL nL n index : Nat} {ret : Option FieldType} {wsy : List Cond} {rm : Room} {Ts : List Cond} {own C : String} {As st : List Value} {b : Nat} {X pl wc wr w1 ws1 : va_W} {r0 : Int32}
    (S : CallFix p m c cc nL s args Ts own) (hM : Met l y wsy rm (wPc (.ref b :: As) D tys H.size wc) (wQi r0 w1 D (va_A wc H.size)) 0 0 (va_A wc H.size)) (cw : CallW R s args own C index y bytes maxL ret wsy rm 0 0 n) (hK : va_K D vwCl tys s) (q0 ci : Nat) {fs : List Value} {qc : vw_C} (hq : wc[q0]? = some (b, .inr (ci, fs))) (hcl : vwCl[ci]? = some qc) (hqC : qc.1 = C)
    (hP : va_P D vwCl (X ++ pl) H) (hD : va_D A (X ++ pl)) (hS : va_S A s.heap H locs) (hA : ∀ q, s.heap.size ≤ q → A q) (isC isR isN : List Nat) (hC : isC.map (fun i => X[i]?) = wc.map some) (hnC : va_nd isC = true) (hR : isR.map (fun i => X[i]?) = wr.map some) (hn : va_nd isR = true) (hdis : ∀ i ∈ isR, i ∉ isC) (hN : isN.map (fun i => (wr ++ w1)[i]?) = ws1.map some) (hnN : isN.isPerm (List.range isN.length) = true) (hwN : (wr ++ w1).length = isN.length)
    (hlen : As.length = n) (hsize : ls.size = nL) (hst : st = As.reverse ++ .ref b :: rest) (hrest : (rest.map fun v => v.category).sum ≤ 8) (hdg : decode cc pc = .ok (.invokevirtual index, 3)) (hroom : cells ≤ R.cells ∧ slots ≤ R.slots)
    (kk : ∀ (H1 : Heap) (locs1 : List Loc), va_P D vwCl (ws1 ++ pl) H1 → va_D A (ws1 ++ pl) → va_S A s.heap H1 locs1 → W p l e R s m args below meth c H1 locs1 cells slots Q (F0 m (pc + 3) ls (.int r0 :: rest))) : W p l e R s m args below meth c H locs cells slots Q (F0 m pc ls st) := by
  subst hst
  have hPc := (w_lP hP).sub isC (w_fm hC)
  have hDc := (w_lD hD).sub isC hnC hC
  have hFc := va_free (w_lD hD) hS hA isC hC
  refine va_calli (va_runV S hM cw (w_preV hK hPc hDc q0 ci hq hcl hqC) rfl hlen hsize rfl (lv_room hrest) hdg hroom) hS (fun q _ h => hFc q h) hFc (fun r_2 u t H1 locs1 ht hvm hw hB hz1 hk1 hS1 => ?_)
  obtain ⟨g1, g2⟩ := w_backQ hP hD hS hA isC isR isN hC hR hn hdis hN hnN hwN ht hB hk1
  subst hw
  exact kk H1 locs1 g1 g2 hS1
theorem w_callVzQ {y : MethodName} {bytes : ByteArray} {maxL nL n index : Nat} {ret : Option FieldType} {wsy : List Cond} {rm : Room} {Ts : List Cond} {own C : String} {As st : List Value} {b : Nat} {X pl wc wr w1 ws1 : va_W} {r0 : Int32}
    (S : CallFix p m c cc nL s args Ts own) (hM : Met l y wsy rm (wPc (.ref b :: As) D tys H.size wc) (wQz r0 w1 D (va_A wc H.size)) 0 0 (va_A wc H.size)) (cw : CallW R s args own C index y bytes maxL ret wsy rm 0 0 n) (hK : va_K D vwCl tys s) (q0 ci : Nat) {fs : List Value} {qc : vw_C} (hq : wc[q0]? = some (b, .inr (ci, fs))) (hcl : vwCl[ci]? = some qc) (hqC : qc.1 = C)
    (hP : va_P D vwCl (X ++ pl) H) (hD : va_D A (X ++ pl)) (hS : va_S A s.heap H locs) (hA : ∀ q, s.heap.size ≤ q → A q) (isC isR isN : List Nat) (hC : isC.map (fun i => X[i]?) = wc.map some) (hnC : va_nd isC = true) (hR : isR.map (fun i => X[i]?) = wr.map some) (hn : va_nd isR = true) (hdis : ∀ i ∈ isR, i ∉ isC) (hN : isN.map (fun i => (wr ++ w1)[i]?) = ws1.map some) (hnN : isN.isPerm (List.range isN.length) = true) (hwN : (wr ++ w1).length = isN.length)
    (hlen : As.length = n) (hsize : ls.size = nL) (hst : st = As.reverse ++ .ref b :: rest) (hrest : (rest.map fun v => v.category).sum ≤ 8) (hdg : decode cc pc = .ok (.invokevirtual index, 3)) (hroom : cells ≤ R.cells ∧ slots ≤ R.slots)
    (kk : wB r0 → ∀ (H1 : Heap) (locs1 : List Loc), va_P D vwCl (ws1 ++ pl) H1 → va_D A (ws1 ++ pl) → va_S A s.heap H1 locs1 → W p l e R s m args below meth c H1 locs1 cells slots Q (F0 m (pc + 3) ls (.int r0 :: rest))) : W p l e R s m args below meth c H locs cells slots Q (F0 m pc ls st) := by
  subst hst
  have hPc := (w_lP hP).sub isC (w_fm hC)
  have hDc := (w_lD hD).sub isC hnC hC
  have hFc := va_free (w_lD hD) hS hA isC hC
  refine va_calli (va_runV S hM cw (w_preV hK hPc hDc q0 ci hq hcl hqC) rfl hlen hsize rfl (lv_room hrest) hdg hroom) hS (fun q _ h => hFc q h) hFc (fun r_2 u t H1 locs1 ht hvm hw hB hz1 hk1 hS1 => ?_)
  obtain ⟨g1, g2⟩ := w_backQ hP hD hS hA isC isR isN hC hR hn hdis hN hnN hwN ht hB hk1
  obtain ⟨rfl, hw⟩ := hw
  exact kk hw H1 locs1 g1 g2 hS1
theorem w_callVvQ {y : MethodName} {bytes : ByteArray} {maxL nL n index : Nat} {ret : Option FieldType} {wsy : List Cond} {rm : Room} {Ts : List Cond} {own C : String} {As st : List Value} {b : Nat} {X pl wc wr w1 ws1 : va_W}
    (S : CallFix p m c cc nL s args Ts own) (hM : Met l y wsy rm (wPc (.ref b :: As) D tys H.size wc) (wQv w1 D (va_A wc H.size)) 0 0 (va_A wc H.size)) (cw : CallW R s args own C index y bytes maxL ret wsy rm 0 0 n) (hK : va_K D vwCl tys s) (q0 ci : Nat) {fs : List Value} {qc : vw_C} (hq : wc[q0]? = some (b, .inr (ci, fs))) (hcl : vwCl[ci]? = some qc) (hqC : qc.1 = C)
    (hP : va_P D vwCl (X ++ pl) H) (hD : va_D A (X ++ pl)) (hS : va_S A s.heap H locs) (hA : ∀ q, s.heap.size ≤ q → A q) (isC isR isN : List Nat) (hC : isC.map (fun i => X[i]?) = wc.map some) (hnC : va_nd isC = true) (hR : isR.map (fun i => X[i]?) = wr.map some) (hn : va_nd isR = true) (hdis : ∀ i ∈ isR, i ∉ isC) (hN : isN.map (fun i => (wr ++ w1)[i]?) = ws1.map some) (hnN : isN.isPerm (List.range isN.length) = true) (hwN : (wr ++ w1).length = isN.length)
    (hlen : As.length = n) (hsize : ls.size = nL) (hst : st = As.reverse ++ .ref b :: rest) (hrest : (rest.map fun v => v.category).sum ≤ 8) (hdg : decode cc pc = .ok (.invokevirtual index, 3)) (hroom : cells ≤ R.cells ∧ slots ≤ R.slots)
    (kk : ∀ (H1 : Heap) (locs1 : List Loc), va_P D vwCl (ws1 ++ pl) H1 → va_D A (ws1 ++ pl) → va_S A s.heap H1 locs1 → W p l e R s m args below meth c H1 locs1 cells slots Q (F0 m (pc + 3) ls rest)) : W p l e R s m args below meth c H locs cells slots Q (F0 m pc ls st) := by
  subst hst
  have hPc := (w_lP hP).sub isC (w_fm hC)
  have hDc := (w_lD hD).sub isC hnC hC
  have hFc := va_free (w_lD hD) hS hA isC hC
  refine va_callv (va_runV S hM cw (w_preV hK hPc hDc q0 ci hq hcl hqC) rfl hlen hsize rfl (lv_room hrest) hdg hroom) hS (fun q _ h => hFc q h) hFc (fun u t H1 locs1 ht hvm hw hB hz1 hk1 hS1 => ?_)
  obtain ⟨g1, g2⟩ := w_backQ hP hD hS hA isC isR isN hC hR hn hdis hN hnN hwN ht hB hk1
  exact kk H1 locs1 g1 g2 hS1
theorem w_callHQ {y : MethodName} {bytes : ByteArray} {maxL nL n index mc ms : Nat} {ret : Option FieldType} {hh : List (Nat × Nat × Nat × Nat)} {wsy : List Cond} {rm : Room} {Ts : List Cond} {own : String} {As st : List Value} {X pl wc wr w1 ws1 : va_W} {r0 : Int32}
    (S : CallFix p m c cc nL s args Ts own) (hM : Met l y wsy rm (wLPc As D tys H.size wc) (wQi r0 w1 D (va_A wc H.size)) mc ms (va_A wc H.size)) (cw : vx_CSW R s args own index y bytes maxL ret hh wsy rm mc ms n) (hK : va_K D vwCl tys s)
    (hP : va_P D vwCl (X ++ pl) H) (hD : va_D A (X ++ pl)) (hS : va_S A s.heap H locs) (hA : ∀ q, s.heap.size ≤ q → A q) (hT : wThr A s) (hNc : wNcs s) (isC isR isN : List Nat) (hC : isC.map (fun i => X[i]?) = wc.map some) (hnC : va_nd isC = true) (hR : isR.map (fun i => X[i]?) = wr.map some) (hn : va_nd isR = true) (hdis : ∀ i ∈ isR, i ∉ isC) (hN : isN.map (fun i => (wr ++ w1)[i]?) = ws1.map some) (hnN : isN.isPerm (List.range isN.length) = true) (hwN : (wr ++ w1).length = isN.length)
    (hlen : As.length = n) (hsize : ls.size = nL) (hst : st = As.reverse ++ rest) (hrest : (rest.map fun v => v.category).sum ≤ 8) (hdg : decode cc pc = .ok (.invokestatic index, 3)) (hroom : cells + mc ≤ R.cells ∧ slots + ms ≤ R.slots)
    (kk : ∀ (H1 : Heap) (locs1 : List Loc), va_P D vwCl (ws1 ++ pl) H1 → va_D A (ws1 ++ pl) → va_S A s.heap H1 locs1 → W p l e R s m args below meth c H1 locs1 (cells + mc) (slots + ms) Q (F0 m (pc + 3) ls (.int r0 :: rest))) : W p l e R s m args below meth c H locs cells slots Q (F0 m pc ls st) := by
  subst hst
  have hPc := (w_lP hP).sub isC (w_fm hC)
  have hDc := (w_lD hD).sub isC hnC hC
  have hFc := va_free (w_lD hD) hS hA isC hC
  refine va_calli (vx_runSW S hM cw (w_preLS hK hPc hDc hT hNc hS hFc) rfl hlen hsize rfl (lv_room hrest) hdg hroom) hS (fun q _ h => hFc q h) hFc (fun r_2 u t H1 locs1 ht hvm hw hB hz1 hk1 hS1 => ?_)
  obtain ⟨g1, g2⟩ := w_backQ hP hD hS hA isC isR isN hC hR hn hdis hN hnN hwN ht hB hk1
  subst hw
  exact kk H1 locs1 g1 g2 hS1
end WQR
