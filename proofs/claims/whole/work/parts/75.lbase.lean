/-! LBASE: rows for the law and its helpers -/
def wNcs (U : State) : Prop := ∀ q ∈ [("java/lang/IllegalArgumentException", "java/lang/IllegalStateException"), ("java/lang/IllegalArgumentException", "java/lang/IndexOutOfBoundsException"), ("java/lang/IllegalStateException", "java/lang/IllegalArgumentException"), ("java/lang/IllegalStateException", "java/lang/IndexOutOfBoundsException"), ("java/lang/IndexOutOfBoundsException", "java/lang/IllegalArgumentException"), ("java/lang/IndexOutOfBoundsException", "java/lang/IllegalStateException")], va_Nc q.1 q.2 U
theorem wNcs.moved {u U : State} (hvm : u.vm.Alike U.vm) (h : wNcs u) : wNcs U := fun q hq => va_Nc.moved hvm (h q hq)
theorem w_in01 : vp_in 0 1 := by
  unfold vp_in
  decide
def wLPc (av : List Value) (D : va_G) (tys : List (ClassId × FieldType)) (sz : Nat) (ws : va_W) : Array Value → State → Prop := va_Pc av (fun U => U.heap.size = sz ∧ va_P D vwCl ws U.heap ∧ va_K D vwCl tys U ∧ va_D (fun _ => True) ws ∧ wThr (va_A ws sz) U ∧ wNcs U)
theorem wLPc_blind {av : List Value} {D : va_G} {tys : List (ClassId × FieldType)} {sz : Nat} {ws : va_W} : FrameBlind (wLPc av D tys sz ws) := fun a U g mk q => by
  obtain ⟨q0, q1, qP, qK, qD, qT, qN⟩ := q
  exact ⟨q0, q1, qP, va_K.moved (u := U) (U := U.calling g mk a) (Vm.Alike.refl U.vm) qK, qD, qT.calling g mk a, wNcs.moved (u := U) (U := U.calling g mk a) (Vm.Alike.refl U.vm) qN⟩
section WLR
variable {p : Program} {l : Launch} {e : Env} {R : Room} {s : State} {m : MethodId} {args : Array Value} {below : List Frame} {meth : Method} {c : Code} {H : Heap} {locs : List Loc} {cells slots : Nat} {Q : State → Prop}
variable {cc : ByteArray} {pc : Nat} {ls : Array Slot} {rest : List Value} {D : va_G} {cl : List vw_C} {A : Nat → Prop} {a : Nat} {tys : List (ClassId × FieldType)} {ws : va_W} {H0 : Heap}
theorem w_preLS {wc : va_W} {As : List Value} (hK : va_K D vwCl tys s) (hPc : va_P D vwCl wc H) (hDc : va_D A wc) (hT : wThr A s) (hN : wNcs s) (hS : va_S A s.heap H locs) (hAB : ∀ q, va_A wc H.size q → A q) : PreS s H (wLPc As D tys H.size wc) As :=
  ⟨wLPc_blind, fun U hU hW => ⟨rfl, by rw [hU], by rw [hU]; exact hPc, va_K.moved hW.alike hK, hDc.weaken (fun _ _ _ _ => trivial), hT.to hS hU hW hAB, hN.moved hW.alike⟩⟩
theorem w_callH {y : MethodName} {bytes : ByteArray} {maxL nL n index mc ms : Nat} {ret : Option FieldType} {hh : List (Nat × Nat × Nat × Nat)} {wsy : List Cond} {rm : Room} {Ts : List Cond} {own : String} {As st : List Value} {wc wr w1 ws1 : va_W} {r0 : Int32}
    (S : CallFix p m c cc nL s args Ts own) (hM : Met l y wsy rm (wLPc As D tys H.size wc) (wQi r0 w1 D (va_A wc H.size)) mc ms (va_A wc H.size)) (cw : vx_CSW R s args own index y bytes maxL ret hh wsy rm mc ms n) (hK : va_K D vwCl tys s)
    (hP : va_P D vwCl ws H) (hD : va_D A ws) (hS : va_S A s.heap H locs) (hA : ∀ q, s.heap.size ≤ q → A q) (hT : wThr A s) (hNc : wNcs s) (isC isR isN : List Nat) (hC : isC.map (fun i => ws[i]?) = wc.map some) (hnC : va_nd isC = true) (hR : isR.map (fun i => ws[i]?) = wr.map some) (hn : va_nd isR = true) (hdis : ∀ i ∈ isR, i ∉ isC) (hN : isN.map (fun i => (wr ++ w1)[i]?) = ws1.map some) (hnN : va_nd isN = true)
    (hlen : As.length = n) (hsize : ls.size = nL) (hst : st = As.reverse ++ rest) (hrest : (rest.map fun v => v.category).sum ≤ 8) (hdg : decode cc pc = .ok (.invokestatic index, 3)) (hroom : cells + mc ≤ R.cells ∧ slots + ms ≤ R.slots)
    (kk : ∀ (H1 : Heap) (locs1 : List Loc), va_P D vwCl ws1 H1 → va_D A ws1 → va_S A s.heap H1 locs1 → W p l e R s m args below meth c H1 locs1 (cells + mc) (slots + ms) Q (F0 m (pc + 3) ls (.int r0 :: rest))) : W p l e R s m args below meth c H locs cells slots Q (F0 m pc ls st) := by
  subst hst
  have hPc := hP.sub isC (w_fm hC)
  have hDc := hD.sub isC hnC hC
  have hFc := va_free hD hS hA isC hC
  refine va_calli (vx_runSW S hM cw (w_preLS hK hPc hDc hT hNc hS hFc) rfl hlen hsize rfl (lv_room hrest) hdg hroom) hS (fun q _ h => hFc q h) hFc (fun r_2 u t H1 locs1 ht hvm hw hB hz1 hk1 hS1 => ?_)
  obtain ⟨g1, g2⟩ := w_back hP hD hS hA isC isR isN hC hR hn hdis hN hnN ht hB hk1
  subst hw
  exact kk H1 locs1 g1 g2 hS1
end WLR

