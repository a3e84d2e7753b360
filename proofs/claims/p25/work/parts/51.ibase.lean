/-! IBASE: rows for constructors -/
def nestX8 : List (Nat × MethodName) := [(9, yX2_init), (18, yX5_init), (32, yX4_init), (39, yX1_init), (46, yX0_init)]
def wIni (U : State) : Prop := va_AOA .int U ∧ ∀ q ∈ nestX8, va_Nw (.methodLinkNest RX8 q.1 q.2 "Sleevehall") U
theorem wIni.warm {s U : State} (hW : s.WarmedH U.vm) (h : wIni s) : wIni U := by
  refine ⟨?_, fun q hq => va_Nw.warmM hW (h.2 q hq)⟩
  have e : (Cond.arrayOver (.array .int)).before #[] U = (Cond.arrayOver (.array .int)).before #[] (s.setVm U.vm) := rfl
  show (Cond.arrayOver (.array .int)).before #[] U = true
  rw [e, Cond.arrayOver_setVmC hW.alike]
  exact h.1
def wIPc (av : List Value) (D : va_G) (tys : List (ClassId × FieldType)) (sz : Nat) (ws : va_W) : Array Value → State → Prop := va_Pc av (fun U => U.heap.size = sz ∧ va_P D vwCl ws U.heap ∧ va_K D vwCl tys U ∧ va_D (fun _ => True) ws ∧ wIni U)
theorem wIPc_blind {av : List Value} {D : va_G} {tys : List (ClassId × FieldType)} {sz : Nat} {ws : va_W} : FrameBlind (wIPc av D tys sz ws) := fun a U g mk q => by
  obtain ⟨q0, q1, qP, qK, qD, qI⟩ := q
  exact ⟨q0, q1, qP, va_K.moved (u := U) (U := U.calling g mk a) (Vm.Alike.refl U.vm) qK, qD, wIni.warm (s := U) (U := U.calling g mk a) (State.WarmedH.refl U) qI⟩
section WIR
variable {p : Program} {l : Launch} {e : Env} {R : Room} {s : State} {m : MethodId} {args : Array Value} {below : List Frame} {meth : Method} {c : Code} {H : Heap} {locs : List Loc} {cells slots : Nat} {Q : State → Prop}
variable {cc : ByteArray} {pc : Nat} {ls : Array Slot} {rest : List Value} {D : va_G} {cl : List vw_C} {A : Nat → Prop} {a : Nat} {tys : List (ClassId × FieldType)} {ws : va_W} {H0 : Heap}
theorem w_preI {wc : va_W} {As : List Value} (hK : va_K D vwCl tys s) (hPc : va_P D vwCl wc H) (hDc : va_D A wc) (hI : wIni s) : PreS s H (wIPc As D tys H.size wc) As :=
  ⟨wIPc_blind, fun U hU hW => ⟨rfl, by rw [hU], by rw [hU]; exact hPc, va_K.moved hW.alike hK, hDc.weaken (fun _ _ _ _ => trivial), hI.warm hW⟩⟩
theorem w_newI {cX : ClassId} (hexec : p.tables.exec = Jvm.exec) (hb : c.code = cc) (harr : (Cond.arrayClass .int).before args s = true) (hK : va_K D vwCl tys s) (t0 : Nat) (ht : tys[t0]? = some (cX, .int)) (hP : va_P D vwCl ws H) (hD : va_D A ws) (hS : va_S A H0 H locs) (hA : ∀ q, H0.size ≤ q → A q) {n : Int32} {N' : Nat} (hn : ¬ n < 0) (hN : n.toNatClampNeg = N') (hbytes : N' * 4 ≤ 536870912) (hcells : cells + 1 ≤ R.cells) (hslots : slots + N' ≤ R.slots) (hdg : decode cc pc = .ok (.newarray .int, 2))
    (kk : ∀ (q : Nat) (H1 : Heap), va_P D vwCl (ws ++ [(q, .inl (cX, N', .inl (fun _ => 0)))]) H1 → va_D A (ws ++ [(q, .inl (cX, N', .inl (fun _ => 0)))]) → va_S A H0 H1 locs → W p l e R s m args below meth c H1 locs (cells + 1) (slots + N') Q (F0 m (pc + 2) ls (.ref q :: rest))) : W p l e R s m args below meth c H locs cells slots Q (F0 m pc ls (.int n :: rest)) := by
  refine va_newa (atype := .int) (ty := .int) (a0 := (N', .inl (fun _ => 0))) hexec hb harr rfl hK hP hD hS hA (fun cA => rfl) hn hN hbytes hcells hslots hdg (fun q cA H1 hK1 hP1 hD1 hS1 => ?_)
  have e : cA = cX := by
    have h1 := (hK1.2 tys.length (cA, .int) (by simp)).2
    have h2 := (hK.2 t0 _ ht).2
    exact Option.some.inj (h1.symm.trans h2)
  subst e
  exact kk q H1 hP1 hD1 hS1
theorem w_newJ {cX : ClassId} (hexec : p.tables.exec = Jvm.exec) (hb : c.code = cc) (harr : (Cond.arrayClass .long).before args s = true) (hK : va_K D vwCl tys s) (t0 : Nat) (ht : tys[t0]? = some (cX, .long)) (hP : va_P D vwCl ws H) (hD : va_D A ws) (hS : va_S A H0 H locs) (hA : ∀ q, H0.size ≤ q → A q) {n : Int32} {N' : Nat} (hn : ¬ n < 0) (hN : n.toNatClampNeg = N') (hbytes : N' * 8 ≤ 536870912) (hcells : cells + 1 ≤ R.cells) (hslots : slots + N' ≤ R.slots) (hdg : decode cc pc = .ok (.newarray .long, 2))
    (kk : ∀ (q : Nat) (H1 : Heap), va_P D vwCl (ws ++ [(q, .inl (cX, N', .inr (.inl (fun _ => 0))))]) H1 → va_D A (ws ++ [(q, .inl (cX, N', .inr (.inl (fun _ => 0))))]) → va_S A H0 H1 locs → W p l e R s m args below meth c H1 locs (cells + 1) (slots + N') Q (F0 m (pc + 2) ls (.ref q :: rest))) : W p l e R s m args below meth c H locs cells slots Q (F0 m pc ls (.int n :: rest)) := by
  refine va_newa (atype := .long) (ty := .long) (a0 := (N', .inr (.inl (fun _ => 0)))) hexec hb harr rfl hK hP hD hS hA (fun cA => rfl) hn hN hbytes hcells hslots hdg (fun q cA H1 hK1 hP1 hD1 hS1 => ?_)
  have e : cA = cX := by
    have h1 := (hK1.2 tys.length (cA, .long) (by simp)).2
    have h2 := (hK.2 t0 _ ht).2
    exact Option.some.inj (h1.symm.trans h2)
  subst e
  exact kk q H1 hP1 hD1 hS1
theorem w_newZ {cX : ClassId} (hexec : p.tables.exec = Jvm.exec) (hb : c.code = cc) (harr : (Cond.arrayClass .boolean).before args s = true) (hK : va_K D vwCl tys s) (t0 : Nat) (ht : tys[t0]? = some (cX, .boolean)) (hP : va_P D vwCl ws H) (hD : va_D A ws) (hS : va_S A H0 H locs) (hA : ∀ q, H0.size ≤ q → A q) {n : Int32} {N' : Nat} (hn : ¬ n < 0) (hN : n.toNatClampNeg = N') (hbytes : N' * 1 ≤ 536870912) (hcells : cells + 1 ≤ R.cells) (hslots : slots + N' ≤ R.slots) (hdg : decode cc pc = .ok (.newarray .boolean, 2))
    (kk : ∀ (q : Nat) (H1 : Heap), va_P D vwCl (ws ++ [(q, .inl (cX, N', .inl (fun _ => 0)))]) H1 → va_D A (ws ++ [(q, .inl (cX, N', .inl (fun _ => 0)))]) → va_S A H0 H1 locs → W p l e R s m args below meth c H1 locs (cells + 1) (slots + N') Q (F0 m (pc + 2) ls (.ref q :: rest))) : W p l e R s m args below meth c H locs cells slots Q (F0 m pc ls (.int n :: rest)) := by
  refine va_newa (atype := .boolean) (ty := .boolean) (a0 := (N', .inl (fun _ => 0))) hexec hb harr rfl hK hP hD hS hA (fun cA => rfl) hn hN hbytes hcells hslots hdg (fun q cA H1 hK1 hP1 hD1 hS1 => ?_)
  have e : cA = cX := by
    have h1 := (hK1.2 tys.length (cA, .boolean) (by simp)).2
    have h2 := (hK.2 t0 _ ht).2
    exact Option.some.inj (h1.symm.trans h2)
  subst e
  exact kk q H1 hP1 hD1 hS1
theorem w_mna {cI cG : ClassId} (hexec : p.tables.exec = Jvm.exec) (hb : c.code = cc) {own : String} {index : Nat} (hown : s.vm.findClass own = some m.cls) (hclink : (Cond.classLink own index "[[I").before args s = true) (hover : va_AOA .int s) (harr : (Cond.arrayClass .int).before args s = true) (hK : va_K D vwCl tys s) (t0 t3 : Nat) (ht0 : tys[t0]? = some (cI, .int)) (ht3 : tys[t3]? = some (cG, .array .int)) (hP : va_P D vwCl ws H) (hD : va_D A ws) (hS : va_S A H0 H locs) (hA : ∀ q, H0.size ≤ q → A q) {k : Int32} {K' : Nat} (hk : ¬ k < 0) (hM : k.toNatClampNeg = K') (hb2 : K' * 4 ≤ 536870912) (hcells : cells + 7 ≤ R.cells) (hslots : slots + (6 + 6 * K') ≤ R.slots) (hdg : decode cc pc = .ok (.multianewarray index 2, 4))
    (kk : ∀ (q : Nat) (r : Nat → Nat) (H1 : Heap), va_P D vwCl (ws ++ (gOut q r cG 6 :: gRows r cI K' (fun _ _ => 0))) H1 → va_D A (ws ++ (gOut q r cG 6 :: gRows r cI K' (fun _ _ => 0))) → va_S A H0 H1 locs → W p l e R s m args below meth c H1 locs (cells + 7) (slots + (6 + 6 * K')) Q (F0 m (pc + 4) ls (.ref q :: rest))) : W p l e R s m args below meth c H locs cells slots Q (F0 m pc ls (.int k :: .int 6 :: rest)) := by
  have hP' : va_P D vwCl (ws ++ va_pl [] (fun _ => .inr (0, []))) H := by rw [show va_pl [] (fun _ => Sum.inr (0, [])) = ([] : va_W) from rfl, List.append_nil]; exact hP
  have hD' : va_D A (ws ++ va_pl [] (fun _ => .inr (0, []))) := by rw [show va_pl [] (fun _ => Sum.inr (0, [])) = ([] : va_W) from rfl, List.append_nil]; exact hD
  have hcl2 : (Cond.classLink own index ("[" ++ (FieldType.array FieldType.int).toString)).before args s = true := by
    rw [show ("[" ++ (FieldType.array FieldType.int).toString) = "[[I" by decide +kernel]
    exact hclink
  refine va_mna (ty := .int) (cy := cI) (z := (K', .inl (fun _ => 0))) (N' := 6) (K' := K') hexec hb hown hcl2 hover harr (hK.2 t0 _ ht0).2 hK hP' hD' hS hA (by decide) hk (by decide) hM (by decide) hb2 (Nat.le_trans (Nat.le_mul_of_pos_right K' (by decide : 0 < 4)) hb2) (by decide) (by decide) (by omega) (by omega) (fun c => by show ({ cls := c, slots := Array.replicate K' (.int 0), vm := .none } : Cell) = _; rw [arrV_new]; rfl) hdg (fun q r cA H1 hinj hfresh hK1 hP1 hD1 hS1 => ?_)
  have e : cA = cG := by
    have h1 := (hK1.2 tys.length (cA, .array .int) (by simp)).2
    have h2 := (hK.2 t3 _ ht3).2
    exact Option.some.inj (h1.symm.trans h2)
  subst e
  have ew : (ws ++ [(q, Sum.inl (cA, 6, Sum.inr (Sum.inr (Sum.inr (Sum.inr (fun i => if i < 6 then some (r i) else none))))))]) ++ va_pl ([] ++ (List.range 6).map r) (vr_up (fun _ => Sum.inr (0, [])) ((List.range 6).map r) (.inl (cI, (K', Sum.inl (fun _ => 0))))) = ws ++ (gOut q r cA 6 :: gRows r cI K' (fun _ _ => 0)) := by
    rw [List.append_assoc]
    congr 1
    simp [va_pl, vr_up, List.range_succ, gRows]
  rw [ew] at hP1 hD1
  have e1 : cells + 1 + 6 = cells + 7 := by omega
  have e2 : slots + 6 + 6 * K' = slots + (6 + 6 * K') := by omega
  rw [e1, e2]
  exact kk q r H1 hP1 hD1 hS1
end WIR

