/-! low and cell -/
def fL_low (p1 : Int32) (p2 : Int32) : Option (Int32) :=
  ck (nz p2) <|
  some ((p1 &&& 2147483647) - (p1 &&& 2147483647) / p2 * p2)
abbrev wcL_low (cI cJ cZ cG : ClassId) : va_W := []
theorem mL_low_0 : (Cond.constant RL 7 (2147483647)) ∈ wsL_low := by decide +kernel
abbrev rmL_low : Room := { frames := 0, cells := 0, slots := 0, locals := 0 }
set_option maxHeartbeats 4000000 in
set_option maxRecDepth 100000 in
theorem oL_low (l : Launch) (dC : Nat → ClassId) (dI : Nat → Nat → Nat) (cI cJ cZ cG : ClassId) (sz : Nat) (p1 : Int32) (p2 : Int32) (r0 : Int32) (hf : fL_low p1 p2 = some r0) : Met l yL_low wsL_low rmL_low (wPc [.int p1, .int p2] (dC, dI) (tysW cI cJ cZ cG) sz (wcL_low cI cJ cZ cG )) (wQi r0 (wcL_low cI cJ cZ cG ) (dC, dI) (va_A (wcL_low cI cJ cZ cG ) sz)) 0 0 (va_A (wcL_low cI cJ cZ cG ) sz) := by
  refine Met.ofW (cc := cL_low) (maxL := 2) (ret := (some .int)) (by decide) rfl ?_
  intro p e s m args below meth c s₁ B hml hv
  obtain ⟨rfl, hsz, hP, hK, hD0⟩ := hv
  have hx := B.exec
  have hb := B.bytes
  have hr := B.returns
  have hts := atoms_spec (ws := wsL_low) B.pre
  have hown : s.vm.findClass RL = some m.cls := findClass_of_methodNamed B.named
  have hlocks := B.notSynchronized
  subst hsz
  have hD := hD0.self (sz := s.heap.size)
  generalize hAe : va_A (wcL_low cI cJ cZ cG ) s.heap.size = A at hD ⊢
  have hA : ∀ q : Nat, s.heap.size ≤ q → A q := fun q h => by rw [← hAe]; exact Or.inr h
  have hS : va_S A s.heap s.heap [] := va_S.rf
  have hP : va_P (dC, dI) vwCl (wcL_low cI cJ cZ cG ) s.heap := hP
  have hl := lv_entry ([.int p1, .int p2]) (n := 2) (Nat.le_of_ble_eq_true rfl)
  rw [lg_entry_eq]
  generalize (lg_sl ([.int p1, .int p2]) ++ List.replicate (2 - (lg_sl ([.int p1, .int p2])).length) Slot.unset).toArray = ls at hl ⊢
  have hl : lv_has ls 2 [(0, .int p1), (1, .int p2)] := hl
  generalize hH : s.heap = H at hP hS ⊢
  have hS : va_S A s.heap H [] := by rw [hH]; exact hS
  have C0 : wCX p s #[.int p1, .int p2] m meth c cL_low 2 (some .int) RL wsL_low := ⟨hx, hb, hr, hml, hown, hts, hlocks⟩
  show W p l e rmL_low s m #[.int p1, .int p2] below meth c H [] 0 0 (MQ below (wQi r0 (wcL_low cI cJ cZ cG ) (dC, dI) A) #[.int p1, .int p2] s 0 0 A) (F0 m 0 ls [])
  unfold fL_low at hf
  refine lv_iload_n hx hb dL_low_0 rfl (lv_at hl 0 rfl) ?_
  refine lv_ldc (v := 2147483647) hx hb hown (hts _ mL_low_0) dL_low_1 ?_
  refine lv_iand hx hb dL_low_3 ?_
  refine lv_iload_n hx hb dL_low_4 rfl (lv_at hl 1 rfl) ?_
  obtain ⟨hg_1, hf⟩ := ck_s hf
  refine lv_irem hx hb dL_low_5 (nz_n hg_1) ?_
  have hf : some ((p1 &&& 2147483647) - (p1 &&& 2147483647) / p2 * p2) = some r0 := hf
  cases hf
  exact w_iret hx hb hr hlocks rfl hP hD hS dL_low_6
def lw (v n : Int32) : Int32 := (v &&& 2147483647) - (v &&& 2147483647) / n * n
theorem low_ok (v n : Int32) (h : ¬ n = 0) : fL_low v n = some (lw v n) := by
  unfold fL_low
  have hz : nz n = true := by simp [nz, h]
  rw [hz, ck_true]
  rfl
theorem lw_ix (v : Int32) {n : Nat} (h0 : 0 < n) (hn : n < 2147483648) : ∃ k, k < n ∧ lw v (nI n) = nI k := by
  have hx : ∃ X : Nat, X < 2147483648 ∧ (v &&& 2147483647) = nI X := by
    refine ⟨v.toBitVec.toNat &&& 2147483647, ?_, ?_⟩
    · have := Nat.and_lt_two_pow v.toBitVec.toNat (show 2147483647 < 2 ^ 31 by decide)
      omega
    · apply Int32.toBitVec_inj.1
      apply BitVec.eq_of_toNat_eq
      show (v.toBitVec &&& (2147483647 : Int32).toBitVec).toNat = (BitVec.ofNat 32 (v.toBitVec.toNat &&& 2147483647)).toNat
      rw [BitVec.toNat_and, BitVec.toNat_ofNat]
      have := Nat.and_lt_two_pow v.toBitVec.toNat (show 2147483647 < 2 ^ 31 by decide)
      rw [Nat.mod_eq_of_lt (by omega)]
      rfl
  obtain ⟨X, hX, e⟩ := hx
  refine ⟨X % n, Nat.mod_lt _ h0, ?_⟩
  unfold lw
  rw [e, pk_rem hX h0 hn]
theorem cl_room (L : Nat) (hL : L ≤ 260) : Int32.ofNat L = nI L := rfl
/-- what cell reads: the script, or a number of its own -/
def cPc (b L : Nat) (xs : Nat → Int32) (k : Int32) (sz : Nat) : Array Value → State → Prop := va_Pc [.ref b, .int k] (fun U => U.heap.size = sz ∧ va_X b L xs U U.heap ∧ b < sz)
theorem cPc_blind {b L : Nat} {xs : Nat → Int32} {k : Int32} {sz : Nat} : FrameBlind (cPc b L xs k sz) := fun a U g mk h => by
  obtain ⟨q0, q1, q2, q3⟩ := h
  exact ⟨q0, q1, va_X.moved (u := U) (U := U.calling g mk a) (Vm.Alike.refl U.vm) q2, q3⟩
abbrev rmL_cell : Room := { frames := 0, cells := 0, slots := 0, locals := 0 }
set_option maxHeartbeats 4000000 in
set_option maxRecDepth 100000 in
theorem b_cell (l : Launch) (b L : Nat) (xs : Nat → Int32) (hL : L ≤ 260) (k : Nat) (hk : k < 1000) (sz : Nat) : Met l yL_cell wsL_cell rmL_cell (cPc b L xs (nI k) sz) (va_Qi (fun (_ : Int32) (_ : Unit) => True) (fun _ _ => True) (fun q => sz ≤ q)) 0 0 (fun q => sz ≤ q) := by
  refine Met.ofW (cc := cL_cell) (maxL := 2) (ret := (some .int)) (by decide) rfl ?_
  intro p e s m args below meth c s₁ B hml hv
  obtain ⟨rfl, hsz, hX, hbl⟩ := hv
  have hx := B.exec
  have hb := B.bytes
  have hr := B.returns
  have hts := atoms_spec (ws := wsL_cell) B.pre
  have hlocks := B.notSynchronized
  subst hsz
  have hbA : ¬ s.heap.size ≤ b := Nat.not_le.mpr hbl
  have hS : va_S (fun q => s.heap.size ≤ q) s.heap s.heap [] := va_S.rf
  have hl := lv_entry ([.ref b, .int (nI k)]) (n := 2) (Nat.le_of_ble_eq_true rfl)
  rw [lg_entry_eq]
  generalize (lg_sl ([.ref b, .int (nI k)]) ++ List.replicate (2 - (lg_sl ([.ref b, .int (nI k)])).length) Slot.unset).toArray = ls at hl ⊢
  have hl : lv_has ls 2 [(0, .ref b), (1, .int (nI k))] := hl
  show W p l e rmL_cell s m #[.ref b, .int (nI k)] below meth c s.heap [] 0 0 (MQ below (va_Qi (fun (_ : Int32) (_ : Unit) => True) (fun _ _ => True) (fun q => s.heap.size ≤ q)) #[.ref b, .int (nI k)] s 0 0 (fun q => s.heap.size ≤ q)) (F0 m 0 ls [])
  have fin : ∀ v : Int32, W p l e rmL_cell s m #[.ref b, .int (nI k)] below meth c s.heap [] 0 0 (MQ below (va_Qi (fun (_ : Int32) (_ : Unit) => True) (fun _ _ => True) (fun q => s.heap.size ≤ q)) #[.ref b, .int (nI k)] s 0 0 (fun q => s.heap.size ≤ q)) (F0 m 26 ls [.int v]) := fun v =>
    W.iret (v := v) hx hb hr (fun t ht hW => ⟨⟨v, (), rfl, trivial, trivial⟩, hS.F ht⟩) hS.2.2 dL_cell_26 hlocks
  refine lv_iload_n hx hb dL_cell_0 rfl (lv_at hl 1 rfl) ?_
  refine lv_aload_n hx hb dL_cell_1 rfl (lv_at hl 0 rfl) ?_
  refine va_slen hx hb hX hbl hbA hS dL_cell_2 ?_
  refine lv_icmp_ge (tgt := 12) hx hb dL_cell_3 (by decide) (fun c_1 => ?_) (fun c_1 => ?_)
  · refine lv_sipush (v := 7919) hx hb dL_cell_12 (by decide) ?_
    refine lv_iload_n hx hb dL_cell_15 rfl (lv_at hl 1 rfl) ?_
    refine lv_sipush (v := 2131) hx hb dL_cell_16 (by decide) ?_
    refine lv_iadd hx hb dL_cell_19 ?_
    refine lv_imul hx hb dL_cell_20 ?_
    refine lv_iload_n hx hb dL_cell_21 rfl (lv_at hl 1 rfl) ?_
    refine lv_bipush (v := 43) hx hb dL_cell_22 (by decide) ?_
    refine lv_iadd hx hb dL_cell_24 ?_
    refine lv_imul hx hb dL_cell_25 ?_
    exact fin _
  · have hkL : k < L := Nat.lt_of_not_le fun h => c_1 (show nI L ≤ nI k from nle h (by omega))
    refine lv_aload_n hx hb dL_cell_6 rfl (lv_at hl 0 rfl) ?_
    refine lv_iload_n hx hb dL_cell_7 rfl (lv_at hl 1 rfl) ?_
    refine va_sld hx hb hX hbl hbA hS (vp_in_nI hkL (by omega)) dL_cell_8 ?_
    refine lv_goto (tgt := 26) hx hb dL_cell_9 (by decide) ?_
    exact fin _
