/-! printed by gen.py: matches -/
abbrev wcX3_tell (cI cJ cZ cG : ClassId) (h h_strengths h_met h_row h_others : Nat) (v_length : Int32) (v_strengths : Nat → Int32) (v_met : Nat → Int32) : va_W := [(h, .inr (3, [.ref h_strengths, .ref h_met, .ref h_row, .ref h_others, .int v_length])), (h_strengths, .inl (cI, 6, .inl v_strengths)), (h_met, .inl (cI, 6, .inl v_met))]
theorem iX3_tell_X3 : ∀ w ∈ wsX30, w ∈ wsX3_tell := by decide +kernel
theorem mX3_tell_0 : (Cond.fieldLink RX3 9 "Sleevehall$Matches" "strengths" "[I") ∈ wsX3_tell := by decide +kernel
theorem mX3_tell_1 : (Cond.methodLink RX3 24 Lib.Math.min.name) ∈ wsX3_tell := by decide +kernel
theorem mX3_tell_2 : (Cond.static Lib.Math.min.name) ∈ wsX3_tell := by decide +kernel
theorem mX3_tell_3 : (Cond.initialized "java/lang/Math") ∈ wsX3_tell := by decide +kernel
theorem mX3_tell_4 : (Cond.code Lib.Math.min.name Lib.Math.min.code 2 (some .int)) ∈ wsX3_tell := by decide +kernel
theorem mX3_tell_5 : (Cond.methodLink RX3 30 Lib.Math.max.name) ∈ wsX3_tell := by decide +kernel
theorem mX3_tell_6 : (Cond.static Lib.Math.max.name) ∈ wsX3_tell := by decide +kernel
theorem mX3_tell_7 : (Cond.code Lib.Math.max.name Lib.Math.max.code 2 (some .int)) ∈ wsX3_tell := by decide +kernel
theorem mX3_tell_8 : (Cond.fieldLink RX3 15 "Sleevehall$Matches" "met" "[I") ∈ wsX3_tell := by decide +kernel
abbrev rmX3_tell : Room := { frames := 1, cells := 0, slots := 0, locals := 21 }
set_option maxHeartbeats 4000000 in
set_option maxRecDepth 100000 in
theorem oX3_tell (l : Launch) (dC : Nat → ClassId) (dI : Nat → Nat → Nat) (cI cJ cZ cG : ClassId) (h h_strengths h_met h_row h_others : Nat) (v_length : Int32) (v_strengths : Nat → Int32) (v_met : Nat → Int32) (sz : Nat) (p1 : Int32) (p2 : Int32) (r0 : Int32) (n_strengths : Nat → Int32) (n_met : Nat → Int32) (hf : fX3_tell v_strengths v_met p1 p2 = some (r0, n_strengths, n_met)) : Met l yX3_tell wsX3_tell rmX3_tell (wPc [.ref h, .int p1, .int p2] (dC, dI) (tysW cI cJ cZ cG) sz (wcX3_tell cI cJ cZ cG h h_strengths h_met h_row h_others v_length v_strengths v_met)) (wQi r0 (wcX3_tell cI cJ cZ cG h h_strengths h_met h_row h_others v_length n_strengths n_met) (dC, dI) (va_A (wcX3_tell cI cJ cZ cG h h_strengths h_met h_row h_others v_length v_strengths v_met) sz)) 0 0 (va_A (wcX3_tell cI cJ cZ cG h h_strengths h_met h_row h_others v_length v_strengths v_met) sz) := by
  refine Met.ofW (cc := cX3_tell) (maxL := 5) (ret := (some .int)) (by decide) rfl ?_
  intro p e s m args below meth c s₁ B hml hv
  obtain ⟨rfl, hsz, hP, hK, hD0⟩ := hv
  have hx := B.exec
  have hb := B.bytes
  have hr := B.returns
  have hts := atoms_spec (ws := wsX3_tell) B.pre
  have hown : s.vm.findClass RX3 = some m.cls := findClass_of_methodNamed B.named
  have hlocks := B.notSynchronized
  subst hsz
  have hD := hD0.self (sz := s.heap.size)
  generalize hAe : va_A (wcX3_tell cI cJ cZ cG h h_strengths h_met h_row h_others v_length v_strengths v_met) s.heap.size = A at hD ⊢
  have hA : ∀ q : Nat, s.heap.size ≤ q → A q := fun q h => by rw [← hAe]; exact Or.inr h
  have hS : va_S A s.heap s.heap [] := va_S.rf
  have hP : va_P (dC, dI) vwCl (wcX3_tell cI cJ cZ cG h h_strengths h_met h_row h_others v_length v_strengths v_met) s.heap := hP
  have hl := lv_entry ([.ref h, .int p1, .int p2]) (n := 5) (Nat.le_of_ble_eq_true rfl)
  rw [lg_entry_eq]
  generalize (lg_sl ([.ref h, .int p1, .int p2]) ++ List.replicate (5 - (lg_sl ([.ref h, .int p1, .int p2])).length) Slot.unset).toArray = ls at hl ⊢
  have hl : lv_has ls 5 [(0, .ref h), (1, .int p1), (2, .int p2)] := hl
  generalize hH : s.heap = H at hP hS ⊢
  have hS : va_S A s.heap H [] := by rw [hH]; exact hS
  have C0 : wCX p s #[.ref h, .int p1, .int p2] m meth c cX3_tell 5 (some .int) RX3 wsX3_tell := ⟨hx, hb, hr, hml, hown, hts, hlocks⟩
  show W p l e rmX3_tell s m #[.ref h, .int p1, .int p2] below meth c H [] 0 0 (MQ below (wQi r0 (wcX3_tell cI cJ cZ cG h h_strengths h_met h_row h_others v_length n_strengths n_met) (dC, dI) A) #[.ref h, .int p1, .int p2] s 0 0 A) (F0 m 0 ls [])
  unfold fX3_tell at hf
  refine lv_aload_n hx hb dX3_tell_0 rfl (lv_at hl 0 rfl) ?_
  refine va_get (D := (dC, dI)) (ci := 3) (v := .ref h_strengths) (C := RX3) (T := TX3) (N := 5) hx hb hts iX3_tell_X3 hown hK hP 0 rfl rfl 0 (by decide) (hts _ mX3_tell_0) (fun _ h9 => h9) rfl dX3_tell_1 ?_
  refine lv_iload_n hx hb dX3_tell_4 rfl (lv_at hl 2 rfl) ?_
  obtain ⟨hg_1, hf⟩ := ck_s hf
  refine va_iald (D := (dC, dI)) hx hb hK hP 1 0 rfl rfl (g_vp hg_1) dX3_tell_5 ?_
  refine lv_aload_n hx hb dX3_tell_6 rfl (lv_at hl 0 rfl) ?_
  refine va_get (D := (dC, dI)) (ci := 3) (v := .ref h_strengths) (C := RX3) (T := TX3) (N := 5) hx hb hts iX3_tell_X3 hown hK hP 0 rfl rfl 0 (by decide) (hts _ mX3_tell_0) (fun _ h9 => h9) rfl dX3_tell_7 ?_
  refine lv_iload_n hx hb dX3_tell_10 rfl (lv_at hl 1 rfl) ?_
  obtain ⟨hg_2, hf⟩ := ck_s hf
  refine va_iald (D := (dC, dI)) hx hb hK hP 1 0 rfl rfl (g_vp hg_2) dX3_tell_11 ?_
  refine lv_isub hx hb dX3_tell_12 ?_
  refine lv_iconst (v := 4) hx hb dX3_tell_13 (by decide) ?_
  refine lv_idiv hx hb dX3_tell_14 (by decide) ?_
  obtain ⟨x_3, ex_3, hf⟩ := nm_s hf
  refine w_eqi ex_3 ?_
  refine lv_istore_n (lv' := [(3, .int x_3), (0, .ref h), (1, .int p1), (2, .int p2)]) hx hb dX3_tell_15 rfl hl (by decide) rfl (fun ls hl => ?_)
  refine lv_iconst (v := 1) hx hb dX3_tell_16 (by decide) ?_
  refine lv_bipush (v := 32) hx hb dX3_tell_17 (by decide) ?_
  refine lv_bipush (v := 16) hx hb dX3_tell_19 (by decide) ?_
  refine lv_iload_n hx hb dX3_tell_21 rfl (lv_at hl 0 rfl) ?_
  refine lv_iadd hx hb dX3_tell_22 ?_
  refine va_mmin hx hb (hml.trans hl.1.symm) hown (hts _ mX3_tell_1) (hts _ mX3_tell_2) (hts _ mX3_tell_3) (hts _ mX3_tell_4) (by decide) (by decide) (by decide) (by decide) dX3_tell_23 ?_
  obtain ⟨x_4, ex_4, hf⟩ := nm_s hf
  refine w_eqi ex_4 ?_
  refine va_mmax hx hb (hml.trans hl.1.symm) hown (hts _ mX3_tell_5) (hts _ mX3_tell_6) (hts _ mX3_tell_3) (hts _ mX3_tell_7) (by decide) (by decide) (by decide) (by decide) dX3_tell_26 ?_
  obtain ⟨x_5, ex_5, hf⟩ := nm_s hf
  refine w_eqi ex_5 ?_
  refine lv_istore (lv' := [(4, .int x_5), (3, .int x_3), (0, .ref h), (1, .int p1), (2, .int p2)]) hx hb dX3_tell_29 hl (by decide) rfl (fun ls hl => ?_)
  refine lv_aload_n hx hb dX3_tell_31 rfl (lv_at hl 2 rfl) ?_
  refine va_get (D := (dC, dI)) (ci := 3) (v := .ref h_strengths) (C := RX3) (T := TX3) (N := 5) hx hb hts iX3_tell_X3 hown hK hP 0 rfl rfl 0 (by decide) (hts _ mX3_tell_0) (fun _ h9 => h9) rfl dX3_tell_32 ?_
  refine lv_iload_n hx hb dX3_tell_35 rfl (lv_at hl 3 rfl) ?_
  refine lv_dup2_11 hx hb dX3_tell_36 rfl rfl ?_
  obtain ⟨hg_6, hf⟩ := ck_s hf
  refine va_iald (D := (dC, dI)) hx hb hK hP 1 0 rfl rfl (g_vp hg_6) dX3_tell_37 ?_
  refine lv_iload hx hb dX3_tell_38 (lv_at hl 0 rfl) ?_
  refine lv_iadd hx hb dX3_tell_40 ?_
  obtain ⟨x_7, ex_7, hf⟩ := nm_s hf
  refine w_eqi ex_7 ?_
  obtain ⟨hg_8, hf⟩ := ck_s hf
  refine va_iast (D := (dC, dI)) hx hb hK hP hD hS 1 0 rfl rfl (g_vp hg_8) dX3_tell_41 (fun H locs hP hD hS => ?_)
  have hP : va_P (dC, dI) vwCl (wcX3_tell cI cJ cZ cG h h_strengths h_met h_row h_others v_length (upd v_strengths p1.toNatClampNeg x_7) v_met) H := hP
  have hD : va_D A (wcX3_tell cI cJ cZ cG h h_strengths h_met h_row h_others v_length (upd v_strengths p1.toNatClampNeg x_7) v_met) := hD
  refine lv_aload_n hx hb dX3_tell_42 rfl (lv_at hl 2 rfl) ?_
  refine va_get (D := (dC, dI)) (ci := 3) (v := .ref h_strengths) (C := RX3) (T := TX3) (N := 5) hx hb hts iX3_tell_X3 hown hK hP 0 rfl rfl 0 (by decide) (hts _ mX3_tell_0) (fun _ h9 => h9) rfl dX3_tell_43 ?_
  refine lv_iload_n hx hb dX3_tell_46 rfl (lv_at hl 4 rfl) ?_
  refine lv_dup2_11 hx hb dX3_tell_47 rfl rfl ?_
  obtain ⟨hg_9, hf⟩ := ck_s hf
  refine va_iald (D := (dC, dI)) hx hb hK hP 1 0 rfl rfl (g_vp hg_9) dX3_tell_48 ?_
  refine lv_iload hx hb dX3_tell_49 (lv_at hl 0 rfl) ?_
  refine lv_isub hx hb dX3_tell_51 ?_
  obtain ⟨x_10, ex_10, hf⟩ := nm_s hf
  refine w_eqi ex_10 ?_
  obtain ⟨hg_11, hf⟩ := ck_s hf
  refine va_iast (D := (dC, dI)) hx hb hK hP hD hS 1 0 rfl rfl (g_vp hg_11) dX3_tell_52 (fun H locs hP hD hS => ?_)
  have hP : va_P (dC, dI) vwCl (wcX3_tell cI cJ cZ cG h h_strengths h_met h_row h_others v_length (upd (upd v_strengths p1.toNatClampNeg x_7) p2.toNatClampNeg x_10) v_met) H := hP
  have hD : va_D A (wcX3_tell cI cJ cZ cG h h_strengths h_met h_row h_others v_length (upd (upd v_strengths p1.toNatClampNeg x_7) p2.toNatClampNeg x_10) v_met) := hD
  refine lv_aload_n hx hb dX3_tell_53 rfl (lv_at hl 2 rfl) ?_
  refine va_get (D := (dC, dI)) (ci := 3) (v := .ref h_met) (C := RX3) (T := TX3) (N := 5) hx hb hts iX3_tell_X3 hown hK hP 0 rfl rfl 1 (by decide) (hts _ mX3_tell_8) (fun _ h9 => h9) rfl dX3_tell_54 ?_
  refine lv_iload_n hx hb dX3_tell_57 rfl (lv_at hl 3 rfl) ?_
  refine lv_dup2_11 hx hb dX3_tell_58 rfl rfl ?_
  obtain ⟨hg_12, hf⟩ := ck_s hf
  refine va_iald (D := (dC, dI)) hx hb hK hP 2 0 rfl rfl (g_vp hg_12) dX3_tell_59 ?_
  refine lv_iconst (v := 1) hx hb dX3_tell_60 (by decide) ?_
  refine lv_iload_n hx hb dX3_tell_61 rfl (lv_at hl 4 rfl) ?_
  refine lv_ishl hx hb dX3_tell_62 ?_
  refine lv_ior hx hb dX3_tell_63 ?_
  obtain ⟨x_13, ex_13, hf⟩ := nm_s hf
  refine w_eqi ex_13 ?_
  obtain ⟨hg_14, hf⟩ := ck_s hf
  refine va_iast (D := (dC, dI)) hx hb hK hP hD hS 2 0 rfl rfl (g_vp hg_14) dX3_tell_64 (fun H locs hP hD hS => ?_)
  have hP : va_P (dC, dI) vwCl (wcX3_tell cI cJ cZ cG h h_strengths h_met h_row h_others v_length (upd (upd v_strengths p1.toNatClampNeg x_7) p2.toNatClampNeg x_10) (upd v_met p1.toNatClampNeg x_13)) H := hP
  have hD : va_D A (wcX3_tell cI cJ cZ cG h h_strengths h_met h_row h_others v_length (upd (upd v_strengths p1.toNatClampNeg x_7) p2.toNatClampNeg x_10) (upd v_met p1.toNatClampNeg x_13)) := hD
  refine lv_aload_n hx hb dX3_tell_65 rfl (lv_at hl 2 rfl) ?_
  refine va_get (D := (dC, dI)) (ci := 3) (v := .ref h_met) (C := RX3) (T := TX3) (N := 5) hx hb hts iX3_tell_X3 hown hK hP 0 rfl rfl 1 (by decide) (hts _ mX3_tell_8) (fun _ h9 => h9) rfl dX3_tell_66 ?_
  refine lv_iload_n hx hb dX3_tell_69 rfl (lv_at hl 4 rfl) ?_
  refine lv_dup2_11 hx hb dX3_tell_70 rfl rfl ?_
  obtain ⟨hg_15, hf⟩ := ck_s hf
  refine va_iald (D := (dC, dI)) hx hb hK hP 2 0 rfl rfl (g_vp hg_15) dX3_tell_71 ?_
  refine lv_iconst (v := 1) hx hb dX3_tell_72 (by decide) ?_
  refine lv_iload_n hx hb dX3_tell_73 rfl (lv_at hl 3 rfl) ?_
  refine lv_ishl hx hb dX3_tell_74 ?_
  refine lv_ior hx hb dX3_tell_75 ?_
  obtain ⟨x_16, ex_16, hf⟩ := nm_s hf
  refine w_eqi ex_16 ?_
  obtain ⟨hg_17, hf⟩ := ck_s hf
  refine va_iast (D := (dC, dI)) hx hb hK hP hD hS 2 0 rfl rfl (g_vp hg_17) dX3_tell_76 (fun H locs hP hD hS => ?_)
  have hP : va_P (dC, dI) vwCl (wcX3_tell cI cJ cZ cG h h_strengths h_met h_row h_others v_length (upd (upd v_strengths p1.toNatClampNeg x_7) p2.toNatClampNeg x_10) (upd (upd v_met p1.toNatClampNeg x_13) p2.toNatClampNeg x_16)) H := hP
  have hD : va_D A (wcX3_tell cI cJ cZ cG h h_strengths h_met h_row h_others v_length (upd (upd v_strengths p1.toNatClampNeg x_7) p2.toNatClampNeg x_10) (upd (upd v_met p1.toNatClampNeg x_13) p2.toNatClampNeg x_16)) := hD
  refine lv_iload hx hb dX3_tell_77 (lv_at hl 0 rfl) ?_
  have hf : some (x_5, (upd (upd v_strengths p1.toNatClampNeg x_7) p2.toNatClampNeg x_10), (upd (upd v_met p1.toNatClampNeg x_13) p2.toNatClampNeg x_16)) = some (r0, n_strengths, n_met) := hf
  cases hf
  exact w_iret hx hb hr hlocks rfl hP hD hS dX3_tell_79
abbrev wcX3_putIntoRow (cI cJ cZ cG : ClassId) (h h_strengths h_met h_row h_others : Nat) (v_length : Int32) (v_strengths : Nat → Int32) (v_row : Nat → Int32) : va_W := [(h, .inr (3, [.ref h_strengths, .ref h_met, .ref h_row, .ref h_others, .int v_length])), (h_strengths, .inl (cI, 6, .inl v_strengths)), (h_row, .inl (cI, 6, .inl v_row))]
theorem iX3_putIntoRow_X3 : ∀ w ∈ wsX30, w ∈ wsX3_putIntoRow := by decide +kernel
theorem mX3_putIntoRow_0 : (Cond.fieldLink RX3 37 "Sleevehall$Matches" "length" "I") ∈ wsX3_putIntoRow := by decide +kernel
theorem mX3_putIntoRow_1 : (Cond.fieldLink RX3 9 "Sleevehall$Matches" "strengths" "[I") ∈ wsX3_putIntoRow := by decide +kernel
theorem mX3_putIntoRow_2 : (Cond.fieldLink RX3 18 "Sleevehall$Matches" "row" "[I") ∈ wsX3_putIntoRow := by decide +kernel
abbrev rmX3_putIntoRow : Room := { frames := 0, cells := 0, slots := 0, locals := 0 }
set_option maxHeartbeats 4000000 in
set_option maxRecDepth 100000 in
theorem kX3_putIntoRow_61 {p : Program} {l : Launch} {e : Env} {s : State} {m : MethodId} {args : Array Value} {below : List Frame} {meth : Method} {c : Code} {dC : Nat → ClassId} {dI : Nat → Nat → Nat} {A : Nat → Prop} {cI cJ cZ cG : ClassId} {h h_strengths h_met h_row h_others : Nat} {v_strengths : Nat → Int32} {n_length : Int32} {n_row : Nat → Int32} (C0 : wCX p s args m meth c cX3_putIntoRow 3 none RX3 wsX3_putIntoRow) (hA : ∀ q, s.heap.size ≤ q → A q) (hK : va_K (dC, dI) vwCl (tysW cI cJ cZ cG) s) : ∀ (v_length : Int32) (v_row : Nat → Int32) (l1 : Int32) (l2 : Int32) (H : Heap) (locs : List Loc) (ls : Array Slot), fX3_putIntoRow_b61 v_strengths v_length v_row l1 l2 = some (n_length, n_row) → va_P (dC, dI) vwCl (wcX3_putIntoRow cI cJ cZ cG h h_strengths h_met h_row h_others v_length v_strengths v_row) H → va_D A (wcX3_putIntoRow cI cJ cZ cG h h_strengths h_met h_row h_others v_length v_strengths v_row) → va_S A s.heap H locs → lv_has ls 3 [(0, .ref h), (1, .int l1), (2, .int l2)] → W p l e rmX3_putIntoRow s m args below meth c H locs 0 0 (MQ below (wQv (wcX3_putIntoRow cI cJ cZ cG h h_strengths h_met h_row h_others n_length v_strengths n_row) (dC, dI) A) args s 0 0 A) (F0 m 61 ls []) := by
  obtain ⟨hx, hb, hr, hml, hown, hts, hlocks⟩ := id C0
  intro v_length v_row l1 l2 H locs ls hf hP hD hS hl
  unfold fX3_putIntoRow_b61 at hf
  refine lv_aload_n hx hb dX3_putIntoRow_61 rfl (lv_at hl 0 rfl) ?_
  refine va_get (D := (dC, dI)) (ci := 3) (v := .ref h_row) (C := RX3) (T := TX3) (N := 5) hx hb hts iX3_putIntoRow_X3 hown hK hP 0 rfl rfl 2 (by decide) (hts _ mX3_putIntoRow_2) (fun _ h9 => h9) rfl dX3_putIntoRow_62 ?_
  refine lv_iload_n hx hb dX3_putIntoRow_65 rfl (lv_at hl 2 rfl) ?_
  refine lv_iload_n hx hb dX3_putIntoRow_66 rfl (lv_at hl 1 rfl) ?_
  obtain ⟨hg_1, hf⟩ := ck_s hf
  refine va_iast (D := (dC, dI)) hx hb hK hP hD hS 2 0 rfl rfl (g_vp hg_1) dX3_putIntoRow_67 (fun H locs hP hD hS => ?_)
  have hP : va_P (dC, dI) vwCl (wcX3_putIntoRow cI cJ cZ cG h h_strengths h_met h_row h_others v_length v_strengths (upd v_row l2.toNatClampNeg l1)) H := hP
  have hD : va_D A (wcX3_putIntoRow cI cJ cZ cG h h_strengths h_met h_row h_others v_length v_strengths (upd v_row l2.toNatClampNeg l1)) := hD
  refine lv_aload_n hx hb dX3_putIntoRow_68 rfl (lv_at hl 0 rfl) ?_
  refine lv_dup hx hb dX3_putIntoRow_69 rfl ?_
  refine va_get (D := (dC, dI)) (ci := 3) (v := .int v_length) (C := RX3) (T := TX3) (N := 5) hx hb hts iX3_putIntoRow_X3 hown hK hP 0 rfl rfl 4 (by decide) (hts _ mX3_putIntoRow_0) (fun _ h9 => h9) rfl dX3_putIntoRow_70 ?_
  refine lv_iconst (v := 1) hx hb dX3_putIntoRow_73 (by decide) ?_
  refine lv_iadd hx hb dX3_putIntoRow_74 ?_
  obtain ⟨x_2, ex_2, hf⟩ := nm_s hf
  refine w_eqi ex_2 ?_
  refine va_put (D := (dC, dI)) (ci := 3) (v := .int x_2) (ty := .int) (C := RX3) (T := TX3) (N := 5) hx hb hts iX3_putIntoRow_X3 tyX3 tyX3_ok nmX3 hown hK hP hD hS 0 rfl rfl 4 (by decide) (hts _ mX3_putIntoRow_0) (fun _ h9 => h9) rfl (by decide +kernel) rfl rfl (Nat.le_of_ble_eq_true rfl) dX3_putIntoRow_75 (fun H locs hP hD hS => ?_)
  have hP : va_P (dC, dI) vwCl (wcX3_putIntoRow cI cJ cZ cG h h_strengths h_met h_row h_others x_2 v_strengths (upd v_row l2.toNatClampNeg l1)) H := hP
  have hD : va_D A (wcX3_putIntoRow cI cJ cZ cG h h_strengths h_met h_row h_others x_2 v_strengths (upd v_row l2.toNatClampNeg l1)) := hD
  have hf : some (x_2, (upd v_row l2.toNatClampNeg l1)) = some (n_length, n_row) := hf
  cases hf
  exact w_vret hx hb hr hlocks hP hD hS dX3_putIntoRow_78
set_option maxHeartbeats 4000000 in
set_option maxRecDepth 100000 in
theorem kX3_putIntoRow_15 {p : Program} {l : Launch} {e : Env} {s : State} {m : MethodId} {args : Array Value} {below : List Frame} {meth : Method} {c : Code} {dC : Nat → ClassId} {dI : Nat → Nat → Nat} {A : Nat → Prop} {cI cJ cZ cG : ClassId} {h h_strengths h_met h_row h_others : Nat} {v_strengths : Nat → Int32} {n_length : Int32} {n_row : Nat → Int32} (C0 : wCX p s args m meth c cX3_putIntoRow 3 none RX3 wsX3_putIntoRow) (hA : ∀ q, s.heap.size ≤ q → A q) (hK : va_K (dC, dI) vwCl (tysW cI cJ cZ cG) s) : ∀ (n : Nat), ∀ (v_length : Int32) (v_row : Nat → Int32) (l1 : Int32) (l2 : Int32) (H : Heap) (locs : List Loc) (ls : Array Slot), fX3_putIntoRow_b15 v_strengths n v_length v_row l1 l2 = some (n_length, n_row) → va_P (dC, dI) vwCl (wcX3_putIntoRow cI cJ cZ cG h h_strengths h_met h_row h_others v_length v_strengths v_row) H → va_D A (wcX3_putIntoRow cI cJ cZ cG h h_strengths h_met h_row h_others v_length v_strengths v_row) → va_S A s.heap H locs → lv_has ls 3 [(0, .ref h), (1, .int l1), (2, .int l2)] → W p l e rmX3_putIntoRow s m args below meth c H locs 0 0 (MQ below (wQv (wcX3_putIntoRow cI cJ cZ cG h h_strengths h_met h_row h_others n_length v_strengths n_row) (dC, dI) A) args s 0 0 A) (F0 m 15 ls []) := by
  obtain ⟨hx, hb, hr, hml, hown, hts, hlocks⟩ := id C0
  intro n
  induction n with
  | zero =>
    intro v_length v_row l1 l2 H locs ls hf hP hD hS hl
    rw [fX3_putIntoRow_b15] at hf
    cases hf
  | succ n ih =>
    intro v_length v_row l1 l2 H locs ls hf hP hD hS hl
    rw [fX3_putIntoRow_b15] at hf
    refine lv_iload_n hx hb dX3_putIntoRow_15 rfl (lv_at hl 2 rfl) ?_
    refine lv_if_le (tgt := 61) hx hb dX3_putIntoRow_16 (by decide) (fun c_1 => ?_) (fun c_1 => ?_)
    · have hf := it_t hf c_1
      have hf : fX3_putIntoRow_b61 v_strengths v_length v_row l1 l2 = some (n_length, n_row) := hf
      exact kX3_putIntoRow_61 C0 hA hK v_length v_row l1 l2 _ _ _ hf hP hD hS (lv_sub hl [0, 1, 2] rfl)
    · have hf := it_f hf c_1
      refine lv_aload_n hx hb dX3_putIntoRow_19 rfl (lv_at hl 0 rfl) ?_
      refine va_get (D := (dC, dI)) (ci := 3) (v := .ref h_strengths) (C := RX3) (T := TX3) (N := 5) hx hb hts iX3_putIntoRow_X3 hown hK hP 0 rfl rfl 0 (by decide) (hts _ mX3_putIntoRow_1) (fun _ h9 => h9) rfl dX3_putIntoRow_20 ?_
      refine lv_aload_n hx hb dX3_putIntoRow_23 rfl (lv_at hl 0 rfl) ?_
      refine va_get (D := (dC, dI)) (ci := 3) (v := .ref h_row) (C := RX3) (T := TX3) (N := 5) hx hb hts iX3_putIntoRow_X3 hown hK hP 0 rfl rfl 2 (by decide) (hts _ mX3_putIntoRow_2) (fun _ h9 => h9) rfl dX3_putIntoRow_24 ?_
      refine lv_iload_n hx hb dX3_putIntoRow_27 rfl (lv_at hl 2 rfl) ?_
      refine lv_iconst (v := 1) hx hb dX3_putIntoRow_28 (by decide) ?_
      refine lv_isub hx hb dX3_putIntoRow_29 ?_
      obtain ⟨hg_2, hf⟩ := ck_s hf
      refine va_iald (D := (dC, dI)) hx hb hK hP 2 0 rfl rfl (g_vp hg_2) dX3_putIntoRow_30 ?_
      obtain ⟨hg_3, hf⟩ := ck_s hf
      refine va_iald (D := (dC, dI)) hx hb hK hP 1 0 rfl rfl (g_vp hg_3) dX3_putIntoRow_31 ?_
      refine lv_aload_n hx hb dX3_putIntoRow_32 rfl (lv_at hl 0 rfl) ?_
      refine va_get (D := (dC, dI)) (ci := 3) (v := .ref h_strengths) (C := RX3) (T := TX3) (N := 5) hx hb hts iX3_putIntoRow_X3 hown hK hP 0 rfl rfl 0 (by decide) (hts _ mX3_putIntoRow_1) (fun _ h9 => h9) rfl dX3_putIntoRow_33 ?_
      refine lv_iload_n hx hb dX3_putIntoRow_36 rfl (lv_at hl 1 rfl) ?_
      obtain ⟨hg_4, hf⟩ := ck_s hf
      refine va_iald (D := (dC, dI)) hx hb hK hP 1 0 rfl rfl (g_vp hg_4) dX3_putIntoRow_37 ?_
      refine lv_icmp_ge (tgt := 61) hx hb dX3_putIntoRow_38 (by decide) (fun c_5 => ?_) (fun c_5 => ?_)
      · have hf := it_t hf c_5
        have hf : fX3_putIntoRow_b61 v_strengths v_length v_row l1 l2 = some (n_length, n_row) := hf
        exact kX3_putIntoRow_61 C0 hA hK v_length v_row l1 l2 _ _ _ hf hP hD hS (lv_sub hl [0, 1, 2] rfl)
      · have hf := it_f hf c_5
        refine lv_aload_n hx hb dX3_putIntoRow_41 rfl (lv_at hl 0 rfl) ?_
        refine va_get (D := (dC, dI)) (ci := 3) (v := .ref h_row) (C := RX3) (T := TX3) (N := 5) hx hb hts iX3_putIntoRow_X3 hown hK hP 0 rfl rfl 2 (by decide) (hts _ mX3_putIntoRow_2) (fun _ h9 => h9) rfl dX3_putIntoRow_42 ?_
        refine lv_iload_n hx hb dX3_putIntoRow_45 rfl (lv_at hl 2 rfl) ?_
        refine lv_aload_n hx hb dX3_putIntoRow_46 rfl (lv_at hl 0 rfl) ?_
        refine va_get (D := (dC, dI)) (ci := 3) (v := .ref h_row) (C := RX3) (T := TX3) (N := 5) hx hb hts iX3_putIntoRow_X3 hown hK hP 0 rfl rfl 2 (by decide) (hts _ mX3_putIntoRow_2) (fun _ h9 => h9) rfl dX3_putIntoRow_47 ?_
        refine lv_iload_n hx hb dX3_putIntoRow_50 rfl (lv_at hl 2 rfl) ?_
        refine lv_iconst (v := 1) hx hb dX3_putIntoRow_51 (by decide) ?_
        refine lv_isub hx hb dX3_putIntoRow_52 ?_
        obtain ⟨hg_6, hf⟩ := ck_s hf
        refine va_iald (D := (dC, dI)) hx hb hK hP 2 0 rfl rfl (g_vp hg_6) dX3_putIntoRow_53 ?_
        obtain ⟨x_7, ex_7, hf⟩ := nm_s hf
        refine w_eqi ex_7 ?_
        obtain ⟨hg_8, hf⟩ := ck_s hf
        refine va_iast (D := (dC, dI)) hx hb hK hP hD hS 2 0 rfl rfl (g_vp hg_8) dX3_putIntoRow_54 (fun H locs hP hD hS => ?_)
        have hP : va_P (dC, dI) vwCl (wcX3_putIntoRow cI cJ cZ cG h h_strengths h_met h_row h_others v_length v_strengths (upd v_row l2.toNatClampNeg x_7)) H := hP
        have hD : va_D A (wcX3_putIntoRow cI cJ cZ cG h h_strengths h_met h_row h_others v_length v_strengths (upd v_row l2.toNatClampNeg x_7)) := hD
        obtain ⟨x_9, ex_9, hf⟩ := nm_s hf
        refine lv_iinc (v := x_9) (lv' := [(2, .int x_9), (0, .ref h), (1, .int l1)]) hx hb dX3_putIntoRow_55 hl (k := 2) rfl (by rw [ex_9]; rfl) (by decide) rfl (fun ls hl => ?_)
        refine lv_goto (tgt := 15) hx hb dX3_putIntoRow_58 (by decide) ?_
        have hf : (fX3_putIntoRow_b15 v_strengths n) v_length (upd v_row l2.toNatClampNeg x_7) l1 x_9 = some (n_length, n_row) := hf
        exact ih v_length (upd v_row l2.toNatClampNeg x_7) l1 x_9 _ _ _ hf hP hD hS (lv_sub hl [1, 2, 0] rfl)
set_option maxHeartbeats 4000000 in
set_option maxRecDepth 100000 in
theorem oX3_putIntoRow (l : Launch) (dC : Nat → ClassId) (dI : Nat → Nat → Nat) (cI cJ cZ cG : ClassId) (h h_strengths h_met h_row h_others : Nat) (v_length : Int32) (v_strengths : Nat → Int32) (v_row : Nat → Int32) (sz : Nat) (p1 : Int32) (n_length : Int32) (n_row : Nat → Int32) (hf : fX3_putIntoRow v_length v_strengths v_row p1 = some (n_length, n_row)) : Met l yX3_putIntoRow wsX3_putIntoRow rmX3_putIntoRow (wPc [.ref h, .int p1] (dC, dI) (tysW cI cJ cZ cG) sz (wcX3_putIntoRow cI cJ cZ cG h h_strengths h_met h_row h_others v_length v_strengths v_row)) (wQv (wcX3_putIntoRow cI cJ cZ cG h h_strengths h_met h_row h_others n_length v_strengths n_row) (dC, dI) (va_A (wcX3_putIntoRow cI cJ cZ cG h h_strengths h_met h_row h_others v_length v_strengths v_row) sz)) 0 0 (va_A (wcX3_putIntoRow cI cJ cZ cG h h_strengths h_met h_row h_others v_length v_strengths v_row) sz) := by
  refine Met.ofW (cc := cX3_putIntoRow) (maxL := 3) (ret := none) (by decide) rfl ?_
  intro p e s m args below meth c s₁ B hml hv
  obtain ⟨rfl, hsz, hP, hK, hD0⟩ := hv
  have hx := B.exec
  have hb := B.bytes
  have hr := B.returns
  have hts := atoms_spec (ws := wsX3_putIntoRow) B.pre
  have hown : s.vm.findClass RX3 = some m.cls := findClass_of_methodNamed B.named
  have hlocks := B.notSynchronized
  subst hsz
  have hD := hD0.self (sz := s.heap.size)
  generalize hAe : va_A (wcX3_putIntoRow cI cJ cZ cG h h_strengths h_met h_row h_others v_length v_strengths v_row) s.heap.size = A at hD ⊢
  have hA : ∀ q : Nat, s.heap.size ≤ q → A q := fun q h => by rw [← hAe]; exact Or.inr h
  have hS : va_S A s.heap s.heap [] := va_S.rf
  have hP : va_P (dC, dI) vwCl (wcX3_putIntoRow cI cJ cZ cG h h_strengths h_met h_row h_others v_length v_strengths v_row) s.heap := hP
  have hl := lv_entry ([.ref h, .int p1]) (n := 3) (Nat.le_of_ble_eq_true rfl)
  rw [lg_entry_eq]
  generalize (lg_sl ([.ref h, .int p1]) ++ List.replicate (3 - (lg_sl ([.ref h, .int p1])).length) Slot.unset).toArray = ls at hl ⊢
  have hl : lv_has ls 3 [(0, .ref h), (1, .int p1)] := hl
  generalize hH : s.heap = H at hP hS ⊢
  have hS : va_S A s.heap H [] := by rw [hH]; exact hS
  have C0 : wCX p s #[.ref h, .int p1] m meth c cX3_putIntoRow 3 none RX3 wsX3_putIntoRow := ⟨hx, hb, hr, hml, hown, hts, hlocks⟩
  show W p l e rmX3_putIntoRow s m #[.ref h, .int p1] below meth c H [] 0 0 (MQ below (wQv (wcX3_putIntoRow cI cJ cZ cG h h_strengths h_met h_row h_others n_length v_strengths n_row) (dC, dI) A) #[.ref h, .int p1] s 0 0 A) (F0 m 0 ls [])
  unfold fX3_putIntoRow at hf
  refine lv_aload_n hx hb dX3_putIntoRow_0 rfl (lv_at hl 0 rfl) ?_
  refine va_get (D := (dC, dI)) (ci := 3) (v := .int v_length) (C := RX3) (T := TX3) (N := 5) hx hb hts iX3_putIntoRow_X3 hown hK hP 0 rfl rfl 4 (by decide) (hts _ mX3_putIntoRow_0) (fun _ h9 => h9) rfl dX3_putIntoRow_1 ?_
  refine lv_bipush (v := 6) hx hb dX3_putIntoRow_4 (by decide) ?_
  refine lv_icmp_lt (tgt := 10) hx hb dX3_putIntoRow_6 (by decide) (fun c_1 => ?_) (fun c_1 => ?_)
  · have hf := it_t hf c_1
    refine lv_aload_n hx hb dX3_putIntoRow_10 rfl (lv_at hl 0 rfl) ?_
    refine va_get (D := (dC, dI)) (ci := 3) (v := .int v_length) (C := RX3) (T := TX3) (N := 5) hx hb hts iX3_putIntoRow_X3 hown hK hP 0 rfl rfl 4 (by decide) (hts _ mX3_putIntoRow_0) (fun _ h9 => h9) rfl dX3_putIntoRow_11 ?_
    refine lv_istore_n (lv' := [(2, .int v_length), (0, .ref h), (1, .int p1)]) hx hb dX3_putIntoRow_14 rfl hl (by decide) rfl (fun ls hl => ?_)
    have hf : fX3_putIntoRow_b15 v_strengths 70 v_length v_row p1 v_length = some (n_length, n_row) := hf
    exact kX3_putIntoRow_15 C0 hA hK 70 v_length v_row p1 v_length _ _ _ hf hP hD hS (lv_sub hl [1, 2, 0] rfl)
  · have hf := it_f hf c_1
    have hf : some (v_length, v_row) = some (n_length, n_row) := hf
    cases hf
    exact w_vret hx hb hr hlocks hP hD hS dX3_putIntoRow_9
abbrev wcX3_makeRow (cI cJ cZ cG : ClassId) (h h_strengths h_met h_row h_others : Nat) (v_length : Int32) (v_strengths : Nat → Int32) (v_row : Nat → Int32) : va_W := [(h, .inr (3, [.ref h_strengths, .ref h_met, .ref h_row, .ref h_others, .int v_length])), (h_strengths, .inl (cI, 6, .inl v_strengths)), (h_row, .inl (cI, 6, .inl v_row))]
theorem iX3_makeRow_X3 : ∀ w ∈ wsX30, w ∈ wsX3_makeRow := by decide +kernel
theorem mX3_makeRow_0 : (Cond.fieldLink RX3 37 "Sleevehall$Matches" "length" "I") ∈ wsX3_makeRow := by decide +kernel
abbrev rmX3_makeRow : Room := { frames := 1, cells := 0, slots := 0, locals := 22 }
set_option maxHeartbeats 4000000 in
set_option maxRecDepth 100000 in
theorem kX3_makeRow_27 {p : Program} {l : Launch} {e : Env} {s : State} {m : MethodId} {args : Array Value} {below : List Frame} {meth : Method} {c : Code} {dC : Nat → ClassId} {dI : Nat → Nat → Nat} {A : Nat → Prop} {cI cJ cZ cG : ClassId} {h h_strengths h_met h_row h_others : Nat} {v_strengths : Nat → Int32} {n_length : Int32} {n_row : Nat → Int32} {k_7 : Int32 → (Nat → Int32) → Int32 → Int32 → Option (Int32 × (Nat → Int32))} (C0 : wCX p s args m meth c cX3_makeRow 3 none RX3 wsX3_makeRow) (hA : ∀ q, s.heap.size ≤ q → A q) (hK : va_K (dC, dI) vwCl (tysW cI cJ cZ cG) s) (hk_7 : ∀ (v_length : Int32) (v_row : Nat → Int32) (l1 : Int32) (l2 : Int32) (H : Heap) (locs : List Loc) (ls : Array Slot), k_7 v_length v_row l1 l2 = some (n_length, n_row) → va_P (dC, dI) vwCl (wcX3_makeRow cI cJ cZ cG h h_strengths h_met h_row h_others v_length v_strengths v_row) H → va_D A (wcX3_makeRow cI cJ cZ cG h h_strengths h_met h_row h_others v_length v_strengths v_row) → va_S A s.heap H locs → lv_has ls 3 [(0, .ref h), (1, .int l1), (2, .int l2)] → W p l e rmX3_makeRow s m args below meth c H locs 0 0 (MQ below (wQv (wcX3_makeRow cI cJ cZ cG h h_strengths h_met h_row h_others n_length v_strengths n_row) (dC, dI) A) args s 0 0 A) (F0 m 7 ls [])) : ∀ (v_length : Int32) (v_row : Nat → Int32) (l1 : Int32) (l2 : Int32) (H : Heap) (locs : List Loc) (ls : Array Slot), fX3_makeRow_b27 k_7 v_strengths v_length v_row l1 l2 = some (n_length, n_row) → va_P (dC, dI) vwCl (wcX3_makeRow cI cJ cZ cG h h_strengths h_met h_row h_others v_length v_strengths v_row) H → va_D A (wcX3_makeRow cI cJ cZ cG h h_strengths h_met h_row h_others v_length v_strengths v_row) → va_S A s.heap H locs → lv_has ls 3 [(0, .ref h), (1, .int l1), (2, .int l2)] → W p l e rmX3_makeRow s m args below meth c H locs 0 0 (MQ below (wQv (wcX3_makeRow cI cJ cZ cG h h_strengths h_met h_row h_others n_length v_strengths n_row) (dC, dI) A) args s 0 0 A) (F0 m 27 ls []) := by
  obtain ⟨hx, hb, hr, hml, hown, hts, hlocks⟩ := id C0
  intro v_length v_row l1 l2 H locs ls hf hP hD hS hl
  unfold fX3_makeRow_b27 at hf
  obtain ⟨x_1, ex_1, hf⟩ := nm_s hf
  refine lv_iinc (v := x_1) (lv' := [(2, .int x_1), (0, .ref h), (1, .int l1)]) hx hb dX3_makeRow_27 hl (k := 2) rfl (by rw [ex_1]; rfl) (by decide) rfl (fun ls hl => ?_)
  refine lv_goto (tgt := 7) hx hb dX3_makeRow_30 (by decide) ?_
  have hf : k_7 v_length v_row l1 x_1 = some (n_length, n_row) := hf
  exact hk_7 v_length v_row l1 x_1 _ _ _ hf hP hD hS (lv_sub hl [1, 2, 0] rfl)
set_option maxHeartbeats 4000000 in
set_option maxRecDepth 100000 in
theorem kX3_makeRow_7 {p : Program} {l : Launch} {e : Env} {s : State} {m : MethodId} {args : Array Value} {below : List Frame} {meth : Method} {c : Code} {dC : Nat → ClassId} {dI : Nat → Nat → Nat} {A : Nat → Prop} {cI cJ cZ cG : ClassId} {h h_strengths h_met h_row h_others : Nat} {v_strengths : Nat → Int32} {n_length : Int32} {n_row : Nat → Int32} (C0 : wCX p s args m meth c cX3_makeRow 3 none RX3 wsX3_makeRow) (hA : ∀ q, s.heap.size ≤ q → A q) (hK : va_K (dC, dI) vwCl (tysW cI cJ cZ cG) s) : ∀ (n : Nat), ∀ (v_length : Int32) (v_row : Nat → Int32) (l1 : Int32) (l2 : Int32) (H : Heap) (locs : List Loc) (ls : Array Slot), fX3_makeRow_b7 v_strengths n v_length v_row l1 l2 = some (n_length, n_row) → va_P (dC, dI) vwCl (wcX3_makeRow cI cJ cZ cG h h_strengths h_met h_row h_others v_length v_strengths v_row) H → va_D A (wcX3_makeRow cI cJ cZ cG h h_strengths h_met h_row h_others v_length v_strengths v_row) → va_S A s.heap H locs → lv_has ls 3 [(0, .ref h), (1, .int l1), (2, .int l2)] → W p l e rmX3_makeRow s m args below meth c H locs 0 0 (MQ below (wQv (wcX3_makeRow cI cJ cZ cG h h_strengths h_met h_row h_others n_length v_strengths n_row) (dC, dI) A) args s 0 0 A) (F0 m 7 ls []) := by
  obtain ⟨hx, hb, hr, hml, hown, hts, hlocks⟩ := id C0
  intro n
  induction n with
  | zero =>
    intro v_length v_row l1 l2 H locs ls hf hP hD hS hl
    rw [fX3_makeRow_b7] at hf
    cases hf
  | succ n ih =>
    intro v_length v_row l1 l2 H locs ls hf hP hD hS hl
    rw [fX3_makeRow_b7] at hf
    refine lv_iload_n hx hb dX3_makeRow_7 rfl (lv_at hl 2 rfl) ?_
    refine lv_bipush (v := 6) hx hb dX3_makeRow_8 (by decide) ?_
    refine lv_icmp_ge (tgt := 33) hx hb dX3_makeRow_10 (by decide) (fun c_1 => ?_) (fun c_1 => ?_)
    · have hf := it_t hf c_1
      have hf : some (v_length, v_row) = some (n_length, n_row) := hf
      cases hf
      exact w_vret hx hb hr hlocks hP hD hS dX3_makeRow_33
    · have hf := it_f hf c_1
      refine lv_iload_n hx hb dX3_makeRow_13 rfl (lv_at hl 1 rfl) ?_
      refine lv_iload_n hx hb dX3_makeRow_14 rfl (lv_at hl 2 rfl) ?_
      refine lv_ishr hx hb dX3_makeRow_15 ?_
      refine lv_iconst (v := 1) hx hb dX3_makeRow_16 (by decide) ?_
      refine lv_iand hx hb dX3_makeRow_17 ?_
      refine lv_iconst (v := 1) hx hb dX3_makeRow_18 (by decide) ?_
      refine lv_icmp_ne (tgt := 27) hx hb dX3_makeRow_19 (by decide) (fun c_2 => ?_) (fun c_2 => ?_)
      · have hf := it_f hf c_2
        have hf : fX3_makeRow_b27 (fX3_makeRow_b7 v_strengths n) v_strengths v_length v_row l1 l2 = some (n_length, n_row) := hf
        exact kX3_makeRow_27 C0 hA hK ih v_length v_row l1 l2 _ _ _ hf hP hD hS (lv_sub hl [0, 1, 2] rfl)
      · have hf := it_t hf c_2
        refine lv_aload_n hx hb dX3_makeRow_22 rfl (lv_at hl 0 rfl) ?_
        refine lv_iload_n hx hb dX3_makeRow_23 rfl (lv_at hl 2 rfl) ?_
        obtain ⟨⟨w_3, w_4⟩, hc_5, hf⟩ := ob_s hf
        refine w_callVv (As := [.int l2]) (rest := []) (wr := List.filterMap (fun i : Nat => (wcX3_makeRow cI cJ cZ cG h h_strengths h_met h_row h_others v_length v_strengths v_row)[i]?) []) (ws1 := (wcX3_makeRow cI cJ cZ cG h h_strengths h_met h_row h_others w_3 v_strengths w_4)) ⟨hx, hb, hml, hown, hts⟩ (oX3_putIntoRow l dC dI cI cJ cZ cG h h_strengths h_met h_row h_others v_length v_strengths v_row H.size l2 w_3 w_4 hc_5) (cwV 1 hts gX3_makeRow_X3_putIntoRow rfl rfl rfl (by decide +kernel) ⟨Nat.le_of_ble_eq_true rfl, Nat.le_of_ble_eq_true rfl⟩) hK 0 3 rfl rfl rfl hP hD hS hA [0, 1, 2] [] [0, 1, 2] rfl rfl rfl rfl (by decide) rfl rfl rfl hl.1 rfl (Nat.le_of_ble_eq_true rfl) dX3_makeRow_24 ⟨Nat.le_refl _, Nat.le_refl _⟩ (fun H locs hP hD hS => ?_)
        have hf : fX3_makeRow_b27 (fX3_makeRow_b7 v_strengths n) v_strengths w_3 w_4 l1 l2 = some (n_length, n_row) := hf
        exact kX3_makeRow_27 C0 hA hK ih w_3 w_4 l1 l2 _ _ _ hf hP hD hS (lv_sub hl [0, 1, 2] rfl)
set_option maxHeartbeats 4000000 in
set_option maxRecDepth 100000 in
theorem oX3_makeRow (l : Launch) (dC : Nat → ClassId) (dI : Nat → Nat → Nat) (cI cJ cZ cG : ClassId) (h h_strengths h_met h_row h_others : Nat) (v_length : Int32) (v_strengths : Nat → Int32) (v_row : Nat → Int32) (sz : Nat) (p1 : Int32) (n_length : Int32) (n_row : Nat → Int32) (hf : fX3_makeRow v_length v_strengths v_row p1 = some (n_length, n_row)) : Met l yX3_makeRow wsX3_makeRow rmX3_makeRow (wPc [.ref h, .int p1] (dC, dI) (tysW cI cJ cZ cG) sz (wcX3_makeRow cI cJ cZ cG h h_strengths h_met h_row h_others v_length v_strengths v_row)) (wQv (wcX3_makeRow cI cJ cZ cG h h_strengths h_met h_row h_others n_length v_strengths n_row) (dC, dI) (va_A (wcX3_makeRow cI cJ cZ cG h h_strengths h_met h_row h_others v_length v_strengths v_row) sz)) 0 0 (va_A (wcX3_makeRow cI cJ cZ cG h h_strengths h_met h_row h_others v_length v_strengths v_row) sz) := by
  refine Met.ofW (cc := cX3_makeRow) (maxL := 3) (ret := none) (by decide) rfl ?_
  intro p e s m args below meth c s₁ B hml hv
  obtain ⟨rfl, hsz, hP, hK, hD0⟩ := hv
  have hx := B.exec
  have hb := B.bytes
  have hr := B.returns
  have hts := atoms_spec (ws := wsX3_makeRow) B.pre
  have hown : s.vm.findClass RX3 = some m.cls := findClass_of_methodNamed B.named
  have hlocks := B.notSynchronized
  subst hsz
  have hD := hD0.self (sz := s.heap.size)
  generalize hAe : va_A (wcX3_makeRow cI cJ cZ cG h h_strengths h_met h_row h_others v_length v_strengths v_row) s.heap.size = A at hD ⊢
  have hA : ∀ q : Nat, s.heap.size ≤ q → A q := fun q h => by rw [← hAe]; exact Or.inr h
  have hS : va_S A s.heap s.heap [] := va_S.rf
  have hP : va_P (dC, dI) vwCl (wcX3_makeRow cI cJ cZ cG h h_strengths h_met h_row h_others v_length v_strengths v_row) s.heap := hP
  have hl := lv_entry ([.ref h, .int p1]) (n := 3) (Nat.le_of_ble_eq_true rfl)
  rw [lg_entry_eq]
  generalize (lg_sl ([.ref h, .int p1]) ++ List.replicate (3 - (lg_sl ([.ref h, .int p1])).length) Slot.unset).toArray = ls at hl ⊢
  have hl : lv_has ls 3 [(0, .ref h), (1, .int p1)] := hl
  generalize hH : s.heap = H at hP hS ⊢
  have hS : va_S A s.heap H [] := by rw [hH]; exact hS
  have C0 : wCX p s #[.ref h, .int p1] m meth c cX3_makeRow 3 none RX3 wsX3_makeRow := ⟨hx, hb, hr, hml, hown, hts, hlocks⟩
  show W p l e rmX3_makeRow s m #[.ref h, .int p1] below meth c H [] 0 0 (MQ below (wQv (wcX3_makeRow cI cJ cZ cG h h_strengths h_met h_row h_others n_length v_strengths n_row) (dC, dI) A) #[.ref h, .int p1] s 0 0 A) (F0 m 0 ls [])
  unfold fX3_makeRow at hf
  refine lv_aload_n hx hb dX3_makeRow_0 rfl (lv_at hl 0 rfl) ?_
  refine lv_iconst (v := 0) hx hb dX3_makeRow_1 (by decide) ?_
  refine va_put (D := (dC, dI)) (ci := 3) (v := .int 0) (ty := .int) (C := RX3) (T := TX3) (N := 5) hx hb hts iX3_makeRow_X3 tyX3 tyX3_ok nmX3 hown hK hP hD hS 0 rfl rfl 4 (by decide) (hts _ mX3_makeRow_0) (fun _ h9 => h9) rfl (by decide +kernel) rfl rfl (Nat.le_of_ble_eq_true rfl) dX3_makeRow_2 (fun H locs hP hD hS => ?_)
  have hP : va_P (dC, dI) vwCl (wcX3_makeRow cI cJ cZ cG h h_strengths h_met h_row h_others 0 v_strengths v_row) H := hP
  have hD : va_D A (wcX3_makeRow cI cJ cZ cG h h_strengths h_met h_row h_others 0 v_strengths v_row) := hD
  refine lv_iconst (v := 0) hx hb dX3_makeRow_5 (by decide) ?_
  refine lv_istore_n (lv' := [(2, .int 0), (0, .ref h), (1, .int p1)]) hx hb dX3_makeRow_6 rfl hl (by decide) rfl (fun ls hl => ?_)
  have hf : fX3_makeRow_b7 v_strengths 70 0 v_row p1 0 = some (n_length, n_row) := hf
  exact kX3_makeRow_7 C0 hA hK 70 0 v_row p1 0 _ _ _ hf hP hD hS (lv_sub hl [1, 2, 0] rfl)
