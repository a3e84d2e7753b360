/-! printed by init.py: constructors -/
abbrev wcX6_full (cI cJ cZ cG : ClassId) (h h_lives h_shields h_effects h_numbers h_players h_against : Nat) (v_size : Int32) (v_lives : Nat → Int32) (v_shields : Nat → Int32) (v_effects : Nat → Int32) (v_numbers : Nat → Int32) (v_players : Nat → Int32) (v_against : Nat → Int32) : va_W := [(h, .inr (6, [.ref h_lives, .ref h_shields, .ref h_effects, .ref h_numbers, .ref h_players, .ref h_against, .int v_size])), (h_lives, .inl (cI, 6, .inl v_lives)), (h_shields, .inl (cI, 6, .inl v_shields)), (h_effects, .inl (cI, 6, .inl v_effects)), (h_numbers, .inl (cI, 6, .inl v_numbers)), (h_players, .inl (cI, 6, .inl v_players)), (h_against, .inl (cI, 6, .inl v_against))]
theorem iX6_init_X6 : ∀ w ∈ wsX60, w ∈ wsX6_init := by decide +kernel
theorem mX6_init_0 : (Cond.methodLink RX6 3 objectInit) ∈ wsX6_init := by decide +kernel
theorem mX6_init_1 : (Cond.instanceMethod objectInit) ∈ wsX6_init := by decide +kernel
theorem mX6_init_2 : (Cond.code objectInit ⟨#[0xb1]⟩ 1 none) ∈ wsX6_init := by decide +kernel
theorem mX6_init_3 : (Cond.arrayClass .int) ∈ wsX6_init := by decide +kernel
theorem mX6_init_4 : (Cond.fieldLink RX6 9 "Sleevehall$Table" "lives" "[I") ∈ wsX6_init := by decide +kernel
theorem mX6_init_5 : (Cond.fieldLink RX6 15 "Sleevehall$Table" "shields" "[I") ∈ wsX6_init := by decide +kernel
theorem mX6_init_6 : (Cond.fieldLink RX6 18 "Sleevehall$Table" "effects" "[I") ∈ wsX6_init := by decide +kernel
theorem mX6_init_7 : (Cond.fieldLink RX6 21 "Sleevehall$Table" "numbers" "[I") ∈ wsX6_init := by decide +kernel
theorem mX6_init_8 : (Cond.fieldLink RX6 24 "Sleevehall$Table" "players" "[I") ∈ wsX6_init := by decide +kernel
theorem mX6_init_9 : (Cond.fieldLink RX6 27 "Sleevehall$Table" "against" "[I") ∈ wsX6_init := by decide +kernel
abbrev rmX6_init : Room := { frames := 1, cells := 6, slots := 36, locals := 24 }
set_option maxHeartbeats 4000000 in
set_option maxRecDepth 100000 in
theorem oX6_init (l : Launch) (dC : Nat → ClassId) (dI : Nat → Nat → Nat) (cI cJ cZ cG : ClassId) (h sz : Nat) (o : Int32 × (Nat → Int32) × (Nat → Int32) × (Nat → Int32) × (Nat → Int32) × (Nat → Int32) × (Nat → Int32)) (hf : fX6_init = some o) : Met l yX6_init wsX6_init rmX6_init (wIPc [.ref h] (dC, dI) (tysW cI cJ cZ cG) sz [(h, .inr (6, [.null, .null, .null, .null, .null, .null, .int 0]))]) (va_Qv (fun _ : Unit => True) (fun _ t => ∃ (h_lives h_shields h_effects h_numbers h_players h_against : Nat) , va_P (dC, dI) vwCl (wcX6_full cI cJ cZ cG h h_lives h_shields h_effects h_numbers h_players h_against (o.1) (o.2.1) (o.2.2.1) (o.2.2.2.1) (o.2.2.2.2.1) (o.2.2.2.2.2.1) (o.2.2.2.2.2.2)) t.heap ∧ va_D (va_A [(h, .inr (6, [.null, .null, .null, .null, .null, .null, .int 0]))] sz) (wcX6_full cI cJ cZ cG h h_lives h_shields h_effects h_numbers h_players h_against (o.1) (o.2.1) (o.2.2.1) (o.2.2.2.1) (o.2.2.2.2.1) (o.2.2.2.2.2.1) (o.2.2.2.2.2.2))) (va_A [(h, .inr (6, [.null, .null, .null, .null, .null, .null, .int 0]))] sz)) 6 36 (va_A [(h, .inr (6, [.null, .null, .null, .null, .null, .null, .int 0]))] sz) := by
  refine Met.ofW (cc := cX6_init) (maxL := 1) (ret := none) (by decide) rfl ?_
  intro p e s m args below meth c s₁ B hml hv
  obtain ⟨rfl, hsz, hP, hK, hD0, hI⟩ := hv
  have hx := B.exec
  have hb := B.bytes
  have hr := B.returns
  have hts := atoms_spec (ws := wsX6_init) B.pre
  have hown : s.vm.findClass RX6 = some m.cls := findClass_of_methodNamed B.named
  have hlocks := B.notSynchronized
  have hin : meth.name = "<init>" := (name_of_methodNamed B.named B.method).1
  subst hsz
  have hD := hD0.self (sz := s.heap.size)
  generalize hAe : va_A [(h, .inr (6, [.null, .null, .null, .null, .null, .null, .int 0]))] s.heap.size = A at hD ⊢
  have hA : ∀ q : Nat, s.heap.size ≤ q → A q := fun q h => by rw [← hAe]; exact Or.inr h
  have hS : va_S A s.heap s.heap [] := va_S.rf
  have hP : va_P (dC, dI) vwCl [(h, .inr (6, [.null, .null, .null, .null, .null, .null, .int 0]))] s.heap := hP
  have hl := lv_entry ([.ref h]) (n := 1) (Nat.le_of_ble_eq_true rfl)
  rw [lg_entry_eq]
  generalize (lg_sl ([.ref h]) ++ List.replicate (1 - (lg_sl ([.ref h])).length) Slot.unset).toArray = ls at hl ⊢
  have hl : lv_has ls 1 [(0, .ref h)] := hl
  generalize hH : s.heap = H at hP hS ⊢
  have hS : va_S A s.heap H [] := by rw [hH]; exact hS
  have C0 : wCX p s #[.ref h] m meth c cX6_init 1 none RX6 wsX6_init := ⟨hx, hb, hr, hml, hown, hts, hlocks⟩
  show W p l e rmX6_init s m #[.ref h] below meth c H [] 0 0 (MQ below (va_Qv (fun _ : Unit => True) (fun _ t => ∃ (h_lives h_shields h_effects h_numbers h_players h_against : Nat) , va_P (dC, dI) vwCl (wcX6_full cI cJ cZ cG h h_lives h_shields h_effects h_numbers h_players h_against (o.1) (o.2.1) (o.2.2.1) (o.2.2.2.1) (o.2.2.2.2.1) (o.2.2.2.2.2.1) (o.2.2.2.2.2.2)) t.heap ∧ va_D A (wcX6_full cI cJ cZ cG h h_lives h_shields h_effects h_numbers h_players h_against (o.1) (o.2.1) (o.2.2.1) (o.2.2.2.1) (o.2.2.2.2.1) (o.2.2.2.2.2.1) (o.2.2.2.2.2.2))) A) #[.ref h] s 6 36 A) (F0 m 0 ls [])
  unfold fX6_init at hf
  refine lv_aload_n hx hb dX6_init_0 rfl (lv_at hl 0 rfl) ?_
  refine W.objInit hx hb hown (hts _ mX6_init_0) (hts _ mX6_init_1) (hts _ mX6_init_2) rfl (by rw [hml]; exact hl.1) rfl dX6_init_1 (Nat.le_of_ble_eq_true rfl) (Nat.le_of_ble_eq_true rfl) ?_
  refine lv_aload_n hx hb dX6_init_4 rfl (lv_at hl 0 rfl) ?_
  refine lv_bipush (v := 6) hx hb dX6_init_5 (by decide) ?_
  refine w_newI hx hb (hts _ mX6_init_3) hK 0 rfl hP hD hS hA (N' := 6) (by decide) (by decide) (by decide) (by decide) (by decide) dX6_init_7 (fun q_1 H2 hP2 hD2 hS2 => ?_)
  clear hS hD hP
  replace hP2 : va_P (dC, dI) vwCl [(h, .inr (6, [.null, .null, .null, .null, .null, .null, .int 0])), (q_1, .inl (cI, 6, .inl (fun _ => 0)))] H2 := hP2
  replace hD2 : va_D A [(h, .inr (6, [.null, .null, .null, .null, .null, .null, .int 0])), (q_1, .inl (cI, 6, .inl (fun _ => 0)))] := hD2
  refine va_putF (D := (dC, dI)) (ci := 6) (v := .ref q_1) (ty := .array .int) (C := RX6) (T := TX6) (N := 7) hx hb hts iX6_init_X6 tyX6 tyX6_ok nmX6 hown hK hP2 hD2 hS2 0 rfl rfl 0 (by decide) (hts _ mX6_init_4) (fun _ h9 => h9) rfl hin rfl (by decide +kernel) rfl rfl (Nat.le_of_ble_eq_true rfl) dX6_init_9 (fun H locs2 hP hD hS => ?_)
  clear hS2 hD2 hP2
  replace hP : va_P (dC, dI) vwCl [(h, .inr (6, [.ref q_1, .null, .null, .null, .null, .null, .int 0])), (q_1, .inl (cI, 6, .inl (fun _ => 0)))] H := hP
  replace hD : va_D A [(h, .inr (6, [.ref q_1, .null, .null, .null, .null, .null, .int 0])), (q_1, .inl (cI, 6, .inl (fun _ => 0)))] := hD
  refine lv_aload_n hx hb dX6_init_12 rfl (lv_at hl 0 rfl) ?_
  refine lv_bipush (v := 6) hx hb dX6_init_13 (by decide) ?_
  refine w_newI hx hb (hts _ mX6_init_3) hK 0 rfl hP hD hS hA (N' := 6) (by decide) (by decide) (by decide) (by decide) (by decide) dX6_init_15 (fun q_2 H2 hP2 hD2 hS2 => ?_)
  clear hS hD hP
  replace hP2 : va_P (dC, dI) vwCl [(h, .inr (6, [.ref q_1, .null, .null, .null, .null, .null, .int 0])), (q_1, .inl (cI, 6, .inl (fun _ => 0))), (q_2, .inl (cI, 6, .inl (fun _ => 0)))] H2 := hP2
  replace hD2 : va_D A [(h, .inr (6, [.ref q_1, .null, .null, .null, .null, .null, .int 0])), (q_1, .inl (cI, 6, .inl (fun _ => 0))), (q_2, .inl (cI, 6, .inl (fun _ => 0)))] := hD2
  refine va_putF (D := (dC, dI)) (ci := 6) (v := .ref q_2) (ty := .array .int) (C := RX6) (T := TX6) (N := 7) hx hb hts iX6_init_X6 tyX6 tyX6_ok nmX6 hown hK hP2 hD2 hS2 0 rfl rfl 1 (by decide) (hts _ mX6_init_5) (fun _ h9 => h9) rfl hin rfl (by decide +kernel) rfl rfl (Nat.le_of_ble_eq_true rfl) dX6_init_17 (fun H locs hP hD hS => ?_)
  clear hS2 hD2 hP2
  replace hP : va_P (dC, dI) vwCl [(h, .inr (6, [.ref q_1, .ref q_2, .null, .null, .null, .null, .int 0])), (q_1, .inl (cI, 6, .inl (fun _ => 0))), (q_2, .inl (cI, 6, .inl (fun _ => 0)))] H := hP
  replace hD : va_D A [(h, .inr (6, [.ref q_1, .ref q_2, .null, .null, .null, .null, .int 0])), (q_1, .inl (cI, 6, .inl (fun _ => 0))), (q_2, .inl (cI, 6, .inl (fun _ => 0)))] := hD
  refine lv_aload_n hx hb dX6_init_20 rfl (lv_at hl 0 rfl) ?_
  refine lv_bipush (v := 6) hx hb dX6_init_21 (by decide) ?_
  refine w_newI hx hb (hts _ mX6_init_3) hK 0 rfl hP hD hS hA (N' := 6) (by decide) (by decide) (by decide) (by decide) (by decide) dX6_init_23 (fun q_3 H2 hP2 hD2 hS2 => ?_)
  clear hS hD hP
  replace hP2 : va_P (dC, dI) vwCl [(h, .inr (6, [.ref q_1, .ref q_2, .null, .null, .null, .null, .int 0])), (q_1, .inl (cI, 6, .inl (fun _ => 0))), (q_2, .inl (cI, 6, .inl (fun _ => 0))), (q_3, .inl (cI, 6, .inl (fun _ => 0)))] H2 := hP2
  replace hD2 : va_D A [(h, .inr (6, [.ref q_1, .ref q_2, .null, .null, .null, .null, .int 0])), (q_1, .inl (cI, 6, .inl (fun _ => 0))), (q_2, .inl (cI, 6, .inl (fun _ => 0))), (q_3, .inl (cI, 6, .inl (fun _ => 0)))] := hD2
  refine va_putF (D := (dC, dI)) (ci := 6) (v := .ref q_3) (ty := .array .int) (C := RX6) (T := TX6) (N := 7) hx hb hts iX6_init_X6 tyX6 tyX6_ok nmX6 hown hK hP2 hD2 hS2 0 rfl rfl 2 (by decide) (hts _ mX6_init_6) (fun _ h9 => h9) rfl hin rfl (by decide +kernel) rfl rfl (Nat.le_of_ble_eq_true rfl) dX6_init_25 (fun H locs2 hP hD hS => ?_)
  clear hS2 hD2 hP2
  replace hP : va_P (dC, dI) vwCl [(h, .inr (6, [.ref q_1, .ref q_2, .ref q_3, .null, .null, .null, .int 0])), (q_1, .inl (cI, 6, .inl (fun _ => 0))), (q_2, .inl (cI, 6, .inl (fun _ => 0))), (q_3, .inl (cI, 6, .inl (fun _ => 0)))] H := hP
  replace hD : va_D A [(h, .inr (6, [.ref q_1, .ref q_2, .ref q_3, .null, .null, .null, .int 0])), (q_1, .inl (cI, 6, .inl (fun _ => 0))), (q_2, .inl (cI, 6, .inl (fun _ => 0))), (q_3, .inl (cI, 6, .inl (fun _ => 0)))] := hD
  refine lv_aload_n hx hb dX6_init_28 rfl (lv_at hl 0 rfl) ?_
  refine lv_bipush (v := 6) hx hb dX6_init_29 (by decide) ?_
  refine w_newI hx hb (hts _ mX6_init_3) hK 0 rfl hP hD hS hA (N' := 6) (by decide) (by decide) (by decide) (by decide) (by decide) dX6_init_31 (fun q_4 H2 hP2 hD2 hS2 => ?_)
  clear hS hD hP
  replace hP2 : va_P (dC, dI) vwCl [(h, .inr (6, [.ref q_1, .ref q_2, .ref q_3, .null, .null, .null, .int 0])), (q_1, .inl (cI, 6, .inl (fun _ => 0))), (q_2, .inl (cI, 6, .inl (fun _ => 0))), (q_3, .inl (cI, 6, .inl (fun _ => 0))), (q_4, .inl (cI, 6, .inl (fun _ => 0)))] H2 := hP2
  replace hD2 : va_D A [(h, .inr (6, [.ref q_1, .ref q_2, .ref q_3, .null, .null, .null, .int 0])), (q_1, .inl (cI, 6, .inl (fun _ => 0))), (q_2, .inl (cI, 6, .inl (fun _ => 0))), (q_3, .inl (cI, 6, .inl (fun _ => 0))), (q_4, .inl (cI, 6, .inl (fun _ => 0)))] := hD2
  refine va_putF (D := (dC, dI)) (ci := 6) (v := .ref q_4) (ty := .array .int) (C := RX6) (T := TX6) (N := 7) hx hb hts iX6_init_X6 tyX6 tyX6_ok nmX6 hown hK hP2 hD2 hS2 0 rfl rfl 3 (by decide) (hts _ mX6_init_7) (fun _ h9 => h9) rfl hin rfl (by decide +kernel) rfl rfl (Nat.le_of_ble_eq_true rfl) dX6_init_33 (fun H locs hP hD hS => ?_)
  clear hS2 hD2 hP2
  replace hP : va_P (dC, dI) vwCl [(h, .inr (6, [.ref q_1, .ref q_2, .ref q_3, .ref q_4, .null, .null, .int 0])), (q_1, .inl (cI, 6, .inl (fun _ => 0))), (q_2, .inl (cI, 6, .inl (fun _ => 0))), (q_3, .inl (cI, 6, .inl (fun _ => 0))), (q_4, .inl (cI, 6, .inl (fun _ => 0)))] H := hP
  replace hD : va_D A [(h, .inr (6, [.ref q_1, .ref q_2, .ref q_3, .ref q_4, .null, .null, .int 0])), (q_1, .inl (cI, 6, .inl (fun _ => 0))), (q_2, .inl (cI, 6, .inl (fun _ => 0))), (q_3, .inl (cI, 6, .inl (fun _ => 0))), (q_4, .inl (cI, 6, .inl (fun _ => 0)))] := hD
  refine lv_aload_n hx hb dX6_init_36 rfl (lv_at hl 0 rfl) ?_
  refine lv_bipush (v := 6) hx hb dX6_init_37 (by decide) ?_
  refine w_newI hx hb (hts _ mX6_init_3) hK 0 rfl hP hD hS hA (N' := 6) (by decide) (by decide) (by decide) (by decide) (by decide) dX6_init_39 (fun q_5 H2 hP2 hD2 hS2 => ?_)
  clear hS hD hP
  replace hP2 : va_P (dC, dI) vwCl [(h, .inr (6, [.ref q_1, .ref q_2, .ref q_3, .ref q_4, .null, .null, .int 0])), (q_1, .inl (cI, 6, .inl (fun _ => 0))), (q_2, .inl (cI, 6, .inl (fun _ => 0))), (q_3, .inl (cI, 6, .inl (fun _ => 0))), (q_4, .inl (cI, 6, .inl (fun _ => 0))), (q_5, .inl (cI, 6, .inl (fun _ => 0)))] H2 := hP2
  replace hD2 : va_D A [(h, .inr (6, [.ref q_1, .ref q_2, .ref q_3, .ref q_4, .null, .null, .int 0])), (q_1, .inl (cI, 6, .inl (fun _ => 0))), (q_2, .inl (cI, 6, .inl (fun _ => 0))), (q_3, .inl (cI, 6, .inl (fun _ => 0))), (q_4, .inl (cI, 6, .inl (fun _ => 0))), (q_5, .inl (cI, 6, .inl (fun _ => 0)))] := hD2
  refine va_putF (D := (dC, dI)) (ci := 6) (v := .ref q_5) (ty := .array .int) (C := RX6) (T := TX6) (N := 7) hx hb hts iX6_init_X6 tyX6 tyX6_ok nmX6 hown hK hP2 hD2 hS2 0 rfl rfl 4 (by decide) (hts _ mX6_init_8) (fun _ h9 => h9) rfl hin rfl (by decide +kernel) rfl rfl (Nat.le_of_ble_eq_true rfl) dX6_init_41 (fun H locs2 hP hD hS => ?_)
  clear hS2 hD2 hP2
  replace hP : va_P (dC, dI) vwCl [(h, .inr (6, [.ref q_1, .ref q_2, .ref q_3, .ref q_4, .ref q_5, .null, .int 0])), (q_1, .inl (cI, 6, .inl (fun _ => 0))), (q_2, .inl (cI, 6, .inl (fun _ => 0))), (q_3, .inl (cI, 6, .inl (fun _ => 0))), (q_4, .inl (cI, 6, .inl (fun _ => 0))), (q_5, .inl (cI, 6, .inl (fun _ => 0)))] H := hP
  replace hD : va_D A [(h, .inr (6, [.ref q_1, .ref q_2, .ref q_3, .ref q_4, .ref q_5, .null, .int 0])), (q_1, .inl (cI, 6, .inl (fun _ => 0))), (q_2, .inl (cI, 6, .inl (fun _ => 0))), (q_3, .inl (cI, 6, .inl (fun _ => 0))), (q_4, .inl (cI, 6, .inl (fun _ => 0))), (q_5, .inl (cI, 6, .inl (fun _ => 0)))] := hD
  refine lv_aload_n hx hb dX6_init_44 rfl (lv_at hl 0 rfl) ?_
  refine lv_bipush (v := 6) hx hb dX6_init_45 (by decide) ?_
  refine w_newI hx hb (hts _ mX6_init_3) hK 0 rfl hP hD hS hA (N' := 6) (by decide) (by decide) (by decide) (by decide) (by decide) dX6_init_47 (fun q_6 H2 hP2 hD2 hS2 => ?_)
  clear hS hD hP
  replace hP2 : va_P (dC, dI) vwCl [(h, .inr (6, [.ref q_1, .ref q_2, .ref q_3, .ref q_4, .ref q_5, .null, .int 0])), (q_1, .inl (cI, 6, .inl (fun _ => 0))), (q_2, .inl (cI, 6, .inl (fun _ => 0))), (q_3, .inl (cI, 6, .inl (fun _ => 0))), (q_4, .inl (cI, 6, .inl (fun _ => 0))), (q_5, .inl (cI, 6, .inl (fun _ => 0))), (q_6, .inl (cI, 6, .inl (fun _ => 0)))] H2 := hP2
  replace hD2 : va_D A [(h, .inr (6, [.ref q_1, .ref q_2, .ref q_3, .ref q_4, .ref q_5, .null, .int 0])), (q_1, .inl (cI, 6, .inl (fun _ => 0))), (q_2, .inl (cI, 6, .inl (fun _ => 0))), (q_3, .inl (cI, 6, .inl (fun _ => 0))), (q_4, .inl (cI, 6, .inl (fun _ => 0))), (q_5, .inl (cI, 6, .inl (fun _ => 0))), (q_6, .inl (cI, 6, .inl (fun _ => 0)))] := hD2
  refine va_putF (D := (dC, dI)) (ci := 6) (v := .ref q_6) (ty := .array .int) (C := RX6) (T := TX6) (N := 7) hx hb hts iX6_init_X6 tyX6 tyX6_ok nmX6 hown hK hP2 hD2 hS2 0 rfl rfl 5 (by decide) (hts _ mX6_init_9) (fun _ h9 => h9) rfl hin rfl (by decide +kernel) rfl rfl (Nat.le_of_ble_eq_true rfl) dX6_init_49 (fun H locs hP hD hS => ?_)
  clear hS2 hD2 hP2
  replace hP : va_P (dC, dI) vwCl [(h, .inr (6, [.ref q_1, .ref q_2, .ref q_3, .ref q_4, .ref q_5, .ref q_6, .int 0])), (q_1, .inl (cI, 6, .inl (fun _ => 0))), (q_2, .inl (cI, 6, .inl (fun _ => 0))), (q_3, .inl (cI, 6, .inl (fun _ => 0))), (q_4, .inl (cI, 6, .inl (fun _ => 0))), (q_5, .inl (cI, 6, .inl (fun _ => 0))), (q_6, .inl (cI, 6, .inl (fun _ => 0)))] H := hP
  replace hD : va_D A [(h, .inr (6, [.ref q_1, .ref q_2, .ref q_3, .ref q_4, .ref q_5, .ref q_6, .int 0])), (q_1, .inl (cI, 6, .inl (fun _ => 0))), (q_2, .inl (cI, 6, .inl (fun _ => 0))), (q_3, .inl (cI, 6, .inl (fun _ => 0))), (q_4, .inl (cI, 6, .inl (fun _ => 0))), (q_5, .inl (cI, 6, .inl (fun _ => 0))), (q_6, .inl (cI, 6, .inl (fun _ => 0)))] := hD
  refine lv_aload_n hx hb dX6_init_52 rfl (lv_at hl 0 rfl) ?_
  obtain ⟨⟨w_7, w_8, w_9⟩, hc_10, hf2⟩ := ob_s hf
  clear hf
  refine w_callVv (As := []) (rest := []) (wr := List.filterMap (fun i : Nat => ([(h, .inr (6, [.ref q_1, .ref q_2, .ref q_3, .ref q_4, .ref q_5, .ref q_6, .int 0])), (q_1, .inl (cI, 6, .inl (fun _ => 0))), (q_2, .inl (cI, 6, .inl (fun _ => 0))), (q_3, .inl (cI, 6, .inl (fun _ => 0))), (q_4, .inl (cI, 6, .inl (fun _ => 0))), (q_5, .inl (cI, 6, .inl (fun _ => 0))), (q_6, .inl (cI, 6, .inl (fun _ => 0)))] : va_W)[i]?) [3, 4, 5, 6]) (ws1 := [(h, .inr (6, [.ref q_1, .ref q_2, .ref q_3, .ref q_4, .ref q_5, .ref q_6, .int w_7])), (q_1, .inl (cI, 6, .inl w_8)), (q_2, .inl (cI, 6, .inl w_9)), (q_3, .inl (cI, 6, .inl (fun _ => 0))), (q_4, .inl (cI, 6, .inl (fun _ => 0))), (q_5, .inl (cI, 6, .inl (fun _ => 0))), (q_6, .inl (cI, 6, .inl (fun _ => 0)))]) ⟨hx, hb, hml, hown, hts⟩ (oX6_clear l dC dI cI cJ cZ cG h q_1 q_2 q_3 q_4 q_5 q_6 0 (fun _ => 0) (fun _ => 0) H.size w_7 w_8 w_9 hc_10) (cwV 0 hts gX6_init_X6_clear rfl rfl rfl (by decide +kernel) ⟨Nat.le_of_ble_eq_true rfl, Nat.le_of_ble_eq_true rfl⟩) hK 0 6 rfl rfl rfl hP hD hS hA [0, 1, 2] [3, 4, 5, 6] [4, 5, 6, 0, 1, 2, 3] rfl rfl rfl rfl (by decide) rfl rfl rfl hl.1 rfl (Nat.le_of_ble_eq_true rfl) dX6_init_53 ⟨Nat.le_of_ble_eq_true rfl, Nat.le_of_ble_eq_true rfl⟩ (fun H2 locs2 hP2 hD2 hS2 => ?_)
  clear hS hD hP
  have hf2 : some (w_7, w_8, w_9, (fun _ => 0), (fun _ => 0), (fun _ => 0), (fun _ => 0)) = some o := hf2
  cases hf2
  replace hP2 := hP2.sub (ws' := (wcX6_full cI cJ cZ cG h q_1 q_2 q_3 q_4 q_5 q_6 w_7 w_8 w_9 (fun _ => 0) (fun _ => 0) (fun _ => 0) (fun _ => 0))) [0, 1, 2, 3, 4, 5, 6] rfl
  replace hD2 := hD2.sub (ws' := (wcX6_full cI cJ cZ cG h q_1 q_2 q_3 q_4 q_5 q_6 w_7 w_8 w_9 (fun _ => 0) (fun _ => 0) (fun _ => 0) (fun _ => 0))) [0, 1, 2, 3, 4, 5, 6] (by decide) rfl
  exact W.vret hx hb hr (fun t ht hW => ⟨⟨(), rfl, trivial, q_1, q_2, q_3, q_4, q_5, q_6, by rw [ht]; exact hP2, hD2⟩, hS2.F ht⟩) hS2.2.2 dX6_init_56
abbrev wcX1_full (cI cJ cZ cG : ClassId) (h h_deeds h_anew h_anew_lives h_anew_shields h_anew_effects h_anew_numbers h_anew_players h_anew_against : Nat) (v_count : Int32) (v_deeds : Nat → Int32) (v_anew_size : Int32) (v_anew_lives : Nat → Int32) (v_anew_shields : Nat → Int32) (v_anew_effects : Nat → Int32) (v_anew_numbers : Nat → Int32) (v_anew_players : Nat → Int32) (v_anew_against : Nat → Int32) : va_W := [(h, .inr (1, [.ref h_deeds, .ref h_anew, .int v_count])), (h_deeds, .inl (cI, 512, .inl v_deeds)), (h_anew, .inr (6, [.ref h_anew_lives, .ref h_anew_shields, .ref h_anew_effects, .ref h_anew_numbers, .ref h_anew_players, .ref h_anew_against, .int v_anew_size])), (h_anew_lives, .inl (cI, 6, .inl v_anew_lives)), (h_anew_shields, .inl (cI, 6, .inl v_anew_shields)), (h_anew_effects, .inl (cI, 6, .inl v_anew_effects)), (h_anew_numbers, .inl (cI, 6, .inl v_anew_numbers)), (h_anew_players, .inl (cI, 6, .inl v_anew_players)), (h_anew_against, .inl (cI, 6, .inl v_anew_against))]
theorem iX1_init_X1 : ∀ w ∈ wsX10, w ∈ wsX1_init := by decide +kernel
theorem iX1_init_X6 : ∀ w ∈ wsX60, w ∈ wsX1_init := by decide +kernel
theorem mX1_init_0 : (Cond.methodLink RX1 3 objectInit) ∈ wsX1_init := by decide +kernel
theorem mX1_init_1 : (Cond.instanceMethod objectInit) ∈ wsX1_init := by decide +kernel
theorem mX1_init_2 : (Cond.code objectInit ⟨#[0xb1]⟩ 1 none) ∈ wsX1_init := by decide +kernel
theorem mX1_init_3 : (Cond.arrayClass .int) ∈ wsX1_init := by decide +kernel
theorem mX1_init_4 : (Cond.fieldLink RX1 9 "Sleevehall$History" "deeds" "[I") ∈ wsX1_init := by decide +kernel
theorem mX1_init_5 : (Cond.classLink RX1 15 RX6) ∈ wsX1_init := by decide +kernel
theorem mX1_init_6 : (Cond.instantiable RX6 7) ∈ wsX1_init := by decide +kernel
theorem mX1_init_7 : (Cond.initialized RX6) ∈ wsX1_init := by decide +kernel
theorem mX1_init_8 : (Cond.instanceMethod yX6_init) ∈ wsX1_init := by decide +kernel
theorem mX1_init_9 : (Cond.methodLink RX1 17 yX6_init) ∈ wsX1_init := by decide +kernel
theorem mX1_init_10 : (Cond.fieldLink RX1 18 "Sleevehall$History" "anew" "LSleevehall$Table;") ∈ wsX1_init := by decide +kernel
abbrev rmX1_init : Room := { frames := 2, cells := 8, slots := 555, locals := 44 }
set_option maxHeartbeats 4000000 in
set_option maxRecDepth 100000 in
theorem oX1_init (l : Launch) (dC : Nat → ClassId) (dI : Nat → Nat → Nat) (cI cJ cZ cG : ClassId) (h sz : Nat) (o : Int32 × (Nat → Int32) × Int32 × (Nat → Int32) × (Nat → Int32) × (Nat → Int32) × (Nat → Int32) × (Nat → Int32) × (Nat → Int32)) (hf : fX1_init = some o) : Met l yX1_init wsX1_init rmX1_init (wIPc [.ref h] (dC, dI) (tysW cI cJ cZ cG) sz [(h, .inr (1, [.null, .null, .int 0]))]) (va_Qv (fun _ : Unit => True) (fun _ t => ∃ (h_deeds h_anew h_anew_lives h_anew_shields h_anew_effects h_anew_numbers h_anew_players h_anew_against : Nat) , va_P (dC, dI) vwCl (wcX1_full cI cJ cZ cG h h_deeds h_anew h_anew_lives h_anew_shields h_anew_effects h_anew_numbers h_anew_players h_anew_against (o.1) (o.2.1) (o.2.2.1) (o.2.2.2.1) (o.2.2.2.2.1) (o.2.2.2.2.2.1) (o.2.2.2.2.2.2.1) (o.2.2.2.2.2.2.2.1) (o.2.2.2.2.2.2.2.2)) t.heap ∧ va_D (va_A [(h, .inr (1, [.null, .null, .int 0]))] sz) (wcX1_full cI cJ cZ cG h h_deeds h_anew h_anew_lives h_anew_shields h_anew_effects h_anew_numbers h_anew_players h_anew_against (o.1) (o.2.1) (o.2.2.1) (o.2.2.2.1) (o.2.2.2.2.1) (o.2.2.2.2.2.1) (o.2.2.2.2.2.2.1) (o.2.2.2.2.2.2.2.1) (o.2.2.2.2.2.2.2.2))) (va_A [(h, .inr (1, [.null, .null, .int 0]))] sz)) 8 555 (va_A [(h, .inr (1, [.null, .null, .int 0]))] sz) := by
  refine Met.ofW (cc := cX1_init) (maxL := 1) (ret := none) (by decide) rfl ?_
  intro p e s m args below meth c s₁ B hml hv
  obtain ⟨rfl, hsz, hP, hK, hD0, hI⟩ := hv
  have hx := B.exec
  have hb := B.bytes
  have hr := B.returns
  have hts := atoms_spec (ws := wsX1_init) B.pre
  have hown : s.vm.findClass RX1 = some m.cls := findClass_of_methodNamed B.named
  have hlocks := B.notSynchronized
  have hin : meth.name = "<init>" := (name_of_methodNamed B.named B.method).1
  subst hsz
  have hD := hD0.self (sz := s.heap.size)
  generalize hAe : va_A [(h, .inr (1, [.null, .null, .int 0]))] s.heap.size = A at hD ⊢
  have hA : ∀ q : Nat, s.heap.size ≤ q → A q := fun q h => by rw [← hAe]; exact Or.inr h
  have hS : va_S A s.heap s.heap [] := va_S.rf
  have hP : va_P (dC, dI) vwCl [(h, .inr (1, [.null, .null, .int 0]))] s.heap := hP
  have hl := lv_entry ([.ref h]) (n := 1) (Nat.le_of_ble_eq_true rfl)
  rw [lg_entry_eq]
  generalize (lg_sl ([.ref h]) ++ List.replicate (1 - (lg_sl ([.ref h])).length) Slot.unset).toArray = ls at hl ⊢
  have hl : lv_has ls 1 [(0, .ref h)] := hl
  generalize hH : s.heap = H at hP hS ⊢
  have hS : va_S A s.heap H [] := by rw [hH]; exact hS
  have C0 : wCX p s #[.ref h] m meth c cX1_init 1 none RX1 wsX1_init := ⟨hx, hb, hr, hml, hown, hts, hlocks⟩
  show W p l e rmX1_init s m #[.ref h] below meth c H [] 0 0 (MQ below (va_Qv (fun _ : Unit => True) (fun _ t => ∃ (h_deeds h_anew h_anew_lives h_anew_shields h_anew_effects h_anew_numbers h_anew_players h_anew_against : Nat) , va_P (dC, dI) vwCl (wcX1_full cI cJ cZ cG h h_deeds h_anew h_anew_lives h_anew_shields h_anew_effects h_anew_numbers h_anew_players h_anew_against (o.1) (o.2.1) (o.2.2.1) (o.2.2.2.1) (o.2.2.2.2.1) (o.2.2.2.2.2.1) (o.2.2.2.2.2.2.1) (o.2.2.2.2.2.2.2.1) (o.2.2.2.2.2.2.2.2)) t.heap ∧ va_D A (wcX1_full cI cJ cZ cG h h_deeds h_anew h_anew_lives h_anew_shields h_anew_effects h_anew_numbers h_anew_players h_anew_against (o.1) (o.2.1) (o.2.2.1) (o.2.2.2.1) (o.2.2.2.2.1) (o.2.2.2.2.2.1) (o.2.2.2.2.2.2.1) (o.2.2.2.2.2.2.2.1) (o.2.2.2.2.2.2.2.2))) A) #[.ref h] s 8 555 A) (F0 m 0 ls [])
  unfold fX1_init at hf
  refine lv_aload_n hx hb dX1_init_0 rfl (lv_at hl 0 rfl) ?_
  refine W.objInit hx hb hown (hts _ mX1_init_0) (hts _ mX1_init_1) (hts _ mX1_init_2) rfl (by rw [hml]; exact hl.1) rfl dX1_init_1 (Nat.le_of_ble_eq_true rfl) (Nat.le_of_ble_eq_true rfl) ?_
  refine lv_aload_n hx hb dX1_init_4 rfl (lv_at hl 0 rfl) ?_
  refine lv_sipush (v := 512) hx hb dX1_init_5 (by decide) ?_
  refine w_newI hx hb (hts _ mX1_init_3) hK 0 rfl hP hD hS hA (N' := 512) (by decide) (by decide) (by decide) (by decide) (by decide) dX1_init_8 (fun q_1 H2 hP2 hD2 hS2 => ?_)
  clear hS hD hP
  replace hP2 : va_P (dC, dI) vwCl [(h, .inr (1, [.null, .null, .int 0])), (q_1, .inl (cI, 512, .inl (fun _ => 0)))] H2 := hP2
  replace hD2 : va_D A [(h, .inr (1, [.null, .null, .int 0])), (q_1, .inl (cI, 512, .inl (fun _ => 0)))] := hD2
  refine va_putF (D := (dC, dI)) (ci := 1) (v := .ref q_1) (ty := .array .int) (C := RX1) (T := TX1) (N := 3) hx hb hts iX1_init_X1 tyX1 tyX1_ok nmX1 hown hK hP2 hD2 hS2 0 rfl rfl 0 (by decide) (hts _ mX1_init_4) (fun _ h9 => h9) rfl hin rfl (by decide +kernel) rfl rfl (Nat.le_of_ble_eq_true rfl) dX1_init_10 (fun H locs2 hP hD hS => ?_)
  clear hS2 hD2 hP2
  replace hP : va_P (dC, dI) vwCl [(h, .inr (1, [.ref q_1, .null, .int 0])), (q_1, .inl (cI, 512, .inl (fun _ => 0)))] H := hP
  replace hD : va_D A [(h, .inr (1, [.ref q_1, .null, .int 0])), (q_1, .inl (cI, 512, .inl (fun _ => 0)))] := hD
  refine lv_aload_n hx hb dX1_init_13 rfl (lv_at hl 0 rfl) ?_
  refine va_new (D := (dC, dI)) (ci := 6) (C := RX6) (T := TX6) (N := 7) (fs := [.null, .null, .null, .null, .null, .null, .int 0]) hx hb hts iX1_init_X6 tyX6 tyX6_ok hown (hts _ mX1_init_5) (hts _ mX1_init_6) (hts _ mX1_init_7) hK hP hD hS hA rfl (fun j hj => by rcases j with _ | _ | _ | _ | _ | _ | _ | j <;> first | rfl | omega) (by decide) (by decide) dX1_init_14 (fun q_2 H2 hP2 hD2 hS2 => ?_)
  clear hS hD hP
  replace hP2 : va_P (dC, dI) vwCl [(h, .inr (1, [.ref q_1, .null, .int 0])), (q_1, .inl (cI, 512, .inl (fun _ => 0))), (q_2, .inr (6, [.null, .null, .null, .null, .null, .null, .int 0]))] H2 := hP2
  replace hD2 : va_D A [(h, .inr (1, [.ref q_1, .null, .int 0])), (q_1, .inl (cI, 512, .inl (fun _ => 0))), (q_2, .inr (6, [.null, .null, .null, .null, .null, .null, .int 0]))] := hD2
  refine lv_dup hx hb dX1_init_17 rfl ?_
  obtain ⟨⟨w_3, w_4, w_5, w_6, w_7, w_8, w_9⟩, hc_10, hf2⟩ := ob_s hf
  clear hf
  have hPc := hP2.sub (ws' := [(q_2, .inr (6, [.null, .null, .null, .null, .null, .null, .int 0]))]) [2] rfl
  have hDc := hD2.sub (ws' := [(q_2, .inr (6, [.null, .null, .null, .null, .null, .null, .int 0]))]) [2] (by decide) rfl
  have hFc := va_free (wc := [(q_2, .inr (6, [.null, .null, .null, .null, .null, .null, .int 0]))]) hD2 hS2 hA [2] rfl
  refine va_callv (va_runI (As := []) (rest := [.ref q_2, .ref h]) ⟨hx, hb, hml, hown, hts⟩ (oX6_init l dC dI cI cJ cZ cG q_2 H2.size (w_3, w_4, w_5, w_6, w_7, w_8, w_9) hc_10) (cwI 0 hts gX1_init_X6_init rfl rfl rfl (hts _ mX1_init_7) (hts _ mX1_init_9) (hts _ mX1_init_8) rfl (by decide +kernel) ⟨Nat.le_of_ble_eq_true rfl, Nat.le_of_ble_eq_true rfl⟩) (w_preI hK hPc hDc hI) rfl rfl hl.1 rfl (lv_room (Nat.le_of_ble_eq_true rfl)) dX1_init_18 ⟨Nat.le_of_ble_eq_true rfl, Nat.le_of_ble_eq_true rfl⟩) hS2 (fun q _ h => hFc q h) hFc (fun u t H1 locs1 ht hvm hw hB hz1 hk1 hS1 => ?_)
  obtain ⟨a_11, a_12, a_13, a_14, a_15, a_16, hP1, hD1⟩ := hB
  obtain ⟨hP2, hD2⟩ := w_back (wr := List.filterMap (fun i : Nat => ([(h, .inr (1, [.ref q_1, .null, .int 0])), (q_1, .inl (cI, 512, .inl (fun _ => 0))), (q_2, .inr (6, [.null, .null, .null, .null, .null, .null, .int 0]))] : va_W)[i]?) [0, 1]) (ws1 := List.filterMap (fun i : Nat => ([(h, .inr (1, [.ref q_1, .null, .int 0])), (q_1, .inl (cI, 512, .inl (fun _ => 0))), (q_2, .inr (6, [.null, .null, .null, .null, .null, .null, .int 0]))] : va_W)[i]?) [0, 1] ++ (wcX6_full cI cJ cZ cG q_2 a_11 a_12 a_13 a_14 a_15 a_16 w_3 w_4 w_5 w_6 w_7 w_8 w_9)) hP2 hD2 hS2 hA [2] [0, 1] (List.range (2 + 7)) rfl rfl rfl (by decide) rfl rfl ht ⟨hP1, hD1⟩ hk1
  clear hS2
  have hS2 := hS1
  clear hS1
  generalize H1 = H at *
  generalize locs1 = locs at *
  replace hP2 : va_P (dC, dI) vwCl [(h, .inr (1, [.ref q_1, .null, .int 0])), (q_1, .inl (cI, 512, .inl (fun _ => 0))), (q_2, .inr (6, [.ref a_11, .ref a_12, .ref a_13, .ref a_14, .ref a_15, .ref a_16, .int w_3])), (a_11, .inl (cI, 6, .inl w_4)), (a_12, .inl (cI, 6, .inl w_5)), (a_13, .inl (cI, 6, .inl w_6)), (a_14, .inl (cI, 6, .inl w_7)), (a_15, .inl (cI, 6, .inl w_8)), (a_16, .inl (cI, 6, .inl w_9))] H := hP2
  replace hD2 : va_D A [(h, .inr (1, [.ref q_1, .null, .int 0])), (q_1, .inl (cI, 512, .inl (fun _ => 0))), (q_2, .inr (6, [.ref a_11, .ref a_12, .ref a_13, .ref a_14, .ref a_15, .ref a_16, .int w_3])), (a_11, .inl (cI, 6, .inl w_4)), (a_12, .inl (cI, 6, .inl w_5)), (a_13, .inl (cI, 6, .inl w_6)), (a_14, .inl (cI, 6, .inl w_7)), (a_15, .inl (cI, 6, .inl w_8)), (a_16, .inl (cI, 6, .inl w_9))] := hD2
  refine va_putF (D := (dC, dI)) (ci := 1) (v := .ref q_2) (ty := .object "Sleevehall$Table") (C := RX1) (T := TX1) (N := 3) hx hb hts iX1_init_X1 tyX1 tyX1_ok nmX1 hown hK hP2 hD2 hS2 0 rfl rfl 1 (by decide) (hts _ mX1_init_10) (fun _ h9 => h9) rfl hin rfl (by decide +kernel) rfl rfl (Nat.le_of_ble_eq_true rfl) dX1_init_21 (fun H2 locs2 hP hD hS => ?_)
  clear hS2 hD2 hP2
  replace hP : va_P (dC, dI) vwCl [(h, .inr (1, [.ref q_1, .ref q_2, .int 0])), (q_1, .inl (cI, 512, .inl (fun _ => 0))), (q_2, .inr (6, [.ref a_11, .ref a_12, .ref a_13, .ref a_14, .ref a_15, .ref a_16, .int w_3])), (a_11, .inl (cI, 6, .inl w_4)), (a_12, .inl (cI, 6, .inl w_5)), (a_13, .inl (cI, 6, .inl w_6)), (a_14, .inl (cI, 6, .inl w_7)), (a_15, .inl (cI, 6, .inl w_8)), (a_16, .inl (cI, 6, .inl w_9))] H2 := hP
  replace hD : va_D A [(h, .inr (1, [.ref q_1, .ref q_2, .int 0])), (q_1, .inl (cI, 512, .inl (fun _ => 0))), (q_2, .inr (6, [.ref a_11, .ref a_12, .ref a_13, .ref a_14, .ref a_15, .ref a_16, .int w_3])), (a_11, .inl (cI, 6, .inl w_4)), (a_12, .inl (cI, 6, .inl w_5)), (a_13, .inl (cI, 6, .inl w_6)), (a_14, .inl (cI, 6, .inl w_7)), (a_15, .inl (cI, 6, .inl w_8)), (a_16, .inl (cI, 6, .inl w_9))] := hD
  have hf2 : some (0, (fun _ => 0), w_3, w_4, w_5, w_6, w_7, w_8, w_9) = some o := hf2
  cases hf2
  replace hP := hP.sub (ws' := (wcX1_full cI cJ cZ cG h q_1 q_2 a_11 a_12 a_13 a_14 a_15 a_16 0 (fun _ => 0) w_3 w_4 w_5 w_6 w_7 w_8 w_9)) [0, 1, 2, 3, 4, 5, 6, 7, 8] rfl
  replace hD := hD.sub (ws' := (wcX1_full cI cJ cZ cG h q_1 q_2 a_11 a_12 a_13 a_14 a_15 a_16 0 (fun _ => 0) w_3 w_4 w_5 w_6 w_7 w_8 w_9)) [0, 1, 2, 3, 4, 5, 6, 7, 8] (by decide) rfl
  exact W.vret hx hb hr (fun t ht hW => ⟨⟨(), rfl, trivial, q_1, q_2, a_11, a_12, a_13, a_14, a_15, a_16, by rw [ht]; exact hP, hD⟩, hS.F ht⟩) hS.2.2 dX1_init_24
abbrev wcX2_full (cI cJ cZ cG : ClassId) (h h_effects h_numbers h_bans : Nat) (v_count : Int32) (v_effects : Nat → Int32) (v_numbers : Nat → Int32) (v_bans : Nat → Int32) : va_W := [(h, .inr (2, [.ref h_effects, .ref h_numbers, .ref h_bans, .int v_count])), (h_effects, .inl (cI, 20, .inl v_effects)), (h_numbers, .inl (cI, 20, .inl v_numbers)), (h_bans, .inl (cI, 20, .inl v_bans))]
theorem iX2_init_X2 : ∀ w ∈ wsX20, w ∈ wsX2_init := by decide +kernel
theorem mX2_init_0 : (Cond.methodLink RX2 3 objectInit) ∈ wsX2_init := by decide +kernel
theorem mX2_init_1 : (Cond.instanceMethod objectInit) ∈ wsX2_init := by decide +kernel
theorem mX2_init_2 : (Cond.code objectInit ⟨#[0xb1]⟩ 1 none) ∈ wsX2_init := by decide +kernel
theorem mX2_init_3 : (Cond.arrayClass .int) ∈ wsX2_init := by decide +kernel
theorem mX2_init_4 : (Cond.fieldLink RX2 9 "Sleevehall$Kinds" "effects" "[I") ∈ wsX2_init := by decide +kernel
theorem mX2_init_5 : (Cond.fieldLink RX2 15 "Sleevehall$Kinds" "numbers" "[I") ∈ wsX2_init := by decide +kernel
theorem mX2_init_6 : (Cond.fieldLink RX2 18 "Sleevehall$Kinds" "bans" "[I") ∈ wsX2_init := by decide +kernel
abbrev rmX2_init : Room := { frames := 1, cells := 3, slots := 60, locals := 24 }
set_option maxHeartbeats 4000000 in
set_option maxRecDepth 100000 in
theorem oX2_init (l : Launch) (dC : Nat → ClassId) (dI : Nat → Nat → Nat) (cI cJ cZ cG : ClassId) (h sz : Nat) (o : Int32 × (Nat → Int32) × (Nat → Int32) × (Nat → Int32)) (hf : fX2_init = some o) : Met l yX2_init wsX2_init rmX2_init (wIPc [.ref h] (dC, dI) (tysW cI cJ cZ cG) sz [(h, .inr (2, [.null, .null, .null, .int 0]))]) (va_Qv (fun _ : Unit => True) (fun _ t => ∃ (h_effects h_numbers h_bans : Nat) , va_P (dC, dI) vwCl (wcX2_full cI cJ cZ cG h h_effects h_numbers h_bans (o.1) (o.2.1) (o.2.2.1) (o.2.2.2)) t.heap ∧ va_D (va_A [(h, .inr (2, [.null, .null, .null, .int 0]))] sz) (wcX2_full cI cJ cZ cG h h_effects h_numbers h_bans (o.1) (o.2.1) (o.2.2.1) (o.2.2.2))) (va_A [(h, .inr (2, [.null, .null, .null, .int 0]))] sz)) 3 60 (va_A [(h, .inr (2, [.null, .null, .null, .int 0]))] sz) := by
  refine Met.ofW (cc := cX2_init) (maxL := 1) (ret := none) (by decide) rfl ?_
  intro p e s m args below meth c s₁ B hml hv
  obtain ⟨rfl, hsz, hP, hK, hD0, hI⟩ := hv
  have hx := B.exec
  have hb := B.bytes
  have hr := B.returns
  have hts := atoms_spec (ws := wsX2_init) B.pre
  have hown : s.vm.findClass RX2 = some m.cls := findClass_of_methodNamed B.named
  have hlocks := B.notSynchronized
  have hin : meth.name = "<init>" := (name_of_methodNamed B.named B.method).1
  subst hsz
  have hD := hD0.self (sz := s.heap.size)
  generalize hAe : va_A [(h, .inr (2, [.null, .null, .null, .int 0]))] s.heap.size = A at hD ⊢
  have hA : ∀ q : Nat, s.heap.size ≤ q → A q := fun q h => by rw [← hAe]; exact Or.inr h
  have hS : va_S A s.heap s.heap [] := va_S.rf
  have hP : va_P (dC, dI) vwCl [(h, .inr (2, [.null, .null, .null, .int 0]))] s.heap := hP
  have hl := lv_entry ([.ref h]) (n := 1) (Nat.le_of_ble_eq_true rfl)
  rw [lg_entry_eq]
  generalize (lg_sl ([.ref h]) ++ List.replicate (1 - (lg_sl ([.ref h])).length) Slot.unset).toArray = ls at hl ⊢
  have hl : lv_has ls 1 [(0, .ref h)] := hl
  generalize hH : s.heap = H at hP hS ⊢
  have hS : va_S A s.heap H [] := by rw [hH]; exact hS
  have C0 : wCX p s #[.ref h] m meth c cX2_init 1 none RX2 wsX2_init := ⟨hx, hb, hr, hml, hown, hts, hlocks⟩
  show W p l e rmX2_init s m #[.ref h] below meth c H [] 0 0 (MQ below (va_Qv (fun _ : Unit => True) (fun _ t => ∃ (h_effects h_numbers h_bans : Nat) , va_P (dC, dI) vwCl (wcX2_full cI cJ cZ cG h h_effects h_numbers h_bans (o.1) (o.2.1) (o.2.2.1) (o.2.2.2)) t.heap ∧ va_D A (wcX2_full cI cJ cZ cG h h_effects h_numbers h_bans (o.1) (o.2.1) (o.2.2.1) (o.2.2.2))) A) #[.ref h] s 3 60 A) (F0 m 0 ls [])
  unfold fX2_init at hf
  refine lv_aload_n hx hb dX2_init_0 rfl (lv_at hl 0 rfl) ?_
  refine W.objInit hx hb hown (hts _ mX2_init_0) (hts _ mX2_init_1) (hts _ mX2_init_2) rfl (by rw [hml]; exact hl.1) rfl dX2_init_1 (Nat.le_of_ble_eq_true rfl) (Nat.le_of_ble_eq_true rfl) ?_
  refine lv_aload_n hx hb dX2_init_4 rfl (lv_at hl 0 rfl) ?_
  refine lv_bipush (v := 20) hx hb dX2_init_5 (by decide) ?_
  refine w_newI hx hb (hts _ mX2_init_3) hK 0 rfl hP hD hS hA (N' := 20) (by decide) (by decide) (by decide) (by decide) (by decide) dX2_init_7 (fun q_1 H2 hP2 hD2 hS2 => ?_)
  clear hS hD hP
  replace hP2 : va_P (dC, dI) vwCl [(h, .inr (2, [.null, .null, .null, .int 0])), (q_1, .inl (cI, 20, .inl (fun _ => 0)))] H2 := hP2
  replace hD2 : va_D A [(h, .inr (2, [.null, .null, .null, .int 0])), (q_1, .inl (cI, 20, .inl (fun _ => 0)))] := hD2
  refine va_putF (D := (dC, dI)) (ci := 2) (v := .ref q_1) (ty := .array .int) (C := RX2) (T := TX2) (N := 4) hx hb hts iX2_init_X2 tyX2 tyX2_ok nmX2 hown hK hP2 hD2 hS2 0 rfl rfl 0 (by decide) (hts _ mX2_init_4) (fun _ h9 => h9) rfl hin rfl (by decide +kernel) rfl rfl (Nat.le_of_ble_eq_true rfl) dX2_init_9 (fun H locs2 hP hD hS => ?_)
  clear hS2 hD2 hP2
  replace hP : va_P (dC, dI) vwCl [(h, .inr (2, [.ref q_1, .null, .null, .int 0])), (q_1, .inl (cI, 20, .inl (fun _ => 0)))] H := hP
  replace hD : va_D A [(h, .inr (2, [.ref q_1, .null, .null, .int 0])), (q_1, .inl (cI, 20, .inl (fun _ => 0)))] := hD
  refine lv_aload_n hx hb dX2_init_12 rfl (lv_at hl 0 rfl) ?_
  refine lv_bipush (v := 20) hx hb dX2_init_13 (by decide) ?_
  refine w_newI hx hb (hts _ mX2_init_3) hK 0 rfl hP hD hS hA (N' := 20) (by decide) (by decide) (by decide) (by decide) (by decide) dX2_init_15 (fun q_2 H2 hP2 hD2 hS2 => ?_)
  clear hS hD hP
  replace hP2 : va_P (dC, dI) vwCl [(h, .inr (2, [.ref q_1, .null, .null, .int 0])), (q_1, .inl (cI, 20, .inl (fun _ => 0))), (q_2, .inl (cI, 20, .inl (fun _ => 0)))] H2 := hP2
  replace hD2 : va_D A [(h, .inr (2, [.ref q_1, .null, .null, .int 0])), (q_1, .inl (cI, 20, .inl (fun _ => 0))), (q_2, .inl (cI, 20, .inl (fun _ => 0)))] := hD2
  refine va_putF (D := (dC, dI)) (ci := 2) (v := .ref q_2) (ty := .array .int) (C := RX2) (T := TX2) (N := 4) hx hb hts iX2_init_X2 tyX2 tyX2_ok nmX2 hown hK hP2 hD2 hS2 0 rfl rfl 1 (by decide) (hts _ mX2_init_5) (fun _ h9 => h9) rfl hin rfl (by decide +kernel) rfl rfl (Nat.le_of_ble_eq_true rfl) dX2_init_17 (fun H locs hP hD hS => ?_)
  clear hS2 hD2 hP2
  replace hP : va_P (dC, dI) vwCl [(h, .inr (2, [.ref q_1, .ref q_2, .null, .int 0])), (q_1, .inl (cI, 20, .inl (fun _ => 0))), (q_2, .inl (cI, 20, .inl (fun _ => 0)))] H := hP
  replace hD : va_D A [(h, .inr (2, [.ref q_1, .ref q_2, .null, .int 0])), (q_1, .inl (cI, 20, .inl (fun _ => 0))), (q_2, .inl (cI, 20, .inl (fun _ => 0)))] := hD
  refine lv_aload_n hx hb dX2_init_20 rfl (lv_at hl 0 rfl) ?_
  refine lv_bipush (v := 20) hx hb dX2_init_21 (by decide) ?_
  refine w_newI hx hb (hts _ mX2_init_3) hK 0 rfl hP hD hS hA (N' := 20) (by decide) (by decide) (by decide) (by decide) (by decide) dX2_init_23 (fun q_3 H2 hP2 hD2 hS2 => ?_)
  clear hS hD hP
  replace hP2 : va_P (dC, dI) vwCl [(h, .inr (2, [.ref q_1, .ref q_2, .null, .int 0])), (q_1, .inl (cI, 20, .inl (fun _ => 0))), (q_2, .inl (cI, 20, .inl (fun _ => 0))), (q_3, .inl (cI, 20, .inl (fun _ => 0)))] H2 := hP2
  replace hD2 : va_D A [(h, .inr (2, [.ref q_1, .ref q_2, .null, .int 0])), (q_1, .inl (cI, 20, .inl (fun _ => 0))), (q_2, .inl (cI, 20, .inl (fun _ => 0))), (q_3, .inl (cI, 20, .inl (fun _ => 0)))] := hD2
  refine va_putF (D := (dC, dI)) (ci := 2) (v := .ref q_3) (ty := .array .int) (C := RX2) (T := TX2) (N := 4) hx hb hts iX2_init_X2 tyX2 tyX2_ok nmX2 hown hK hP2 hD2 hS2 0 rfl rfl 2 (by decide) (hts _ mX2_init_6) (fun _ h9 => h9) rfl hin rfl (by decide +kernel) rfl rfl (Nat.le_of_ble_eq_true rfl) dX2_init_25 (fun H locs2 hP hD hS => ?_)
  clear hS2 hD2 hP2
  replace hP : va_P (dC, dI) vwCl [(h, .inr (2, [.ref q_1, .ref q_2, .ref q_3, .int 0])), (q_1, .inl (cI, 20, .inl (fun _ => 0))), (q_2, .inl (cI, 20, .inl (fun _ => 0))), (q_3, .inl (cI, 20, .inl (fun _ => 0)))] H := hP
  replace hD : va_D A [(h, .inr (2, [.ref q_1, .ref q_2, .ref q_3, .int 0])), (q_1, .inl (cI, 20, .inl (fun _ => 0))), (q_2, .inl (cI, 20, .inl (fun _ => 0))), (q_3, .inl (cI, 20, .inl (fun _ => 0)))] := hD
  have hf : some (0, (fun _ => 0), (fun _ => 0), (fun _ => 0)) = some o := hf
  cases hf
  replace hP := hP.sub (ws' := (wcX2_full cI cJ cZ cG h q_1 q_2 q_3 0 (fun _ => 0) (fun _ => 0) (fun _ => 0))) [0, 1, 2, 3] rfl
  replace hD := hD.sub (ws' := (wcX2_full cI cJ cZ cG h q_1 q_2 q_3 0 (fun _ => 0) (fun _ => 0) (fun _ => 0))) [0, 1, 2, 3] (by decide) rfl
  exact W.vret hx hb hr (fun t ht hW => ⟨⟨(), rfl, trivial, q_1, q_2, q_3, by rw [ht]; exact hP, hD⟩, hS.F ht⟩) hS.2.2 dX2_init_28
abbrev wcX3_full (cI cJ cZ cG : ClassId) (h h_strengths h_met h_row h_others : Nat) (v_length : Int32) (v_strengths : Nat → Int32) (v_met : Nat → Int32) (v_row : Nat → Int32) (v_others : Nat → Int32) : va_W := [(h, .inr (3, [.ref h_strengths, .ref h_met, .ref h_row, .ref h_others, .int v_length])), (h_strengths, .inl (cI, 6, .inl v_strengths)), (h_met, .inl (cI, 6, .inl v_met)), (h_row, .inl (cI, 6, .inl v_row)), (h_others, .inl (cI, 6, .inl v_others))]
theorem iX3_init_X3 : ∀ w ∈ wsX30, w ∈ wsX3_init := by decide +kernel
theorem mX3_init_0 : (Cond.methodLink RX3 3 objectInit) ∈ wsX3_init := by decide +kernel
theorem mX3_init_1 : (Cond.instanceMethod objectInit) ∈ wsX3_init := by decide +kernel
theorem mX3_init_2 : (Cond.code objectInit ⟨#[0xb1]⟩ 1 none) ∈ wsX3_init := by decide +kernel
theorem mX3_init_3 : (Cond.arrayClass .int) ∈ wsX3_init := by decide +kernel
theorem mX3_init_4 : (Cond.fieldLink RX3 9 "Sleevehall$Matches" "strengths" "[I") ∈ wsX3_init := by decide +kernel
theorem mX3_init_5 : (Cond.fieldLink RX3 15 "Sleevehall$Matches" "met" "[I") ∈ wsX3_init := by decide +kernel
theorem mX3_init_6 : (Cond.fieldLink RX3 18 "Sleevehall$Matches" "row" "[I") ∈ wsX3_init := by decide +kernel
theorem mX3_init_7 : (Cond.fieldLink RX3 21 "Sleevehall$Matches" "others" "[I") ∈ wsX3_init := by decide +kernel
abbrev rmX3_init : Room := { frames := 1, cells := 4, slots := 24, locals := 24 }
set_option maxHeartbeats 4000000 in
set_option maxRecDepth 100000 in
theorem kX3_init_38 {p : Program} {l : Launch} {e : Env} {s : State} {m : MethodId} {args : Array Value} {below : List Frame} {meth : Method} {c : Code} {dC : Nat → ClassId} {dI : Nat → Nat → Nat} {A : Nat → Prop} {cI cJ cZ cG : ClassId} {h h_strengths h_met h_row h_others : Nat} {o : Int32 × (Nat → Int32) × (Nat → Int32) × (Nat → Int32) × (Nat → Int32)} (C0 : wCX p s args m meth c cX3_init 2 none RX3 wsX3_init) (hA : ∀ q, s.heap.size ≤ q → A q) (hK : va_K (dC, dI) vwCl (tysW cI cJ cZ cG) s) : ∀ (n : Nat) (v_length : Int32) (v_strengths : Nat → Int32) (v_met : Nat → Int32) (v_row : Nat → Int32) (v_others : Nat → Int32) (l1 : Int32) (H : Heap) (locs : List Loc) (ls : Array Slot), fX3_init_b38 n v_length v_strengths v_met v_row v_others l1 = some o → va_P (dC, dI) vwCl (wcX3_full cI cJ cZ cG h h_strengths h_met h_row h_others v_length v_strengths v_met v_row v_others) H → va_D A (wcX3_full cI cJ cZ cG h h_strengths h_met h_row h_others v_length v_strengths v_met v_row v_others) → va_S A s.heap H locs → lv_has ls 2 [(0, .ref h), (1, .int l1)] → W p l e rmX3_init s m args below meth c H locs 4 24 (MQ below (va_Qv (fun _ : Unit => True) (fun _ t => ∃ (h_strengths h_met h_row h_others : Nat) , va_P (dC, dI) vwCl (wcX3_full cI cJ cZ cG h h_strengths h_met h_row h_others (o.1) (o.2.1) (o.2.2.1) (o.2.2.2.1) (o.2.2.2.2)) t.heap ∧ va_D A (wcX3_full cI cJ cZ cG h h_strengths h_met h_row h_others (o.1) (o.2.1) (o.2.2.1) (o.2.2.2.1) (o.2.2.2.2))) A) args s 4 24 A) (F0 m 38 ls []) := by
  obtain ⟨hx, hb, hr, hml, hown, hts, hlocks⟩ := id C0
  intro n
  induction n with
  | zero =>
    intro v_length v_strengths v_met v_row v_others l1 H locs ls hf hP hD hS hl
    rw [fX3_init_b38] at hf
    cases hf
  | succ n ih =>
    intro v_length v_strengths v_met v_row v_others l1 H locs ls hf hP hD hS hl
    rw [fX3_init_b38] at hf
    refine lv_iload_n hx hb dX3_init_38 rfl (lv_at hl 1 rfl) ?_
    refine lv_bipush (v := 6) hx hb dX3_init_39 (by decide) ?_
    refine lv_icmp_ge (tgt := 59) hx hb dX3_init_41 (by decide) (fun c_1 => ?_) (fun c_1 => ?_)
    · have hf := it_t hf c_1
      have hf : some (v_length, v_strengths, v_met, v_row, v_others) = some o := hf
      cases hf
      exact W.vret hx hb hr (fun t ht hW => ⟨⟨(), rfl, trivial, h_strengths, h_met, h_row, h_others, by rw [ht]; exact hP, hD⟩, hS.F ht⟩) hS.2.2 dX3_init_59
    · have hf := it_f hf c_1
      refine lv_aload_n hx hb dX3_init_44 rfl (lv_at hl 0 rfl) ?_
      refine va_get (D := (dC, dI)) (ci := 3) (v := .ref h_strengths) (C := RX3) (T := TX3) (N := 5) hx hb hts iX3_init_X3 hown hK hP 0 rfl rfl 0 (by decide) (hts _ mX3_init_4) (fun _ h9 => h9) rfl dX3_init_45 ?_
      refine lv_iload_n hx hb dX3_init_48 rfl (lv_at hl 1 rfl) ?_
      refine lv_sipush (v := 1000) hx hb dX3_init_49 (by decide) ?_
      obtain ⟨hg_2, hf⟩ := ck_s hf
      refine va_iast (D := (dC, dI)) hx hb hK hP hD hS 1 0 rfl rfl (g_vp hg_2) dX3_init_52 (fun H locs hP hD hS => ?_)
      have hP : va_P (dC, dI) vwCl (wcX3_full cI cJ cZ cG h h_strengths h_met h_row h_others v_length (upd v_strengths l1.toNatClampNeg 1000) v_met v_row v_others) H := hP
      have hD : va_D A (wcX3_full cI cJ cZ cG h h_strengths h_met h_row h_others v_length (upd v_strengths l1.toNatClampNeg 1000) v_met v_row v_others) := hD
      obtain ⟨x_3, ex_3, hf⟩ := nm_s hf
      refine lv_iinc (v := x_3) (lv' := [(1, .int x_3), (0, .ref h)]) hx hb dX3_init_53 hl (k := 1) rfl (by rw [ex_3]; rfl) (by decide) rfl (fun ls hl => ?_)
      refine lv_goto (tgt := 38) hx hb dX3_init_56 (by decide) ?_
      have hf : (fX3_init_b38 n) v_length (upd v_strengths l1.toNatClampNeg 1000) v_met v_row v_others x_3 = some o := hf
      exact ih v_length (upd v_strengths l1.toNatClampNeg 1000) v_met v_row v_others x_3 _ _ _ hf hP hD hS (lv_sub hl [1, 0] rfl)
set_option maxHeartbeats 4000000 in
set_option maxRecDepth 100000 in
theorem oX3_init (l : Launch) (dC : Nat → ClassId) (dI : Nat → Nat → Nat) (cI cJ cZ cG : ClassId) (h sz : Nat) (o : Int32 × (Nat → Int32) × (Nat → Int32) × (Nat → Int32) × (Nat → Int32)) (hf : fX3_init = some o) : Met l yX3_init wsX3_init rmX3_init (wIPc [.ref h] (dC, dI) (tysW cI cJ cZ cG) sz [(h, .inr (3, [.null, .null, .null, .null, .int 0]))]) (va_Qv (fun _ : Unit => True) (fun _ t => ∃ (h_strengths h_met h_row h_others : Nat) , va_P (dC, dI) vwCl (wcX3_full cI cJ cZ cG h h_strengths h_met h_row h_others (o.1) (o.2.1) (o.2.2.1) (o.2.2.2.1) (o.2.2.2.2)) t.heap ∧ va_D (va_A [(h, .inr (3, [.null, .null, .null, .null, .int 0]))] sz) (wcX3_full cI cJ cZ cG h h_strengths h_met h_row h_others (o.1) (o.2.1) (o.2.2.1) (o.2.2.2.1) (o.2.2.2.2))) (va_A [(h, .inr (3, [.null, .null, .null, .null, .int 0]))] sz)) 4 24 (va_A [(h, .inr (3, [.null, .null, .null, .null, .int 0]))] sz) := by
  refine Met.ofW (cc := cX3_init) (maxL := 2) (ret := none) (by decide) rfl ?_
  intro p e s m args below meth c s₁ B hml hv
  obtain ⟨rfl, hsz, hP, hK, hD0, hI⟩ := hv
  have hx := B.exec
  have hb := B.bytes
  have hr := B.returns
  have hts := atoms_spec (ws := wsX3_init) B.pre
  have hown : s.vm.findClass RX3 = some m.cls := findClass_of_methodNamed B.named
  have hlocks := B.notSynchronized
  have hin : meth.name = "<init>" := (name_of_methodNamed B.named B.method).1
  subst hsz
  have hD := hD0.self (sz := s.heap.size)
  generalize hAe : va_A [(h, .inr (3, [.null, .null, .null, .null, .int 0]))] s.heap.size = A at hD ⊢
  have hA : ∀ q : Nat, s.heap.size ≤ q → A q := fun q h => by rw [← hAe]; exact Or.inr h
  have hS : va_S A s.heap s.heap [] := va_S.rf
  have hP : va_P (dC, dI) vwCl [(h, .inr (3, [.null, .null, .null, .null, .int 0]))] s.heap := hP
  have hl := lv_entry ([.ref h]) (n := 2) (Nat.le_of_ble_eq_true rfl)
  rw [lg_entry_eq]
  generalize (lg_sl ([.ref h]) ++ List.replicate (2 - (lg_sl ([.ref h])).length) Slot.unset).toArray = ls at hl ⊢
  have hl : lv_has ls 2 [(0, .ref h)] := hl
  generalize hH : s.heap = H at hP hS ⊢
  have hS : va_S A s.heap H [] := by rw [hH]; exact hS
  have C0 : wCX p s #[.ref h] m meth c cX3_init 2 none RX3 wsX3_init := ⟨hx, hb, hr, hml, hown, hts, hlocks⟩
  show W p l e rmX3_init s m #[.ref h] below meth c H [] 0 0 (MQ below (va_Qv (fun _ : Unit => True) (fun _ t => ∃ (h_strengths h_met h_row h_others : Nat) , va_P (dC, dI) vwCl (wcX3_full cI cJ cZ cG h h_strengths h_met h_row h_others (o.1) (o.2.1) (o.2.2.1) (o.2.2.2.1) (o.2.2.2.2)) t.heap ∧ va_D A (wcX3_full cI cJ cZ cG h h_strengths h_met h_row h_others (o.1) (o.2.1) (o.2.2.1) (o.2.2.2.1) (o.2.2.2.2))) A) #[.ref h] s 4 24 A) (F0 m 0 ls [])
  unfold fX3_init at hf
  refine lv_aload_n hx hb dX3_init_0 rfl (lv_at hl 0 rfl) ?_
  refine W.objInit hx hb hown (hts _ mX3_init_0) (hts _ mX3_init_1) (hts _ mX3_init_2) rfl (by rw [hml]; exact hl.1) rfl dX3_init_1 (Nat.le_of_ble_eq_true rfl) (Nat.le_of_ble_eq_true rfl) ?_
  refine lv_aload_n hx hb dX3_init_4 rfl (lv_at hl 0 rfl) ?_
  refine lv_bipush (v := 6) hx hb dX3_init_5 (by decide) ?_
  refine w_newI hx hb (hts _ mX3_init_3) hK 0 rfl hP hD hS hA (N' := 6) (by decide) (by decide) (by decide) (by decide) (by decide) dX3_init_7 (fun q_1 H2 hP2 hD2 hS2 => ?_)
  clear hS hD hP
  replace hP2 : va_P (dC, dI) vwCl [(h, .inr (3, [.null, .null, .null, .null, .int 0])), (q_1, .inl (cI, 6, .inl (fun _ => 0)))] H2 := hP2
  replace hD2 : va_D A [(h, .inr (3, [.null, .null, .null, .null, .int 0])), (q_1, .inl (cI, 6, .inl (fun _ => 0)))] := hD2
  refine va_putF (D := (dC, dI)) (ci := 3) (v := .ref q_1) (ty := .array .int) (C := RX3) (T := TX3) (N := 5) hx hb hts iX3_init_X3 tyX3 tyX3_ok nmX3 hown hK hP2 hD2 hS2 0 rfl rfl 0 (by decide) (hts _ mX3_init_4) (fun _ h9 => h9) rfl hin rfl (by decide +kernel) rfl rfl (Nat.le_of_ble_eq_true rfl) dX3_init_9 (fun H locs2 hP hD hS => ?_)
  clear hS2 hD2 hP2
  replace hP : va_P (dC, dI) vwCl [(h, .inr (3, [.ref q_1, .null, .null, .null, .int 0])), (q_1, .inl (cI, 6, .inl (fun _ => 0)))] H := hP
  replace hD : va_D A [(h, .inr (3, [.ref q_1, .null, .null, .null, .int 0])), (q_1, .inl (cI, 6, .inl (fun _ => 0)))] := hD
  refine lv_aload_n hx hb dX3_init_12 rfl (lv_at hl 0 rfl) ?_
  refine lv_bipush (v := 6) hx hb dX3_init_13 (by decide) ?_
  refine w_newI hx hb (hts _ mX3_init_3) hK 0 rfl hP hD hS hA (N' := 6) (by decide) (by decide) (by decide) (by decide) (by decide) dX3_init_15 (fun q_2 H2 hP2 hD2 hS2 => ?_)
  clear hS hD hP
  replace hP2 : va_P (dC, dI) vwCl [(h, .inr (3, [.ref q_1, .null, .null, .null, .int 0])), (q_1, .inl (cI, 6, .inl (fun _ => 0))), (q_2, .inl (cI, 6, .inl (fun _ => 0)))] H2 := hP2
  replace hD2 : va_D A [(h, .inr (3, [.ref q_1, .null, .null, .null, .int 0])), (q_1, .inl (cI, 6, .inl (fun _ => 0))), (q_2, .inl (cI, 6, .inl (fun _ => 0)))] := hD2
  refine va_putF (D := (dC, dI)) (ci := 3) (v := .ref q_2) (ty := .array .int) (C := RX3) (T := TX3) (N := 5) hx hb hts iX3_init_X3 tyX3 tyX3_ok nmX3 hown hK hP2 hD2 hS2 0 rfl rfl 1 (by decide) (hts _ mX3_init_5) (fun _ h9 => h9) rfl hin rfl (by decide +kernel) rfl rfl (Nat.le_of_ble_eq_true rfl) dX3_init_17 (fun H locs hP hD hS => ?_)
  clear hS2 hD2 hP2
  replace hP : va_P (dC, dI) vwCl [(h, .inr (3, [.ref q_1, .ref q_2, .null, .null, .int 0])), (q_1, .inl (cI, 6, .inl (fun _ => 0))), (q_2, .inl (cI, 6, .inl (fun _ => 0)))] H := hP
  replace hD : va_D A [(h, .inr (3, [.ref q_1, .ref q_2, .null, .null, .int 0])), (q_1, .inl (cI, 6, .inl (fun _ => 0))), (q_2, .inl (cI, 6, .inl (fun _ => 0)))] := hD
  refine lv_aload_n hx hb dX3_init_20 rfl (lv_at hl 0 rfl) ?_
  refine lv_bipush (v := 6) hx hb dX3_init_21 (by decide) ?_
  refine w_newI hx hb (hts _ mX3_init_3) hK 0 rfl hP hD hS hA (N' := 6) (by decide) (by decide) (by decide) (by decide) (by decide) dX3_init_23 (fun q_3 H2 hP2 hD2 hS2 => ?_)
  clear hS hD hP
  replace hP2 : va_P (dC, dI) vwCl [(h, .inr (3, [.ref q_1, .ref q_2, .null, .null, .int 0])), (q_1, .inl (cI, 6, .inl (fun _ => 0))), (q_2, .inl (cI, 6, .inl (fun _ => 0))), (q_3, .inl (cI, 6, .inl (fun _ => 0)))] H2 := hP2
  replace hD2 : va_D A [(h, .inr (3, [.ref q_1, .ref q_2, .null, .null, .int 0])), (q_1, .inl (cI, 6, .inl (fun _ => 0))), (q_2, .inl (cI, 6, .inl (fun _ => 0))), (q_3, .inl (cI, 6, .inl (fun _ => 0)))] := hD2
  refine va_putF (D := (dC, dI)) (ci := 3) (v := .ref q_3) (ty := .array .int) (C := RX3) (T := TX3) (N := 5) hx hb hts iX3_init_X3 tyX3 tyX3_ok nmX3 hown hK hP2 hD2 hS2 0 rfl rfl 2 (by decide) (hts _ mX3_init_6) (fun _ h9 => h9) rfl hin rfl (by decide +kernel) rfl rfl (Nat.le_of_ble_eq_true rfl) dX3_init_25 (fun H locs2 hP hD hS => ?_)
  clear hS2 hD2 hP2
  replace hP : va_P (dC, dI) vwCl [(h, .inr (3, [.ref q_1, .ref q_2, .ref q_3, .null, .int 0])), (q_1, .inl (cI, 6, .inl (fun _ => 0))), (q_2, .inl (cI, 6, .inl (fun _ => 0))), (q_3, .inl (cI, 6, .inl (fun _ => 0)))] H := hP
  replace hD : va_D A [(h, .inr (3, [.ref q_1, .ref q_2, .ref q_3, .null, .int 0])), (q_1, .inl (cI, 6, .inl (fun _ => 0))), (q_2, .inl (cI, 6, .inl (fun _ => 0))), (q_3, .inl (cI, 6, .inl (fun _ => 0)))] := hD
  refine lv_aload_n hx hb dX3_init_28 rfl (lv_at hl 0 rfl) ?_
  refine lv_bipush (v := 6) hx hb dX3_init_29 (by decide) ?_
  refine w_newI hx hb (hts _ mX3_init_3) hK 0 rfl hP hD hS hA (N' := 6) (by decide) (by decide) (by decide) (by decide) (by decide) dX3_init_31 (fun q_4 H2 hP2 hD2 hS2 => ?_)
  clear hS hD hP
  replace hP2 : va_P (dC, dI) vwCl [(h, .inr (3, [.ref q_1, .ref q_2, .ref q_3, .null, .int 0])), (q_1, .inl (cI, 6, .inl (fun _ => 0))), (q_2, .inl (cI, 6, .inl (fun _ => 0))), (q_3, .inl (cI, 6, .inl (fun _ => 0))), (q_4, .inl (cI, 6, .inl (fun _ => 0)))] H2 := hP2
  replace hD2 : va_D A [(h, .inr (3, [.ref q_1, .ref q_2, .ref q_3, .null, .int 0])), (q_1, .inl (cI, 6, .inl (fun _ => 0))), (q_2, .inl (cI, 6, .inl (fun _ => 0))), (q_3, .inl (cI, 6, .inl (fun _ => 0))), (q_4, .inl (cI, 6, .inl (fun _ => 0)))] := hD2
  refine va_putF (D := (dC, dI)) (ci := 3) (v := .ref q_4) (ty := .array .int) (C := RX3) (T := TX3) (N := 5) hx hb hts iX3_init_X3 tyX3 tyX3_ok nmX3 hown hK hP2 hD2 hS2 0 rfl rfl 3 (by decide) (hts _ mX3_init_7) (fun _ h9 => h9) rfl hin rfl (by decide +kernel) rfl rfl (Nat.le_of_ble_eq_true rfl) dX3_init_33 (fun H locs hP hD hS => ?_)
  clear hS2 hD2 hP2
  replace hP : va_P (dC, dI) vwCl [(h, .inr (3, [.ref q_1, .ref q_2, .ref q_3, .ref q_4, .int 0])), (q_1, .inl (cI, 6, .inl (fun _ => 0))), (q_2, .inl (cI, 6, .inl (fun _ => 0))), (q_3, .inl (cI, 6, .inl (fun _ => 0))), (q_4, .inl (cI, 6, .inl (fun _ => 0)))] H := hP
  replace hD : va_D A [(h, .inr (3, [.ref q_1, .ref q_2, .ref q_3, .ref q_4, .int 0])), (q_1, .inl (cI, 6, .inl (fun _ => 0))), (q_2, .inl (cI, 6, .inl (fun _ => 0))), (q_3, .inl (cI, 6, .inl (fun _ => 0))), (q_4, .inl (cI, 6, .inl (fun _ => 0)))] := hD
  refine lv_iconst (v := 0) hx hb dX3_init_36 (by decide) ?_
  refine lv_istore_n (lv' := [(1, .int 0), (0, .ref h)]) hx hb dX3_init_37 rfl hl (by decide) rfl (fun ls hl => ?_)
  have hf : fX3_init_b38 70 0 (fun _ => 0) (fun _ => 0) (fun _ => 0) (fun _ => 0) 0 = some o := hf
  exact kX3_init_38 C0 hA hK 70 0 (fun _ => 0) (fun _ => 0) (fun _ => 0) (fun _ => 0) 0 _ _ _ hf hP hD hS (lv_sub hl [1, 0] rfl)
abbrev wcX4_full (cI cJ cZ cG : ClassId) (h h_work h_work_lives h_work_shields h_work_effects h_work_numbers h_work_players h_work_against : Nat) (v_player : Int32) (v_isGreatest : Int32) (v_isFound : Int32) (v_best : Int32) (v_work_size : Int32) (v_work_lives : Nat → Int32) (v_work_shields : Nat → Int32) (v_work_effects : Nat → Int32) (v_work_numbers : Nat → Int32) (v_work_players : Nat → Int32) (v_work_against : Nat → Int32) : va_W := [(h, .inr (4, [.ref h_work, .int v_player, .int v_isGreatest, .int v_isFound, .int v_best])), (h_work, .inr (6, [.ref h_work_lives, .ref h_work_shields, .ref h_work_effects, .ref h_work_numbers, .ref h_work_players, .ref h_work_against, .int v_work_size])), (h_work_lives, .inl (cI, 6, .inl v_work_lives)), (h_work_shields, .inl (cI, 6, .inl v_work_shields)), (h_work_effects, .inl (cI, 6, .inl v_work_effects)), (h_work_numbers, .inl (cI, 6, .inl v_work_numbers)), (h_work_players, .inl (cI, 6, .inl v_work_players)), (h_work_against, .inl (cI, 6, .inl v_work_against))]
theorem iX4_init_X6 : ∀ w ∈ wsX60, w ∈ wsX4_init := by decide +kernel
theorem iX4_init_X4 : ∀ w ∈ wsX40, w ∈ wsX4_init := by decide +kernel
theorem mX4_init_0 : (Cond.methodLink RX4 3 objectInit) ∈ wsX4_init := by decide +kernel
theorem mX4_init_1 : (Cond.instanceMethod objectInit) ∈ wsX4_init := by decide +kernel
theorem mX4_init_2 : (Cond.code objectInit ⟨#[0xb1]⟩ 1 none) ∈ wsX4_init := by decide +kernel
theorem mX4_init_3 : (Cond.classLink RX4 9 RX6) ∈ wsX4_init := by decide +kernel
theorem mX4_init_4 : (Cond.instantiable RX6 7) ∈ wsX4_init := by decide +kernel
theorem mX4_init_5 : (Cond.initialized RX6) ∈ wsX4_init := by decide +kernel
theorem mX4_init_6 : (Cond.instanceMethod yX6_init) ∈ wsX4_init := by decide +kernel
theorem mX4_init_7 : (Cond.methodLink RX4 11 yX6_init) ∈ wsX4_init := by decide +kernel
theorem mX4_init_8 : (Cond.fieldLink RX4 12 "Sleevehall$Orders" "work" "LSleevehall$Table;") ∈ wsX4_init := by decide +kernel
abbrev rmX4_init : Room := { frames := 2, cells := 7, slots := 43, locals := 44 }
set_option maxHeartbeats 4000000 in
set_option maxRecDepth 100000 in
theorem oX4_init (l : Launch) (dC : Nat → ClassId) (dI : Nat → Nat → Nat) (cI cJ cZ cG : ClassId) (h sz : Nat) (o : Int32 × Int32 × Int32 × Int32 × Int32 × (Nat → Int32) × (Nat → Int32) × (Nat → Int32) × (Nat → Int32) × (Nat → Int32) × (Nat → Int32)) (hf : fX4_init = some o) : Met l yX4_init wsX4_init rmX4_init (wIPc [.ref h] (dC, dI) (tysW cI cJ cZ cG) sz [(h, .inr (4, [.null, .int 0, .int 0, .int 0, .int 0]))]) (va_Qv (fun _ : Unit => True) (fun _ t => ∃ (h_work h_work_lives h_work_shields h_work_effects h_work_numbers h_work_players h_work_against : Nat) , va_P (dC, dI) vwCl (wcX4_full cI cJ cZ cG h h_work h_work_lives h_work_shields h_work_effects h_work_numbers h_work_players h_work_against (o.1) (o.2.1) (o.2.2.1) (o.2.2.2.1) (o.2.2.2.2.1) (o.2.2.2.2.2.1) (o.2.2.2.2.2.2.1) (o.2.2.2.2.2.2.2.1) (o.2.2.2.2.2.2.2.2.1) (o.2.2.2.2.2.2.2.2.2.1) (o.2.2.2.2.2.2.2.2.2.2)) t.heap ∧ va_D (va_A [(h, .inr (4, [.null, .int 0, .int 0, .int 0, .int 0]))] sz) (wcX4_full cI cJ cZ cG h h_work h_work_lives h_work_shields h_work_effects h_work_numbers h_work_players h_work_against (o.1) (o.2.1) (o.2.2.1) (o.2.2.2.1) (o.2.2.2.2.1) (o.2.2.2.2.2.1) (o.2.2.2.2.2.2.1) (o.2.2.2.2.2.2.2.1) (o.2.2.2.2.2.2.2.2.1) (o.2.2.2.2.2.2.2.2.2.1) (o.2.2.2.2.2.2.2.2.2.2))) (va_A [(h, .inr (4, [.null, .int 0, .int 0, .int 0, .int 0]))] sz)) 7 43 (va_A [(h, .inr (4, [.null, .int 0, .int 0, .int 0, .int 0]))] sz) := by
  refine Met.ofW (cc := cX4_init) (maxL := 1) (ret := none) (by decide) rfl ?_
  intro p e s m args below meth c s₁ B hml hv
  obtain ⟨rfl, hsz, hP, hK, hD0, hI⟩ := hv
  have hx := B.exec
  have hb := B.bytes
  have hr := B.returns
  have hts := atoms_spec (ws := wsX4_init) B.pre
  have hown : s.vm.findClass RX4 = some m.cls := findClass_of_methodNamed B.named
  have hlocks := B.notSynchronized
  have hin : meth.name = "<init>" := (name_of_methodNamed B.named B.method).1
  subst hsz
  have hD := hD0.self (sz := s.heap.size)
  generalize hAe : va_A [(h, .inr (4, [.null, .int 0, .int 0, .int 0, .int 0]))] s.heap.size = A at hD ⊢
  have hA : ∀ q : Nat, s.heap.size ≤ q → A q := fun q h => by rw [← hAe]; exact Or.inr h
  have hS : va_S A s.heap s.heap [] := va_S.rf
  have hP : va_P (dC, dI) vwCl [(h, .inr (4, [.null, .int 0, .int 0, .int 0, .int 0]))] s.heap := hP
  have hl := lv_entry ([.ref h]) (n := 1) (Nat.le_of_ble_eq_true rfl)
  rw [lg_entry_eq]
  generalize (lg_sl ([.ref h]) ++ List.replicate (1 - (lg_sl ([.ref h])).length) Slot.unset).toArray = ls at hl ⊢
  have hl : lv_has ls 1 [(0, .ref h)] := hl
  generalize hH : s.heap = H at hP hS ⊢
  have hS : va_S A s.heap H [] := by rw [hH]; exact hS
  have C0 : wCX p s #[.ref h] m meth c cX4_init 1 none RX4 wsX4_init := ⟨hx, hb, hr, hml, hown, hts, hlocks⟩
  show W p l e rmX4_init s m #[.ref h] below meth c H [] 0 0 (MQ below (va_Qv (fun _ : Unit => True) (fun _ t => ∃ (h_work h_work_lives h_work_shields h_work_effects h_work_numbers h_work_players h_work_against : Nat) , va_P (dC, dI) vwCl (wcX4_full cI cJ cZ cG h h_work h_work_lives h_work_shields h_work_effects h_work_numbers h_work_players h_work_against (o.1) (o.2.1) (o.2.2.1) (o.2.2.2.1) (o.2.2.2.2.1) (o.2.2.2.2.2.1) (o.2.2.2.2.2.2.1) (o.2.2.2.2.2.2.2.1) (o.2.2.2.2.2.2.2.2.1) (o.2.2.2.2.2.2.2.2.2.1) (o.2.2.2.2.2.2.2.2.2.2)) t.heap ∧ va_D A (wcX4_full cI cJ cZ cG h h_work h_work_lives h_work_shields h_work_effects h_work_numbers h_work_players h_work_against (o.1) (o.2.1) (o.2.2.1) (o.2.2.2.1) (o.2.2.2.2.1) (o.2.2.2.2.2.1) (o.2.2.2.2.2.2.1) (o.2.2.2.2.2.2.2.1) (o.2.2.2.2.2.2.2.2.1) (o.2.2.2.2.2.2.2.2.2.1) (o.2.2.2.2.2.2.2.2.2.2))) A) #[.ref h] s 7 43 A) (F0 m 0 ls [])
  unfold fX4_init at hf
  refine lv_aload_n hx hb dX4_init_0 rfl (lv_at hl 0 rfl) ?_
  refine W.objInit hx hb hown (hts _ mX4_init_0) (hts _ mX4_init_1) (hts _ mX4_init_2) rfl (by rw [hml]; exact hl.1) rfl dX4_init_1 (Nat.le_of_ble_eq_true rfl) (Nat.le_of_ble_eq_true rfl) ?_
  refine lv_aload_n hx hb dX4_init_4 rfl (lv_at hl 0 rfl) ?_
  refine va_new (D := (dC, dI)) (ci := 6) (C := RX6) (T := TX6) (N := 7) (fs := [.null, .null, .null, .null, .null, .null, .int 0]) hx hb hts iX4_init_X6 tyX6 tyX6_ok hown (hts _ mX4_init_3) (hts _ mX4_init_4) (hts _ mX4_init_5) hK hP hD hS hA rfl (fun j hj => by rcases j with _ | _ | _ | _ | _ | _ | _ | j <;> first | rfl | omega) (by decide) (by decide) dX4_init_5 (fun q_1 H2 hP2 hD2 hS2 => ?_)
  clear hS hD hP
  replace hP2 : va_P (dC, dI) vwCl [(h, .inr (4, [.null, .int 0, .int 0, .int 0, .int 0])), (q_1, .inr (6, [.null, .null, .null, .null, .null, .null, .int 0]))] H2 := hP2
  replace hD2 : va_D A [(h, .inr (4, [.null, .int 0, .int 0, .int 0, .int 0])), (q_1, .inr (6, [.null, .null, .null, .null, .null, .null, .int 0]))] := hD2
  refine lv_dup hx hb dX4_init_8 rfl ?_
  obtain ⟨⟨w_2, w_3, w_4, w_5, w_6, w_7, w_8⟩, hc_9, hf2⟩ := ob_s hf
  clear hf
  have hPc := hP2.sub (ws' := [(q_1, .inr (6, [.null, .null, .null, .null, .null, .null, .int 0]))]) [1] rfl
  have hDc := hD2.sub (ws' := [(q_1, .inr (6, [.null, .null, .null, .null, .null, .null, .int 0]))]) [1] (by decide) rfl
  have hFc := va_free (wc := [(q_1, .inr (6, [.null, .null, .null, .null, .null, .null, .int 0]))]) hD2 hS2 hA [1] rfl
  refine va_callv (va_runI (As := []) (rest := [.ref q_1, .ref h]) ⟨hx, hb, hml, hown, hts⟩ (oX6_init l dC dI cI cJ cZ cG q_1 H2.size (w_2, w_3, w_4, w_5, w_6, w_7, w_8) hc_9) (cwI 0 hts gX4_init_X6_init rfl rfl rfl (hts _ mX4_init_5) (hts _ mX4_init_7) (hts _ mX4_init_6) rfl (by decide +kernel) ⟨Nat.le_of_ble_eq_true rfl, Nat.le_of_ble_eq_true rfl⟩) (w_preI hK hPc hDc hI) rfl rfl hl.1 rfl (lv_room (Nat.le_of_ble_eq_true rfl)) dX4_init_9 ⟨Nat.le_of_ble_eq_true rfl, Nat.le_of_ble_eq_true rfl⟩) hS2 (fun q _ h => hFc q h) hFc (fun u t H1 locs1 ht hvm hw hB hz1 hk1 hS1 => ?_)
  obtain ⟨a_10, a_11, a_12, a_13, a_14, a_15, hP1, hD1⟩ := hB
  obtain ⟨hP2, hD2⟩ := w_back (wr := List.filterMap (fun i : Nat => ([(h, .inr (4, [.null, .int 0, .int 0, .int 0, .int 0])), (q_1, .inr (6, [.null, .null, .null, .null, .null, .null, .int 0]))] : va_W)[i]?) [0]) (ws1 := List.filterMap (fun i : Nat => ([(h, .inr (4, [.null, .int 0, .int 0, .int 0, .int 0])), (q_1, .inr (6, [.null, .null, .null, .null, .null, .null, .int 0]))] : va_W)[i]?) [0] ++ (wcX6_full cI cJ cZ cG q_1 a_10 a_11 a_12 a_13 a_14 a_15 w_2 w_3 w_4 w_5 w_6 w_7 w_8)) hP2 hD2 hS2 hA [1] [0] (List.range (1 + 7)) rfl rfl rfl (by decide) rfl rfl ht ⟨hP1, hD1⟩ hk1
  clear hS2
  have hS2 := hS1
  clear hS1
  generalize H1 = H at *
  generalize locs1 = locs2 at *
  replace hP2 : va_P (dC, dI) vwCl [(h, .inr (4, [.null, .int 0, .int 0, .int 0, .int 0])), (q_1, .inr (6, [.ref a_10, .ref a_11, .ref a_12, .ref a_13, .ref a_14, .ref a_15, .int w_2])), (a_10, .inl (cI, 6, .inl w_3)), (a_11, .inl (cI, 6, .inl w_4)), (a_12, .inl (cI, 6, .inl w_5)), (a_13, .inl (cI, 6, .inl w_6)), (a_14, .inl (cI, 6, .inl w_7)), (a_15, .inl (cI, 6, .inl w_8))] H := hP2
  replace hD2 : va_D A [(h, .inr (4, [.null, .int 0, .int 0, .int 0, .int 0])), (q_1, .inr (6, [.ref a_10, .ref a_11, .ref a_12, .ref a_13, .ref a_14, .ref a_15, .int w_2])), (a_10, .inl (cI, 6, .inl w_3)), (a_11, .inl (cI, 6, .inl w_4)), (a_12, .inl (cI, 6, .inl w_5)), (a_13, .inl (cI, 6, .inl w_6)), (a_14, .inl (cI, 6, .inl w_7)), (a_15, .inl (cI, 6, .inl w_8))] := hD2
  refine va_putF (D := (dC, dI)) (ci := 4) (v := .ref q_1) (ty := .object "Sleevehall$Table") (C := RX4) (T := TX4) (N := 5) hx hb hts iX4_init_X4 tyX4 tyX4_ok nmX4 hown hK hP2 hD2 hS2 0 rfl rfl 0 (by decide) (hts _ mX4_init_8) (fun _ h9 => h9) rfl hin rfl (by decide +kernel) rfl rfl (Nat.le_of_ble_eq_true rfl) dX4_init_12 (fun H2 locs hP hD hS => ?_)
  clear hS2 hD2 hP2
  replace hP : va_P (dC, dI) vwCl [(h, .inr (4, [.ref q_1, .int 0, .int 0, .int 0, .int 0])), (q_1, .inr (6, [.ref a_10, .ref a_11, .ref a_12, .ref a_13, .ref a_14, .ref a_15, .int w_2])), (a_10, .inl (cI, 6, .inl w_3)), (a_11, .inl (cI, 6, .inl w_4)), (a_12, .inl (cI, 6, .inl w_5)), (a_13, .inl (cI, 6, .inl w_6)), (a_14, .inl (cI, 6, .inl w_7)), (a_15, .inl (cI, 6, .inl w_8))] H2 := hP
  replace hD : va_D A [(h, .inr (4, [.ref q_1, .int 0, .int 0, .int 0, .int 0])), (q_1, .inr (6, [.ref a_10, .ref a_11, .ref a_12, .ref a_13, .ref a_14, .ref a_15, .int w_2])), (a_10, .inl (cI, 6, .inl w_3)), (a_11, .inl (cI, 6, .inl w_4)), (a_12, .inl (cI, 6, .inl w_5)), (a_13, .inl (cI, 6, .inl w_6)), (a_14, .inl (cI, 6, .inl w_7)), (a_15, .inl (cI, 6, .inl w_8))] := hD
  have hf2 : some (0, 0, 0, 0, w_2, w_3, w_4, w_5, w_6, w_7, w_8) = some o := hf2
  cases hf2
  replace hP := hP.sub (ws' := (wcX4_full cI cJ cZ cG h q_1 a_10 a_11 a_12 a_13 a_14 a_15 0 0 0 0 w_2 w_3 w_4 w_5 w_6 w_7 w_8)) [0, 1, 2, 3, 4, 5, 6, 7] rfl
  replace hD := hD.sub (ws' := (wcX4_full cI cJ cZ cG h q_1 a_10 a_11 a_12 a_13 a_14 a_15 0 0 0 0 w_2 w_3 w_4 w_5 w_6 w_7 w_8)) [0, 1, 2, 3, 4, 5, 6, 7] (by decide) rfl
  exact W.vret hx hb hr (fun t ht hW => ⟨⟨(), rfl, trivial, q_1, a_10, a_11, a_12, a_13, a_14, a_15, by rw [ht]; exact hP, hD⟩, hS.F ht⟩) hS.2.2 dX4_init_15
abbrev wcX5_full (cI cJ cZ cG : ClassId) (h h_cards h_decks h_deckSizes : Nat) (r_h_cards r_h_decks : Nat → Nat) (v_cards : Nat → Nat → Int32) (v_decks : Nat → Nat → Int32) (v_deckSizes : Nat → Int32) : va_W := [(h, .inr (5, [.ref h_cards, .ref h_decks, .ref h_deckSizes])), gOut h_cards r_h_cards cG 6, gOut h_decks r_h_decks cG 6, (h_deckSizes, .inl (cI, 6, .inl v_deckSizes))] ++ gRows r_h_cards cI 20 v_cards ++ gRows r_h_decks cI 20 v_decks
theorem iX5_init_X5 : ∀ w ∈ wsX50, w ∈ wsX5_init := by decide +kernel
theorem mX5_init_0 : (Cond.methodLink RX5 3 objectInit) ∈ wsX5_init := by decide +kernel
theorem mX5_init_1 : (Cond.instanceMethod objectInit) ∈ wsX5_init := by decide +kernel
theorem mX5_init_2 : (Cond.code objectInit ⟨#[0xb1]⟩ 1 none) ∈ wsX5_init := by decide +kernel
theorem mX5_init_3 : (Cond.classLink RX5 9 "[[I") ∈ wsX5_init := by decide +kernel
theorem mX5_init_4 : (Cond.arrayClass .int) ∈ wsX5_init := by decide +kernel
theorem mX5_init_5 : (Cond.fieldLink RX5 11 "Sleevehall$Shelf" "cards" "[[I") ∈ wsX5_init := by decide +kernel
theorem mX5_init_6 : (Cond.fieldLink RX5 16 "Sleevehall$Shelf" "decks" "[[I") ∈ wsX5_init := by decide +kernel
theorem mX5_init_7 : (Cond.fieldLink RX5 19 "Sleevehall$Shelf" "deckSizes" "[I") ∈ wsX5_init := by decide +kernel
abbrev rmX5_init : Room := { frames := 1, cells := 15, slots := 258, locals := 24 }
set_option maxHeartbeats 4000000 in
set_option maxRecDepth 100000 in
theorem oX5_init (l : Launch) (dC : Nat → ClassId) (dI : Nat → Nat → Nat) (cI cJ cZ cG : ClassId) (h sz : Nat) (o : (Nat → Nat → Int32) × (Nat → Nat → Int32) × (Nat → Int32)) (hf : fX5_init = some o) : Met l yX5_init wsX5_init rmX5_init (wIPc [.ref h] (dC, dI) (tysW cI cJ cZ cG) sz [(h, .inr (5, [.null, .null, .null]))]) (va_Qv (fun _ : Unit => True) (fun _ t => ∃ (h_cards h_decks h_deckSizes : Nat) (r_h_cards r_h_decks : Nat → Nat), va_P (dC, dI) vwCl (wcX5_full cI cJ cZ cG h h_cards h_decks h_deckSizes r_h_cards r_h_decks (o.1) (o.2.1) (o.2.2)) t.heap ∧ va_D (va_A [(h, .inr (5, [.null, .null, .null]))] sz) (wcX5_full cI cJ cZ cG h h_cards h_decks h_deckSizes r_h_cards r_h_decks (o.1) (o.2.1) (o.2.2))) (va_A [(h, .inr (5, [.null, .null, .null]))] sz)) 15 258 (va_A [(h, .inr (5, [.null, .null, .null]))] sz) := by
  refine Met.ofW (cc := cX5_init) (maxL := 1) (ret := none) (by decide) rfl ?_
  intro p e s m args below meth c s₁ B hml hv
  obtain ⟨rfl, hsz, hP, hK, hD0, hI⟩ := hv
  have hx := B.exec
  have hb := B.bytes
  have hr := B.returns
  have hts := atoms_spec (ws := wsX5_init) B.pre
  have hown : s.vm.findClass RX5 = some m.cls := findClass_of_methodNamed B.named
  have hlocks := B.notSynchronized
  have hin : meth.name = "<init>" := (name_of_methodNamed B.named B.method).1
  subst hsz
  have hD := hD0.self (sz := s.heap.size)
  generalize hAe : va_A [(h, .inr (5, [.null, .null, .null]))] s.heap.size = A at hD ⊢
  have hA : ∀ q : Nat, s.heap.size ≤ q → A q := fun q h => by rw [← hAe]; exact Or.inr h
  have hS : va_S A s.heap s.heap [] := va_S.rf
  have hP : va_P (dC, dI) vwCl [(h, .inr (5, [.null, .null, .null]))] s.heap := hP
  have hl := lv_entry ([.ref h]) (n := 1) (Nat.le_of_ble_eq_true rfl)
  rw [lg_entry_eq]
  generalize (lg_sl ([.ref h]) ++ List.replicate (1 - (lg_sl ([.ref h])).length) Slot.unset).toArray = ls at hl ⊢
  have hl : lv_has ls 1 [(0, .ref h)] := hl
  generalize hH : s.heap = H at hP hS ⊢
  have hS : va_S A s.heap H [] := by rw [hH]; exact hS
  have C0 : wCX p s #[.ref h] m meth c cX5_init 1 none RX5 wsX5_init := ⟨hx, hb, hr, hml, hown, hts, hlocks⟩
  show W p l e rmX5_init s m #[.ref h] below meth c H [] 0 0 (MQ below (va_Qv (fun _ : Unit => True) (fun _ t => ∃ (h_cards h_decks h_deckSizes : Nat) (r_h_cards r_h_decks : Nat → Nat), va_P (dC, dI) vwCl (wcX5_full cI cJ cZ cG h h_cards h_decks h_deckSizes r_h_cards r_h_decks (o.1) (o.2.1) (o.2.2)) t.heap ∧ va_D A (wcX5_full cI cJ cZ cG h h_cards h_decks h_deckSizes r_h_cards r_h_decks (o.1) (o.2.1) (o.2.2))) A) #[.ref h] s 15 258 A) (F0 m 0 ls [])
  unfold fX5_init at hf
  refine lv_aload_n hx hb dX5_init_0 rfl (lv_at hl 0 rfl) ?_
  refine W.objInit hx hb hown (hts _ mX5_init_0) (hts _ mX5_init_1) (hts _ mX5_init_2) rfl (by rw [hml]; exact hl.1) rfl dX5_init_1 (Nat.le_of_ble_eq_true rfl) (Nat.le_of_ble_eq_true rfl) ?_
  refine lv_aload_n hx hb dX5_init_4 rfl (lv_at hl 0 rfl) ?_
  refine lv_bipush (v := 6) hx hb dX5_init_5 (by decide) ?_
  refine lv_bipush (v := 20) hx hb dX5_init_7 (by decide) ?_
  refine w_mna hx hb hown (hts _ mX5_init_3) hI.1 (hts _ mX5_init_4) hK 0 3 rfl rfl hP hD hS hA (K' := 20) (by decide) (by decide) (by decide) (by decide) (by decide) dX5_init_9 (fun q_1 r_2 H2 hP2 hD2 hS2 => ?_)
  clear hS hD hP
  replace hP2 : va_P (dC, dI) vwCl [(h, .inr (5, [.null, .null, .null])), gOut q_1 r_2 cG 6, (r_2 0, .inl (cI, 20, .inl ((fun _ _ => 0) 0))), (r_2 1, .inl (cI, 20, .inl ((fun _ _ => 0) 1))), (r_2 2, .inl (cI, 20, .inl ((fun _ _ => 0) 2))), (r_2 3, .inl (cI, 20, .inl ((fun _ _ => 0) 3))), (r_2 4, .inl (cI, 20, .inl ((fun _ _ => 0) 4))), (r_2 5, .inl (cI, 20, .inl ((fun _ _ => 0) 5)))] H2 := hP2
  replace hD2 : va_D A [(h, .inr (5, [.null, .null, .null])), gOut q_1 r_2 cG 6, (r_2 0, .inl (cI, 20, .inl ((fun _ _ => 0) 0))), (r_2 1, .inl (cI, 20, .inl ((fun _ _ => 0) 1))), (r_2 2, .inl (cI, 20, .inl ((fun _ _ => 0) 2))), (r_2 3, .inl (cI, 20, .inl ((fun _ _ => 0) 3))), (r_2 4, .inl (cI, 20, .inl ((fun _ _ => 0) 4))), (r_2 5, .inl (cI, 20, .inl ((fun _ _ => 0) 5)))] := hD2
  refine va_putF (D := (dC, dI)) (ci := 5) (v := .ref q_1) (ty := .array (.array .int)) (C := RX5) (T := TX5) (N := 3) hx hb hts iX5_init_X5 tyX5 tyX5_ok nmX5 hown hK hP2 hD2 hS2 0 rfl rfl 0 (by decide) (hts _ mX5_init_5) (fun _ h9 => h9) rfl hin rfl (by decide +kernel) rfl rfl (Nat.le_of_ble_eq_true rfl) dX5_init_13 (fun H locs2 hP hD hS => ?_)
  clear hS2 hD2 hP2
  replace hP : va_P (dC, dI) vwCl [(h, .inr (5, [.ref q_1, .null, .null])), gOut q_1 r_2 cG 6, (r_2 0, .inl (cI, 20, .inl ((fun _ _ => 0) 0))), (r_2 1, .inl (cI, 20, .inl ((fun _ _ => 0) 1))), (r_2 2, .inl (cI, 20, .inl ((fun _ _ => 0) 2))), (r_2 3, .inl (cI, 20, .inl ((fun _ _ => 0) 3))), (r_2 4, .inl (cI, 20, .inl ((fun _ _ => 0) 4))), (r_2 5, .inl (cI, 20, .inl ((fun _ _ => 0) 5)))] H := hP
  replace hD : va_D A [(h, .inr (5, [.ref q_1, .null, .null])), gOut q_1 r_2 cG 6, (r_2 0, .inl (cI, 20, .inl ((fun _ _ => 0) 0))), (r_2 1, .inl (cI, 20, .inl ((fun _ _ => 0) 1))), (r_2 2, .inl (cI, 20, .inl ((fun _ _ => 0) 2))), (r_2 3, .inl (cI, 20, .inl ((fun _ _ => 0) 3))), (r_2 4, .inl (cI, 20, .inl ((fun _ _ => 0) 4))), (r_2 5, .inl (cI, 20, .inl ((fun _ _ => 0) 5)))] := hD
  refine lv_aload_n hx hb dX5_init_16 rfl (lv_at hl 0 rfl) ?_
  refine lv_bipush (v := 6) hx hb dX5_init_17 (by decide) ?_
  refine lv_bipush (v := 20) hx hb dX5_init_19 (by decide) ?_
  refine w_mna hx hb hown (hts _ mX5_init_3) hI.1 (hts _ mX5_init_4) hK 0 3 rfl rfl hP hD hS hA (K' := 20) (by decide) (by decide) (by decide) (by decide) (by decide) dX5_init_21 (fun q_3 r_4 H2 hP2 hD2 hS2 => ?_)
  clear hS hD hP
  replace hP2 : va_P (dC, dI) vwCl [(h, .inr (5, [.ref q_1, .null, .null])), gOut q_1 r_2 cG 6, (r_2 0, .inl (cI, 20, .inl ((fun _ _ => 0) 0))), (r_2 1, .inl (cI, 20, .inl ((fun _ _ => 0) 1))), (r_2 2, .inl (cI, 20, .inl ((fun _ _ => 0) 2))), (r_2 3, .inl (cI, 20, .inl ((fun _ _ => 0) 3))), (r_2 4, .inl (cI, 20, .inl ((fun _ _ => 0) 4))), (r_2 5, .inl (cI, 20, .inl ((fun _ _ => 0) 5))), gOut q_3 r_4 cG 6, (r_4 0, .inl (cI, 20, .inl ((fun _ _ => 0) 0))), (r_4 1, .inl (cI, 20, .inl ((fun _ _ => 0) 1))), (r_4 2, .inl (cI, 20, .inl ((fun _ _ => 0) 2))), (r_4 3, .inl (cI, 20, .inl ((fun _ _ => 0) 3))), (r_4 4, .inl (cI, 20, .inl ((fun _ _ => 0) 4))), (r_4 5, .inl (cI, 20, .inl ((fun _ _ => 0) 5)))] H2 := hP2
  replace hD2 : va_D A [(h, .inr (5, [.ref q_1, .null, .null])), gOut q_1 r_2 cG 6, (r_2 0, .inl (cI, 20, .inl ((fun _ _ => 0) 0))), (r_2 1, .inl (cI, 20, .inl ((fun _ _ => 0) 1))), (r_2 2, .inl (cI, 20, .inl ((fun _ _ => 0) 2))), (r_2 3, .inl (cI, 20, .inl ((fun _ _ => 0) 3))), (r_2 4, .inl (cI, 20, .inl ((fun _ _ => 0) 4))), (r_2 5, .inl (cI, 20, .inl ((fun _ _ => 0) 5))), gOut q_3 r_4 cG 6, (r_4 0, .inl (cI, 20, .inl ((fun _ _ => 0) 0))), (r_4 1, .inl (cI, 20, .inl ((fun _ _ => 0) 1))), (r_4 2, .inl (cI, 20, .inl ((fun _ _ => 0) 2))), (r_4 3, .inl (cI, 20, .inl ((fun _ _ => 0) 3))), (r_4 4, .inl (cI, 20, .inl ((fun _ _ => 0) 4))), (r_4 5, .inl (cI, 20, .inl ((fun _ _ => 0) 5)))] := hD2
  refine va_putF (D := (dC, dI)) (ci := 5) (v := .ref q_3) (ty := .array (.array .int)) (C := RX5) (T := TX5) (N := 3) hx hb hts iX5_init_X5 tyX5 tyX5_ok nmX5 hown hK hP2 hD2 hS2 0 rfl rfl 1 (by decide) (hts _ mX5_init_6) (fun _ h9 => h9) rfl hin rfl (by decide +kernel) rfl rfl (Nat.le_of_ble_eq_true rfl) dX5_init_25 (fun H locs hP hD hS => ?_)
  clear hS2 hD2 hP2
  replace hP : va_P (dC, dI) vwCl [(h, .inr (5, [.ref q_1, .ref q_3, .null])), gOut q_1 r_2 cG 6, (r_2 0, .inl (cI, 20, .inl ((fun _ _ => 0) 0))), (r_2 1, .inl (cI, 20, .inl ((fun _ _ => 0) 1))), (r_2 2, .inl (cI, 20, .inl ((fun _ _ => 0) 2))), (r_2 3, .inl (cI, 20, .inl ((fun _ _ => 0) 3))), (r_2 4, .inl (cI, 20, .inl ((fun _ _ => 0) 4))), (r_2 5, .inl (cI, 20, .inl ((fun _ _ => 0) 5))), gOut q_3 r_4 cG 6, (r_4 0, .inl (cI, 20, .inl ((fun _ _ => 0) 0))), (r_4 1, .inl (cI, 20, .inl ((fun _ _ => 0) 1))), (r_4 2, .inl (cI, 20, .inl ((fun _ _ => 0) 2))), (r_4 3, .inl (cI, 20, .inl ((fun _ _ => 0) 3))), (r_4 4, .inl (cI, 20, .inl ((fun _ _ => 0) 4))), (r_4 5, .inl (cI, 20, .inl ((fun _ _ => 0) 5)))] H := hP
  replace hD : va_D A [(h, .inr (5, [.ref q_1, .ref q_3, .null])), gOut q_1 r_2 cG 6, (r_2 0, .inl (cI, 20, .inl ((fun _ _ => 0) 0))), (r_2 1, .inl (cI, 20, .inl ((fun _ _ => 0) 1))), (r_2 2, .inl (cI, 20, .inl ((fun _ _ => 0) 2))), (r_2 3, .inl (cI, 20, .inl ((fun _ _ => 0) 3))), (r_2 4, .inl (cI, 20, .inl ((fun _ _ => 0) 4))), (r_2 5, .inl (cI, 20, .inl ((fun _ _ => 0) 5))), gOut q_3 r_4 cG 6, (r_4 0, .inl (cI, 20, .inl ((fun _ _ => 0) 0))), (r_4 1, .inl (cI, 20, .inl ((fun _ _ => 0) 1))), (r_4 2, .inl (cI, 20, .inl ((fun _ _ => 0) 2))), (r_4 3, .inl (cI, 20, .inl ((fun _ _ => 0) 3))), (r_4 4, .inl (cI, 20, .inl ((fun _ _ => 0) 4))), (r_4 5, .inl (cI, 20, .inl ((fun _ _ => 0) 5)))] := hD
  refine lv_aload_n hx hb dX5_init_28 rfl (lv_at hl 0 rfl) ?_
  refine lv_bipush (v := 6) hx hb dX5_init_29 (by decide) ?_
  refine w_newI hx hb (hts _ mX5_init_4) hK 0 rfl hP hD hS hA (N' := 6) (by decide) (by decide) (by decide) (by decide) (by decide) dX5_init_31 (fun q_5 H2 hP2 hD2 hS2 => ?_)
  clear hS hD hP
  replace hP2 : va_P (dC, dI) vwCl [(h, .inr (5, [.ref q_1, .ref q_3, .null])), gOut q_1 r_2 cG 6, (r_2 0, .inl (cI, 20, .inl ((fun _ _ => 0) 0))), (r_2 1, .inl (cI, 20, .inl ((fun _ _ => 0) 1))), (r_2 2, .inl (cI, 20, .inl ((fun _ _ => 0) 2))), (r_2 3, .inl (cI, 20, .inl ((fun _ _ => 0) 3))), (r_2 4, .inl (cI, 20, .inl ((fun _ _ => 0) 4))), (r_2 5, .inl (cI, 20, .inl ((fun _ _ => 0) 5))), gOut q_3 r_4 cG 6, (r_4 0, .inl (cI, 20, .inl ((fun _ _ => 0) 0))), (r_4 1, .inl (cI, 20, .inl ((fun _ _ => 0) 1))), (r_4 2, .inl (cI, 20, .inl ((fun _ _ => 0) 2))), (r_4 3, .inl (cI, 20, .inl ((fun _ _ => 0) 3))), (r_4 4, .inl (cI, 20, .inl ((fun _ _ => 0) 4))), (r_4 5, .inl (cI, 20, .inl ((fun _ _ => 0) 5))), (q_5, .inl (cI, 6, .inl (fun _ => 0)))] H2 := hP2
  replace hD2 : va_D A [(h, .inr (5, [.ref q_1, .ref q_3, .null])), gOut q_1 r_2 cG 6, (r_2 0, .inl (cI, 20, .inl ((fun _ _ => 0) 0))), (r_2 1, .inl (cI, 20, .inl ((fun _ _ => 0) 1))), (r_2 2, .inl (cI, 20, .inl ((fun _ _ => 0) 2))), (r_2 3, .inl (cI, 20, .inl ((fun _ _ => 0) 3))), (r_2 4, .inl (cI, 20, .inl ((fun _ _ => 0) 4))), (r_2 5, .inl (cI, 20, .inl ((fun _ _ => 0) 5))), gOut q_3 r_4 cG 6, (r_4 0, .inl (cI, 20, .inl ((fun _ _ => 0) 0))), (r_4 1, .inl (cI, 20, .inl ((fun _ _ => 0) 1))), (r_4 2, .inl (cI, 20, .inl ((fun _ _ => 0) 2))), (r_4 3, .inl (cI, 20, .inl ((fun _ _ => 0) 3))), (r_4 4, .inl (cI, 20, .inl ((fun _ _ => 0) 4))), (r_4 5, .inl (cI, 20, .inl ((fun _ _ => 0) 5))), (q_5, .inl (cI, 6, .inl (fun _ => 0)))] := hD2
  refine va_putF (D := (dC, dI)) (ci := 5) (v := .ref q_5) (ty := .array .int) (C := RX5) (T := TX5) (N := 3) hx hb hts iX5_init_X5 tyX5 tyX5_ok nmX5 hown hK hP2 hD2 hS2 0 rfl rfl 2 (by decide) (hts _ mX5_init_7) (fun _ h9 => h9) rfl hin rfl (by decide +kernel) rfl rfl (Nat.le_of_ble_eq_true rfl) dX5_init_33 (fun H locs2 hP hD hS => ?_)
  clear hS2 hD2 hP2
  replace hP : va_P (dC, dI) vwCl [(h, .inr (5, [.ref q_1, .ref q_3, .ref q_5])), gOut q_1 r_2 cG 6, (r_2 0, .inl (cI, 20, .inl ((fun _ _ => 0) 0))), (r_2 1, .inl (cI, 20, .inl ((fun _ _ => 0) 1))), (r_2 2, .inl (cI, 20, .inl ((fun _ _ => 0) 2))), (r_2 3, .inl (cI, 20, .inl ((fun _ _ => 0) 3))), (r_2 4, .inl (cI, 20, .inl ((fun _ _ => 0) 4))), (r_2 5, .inl (cI, 20, .inl ((fun _ _ => 0) 5))), gOut q_3 r_4 cG 6, (r_4 0, .inl (cI, 20, .inl ((fun _ _ => 0) 0))), (r_4 1, .inl (cI, 20, .inl ((fun _ _ => 0) 1))), (r_4 2, .inl (cI, 20, .inl ((fun _ _ => 0) 2))), (r_4 3, .inl (cI, 20, .inl ((fun _ _ => 0) 3))), (r_4 4, .inl (cI, 20, .inl ((fun _ _ => 0) 4))), (r_4 5, .inl (cI, 20, .inl ((fun _ _ => 0) 5))), (q_5, .inl (cI, 6, .inl (fun _ => 0)))] H := hP
  replace hD : va_D A [(h, .inr (5, [.ref q_1, .ref q_3, .ref q_5])), gOut q_1 r_2 cG 6, (r_2 0, .inl (cI, 20, .inl ((fun _ _ => 0) 0))), (r_2 1, .inl (cI, 20, .inl ((fun _ _ => 0) 1))), (r_2 2, .inl (cI, 20, .inl ((fun _ _ => 0) 2))), (r_2 3, .inl (cI, 20, .inl ((fun _ _ => 0) 3))), (r_2 4, .inl (cI, 20, .inl ((fun _ _ => 0) 4))), (r_2 5, .inl (cI, 20, .inl ((fun _ _ => 0) 5))), gOut q_3 r_4 cG 6, (r_4 0, .inl (cI, 20, .inl ((fun _ _ => 0) 0))), (r_4 1, .inl (cI, 20, .inl ((fun _ _ => 0) 1))), (r_4 2, .inl (cI, 20, .inl ((fun _ _ => 0) 2))), (r_4 3, .inl (cI, 20, .inl ((fun _ _ => 0) 3))), (r_4 4, .inl (cI, 20, .inl ((fun _ _ => 0) 4))), (r_4 5, .inl (cI, 20, .inl ((fun _ _ => 0) 5))), (q_5, .inl (cI, 6, .inl (fun _ => 0)))] := hD
  have hf : some ((fun _ _ => 0), (fun _ _ => 0), (fun _ => 0)) = some o := hf
  cases hf
  replace hP := hP.sub (ws' := (wcX5_full cI cJ cZ cG h q_1 q_3 q_5 r_2 r_4 (fun _ _ => 0) (fun _ _ => 0) (fun _ => 0))) [0, 1, 8, 15, 2, 3, 4, 5, 6, 7, 9, 10, 11, 12, 13, 14] rfl
  replace hD := hD.sub (ws' := (wcX5_full cI cJ cZ cG h q_1 q_3 q_5 r_2 r_4 (fun _ _ => 0) (fun _ _ => 0) (fun _ => 0))) [0, 1, 8, 15, 2, 3, 4, 5, 6, 7, 9, 10, 11, 12, 13, 14] (by decide) rfl
  exact W.vret hx hb hr (fun t ht hW => ⟨⟨(), rfl, trivial, q_1, q_3, q_5, r_2, r_4, by rw [ht]; exact hP, hD⟩, hS.F ht⟩) hS.2.2 dX5_init_36
abbrev wcX0_full (cI cJ cZ cG : ClassId) (h h_packs : Nat) (r_h_packs : Nat → Nat) (v_players : Int32) (v_cards : Int32) (v_round : Int32) (v_turn : Int32) (v_packs : Nat → Nat → Int32) : va_W := [(h, .inr (0, [.ref h_packs, .int v_players, .int v_cards, .int v_round, .int v_turn])), gOut h_packs r_h_packs cG 6] ++ gRows r_h_packs cI 6 v_packs
theorem iX0_init_X0 : ∀ w ∈ wsX00, w ∈ wsX0_init := by decide +kernel
theorem mX0_init_0 : (Cond.methodLink RX0 3 objectInit) ∈ wsX0_init := by decide +kernel
theorem mX0_init_1 : (Cond.instanceMethod objectInit) ∈ wsX0_init := by decide +kernel
theorem mX0_init_2 : (Cond.code objectInit ⟨#[0xb1]⟩ 1 none) ∈ wsX0_init := by decide +kernel
theorem mX0_init_3 : (Cond.classLink RX0 11 "[[I") ∈ wsX0_init := by decide +kernel
theorem mX0_init_4 : (Cond.arrayClass .int) ∈ wsX0_init := by decide +kernel
theorem mX0_init_5 : (Cond.fieldLink RX0 13 "Sleevehall$Draft" "packs" "[[I") ∈ wsX0_init := by decide +kernel
abbrev rmX0_init : Room := { frames := 1, cells := 7, slots := 42, locals := 24 }
set_option maxHeartbeats 4000000 in
set_option maxRecDepth 100000 in
theorem oX0_init (l : Launch) (dC : Nat → ClassId) (dI : Nat → Nat → Nat) (cI cJ cZ cG : ClassId) (h sz : Nat) (o : Int32 × Int32 × Int32 × Int32 × (Nat → Nat → Int32)) (hf : fX0_init = some o) : Met l yX0_init wsX0_init rmX0_init (wIPc [.ref h] (dC, dI) (tysW cI cJ cZ cG) sz [(h, .inr (0, [.null, .int 0, .int 0, .int 0, .int 0]))]) (va_Qv (fun _ : Unit => True) (fun _ t => ∃ (h_packs : Nat) (r_h_packs : Nat → Nat), va_P (dC, dI) vwCl (wcX0_full cI cJ cZ cG h h_packs r_h_packs (o.1) (o.2.1) (o.2.2.1) (o.2.2.2.1) (o.2.2.2.2)) t.heap ∧ va_D (va_A [(h, .inr (0, [.null, .int 0, .int 0, .int 0, .int 0]))] sz) (wcX0_full cI cJ cZ cG h h_packs r_h_packs (o.1) (o.2.1) (o.2.2.1) (o.2.2.2.1) (o.2.2.2.2))) (va_A [(h, .inr (0, [.null, .int 0, .int 0, .int 0, .int 0]))] sz)) 7 42 (va_A [(h, .inr (0, [.null, .int 0, .int 0, .int 0, .int 0]))] sz) := by
  refine Met.ofW (cc := cX0_init) (maxL := 1) (ret := none) (by decide) rfl ?_
  intro p e s m args below meth c s₁ B hml hv
  obtain ⟨rfl, hsz, hP, hK, hD0, hI⟩ := hv
  have hx := B.exec
  have hb := B.bytes
  have hr := B.returns
  have hts := atoms_spec (ws := wsX0_init) B.pre
  have hown : s.vm.findClass RX0 = some m.cls := findClass_of_methodNamed B.named
  have hlocks := B.notSynchronized
  have hin : meth.name = "<init>" := (name_of_methodNamed B.named B.method).1
  subst hsz
  have hD := hD0.self (sz := s.heap.size)
  generalize hAe : va_A [(h, .inr (0, [.null, .int 0, .int 0, .int 0, .int 0]))] s.heap.size = A at hD ⊢
  have hA : ∀ q : Nat, s.heap.size ≤ q → A q := fun q h => by rw [← hAe]; exact Or.inr h
  have hS : va_S A s.heap s.heap [] := va_S.rf
  have hP : va_P (dC, dI) vwCl [(h, .inr (0, [.null, .int 0, .int 0, .int 0, .int 0]))] s.heap := hP
  have hl := lv_entry ([.ref h]) (n := 1) (Nat.le_of_ble_eq_true rfl)
  rw [lg_entry_eq]
  generalize (lg_sl ([.ref h]) ++ List.replicate (1 - (lg_sl ([.ref h])).length) Slot.unset).toArray = ls at hl ⊢
  have hl : lv_has ls 1 [(0, .ref h)] := hl
  generalize hH : s.heap = H at hP hS ⊢
  have hS : va_S A s.heap H [] := by rw [hH]; exact hS
  have C0 : wCX p s #[.ref h] m meth c cX0_init 1 none RX0 wsX0_init := ⟨hx, hb, hr, hml, hown, hts, hlocks⟩
  show W p l e rmX0_init s m #[.ref h] below meth c H [] 0 0 (MQ below (va_Qv (fun _ : Unit => True) (fun _ t => ∃ (h_packs : Nat) (r_h_packs : Nat → Nat), va_P (dC, dI) vwCl (wcX0_full cI cJ cZ cG h h_packs r_h_packs (o.1) (o.2.1) (o.2.2.1) (o.2.2.2.1) (o.2.2.2.2)) t.heap ∧ va_D A (wcX0_full cI cJ cZ cG h h_packs r_h_packs (o.1) (o.2.1) (o.2.2.1) (o.2.2.2.1) (o.2.2.2.2))) A) #[.ref h] s 7 42 A) (F0 m 0 ls [])
  unfold fX0_init at hf
  refine lv_aload_n hx hb dX0_init_0 rfl (lv_at hl 0 rfl) ?_
  refine W.objInit hx hb hown (hts _ mX0_init_0) (hts _ mX0_init_1) (hts _ mX0_init_2) rfl (by rw [hml]; exact hl.1) rfl dX0_init_1 (Nat.le_of_ble_eq_true rfl) (Nat.le_of_ble_eq_true rfl) ?_
  refine lv_aload_n hx hb dX0_init_4 rfl (lv_at hl 0 rfl) ?_
  refine lv_bipush (v := 6) hx hb dX0_init_5 (by decide) ?_
  refine lv_bipush (v := 6) hx hb dX0_init_7 (by decide) ?_
  refine w_mna hx hb hown (hts _ mX0_init_3) hI.1 (hts _ mX0_init_4) hK 0 3 rfl rfl hP hD hS hA (K' := 6) (by decide) (by decide) (by decide) (by decide) (by decide) dX0_init_9 (fun q_1 r_2 H2 hP2 hD2 hS2 => ?_)
  clear hS hD hP
  replace hP2 : va_P (dC, dI) vwCl [(h, .inr (0, [.null, .int 0, .int 0, .int 0, .int 0])), gOut q_1 r_2 cG 6, (r_2 0, .inl (cI, 6, .inl ((fun _ _ => 0) 0))), (r_2 1, .inl (cI, 6, .inl ((fun _ _ => 0) 1))), (r_2 2, .inl (cI, 6, .inl ((fun _ _ => 0) 2))), (r_2 3, .inl (cI, 6, .inl ((fun _ _ => 0) 3))), (r_2 4, .inl (cI, 6, .inl ((fun _ _ => 0) 4))), (r_2 5, .inl (cI, 6, .inl ((fun _ _ => 0) 5)))] H2 := hP2
  replace hD2 : va_D A [(h, .inr (0, [.null, .int 0, .int 0, .int 0, .int 0])), gOut q_1 r_2 cG 6, (r_2 0, .inl (cI, 6, .inl ((fun _ _ => 0) 0))), (r_2 1, .inl (cI, 6, .inl ((fun _ _ => 0) 1))), (r_2 2, .inl (cI, 6, .inl ((fun _ _ => 0) 2))), (r_2 3, .inl (cI, 6, .inl ((fun _ _ => 0) 3))), (r_2 4, .inl (cI, 6, .inl ((fun _ _ => 0) 4))), (r_2 5, .inl (cI, 6, .inl ((fun _ _ => 0) 5)))] := hD2
  refine va_putF (D := (dC, dI)) (ci := 0) (v := .ref q_1) (ty := .array (.array .int)) (C := RX0) (T := TX0) (N := 5) hx hb hts iX0_init_X0 tyX0 tyX0_ok nmX0 hown hK hP2 hD2 hS2 0 rfl rfl 0 (by decide) (hts _ mX0_init_5) (fun _ h9 => h9) rfl hin rfl (by decide +kernel) rfl rfl (Nat.le_of_ble_eq_true rfl) dX0_init_13 (fun H locs2 hP hD hS => ?_)
  clear hS2 hD2 hP2
  replace hP : va_P (dC, dI) vwCl [(h, .inr (0, [.ref q_1, .int 0, .int 0, .int 0, .int 0])), gOut q_1 r_2 cG 6, (r_2 0, .inl (cI, 6, .inl ((fun _ _ => 0) 0))), (r_2 1, .inl (cI, 6, .inl ((fun _ _ => 0) 1))), (r_2 2, .inl (cI, 6, .inl ((fun _ _ => 0) 2))), (r_2 3, .inl (cI, 6, .inl ((fun _ _ => 0) 3))), (r_2 4, .inl (cI, 6, .inl ((fun _ _ => 0) 4))), (r_2 5, .inl (cI, 6, .inl ((fun _ _ => 0) 5)))] H := hP
  replace hD : va_D A [(h, .inr (0, [.ref q_1, .int 0, .int 0, .int 0, .int 0])), gOut q_1 r_2 cG 6, (r_2 0, .inl (cI, 6, .inl ((fun _ _ => 0) 0))), (r_2 1, .inl (cI, 6, .inl ((fun _ _ => 0) 1))), (r_2 2, .inl (cI, 6, .inl ((fun _ _ => 0) 2))), (r_2 3, .inl (cI, 6, .inl ((fun _ _ => 0) 3))), (r_2 4, .inl (cI, 6, .inl ((fun _ _ => 0) 4))), (r_2 5, .inl (cI, 6, .inl ((fun _ _ => 0) 5)))] := hD
  have hf : some (0, 0, 0, 0, (fun _ _ => 0)) = some o := hf
  cases hf
  replace hP := hP.sub (ws' := (wcX0_full cI cJ cZ cG h q_1 r_2 0 0 0 0 (fun _ _ => 0))) [0, 1, 2, 3, 4, 5, 6, 7] rfl
  replace hD := hD.sub (ws' := (wcX0_full cI cJ cZ cG h q_1 r_2 0 0 0 0 (fun _ _ => 0))) [0, 1, 2, 3, 4, 5, 6, 7] (by decide) rfl
  exact W.vret hx hb hr (fun t ht hW => ⟨⟨(), rfl, trivial, q_1, r_2, by rw [ht]; exact hP, hD⟩, hS.F ht⟩) hS.2.2 dX0_init_16
abbrev wcX7_full (cI cJ cZ cG : ClassId) (h h_gives h_wants h_row : Nat) (v_givers : Int32) (v_gives : Nat → Int32) (v_wants : Nat → Int32) (v_row : Nat → Int32) : va_W := [(h, .inr (7, [.ref h_gives, .ref h_wants, .int v_givers, .ref h_row])), (h_gives, .inl (cI, 6, .inl v_gives)), (h_wants, .inl (cI, 6, .inl v_wants)), (h_row, .inl (cI, 6, .inl v_row))]
theorem iX7_init_X7 : ∀ w ∈ wsX70, w ∈ wsX7_init := by decide +kernel
theorem mX7_init_0 : (Cond.methodLink RX7 3 objectInit) ∈ wsX7_init := by decide +kernel
theorem mX7_init_1 : (Cond.instanceMethod objectInit) ∈ wsX7_init := by decide +kernel
theorem mX7_init_2 : (Cond.code objectInit ⟨#[0xb1]⟩ 1 none) ∈ wsX7_init := by decide +kernel
theorem mX7_init_3 : (Cond.arrayClass .int) ∈ wsX7_init := by decide +kernel
theorem mX7_init_4 : (Cond.fieldLink RX7 9 "Sleevehall$Wishes" "gives" "[I") ∈ wsX7_init := by decide +kernel
theorem mX7_init_5 : (Cond.fieldLink RX7 15 "Sleevehall$Wishes" "wants" "[I") ∈ wsX7_init := by decide +kernel
theorem mX7_init_6 : (Cond.fieldLink RX7 18 "Sleevehall$Wishes" "row" "[I") ∈ wsX7_init := by decide +kernel
abbrev rmX7_init : Room := { frames := 1, cells := 3, slots := 18, locals := 24 }
set_option maxHeartbeats 4000000 in
set_option maxRecDepth 100000 in
theorem kX7_init_30 {p : Program} {l : Launch} {e : Env} {s : State} {m : MethodId} {args : Array Value} {below : List Frame} {meth : Method} {c : Code} {dC : Nat → ClassId} {dI : Nat → Nat → Nat} {A : Nat → Prop} {cI cJ cZ cG : ClassId} {h h_gives h_wants h_row : Nat} {o : Int32 × (Nat → Int32) × (Nat → Int32) × (Nat → Int32)} (C0 : wCX p s args m meth c cX7_init 2 none RX7 wsX7_init) (hA : ∀ q, s.heap.size ≤ q → A q) (hK : va_K (dC, dI) vwCl (tysW cI cJ cZ cG) s) : ∀ (n : Nat) (v_givers : Int32) (v_gives : Nat → Int32) (v_wants : Nat → Int32) (v_row : Nat → Int32) (l1 : Int32) (H : Heap) (locs : List Loc) (ls : Array Slot), fX7_init_b30 n v_givers v_gives v_wants v_row l1 = some o → va_P (dC, dI) vwCl (wcX7_full cI cJ cZ cG h h_gives h_wants h_row v_givers v_gives v_wants v_row) H → va_D A (wcX7_full cI cJ cZ cG h h_gives h_wants h_row v_givers v_gives v_wants v_row) → va_S A s.heap H locs → lv_has ls 2 [(0, .ref h), (1, .int l1)] → W p l e rmX7_init s m args below meth c H locs 3 18 (MQ below (va_Qv (fun _ : Unit => True) (fun _ t => ∃ (h_gives h_wants h_row : Nat) , va_P (dC, dI) vwCl (wcX7_full cI cJ cZ cG h h_gives h_wants h_row (o.1) (o.2.1) (o.2.2.1) (o.2.2.2)) t.heap ∧ va_D A (wcX7_full cI cJ cZ cG h h_gives h_wants h_row (o.1) (o.2.1) (o.2.2.1) (o.2.2.2))) A) args s 3 18 A) (F0 m 30 ls []) := by
  obtain ⟨hx, hb, hr, hml, hown, hts, hlocks⟩ := id C0
  intro n
  induction n with
  | zero =>
    intro v_givers v_gives v_wants v_row l1 H locs ls hf hP hD hS hl
    rw [fX7_init_b30] at hf
    cases hf
  | succ n ih =>
    intro v_givers v_gives v_wants v_row l1 H locs ls hf hP hD hS hl
    rw [fX7_init_b30] at hf
    refine lv_iload_n hx hb dX7_init_30 rfl (lv_at hl 1 rfl) ?_
    refine lv_bipush (v := 6) hx hb dX7_init_31 (by decide) ?_
    refine lv_icmp_ge (tgt := 56) hx hb dX7_init_33 (by decide) (fun c_1 => ?_) (fun c_1 => ?_)
    · have hf := it_t hf c_1
      have hf : some (v_givers, v_gives, v_wants, v_row) = some o := hf
      cases hf
      exact W.vret hx hb hr (fun t ht hW => ⟨⟨(), rfl, trivial, h_gives, h_wants, h_row, by rw [ht]; exact hP, hD⟩, hS.F ht⟩) hS.2.2 dX7_init_56
    · have hf := it_f hf c_1
      refine lv_aload_n hx hb dX7_init_36 rfl (lv_at hl 0 rfl) ?_
      refine va_get (D := (dC, dI)) (ci := 7) (v := .ref h_gives) (C := RX7) (T := TX7) (N := 4) hx hb hts iX7_init_X7 hown hK hP 0 rfl rfl 0 (by decide) (hts _ mX7_init_4) (fun _ h9 => h9) rfl dX7_init_37 ?_
      refine lv_iload_n hx hb dX7_init_40 rfl (lv_at hl 1 rfl) ?_
      refine lv_iconst (v := (-1)) hx hb dX7_init_41 (by decide) ?_
      obtain ⟨hg_2, hf⟩ := ck_s hf
      refine va_iast (D := (dC, dI)) hx hb hK hP hD hS 1 0 rfl rfl (g_vp hg_2) dX7_init_42 (fun H locs hP hD hS => ?_)
      have hP : va_P (dC, dI) vwCl (wcX7_full cI cJ cZ cG h h_gives h_wants h_row v_givers (upd v_gives l1.toNatClampNeg (-1)) v_wants v_row) H := hP
      have hD : va_D A (wcX7_full cI cJ cZ cG h h_gives h_wants h_row v_givers (upd v_gives l1.toNatClampNeg (-1)) v_wants v_row) := hD
      refine lv_aload_n hx hb dX7_init_43 rfl (lv_at hl 0 rfl) ?_
      refine va_get (D := (dC, dI)) (ci := 7) (v := .ref h_wants) (C := RX7) (T := TX7) (N := 4) hx hb hts iX7_init_X7 hown hK hP 0 rfl rfl 1 (by decide) (hts _ mX7_init_5) (fun _ h9 => h9) rfl dX7_init_44 ?_
      refine lv_iload_n hx hb dX7_init_47 rfl (lv_at hl 1 rfl) ?_
      refine lv_iconst (v := (-1)) hx hb dX7_init_48 (by decide) ?_
      obtain ⟨hg_3, hf⟩ := ck_s hf
      refine va_iast (D := (dC, dI)) hx hb hK hP hD hS 2 0 rfl rfl (g_vp hg_3) dX7_init_49 (fun H locs hP hD hS => ?_)
      have hP : va_P (dC, dI) vwCl (wcX7_full cI cJ cZ cG h h_gives h_wants h_row v_givers (upd v_gives l1.toNatClampNeg (-1)) (upd v_wants l1.toNatClampNeg (-1)) v_row) H := hP
      have hD : va_D A (wcX7_full cI cJ cZ cG h h_gives h_wants h_row v_givers (upd v_gives l1.toNatClampNeg (-1)) (upd v_wants l1.toNatClampNeg (-1)) v_row) := hD
      obtain ⟨x_4, ex_4, hf⟩ := nm_s hf
      refine lv_iinc (v := x_4) (lv' := [(1, .int x_4), (0, .ref h)]) hx hb dX7_init_50 hl (k := 1) rfl (by rw [ex_4]; rfl) (by decide) rfl (fun ls hl => ?_)
      refine lv_goto (tgt := 30) hx hb dX7_init_53 (by decide) ?_
      have hf : (fX7_init_b30 n) v_givers (upd v_gives l1.toNatClampNeg (-1)) (upd v_wants l1.toNatClampNeg (-1)) v_row x_4 = some o := hf
      exact ih v_givers (upd v_gives l1.toNatClampNeg (-1)) (upd v_wants l1.toNatClampNeg (-1)) v_row x_4 _ _ _ hf hP hD hS (lv_sub hl [1, 0] rfl)
set_option maxHeartbeats 4000000 in
set_option maxRecDepth 100000 in
theorem oX7_init (l : Launch) (dC : Nat → ClassId) (dI : Nat → Nat → Nat) (cI cJ cZ cG : ClassId) (h sz : Nat) (o : Int32 × (Nat → Int32) × (Nat → Int32) × (Nat → Int32)) (hf : fX7_init = some o) : Met l yX7_init wsX7_init rmX7_init (wIPc [.ref h] (dC, dI) (tysW cI cJ cZ cG) sz [(h, .inr (7, [.null, .null, .int 0, .null]))]) (va_Qv (fun _ : Unit => True) (fun _ t => ∃ (h_gives h_wants h_row : Nat) , va_P (dC, dI) vwCl (wcX7_full cI cJ cZ cG h h_gives h_wants h_row (o.1) (o.2.1) (o.2.2.1) (o.2.2.2)) t.heap ∧ va_D (va_A [(h, .inr (7, [.null, .null, .int 0, .null]))] sz) (wcX7_full cI cJ cZ cG h h_gives h_wants h_row (o.1) (o.2.1) (o.2.2.1) (o.2.2.2))) (va_A [(h, .inr (7, [.null, .null, .int 0, .null]))] sz)) 3 18 (va_A [(h, .inr (7, [.null, .null, .int 0, .null]))] sz) := by
  refine Met.ofW (cc := cX7_init) (maxL := 2) (ret := none) (by decide) rfl ?_
  intro p e s m args below meth c s₁ B hml hv
  obtain ⟨rfl, hsz, hP, hK, hD0, hI⟩ := hv
  have hx := B.exec
  have hb := B.bytes
  have hr := B.returns
  have hts := atoms_spec (ws := wsX7_init) B.pre
  have hown : s.vm.findClass RX7 = some m.cls := findClass_of_methodNamed B.named
  have hlocks := B.notSynchronized
  have hin : meth.name = "<init>" := (name_of_methodNamed B.named B.method).1
  subst hsz
  have hD := hD0.self (sz := s.heap.size)
  generalize hAe : va_A [(h, .inr (7, [.null, .null, .int 0, .null]))] s.heap.size = A at hD ⊢
  have hA : ∀ q : Nat, s.heap.size ≤ q → A q := fun q h => by rw [← hAe]; exact Or.inr h
  have hS : va_S A s.heap s.heap [] := va_S.rf
  have hP : va_P (dC, dI) vwCl [(h, .inr (7, [.null, .null, .int 0, .null]))] s.heap := hP
  have hl := lv_entry ([.ref h]) (n := 2) (Nat.le_of_ble_eq_true rfl)
  rw [lg_entry_eq]
  generalize (lg_sl ([.ref h]) ++ List.replicate (2 - (lg_sl ([.ref h])).length) Slot.unset).toArray = ls at hl ⊢
  have hl : lv_has ls 2 [(0, .ref h)] := hl
  generalize hH : s.heap = H at hP hS ⊢
  have hS : va_S A s.heap H [] := by rw [hH]; exact hS
  have C0 : wCX p s #[.ref h] m meth c cX7_init 2 none RX7 wsX7_init := ⟨hx, hb, hr, hml, hown, hts, hlocks⟩
  show W p l e rmX7_init s m #[.ref h] below meth c H [] 0 0 (MQ below (va_Qv (fun _ : Unit => True) (fun _ t => ∃ (h_gives h_wants h_row : Nat) , va_P (dC, dI) vwCl (wcX7_full cI cJ cZ cG h h_gives h_wants h_row (o.1) (o.2.1) (o.2.2.1) (o.2.2.2)) t.heap ∧ va_D A (wcX7_full cI cJ cZ cG h h_gives h_wants h_row (o.1) (o.2.1) (o.2.2.1) (o.2.2.2))) A) #[.ref h] s 3 18 A) (F0 m 0 ls [])
  unfold fX7_init at hf
  refine lv_aload_n hx hb dX7_init_0 rfl (lv_at hl 0 rfl) ?_
  refine W.objInit hx hb hown (hts _ mX7_init_0) (hts _ mX7_init_1) (hts _ mX7_init_2) rfl (by rw [hml]; exact hl.1) rfl dX7_init_1 (Nat.le_of_ble_eq_true rfl) (Nat.le_of_ble_eq_true rfl) ?_
  refine lv_aload_n hx hb dX7_init_4 rfl (lv_at hl 0 rfl) ?_
  refine lv_bipush (v := 6) hx hb dX7_init_5 (by decide) ?_
  refine w_newI hx hb (hts _ mX7_init_3) hK 0 rfl hP hD hS hA (N' := 6) (by decide) (by decide) (by decide) (by decide) (by decide) dX7_init_7 (fun q_1 H2 hP2 hD2 hS2 => ?_)
  clear hS hD hP
  replace hP2 : va_P (dC, dI) vwCl [(h, .inr (7, [.null, .null, .int 0, .null])), (q_1, .inl (cI, 6, .inl (fun _ => 0)))] H2 := hP2
  replace hD2 : va_D A [(h, .inr (7, [.null, .null, .int 0, .null])), (q_1, .inl (cI, 6, .inl (fun _ => 0)))] := hD2
  refine va_putF (D := (dC, dI)) (ci := 7) (v := .ref q_1) (ty := .array .int) (C := RX7) (T := TX7) (N := 4) hx hb hts iX7_init_X7 tyX7 tyX7_ok nmX7 hown hK hP2 hD2 hS2 0 rfl rfl 0 (by decide) (hts _ mX7_init_4) (fun _ h9 => h9) rfl hin rfl (by decide +kernel) rfl rfl (Nat.le_of_ble_eq_true rfl) dX7_init_9 (fun H locs2 hP hD hS => ?_)
  clear hS2 hD2 hP2
  replace hP : va_P (dC, dI) vwCl [(h, .inr (7, [.ref q_1, .null, .int 0, .null])), (q_1, .inl (cI, 6, .inl (fun _ => 0)))] H := hP
  replace hD : va_D A [(h, .inr (7, [.ref q_1, .null, .int 0, .null])), (q_1, .inl (cI, 6, .inl (fun _ => 0)))] := hD
  refine lv_aload_n hx hb dX7_init_12 rfl (lv_at hl 0 rfl) ?_
  refine lv_bipush (v := 6) hx hb dX7_init_13 (by decide) ?_
  refine w_newI hx hb (hts _ mX7_init_3) hK 0 rfl hP hD hS hA (N' := 6) (by decide) (by decide) (by decide) (by decide) (by decide) dX7_init_15 (fun q_2 H2 hP2 hD2 hS2 => ?_)
  clear hS hD hP
  replace hP2 : va_P (dC, dI) vwCl [(h, .inr (7, [.ref q_1, .null, .int 0, .null])), (q_1, .inl (cI, 6, .inl (fun _ => 0))), (q_2, .inl (cI, 6, .inl (fun _ => 0)))] H2 := hP2
  replace hD2 : va_D A [(h, .inr (7, [.ref q_1, .null, .int 0, .null])), (q_1, .inl (cI, 6, .inl (fun _ => 0))), (q_2, .inl (cI, 6, .inl (fun _ => 0)))] := hD2
  refine va_putF (D := (dC, dI)) (ci := 7) (v := .ref q_2) (ty := .array .int) (C := RX7) (T := TX7) (N := 4) hx hb hts iX7_init_X7 tyX7 tyX7_ok nmX7 hown hK hP2 hD2 hS2 0 rfl rfl 1 (by decide) (hts _ mX7_init_5) (fun _ h9 => h9) rfl hin rfl (by decide +kernel) rfl rfl (Nat.le_of_ble_eq_true rfl) dX7_init_17 (fun H locs hP hD hS => ?_)
  clear hS2 hD2 hP2
  replace hP : va_P (dC, dI) vwCl [(h, .inr (7, [.ref q_1, .ref q_2, .int 0, .null])), (q_1, .inl (cI, 6, .inl (fun _ => 0))), (q_2, .inl (cI, 6, .inl (fun _ => 0)))] H := hP
  replace hD : va_D A [(h, .inr (7, [.ref q_1, .ref q_2, .int 0, .null])), (q_1, .inl (cI, 6, .inl (fun _ => 0))), (q_2, .inl (cI, 6, .inl (fun _ => 0)))] := hD
  refine lv_aload_n hx hb dX7_init_20 rfl (lv_at hl 0 rfl) ?_
  refine lv_bipush (v := 6) hx hb dX7_init_21 (by decide) ?_
  refine w_newI hx hb (hts _ mX7_init_3) hK 0 rfl hP hD hS hA (N' := 6) (by decide) (by decide) (by decide) (by decide) (by decide) dX7_init_23 (fun q_3 H2 hP2 hD2 hS2 => ?_)
  clear hS hD hP
  replace hP2 : va_P (dC, dI) vwCl [(h, .inr (7, [.ref q_1, .ref q_2, .int 0, .null])), (q_1, .inl (cI, 6, .inl (fun _ => 0))), (q_2, .inl (cI, 6, .inl (fun _ => 0))), (q_3, .inl (cI, 6, .inl (fun _ => 0)))] H2 := hP2
  replace hD2 : va_D A [(h, .inr (7, [.ref q_1, .ref q_2, .int 0, .null])), (q_1, .inl (cI, 6, .inl (fun _ => 0))), (q_2, .inl (cI, 6, .inl (fun _ => 0))), (q_3, .inl (cI, 6, .inl (fun _ => 0)))] := hD2
  refine va_putF (D := (dC, dI)) (ci := 7) (v := .ref q_3) (ty := .array .int) (C := RX7) (T := TX7) (N := 4) hx hb hts iX7_init_X7 tyX7 tyX7_ok nmX7 hown hK hP2 hD2 hS2 0 rfl rfl 3 (by decide) (hts _ mX7_init_6) (fun _ h9 => h9) rfl hin rfl (by decide +kernel) rfl rfl (Nat.le_of_ble_eq_true rfl) dX7_init_25 (fun H locs2 hP hD hS => ?_)
  clear hS2 hD2 hP2
  replace hP : va_P (dC, dI) vwCl [(h, .inr (7, [.ref q_1, .ref q_2, .int 0, .ref q_3])), (q_1, .inl (cI, 6, .inl (fun _ => 0))), (q_2, .inl (cI, 6, .inl (fun _ => 0))), (q_3, .inl (cI, 6, .inl (fun _ => 0)))] H := hP
  replace hD : va_D A [(h, .inr (7, [.ref q_1, .ref q_2, .int 0, .ref q_3])), (q_1, .inl (cI, 6, .inl (fun _ => 0))), (q_2, .inl (cI, 6, .inl (fun _ => 0))), (q_3, .inl (cI, 6, .inl (fun _ => 0)))] := hD
  refine lv_iconst (v := 0) hx hb dX7_init_28 (by decide) ?_
  refine lv_istore_n (lv' := [(1, .int 0), (0, .ref h)]) hx hb dX7_init_29 rfl hl (by decide) rfl (fun ls hl => ?_)
  have hf : fX7_init_b30 70 0 (fun _ => 0) (fun _ => 0) (fun _ => 0) 0 = some o := hf
  exact kX7_init_30 C0 hA hK 70 0 (fun _ => 0) (fun _ => 0) (fun _ => 0) 0 _ _ _ hf hP hD hS (lv_sub hl [1, 0] rfl)
