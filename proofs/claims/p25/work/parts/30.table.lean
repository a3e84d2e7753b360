/-! printed by gen.py: table -/
abbrev wcX6_clear (cI cJ cZ cG : ClassId) (h h_lives h_shields h_effects h_numbers h_players h_against : Nat) (v_size : Int32) (v_lives : Nat → Int32) (v_shields : Nat → Int32) : va_W := [(h, .inr (6, [.ref h_lives, .ref h_shields, .ref h_effects, .ref h_numbers, .ref h_players, .ref h_against, .int v_size])), (h_lives, .inl (cI, 6, .inl v_lives)), (h_shields, .inl (cI, 6, .inl v_shields))]
theorem iX6_clear_X6 : ∀ w ∈ wsX60, w ∈ wsX6_clear := by decide +kernel
theorem mX6_clear_0 : (Cond.fieldLink RX6 33 "Sleevehall$Table" "size" "I") ∈ wsX6_clear := by decide +kernel
theorem mX6_clear_1 : (Cond.fieldLink RX6 9 "Sleevehall$Table" "lives" "[I") ∈ wsX6_clear := by decide +kernel
theorem mX6_clear_2 : (Cond.fieldLink RX6 15 "Sleevehall$Table" "shields" "[I") ∈ wsX6_clear := by decide +kernel
abbrev rmX6_clear : Room := { frames := 0, cells := 0, slots := 0, locals := 0 }
set_option maxHeartbeats 4000000 in
set_option maxRecDepth 100000 in
theorem kX6_clear_2 {p : Program} {l : Launch} {e : Env} {s : State} {m : MethodId} {args : Array Value} {below : List Frame} {meth : Method} {c : Code} {dC : Nat → ClassId} {dI : Nat → Nat → Nat} {A : Nat → Prop} {cI cJ cZ cG : ClassId} {h h_lives h_shields h_effects h_numbers h_players h_against : Nat} {n_size : Int32} {n_lives : Nat → Int32} {n_shields : Nat → Int32} (C0 : wCX p s args m meth c cX6_clear 2 none RX6 wsX6_clear) (hA : ∀ q, s.heap.size ≤ q → A q) (hK : va_K (dC, dI) vwCl (tysW cI cJ cZ cG) s) : ∀ (n : Nat), ∀ (v_size : Int32) (v_lives : Nat → Int32) (v_shields : Nat → Int32) (l1 : Int32) (H : Heap) (locs : List Loc) (ls : Array Slot), fX6_clear_b2 n v_size v_lives v_shields l1 = some (n_size, n_lives, n_shields) → va_P (dC, dI) vwCl (wcX6_clear cI cJ cZ cG h h_lives h_shields h_effects h_numbers h_players h_against v_size v_lives v_shields) H → va_D A (wcX6_clear cI cJ cZ cG h h_lives h_shields h_effects h_numbers h_players h_against v_size v_lives v_shields) → va_S A s.heap H locs → lv_has ls 2 [(0, .ref h), (1, .int l1)] → W p l e rmX6_clear s m args below meth c H locs 0 0 (MQ below (wQv (wcX6_clear cI cJ cZ cG h h_lives h_shields h_effects h_numbers h_players h_against n_size n_lives n_shields) (dC, dI) A) args s 0 0 A) (F0 m 2 ls []) := by
  obtain ⟨hx, hb, hr, hml, hown, hts, hlocks⟩ := id C0
  intro n
  induction n with
  | zero =>
    intro v_size v_lives v_shields l1 H locs ls hf hP hD hS hl
    rw [fX6_clear_b2] at hf
    cases hf
  | succ n ih =>
    intro v_size v_lives v_shields l1 H locs ls hf hP hD hS hl
    rw [fX6_clear_b2] at hf
    refine lv_iload_n hx hb dX6_clear_2 rfl (lv_at hl 1 rfl) ?_
    refine lv_bipush (v := 6) hx hb dX6_clear_3 (by decide) ?_
    refine lv_icmp_ge (tgt := 29) hx hb dX6_clear_5 (by decide) (fun c_1 => ?_) (fun c_1 => ?_)
    · have hf := it_t hf c_1
      refine lv_aload_n hx hb dX6_clear_29 rfl (lv_at hl 0 rfl) ?_
      refine lv_iconst (v := 0) hx hb dX6_clear_30 (by decide) ?_
      refine va_put (D := (dC, dI)) (ci := 6) (v := .int 0) (ty := .int) (C := RX6) (T := TX6) (N := 7) hx hb hts iX6_clear_X6 tyX6 tyX6_ok nmX6 hown hK hP hD hS 0 rfl rfl 6 (by decide) (hts _ mX6_clear_0) (fun _ h9 => h9) rfl (by decide +kernel) rfl rfl (Nat.le_of_ble_eq_true rfl) dX6_clear_31 (fun H locs hP hD hS => ?_)
      have hP : va_P (dC, dI) vwCl (wcX6_clear cI cJ cZ cG h h_lives h_shields h_effects h_numbers h_players h_against 0 v_lives v_shields) H := hP
      have hD : va_D A (wcX6_clear cI cJ cZ cG h h_lives h_shields h_effects h_numbers h_players h_against 0 v_lives v_shields) := hD
      have hf : some (0, v_lives, v_shields) = some (n_size, n_lives, n_shields) := hf
      cases hf
      exact w_vret hx hb hr hlocks hP hD hS dX6_clear_34
    · have hf := it_f hf c_1
      refine lv_aload_n hx hb dX6_clear_8 rfl (lv_at hl 0 rfl) ?_
      refine va_get (D := (dC, dI)) (ci := 6) (v := .ref h_lives) (C := RX6) (T := TX6) (N := 7) hx hb hts iX6_clear_X6 hown hK hP 0 rfl rfl 0 (by decide) (hts _ mX6_clear_1) (fun _ h9 => h9) rfl dX6_clear_9 ?_
      refine lv_iload_n hx hb dX6_clear_12 rfl (lv_at hl 1 rfl) ?_
      refine lv_bipush (v := 20) hx hb dX6_clear_13 (by decide) ?_
      obtain ⟨hg_2, hf⟩ := ck_s hf
      refine va_iast (D := (dC, dI)) hx hb hK hP hD hS 1 0 rfl rfl (g_vp hg_2) dX6_clear_15 (fun H locs hP hD hS => ?_)
      have hP : va_P (dC, dI) vwCl (wcX6_clear cI cJ cZ cG h h_lives h_shields h_effects h_numbers h_players h_against v_size (upd v_lives l1.toNatClampNeg 20) v_shields) H := hP
      have hD : va_D A (wcX6_clear cI cJ cZ cG h h_lives h_shields h_effects h_numbers h_players h_against v_size (upd v_lives l1.toNatClampNeg 20) v_shields) := hD
      refine lv_aload_n hx hb dX6_clear_16 rfl (lv_at hl 0 rfl) ?_
      refine va_get (D := (dC, dI)) (ci := 6) (v := .ref h_shields) (C := RX6) (T := TX6) (N := 7) hx hb hts iX6_clear_X6 hown hK hP 0 rfl rfl 1 (by decide) (hts _ mX6_clear_2) (fun _ h9 => h9) rfl dX6_clear_17 ?_
      refine lv_iload_n hx hb dX6_clear_20 rfl (lv_at hl 1 rfl) ?_
      refine lv_iconst (v := 0) hx hb dX6_clear_21 (by decide) ?_
      obtain ⟨hg_3, hf⟩ := ck_s hf
      refine va_iast (D := (dC, dI)) hx hb hK hP hD hS 2 0 rfl rfl (g_vp hg_3) dX6_clear_22 (fun H locs hP hD hS => ?_)
      have hP : va_P (dC, dI) vwCl (wcX6_clear cI cJ cZ cG h h_lives h_shields h_effects h_numbers h_players h_against v_size (upd v_lives l1.toNatClampNeg 20) (upd v_shields l1.toNatClampNeg 0)) H := hP
      have hD : va_D A (wcX6_clear cI cJ cZ cG h h_lives h_shields h_effects h_numbers h_players h_against v_size (upd v_lives l1.toNatClampNeg 20) (upd v_shields l1.toNatClampNeg 0)) := hD
      obtain ⟨x_4, ex_4, hf⟩ := nm_s hf
      refine lv_iinc (v := x_4) (lv' := [(1, .int x_4), (0, .ref h)]) hx hb dX6_clear_23 hl (k := 1) rfl (by rw [ex_4]; rfl) (by decide) rfl (fun ls hl => ?_)
      refine lv_goto (tgt := 2) hx hb dX6_clear_26 (by decide) ?_
      have hf : (fX6_clear_b2 n) v_size (upd v_lives l1.toNatClampNeg 20) (upd v_shields l1.toNatClampNeg 0) x_4 = some (n_size, n_lives, n_shields) := hf
      exact ih v_size (upd v_lives l1.toNatClampNeg 20) (upd v_shields l1.toNatClampNeg 0) x_4 _ _ _ hf hP hD hS (lv_sub hl [1, 0] rfl)
set_option maxHeartbeats 4000000 in
set_option maxRecDepth 100000 in
theorem oX6_clear (l : Launch) (dC : Nat → ClassId) (dI : Nat → Nat → Nat) (cI cJ cZ cG : ClassId) (h h_lives h_shields h_effects h_numbers h_players h_against : Nat) (v_size : Int32) (v_lives : Nat → Int32) (v_shields : Nat → Int32) (sz : Nat) (n_size : Int32) (n_lives : Nat → Int32) (n_shields : Nat → Int32) (hf : fX6_clear v_size v_lives v_shields = some (n_size, n_lives, n_shields)) : Met l yX6_clear wsX6_clear rmX6_clear (wPc [.ref h] (dC, dI) (tysW cI cJ cZ cG) sz (wcX6_clear cI cJ cZ cG h h_lives h_shields h_effects h_numbers h_players h_against v_size v_lives v_shields)) (wQv (wcX6_clear cI cJ cZ cG h h_lives h_shields h_effects h_numbers h_players h_against n_size n_lives n_shields) (dC, dI) (va_A (wcX6_clear cI cJ cZ cG h h_lives h_shields h_effects h_numbers h_players h_against v_size v_lives v_shields) sz)) 0 0 (va_A (wcX6_clear cI cJ cZ cG h h_lives h_shields h_effects h_numbers h_players h_against v_size v_lives v_shields) sz) := by
  refine Met.ofW (cc := cX6_clear) (maxL := 2) (ret := none) (by decide) rfl ?_
  intro p e s m args below meth c s₁ B hml hv
  obtain ⟨rfl, hsz, hP, hK, hD0⟩ := hv
  have hx := B.exec
  have hb := B.bytes
  have hr := B.returns
  have hts := atoms_spec (ws := wsX6_clear) B.pre
  have hown : s.vm.findClass RX6 = some m.cls := findClass_of_methodNamed B.named
  have hlocks := B.notSynchronized
  subst hsz
  have hD := hD0.self (sz := s.heap.size)
  generalize hAe : va_A (wcX6_clear cI cJ cZ cG h h_lives h_shields h_effects h_numbers h_players h_against v_size v_lives v_shields) s.heap.size = A at hD ⊢
  have hA : ∀ q : Nat, s.heap.size ≤ q → A q := fun q h => by rw [← hAe]; exact Or.inr h
  have hS : va_S A s.heap s.heap [] := va_S.rf
  have hP : va_P (dC, dI) vwCl (wcX6_clear cI cJ cZ cG h h_lives h_shields h_effects h_numbers h_players h_against v_size v_lives v_shields) s.heap := hP
  have hl := lv_entry ([.ref h]) (n := 2) (Nat.le_of_ble_eq_true rfl)
  rw [lg_entry_eq]
  generalize (lg_sl ([.ref h]) ++ List.replicate (2 - (lg_sl ([.ref h])).length) Slot.unset).toArray = ls at hl ⊢
  have hl : lv_has ls 2 [(0, .ref h)] := hl
  generalize hH : s.heap = H at hP hS ⊢
  have hS : va_S A s.heap H [] := by rw [hH]; exact hS
  have C0 : wCX p s #[.ref h] m meth c cX6_clear 2 none RX6 wsX6_clear := ⟨hx, hb, hr, hml, hown, hts, hlocks⟩
  show W p l e rmX6_clear s m #[.ref h] below meth c H [] 0 0 (MQ below (wQv (wcX6_clear cI cJ cZ cG h h_lives h_shields h_effects h_numbers h_players h_against n_size n_lives n_shields) (dC, dI) A) #[.ref h] s 0 0 A) (F0 m 0 ls [])
  unfold fX6_clear at hf
  refine lv_iconst (v := 0) hx hb dX6_clear_0 (by decide) ?_
  refine lv_istore_n (lv' := [(1, .int 0), (0, .ref h)]) hx hb dX6_clear_1 rfl hl (by decide) rfl (fun ls hl => ?_)
  have hf : fX6_clear_b2 70 v_size v_lives v_shields 0 = some (n_size, n_lives, n_shields) := hf
  exact kX6_clear_2 C0 hA hK 70 v_size v_lives v_shields 0 _ _ _ hf hP hD hS (lv_sub hl [1, 0] rfl)
abbrev wcX6_copyFrom (cI cJ cZ cG : ClassId) (h h_lives h_shields h_effects h_numbers h_players h_against o1 o1_lives o1_shields o1_effects o1_numbers o1_players o1_against : Nat) (v_size : Int32) (v_lives : Nat → Int32) (v_shields : Nat → Int32) (v_effects : Nat → Int32) (v_numbers : Nat → Int32) (v_players : Nat → Int32) (v_against : Nat → Int32) (v_o1_size : Int32) (v_o1_lives : Nat → Int32) (v_o1_shields : Nat → Int32) (v_o1_effects : Nat → Int32) (v_o1_numbers : Nat → Int32) (v_o1_players : Nat → Int32) (v_o1_against : Nat → Int32) : va_W := [(h, .inr (6, [.ref h_lives, .ref h_shields, .ref h_effects, .ref h_numbers, .ref h_players, .ref h_against, .int v_size])), (h_lives, .inl (cI, 6, .inl v_lives)), (h_shields, .inl (cI, 6, .inl v_shields)), (h_effects, .inl (cI, 6, .inl v_effects)), (h_numbers, .inl (cI, 6, .inl v_numbers)), (h_players, .inl (cI, 6, .inl v_players)), (h_against, .inl (cI, 6, .inl v_against)), (o1, .inr (6, [.ref o1_lives, .ref o1_shields, .ref o1_effects, .ref o1_numbers, .ref o1_players, .ref o1_against, .int v_o1_size])), (o1_lives, .inl (cI, 6, .inl v_o1_lives)), (o1_shields, .inl (cI, 6, .inl v_o1_shields)), (o1_effects, .inl (cI, 6, .inl v_o1_effects)), (o1_numbers, .inl (cI, 6, .inl v_o1_numbers)), (o1_players, .inl (cI, 6, .inl v_o1_players)), (o1_against, .inl (cI, 6, .inl v_o1_against))]
theorem iX6_copyFrom_X6 : ∀ w ∈ wsX60, w ∈ wsX6_copyFrom := by decide +kernel
theorem mX6_copyFrom_0 : (Cond.fieldLink RX6 9 "Sleevehall$Table" "lives" "[I") ∈ wsX6_copyFrom := by decide +kernel
theorem mX6_copyFrom_1 : (Cond.fieldLink RX6 15 "Sleevehall$Table" "shields" "[I") ∈ wsX6_copyFrom := by decide +kernel
theorem mX6_copyFrom_2 : (Cond.fieldLink RX6 33 "Sleevehall$Table" "size" "I") ∈ wsX6_copyFrom := by decide +kernel
theorem mX6_copyFrom_3 : (Cond.fieldLink RX6 18 "Sleevehall$Table" "effects" "[I") ∈ wsX6_copyFrom := by decide +kernel
theorem mX6_copyFrom_4 : (Cond.fieldLink RX6 21 "Sleevehall$Table" "numbers" "[I") ∈ wsX6_copyFrom := by decide +kernel
theorem mX6_copyFrom_5 : (Cond.fieldLink RX6 24 "Sleevehall$Table" "players" "[I") ∈ wsX6_copyFrom := by decide +kernel
theorem mX6_copyFrom_6 : (Cond.fieldLink RX6 27 "Sleevehall$Table" "against" "[I") ∈ wsX6_copyFrom := by decide +kernel
abbrev rmX6_copyFrom : Room := { frames := 0, cells := 0, slots := 0, locals := 0 }
set_option maxHeartbeats 4000000 in
set_option maxRecDepth 100000 in
theorem kX6_copyFrom_40 {p : Program} {l : Launch} {e : Env} {s : State} {m : MethodId} {args : Array Value} {below : List Frame} {meth : Method} {c : Code} {dC : Nat → ClassId} {dI : Nat → Nat → Nat} {A : Nat → Prop} {cI cJ cZ cG : ClassId} {h h_lives h_shields h_effects h_numbers h_players h_against o1 o1_lives o1_shields o1_effects o1_numbers o1_players o1_against : Nat} {v_o1_size : Int32} {v_o1_lives : Nat → Int32} {v_o1_shields : Nat → Int32} {v_o1_effects : Nat → Int32} {v_o1_numbers : Nat → Int32} {v_o1_players : Nat → Int32} {v_o1_against : Nat → Int32} {n_size : Int32} {n_lives : Nat → Int32} {n_shields : Nat → Int32} {n_effects : Nat → Int32} {n_numbers : Nat → Int32} {n_players : Nat → Int32} {n_against : Nat → Int32} (C0 : wCX p s args m meth c cX6_copyFrom 3 none RX6 wsX6_copyFrom) (hA : ∀ q, s.heap.size ≤ q → A q) (hK : va_K (dC, dI) vwCl (tysW cI cJ cZ cG) s) : ∀ (n : Nat), ∀ (v_size : Int32) (v_lives : Nat → Int32) (v_shields : Nat → Int32) (v_effects : Nat → Int32) (v_numbers : Nat → Int32) (v_players : Nat → Int32) (v_against : Nat → Int32) (l2 : Int32) (H : Heap) (locs : List Loc) (ls : Array Slot), fX6_copyFrom_b40 v_o1_size v_o1_lives v_o1_shields v_o1_effects v_o1_numbers v_o1_players v_o1_against n v_size v_lives v_shields v_effects v_numbers v_players v_against l2 = some (n_size, n_lives, n_shields, n_effects, n_numbers, n_players, n_against) → va_P (dC, dI) vwCl (wcX6_copyFrom cI cJ cZ cG h h_lives h_shields h_effects h_numbers h_players h_against o1 o1_lives o1_shields o1_effects o1_numbers o1_players o1_against v_size v_lives v_shields v_effects v_numbers v_players v_against v_o1_size v_o1_lives v_o1_shields v_o1_effects v_o1_numbers v_o1_players v_o1_against) H → va_D A (wcX6_copyFrom cI cJ cZ cG h h_lives h_shields h_effects h_numbers h_players h_against o1 o1_lives o1_shields o1_effects o1_numbers o1_players o1_against v_size v_lives v_shields v_effects v_numbers v_players v_against v_o1_size v_o1_lives v_o1_shields v_o1_effects v_o1_numbers v_o1_players v_o1_against) → va_S A s.heap H locs → lv_has ls 3 [(0, .ref h), (1, .ref o1), (2, .int l2)] → W p l e rmX6_copyFrom s m args below meth c H locs 0 0 (MQ below (wQv (wcX6_copyFrom cI cJ cZ cG h h_lives h_shields h_effects h_numbers h_players h_against o1 o1_lives o1_shields o1_effects o1_numbers o1_players o1_against n_size n_lives n_shields n_effects n_numbers n_players n_against v_o1_size v_o1_lives v_o1_shields v_o1_effects v_o1_numbers v_o1_players v_o1_against) (dC, dI) A) args s 0 0 A) (F0 m 40 ls []) := by
  obtain ⟨hx, hb, hr, hml, hown, hts, hlocks⟩ := id C0
  intro n
  induction n with
  | zero =>
    intro v_size v_lives v_shields v_effects v_numbers v_players v_against l2 H locs ls hf hP hD hS hl
    rw [fX6_copyFrom_b40] at hf
    cases hf
  | succ n ih =>
    intro v_size v_lives v_shields v_effects v_numbers v_players v_against l2 H locs ls hf hP hD hS hl
    rw [fX6_copyFrom_b40] at hf
    refine lv_iload_n hx hb dX6_copyFrom_40 rfl (lv_at hl 2 rfl) ?_
    refine lv_aload_n hx hb dX6_copyFrom_41 rfl (lv_at hl 1 rfl) ?_
    refine va_get (D := (dC, dI)) (ci := 6) (v := .int v_o1_size) (C := RX6) (T := TX6) (N := 7) hx hb hts iX6_copyFrom_X6 hown hK hP 7 rfl rfl 6 (by decide) (hts _ mX6_copyFrom_2) (fun _ h9 => h9) rfl dX6_copyFrom_42 ?_
    refine lv_icmp_ge (tgt := 102) hx hb dX6_copyFrom_45 (by decide) (fun c_1 => ?_) (fun c_1 => ?_)
    · have hf := it_t hf c_1
      refine lv_aload_n hx hb dX6_copyFrom_102 rfl (lv_at hl 0 rfl) ?_
      refine lv_aload_n hx hb dX6_copyFrom_103 rfl (lv_at hl 1 rfl) ?_
      refine va_get (D := (dC, dI)) (ci := 6) (v := .int v_o1_size) (C := RX6) (T := TX6) (N := 7) hx hb hts iX6_copyFrom_X6 hown hK hP 7 rfl rfl 6 (by decide) (hts _ mX6_copyFrom_2) (fun _ h9 => h9) rfl dX6_copyFrom_104 ?_
      refine va_put (D := (dC, dI)) (ci := 6) (v := .int v_o1_size) (ty := .int) (C := RX6) (T := TX6) (N := 7) hx hb hts iX6_copyFrom_X6 tyX6 tyX6_ok nmX6 hown hK hP hD hS 0 rfl rfl 6 (by decide) (hts _ mX6_copyFrom_2) (fun _ h9 => h9) rfl (by decide +kernel) rfl rfl (Nat.le_of_ble_eq_true rfl) dX6_copyFrom_107 (fun H locs hP hD hS => ?_)
      have hP : va_P (dC, dI) vwCl (wcX6_copyFrom cI cJ cZ cG h h_lives h_shields h_effects h_numbers h_players h_against o1 o1_lives o1_shields o1_effects o1_numbers o1_players o1_against v_o1_size v_lives v_shields v_effects v_numbers v_players v_against v_o1_size v_o1_lives v_o1_shields v_o1_effects v_o1_numbers v_o1_players v_o1_against) H := hP
      have hD : va_D A (wcX6_copyFrom cI cJ cZ cG h h_lives h_shields h_effects h_numbers h_players h_against o1 o1_lives o1_shields o1_effects o1_numbers o1_players o1_against v_o1_size v_lives v_shields v_effects v_numbers v_players v_against v_o1_size v_o1_lives v_o1_shields v_o1_effects v_o1_numbers v_o1_players v_o1_against) := hD
      have hf : some (v_o1_size, v_lives, v_shields, v_effects, v_numbers, v_players, v_against) = some (n_size, n_lives, n_shields, n_effects, n_numbers, n_players, n_against) := hf
      cases hf
      exact w_vret hx hb hr hlocks hP hD hS dX6_copyFrom_110
    · have hf := it_f hf c_1
      refine lv_aload_n hx hb dX6_copyFrom_48 rfl (lv_at hl 0 rfl) ?_
      refine va_get (D := (dC, dI)) (ci := 6) (v := .ref h_effects) (C := RX6) (T := TX6) (N := 7) hx hb hts iX6_copyFrom_X6 hown hK hP 0 rfl rfl 2 (by decide) (hts _ mX6_copyFrom_3) (fun _ h9 => h9) rfl dX6_copyFrom_49 ?_
      refine lv_iload_n hx hb dX6_copyFrom_52 rfl (lv_at hl 2 rfl) ?_
      refine lv_aload_n hx hb dX6_copyFrom_53 rfl (lv_at hl 1 rfl) ?_
      refine va_get (D := (dC, dI)) (ci := 6) (v := .ref o1_effects) (C := RX6) (T := TX6) (N := 7) hx hb hts iX6_copyFrom_X6 hown hK hP 7 rfl rfl 2 (by decide) (hts _ mX6_copyFrom_3) (fun _ h9 => h9) rfl dX6_copyFrom_54 ?_
      refine lv_iload_n hx hb dX6_copyFrom_57 rfl (lv_at hl 2 rfl) ?_
      obtain ⟨hg_2, hf⟩ := ck_s hf
      refine va_iald (D := (dC, dI)) hx hb hK hP 10 0 rfl rfl (g_vp hg_2) dX6_copyFrom_58 ?_
      obtain ⟨x_3, ex_3, hf⟩ := nm_s hf
      refine w_eqi ex_3 ?_
      obtain ⟨hg_4, hf⟩ := ck_s hf
      refine va_iast (D := (dC, dI)) hx hb hK hP hD hS 3 0 rfl rfl (g_vp hg_4) dX6_copyFrom_59 (fun H locs hP hD hS => ?_)
      have hP : va_P (dC, dI) vwCl (wcX6_copyFrom cI cJ cZ cG h h_lives h_shields h_effects h_numbers h_players h_against o1 o1_lives o1_shields o1_effects o1_numbers o1_players o1_against v_size v_lives v_shields (upd v_effects l2.toNatClampNeg x_3) v_numbers v_players v_against v_o1_size v_o1_lives v_o1_shields v_o1_effects v_o1_numbers v_o1_players v_o1_against) H := hP
      have hD : va_D A (wcX6_copyFrom cI cJ cZ cG h h_lives h_shields h_effects h_numbers h_players h_against o1 o1_lives o1_shields o1_effects o1_numbers o1_players o1_against v_size v_lives v_shields (upd v_effects l2.toNatClampNeg x_3) v_numbers v_players v_against v_o1_size v_o1_lives v_o1_shields v_o1_effects v_o1_numbers v_o1_players v_o1_against) := hD
      refine lv_aload_n hx hb dX6_copyFrom_60 rfl (lv_at hl 0 rfl) ?_
      refine va_get (D := (dC, dI)) (ci := 6) (v := .ref h_numbers) (C := RX6) (T := TX6) (N := 7) hx hb hts iX6_copyFrom_X6 hown hK hP 0 rfl rfl 3 (by decide) (hts _ mX6_copyFrom_4) (fun _ h9 => h9) rfl dX6_copyFrom_61 ?_
      refine lv_iload_n hx hb dX6_copyFrom_64 rfl (lv_at hl 2 rfl) ?_
      refine lv_aload_n hx hb dX6_copyFrom_65 rfl (lv_at hl 1 rfl) ?_
      refine va_get (D := (dC, dI)) (ci := 6) (v := .ref o1_numbers) (C := RX6) (T := TX6) (N := 7) hx hb hts iX6_copyFrom_X6 hown hK hP 7 rfl rfl 3 (by decide) (hts _ mX6_copyFrom_4) (fun _ h9 => h9) rfl dX6_copyFrom_66 ?_
      refine lv_iload_n hx hb dX6_copyFrom_69 rfl (lv_at hl 2 rfl) ?_
      obtain ⟨hg_5, hf⟩ := ck_s hf
      refine va_iald (D := (dC, dI)) hx hb hK hP 11 0 rfl rfl (g_vp hg_5) dX6_copyFrom_70 ?_
      obtain ⟨x_6, ex_6, hf⟩ := nm_s hf
      refine w_eqi ex_6 ?_
      obtain ⟨hg_7, hf⟩ := ck_s hf
      refine va_iast (D := (dC, dI)) hx hb hK hP hD hS 4 0 rfl rfl (g_vp hg_7) dX6_copyFrom_71 (fun H locs hP hD hS => ?_)
      have hP : va_P (dC, dI) vwCl (wcX6_copyFrom cI cJ cZ cG h h_lives h_shields h_effects h_numbers h_players h_against o1 o1_lives o1_shields o1_effects o1_numbers o1_players o1_against v_size v_lives v_shields (upd v_effects l2.toNatClampNeg x_3) (upd v_numbers l2.toNatClampNeg x_6) v_players v_against v_o1_size v_o1_lives v_o1_shields v_o1_effects v_o1_numbers v_o1_players v_o1_against) H := hP
      have hD : va_D A (wcX6_copyFrom cI cJ cZ cG h h_lives h_shields h_effects h_numbers h_players h_against o1 o1_lives o1_shields o1_effects o1_numbers o1_players o1_against v_size v_lives v_shields (upd v_effects l2.toNatClampNeg x_3) (upd v_numbers l2.toNatClampNeg x_6) v_players v_against v_o1_size v_o1_lives v_o1_shields v_o1_effects v_o1_numbers v_o1_players v_o1_against) := hD
      refine lv_aload_n hx hb dX6_copyFrom_72 rfl (lv_at hl 0 rfl) ?_
      refine va_get (D := (dC, dI)) (ci := 6) (v := .ref h_players) (C := RX6) (T := TX6) (N := 7) hx hb hts iX6_copyFrom_X6 hown hK hP 0 rfl rfl 4 (by decide) (hts _ mX6_copyFrom_5) (fun _ h9 => h9) rfl dX6_copyFrom_73 ?_
      refine lv_iload_n hx hb dX6_copyFrom_76 rfl (lv_at hl 2 rfl) ?_
      refine lv_aload_n hx hb dX6_copyFrom_77 rfl (lv_at hl 1 rfl) ?_
      refine va_get (D := (dC, dI)) (ci := 6) (v := .ref o1_players) (C := RX6) (T := TX6) (N := 7) hx hb hts iX6_copyFrom_X6 hown hK hP 7 rfl rfl 4 (by decide) (hts _ mX6_copyFrom_5) (fun _ h9 => h9) rfl dX6_copyFrom_78 ?_
      refine lv_iload_n hx hb dX6_copyFrom_81 rfl (lv_at hl 2 rfl) ?_
      obtain ⟨hg_8, hf⟩ := ck_s hf
      refine va_iald (D := (dC, dI)) hx hb hK hP 12 0 rfl rfl (g_vp hg_8) dX6_copyFrom_82 ?_
      obtain ⟨x_9, ex_9, hf⟩ := nm_s hf
      refine w_eqi ex_9 ?_
      obtain ⟨hg_10, hf⟩ := ck_s hf
      refine va_iast (D := (dC, dI)) hx hb hK hP hD hS 5 0 rfl rfl (g_vp hg_10) dX6_copyFrom_83 (fun H locs hP hD hS => ?_)
      have hP : va_P (dC, dI) vwCl (wcX6_copyFrom cI cJ cZ cG h h_lives h_shields h_effects h_numbers h_players h_against o1 o1_lives o1_shields o1_effects o1_numbers o1_players o1_against v_size v_lives v_shields (upd v_effects l2.toNatClampNeg x_3) (upd v_numbers l2.toNatClampNeg x_6) (upd v_players l2.toNatClampNeg x_9) v_against v_o1_size v_o1_lives v_o1_shields v_o1_effects v_o1_numbers v_o1_players v_o1_against) H := hP
      have hD : va_D A (wcX6_copyFrom cI cJ cZ cG h h_lives h_shields h_effects h_numbers h_players h_against o1 o1_lives o1_shields o1_effects o1_numbers o1_players o1_against v_size v_lives v_shields (upd v_effects l2.toNatClampNeg x_3) (upd v_numbers l2.toNatClampNeg x_6) (upd v_players l2.toNatClampNeg x_9) v_against v_o1_size v_o1_lives v_o1_shields v_o1_effects v_o1_numbers v_o1_players v_o1_against) := hD
      refine lv_aload_n hx hb dX6_copyFrom_84 rfl (lv_at hl 0 rfl) ?_
      refine va_get (D := (dC, dI)) (ci := 6) (v := .ref h_against) (C := RX6) (T := TX6) (N := 7) hx hb hts iX6_copyFrom_X6 hown hK hP 0 rfl rfl 5 (by decide) (hts _ mX6_copyFrom_6) (fun _ h9 => h9) rfl dX6_copyFrom_85 ?_
      refine lv_iload_n hx hb dX6_copyFrom_88 rfl (lv_at hl 2 rfl) ?_
      refine lv_aload_n hx hb dX6_copyFrom_89 rfl (lv_at hl 1 rfl) ?_
      refine va_get (D := (dC, dI)) (ci := 6) (v := .ref o1_against) (C := RX6) (T := TX6) (N := 7) hx hb hts iX6_copyFrom_X6 hown hK hP 7 rfl rfl 5 (by decide) (hts _ mX6_copyFrom_6) (fun _ h9 => h9) rfl dX6_copyFrom_90 ?_
      refine lv_iload_n hx hb dX6_copyFrom_93 rfl (lv_at hl 2 rfl) ?_
      obtain ⟨hg_11, hf⟩ := ck_s hf
      refine va_iald (D := (dC, dI)) hx hb hK hP 13 0 rfl rfl (g_vp hg_11) dX6_copyFrom_94 ?_
      obtain ⟨x_12, ex_12, hf⟩ := nm_s hf
      refine w_eqi ex_12 ?_
      obtain ⟨hg_13, hf⟩ := ck_s hf
      refine va_iast (D := (dC, dI)) hx hb hK hP hD hS 6 0 rfl rfl (g_vp hg_13) dX6_copyFrom_95 (fun H locs hP hD hS => ?_)
      have hP : va_P (dC, dI) vwCl (wcX6_copyFrom cI cJ cZ cG h h_lives h_shields h_effects h_numbers h_players h_against o1 o1_lives o1_shields o1_effects o1_numbers o1_players o1_against v_size v_lives v_shields (upd v_effects l2.toNatClampNeg x_3) (upd v_numbers l2.toNatClampNeg x_6) (upd v_players l2.toNatClampNeg x_9) (upd v_against l2.toNatClampNeg x_12) v_o1_size v_o1_lives v_o1_shields v_o1_effects v_o1_numbers v_o1_players v_o1_against) H := hP
      have hD : va_D A (wcX6_copyFrom cI cJ cZ cG h h_lives h_shields h_effects h_numbers h_players h_against o1 o1_lives o1_shields o1_effects o1_numbers o1_players o1_against v_size v_lives v_shields (upd v_effects l2.toNatClampNeg x_3) (upd v_numbers l2.toNatClampNeg x_6) (upd v_players l2.toNatClampNeg x_9) (upd v_against l2.toNatClampNeg x_12) v_o1_size v_o1_lives v_o1_shields v_o1_effects v_o1_numbers v_o1_players v_o1_against) := hD
      obtain ⟨x_14, ex_14, hf⟩ := nm_s hf
      refine lv_iinc (v := x_14) (lv' := [(2, .int x_14), (0, .ref h), (1, .ref o1)]) hx hb dX6_copyFrom_96 hl (k := 2) rfl (by rw [ex_14]; rfl) (by decide) rfl (fun ls hl => ?_)
      refine lv_goto (tgt := 40) hx hb dX6_copyFrom_99 (by decide) ?_
      have hf : (fX6_copyFrom_b40 v_o1_size v_o1_lives v_o1_shields v_o1_effects v_o1_numbers v_o1_players v_o1_against n) v_size v_lives v_shields (upd v_effects l2.toNatClampNeg x_3) (upd v_numbers l2.toNatClampNeg x_6) (upd v_players l2.toNatClampNeg x_9) (upd v_against l2.toNatClampNeg x_12) x_14 = some (n_size, n_lives, n_shields, n_effects, n_numbers, n_players, n_against) := hf
      exact ih v_size v_lives v_shields (upd v_effects l2.toNatClampNeg x_3) (upd v_numbers l2.toNatClampNeg x_6) (upd v_players l2.toNatClampNeg x_9) (upd v_against l2.toNatClampNeg x_12) x_14 _ _ _ hf hP hD hS (lv_sub hl [1, 2, 0] rfl)
set_option maxHeartbeats 4000000 in
set_option maxRecDepth 100000 in
theorem kX6_copyFrom_2 {p : Program} {l : Launch} {e : Env} {s : State} {m : MethodId} {args : Array Value} {below : List Frame} {meth : Method} {c : Code} {dC : Nat → ClassId} {dI : Nat → Nat → Nat} {A : Nat → Prop} {cI cJ cZ cG : ClassId} {h h_lives h_shields h_effects h_numbers h_players h_against o1 o1_lives o1_shields o1_effects o1_numbers o1_players o1_against : Nat} {v_o1_size : Int32} {v_o1_lives : Nat → Int32} {v_o1_shields : Nat → Int32} {v_o1_effects : Nat → Int32} {v_o1_numbers : Nat → Int32} {v_o1_players : Nat → Int32} {v_o1_against : Nat → Int32} {n_size : Int32} {n_lives : Nat → Int32} {n_shields : Nat → Int32} {n_effects : Nat → Int32} {n_numbers : Nat → Int32} {n_players : Nat → Int32} {n_against : Nat → Int32} (C0 : wCX p s args m meth c cX6_copyFrom 3 none RX6 wsX6_copyFrom) (hA : ∀ q, s.heap.size ≤ q → A q) (hK : va_K (dC, dI) vwCl (tysW cI cJ cZ cG) s) : ∀ (n : Nat), ∀ (v_size : Int32) (v_lives : Nat → Int32) (v_shields : Nat → Int32) (v_effects : Nat → Int32) (v_numbers : Nat → Int32) (v_players : Nat → Int32) (v_against : Nat → Int32) (l2 : Int32) (H : Heap) (locs : List Loc) (ls : Array Slot), fX6_copyFrom_b2 v_o1_size v_o1_lives v_o1_shields v_o1_effects v_o1_numbers v_o1_players v_o1_against n v_size v_lives v_shields v_effects v_numbers v_players v_against l2 = some (n_size, n_lives, n_shields, n_effects, n_numbers, n_players, n_against) → va_P (dC, dI) vwCl (wcX6_copyFrom cI cJ cZ cG h h_lives h_shields h_effects h_numbers h_players h_against o1 o1_lives o1_shields o1_effects o1_numbers o1_players o1_against v_size v_lives v_shields v_effects v_numbers v_players v_against v_o1_size v_o1_lives v_o1_shields v_o1_effects v_o1_numbers v_o1_players v_o1_against) H → va_D A (wcX6_copyFrom cI cJ cZ cG h h_lives h_shields h_effects h_numbers h_players h_against o1 o1_lives o1_shields o1_effects o1_numbers o1_players o1_against v_size v_lives v_shields v_effects v_numbers v_players v_against v_o1_size v_o1_lives v_o1_shields v_o1_effects v_o1_numbers v_o1_players v_o1_against) → va_S A s.heap H locs → lv_has ls 3 [(0, .ref h), (1, .ref o1), (2, .int l2)] → W p l e rmX6_copyFrom s m args below meth c H locs 0 0 (MQ below (wQv (wcX6_copyFrom cI cJ cZ cG h h_lives h_shields h_effects h_numbers h_players h_against o1 o1_lives o1_shields o1_effects o1_numbers o1_players o1_against n_size n_lives n_shields n_effects n_numbers n_players n_against v_o1_size v_o1_lives v_o1_shields v_o1_effects v_o1_numbers v_o1_players v_o1_against) (dC, dI) A) args s 0 0 A) (F0 m 2 ls []) := by
  obtain ⟨hx, hb, hr, hml, hown, hts, hlocks⟩ := id C0
  intro n
  induction n with
  | zero =>
    intro v_size v_lives v_shields v_effects v_numbers v_players v_against l2 H locs ls hf hP hD hS hl
    rw [fX6_copyFrom_b2] at hf
    cases hf
  | succ n ih =>
    intro v_size v_lives v_shields v_effects v_numbers v_players v_against l2 H locs ls hf hP hD hS hl
    rw [fX6_copyFrom_b2] at hf
    refine lv_iload_n hx hb dX6_copyFrom_2 rfl (lv_at hl 2 rfl) ?_
    refine lv_bipush (v := 6) hx hb dX6_copyFrom_3 (by decide) ?_
    refine lv_icmp_ge (tgt := 38) hx hb dX6_copyFrom_5 (by decide) (fun c_1 => ?_) (fun c_1 => ?_)
    · have hf := it_t hf c_1
      refine lv_iconst (v := 0) hx hb dX6_copyFrom_38 (by decide) ?_
      refine lv_istore_n (lv' := [(2, .int 0), (0, .ref h), (1, .ref o1)]) hx hb dX6_copyFrom_39 rfl hl (by decide) rfl (fun ls hl => ?_)
      have hf : fX6_copyFrom_b40 v_o1_size v_o1_lives v_o1_shields v_o1_effects v_o1_numbers v_o1_players v_o1_against 70 v_size v_lives v_shields v_effects v_numbers v_players v_against 0 = some (n_size, n_lives, n_shields, n_effects, n_numbers, n_players, n_against) := hf
      exact kX6_copyFrom_40 C0 hA hK 70 v_size v_lives v_shields v_effects v_numbers v_players v_against 0 _ _ _ hf hP hD hS (lv_sub hl [1, 2, 0] rfl)
    · have hf := it_f hf c_1
      refine lv_aload_n hx hb dX6_copyFrom_8 rfl (lv_at hl 0 rfl) ?_
      refine va_get (D := (dC, dI)) (ci := 6) (v := .ref h_lives) (C := RX6) (T := TX6) (N := 7) hx hb hts iX6_copyFrom_X6 hown hK hP 0 rfl rfl 0 (by decide) (hts _ mX6_copyFrom_0) (fun _ h9 => h9) rfl dX6_copyFrom_9 ?_
      refine lv_iload_n hx hb dX6_copyFrom_12 rfl (lv_at hl 2 rfl) ?_
      refine lv_aload_n hx hb dX6_copyFrom_13 rfl (lv_at hl 1 rfl) ?_
      refine va_get (D := (dC, dI)) (ci := 6) (v := .ref o1_lives) (C := RX6) (T := TX6) (N := 7) hx hb hts iX6_copyFrom_X6 hown hK hP 7 rfl rfl 0 (by decide) (hts _ mX6_copyFrom_0) (fun _ h9 => h9) rfl dX6_copyFrom_14 ?_
      refine lv_iload_n hx hb dX6_copyFrom_17 rfl (lv_at hl 2 rfl) ?_
      obtain ⟨hg_2, hf⟩ := ck_s hf
      refine va_iald (D := (dC, dI)) hx hb hK hP 8 0 rfl rfl (g_vp hg_2) dX6_copyFrom_18 ?_
      obtain ⟨x_3, ex_3, hf⟩ := nm_s hf
      refine w_eqi ex_3 ?_
      obtain ⟨hg_4, hf⟩ := ck_s hf
      refine va_iast (D := (dC, dI)) hx hb hK hP hD hS 1 0 rfl rfl (g_vp hg_4) dX6_copyFrom_19 (fun H locs hP hD hS => ?_)
      have hP : va_P (dC, dI) vwCl (wcX6_copyFrom cI cJ cZ cG h h_lives h_shields h_effects h_numbers h_players h_against o1 o1_lives o1_shields o1_effects o1_numbers o1_players o1_against v_size (upd v_lives l2.toNatClampNeg x_3) v_shields v_effects v_numbers v_players v_against v_o1_size v_o1_lives v_o1_shields v_o1_effects v_o1_numbers v_o1_players v_o1_against) H := hP
      have hD : va_D A (wcX6_copyFrom cI cJ cZ cG h h_lives h_shields h_effects h_numbers h_players h_against o1 o1_lives o1_shields o1_effects o1_numbers o1_players o1_against v_size (upd v_lives l2.toNatClampNeg x_3) v_shields v_effects v_numbers v_players v_against v_o1_size v_o1_lives v_o1_shields v_o1_effects v_o1_numbers v_o1_players v_o1_against) := hD
      refine lv_aload_n hx hb dX6_copyFrom_20 rfl (lv_at hl 0 rfl) ?_
      refine va_get (D := (dC, dI)) (ci := 6) (v := .ref h_shields) (C := RX6) (T := TX6) (N := 7) hx hb hts iX6_copyFrom_X6 hown hK hP 0 rfl rfl 1 (by decide) (hts _ mX6_copyFrom_1) (fun _ h9 => h9) rfl dX6_copyFrom_21 ?_
      refine lv_iload_n hx hb dX6_copyFrom_24 rfl (lv_at hl 2 rfl) ?_
      refine lv_aload_n hx hb dX6_copyFrom_25 rfl (lv_at hl 1 rfl) ?_
      refine va_get (D := (dC, dI)) (ci := 6) (v := .ref o1_shields) (C := RX6) (T := TX6) (N := 7) hx hb hts iX6_copyFrom_X6 hown hK hP 7 rfl rfl 1 (by decide) (hts _ mX6_copyFrom_1) (fun _ h9 => h9) rfl dX6_copyFrom_26 ?_
      refine lv_iload_n hx hb dX6_copyFrom_29 rfl (lv_at hl 2 rfl) ?_
      obtain ⟨hg_5, hf⟩ := ck_s hf
      refine va_iald (D := (dC, dI)) hx hb hK hP 9 0 rfl rfl (g_vp hg_5) dX6_copyFrom_30 ?_
      obtain ⟨x_6, ex_6, hf⟩ := nm_s hf
      refine w_eqi ex_6 ?_
      obtain ⟨hg_7, hf⟩ := ck_s hf
      refine va_iast (D := (dC, dI)) hx hb hK hP hD hS 2 0 rfl rfl (g_vp hg_7) dX6_copyFrom_31 (fun H locs hP hD hS => ?_)
      have hP : va_P (dC, dI) vwCl (wcX6_copyFrom cI cJ cZ cG h h_lives h_shields h_effects h_numbers h_players h_against o1 o1_lives o1_shields o1_effects o1_numbers o1_players o1_against v_size (upd v_lives l2.toNatClampNeg x_3) (upd v_shields l2.toNatClampNeg x_6) v_effects v_numbers v_players v_against v_o1_size v_o1_lives v_o1_shields v_o1_effects v_o1_numbers v_o1_players v_o1_against) H := hP
      have hD : va_D A (wcX6_copyFrom cI cJ cZ cG h h_lives h_shields h_effects h_numbers h_players h_against o1 o1_lives o1_shields o1_effects o1_numbers o1_players o1_against v_size (upd v_lives l2.toNatClampNeg x_3) (upd v_shields l2.toNatClampNeg x_6) v_effects v_numbers v_players v_against v_o1_size v_o1_lives v_o1_shields v_o1_effects v_o1_numbers v_o1_players v_o1_against) := hD
      obtain ⟨x_8, ex_8, hf⟩ := nm_s hf
      refine lv_iinc (v := x_8) (lv' := [(2, .int x_8), (0, .ref h), (1, .ref o1)]) hx hb dX6_copyFrom_32 hl (k := 2) rfl (by rw [ex_8]; rfl) (by decide) rfl (fun ls hl => ?_)
      refine lv_goto (tgt := 2) hx hb dX6_copyFrom_35 (by decide) ?_
      have hf : (fX6_copyFrom_b2 v_o1_size v_o1_lives v_o1_shields v_o1_effects v_o1_numbers v_o1_players v_o1_against n) v_size (upd v_lives l2.toNatClampNeg x_3) (upd v_shields l2.toNatClampNeg x_6) v_effects v_numbers v_players v_against x_8 = some (n_size, n_lives, n_shields, n_effects, n_numbers, n_players, n_against) := hf
      exact ih v_size (upd v_lives l2.toNatClampNeg x_3) (upd v_shields l2.toNatClampNeg x_6) v_effects v_numbers v_players v_against x_8 _ _ _ hf hP hD hS (lv_sub hl [1, 2, 0] rfl)
set_option maxHeartbeats 4000000 in
set_option maxRecDepth 100000 in
theorem oX6_copyFrom (l : Launch) (dC : Nat → ClassId) (dI : Nat → Nat → Nat) (cI cJ cZ cG : ClassId) (h h_lives h_shields h_effects h_numbers h_players h_against o1 o1_lives o1_shields o1_effects o1_numbers o1_players o1_against : Nat) (v_size : Int32) (v_lives : Nat → Int32) (v_shields : Nat → Int32) (v_effects : Nat → Int32) (v_numbers : Nat → Int32) (v_players : Nat → Int32) (v_against : Nat → Int32) (v_o1_size : Int32) (v_o1_lives : Nat → Int32) (v_o1_shields : Nat → Int32) (v_o1_effects : Nat → Int32) (v_o1_numbers : Nat → Int32) (v_o1_players : Nat → Int32) (v_o1_against : Nat → Int32) (sz : Nat) (n_size : Int32) (n_lives : Nat → Int32) (n_shields : Nat → Int32) (n_effects : Nat → Int32) (n_numbers : Nat → Int32) (n_players : Nat → Int32) (n_against : Nat → Int32) (hf : fX6_copyFrom v_size v_lives v_shields v_effects v_numbers v_players v_against v_o1_size v_o1_lives v_o1_shields v_o1_effects v_o1_numbers v_o1_players v_o1_against = some (n_size, n_lives, n_shields, n_effects, n_numbers, n_players, n_against)) : Met l yX6_copyFrom wsX6_copyFrom rmX6_copyFrom (wPc [.ref h, .ref o1] (dC, dI) (tysW cI cJ cZ cG) sz (wcX6_copyFrom cI cJ cZ cG h h_lives h_shields h_effects h_numbers h_players h_against o1 o1_lives o1_shields o1_effects o1_numbers o1_players o1_against v_size v_lives v_shields v_effects v_numbers v_players v_against v_o1_size v_o1_lives v_o1_shields v_o1_effects v_o1_numbers v_o1_players v_o1_against)) (wQv (wcX6_copyFrom cI cJ cZ cG h h_lives h_shields h_effects h_numbers h_players h_against o1 o1_lives o1_shields o1_effects o1_numbers o1_players o1_against n_size n_lives n_shields n_effects n_numbers n_players n_against v_o1_size v_o1_lives v_o1_shields v_o1_effects v_o1_numbers v_o1_players v_o1_against) (dC, dI) (va_A (wcX6_copyFrom cI cJ cZ cG h h_lives h_shields h_effects h_numbers h_players h_against o1 o1_lives o1_shields o1_effects o1_numbers o1_players o1_against v_size v_lives v_shields v_effects v_numbers v_players v_against v_o1_size v_o1_lives v_o1_shields v_o1_effects v_o1_numbers v_o1_players v_o1_against) sz)) 0 0 (va_A (wcX6_copyFrom cI cJ cZ cG h h_lives h_shields h_effects h_numbers h_players h_against o1 o1_lives o1_shields o1_effects o1_numbers o1_players o1_against v_size v_lives v_shields v_effects v_numbers v_players v_against v_o1_size v_o1_lives v_o1_shields v_o1_effects v_o1_numbers v_o1_players v_o1_against) sz) := by
  refine Met.ofW (cc := cX6_copyFrom) (maxL := 3) (ret := none) (by decide) rfl ?_
  intro p e s m args below meth c s₁ B hml hv
  obtain ⟨rfl, hsz, hP, hK, hD0⟩ := hv
  have hx := B.exec
  have hb := B.bytes
  have hr := B.returns
  have hts := atoms_spec (ws := wsX6_copyFrom) B.pre
  have hown : s.vm.findClass RX6 = some m.cls := findClass_of_methodNamed B.named
  have hlocks := B.notSynchronized
  subst hsz
  have hD := hD0.self (sz := s.heap.size)
  generalize hAe : va_A (wcX6_copyFrom cI cJ cZ cG h h_lives h_shields h_effects h_numbers h_players h_against o1 o1_lives o1_shields o1_effects o1_numbers o1_players o1_against v_size v_lives v_shields v_effects v_numbers v_players v_against v_o1_size v_o1_lives v_o1_shields v_o1_effects v_o1_numbers v_o1_players v_o1_against) s.heap.size = A at hD ⊢
  have hA : ∀ q : Nat, s.heap.size ≤ q → A q := fun q h => by rw [← hAe]; exact Or.inr h
  have hS : va_S A s.heap s.heap [] := va_S.rf
  have hP : va_P (dC, dI) vwCl (wcX6_copyFrom cI cJ cZ cG h h_lives h_shields h_effects h_numbers h_players h_against o1 o1_lives o1_shields o1_effects o1_numbers o1_players o1_against v_size v_lives v_shields v_effects v_numbers v_players v_against v_o1_size v_o1_lives v_o1_shields v_o1_effects v_o1_numbers v_o1_players v_o1_against) s.heap := hP
  have hl := lv_entry ([.ref h, .ref o1]) (n := 3) (Nat.le_of_ble_eq_true rfl)
  rw [lg_entry_eq]
  generalize (lg_sl ([.ref h, .ref o1]) ++ List.replicate (3 - (lg_sl ([.ref h, .ref o1])).length) Slot.unset).toArray = ls at hl ⊢
  have hl : lv_has ls 3 [(0, .ref h), (1, .ref o1)] := hl
  generalize hH : s.heap = H at hP hS ⊢
  have hS : va_S A s.heap H [] := by rw [hH]; exact hS
  have C0 : wCX p s #[.ref h, .ref o1] m meth c cX6_copyFrom 3 none RX6 wsX6_copyFrom := ⟨hx, hb, hr, hml, hown, hts, hlocks⟩
  show W p l e rmX6_copyFrom s m #[.ref h, .ref o1] below meth c H [] 0 0 (MQ below (wQv (wcX6_copyFrom cI cJ cZ cG h h_lives h_shields h_effects h_numbers h_players h_against o1 o1_lives o1_shields o1_effects o1_numbers o1_players o1_against n_size n_lives n_shields n_effects n_numbers n_players n_against v_o1_size v_o1_lives v_o1_shields v_o1_effects v_o1_numbers v_o1_players v_o1_against) (dC, dI) A) #[.ref h, .ref o1] s 0 0 A) (F0 m 0 ls [])
  unfold fX6_copyFrom at hf
  refine lv_iconst (v := 0) hx hb dX6_copyFrom_0 (by decide) ?_
  refine lv_istore_n (lv' := [(2, .int 0), (0, .ref h), (1, .ref o1)]) hx hb dX6_copyFrom_1 rfl hl (by decide) rfl (fun ls hl => ?_)
  have hf : fX6_copyFrom_b2 v_o1_size v_o1_lives v_o1_shields v_o1_effects v_o1_numbers v_o1_players v_o1_against 70 v_size v_lives v_shields v_effects v_numbers v_players v_against 0 = some (n_size, n_lives, n_shields, n_effects, n_numbers, n_players, n_against) := hf
  exact kX6_copyFrom_2 C0 hA hK 70 v_size v_lives v_shields v_effects v_numbers v_players v_against 0 _ _ _ hf hP hD hS (lv_sub hl [1, 2, 0] rfl)
abbrev wcX6_lay (cI cJ cZ cG : ClassId) (h h_lives h_shields h_effects h_numbers h_players h_against : Nat) (v_size : Int32) (v_effects : Nat → Int32) (v_numbers : Nat → Int32) (v_players : Nat → Int32) (v_against : Nat → Int32) : va_W := [(h, .inr (6, [.ref h_lives, .ref h_shields, .ref h_effects, .ref h_numbers, .ref h_players, .ref h_against, .int v_size])), (h_effects, .inl (cI, 6, .inl v_effects)), (h_numbers, .inl (cI, 6, .inl v_numbers)), (h_players, .inl (cI, 6, .inl v_players)), (h_against, .inl (cI, 6, .inl v_against))]
theorem iX6_lay_X6 : ∀ w ∈ wsX60, w ∈ wsX6_lay := by decide +kernel
theorem mX6_lay_0 : (Cond.fieldLink RX6 33 "Sleevehall$Table" "size" "I") ∈ wsX6_lay := by decide +kernel
theorem mX6_lay_1 : (Cond.fieldLink RX6 18 "Sleevehall$Table" "effects" "[I") ∈ wsX6_lay := by decide +kernel
theorem mX6_lay_2 : (Cond.fieldLink RX6 21 "Sleevehall$Table" "numbers" "[I") ∈ wsX6_lay := by decide +kernel
theorem mX6_lay_3 : (Cond.fieldLink RX6 24 "Sleevehall$Table" "players" "[I") ∈ wsX6_lay := by decide +kernel
theorem mX6_lay_4 : (Cond.fieldLink RX6 27 "Sleevehall$Table" "against" "[I") ∈ wsX6_lay := by decide +kernel
abbrev rmX6_lay : Room := { frames := 0, cells := 0, slots := 0, locals := 0 }
set_option maxHeartbeats 4000000 in
set_option maxRecDepth 100000 in
theorem oX6_lay (l : Launch) (dC : Nat → ClassId) (dI : Nat → Nat → Nat) (cI cJ cZ cG : ClassId) (h h_lives h_shields h_effects h_numbers h_players h_against : Nat) (v_size : Int32) (v_effects : Nat → Int32) (v_numbers : Nat → Int32) (v_players : Nat → Int32) (v_against : Nat → Int32) (sz : Nat) (p1 : Int32) (p2 : Int32) (p3 : Int32) (p4 : Int32) (n_size : Int32) (n_effects : Nat → Int32) (n_numbers : Nat → Int32) (n_players : Nat → Int32) (n_against : Nat → Int32) (hf : fX6_lay v_size v_effects v_numbers v_players v_against p1 p2 p3 p4 = some (n_size, n_effects, n_numbers, n_players, n_against)) : Met l yX6_lay wsX6_lay rmX6_lay (wPc [.ref h, .int p1, .int p2, .int p3, .int p4] (dC, dI) (tysW cI cJ cZ cG) sz (wcX6_lay cI cJ cZ cG h h_lives h_shields h_effects h_numbers h_players h_against v_size v_effects v_numbers v_players v_against)) (wQv (wcX6_lay cI cJ cZ cG h h_lives h_shields h_effects h_numbers h_players h_against n_size n_effects n_numbers n_players n_against) (dC, dI) (va_A (wcX6_lay cI cJ cZ cG h h_lives h_shields h_effects h_numbers h_players h_against v_size v_effects v_numbers v_players v_against) sz)) 0 0 (va_A (wcX6_lay cI cJ cZ cG h h_lives h_shields h_effects h_numbers h_players h_against v_size v_effects v_numbers v_players v_against) sz) := by
  refine Met.ofW (cc := cX6_lay) (maxL := 5) (ret := none) (by decide) rfl ?_
  intro p e s m args below meth c s₁ B hml hv
  obtain ⟨rfl, hsz, hP, hK, hD0⟩ := hv
  have hx := B.exec
  have hb := B.bytes
  have hr := B.returns
  have hts := atoms_spec (ws := wsX6_lay) B.pre
  have hown : s.vm.findClass RX6 = some m.cls := findClass_of_methodNamed B.named
  have hlocks := B.notSynchronized
  subst hsz
  have hD := hD0.self (sz := s.heap.size)
  generalize hAe : va_A (wcX6_lay cI cJ cZ cG h h_lives h_shields h_effects h_numbers h_players h_against v_size v_effects v_numbers v_players v_against) s.heap.size = A at hD ⊢
  have hA : ∀ q : Nat, s.heap.size ≤ q → A q := fun q h => by rw [← hAe]; exact Or.inr h
  have hS : va_S A s.heap s.heap [] := va_S.rf
  have hP : va_P (dC, dI) vwCl (wcX6_lay cI cJ cZ cG h h_lives h_shields h_effects h_numbers h_players h_against v_size v_effects v_numbers v_players v_against) s.heap := hP
  have hl := lv_entry ([.ref h, .int p1, .int p2, .int p3, .int p4]) (n := 5) (Nat.le_of_ble_eq_true rfl)
  rw [lg_entry_eq]
  generalize (lg_sl ([.ref h, .int p1, .int p2, .int p3, .int p4]) ++ List.replicate (5 - (lg_sl ([.ref h, .int p1, .int p2, .int p3, .int p4])).length) Slot.unset).toArray = ls at hl ⊢
  have hl : lv_has ls 5 [(0, .ref h), (1, .int p1), (2, .int p2), (3, .int p3), (4, .int p4)] := hl
  generalize hH : s.heap = H at hP hS ⊢
  have hS : va_S A s.heap H [] := by rw [hH]; exact hS
  have C0 : wCX p s #[.ref h, .int p1, .int p2, .int p3, .int p4] m meth c cX6_lay 5 none RX6 wsX6_lay := ⟨hx, hb, hr, hml, hown, hts, hlocks⟩
  show W p l e rmX6_lay s m #[.ref h, .int p1, .int p2, .int p3, .int p4] below meth c H [] 0 0 (MQ below (wQv (wcX6_lay cI cJ cZ cG h h_lives h_shields h_effects h_numbers h_players h_against n_size n_effects n_numbers n_players n_against) (dC, dI) A) #[.ref h, .int p1, .int p2, .int p3, .int p4] s 0 0 A) (F0 m 0 ls [])
  unfold fX6_lay at hf
  refine lv_aload_n hx hb dX6_lay_0 rfl (lv_at hl 0 rfl) ?_
  refine va_get (D := (dC, dI)) (ci := 6) (v := .int v_size) (C := RX6) (T := TX6) (N := 7) hx hb hts iX6_lay_X6 hown hK hP 0 rfl rfl 6 (by decide) (hts _ mX6_lay_0) (fun _ h9 => h9) rfl dX6_lay_1 ?_
  refine lv_bipush (v := 6) hx hb dX6_lay_4 (by decide) ?_
  refine lv_icmp_lt (tgt := 10) hx hb dX6_lay_6 (by decide) (fun c_1 => ?_) (fun c_1 => ?_)
  · have hf := it_t hf c_1
    refine lv_aload_n hx hb dX6_lay_10 rfl (lv_at hl 0 rfl) ?_
    refine va_get (D := (dC, dI)) (ci := 6) (v := .ref h_effects) (C := RX6) (T := TX6) (N := 7) hx hb hts iX6_lay_X6 hown hK hP 0 rfl rfl 2 (by decide) (hts _ mX6_lay_1) (fun _ h9 => h9) rfl dX6_lay_11 ?_
    refine lv_aload_n hx hb dX6_lay_14 rfl (lv_at hl 0 rfl) ?_
    refine va_get (D := (dC, dI)) (ci := 6) (v := .int v_size) (C := RX6) (T := TX6) (N := 7) hx hb hts iX6_lay_X6 hown hK hP 0 rfl rfl 6 (by decide) (hts _ mX6_lay_0) (fun _ h9 => h9) rfl dX6_lay_15 ?_
    refine lv_iload_n hx hb dX6_lay_18 rfl (lv_at hl 1 rfl) ?_
    obtain ⟨hg_2, hf⟩ := ck_s hf
    refine va_iast (D := (dC, dI)) hx hb hK hP hD hS 1 0 rfl rfl (g_vp hg_2) dX6_lay_19 (fun H locs hP hD hS => ?_)
    have hP : va_P (dC, dI) vwCl (wcX6_lay cI cJ cZ cG h h_lives h_shields h_effects h_numbers h_players h_against v_size (upd v_effects v_size.toNatClampNeg p1) v_numbers v_players v_against) H := hP
    have hD : va_D A (wcX6_lay cI cJ cZ cG h h_lives h_shields h_effects h_numbers h_players h_against v_size (upd v_effects v_size.toNatClampNeg p1) v_numbers v_players v_against) := hD
    refine lv_aload_n hx hb dX6_lay_20 rfl (lv_at hl 0 rfl) ?_
    refine va_get (D := (dC, dI)) (ci := 6) (v := .ref h_numbers) (C := RX6) (T := TX6) (N := 7) hx hb hts iX6_lay_X6 hown hK hP 0 rfl rfl 3 (by decide) (hts _ mX6_lay_2) (fun _ h9 => h9) rfl dX6_lay_21 ?_
    refine lv_aload_n hx hb dX6_lay_24 rfl (lv_at hl 0 rfl) ?_
    refine va_get (D := (dC, dI)) (ci := 6) (v := .int v_size) (C := RX6) (T := TX6) (N := 7) hx hb hts iX6_lay_X6 hown hK hP 0 rfl rfl 6 (by decide) (hts _ mX6_lay_0) (fun _ h9 => h9) rfl dX6_lay_25 ?_
    refine lv_iload_n hx hb dX6_lay_28 rfl (lv_at hl 2 rfl) ?_
    obtain ⟨hg_3, hf⟩ := ck_s hf
    refine va_iast (D := (dC, dI)) hx hb hK hP hD hS 2 0 rfl rfl (g_vp hg_3) dX6_lay_29 (fun H locs hP hD hS => ?_)
    have hP : va_P (dC, dI) vwCl (wcX6_lay cI cJ cZ cG h h_lives h_shields h_effects h_numbers h_players h_against v_size (upd v_effects v_size.toNatClampNeg p1) (upd v_numbers v_size.toNatClampNeg p2) v_players v_against) H := hP
    have hD : va_D A (wcX6_lay cI cJ cZ cG h h_lives h_shields h_effects h_numbers h_players h_against v_size (upd v_effects v_size.toNatClampNeg p1) (upd v_numbers v_size.toNatClampNeg p2) v_players v_against) := hD
    refine lv_aload_n hx hb dX6_lay_30 rfl (lv_at hl 0 rfl) ?_
    refine va_get (D := (dC, dI)) (ci := 6) (v := .ref h_players) (C := RX6) (T := TX6) (N := 7) hx hb hts iX6_lay_X6 hown hK hP 0 rfl rfl 4 (by decide) (hts _ mX6_lay_3) (fun _ h9 => h9) rfl dX6_lay_31 ?_
    refine lv_aload_n hx hb dX6_lay_34 rfl (lv_at hl 0 rfl) ?_
    refine va_get (D := (dC, dI)) (ci := 6) (v := .int v_size) (C := RX6) (T := TX6) (N := 7) hx hb hts iX6_lay_X6 hown hK hP 0 rfl rfl 6 (by decide) (hts _ mX6_lay_0) (fun _ h9 => h9) rfl dX6_lay_35 ?_
    refine lv_iload_n hx hb dX6_lay_38 rfl (lv_at hl 3 rfl) ?_
    obtain ⟨hg_4, hf⟩ := ck_s hf
    refine va_iast (D := (dC, dI)) hx hb hK hP hD hS 3 0 rfl rfl (g_vp hg_4) dX6_lay_39 (fun H locs hP hD hS => ?_)
    have hP : va_P (dC, dI) vwCl (wcX6_lay cI cJ cZ cG h h_lives h_shields h_effects h_numbers h_players h_against v_size (upd v_effects v_size.toNatClampNeg p1) (upd v_numbers v_size.toNatClampNeg p2) (upd v_players v_size.toNatClampNeg p3) v_against) H := hP
    have hD : va_D A (wcX6_lay cI cJ cZ cG h h_lives h_shields h_effects h_numbers h_players h_against v_size (upd v_effects v_size.toNatClampNeg p1) (upd v_numbers v_size.toNatClampNeg p2) (upd v_players v_size.toNatClampNeg p3) v_against) := hD
    refine lv_aload_n hx hb dX6_lay_40 rfl (lv_at hl 0 rfl) ?_
    refine va_get (D := (dC, dI)) (ci := 6) (v := .ref h_against) (C := RX6) (T := TX6) (N := 7) hx hb hts iX6_lay_X6 hown hK hP 0 rfl rfl 5 (by decide) (hts _ mX6_lay_4) (fun _ h9 => h9) rfl dX6_lay_41 ?_
    refine lv_aload_n hx hb dX6_lay_44 rfl (lv_at hl 0 rfl) ?_
    refine va_get (D := (dC, dI)) (ci := 6) (v := .int v_size) (C := RX6) (T := TX6) (N := 7) hx hb hts iX6_lay_X6 hown hK hP 0 rfl rfl 6 (by decide) (hts _ mX6_lay_0) (fun _ h9 => h9) rfl dX6_lay_45 ?_
    refine lv_iload hx hb dX6_lay_48 (lv_at hl 4 rfl) ?_
    obtain ⟨hg_5, hf⟩ := ck_s hf
    refine va_iast (D := (dC, dI)) hx hb hK hP hD hS 4 0 rfl rfl (g_vp hg_5) dX6_lay_50 (fun H locs hP hD hS => ?_)
    have hP : va_P (dC, dI) vwCl (wcX6_lay cI cJ cZ cG h h_lives h_shields h_effects h_numbers h_players h_against v_size (upd v_effects v_size.toNatClampNeg p1) (upd v_numbers v_size.toNatClampNeg p2) (upd v_players v_size.toNatClampNeg p3) (upd v_against v_size.toNatClampNeg p4)) H := hP
    have hD : va_D A (wcX6_lay cI cJ cZ cG h h_lives h_shields h_effects h_numbers h_players h_against v_size (upd v_effects v_size.toNatClampNeg p1) (upd v_numbers v_size.toNatClampNeg p2) (upd v_players v_size.toNatClampNeg p3) (upd v_against v_size.toNatClampNeg p4)) := hD
    refine lv_aload_n hx hb dX6_lay_51 rfl (lv_at hl 0 rfl) ?_
    refine lv_dup hx hb dX6_lay_52 rfl ?_
    refine va_get (D := (dC, dI)) (ci := 6) (v := .int v_size) (C := RX6) (T := TX6) (N := 7) hx hb hts iX6_lay_X6 hown hK hP 0 rfl rfl 6 (by decide) (hts _ mX6_lay_0) (fun _ h9 => h9) rfl dX6_lay_53 ?_
    refine lv_iconst (v := 1) hx hb dX6_lay_56 (by decide) ?_
    refine lv_iadd hx hb dX6_lay_57 ?_
    obtain ⟨x_6, ex_6, hf⟩ := nm_s hf
    refine w_eqi ex_6 ?_
    refine va_put (D := (dC, dI)) (ci := 6) (v := .int x_6) (ty := .int) (C := RX6) (T := TX6) (N := 7) hx hb hts iX6_lay_X6 tyX6 tyX6_ok nmX6 hown hK hP hD hS 0 rfl rfl 6 (by decide) (hts _ mX6_lay_0) (fun _ h9 => h9) rfl (by decide +kernel) rfl rfl (Nat.le_of_ble_eq_true rfl) dX6_lay_58 (fun H locs hP hD hS => ?_)
    have hP : va_P (dC, dI) vwCl (wcX6_lay cI cJ cZ cG h h_lives h_shields h_effects h_numbers h_players h_against x_6 (upd v_effects v_size.toNatClampNeg p1) (upd v_numbers v_size.toNatClampNeg p2) (upd v_players v_size.toNatClampNeg p3) (upd v_against v_size.toNatClampNeg p4)) H := hP
    have hD : va_D A (wcX6_lay cI cJ cZ cG h h_lives h_shields h_effects h_numbers h_players h_against x_6 (upd v_effects v_size.toNatClampNeg p1) (upd v_numbers v_size.toNatClampNeg p2) (upd v_players v_size.toNatClampNeg p3) (upd v_against v_size.toNatClampNeg p4)) := hD
    have hf : some (x_6, (upd v_effects v_size.toNatClampNeg p1), (upd v_numbers v_size.toNatClampNeg p2), (upd v_players v_size.toNatClampNeg p3), (upd v_against v_size.toNatClampNeg p4)) = some (n_size, n_effects, n_numbers, n_players, n_against) := hf
    cases hf
    exact w_vret hx hb hr hlocks hP hD hS dX6_lay_61
  · have hf := it_f hf c_1
    have hf : some (v_size, v_effects, v_numbers, v_players, v_against) = some (n_size, n_effects, n_numbers, n_players, n_against) := hf
    cases hf
    exact w_vret hx hb hr hlocks hP hD hS dX6_lay_9
abbrev wcX6_nearestByOther (cI cJ cZ cG : ClassId) (h h_lives h_shields h_effects h_numbers h_players h_against : Nat) (v_size : Int32) (v_players : Nat → Int32) : va_W := [(h, .inr (6, [.ref h_lives, .ref h_shields, .ref h_effects, .ref h_numbers, .ref h_players, .ref h_against, .int v_size])), (h_players, .inl (cI, 6, .inl v_players))]
theorem iX6_nearestByOther_X6 : ∀ w ∈ wsX60, w ∈ wsX6_nearestByOther := by decide +kernel
theorem mX6_nearestByOther_0 : (Cond.fieldLink RX6 24 "Sleevehall$Table" "players" "[I") ∈ wsX6_nearestByOther := by decide +kernel
abbrev rmX6_nearestByOther : Room := { frames := 0, cells := 0, slots := 0, locals := 0 }
set_option maxHeartbeats 4000000 in
set_option maxRecDepth 100000 in
theorem kX6_nearestByOther_4 {p : Program} {l : Launch} {e : Env} {s : State} {m : MethodId} {args : Array Value} {below : List Frame} {meth : Method} {c : Code} {dC : Nat → ClassId} {dI : Nat → Nat → Nat} {A : Nat → Prop} {cI cJ cZ cG : ClassId} {h h_lives h_shields h_effects h_numbers h_players h_against : Nat} {v_size : Int32} {v_players : Nat → Int32} {r0 : Int32} (C0 : wCX p s args m meth c cX6_nearestByOther 3 (some .int) RX6 wsX6_nearestByOther) (hA : ∀ q, s.heap.size ≤ q → A q) (hK : va_K (dC, dI) vwCl (tysW cI cJ cZ cG) s) : ∀ (n : Nat), ∀ (l1 : Int32) (l2 : Int32) (H : Heap) (locs : List Loc) (ls : Array Slot), fX6_nearestByOther_b4 v_players n l1 l2 = some r0 → va_P (dC, dI) vwCl (wcX6_nearestByOther cI cJ cZ cG h h_lives h_shields h_effects h_numbers h_players h_against v_size v_players) H → va_D A (wcX6_nearestByOther cI cJ cZ cG h h_lives h_shields h_effects h_numbers h_players h_against v_size v_players) → va_S A s.heap H locs → lv_has ls 3 [(0, .ref h), (1, .int l1), (2, .int l2)] → W p l e rmX6_nearestByOther s m args below meth c H locs 0 0 (MQ below (wQi r0 (wcX6_nearestByOther cI cJ cZ cG h h_lives h_shields h_effects h_numbers h_players h_against v_size v_players) (dC, dI) A) args s 0 0 A) (F0 m 4 ls []) := by
  obtain ⟨hx, hb, hr, hml, hown, hts, hlocks⟩ := id C0
  intro n
  induction n with
  | zero =>
    intro l1 l2 H locs ls hf hP hD hS hl
    rw [fX6_nearestByOther_b4] at hf
    cases hf
  | succ n ih =>
    intro l1 l2 H locs ls hf hP hD hS hl
    rw [fX6_nearestByOther_b4] at hf
    refine lv_iload_n hx hb dX6_nearestByOther_4 rfl (lv_at hl 2 rfl) ?_
    refine lv_if_lt (tgt := 31) hx hb dX6_nearestByOther_5 (by decide) (fun c_1 => ?_) (fun c_1 => ?_)
    · have hf := it_t hf c_1
      refine lv_iconst (v := (-1)) hx hb dX6_nearestByOther_31 (by decide) ?_
      have hf : some (-1) = some r0 := hf
      cases hf
      exact w_iret hx hb hr hlocks rfl hP hD hS dX6_nearestByOther_32
    · have hf := it_f hf c_1
      refine lv_aload_n hx hb dX6_nearestByOther_8 rfl (lv_at hl 0 rfl) ?_
      refine va_get (D := (dC, dI)) (ci := 6) (v := .ref h_players) (C := RX6) (T := TX6) (N := 7) hx hb hts iX6_nearestByOther_X6 hown hK hP 0 rfl rfl 4 (by decide) (hts _ mX6_nearestByOther_0) (fun _ h9 => h9) rfl dX6_nearestByOther_9 ?_
      refine lv_iload_n hx hb dX6_nearestByOther_12 rfl (lv_at hl 2 rfl) ?_
      obtain ⟨hg_2, hf⟩ := ck_s hf
      refine va_iald (D := (dC, dI)) hx hb hK hP 1 0 rfl rfl (g_vp hg_2) dX6_nearestByOther_13 ?_
      refine lv_aload_n hx hb dX6_nearestByOther_14 rfl (lv_at hl 0 rfl) ?_
      refine va_get (D := (dC, dI)) (ci := 6) (v := .ref h_players) (C := RX6) (T := TX6) (N := 7) hx hb hts iX6_nearestByOther_X6 hown hK hP 0 rfl rfl 4 (by decide) (hts _ mX6_nearestByOther_0) (fun _ h9 => h9) rfl dX6_nearestByOther_15 ?_
      refine lv_iload_n hx hb dX6_nearestByOther_18 rfl (lv_at hl 1 rfl) ?_
      obtain ⟨hg_3, hf⟩ := ck_s hf
      refine va_iald (D := (dC, dI)) hx hb hK hP 1 0 rfl rfl (g_vp hg_3) dX6_nearestByOther_19 ?_
      refine lv_icmp_eq (tgt := 25) hx hb dX6_nearestByOther_20 (by decide) (fun c_4 => ?_) (fun c_4 => ?_)
      · have hf := it_t hf c_4
        obtain ⟨x_5, ex_5, hf⟩ := nm_s hf
        refine lv_iinc (v := x_5) (lv' := [(2, .int x_5), (0, .ref h), (1, .int l1)]) hx hb dX6_nearestByOther_25 hl (k := 2) rfl (by rw [ex_5]; rfl) (by decide) rfl (fun ls hl => ?_)
        refine lv_goto (tgt := 4) hx hb dX6_nearestByOther_28 (by decide) ?_
        have hf : (fX6_nearestByOther_b4 v_players n) l1 x_5 = some r0 := hf
        exact ih l1 x_5 _ _ _ hf hP hD hS (lv_sub hl [1, 2, 0] rfl)
      · have hf := it_f hf c_4
        refine lv_iload_n hx hb dX6_nearestByOther_23 rfl (lv_at hl 2 rfl) ?_
        have hf : some l2 = some r0 := hf
        cases hf
        exact w_iret hx hb hr hlocks rfl hP hD hS dX6_nearestByOther_24
set_option maxHeartbeats 4000000 in
set_option maxRecDepth 100000 in
theorem oX6_nearestByOther (l : Launch) (dC : Nat → ClassId) (dI : Nat → Nat → Nat) (cI cJ cZ cG : ClassId) (h h_lives h_shields h_effects h_numbers h_players h_against : Nat) (v_size : Int32) (v_players : Nat → Int32) (sz : Nat) (p1 : Int32) (r0 : Int32) (hf : fX6_nearestByOther v_players p1 = some r0) : Met l yX6_nearestByOther wsX6_nearestByOther rmX6_nearestByOther (wPc [.ref h, .int p1] (dC, dI) (tysW cI cJ cZ cG) sz (wcX6_nearestByOther cI cJ cZ cG h h_lives h_shields h_effects h_numbers h_players h_against v_size v_players)) (wQi r0 (wcX6_nearestByOther cI cJ cZ cG h h_lives h_shields h_effects h_numbers h_players h_against v_size v_players) (dC, dI) (va_A (wcX6_nearestByOther cI cJ cZ cG h h_lives h_shields h_effects h_numbers h_players h_against v_size v_players) sz)) 0 0 (va_A (wcX6_nearestByOther cI cJ cZ cG h h_lives h_shields h_effects h_numbers h_players h_against v_size v_players) sz) := by
  refine Met.ofW (cc := cX6_nearestByOther) (maxL := 3) (ret := (some .int)) (by decide) rfl ?_
  intro p e s m args below meth c s₁ B hml hv
  obtain ⟨rfl, hsz, hP, hK, hD0⟩ := hv
  have hx := B.exec
  have hb := B.bytes
  have hr := B.returns
  have hts := atoms_spec (ws := wsX6_nearestByOther) B.pre
  have hown : s.vm.findClass RX6 = some m.cls := findClass_of_methodNamed B.named
  have hlocks := B.notSynchronized
  subst hsz
  have hD := hD0.self (sz := s.heap.size)
  generalize hAe : va_A (wcX6_nearestByOther cI cJ cZ cG h h_lives h_shields h_effects h_numbers h_players h_against v_size v_players) s.heap.size = A at hD ⊢
  have hA : ∀ q : Nat, s.heap.size ≤ q → A q := fun q h => by rw [← hAe]; exact Or.inr h
  have hS : va_S A s.heap s.heap [] := va_S.rf
  have hP : va_P (dC, dI) vwCl (wcX6_nearestByOther cI cJ cZ cG h h_lives h_shields h_effects h_numbers h_players h_against v_size v_players) s.heap := hP
  have hl := lv_entry ([.ref h, .int p1]) (n := 3) (Nat.le_of_ble_eq_true rfl)
  rw [lg_entry_eq]
  generalize (lg_sl ([.ref h, .int p1]) ++ List.replicate (3 - (lg_sl ([.ref h, .int p1])).length) Slot.unset).toArray = ls at hl ⊢
  have hl : lv_has ls 3 [(0, .ref h), (1, .int p1)] := hl
  generalize hH : s.heap = H at hP hS ⊢
  have hS : va_S A s.heap H [] := by rw [hH]; exact hS
  have C0 : wCX p s #[.ref h, .int p1] m meth c cX6_nearestByOther 3 (some .int) RX6 wsX6_nearestByOther := ⟨hx, hb, hr, hml, hown, hts, hlocks⟩
  show W p l e rmX6_nearestByOther s m #[.ref h, .int p1] below meth c H [] 0 0 (MQ below (wQi r0 (wcX6_nearestByOther cI cJ cZ cG h h_lives h_shields h_effects h_numbers h_players h_against v_size v_players) (dC, dI) A) #[.ref h, .int p1] s 0 0 A) (F0 m 0 ls [])
  unfold fX6_nearestByOther at hf
  refine lv_iload_n hx hb dX6_nearestByOther_0 rfl (lv_at hl 1 rfl) ?_
  refine lv_iconst (v := 1) hx hb dX6_nearestByOther_1 (by decide) ?_
  refine lv_isub hx hb dX6_nearestByOther_2 ?_
  obtain ⟨x_1, ex_1, hf⟩ := nm_s hf
  refine w_eqi ex_1 ?_
  refine lv_istore_n (lv' := [(2, .int x_1), (0, .ref h), (1, .int p1)]) hx hb dX6_nearestByOther_3 rfl hl (by decide) rfl (fun ls hl => ?_)
  have hf : fX6_nearestByOther_b4 v_players 70 p1 x_1 = some r0 := hf
  exact kX6_nearestByOther_4 C0 hA hK 70 p1 x_1 _ _ _ hf hP hD hS (lv_sub hl [1, 2, 0] rfl)
abbrev wcX6_takeOff (cI cJ cZ cG : ClassId) (h h_lives h_shields h_effects h_numbers h_players h_against : Nat) (v_size : Int32) (v_effects : Nat → Int32) (v_numbers : Nat → Int32) (v_players : Nat → Int32) (v_against : Nat → Int32) : va_W := [(h, .inr (6, [.ref h_lives, .ref h_shields, .ref h_effects, .ref h_numbers, .ref h_players, .ref h_against, .int v_size])), (h_effects, .inl (cI, 6, .inl v_effects)), (h_numbers, .inl (cI, 6, .inl v_numbers)), (h_players, .inl (cI, 6, .inl v_players)), (h_against, .inl (cI, 6, .inl v_against))]
theorem iX6_takeOff_X6 : ∀ w ∈ wsX60, w ∈ wsX6_takeOff := by decide +kernel
theorem mX6_takeOff_0 : (Cond.fieldLink RX6 33 "Sleevehall$Table" "size" "I") ∈ wsX6_takeOff := by decide +kernel
theorem mX6_takeOff_1 : (Cond.fieldLink RX6 18 "Sleevehall$Table" "effects" "[I") ∈ wsX6_takeOff := by decide +kernel
theorem mX6_takeOff_2 : (Cond.fieldLink RX6 21 "Sleevehall$Table" "numbers" "[I") ∈ wsX6_takeOff := by decide +kernel
theorem mX6_takeOff_3 : (Cond.fieldLink RX6 24 "Sleevehall$Table" "players" "[I") ∈ wsX6_takeOff := by decide +kernel
theorem mX6_takeOff_4 : (Cond.fieldLink RX6 27 "Sleevehall$Table" "against" "[I") ∈ wsX6_takeOff := by decide +kernel
abbrev rmX6_takeOff : Room := { frames := 0, cells := 0, slots := 0, locals := 0 }
set_option maxHeartbeats 4000000 in
set_option maxRecDepth 100000 in
theorem kX6_takeOff_9 {p : Program} {l : Launch} {e : Env} {s : State} {m : MethodId} {args : Array Value} {below : List Frame} {meth : Method} {c : Code} {dC : Nat → ClassId} {dI : Nat → Nat → Nat} {A : Nat → Prop} {cI cJ cZ cG : ClassId} {h h_lives h_shields h_effects h_numbers h_players h_against : Nat} {n_size : Int32} {n_effects : Nat → Int32} {n_numbers : Nat → Int32} {n_players : Nat → Int32} {n_against : Nat → Int32} (C0 : wCX p s args m meth c cX6_takeOff 3 none RX6 wsX6_takeOff) (hA : ∀ q, s.heap.size ≤ q → A q) (hK : va_K (dC, dI) vwCl (tysW cI cJ cZ cG) s) : ∀ (n : Nat), ∀ (v_size : Int32) (v_effects : Nat → Int32) (v_numbers : Nat → Int32) (v_players : Nat → Int32) (v_against : Nat → Int32) (l2 : Int32) (H : Heap) (locs : List Loc) (ls : Array Slot), fX6_takeOff_b9 n v_size v_effects v_numbers v_players v_against l2 = some (n_size, n_effects, n_numbers, n_players, n_against) → va_P (dC, dI) vwCl (wcX6_takeOff cI cJ cZ cG h h_lives h_shields h_effects h_numbers h_players h_against v_size v_effects v_numbers v_players v_against) H → va_D A (wcX6_takeOff cI cJ cZ cG h h_lives h_shields h_effects h_numbers h_players h_against v_size v_effects v_numbers v_players v_against) → va_S A s.heap H locs → lv_has ls 3 [(0, .ref h), (2, .int l2)] → W p l e rmX6_takeOff s m args below meth c H locs 0 0 (MQ below (wQv (wcX6_takeOff cI cJ cZ cG h h_lives h_shields h_effects h_numbers h_players h_against n_size n_effects n_numbers n_players n_against) (dC, dI) A) args s 0 0 A) (F0 m 9 ls []) := by
  obtain ⟨hx, hb, hr, hml, hown, hts, hlocks⟩ := id C0
  intro n
  induction n with
  | zero =>
    intro v_size v_effects v_numbers v_players v_against l2 H locs ls hf hP hD hS hl
    rw [fX6_takeOff_b9] at hf
    cases hf
  | succ n ih =>
    intro v_size v_effects v_numbers v_players v_against l2 H locs ls hf hP hD hS hl
    rw [fX6_takeOff_b9] at hf
    refine lv_iload_n hx hb dX6_takeOff_9 rfl (lv_at hl 1 rfl) ?_
    refine lv_aload_n hx hb dX6_takeOff_10 rfl (lv_at hl 0 rfl) ?_
    refine va_get (D := (dC, dI)) (ci := 6) (v := .int v_size) (C := RX6) (T := TX6) (N := 7) hx hb hts iX6_takeOff_X6 hown hK hP 0 rfl rfl 6 (by decide) (hts _ mX6_takeOff_0) (fun _ h9 => h9) rfl dX6_takeOff_11 ?_
    refine lv_icmp_ge (tgt := 79) hx hb dX6_takeOff_14 (by decide) (fun c_1 => ?_) (fun c_1 => ?_)
    · have hf := it_t hf c_1
      refine lv_aload_n hx hb dX6_takeOff_79 rfl (lv_at hl 0 rfl) ?_
      refine lv_dup hx hb dX6_takeOff_80 rfl ?_
      refine va_get (D := (dC, dI)) (ci := 6) (v := .int v_size) (C := RX6) (T := TX6) (N := 7) hx hb hts iX6_takeOff_X6 hown hK hP 0 rfl rfl 6 (by decide) (hts _ mX6_takeOff_0) (fun _ h9 => h9) rfl dX6_takeOff_81 ?_
      refine lv_iconst (v := 1) hx hb dX6_takeOff_84 (by decide) ?_
      refine lv_isub hx hb dX6_takeOff_85 ?_
      obtain ⟨x_2, ex_2, hf⟩ := nm_s hf
      refine w_eqi ex_2 ?_
      refine va_put (D := (dC, dI)) (ci := 6) (v := .int x_2) (ty := .int) (C := RX6) (T := TX6) (N := 7) hx hb hts iX6_takeOff_X6 tyX6 tyX6_ok nmX6 hown hK hP hD hS 0 rfl rfl 6 (by decide) (hts _ mX6_takeOff_0) (fun _ h9 => h9) rfl (by decide +kernel) rfl rfl (Nat.le_of_ble_eq_true rfl) dX6_takeOff_86 (fun H locs hP hD hS => ?_)
      have hP : va_P (dC, dI) vwCl (wcX6_takeOff cI cJ cZ cG h h_lives h_shields h_effects h_numbers h_players h_against x_2 v_effects v_numbers v_players v_against) H := hP
      have hD : va_D A (wcX6_takeOff cI cJ cZ cG h h_lives h_shields h_effects h_numbers h_players h_against x_2 v_effects v_numbers v_players v_against) := hD
      have hf : some (x_2, v_effects, v_numbers, v_players, v_against) = some (n_size, n_effects, n_numbers, n_players, n_against) := hf
      cases hf
      exact w_vret hx hb hr hlocks hP hD hS dX6_takeOff_89
    · have hf := it_f hf c_1
      refine lv_aload_n hx hb dX6_takeOff_17 rfl (lv_at hl 0 rfl) ?_
      refine va_get (D := (dC, dI)) (ci := 6) (v := .ref h_effects) (C := RX6) (T := TX6) (N := 7) hx hb hts iX6_takeOff_X6 hown hK hP 0 rfl rfl 2 (by decide) (hts _ mX6_takeOff_1) (fun _ h9 => h9) rfl dX6_takeOff_18 ?_
      refine lv_iload_n hx hb dX6_takeOff_21 rfl (lv_at hl 1 rfl) ?_
      refine lv_iconst (v := 1) hx hb dX6_takeOff_22 (by decide) ?_
      refine lv_isub hx hb dX6_takeOff_23 ?_
      refine lv_aload_n hx hb dX6_takeOff_24 rfl (lv_at hl 0 rfl) ?_
      refine va_get (D := (dC, dI)) (ci := 6) (v := .ref h_effects) (C := RX6) (T := TX6) (N := 7) hx hb hts iX6_takeOff_X6 hown hK hP 0 rfl rfl 2 (by decide) (hts _ mX6_takeOff_1) (fun _ h9 => h9) rfl dX6_takeOff_25 ?_
      refine lv_iload_n hx hb dX6_takeOff_28 rfl (lv_at hl 1 rfl) ?_
      obtain ⟨hg_3, hf⟩ := ck_s hf
      refine va_iald (D := (dC, dI)) hx hb hK hP 1 0 rfl rfl (g_vp hg_3) dX6_takeOff_29 ?_
      obtain ⟨x_4, ex_4, hf⟩ := nm_s hf
      refine w_eqi ex_4 ?_
      obtain ⟨hg_5, hf⟩ := ck_s hf
      refine va_iast (D := (dC, dI)) hx hb hK hP hD hS 1 0 rfl rfl (g_vp hg_5) dX6_takeOff_30 (fun H locs hP hD hS => ?_)
      have hP : va_P (dC, dI) vwCl (wcX6_takeOff cI cJ cZ cG h h_lives h_shields h_effects h_numbers h_players h_against v_size (upd v_effects (l2 - 1).toNatClampNeg x_4) v_numbers v_players v_against) H := hP
      have hD : va_D A (wcX6_takeOff cI cJ cZ cG h h_lives h_shields h_effects h_numbers h_players h_against v_size (upd v_effects (l2 - 1).toNatClampNeg x_4) v_numbers v_players v_against) := hD
      refine lv_aload_n hx hb dX6_takeOff_31 rfl (lv_at hl 0 rfl) ?_
      refine va_get (D := (dC, dI)) (ci := 6) (v := .ref h_numbers) (C := RX6) (T := TX6) (N := 7) hx hb hts iX6_takeOff_X6 hown hK hP 0 rfl rfl 3 (by decide) (hts _ mX6_takeOff_2) (fun _ h9 => h9) rfl dX6_takeOff_32 ?_
      refine lv_iload_n hx hb dX6_takeOff_35 rfl (lv_at hl 1 rfl) ?_
      refine lv_iconst (v := 1) hx hb dX6_takeOff_36 (by decide) ?_
      refine lv_isub hx hb dX6_takeOff_37 ?_
      refine lv_aload_n hx hb dX6_takeOff_38 rfl (lv_at hl 0 rfl) ?_
      refine va_get (D := (dC, dI)) (ci := 6) (v := .ref h_numbers) (C := RX6) (T := TX6) (N := 7) hx hb hts iX6_takeOff_X6 hown hK hP 0 rfl rfl 3 (by decide) (hts _ mX6_takeOff_2) (fun _ h9 => h9) rfl dX6_takeOff_39 ?_
      refine lv_iload_n hx hb dX6_takeOff_42 rfl (lv_at hl 1 rfl) ?_
      obtain ⟨hg_6, hf⟩ := ck_s hf
      refine va_iald (D := (dC, dI)) hx hb hK hP 2 0 rfl rfl (g_vp hg_6) dX6_takeOff_43 ?_
      obtain ⟨x_7, ex_7, hf⟩ := nm_s hf
      refine w_eqi ex_7 ?_
      obtain ⟨hg_8, hf⟩ := ck_s hf
      refine va_iast (D := (dC, dI)) hx hb hK hP hD hS 2 0 rfl rfl (g_vp hg_8) dX6_takeOff_44 (fun H locs hP hD hS => ?_)
      have hP : va_P (dC, dI) vwCl (wcX6_takeOff cI cJ cZ cG h h_lives h_shields h_effects h_numbers h_players h_against v_size (upd v_effects (l2 - 1).toNatClampNeg x_4) (upd v_numbers (l2 - 1).toNatClampNeg x_7) v_players v_against) H := hP
      have hD : va_D A (wcX6_takeOff cI cJ cZ cG h h_lives h_shields h_effects h_numbers h_players h_against v_size (upd v_effects (l2 - 1).toNatClampNeg x_4) (upd v_numbers (l2 - 1).toNatClampNeg x_7) v_players v_against) := hD
      refine lv_aload_n hx hb dX6_takeOff_45 rfl (lv_at hl 0 rfl) ?_
      refine va_get (D := (dC, dI)) (ci := 6) (v := .ref h_players) (C := RX6) (T := TX6) (N := 7) hx hb hts iX6_takeOff_X6 hown hK hP 0 rfl rfl 4 (by decide) (hts _ mX6_takeOff_3) (fun _ h9 => h9) rfl dX6_takeOff_46 ?_
      refine lv_iload_n hx hb dX6_takeOff_49 rfl (lv_at hl 1 rfl) ?_
      refine lv_iconst (v := 1) hx hb dX6_takeOff_50 (by decide) ?_
      refine lv_isub hx hb dX6_takeOff_51 ?_
      refine lv_aload_n hx hb dX6_takeOff_52 rfl (lv_at hl 0 rfl) ?_
      refine va_get (D := (dC, dI)) (ci := 6) (v := .ref h_players) (C := RX6) (T := TX6) (N := 7) hx hb hts iX6_takeOff_X6 hown hK hP 0 rfl rfl 4 (by decide) (hts _ mX6_takeOff_3) (fun _ h9 => h9) rfl dX6_takeOff_53 ?_
      refine lv_iload_n hx hb dX6_takeOff_56 rfl (lv_at hl 1 rfl) ?_
      obtain ⟨hg_9, hf⟩ := ck_s hf
      refine va_iald (D := (dC, dI)) hx hb hK hP 3 0 rfl rfl (g_vp hg_9) dX6_takeOff_57 ?_
      obtain ⟨x_10, ex_10, hf⟩ := nm_s hf
      refine w_eqi ex_10 ?_
      obtain ⟨hg_11, hf⟩ := ck_s hf
      refine va_iast (D := (dC, dI)) hx hb hK hP hD hS 3 0 rfl rfl (g_vp hg_11) dX6_takeOff_58 (fun H locs hP hD hS => ?_)
      have hP : va_P (dC, dI) vwCl (wcX6_takeOff cI cJ cZ cG h h_lives h_shields h_effects h_numbers h_players h_against v_size (upd v_effects (l2 - 1).toNatClampNeg x_4) (upd v_numbers (l2 - 1).toNatClampNeg x_7) (upd v_players (l2 - 1).toNatClampNeg x_10) v_against) H := hP
      have hD : va_D A (wcX6_takeOff cI cJ cZ cG h h_lives h_shields h_effects h_numbers h_players h_against v_size (upd v_effects (l2 - 1).toNatClampNeg x_4) (upd v_numbers (l2 - 1).toNatClampNeg x_7) (upd v_players (l2 - 1).toNatClampNeg x_10) v_against) := hD
      refine lv_aload_n hx hb dX6_takeOff_59 rfl (lv_at hl 0 rfl) ?_
      refine va_get (D := (dC, dI)) (ci := 6) (v := .ref h_against) (C := RX6) (T := TX6) (N := 7) hx hb hts iX6_takeOff_X6 hown hK hP 0 rfl rfl 5 (by decide) (hts _ mX6_takeOff_4) (fun _ h9 => h9) rfl dX6_takeOff_60 ?_
      refine lv_iload_n hx hb dX6_takeOff_63 rfl (lv_at hl 1 rfl) ?_
      refine lv_iconst (v := 1) hx hb dX6_takeOff_64 (by decide) ?_
      refine lv_isub hx hb dX6_takeOff_65 ?_
      refine lv_aload_n hx hb dX6_takeOff_66 rfl (lv_at hl 0 rfl) ?_
      refine va_get (D := (dC, dI)) (ci := 6) (v := .ref h_against) (C := RX6) (T := TX6) (N := 7) hx hb hts iX6_takeOff_X6 hown hK hP 0 rfl rfl 5 (by decide) (hts _ mX6_takeOff_4) (fun _ h9 => h9) rfl dX6_takeOff_67 ?_
      refine lv_iload_n hx hb dX6_takeOff_70 rfl (lv_at hl 1 rfl) ?_
      obtain ⟨hg_12, hf⟩ := ck_s hf
      refine va_iald (D := (dC, dI)) hx hb hK hP 4 0 rfl rfl (g_vp hg_12) dX6_takeOff_71 ?_
      obtain ⟨x_13, ex_13, hf⟩ := nm_s hf
      refine w_eqi ex_13 ?_
      obtain ⟨hg_14, hf⟩ := ck_s hf
      refine va_iast (D := (dC, dI)) hx hb hK hP hD hS 4 0 rfl rfl (g_vp hg_14) dX6_takeOff_72 (fun H locs hP hD hS => ?_)
      have hP : va_P (dC, dI) vwCl (wcX6_takeOff cI cJ cZ cG h h_lives h_shields h_effects h_numbers h_players h_against v_size (upd v_effects (l2 - 1).toNatClampNeg x_4) (upd v_numbers (l2 - 1).toNatClampNeg x_7) (upd v_players (l2 - 1).toNatClampNeg x_10) (upd v_against (l2 - 1).toNatClampNeg x_13)) H := hP
      have hD : va_D A (wcX6_takeOff cI cJ cZ cG h h_lives h_shields h_effects h_numbers h_players h_against v_size (upd v_effects (l2 - 1).toNatClampNeg x_4) (upd v_numbers (l2 - 1).toNatClampNeg x_7) (upd v_players (l2 - 1).toNatClampNeg x_10) (upd v_against (l2 - 1).toNatClampNeg x_13)) := hD
      obtain ⟨x_15, ex_15, hf⟩ := nm_s hf
      refine lv_iinc (v := x_15) (lv' := [(2, .int x_15), (0, .ref h)]) hx hb dX6_takeOff_73 hl (k := 1) rfl (by rw [ex_15]; rfl) (by decide) rfl (fun ls hl => ?_)
      refine lv_goto (tgt := 9) hx hb dX6_takeOff_76 (by decide) ?_
      have hf : (fX6_takeOff_b9 n) v_size (upd v_effects (l2 - 1).toNatClampNeg x_4) (upd v_numbers (l2 - 1).toNatClampNeg x_7) (upd v_players (l2 - 1).toNatClampNeg x_10) (upd v_against (l2 - 1).toNatClampNeg x_13) x_15 = some (n_size, n_effects, n_numbers, n_players, n_against) := hf
      exact ih v_size (upd v_effects (l2 - 1).toNatClampNeg x_4) (upd v_numbers (l2 - 1).toNatClampNeg x_7) (upd v_players (l2 - 1).toNatClampNeg x_10) (upd v_against (l2 - 1).toNatClampNeg x_13) x_15 _ _ _ hf hP hD hS (lv_sub hl [1, 0] rfl)
set_option maxHeartbeats 4000000 in
set_option maxRecDepth 100000 in
theorem oX6_takeOff (l : Launch) (dC : Nat → ClassId) (dI : Nat → Nat → Nat) (cI cJ cZ cG : ClassId) (h h_lives h_shields h_effects h_numbers h_players h_against : Nat) (v_size : Int32) (v_effects : Nat → Int32) (v_numbers : Nat → Int32) (v_players : Nat → Int32) (v_against : Nat → Int32) (sz : Nat) (p1 : Int32) (n_size : Int32) (n_effects : Nat → Int32) (n_numbers : Nat → Int32) (n_players : Nat → Int32) (n_against : Nat → Int32) (hf : fX6_takeOff v_size v_effects v_numbers v_players v_against p1 = some (n_size, n_effects, n_numbers, n_players, n_against)) : Met l yX6_takeOff wsX6_takeOff rmX6_takeOff (wPc [.ref h, .int p1] (dC, dI) (tysW cI cJ cZ cG) sz (wcX6_takeOff cI cJ cZ cG h h_lives h_shields h_effects h_numbers h_players h_against v_size v_effects v_numbers v_players v_against)) (wQv (wcX6_takeOff cI cJ cZ cG h h_lives h_shields h_effects h_numbers h_players h_against n_size n_effects n_numbers n_players n_against) (dC, dI) (va_A (wcX6_takeOff cI cJ cZ cG h h_lives h_shields h_effects h_numbers h_players h_against v_size v_effects v_numbers v_players v_against) sz)) 0 0 (va_A (wcX6_takeOff cI cJ cZ cG h h_lives h_shields h_effects h_numbers h_players h_against v_size v_effects v_numbers v_players v_against) sz) := by
  refine Met.ofW (cc := cX6_takeOff) (maxL := 3) (ret := none) (by decide) rfl ?_
  intro p e s m args below meth c s₁ B hml hv
  obtain ⟨rfl, hsz, hP, hK, hD0⟩ := hv
  have hx := B.exec
  have hb := B.bytes
  have hr := B.returns
  have hts := atoms_spec (ws := wsX6_takeOff) B.pre
  have hown : s.vm.findClass RX6 = some m.cls := findClass_of_methodNamed B.named
  have hlocks := B.notSynchronized
  subst hsz
  have hD := hD0.self (sz := s.heap.size)
  generalize hAe : va_A (wcX6_takeOff cI cJ cZ cG h h_lives h_shields h_effects h_numbers h_players h_against v_size v_effects v_numbers v_players v_against) s.heap.size = A at hD ⊢
  have hA : ∀ q : Nat, s.heap.size ≤ q → A q := fun q h => by rw [← hAe]; exact Or.inr h
  have hS : va_S A s.heap s.heap [] := va_S.rf
  have hP : va_P (dC, dI) vwCl (wcX6_takeOff cI cJ cZ cG h h_lives h_shields h_effects h_numbers h_players h_against v_size v_effects v_numbers v_players v_against) s.heap := hP
  have hl := lv_entry ([.ref h, .int p1]) (n := 3) (Nat.le_of_ble_eq_true rfl)
  rw [lg_entry_eq]
  generalize (lg_sl ([.ref h, .int p1]) ++ List.replicate (3 - (lg_sl ([.ref h, .int p1])).length) Slot.unset).toArray = ls at hl ⊢
  have hl : lv_has ls 3 [(0, .ref h), (1, .int p1)] := hl
  generalize hH : s.heap = H at hP hS ⊢
  have hS : va_S A s.heap H [] := by rw [hH]; exact hS
  have C0 : wCX p s #[.ref h, .int p1] m meth c cX6_takeOff 3 none RX6 wsX6_takeOff := ⟨hx, hb, hr, hml, hown, hts, hlocks⟩
  show W p l e rmX6_takeOff s m #[.ref h, .int p1] below meth c H [] 0 0 (MQ below (wQv (wcX6_takeOff cI cJ cZ cG h h_lives h_shields h_effects h_numbers h_players h_against n_size n_effects n_numbers n_players n_against) (dC, dI) A) #[.ref h, .int p1] s 0 0 A) (F0 m 0 ls [])
  unfold fX6_takeOff at hf
  refine lv_iload_n hx hb dX6_takeOff_0 rfl (lv_at hl 1 rfl) ?_
  refine lv_if_ge (tgt := 5) hx hb dX6_takeOff_1 (by decide) (fun c_1 => ?_) (fun c_1 => ?_)
  · have hf := it_t hf c_1
    refine lv_iload_n hx hb dX6_takeOff_5 rfl (lv_at hl 1 rfl) ?_
    refine lv_iconst (v := 1) hx hb dX6_takeOff_6 (by decide) ?_
    refine lv_iadd hx hb dX6_takeOff_7 ?_
    obtain ⟨x_2, ex_2, hf⟩ := nm_s hf
    refine w_eqi ex_2 ?_
    refine lv_istore_n (lv' := [(2, .int x_2), (0, .ref h), (1, .int p1)]) hx hb dX6_takeOff_8 rfl hl (by decide) rfl (fun ls hl => ?_)
    have hf : fX6_takeOff_b9 70 v_size v_effects v_numbers v_players v_against x_2 = some (n_size, n_effects, n_numbers, n_players, n_against) := hf
    exact kX6_takeOff_9 C0 hA hK 70 v_size v_effects v_numbers v_players v_against x_2 _ _ _ hf hP hD hS (lv_sub hl [1, 0] rfl)
  · have hf := it_f hf c_1
    have hf : some (v_size, v_effects, v_numbers, v_players, v_against) = some (n_size, n_effects, n_numbers, n_players, n_against) := hf
    cases hf
    exact w_vret hx hb hr hlocks hP hD hS dX6_takeOff_4
abbrev wcX6_makeTwice (cI cJ cZ cG : ClassId) (h h_lives h_shields h_effects h_numbers h_players h_against : Nat) (v_size : Int32) (v_numbers : Nat → Int32) : va_W := [(h, .inr (6, [.ref h_lives, .ref h_shields, .ref h_effects, .ref h_numbers, .ref h_players, .ref h_against, .int v_size])), (h_numbers, .inl (cI, 6, .inl v_numbers))]
theorem iX6_makeTwice_X6 : ∀ w ∈ wsX60, w ∈ wsX6_makeTwice := by decide +kernel
theorem mX6_makeTwice_0 : (Cond.fieldLink RX6 21 "Sleevehall$Table" "numbers" "[I") ∈ wsX6_makeTwice := by decide +kernel
theorem mX6_makeTwice_1 : (Cond.constant RX6 60 (1073741823)) ∈ wsX6_makeTwice := by decide +kernel
abbrev rmX6_makeTwice : Room := { frames := 0, cells := 0, slots := 0, locals := 0 }
set_option maxHeartbeats 4000000 in
set_option maxRecDepth 100000 in
theorem oX6_makeTwice (l : Launch) (dC : Nat → ClassId) (dI : Nat → Nat → Nat) (cI cJ cZ cG : ClassId) (h h_lives h_shields h_effects h_numbers h_players h_against : Nat) (v_size : Int32) (v_numbers : Nat → Int32) (sz : Nat) (p1 : Int32) (r0 : Int32) (n_numbers : Nat → Int32) (hf : fX6_makeTwice v_numbers p1 = some (r0, n_numbers)) : Met l yX6_makeTwice wsX6_makeTwice rmX6_makeTwice (wPc [.ref h, .int p1] (dC, dI) (tysW cI cJ cZ cG) sz (wcX6_makeTwice cI cJ cZ cG h h_lives h_shields h_effects h_numbers h_players h_against v_size v_numbers)) (wQz r0 (wcX6_makeTwice cI cJ cZ cG h h_lives h_shields h_effects h_numbers h_players h_against v_size n_numbers) (dC, dI) (va_A (wcX6_makeTwice cI cJ cZ cG h h_lives h_shields h_effects h_numbers h_players h_against v_size v_numbers) sz)) 0 0 (va_A (wcX6_makeTwice cI cJ cZ cG h h_lives h_shields h_effects h_numbers h_players h_against v_size v_numbers) sz) := by
  refine Met.ofW (cc := cX6_makeTwice) (maxL := 2) (ret := (some .boolean)) (by decide) rfl ?_
  intro p e s m args below meth c s₁ B hml hv
  obtain ⟨rfl, hsz, hP, hK, hD0⟩ := hv
  have hx := B.exec
  have hb := B.bytes
  have hr := B.returns
  have hts := atoms_spec (ws := wsX6_makeTwice) B.pre
  have hown : s.vm.findClass RX6 = some m.cls := findClass_of_methodNamed B.named
  have hlocks := B.notSynchronized
  subst hsz
  have hD := hD0.self (sz := s.heap.size)
  generalize hAe : va_A (wcX6_makeTwice cI cJ cZ cG h h_lives h_shields h_effects h_numbers h_players h_against v_size v_numbers) s.heap.size = A at hD ⊢
  have hA : ∀ q : Nat, s.heap.size ≤ q → A q := fun q h => by rw [← hAe]; exact Or.inr h
  have hS : va_S A s.heap s.heap [] := va_S.rf
  have hP : va_P (dC, dI) vwCl (wcX6_makeTwice cI cJ cZ cG h h_lives h_shields h_effects h_numbers h_players h_against v_size v_numbers) s.heap := hP
  have hl := lv_entry ([.ref h, .int p1]) (n := 2) (Nat.le_of_ble_eq_true rfl)
  rw [lg_entry_eq]
  generalize (lg_sl ([.ref h, .int p1]) ++ List.replicate (2 - (lg_sl ([.ref h, .int p1])).length) Slot.unset).toArray = ls at hl ⊢
  have hl : lv_has ls 2 [(0, .ref h), (1, .int p1)] := hl
  generalize hH : s.heap = H at hP hS ⊢
  have hS : va_S A s.heap H [] := by rw [hH]; exact hS
  have C0 : wCX p s #[.ref h, .int p1] m meth c cX6_makeTwice 2 (some .boolean) RX6 wsX6_makeTwice := ⟨hx, hb, hr, hml, hown, hts, hlocks⟩
  show W p l e rmX6_makeTwice s m #[.ref h, .int p1] below meth c H [] 0 0 (MQ below (wQz r0 (wcX6_makeTwice cI cJ cZ cG h h_lives h_shields h_effects h_numbers h_players h_against v_size n_numbers) (dC, dI) A) #[.ref h, .int p1] s 0 0 A) (F0 m 0 ls [])
  unfold fX6_makeTwice at hf
  refine lv_aload_n hx hb dX6_makeTwice_0 rfl (lv_at hl 0 rfl) ?_
  refine va_get (D := (dC, dI)) (ci := 6) (v := .ref h_numbers) (C := RX6) (T := TX6) (N := 7) hx hb hts iX6_makeTwice_X6 hown hK hP 0 rfl rfl 3 (by decide) (hts _ mX6_makeTwice_0) (fun _ h9 => h9) rfl dX6_makeTwice_1 ?_
  refine lv_iload_n hx hb dX6_makeTwice_4 rfl (lv_at hl 1 rfl) ?_
  obtain ⟨hg_1, hf⟩ := ck_s hf
  refine va_iald (D := (dC, dI)) hx hb hK hP 1 0 rfl rfl (g_vp hg_1) dX6_makeTwice_5 ?_
  refine lv_ldc (v := 1073741823) hx hb hown (hts _ mX6_makeTwice_1) dX6_makeTwice_6 ?_
  refine lv_icmp_le (tgt := 13) hx hb dX6_makeTwice_8 (by decide) (fun c_2 => ?_) (fun c_2 => ?_)
  · have hf := it_t hf c_2
    refine lv_aload_n hx hb dX6_makeTwice_13 rfl (lv_at hl 0 rfl) ?_
    refine va_get (D := (dC, dI)) (ci := 6) (v := .ref h_numbers) (C := RX6) (T := TX6) (N := 7) hx hb hts iX6_makeTwice_X6 hown hK hP 0 rfl rfl 3 (by decide) (hts _ mX6_makeTwice_0) (fun _ h9 => h9) rfl dX6_makeTwice_14 ?_
    refine lv_iload_n hx hb dX6_makeTwice_17 rfl (lv_at hl 1 rfl) ?_
    refine lv_dup2_11 hx hb dX6_makeTwice_18 rfl rfl ?_
    obtain ⟨hg_3, hf⟩ := ck_s hf
    refine va_iald (D := (dC, dI)) hx hb hK hP 1 0 rfl rfl (g_vp hg_3) dX6_makeTwice_19 ?_
    refine lv_iconst (v := 2) hx hb dX6_makeTwice_20 (by decide) ?_
    refine lv_imul hx hb dX6_makeTwice_21 ?_
    obtain ⟨x_4, ex_4, hf⟩ := nm_s hf
    refine w_eqi ex_4 ?_
    obtain ⟨hg_5, hf⟩ := ck_s hf
    refine va_iast (D := (dC, dI)) hx hb hK hP hD hS 1 0 rfl rfl (g_vp hg_5) dX6_makeTwice_22 (fun H locs hP hD hS => ?_)
    have hP : va_P (dC, dI) vwCl (wcX6_makeTwice cI cJ cZ cG h h_lives h_shields h_effects h_numbers h_players h_against v_size (upd v_numbers p1.toNatClampNeg x_4)) H := hP
    have hD : va_D A (wcX6_makeTwice cI cJ cZ cG h h_lives h_shields h_effects h_numbers h_players h_against v_size (upd v_numbers p1.toNatClampNeg x_4)) := hD
    refine lv_iconst (v := 1) hx hb dX6_makeTwice_23 (by decide) ?_
    have hf : some (1, (upd v_numbers p1.toNatClampNeg x_4)) = some (r0, n_numbers) := hf
    cases hf
    exact w_zret hx hb hr hlocks rfl (Or.inr rfl) hP hD hS dX6_makeTwice_24
  · have hf := it_f hf c_2
    refine lv_iconst (v := 0) hx hb dX6_makeTwice_11 (by decide) ?_
    have hf : some (0, v_numbers) = some (r0, n_numbers) := hf
    cases hf
    exact w_zret hx hb hr hlocks rfl (Or.inl rfl) hP hD hS dX6_makeTwice_12
abbrev wcX6_turn (cI cJ cZ cG : ClassId) (h h_lives h_shields h_effects h_numbers h_players h_against : Nat) (v_size : Int32) (v_effects : Nat → Int32) : va_W := [(h, .inr (6, [.ref h_lives, .ref h_shields, .ref h_effects, .ref h_numbers, .ref h_players, .ref h_against, .int v_size])), (h_effects, .inl (cI, 6, .inl v_effects))]
theorem iX6_turn_X6 : ∀ w ∈ wsX60, w ∈ wsX6_turn := by decide +kernel
theorem mX6_turn_0 : (Cond.fieldLink RX6 33 "Sleevehall$Table" "size" "I") ∈ wsX6_turn := by decide +kernel
theorem mX6_turn_1 : (Cond.fieldLink RX6 18 "Sleevehall$Table" "effects" "[I") ∈ wsX6_turn := by decide +kernel
abbrev rmX6_turn : Room := { frames := 0, cells := 0, slots := 0, locals := 0 }
set_option maxHeartbeats 4000000 in
set_option maxRecDepth 100000 in
theorem kX6_turn_69 {p : Program} {l : Launch} {e : Env} {s : State} {m : MethodId} {args : Array Value} {below : List Frame} {meth : Method} {c : Code} {dC : Nat → ClassId} {dI : Nat → Nat → Nat} {A : Nat → Prop} {cI cJ cZ cG : ClassId} {h h_lives h_shields h_effects h_numbers h_players h_against : Nat} {v_size : Int32} {n_effects : Nat → Int32} {k_2 : (Nat → Int32) → Int32 → Int32 → Option ((Nat → Int32))} (C0 : wCX p s args m meth c cX6_turn 4 none RX6 wsX6_turn) (hA : ∀ q, s.heap.size ≤ q → A q) (hK : va_K (dC, dI) vwCl (tysW cI cJ cZ cG) s) (hk_2 : ∀ (v_effects : Nat → Int32) (l1 : Int32) (l2 : Int32) (H : Heap) (locs : List Loc) (ls : Array Slot), k_2 v_effects l1 l2 = some n_effects → va_P (dC, dI) vwCl (wcX6_turn cI cJ cZ cG h h_lives h_shields h_effects h_numbers h_players h_against v_size v_effects) H → va_D A (wcX6_turn cI cJ cZ cG h h_lives h_shields h_effects h_numbers h_players h_against v_size v_effects) → va_S A s.heap H locs → lv_has ls 4 [(0, .ref h), (1, .int l1), (2, .int l2)] → W p l e rmX6_turn s m args below meth c H locs 0 0 (MQ below (wQv (wcX6_turn cI cJ cZ cG h h_lives h_shields h_effects h_numbers h_players h_against v_size n_effects) (dC, dI) A) args s 0 0 A) (F0 m 2 ls [])) : ∀ (v_effects : Nat → Int32) (l1 : Int32) (l2 : Int32) (H : Heap) (locs : List Loc) (ls : Array Slot), fX6_turn_b69 k_2 v_size v_effects l1 l2 = some n_effects → va_P (dC, dI) vwCl (wcX6_turn cI cJ cZ cG h h_lives h_shields h_effects h_numbers h_players h_against v_size v_effects) H → va_D A (wcX6_turn cI cJ cZ cG h h_lives h_shields h_effects h_numbers h_players h_against v_size v_effects) → va_S A s.heap H locs → lv_has ls 4 [(0, .ref h), (1, .int l1), (2, .int l2)] → W p l e rmX6_turn s m args below meth c H locs 0 0 (MQ below (wQv (wcX6_turn cI cJ cZ cG h h_lives h_shields h_effects h_numbers h_players h_against v_size n_effects) (dC, dI) A) args s 0 0 A) (F0 m 69 ls []) := by
  obtain ⟨hx, hb, hr, hml, hown, hts, hlocks⟩ := id C0
  intro v_effects l1 l2 H locs ls hf hP hD hS hl
  unfold fX6_turn_b69 at hf
  obtain ⟨x_1, ex_1, hf⟩ := nm_s hf
  refine lv_iinc (v := x_1) (lv' := [(2, .int x_1), (0, .ref h), (1, .int l1)]) hx hb dX6_turn_69 hl (k := 2) rfl (by rw [ex_1]; rfl) (by decide) rfl (fun ls hl => ?_)
  refine lv_goto (tgt := 2) hx hb dX6_turn_72 (by decide) ?_
  have hf : k_2 v_effects l1 x_1 = some n_effects := hf
  exact hk_2 v_effects l1 x_1 _ _ _ hf hP hD hS (lv_sub hl [1, 2, 0] rfl)
set_option maxHeartbeats 4000000 in
set_option maxRecDepth 100000 in
theorem kX6_turn_48 {p : Program} {l : Launch} {e : Env} {s : State} {m : MethodId} {args : Array Value} {below : List Frame} {meth : Method} {c : Code} {dC : Nat → ClassId} {dI : Nat → Nat → Nat} {A : Nat → Prop} {cI cJ cZ cG : ClassId} {h h_lives h_shields h_effects h_numbers h_players h_against : Nat} {v_size : Int32} {n_effects : Nat → Int32} {k_2 : (Nat → Int32) → Int32 → Int32 → Option ((Nat → Int32))} (C0 : wCX p s args m meth c cX6_turn 4 none RX6 wsX6_turn) (hA : ∀ q, s.heap.size ≤ q → A q) (hK : va_K (dC, dI) vwCl (tysW cI cJ cZ cG) s) (hk_2 : ∀ (v_effects : Nat → Int32) (l1 : Int32) (l2 : Int32) (H : Heap) (locs : List Loc) (ls : Array Slot), k_2 v_effects l1 l2 = some n_effects → va_P (dC, dI) vwCl (wcX6_turn cI cJ cZ cG h h_lives h_shields h_effects h_numbers h_players h_against v_size v_effects) H → va_D A (wcX6_turn cI cJ cZ cG h h_lives h_shields h_effects h_numbers h_players h_against v_size v_effects) → va_S A s.heap H locs → lv_has ls 4 [(0, .ref h), (1, .int l1), (2, .int l2)] → W p l e rmX6_turn s m args below meth c H locs 0 0 (MQ below (wQv (wcX6_turn cI cJ cZ cG h h_lives h_shields h_effects h_numbers h_players h_against v_size n_effects) (dC, dI) A) args s 0 0 A) (F0 m 2 ls [])) : ∀ (v_effects : Nat → Int32) (l1 : Int32) (l2 : Int32) (l3 : Int32) (hz_l3 : wB l3) (H : Heap) (locs : List Loc) (ls : Array Slot), fX6_turn_b48 k_2 v_size v_effects l1 l2 l3 = some n_effects → va_P (dC, dI) vwCl (wcX6_turn cI cJ cZ cG h h_lives h_shields h_effects h_numbers h_players h_against v_size v_effects) H → va_D A (wcX6_turn cI cJ cZ cG h h_lives h_shields h_effects h_numbers h_players h_against v_size v_effects) → va_S A s.heap H locs → lv_has ls 4 [(0, .ref h), (1, .int l1), (2, .int l2), (3, .int l3)] → W p l e rmX6_turn s m args below meth c H locs 0 0 (MQ below (wQv (wcX6_turn cI cJ cZ cG h h_lives h_shields h_effects h_numbers h_players h_against v_size n_effects) (dC, dI) A) args s 0 0 A) (F0 m 48 ls []) := by
  obtain ⟨hx, hb, hr, hml, hown, hts, hlocks⟩ := id C0
  intro v_effects l1 l2 l3 hz_l3 H locs ls hf hP hD hS hl
  unfold fX6_turn_b48 at hf
  refine lv_iload_n hx hb dX6_turn_48 rfl (lv_at hl 3 rfl) ?_
  refine lv_if_eq (tgt := 69) hx hb dX6_turn_49 (by decide) (fun c_1 => ?_) (fun c_1 => ?_)
  · have hf := it_t hf c_1
    have hf : fX6_turn_b69 k_2 v_size v_effects l1 l2 = some n_effects := hf
    exact kX6_turn_69 C0 hA hK hk_2 v_effects l1 l2 _ _ _ hf hP hD hS (lv_sub hl [0, 1, 2] rfl)
  · have hf := it_f hf c_1
    refine lv_aload_n hx hb dX6_turn_52 rfl (lv_at hl 0 rfl) ?_
    refine va_get (D := (dC, dI)) (ci := 6) (v := .ref h_effects) (C := RX6) (T := TX6) (N := 7) hx hb hts iX6_turn_X6 hown hK hP 0 rfl rfl 2 (by decide) (hts _ mX6_turn_1) (fun _ h9 => h9) rfl dX6_turn_53 ?_
    refine lv_iload_n hx hb dX6_turn_56 rfl (lv_at hl 2 rfl) ?_
    obtain ⟨hg_2, hf⟩ := ck_s hf
    refine va_iald (D := (dC, dI)) hx hb hK hP 1 0 rfl rfl (g_vp hg_2) dX6_turn_57 ?_
    refine lv_iconst (v := 1) hx hb dX6_turn_58 (by decide) ?_
    refine lv_icmp_ne (tgt := 69) hx hb dX6_turn_59 (by decide) (fun c_3 => ?_) (fun c_3 => ?_)
    · have hf := it_f hf c_3
      have hf : fX6_turn_b69 k_2 v_size v_effects l1 l2 = some n_effects := hf
      exact kX6_turn_69 C0 hA hK hk_2 v_effects l1 l2 _ _ _ hf hP hD hS (lv_sub hl [0, 1, 2] rfl)
    · have hf := it_t hf c_3
      refine lv_aload_n hx hb dX6_turn_62 rfl (lv_at hl 0 rfl) ?_
      refine va_get (D := (dC, dI)) (ci := 6) (v := .ref h_effects) (C := RX6) (T := TX6) (N := 7) hx hb hts iX6_turn_X6 hown hK hP 0 rfl rfl 2 (by decide) (hts _ mX6_turn_1) (fun _ h9 => h9) rfl dX6_turn_63 ?_
      refine lv_iload_n hx hb dX6_turn_66 rfl (lv_at hl 2 rfl) ?_
      refine lv_iconst (v := 0) hx hb dX6_turn_67 (by decide) ?_
      obtain ⟨hg_4, hf⟩ := ck_s hf
      refine va_iast (D := (dC, dI)) hx hb hK hP hD hS 1 0 rfl rfl (g_vp hg_4) dX6_turn_68 (fun H locs hP hD hS => ?_)
      have hP : va_P (dC, dI) vwCl (wcX6_turn cI cJ cZ cG h h_lives h_shields h_effects h_numbers h_players h_against v_size (upd v_effects l2.toNatClampNeg 0)) H := hP
      have hD : va_D A (wcX6_turn cI cJ cZ cG h h_lives h_shields h_effects h_numbers h_players h_against v_size (upd v_effects l2.toNatClampNeg 0)) := hD
      have hf : fX6_turn_b69 k_2 v_size (upd v_effects l2.toNatClampNeg 0) l1 l2 = some n_effects := hf
      exact kX6_turn_69 C0 hA hK hk_2 (upd v_effects l2.toNatClampNeg 0) l1 l2 _ _ _ hf hP hD hS (lv_sub hl [0, 1, 2] rfl)
set_option maxHeartbeats 4000000 in
set_option maxRecDepth 100000 in
theorem kX6_turn_24 {p : Program} {l : Launch} {e : Env} {s : State} {m : MethodId} {args : Array Value} {below : List Frame} {meth : Method} {c : Code} {dC : Nat → ClassId} {dI : Nat → Nat → Nat} {A : Nat → Prop} {cI cJ cZ cG : ClassId} {h h_lives h_shields h_effects h_numbers h_players h_against : Nat} {v_size : Int32} {n_effects : Nat → Int32} {k_2 : (Nat → Int32) → Int32 → Int32 → Option ((Nat → Int32))} (C0 : wCX p s args m meth c cX6_turn 4 none RX6 wsX6_turn) (hA : ∀ q, s.heap.size ≤ q → A q) (hK : va_K (dC, dI) vwCl (tysW cI cJ cZ cG) s) (hk_2 : ∀ (v_effects : Nat → Int32) (l1 : Int32) (l2 : Int32) (H : Heap) (locs : List Loc) (ls : Array Slot), k_2 v_effects l1 l2 = some n_effects → va_P (dC, dI) vwCl (wcX6_turn cI cJ cZ cG h h_lives h_shields h_effects h_numbers h_players h_against v_size v_effects) H → va_D A (wcX6_turn cI cJ cZ cG h h_lives h_shields h_effects h_numbers h_players h_against v_size v_effects) → va_S A s.heap H locs → lv_has ls 4 [(0, .ref h), (1, .int l1), (2, .int l2)] → W p l e rmX6_turn s m args below meth c H locs 0 0 (MQ below (wQv (wcX6_turn cI cJ cZ cG h h_lives h_shields h_effects h_numbers h_players h_against v_size n_effects) (dC, dI) A) args s 0 0 A) (F0 m 2 ls [])) : ∀ (v_effects : Nat → Int32) (l1 : Int32) (l2 : Int32) (s0 : Int32) (hz_s0 : wB s0) (H : Heap) (locs : List Loc) (ls : Array Slot), fX6_turn_b24 k_2 v_size v_effects l1 l2 s0 = some n_effects → va_P (dC, dI) vwCl (wcX6_turn cI cJ cZ cG h h_lives h_shields h_effects h_numbers h_players h_against v_size v_effects) H → va_D A (wcX6_turn cI cJ cZ cG h h_lives h_shields h_effects h_numbers h_players h_against v_size v_effects) → va_S A s.heap H locs → lv_has ls 4 [(0, .ref h), (1, .int l1), (2, .int l2)] → W p l e rmX6_turn s m args below meth c H locs 0 0 (MQ below (wQv (wcX6_turn cI cJ cZ cG h h_lives h_shields h_effects h_numbers h_players h_against v_size n_effects) (dC, dI) A) args s 0 0 A) (F0 m 24 ls [.int s0]) := by
  obtain ⟨hx, hb, hr, hml, hown, hts, hlocks⟩ := id C0
  intro v_effects l1 l2 s0 hz_s0 H locs ls hf hP hD hS hl
  unfold fX6_turn_b24 at hf
  refine lv_istore_n (lv' := [(3, .int s0), (0, .ref h), (1, .int l1), (2, .int l2)]) hx hb dX6_turn_24 rfl hl (by decide) rfl (fun ls hl => ?_)
  refine lv_iload_n hx hb dX6_turn_25 rfl (lv_at hl 0 rfl) ?_
  refine lv_if_eq (tgt := 48) hx hb dX6_turn_26 (by decide) (fun c_1 => ?_) (fun c_1 => ?_)
  · have hf := it_t hf c_1
    have hf : fX6_turn_b48 k_2 v_size v_effects l1 l2 s0 = some n_effects := hf
    exact kX6_turn_48 C0 hA hK hk_2 v_effects l1 l2 s0 hz_s0 _ _ _ hf hP hD hS (lv_sub hl [1, 2, 3, 0] rfl)
  · have hf := it_f hf c_1
    refine lv_aload_n hx hb dX6_turn_29 rfl (lv_at hl 1 rfl) ?_
    refine va_get (D := (dC, dI)) (ci := 6) (v := .ref h_effects) (C := RX6) (T := TX6) (N := 7) hx hb hts iX6_turn_X6 hown hK hP 0 rfl rfl 2 (by decide) (hts _ mX6_turn_1) (fun _ h9 => h9) rfl dX6_turn_30 ?_
    refine lv_iload_n hx hb dX6_turn_33 rfl (lv_at hl 3 rfl) ?_
    obtain ⟨hg_2, hf⟩ := ck_s hf
    refine va_iald (D := (dC, dI)) hx hb hK hP 1 0 rfl rfl (g_vp hg_2) dX6_turn_34 ?_
    refine lv_if_ne (tgt := 48) hx hb dX6_turn_35 (by decide) (fun c_3 => ?_) (fun c_3 => ?_)
    · have hf := it_f hf c_3
      have hf : fX6_turn_b48 k_2 v_size v_effects l1 l2 s0 = some n_effects := hf
      exact kX6_turn_48 C0 hA hK hk_2 v_effects l1 l2 s0 hz_s0 _ _ _ hf hP hD hS (lv_sub hl [1, 2, 3, 0] rfl)
    · have hf := it_t hf c_3
      refine lv_aload_n hx hb dX6_turn_38 rfl (lv_at hl 1 rfl) ?_
      refine va_get (D := (dC, dI)) (ci := 6) (v := .ref h_effects) (C := RX6) (T := TX6) (N := 7) hx hb hts iX6_turn_X6 hown hK hP 0 rfl rfl 2 (by decide) (hts _ mX6_turn_1) (fun _ h9 => h9) rfl dX6_turn_39 ?_
      refine lv_iload_n hx hb dX6_turn_42 rfl (lv_at hl 3 rfl) ?_
      refine lv_iconst (v := 1) hx hb dX6_turn_43 (by decide) ?_
      obtain ⟨hg_4, hf⟩ := ck_s hf
      refine va_iast (D := (dC, dI)) hx hb hK hP hD hS 1 0 rfl rfl (g_vp hg_4) dX6_turn_44 (fun H locs hP hD hS => ?_)
      have hP : va_P (dC, dI) vwCl (wcX6_turn cI cJ cZ cG h h_lives h_shields h_effects h_numbers h_players h_against v_size (upd v_effects l2.toNatClampNeg 1)) H := hP
      have hD : va_D A (wcX6_turn cI cJ cZ cG h h_lives h_shields h_effects h_numbers h_players h_against v_size (upd v_effects l2.toNatClampNeg 1)) := hD
      refine lv_goto (tgt := 69) hx hb dX6_turn_45 (by decide) ?_
      have hf : fX6_turn_b69 k_2 v_size (upd v_effects l2.toNatClampNeg 1) l1 l2 = some n_effects := hf
      exact kX6_turn_69 C0 hA hK hk_2 (upd v_effects l2.toNatClampNeg 1) l1 l2 _ _ _ hf hP hD hS (lv_sub hl [1, 2, 3] rfl)
set_option maxHeartbeats 4000000 in
set_option maxRecDepth 100000 in
theorem kX6_turn_2 {p : Program} {l : Launch} {e : Env} {s : State} {m : MethodId} {args : Array Value} {below : List Frame} {meth : Method} {c : Code} {dC : Nat → ClassId} {dI : Nat → Nat → Nat} {A : Nat → Prop} {cI cJ cZ cG : ClassId} {h h_lives h_shields h_effects h_numbers h_players h_against : Nat} {v_size : Int32} {n_effects : Nat → Int32} (C0 : wCX p s args m meth c cX6_turn 4 none RX6 wsX6_turn) (hA : ∀ q, s.heap.size ≤ q → A q) (hK : va_K (dC, dI) vwCl (tysW cI cJ cZ cG) s) : ∀ (n : Nat), ∀ (v_effects : Nat → Int32) (l1 : Int32) (l2 : Int32) (H : Heap) (locs : List Loc) (ls : Array Slot), fX6_turn_b2 v_size n v_effects l1 l2 = some n_effects → va_P (dC, dI) vwCl (wcX6_turn cI cJ cZ cG h h_lives h_shields h_effects h_numbers h_players h_against v_size v_effects) H → va_D A (wcX6_turn cI cJ cZ cG h h_lives h_shields h_effects h_numbers h_players h_against v_size v_effects) → va_S A s.heap H locs → lv_has ls 4 [(0, .ref h), (1, .int l1), (2, .int l2)] → W p l e rmX6_turn s m args below meth c H locs 0 0 (MQ below (wQv (wcX6_turn cI cJ cZ cG h h_lives h_shields h_effects h_numbers h_players h_against v_size n_effects) (dC, dI) A) args s 0 0 A) (F0 m 2 ls []) := by
  obtain ⟨hx, hb, hr, hml, hown, hts, hlocks⟩ := id C0
  intro n
  induction n with
  | zero =>
    intro v_effects l1 l2 H locs ls hf hP hD hS hl
    rw [fX6_turn_b2] at hf
    cases hf
  | succ n ih =>
    intro v_effects l1 l2 H locs ls hf hP hD hS hl
    rw [fX6_turn_b2] at hf
    refine lv_iload_n hx hb dX6_turn_2 rfl (lv_at hl 2 rfl) ?_
    refine lv_aload_n hx hb dX6_turn_3 rfl (lv_at hl 0 rfl) ?_
    refine va_get (D := (dC, dI)) (ci := 6) (v := .int v_size) (C := RX6) (T := TX6) (N := 7) hx hb hts iX6_turn_X6 hown hK hP 0 rfl rfl 6 (by decide) (hts _ mX6_turn_0) (fun _ h9 => h9) rfl dX6_turn_4 ?_
    refine lv_icmp_ge (tgt := 75) hx hb dX6_turn_7 (by decide) (fun c_1 => ?_) (fun c_1 => ?_)
    · have hf := it_t hf c_1
      have hf : some v_effects = some n_effects := hf
      cases hf
      exact w_vret hx hb hr hlocks hP hD hS dX6_turn_75
    · have hf := it_f hf c_1
      refine lv_iload_n hx hb dX6_turn_10 rfl (lv_at hl 1 rfl) ?_
      refine lv_iload_n hx hb dX6_turn_11 rfl (lv_at hl 2 rfl) ?_
      refine lv_ishr hx hb dX6_turn_12 ?_
      refine lv_iconst (v := 1) hx hb dX6_turn_13 (by decide) ?_
      refine lv_iand hx hb dX6_turn_14 ?_
      refine lv_iconst (v := 1) hx hb dX6_turn_15 (by decide) ?_
      refine lv_icmp_ne (tgt := 23) hx hb dX6_turn_16 (by decide) (fun c_2 => ?_) (fun c_2 => ?_)
      · have hf := it_f hf c_2
        refine lv_iconst (v := 0) hx hb dX6_turn_23 (by decide) ?_
        have hf : fX6_turn_b24 (fX6_turn_b2 v_size n) v_size v_effects l1 l2 0 = some n_effects := hf
        exact kX6_turn_24 C0 hA hK ih v_effects l1 l2 0 (Or.inl rfl) _ _ _ hf hP hD hS (lv_sub hl [0, 1, 2] rfl)
      · have hf := it_t hf c_2
        refine lv_iconst (v := 1) hx hb dX6_turn_19 (by decide) ?_
        refine lv_goto (tgt := 24) hx hb dX6_turn_20 (by decide) ?_
        have hf : fX6_turn_b24 (fX6_turn_b2 v_size n) v_size v_effects l1 l2 1 = some n_effects := hf
        exact kX6_turn_24 C0 hA hK ih v_effects l1 l2 1 (Or.inr rfl) _ _ _ hf hP hD hS (lv_sub hl [0, 1, 2] rfl)
set_option maxHeartbeats 4000000 in
set_option maxRecDepth 100000 in
theorem oX6_turn (l : Launch) (dC : Nat → ClassId) (dI : Nat → Nat → Nat) (cI cJ cZ cG : ClassId) (h h_lives h_shields h_effects h_numbers h_players h_against : Nat) (v_size : Int32) (v_effects : Nat → Int32) (sz : Nat) (p1 : Int32) (n_effects : Nat → Int32) (hf : fX6_turn v_size v_effects p1 = some n_effects) : Met l yX6_turn wsX6_turn rmX6_turn (wPc [.ref h, .int p1] (dC, dI) (tysW cI cJ cZ cG) sz (wcX6_turn cI cJ cZ cG h h_lives h_shields h_effects h_numbers h_players h_against v_size v_effects)) (wQv (wcX6_turn cI cJ cZ cG h h_lives h_shields h_effects h_numbers h_players h_against v_size n_effects) (dC, dI) (va_A (wcX6_turn cI cJ cZ cG h h_lives h_shields h_effects h_numbers h_players h_against v_size v_effects) sz)) 0 0 (va_A (wcX6_turn cI cJ cZ cG h h_lives h_shields h_effects h_numbers h_players h_against v_size v_effects) sz) := by
  refine Met.ofW (cc := cX6_turn) (maxL := 4) (ret := none) (by decide) rfl ?_
  intro p e s m args below meth c s₁ B hml hv
  obtain ⟨rfl, hsz, hP, hK, hD0⟩ := hv
  have hx := B.exec
  have hb := B.bytes
  have hr := B.returns
  have hts := atoms_spec (ws := wsX6_turn) B.pre
  have hown : s.vm.findClass RX6 = some m.cls := findClass_of_methodNamed B.named
  have hlocks := B.notSynchronized
  subst hsz
  have hD := hD0.self (sz := s.heap.size)
  generalize hAe : va_A (wcX6_turn cI cJ cZ cG h h_lives h_shields h_effects h_numbers h_players h_against v_size v_effects) s.heap.size = A at hD ⊢
  have hA : ∀ q : Nat, s.heap.size ≤ q → A q := fun q h => by rw [← hAe]; exact Or.inr h
  have hS : va_S A s.heap s.heap [] := va_S.rf
  have hP : va_P (dC, dI) vwCl (wcX6_turn cI cJ cZ cG h h_lives h_shields h_effects h_numbers h_players h_against v_size v_effects) s.heap := hP
  have hl := lv_entry ([.ref h, .int p1]) (n := 4) (Nat.le_of_ble_eq_true rfl)
  rw [lg_entry_eq]
  generalize (lg_sl ([.ref h, .int p1]) ++ List.replicate (4 - (lg_sl ([.ref h, .int p1])).length) Slot.unset).toArray = ls at hl ⊢
  have hl : lv_has ls 4 [(0, .ref h), (1, .int p1)] := hl
  generalize hH : s.heap = H at hP hS ⊢
  have hS : va_S A s.heap H [] := by rw [hH]; exact hS
  have C0 : wCX p s #[.ref h, .int p1] m meth c cX6_turn 4 none RX6 wsX6_turn := ⟨hx, hb, hr, hml, hown, hts, hlocks⟩
  show W p l e rmX6_turn s m #[.ref h, .int p1] below meth c H [] 0 0 (MQ below (wQv (wcX6_turn cI cJ cZ cG h h_lives h_shields h_effects h_numbers h_players h_against v_size n_effects) (dC, dI) A) #[.ref h, .int p1] s 0 0 A) (F0 m 0 ls [])
  unfold fX6_turn at hf
  refine lv_iconst (v := 0) hx hb dX6_turn_0 (by decide) ?_
  refine lv_istore_n (lv' := [(2, .int 0), (0, .ref h), (1, .int p1)]) hx hb dX6_turn_1 rfl hl (by decide) rfl (fun ls hl => ?_)
  have hf : fX6_turn_b2 v_size 70 v_effects p1 0 = some n_effects := hf
  exact kX6_turn_2 C0 hA hK 70 v_effects p1 0 _ _ _ hf hP hD hS (lv_sub hl [1, 2, 0] rfl)
abbrev wcX6_touch (cI cJ cZ cG : ClassId) (h h_lives h_shields h_effects h_numbers h_players h_against : Nat) (v_size : Int32) (v_lives : Nat → Int32) (v_shields : Nat → Int32) (v_effects : Nat → Int32) (v_numbers : Nat → Int32) (v_against : Nat → Int32) : va_W := [(h, .inr (6, [.ref h_lives, .ref h_shields, .ref h_effects, .ref h_numbers, .ref h_players, .ref h_against, .int v_size])), (h_lives, .inl (cI, 6, .inl v_lives)), (h_shields, .inl (cI, 6, .inl v_shields)), (h_effects, .inl (cI, 6, .inl v_effects)), (h_numbers, .inl (cI, 6, .inl v_numbers)), (h_against, .inl (cI, 6, .inl v_against))]
theorem iX6_touch_X6 : ∀ w ∈ wsX60, w ∈ wsX6_touch := by decide +kernel
theorem mX6_touch_0 : (Cond.fieldLink RX6 27 "Sleevehall$Table" "against" "[I") ∈ wsX6_touch := by decide +kernel
theorem mX6_touch_1 : (Cond.fieldLink RX6 21 "Sleevehall$Table" "numbers" "[I") ∈ wsX6_touch := by decide +kernel
theorem mX6_touch_2 : (Cond.fieldLink RX6 9 "Sleevehall$Table" "lives" "[I") ∈ wsX6_touch := by decide +kernel
theorem mX6_touch_3 : (Cond.fieldLink RX6 15 "Sleevehall$Table" "shields" "[I") ∈ wsX6_touch := by decide +kernel
theorem mX6_touch_4 : (Cond.fieldLink RX6 18 "Sleevehall$Table" "effects" "[I") ∈ wsX6_touch := by decide +kernel
theorem mX6_touch_5 : (Cond.methodLink RX6 61 Lib.Math.min.name) ∈ wsX6_touch := by decide +kernel
theorem mX6_touch_6 : (Cond.static Lib.Math.min.name) ∈ wsX6_touch := by decide +kernel
theorem mX6_touch_7 : (Cond.initialized "java/lang/Math") ∈ wsX6_touch := by decide +kernel
theorem mX6_touch_8 : (Cond.code Lib.Math.min.name Lib.Math.min.code 2 (some .int)) ∈ wsX6_touch := by decide +kernel
theorem mX6_touch_9 : (Cond.constantLong RX6 67 (-2147483648)) ∈ wsX6_touch := by decide +kernel
theorem mX6_touch_10 : (Cond.constantLong RX6 69 (2147483647)) ∈ wsX6_touch := by decide +kernel
abbrev rmX6_touch : Room := { frames := 1, cells := 0, slots := 0, locals := 21 }
set_option maxHeartbeats 4000000 in
set_option maxRecDepth 100000 in
theorem kX6_touch_128 {p : Program} {l : Launch} {e : Env} {s : State} {m : MethodId} {args : Array Value} {below : List Frame} {meth : Method} {c : Code} {dC : Nat → ClassId} {dI : Nat → Nat → Nat} {A : Nat → Prop} {cI cJ cZ cG : ClassId} {h h_lives h_shields h_effects h_numbers h_players h_against : Nat} {v_size : Int32} {v_effects : Nat → Int32} {v_numbers : Nat → Int32} {v_against : Nat → Int32} {r0 : Int32} {n_lives : Nat → Int32} {n_shields : Nat → Int32} (C0 : wCX p s args m meth c cX6_touch 9 (some .boolean) RX6 wsX6_touch) (hA : ∀ q, s.heap.size ≤ q → A q) (hK : va_K (dC, dI) vwCl (tysW cI cJ cZ cG) s) : ∀ (v_lives : Nat → Int32) (v_shields : Nat → Int32) (H : Heap) (locs : List Loc) (ls : Array Slot), fX6_touch_b128 v_effects v_numbers v_against v_lives v_shields = some (r0, n_lives, n_shields) → va_P (dC, dI) vwCl (wcX6_touch cI cJ cZ cG h h_lives h_shields h_effects h_numbers h_players h_against v_size v_lives v_shields v_effects v_numbers v_against) H → va_D A (wcX6_touch cI cJ cZ cG h h_lives h_shields h_effects h_numbers h_players h_against v_size v_lives v_shields v_effects v_numbers v_against) → va_S A s.heap H locs → lv_has ls 9 [] → W p l e rmX6_touch s m args below meth c H locs 0 0 (MQ below (wQz r0 (wcX6_touch cI cJ cZ cG h h_lives h_shields h_effects h_numbers h_players h_against v_size n_lives n_shields v_effects v_numbers v_against) (dC, dI) A) args s 0 0 A) (F0 m 128 ls []) := by
  obtain ⟨hx, hb, hr, hml, hown, hts, hlocks⟩ := id C0
  intro v_lives v_shields H locs ls hf hP hD hS hl
  unfold fX6_touch_b128 at hf
  refine lv_iconst (v := 0) hx hb dX6_touch_128 (by decide) ?_
  have hf : some (0, v_lives, v_shields) = some (r0, n_lives, n_shields) := hf
  cases hf
  exact w_zret hx hb hr hlocks rfl (Or.inl rfl) hP hD hS dX6_touch_129
set_option maxHeartbeats 4000000 in
set_option maxRecDepth 100000 in
theorem kX6_touch_101 {p : Program} {l : Launch} {e : Env} {s : State} {m : MethodId} {args : Array Value} {below : List Frame} {meth : Method} {c : Code} {dC : Nat → ClassId} {dI : Nat → Nat → Nat} {A : Nat → Prop} {cI cJ cZ cG : ClassId} {h h_lives h_shields h_effects h_numbers h_players h_against : Nat} {v_size : Int32} {v_effects : Nat → Int32} {v_numbers : Nat → Int32} {v_against : Nat → Int32} {r0 : Int32} {n_lives : Nat → Int32} {n_shields : Nat → Int32} (C0 : wCX p s args m meth c cX6_touch 9 (some .boolean) RX6 wsX6_touch) (hA : ∀ q, s.heap.size ≤ q → A q) (hK : va_K (dC, dI) vwCl (tysW cI cJ cZ cG) s) : ∀ (v_lives : Nat → Int32) (v_shields : Nat → Int32) (l2 : Int32) (l4 : Int64) (l6 : Int64) (H : Heap) (locs : List Loc) (ls : Array Slot), fX6_touch_b101 v_effects v_numbers v_against v_lives v_shields l2 l4 l6 = some (r0, n_lives, n_shields) → va_P (dC, dI) vwCl (wcX6_touch cI cJ cZ cG h h_lives h_shields h_effects h_numbers h_players h_against v_size v_lives v_shields v_effects v_numbers v_against) H → va_D A (wcX6_touch cI cJ cZ cG h h_lives h_shields h_effects h_numbers h_players h_against v_size v_lives v_shields v_effects v_numbers v_against) → va_S A s.heap H locs → lv_has ls 9 [(0, .ref h), (2, .int l2), (4, .long l4), (6, .long l6)] → W p l e rmX6_touch s m args below meth c H locs 0 0 (MQ below (wQz r0 (wcX6_touch cI cJ cZ cG h h_lives h_shields h_effects h_numbers h_players h_against v_size n_lives n_shields v_effects v_numbers v_against) (dC, dI) A) args s 0 0 A) (F0 m 101 ls []) := by
  obtain ⟨hx, hb, hr, hml, hown, hts, hlocks⟩ := id C0
  intro v_lives v_shields l2 l4 l6 H locs ls hf hP hD hS hl
  unfold fX6_touch_b101 at hf
  refine lv_lload hx hb dX6_touch_101 (lv_at hl 2 rfl) ?_
  refine lv_ldc2 (v := (-2147483648)) hx hb hown (hts _ mX6_touch_9) dX6_touch_103 ?_
  refine W.lcmp hx hb dX6_touch_106 ?_
  refine lv_if_lt (tgt := 128) hx hb dX6_touch_107 (by decide) (fun c_1 => ?_) (fun c_1 => ?_)
  · have hf := it_t hf c_1
    have hf : fX6_touch_b128 v_effects v_numbers v_against v_lives v_shields = some (r0, n_lives, n_shields) := hf
    exact kX6_touch_128 C0 hA hK v_lives v_shields _ _ _ hf hP hD hS (lv_sub hl [] rfl)
  · have hf := it_f hf c_1
    refine lv_lload hx hb dX6_touch_110 (lv_at hl 2 rfl) ?_
    refine lv_ldc2 (v := 2147483647) hx hb hown (hts _ mX6_touch_10) dX6_touch_112 ?_
    refine W.lcmp hx hb dX6_touch_115 ?_
    refine lv_if_gt (tgt := 128) hx hb dX6_touch_116 (by decide) (fun c_2 => ?_) (fun c_2 => ?_)
    · have hf := it_t hf c_2
      have hf : fX6_touch_b128 v_effects v_numbers v_against v_lives v_shields = some (r0, n_lives, n_shields) := hf
      exact kX6_touch_128 C0 hA hK v_lives v_shields _ _ _ hf hP hD hS (lv_sub hl [] rfl)
    · have hf := it_f hf c_2
      refine lv_lload hx hb dX6_touch_119 (lv_at hl 3 rfl) ?_
      refine lv_ldc2 (v := 2147483647) hx hb hown (hts _ mX6_touch_10) dX6_touch_121 ?_
      refine W.lcmp hx hb dX6_touch_124 ?_
      refine lv_if_le (tgt := 130) hx hb dX6_touch_125 (by decide) (fun c_3 => ?_) (fun c_3 => ?_)
      · have hf := it_t hf c_3
        refine lv_aload_n hx hb dX6_touch_130 rfl (lv_at hl 0 rfl) ?_
        refine va_get (D := (dC, dI)) (ci := 6) (v := .ref h_lives) (C := RX6) (T := TX6) (N := 7) hx hb hts iX6_touch_X6 hown hK hP 0 rfl rfl 0 (by decide) (hts _ mX6_touch_2) (fun _ h9 => h9) rfl dX6_touch_131 ?_
        refine lv_iload_n hx hb dX6_touch_134 rfl (lv_at hl 1 rfl) ?_
        refine lv_lload hx hb dX6_touch_135 (lv_at hl 2 rfl) ?_
        refine lv_l2i (v := l4.toInt32) hx hb dX6_touch_137 rfl ?_
        obtain ⟨x_4, ex_4, hf⟩ := nm_s hf
        refine w_eqi ex_4 ?_
        obtain ⟨hg_5, hf⟩ := ck_s hf
        refine va_iast (D := (dC, dI)) hx hb hK hP hD hS 1 0 rfl rfl (g_vp hg_5) dX6_touch_138 (fun H locs hP hD hS => ?_)
        have hP : va_P (dC, dI) vwCl (wcX6_touch cI cJ cZ cG h h_lives h_shields h_effects h_numbers h_players h_against v_size (upd v_lives l2.toNatClampNeg x_4) v_shields v_effects v_numbers v_against) H := hP
        have hD : va_D A (wcX6_touch cI cJ cZ cG h h_lives h_shields h_effects h_numbers h_players h_against v_size (upd v_lives l2.toNatClampNeg x_4) v_shields v_effects v_numbers v_against) := hD
        refine lv_aload_n hx hb dX6_touch_139 rfl (lv_at hl 0 rfl) ?_
        refine va_get (D := (dC, dI)) (ci := 6) (v := .ref h_shields) (C := RX6) (T := TX6) (N := 7) hx hb hts iX6_touch_X6 hown hK hP 0 rfl rfl 1 (by decide) (hts _ mX6_touch_3) (fun _ h9 => h9) rfl dX6_touch_140 ?_
        refine lv_iload_n hx hb dX6_touch_143 rfl (lv_at hl 1 rfl) ?_
        refine lv_lload hx hb dX6_touch_144 (lv_at hl 3 rfl) ?_
        refine lv_l2i (v := l6.toInt32) hx hb dX6_touch_146 rfl ?_
        obtain ⟨x_6, ex_6, hf⟩ := nm_s hf
        refine w_eqi ex_6 ?_
        obtain ⟨hg_7, hf⟩ := ck_s hf
        refine va_iast (D := (dC, dI)) hx hb hK hP hD hS 2 0 rfl rfl (g_vp hg_7) dX6_touch_147 (fun H locs hP hD hS => ?_)
        have hP : va_P (dC, dI) vwCl (wcX6_touch cI cJ cZ cG h h_lives h_shields h_effects h_numbers h_players h_against v_size (upd v_lives l2.toNatClampNeg x_4) (upd v_shields l2.toNatClampNeg x_6) v_effects v_numbers v_against) H := hP
        have hD : va_D A (wcX6_touch cI cJ cZ cG h h_lives h_shields h_effects h_numbers h_players h_against v_size (upd v_lives l2.toNatClampNeg x_4) (upd v_shields l2.toNatClampNeg x_6) v_effects v_numbers v_against) := hD
        refine lv_iconst (v := 1) hx hb dX6_touch_148 (by decide) ?_
        have hf : some (1, (upd v_lives l2.toNatClampNeg x_4), (upd v_shields l2.toNatClampNeg x_6)) = some (r0, n_lives, n_shields) := hf
        cases hf
        exact w_zret hx hb hr hlocks rfl (Or.inr rfl) hP hD hS dX6_touch_149
      · have hf := it_f hf c_3
        have hf : fX6_touch_b128 v_effects v_numbers v_against v_lives v_shields = some (r0, n_lives, n_shields) := hf
        exact kX6_touch_128 C0 hA hK v_lives v_shields _ _ _ hf hP hD hS (lv_sub hl [] rfl)
set_option maxHeartbeats 4000000 in
set_option maxRecDepth 100000 in
theorem oX6_touch (l : Launch) (dC : Nat → ClassId) (dI : Nat → Nat → Nat) (cI cJ cZ cG : ClassId) (h h_lives h_shields h_effects h_numbers h_players h_against : Nat) (v_size : Int32) (v_lives : Nat → Int32) (v_shields : Nat → Int32) (v_effects : Nat → Int32) (v_numbers : Nat → Int32) (v_against : Nat → Int32) (sz : Nat) (p1 : Int32) (r0 : Int32) (n_lives : Nat → Int32) (n_shields : Nat → Int32) (hf : fX6_touch v_lives v_shields v_effects v_numbers v_against p1 = some (r0, n_lives, n_shields)) : Met l yX6_touch wsX6_touch rmX6_touch (wPc [.ref h, .int p1] (dC, dI) (tysW cI cJ cZ cG) sz (wcX6_touch cI cJ cZ cG h h_lives h_shields h_effects h_numbers h_players h_against v_size v_lives v_shields v_effects v_numbers v_against)) (wQz r0 (wcX6_touch cI cJ cZ cG h h_lives h_shields h_effects h_numbers h_players h_against v_size n_lives n_shields v_effects v_numbers v_against) (dC, dI) (va_A (wcX6_touch cI cJ cZ cG h h_lives h_shields h_effects h_numbers h_players h_against v_size v_lives v_shields v_effects v_numbers v_against) sz)) 0 0 (va_A (wcX6_touch cI cJ cZ cG h h_lives h_shields h_effects h_numbers h_players h_against v_size v_lives v_shields v_effects v_numbers v_against) sz) := by
  refine Met.ofW (cc := cX6_touch) (maxL := 9) (ret := (some .boolean)) (by decide) rfl ?_
  intro p e s m args below meth c s₁ B hml hv
  obtain ⟨rfl, hsz, hP, hK, hD0⟩ := hv
  have hx := B.exec
  have hb := B.bytes
  have hr := B.returns
  have hts := atoms_spec (ws := wsX6_touch) B.pre
  have hown : s.vm.findClass RX6 = some m.cls := findClass_of_methodNamed B.named
  have hlocks := B.notSynchronized
  subst hsz
  have hD := hD0.self (sz := s.heap.size)
  generalize hAe : va_A (wcX6_touch cI cJ cZ cG h h_lives h_shields h_effects h_numbers h_players h_against v_size v_lives v_shields v_effects v_numbers v_against) s.heap.size = A at hD ⊢
  have hA : ∀ q : Nat, s.heap.size ≤ q → A q := fun q h => by rw [← hAe]; exact Or.inr h
  have hS : va_S A s.heap s.heap [] := va_S.rf
  have hP : va_P (dC, dI) vwCl (wcX6_touch cI cJ cZ cG h h_lives h_shields h_effects h_numbers h_players h_against v_size v_lives v_shields v_effects v_numbers v_against) s.heap := hP
  have hl := lv_entry ([.ref h, .int p1]) (n := 9) (Nat.le_of_ble_eq_true rfl)
  rw [lg_entry_eq]
  generalize (lg_sl ([.ref h, .int p1]) ++ List.replicate (9 - (lg_sl ([.ref h, .int p1])).length) Slot.unset).toArray = ls at hl ⊢
  have hl : lv_has ls 9 [(0, .ref h), (1, .int p1)] := hl
  generalize hH : s.heap = H at hP hS ⊢
  have hS : va_S A s.heap H [] := by rw [hH]; exact hS
  have C0 : wCX p s #[.ref h, .int p1] m meth c cX6_touch 9 (some .boolean) RX6 wsX6_touch := ⟨hx, hb, hr, hml, hown, hts, hlocks⟩
  show W p l e rmX6_touch s m #[.ref h, .int p1] below meth c H [] 0 0 (MQ below (wQz r0 (wcX6_touch cI cJ cZ cG h h_lives h_shields h_effects h_numbers h_players h_against v_size n_lives n_shields v_effects v_numbers v_against) (dC, dI) A) #[.ref h, .int p1] s 0 0 A) (F0 m 0 ls [])
  unfold fX6_touch at hf
  refine lv_aload_n hx hb dX6_touch_0 rfl (lv_at hl 0 rfl) ?_
  refine va_get (D := (dC, dI)) (ci := 6) (v := .ref h_against) (C := RX6) (T := TX6) (N := 7) hx hb hts iX6_touch_X6 hown hK hP 0 rfl rfl 5 (by decide) (hts _ mX6_touch_0) (fun _ h9 => h9) rfl dX6_touch_1 ?_
  refine lv_iload_n hx hb dX6_touch_4 rfl (lv_at hl 1 rfl) ?_
  obtain ⟨hg_1, hf⟩ := ck_s hf
  refine va_iald (D := (dC, dI)) hx hb hK hP 5 0 rfl rfl (g_vp hg_1) dX6_touch_5 ?_
  obtain ⟨x_2, ex_2, hf⟩ := nm_s hf
  refine w_eqi ex_2 ?_
  refine lv_istore_n (lv' := [(2, .int x_2), (0, .ref h), (1, .int p1)]) hx hb dX6_touch_6 rfl hl (by decide) rfl (fun ls hl => ?_)
  refine lv_aload_n hx hb dX6_touch_7 rfl (lv_at hl 1 rfl) ?_
  refine va_get (D := (dC, dI)) (ci := 6) (v := .ref h_numbers) (C := RX6) (T := TX6) (N := 7) hx hb hts iX6_touch_X6 hown hK hP 0 rfl rfl 3 (by decide) (hts _ mX6_touch_1) (fun _ h9 => h9) rfl dX6_touch_8 ?_
  refine lv_iload_n hx hb dX6_touch_11 rfl (lv_at hl 2 rfl) ?_
  obtain ⟨hg_3, hf⟩ := ck_s hf
  refine va_iald (D := (dC, dI)) hx hb hK hP 4 0 rfl rfl (g_vp hg_3) dX6_touch_12 ?_
  obtain ⟨x_4, ex_4, hf⟩ := nm_s hf
  refine w_eqi ex_4 ?_
  refine lv_istore_n (lv' := [(3, .int x_4), (2, .int x_2), (0, .ref h), (1, .int p1)]) hx hb dX6_touch_13 rfl hl (by decide) rfl (fun ls hl => ?_)
  refine lv_aload_n hx hb dX6_touch_14 rfl (lv_at hl 2 rfl) ?_
  refine va_get (D := (dC, dI)) (ci := 6) (v := .ref h_lives) (C := RX6) (T := TX6) (N := 7) hx hb hts iX6_touch_X6 hown hK hP 0 rfl rfl 0 (by decide) (hts _ mX6_touch_2) (fun _ h9 => h9) rfl dX6_touch_15 ?_
  refine lv_iload_n hx hb dX6_touch_18 rfl (lv_at hl 1 rfl) ?_
  obtain ⟨hg_5, hf⟩ := ck_s hf
  refine va_iald (D := (dC, dI)) hx hb hK hP 1 0 rfl rfl (g_vp hg_5) dX6_touch_19 ?_
  refine lv_i2l (v := (v_lives x_2.toNatClampNeg).toInt64) hx hb dX6_touch_20 rfl ?_
  obtain ⟨x_6, ex_6, hf⟩ := nm_s hf
  refine w_eql ex_6 ?_
  refine lv_lstore (lv' := [(4, .long x_6), (3, .int x_4), (2, .int x_2), (0, .ref h), (1, .int p1)]) hx hb dX6_touch_21 hl (by decide) rfl (fun ls hl => ?_)
  refine lv_aload_n hx hb dX6_touch_23 rfl (lv_at hl 3 rfl) ?_
  refine va_get (D := (dC, dI)) (ci := 6) (v := .ref h_shields) (C := RX6) (T := TX6) (N := 7) hx hb hts iX6_touch_X6 hown hK hP 0 rfl rfl 1 (by decide) (hts _ mX6_touch_3) (fun _ h9 => h9) rfl dX6_touch_24 ?_
  refine lv_iload_n hx hb dX6_touch_27 rfl (lv_at hl 2 rfl) ?_
  obtain ⟨hg_7, hf⟩ := ck_s hf
  refine va_iald (D := (dC, dI)) hx hb hK hP 2 0 rfl rfl (g_vp hg_7) dX6_touch_28 ?_
  refine lv_i2l (v := (v_shields x_2.toNatClampNeg).toInt64) hx hb dX6_touch_29 rfl ?_
  obtain ⟨x_8, ex_8, hf⟩ := nm_s hf
  refine w_eql ex_8 ?_
  refine lv_lstore (lv' := [(6, .long x_8), (4, .long x_6), (3, .int x_4), (2, .int x_2), (0, .ref h), (1, .int p1)]) hx hb dX6_touch_30 hl (by decide) rfl (fun ls hl => ?_)
  refine lv_aload_n hx hb dX6_touch_32 rfl (lv_at hl 4 rfl) ?_
  refine va_get (D := (dC, dI)) (ci := 6) (v := .ref h_effects) (C := RX6) (T := TX6) (N := 7) hx hb hts iX6_touch_X6 hown hK hP 0 rfl rfl 2 (by decide) (hts _ mX6_touch_4) (fun _ h9 => h9) rfl dX6_touch_33 ?_
  refine lv_iload_n hx hb dX6_touch_36 rfl (lv_at hl 5 rfl) ?_
  obtain ⟨hg_9, hf⟩ := ck_s hf
  refine va_iald (D := (dC, dI)) hx hb hK hP 3 0 rfl rfl (g_vp hg_9) dX6_touch_37 ?_
  refine lv_if_ne (tgt := 74) hx hb dX6_touch_38 (by decide) (fun c_10 => ?_) (fun c_10 => ?_)
  · have hf := it_f hf c_10
    refine lv_aload_n hx hb dX6_touch_74 rfl (lv_at hl 4 rfl) ?_
    refine va_get (D := (dC, dI)) (ci := 6) (v := .ref h_effects) (C := RX6) (T := TX6) (N := 7) hx hb hts iX6_touch_X6 hown hK hP 0 rfl rfl 2 (by decide) (hts _ mX6_touch_4) (fun _ h9 => h9) rfl dX6_touch_75 ?_
    refine lv_iload_n hx hb dX6_touch_78 rfl (lv_at hl 5 rfl) ?_
    obtain ⟨hg_11, hf⟩ := ck_s hf
    refine va_iald (D := (dC, dI)) hx hb hK hP 3 0 rfl rfl (g_vp hg_11) dX6_touch_79 ?_
    refine lv_iconst (v := 1) hx hb dX6_touch_80 (by decide) ?_
    refine lv_icmp_ne (tgt := 94) hx hb dX6_touch_81 (by decide) (fun c_12 => ?_) (fun c_12 => ?_)
    · have hf := it_f hf c_12
      refine lv_lload hx hb dX6_touch_94 (lv_at hl 0 rfl) ?_
      refine lv_iload_n hx hb dX6_touch_96 rfl (lv_at hl 2 rfl) ?_
      refine lv_i2l (v := x_4.toInt64) hx hb dX6_touch_97 rfl ?_
      refine lv_ladd hx hb dX6_touch_98 ?_
      obtain ⟨x_13, ex_13, hf⟩ := nm_s hf
      refine w_eql ex_13 ?_
      refine lv_lstore (lv' := [(6, .long x_13), (4, .long x_6), (3, .int x_4), (2, .int x_2), (0, .ref h), (1, .int p1)]) hx hb dX6_touch_99 hl (by decide) rfl (fun ls hl => ?_)
      have hf : fX6_touch_b101 v_effects v_numbers v_against v_lives v_shields x_2 x_6 x_13 = some (r0, n_lives, n_shields) := hf
      exact kX6_touch_101 C0 hA hK v_lives v_shields x_2 x_6 x_13 _ _ _ hf hP hD hS (lv_sub hl [4, 3, 1, 0] rfl)
    · have hf := it_t hf c_12
      refine lv_lload hx hb dX6_touch_84 (lv_at hl 1 rfl) ?_
      refine lv_iload_n hx hb dX6_touch_86 rfl (lv_at hl 2 rfl) ?_
      refine lv_i2l (v := x_4.toInt64) hx hb dX6_touch_87 rfl ?_
      refine lv_ladd hx hb dX6_touch_88 ?_
      obtain ⟨x_14, ex_14, hf⟩ := nm_s hf
      refine w_eql ex_14 ?_
      refine lv_lstore (lv' := [(4, .long x_14), (6, .long x_8), (3, .int x_4), (2, .int x_2), (0, .ref h), (1, .int p1)]) hx hb dX6_touch_89 hl (by decide) rfl (fun ls hl => ?_)
      refine lv_goto (tgt := 101) hx hb dX6_touch_91 (by decide) ?_
      have hf : fX6_touch_b101 v_effects v_numbers v_against v_lives v_shields x_2 x_14 x_8 = some (r0, n_lives, n_shields) := hf
      exact kX6_touch_101 C0 hA hK v_lives v_shields x_2 x_14 x_8 _ _ _ hf hP hD hS (lv_sub hl [4, 3, 0, 1] rfl)
  · have hf := it_t hf c_10
    refine lv_aload_n hx hb dX6_touch_41 rfl (lv_at hl 4 rfl) ?_
    refine va_get (D := (dC, dI)) (ci := 6) (v := .ref h_shields) (C := RX6) (T := TX6) (N := 7) hx hb hts iX6_touch_X6 hown hK hP 0 rfl rfl 1 (by decide) (hts _ mX6_touch_3) (fun _ h9 => h9) rfl dX6_touch_42 ?_
    refine lv_iload_n hx hb dX6_touch_45 rfl (lv_at hl 3 rfl) ?_
    obtain ⟨hg_15, hf⟩ := ck_s hf
    refine va_iald (D := (dC, dI)) hx hb hK hP 2 0 rfl rfl (g_vp hg_15) dX6_touch_46 ?_
    refine lv_iload_n hx hb dX6_touch_47 rfl (lv_at hl 2 rfl) ?_
    refine va_mmin hx hb (hml.trans hl.1.symm) hown (hts _ mX6_touch_5) (hts _ mX6_touch_6) (hts _ mX6_touch_7) (hts _ mX6_touch_8) (by decide) (by decide) (by decide) (by decide) dX6_touch_48 ?_
    obtain ⟨x_16, ex_16, hf⟩ := nm_s hf
    refine w_eqi ex_16 ?_
    refine lv_istore (lv' := [(8, .int x_16), (6, .long x_8), (4, .long x_6), (3, .int x_4), (2, .int x_2), (0, .ref h), (1, .int p1)]) hx hb dX6_touch_51 hl (by decide) rfl (fun ls hl => ?_)
    refine lv_lload hx hb dX6_touch_53 (lv_at hl 1 rfl) ?_
    refine lv_iload hx hb dX6_touch_55 (lv_at hl 0 rfl) ?_
    refine lv_i2l (v := x_16.toInt64) hx hb dX6_touch_57 rfl ?_
    refine lv_lsub hx hb dX6_touch_58 ?_
    obtain ⟨x_17, ex_17, hf⟩ := nm_s hf
    refine w_eql ex_17 ?_
    refine lv_lstore (lv' := [(6, .long x_17), (8, .int x_16), (4, .long x_6), (3, .int x_4), (2, .int x_2), (0, .ref h), (1, .int p1)]) hx hb dX6_touch_59 hl (by decide) rfl (fun ls hl => ?_)
    refine lv_lload hx hb dX6_touch_61 (lv_at hl 2 rfl) ?_
    refine lv_iload_n hx hb dX6_touch_63 rfl (lv_at hl 3 rfl) ?_
    refine lv_iload hx hb dX6_touch_64 (lv_at hl 1 rfl) ?_
    refine lv_isub hx hb dX6_touch_66 ?_
    refine lv_i2l (v := (x_4 - x_16).toInt64) hx hb dX6_touch_67 rfl ?_
    refine lv_lsub hx hb dX6_touch_68 ?_
    obtain ⟨x_18, ex_18, hf⟩ := nm_s hf
    refine w_eql ex_18 ?_
    refine lv_lstore (lv' := [(4, .long x_18), (6, .long x_17), (8, .int x_16), (3, .int x_4), (2, .int x_2), (0, .ref h), (1, .int p1)]) hx hb dX6_touch_69 hl (by decide) rfl (fun ls hl => ?_)
    refine lv_goto (tgt := 101) hx hb dX6_touch_71 (by decide) ?_
    have hf : fX6_touch_b101 v_effects v_numbers v_against v_lives v_shields x_2 x_18 x_17 = some (r0, n_lives, n_shields) := hf
    exact kX6_touch_101 C0 hA hK v_lives v_shields x_2 x_18 x_17 _ _ _ hf hP hD hS (lv_sub hl [5, 4, 0, 1] rfl)
abbrev wcX6_act (cI cJ cZ cG : ClassId) (h h_lives h_shields h_effects h_numbers h_players h_against : Nat) (v_size : Int32) (v_lives : Nat → Int32) (v_shields : Nat → Int32) (v_effects : Nat → Int32) (v_numbers : Nat → Int32) (v_players : Nat → Int32) (v_against : Nat → Int32) : va_W := [(h, .inr (6, [.ref h_lives, .ref h_shields, .ref h_effects, .ref h_numbers, .ref h_players, .ref h_against, .int v_size])), (h_lives, .inl (cI, 6, .inl v_lives)), (h_shields, .inl (cI, 6, .inl v_shields)), (h_effects, .inl (cI, 6, .inl v_effects)), (h_numbers, .inl (cI, 6, .inl v_numbers)), (h_players, .inl (cI, 6, .inl v_players)), (h_against, .inl (cI, 6, .inl v_against))]
theorem iX6_act_X6 : ∀ w ∈ wsX60, w ∈ wsX6_act := by decide +kernel
theorem mX6_act_0 : (Cond.fieldLink RX6 18 "Sleevehall$Table" "effects" "[I") ∈ wsX6_act := by decide +kernel
abbrev rmX6_act : Room := { frames := 2, cells := 0, slots := 0, locals := 49 }
set_option maxHeartbeats 4000000 in
set_option maxRecDepth 100000 in
theorem kX6_act_62 {p : Program} {l : Launch} {e : Env} {s : State} {m : MethodId} {args : Array Value} {below : List Frame} {meth : Method} {c : Code} {dC : Nat → ClassId} {dI : Nat → Nat → Nat} {A : Nat → Prop} {cI cJ cZ cG : ClassId} {h h_lives h_shields h_effects h_numbers h_players h_against : Nat} {r0 : Int32} {n_size : Int32} {n_lives : Nat → Int32} {n_shields : Nat → Int32} {n_effects : Nat → Int32} {n_numbers : Nat → Int32} {n_players : Nat → Int32} {n_against : Nat → Int32} (C0 : wCX p s args m meth c cX6_act 2 (some .boolean) RX6 wsX6_act) (hA : ∀ q, s.heap.size ≤ q → A q) (hK : va_K (dC, dI) vwCl (tysW cI cJ cZ cG) s) : ∀ (v_size : Int32) (v_lives : Nat → Int32) (v_shields : Nat → Int32) (v_effects : Nat → Int32) (v_numbers : Nat → Int32) (v_players : Nat → Int32) (v_against : Nat → Int32) (s0 : Int32) (hz_s0 : wB s0) (H : Heap) (locs : List Loc) (ls : Array Slot), fX6_act_b62 v_size v_lives v_shields v_effects v_numbers v_players v_against s0 = some (r0, n_size, n_lives, n_shields, n_effects, n_numbers, n_players, n_against) → va_P (dC, dI) vwCl (wcX6_act cI cJ cZ cG h h_lives h_shields h_effects h_numbers h_players h_against v_size v_lives v_shields v_effects v_numbers v_players v_against) H → va_D A (wcX6_act cI cJ cZ cG h h_lives h_shields h_effects h_numbers h_players h_against v_size v_lives v_shields v_effects v_numbers v_players v_against) → va_S A s.heap H locs → lv_has ls 2 [] → W p l e rmX6_act s m args below meth c H locs 0 0 (MQ below (wQz r0 (wcX6_act cI cJ cZ cG h h_lives h_shields h_effects h_numbers h_players h_against n_size n_lives n_shields n_effects n_numbers n_players n_against) (dC, dI) A) args s 0 0 A) (F0 m 62 ls [.int s0]) := by
  obtain ⟨hx, hb, hr, hml, hown, hts, hlocks⟩ := id C0
  intro v_size v_lives v_shields v_effects v_numbers v_players v_against s0 hz_s0 H locs ls hf hP hD hS hl
  unfold fX6_act_b62 at hf
  have hf : some (s0, v_size, v_lives, v_shields, v_effects, v_numbers, v_players, v_against) = some (r0, n_size, n_lives, n_shields, n_effects, n_numbers, n_players, n_against) := hf
  cases hf
  exact w_zret hx hb hr hlocks rfl hz_s0 hP hD hS dX6_act_62
set_option maxHeartbeats 4000000 in
set_option maxRecDepth 100000 in
theorem kX6_act_57 {p : Program} {l : Launch} {e : Env} {s : State} {m : MethodId} {args : Array Value} {below : List Frame} {meth : Method} {c : Code} {dC : Nat → ClassId} {dI : Nat → Nat → Nat} {A : Nat → Prop} {cI cJ cZ cG : ClassId} {h h_lives h_shields h_effects h_numbers h_players h_against : Nat} {r0 : Int32} {n_size : Int32} {n_lives : Nat → Int32} {n_shields : Nat → Int32} {n_effects : Nat → Int32} {n_numbers : Nat → Int32} {n_players : Nat → Int32} {n_against : Nat → Int32} (C0 : wCX p s args m meth c cX6_act 2 (some .boolean) RX6 wsX6_act) (hA : ∀ q, s.heap.size ≤ q → A q) (hK : va_K (dC, dI) vwCl (tysW cI cJ cZ cG) s) : ∀ (v_size : Int32) (v_lives : Nat → Int32) (v_shields : Nat → Int32) (v_effects : Nat → Int32) (v_numbers : Nat → Int32) (v_players : Nat → Int32) (v_against : Nat → Int32) (H : Heap) (locs : List Loc) (ls : Array Slot), fX6_act_b57 v_size v_lives v_shields v_effects v_numbers v_players v_against = some (r0, n_size, n_lives, n_shields, n_effects, n_numbers, n_players, n_against) → va_P (dC, dI) vwCl (wcX6_act cI cJ cZ cG h h_lives h_shields h_effects h_numbers h_players h_against v_size v_lives v_shields v_effects v_numbers v_players v_against) H → va_D A (wcX6_act cI cJ cZ cG h h_lives h_shields h_effects h_numbers h_players h_against v_size v_lives v_shields v_effects v_numbers v_players v_against) → va_S A s.heap H locs → lv_has ls 2 [] → W p l e rmX6_act s m args below meth c H locs 0 0 (MQ below (wQz r0 (wcX6_act cI cJ cZ cG h h_lives h_shields h_effects h_numbers h_players h_against n_size n_lives n_shields n_effects n_numbers n_players n_against) (dC, dI) A) args s 0 0 A) (F0 m 57 ls []) := by
  obtain ⟨hx, hb, hr, hml, hown, hts, hlocks⟩ := id C0
  intro v_size v_lives v_shields v_effects v_numbers v_players v_against H locs ls hf hP hD hS hl
  unfold fX6_act_b57 at hf
  refine lv_iconst (v := 1) hx hb dX6_act_57 (by decide) ?_
  refine lv_goto (tgt := 62) hx hb dX6_act_58 (by decide) ?_
  have hf : fX6_act_b62 v_size v_lives v_shields v_effects v_numbers v_players v_against 1 = some (r0, n_size, n_lives, n_shields, n_effects, n_numbers, n_players, n_against) := hf
  exact kX6_act_62 C0 hA hK v_size v_lives v_shields v_effects v_numbers v_players v_against 1 (Or.inr rfl) _ _ _ hf hP hD hS (lv_sub hl [] rfl)
set_option maxHeartbeats 4000000 in
set_option maxRecDepth 100000 in
theorem oX6_act (l : Launch) (dC : Nat → ClassId) (dI : Nat → Nat → Nat) (cI cJ cZ cG : ClassId) (h h_lives h_shields h_effects h_numbers h_players h_against : Nat) (v_size : Int32) (v_lives : Nat → Int32) (v_shields : Nat → Int32) (v_effects : Nat → Int32) (v_numbers : Nat → Int32) (v_players : Nat → Int32) (v_against : Nat → Int32) (sz : Nat) (p1 : Int32) (r0 : Int32) (n_size : Int32) (n_lives : Nat → Int32) (n_shields : Nat → Int32) (n_effects : Nat → Int32) (n_numbers : Nat → Int32) (n_players : Nat → Int32) (n_against : Nat → Int32) (hf : fX6_act v_size v_lives v_shields v_effects v_numbers v_players v_against p1 = some (r0, n_size, n_lives, n_shields, n_effects, n_numbers, n_players, n_against)) : Met l yX6_act wsX6_act rmX6_act (wPc [.ref h, .int p1] (dC, dI) (tysW cI cJ cZ cG) sz (wcX6_act cI cJ cZ cG h h_lives h_shields h_effects h_numbers h_players h_against v_size v_lives v_shields v_effects v_numbers v_players v_against)) (wQz r0 (wcX6_act cI cJ cZ cG h h_lives h_shields h_effects h_numbers h_players h_against n_size n_lives n_shields n_effects n_numbers n_players n_against) (dC, dI) (va_A (wcX6_act cI cJ cZ cG h h_lives h_shields h_effects h_numbers h_players h_against v_size v_lives v_shields v_effects v_numbers v_players v_against) sz)) 0 0 (va_A (wcX6_act cI cJ cZ cG h h_lives h_shields h_effects h_numbers h_players h_against v_size v_lives v_shields v_effects v_numbers v_players v_against) sz) := by
  refine Met.ofW (cc := cX6_act) (maxL := 2) (ret := (some .boolean)) (by decide) rfl ?_
  intro p e s m args below meth c s₁ B hml hv
  obtain ⟨rfl, hsz, hP, hK, hD0⟩ := hv
  have hx := B.exec
  have hb := B.bytes
  have hr := B.returns
  have hts := atoms_spec (ws := wsX6_act) B.pre
  have hown : s.vm.findClass RX6 = some m.cls := findClass_of_methodNamed B.named
  have hlocks := B.notSynchronized
  subst hsz
  have hD := hD0.self (sz := s.heap.size)
  generalize hAe : va_A (wcX6_act cI cJ cZ cG h h_lives h_shields h_effects h_numbers h_players h_against v_size v_lives v_shields v_effects v_numbers v_players v_against) s.heap.size = A at hD ⊢
  have hA : ∀ q : Nat, s.heap.size ≤ q → A q := fun q h => by rw [← hAe]; exact Or.inr h
  have hS : va_S A s.heap s.heap [] := va_S.rf
  have hP : va_P (dC, dI) vwCl (wcX6_act cI cJ cZ cG h h_lives h_shields h_effects h_numbers h_players h_against v_size v_lives v_shields v_effects v_numbers v_players v_against) s.heap := hP
  have hl := lv_entry ([.ref h, .int p1]) (n := 2) (Nat.le_of_ble_eq_true rfl)
  rw [lg_entry_eq]
  generalize (lg_sl ([.ref h, .int p1]) ++ List.replicate (2 - (lg_sl ([.ref h, .int p1])).length) Slot.unset).toArray = ls at hl ⊢
  have hl : lv_has ls 2 [(0, .ref h), (1, .int p1)] := hl
  generalize hH : s.heap = H at hP hS ⊢
  have hS : va_S A s.heap H [] := by rw [hH]; exact hS
  have C0 : wCX p s #[.ref h, .int p1] m meth c cX6_act 2 (some .boolean) RX6 wsX6_act := ⟨hx, hb, hr, hml, hown, hts, hlocks⟩
  show W p l e rmX6_act s m #[.ref h, .int p1] below meth c H [] 0 0 (MQ below (wQz r0 (wcX6_act cI cJ cZ cG h h_lives h_shields h_effects h_numbers h_players h_against n_size n_lives n_shields n_effects n_numbers n_players n_against) (dC, dI) A) #[.ref h, .int p1] s 0 0 A) (F0 m 0 ls [])
  unfold fX6_act at hf
  refine lv_aload_n hx hb dX6_act_0 rfl (lv_at hl 0 rfl) ?_
  refine va_get (D := (dC, dI)) (ci := 6) (v := .ref h_effects) (C := RX6) (T := TX6) (N := 7) hx hb hts iX6_act_X6 hown hK hP 0 rfl rfl 2 (by decide) (hts _ mX6_act_0) (fun _ h9 => h9) rfl dX6_act_1 ?_
  refine lv_iload_n hx hb dX6_act_4 rfl (lv_at hl 1 rfl) ?_
  obtain ⟨hg_1, hf⟩ := ck_s hf
  refine va_iald (D := (dC, dI)) hx hb hK hP 3 0 rfl rfl (g_vp hg_1) dX6_act_5 ?_
  by_cases e_2 : (v_effects p1.toNatClampNeg) = 3
  · have hf := it_t hf e_2
    refine lv_tableIn (off := 26) (tgt := 32) hx hb dX6_act_6 (by rw [e_2]; decide) (by rw [e_2]; decide) (by rw [e_2]; rfl) (by decide) ?_
    refine lv_aload_n hx hb dX6_act_32 rfl (lv_at hl 0 rfl) ?_
    refine lv_aload_n hx hb dX6_act_33 rfl (lv_at hl 0 rfl) ?_
    refine lv_iload_n hx hb dX6_act_34 rfl (lv_at hl 1 rfl) ?_
    obtain ⟨r_3, hc_4, hf⟩ := ob_s hf
    refine w_callVi (As := [.int p1]) (rest := [.ref h]) (wr := List.filterMap (fun i : Nat => (wcX6_act cI cJ cZ cG h h_lives h_shields h_effects h_numbers h_players h_against v_size v_lives v_shields v_effects v_numbers v_players v_against)[i]?) [1, 2, 3, 4, 6]) (ws1 := (wcX6_act cI cJ cZ cG h h_lives h_shields h_effects h_numbers h_players h_against v_size v_lives v_shields v_effects v_numbers v_players v_against)) ⟨hx, hb, hml, hown, hts⟩ (oX6_nearestByOther l dC dI cI cJ cZ cG h h_lives h_shields h_effects h_numbers h_players h_against v_size v_players H.size p1 r_3 hc_4) (cwV 1 hts gX6_act_X6_nearestByOther rfl rfl rfl (by decide +kernel) ⟨Nat.le_of_ble_eq_true rfl, Nat.le_of_ble_eq_true rfl⟩) hK 0 6 rfl rfl rfl hP hD hS hA [0, 5] [1, 2, 3, 4, 6] [5, 0, 1, 2, 3, 6, 4] rfl rfl rfl rfl (by decide) rfl rfl rfl hl.1 rfl (Nat.le_of_ble_eq_true rfl) dX6_act_35 ⟨Nat.le_refl _, Nat.le_refl _⟩ (fun H locs hP hD hS => ?_)
    obtain ⟨⟨w_5, w_6, w_7, w_8, w_9⟩, hc_10, hf⟩ := ob_s hf
    refine w_callVv (As := [.int r_3]) (rest := []) (wr := List.filterMap (fun i : Nat => (wcX6_act cI cJ cZ cG h h_lives h_shields h_effects h_numbers h_players h_against v_size v_lives v_shields v_effects v_numbers v_players v_against)[i]?) [1, 2]) (ws1 := (wcX6_act cI cJ cZ cG h h_lives h_shields h_effects h_numbers h_players h_against w_5 v_lives v_shields w_6 w_7 w_8 w_9)) ⟨hx, hb, hml, hown, hts⟩ (oX6_takeOff l dC dI cI cJ cZ cG h h_lives h_shields h_effects h_numbers h_players h_against v_size v_effects v_numbers v_players v_against H.size r_3 w_5 w_6 w_7 w_8 w_9 hc_10) (cwV 1 hts gX6_act_X6_takeOff rfl rfl rfl (by decide +kernel) ⟨Nat.le_of_ble_eq_true rfl, Nat.le_of_ble_eq_true rfl⟩) hK 0 6 rfl rfl rfl hP hD hS hA [0, 3, 4, 5, 6] [1, 2] [2, 0, 1, 3, 4, 5, 6] rfl rfl rfl rfl (by decide) rfl rfl rfl hl.1 rfl (Nat.le_of_ble_eq_true rfl) dX6_act_38 ⟨Nat.le_refl _, Nat.le_refl _⟩ (fun H locs hP hD hS => ?_)
    refine lv_iconst (v := 1) hx hb dX6_act_41 (by decide) ?_
    have hf : some (1, w_5, v_lives, v_shields, w_6, w_7, w_8, w_9) = some (r0, n_size, n_lives, n_shields, n_effects, n_numbers, n_players, n_against) := hf
    cases hf
    exact w_zret hx hb hr hlocks rfl (Or.inr rfl) hP hD hS dX6_act_42
  have hf := it_f hf e_2
  by_cases e_11 : (v_effects p1.toNatClampNeg) = 4
  · have hf := it_t hf e_11
    refine lv_tableIn (off := 37) (tgt := 43) hx hb dX6_act_6 (by rw [e_11]; decide) (by rw [e_11]; decide) (by rw [e_11]; rfl) (by decide) ?_
    refine lv_iload_n hx hb dX6_act_43 rfl (lv_at hl 1 rfl) ?_
    refine lv_if_eq (tgt := 57) hx hb dX6_act_44 (by decide) (fun c_12 => ?_) (fun c_12 => ?_)
    · have hf := it_t hf c_12
      have hf : fX6_act_b57 v_size v_lives v_shields v_effects v_numbers v_players v_against = some (r0, n_size, n_lives, n_shields, n_effects, n_numbers, n_players, n_against) := hf
      exact kX6_act_57 C0 hA hK v_size v_lives v_shields v_effects v_numbers v_players v_against _ _ _ hf hP hD hS (lv_sub hl [] rfl)
    · have hf := it_f hf c_12
      refine lv_aload_n hx hb dX6_act_47 rfl (lv_at hl 0 rfl) ?_
      refine lv_iload_n hx hb dX6_act_48 rfl (lv_at hl 1 rfl) ?_
      refine lv_iconst (v := 1) hx hb dX6_act_49 (by decide) ?_
      refine lv_isub hx hb dX6_act_50 ?_
      obtain ⟨⟨r_13, w_14⟩, hc_15, hf⟩ := ob_s hf
      refine w_callVz (As := [.int (p1 - 1)]) (rest := []) (wr := List.filterMap (fun i : Nat => (wcX6_act cI cJ cZ cG h h_lives h_shields h_effects h_numbers h_players h_against v_size v_lives v_shields v_effects v_numbers v_players v_against)[i]?) [1, 2, 3, 5, 6]) (ws1 := (wcX6_act cI cJ cZ cG h h_lives h_shields h_effects h_numbers h_players h_against v_size v_lives v_shields v_effects w_14 v_players v_against)) ⟨hx, hb, hml, hown, hts⟩ (oX6_makeTwice l dC dI cI cJ cZ cG h h_lives h_shields h_effects h_numbers h_players h_against v_size v_numbers H.size (p1 - 1) r_13 w_14 hc_15) (cwV 1 hts gX6_act_X6_makeTwice rfl rfl rfl (by decide +kernel) ⟨Nat.le_of_ble_eq_true rfl, Nat.le_of_ble_eq_true rfl⟩) hK 0 6 rfl rfl rfl hP hD hS hA [0, 4] [1, 2, 3, 5, 6] [5, 0, 1, 2, 6, 3, 4] rfl rfl rfl rfl (by decide) rfl rfl rfl hl.1 rfl (Nat.le_of_ble_eq_true rfl) dX6_act_51 ⟨Nat.le_refl _, Nat.le_refl _⟩ (fun hz_16 H locs hP hD hS => ?_)
      refine lv_if_eq (tgt := 61) hx hb dX6_act_54 (by decide) (fun c_17 => ?_) (fun c_17 => ?_)
      · have hf := it_t hf c_17
        refine lv_iconst (v := 0) hx hb dX6_act_61 (by decide) ?_
        have hf : fX6_act_b62 v_size v_lives v_shields v_effects w_14 v_players v_against 0 = some (r0, n_size, n_lives, n_shields, n_effects, n_numbers, n_players, n_against) := hf
        exact kX6_act_62 C0 hA hK v_size v_lives v_shields v_effects w_14 v_players v_against 0 (Or.inl rfl) _ _ _ hf hP hD hS (lv_sub hl [] rfl)
      · have hf := it_f hf c_17
        have hf : fX6_act_b57 v_size v_lives v_shields v_effects w_14 v_players v_against = some (r0, n_size, n_lives, n_shields, n_effects, n_numbers, n_players, n_against) := hf
        exact kX6_act_57 C0 hA hK v_size v_lives v_shields v_effects w_14 v_players v_against _ _ _ hf hP hD hS (lv_sub hl [] rfl)
  have hf := it_f hf e_11
  by_cases e_18 : (v_effects p1.toNatClampNeg) = 5
  · have hf := it_t hf e_18
    refine lv_tableIn (off := 57) (tgt := 63) hx hb dX6_act_6 (by rw [e_18]; decide) (by rw [e_18]; decide) (by rw [e_18]; rfl) (by decide) ?_
    refine lv_aload_n hx hb dX6_act_63 rfl (lv_at hl 0 rfl) ?_
    refine lv_iconst (v := 1) hx hb dX6_act_64 (by decide) ?_
    refine lv_iload_n hx hb dX6_act_65 rfl (lv_at hl 1 rfl) ?_
    refine lv_ishl hx hb dX6_act_66 ?_
    refine lv_iconst (v := 1) hx hb dX6_act_67 (by decide) ?_
    refine lv_isub hx hb dX6_act_68 ?_
    obtain ⟨w_19, hc_20, hf⟩ := ob_s hf
    refine w_callVv (As := [.int (((1 : Int32) <<< (p1 &&& 31)) - 1)]) (rest := []) (wr := List.filterMap (fun i : Nat => (wcX6_act cI cJ cZ cG h h_lives h_shields h_effects h_numbers h_players h_against v_size v_lives v_shields v_effects v_numbers v_players v_against)[i]?) [1, 2, 4, 5, 6]) (ws1 := (wcX6_act cI cJ cZ cG h h_lives h_shields h_effects h_numbers h_players h_against v_size v_lives v_shields w_19 v_numbers v_players v_against)) ⟨hx, hb, hml, hown, hts⟩ (oX6_turn l dC dI cI cJ cZ cG h h_lives h_shields h_effects h_numbers h_players h_against v_size v_effects H.size (((1 : Int32) <<< (p1 &&& 31)) - 1) w_19 hc_20) (cwV 1 hts gX6_act_X6_turn rfl rfl rfl (by decide +kernel) ⟨Nat.le_of_ble_eq_true rfl, Nat.le_of_ble_eq_true rfl⟩) hK 0 6 rfl rfl rfl hP hD hS hA [0, 3] [1, 2, 4, 5, 6] [5, 0, 1, 6, 2, 3, 4] rfl rfl rfl rfl (by decide) rfl rfl rfl hl.1 rfl (Nat.le_of_ble_eq_true rfl) dX6_act_69 ⟨Nat.le_refl _, Nat.le_refl _⟩ (fun H locs hP hD hS => ?_)
    refine lv_iconst (v := 1) hx hb dX6_act_72 (by decide) ?_
    have hf : some (1, v_size, v_lives, v_shields, w_19, v_numbers, v_players, v_against) = some (r0, n_size, n_lives, n_shields, n_effects, n_numbers, n_players, n_against) := hf
    cases hf
    exact w_zret hx hb hr hlocks rfl (Or.inr rfl) hP hD hS dX6_act_73
  have hf := it_f hf e_18
  refine lv_tableOut (tgt := 74) hx hb dX6_act_6 (by have ge_2 : ((v_effects p1.toNatClampNeg)).toInt ≠ 3 := fun h => e_2 ((i32_of h).trans (by decide)); have ge_11 : ((v_effects p1.toNatClampNeg)).toInt ≠ 4 := fun h => e_11 ((i32_of h).trans (by decide)); have ge_18 : ((v_effects p1.toNatClampNeg)).toInt ≠ 5 := fun h => e_18 ((i32_of h).trans (by decide)); omega) (by decide) ?_
  refine lv_aload_n hx hb dX6_act_74 rfl (lv_at hl 0 rfl) ?_
  refine lv_iload_n hx hb dX6_act_75 rfl (lv_at hl 1 rfl) ?_
  obtain ⟨⟨r_21, w_22, w_23⟩, hc_24, hf⟩ := ob_s hf
  refine w_callVz (As := [.int p1]) (rest := []) (wr := List.filterMap (fun i : Nat => (wcX6_act cI cJ cZ cG h h_lives h_shields h_effects h_numbers h_players h_against v_size v_lives v_shields v_effects v_numbers v_players v_against)[i]?) [5]) (ws1 := (wcX6_act cI cJ cZ cG h h_lives h_shields h_effects h_numbers h_players h_against v_size w_22 w_23 v_effects v_numbers v_players v_against)) ⟨hx, hb, hml, hown, hts⟩ (oX6_touch l dC dI cI cJ cZ cG h h_lives h_shields h_effects h_numbers h_players h_against v_size v_lives v_shields v_effects v_numbers v_against H.size p1 r_21 w_22 w_23 hc_24) (cwV 1 hts gX6_act_X6_touch rfl rfl rfl (by decide +kernel) ⟨Nat.le_of_ble_eq_true rfl, Nat.le_of_ble_eq_true rfl⟩) hK 0 6 rfl rfl rfl hP hD hS hA [0, 1, 2, 3, 4, 6] [5] [1, 2, 3, 4, 5, 0, 6] rfl rfl rfl rfl (by decide) rfl rfl rfl hl.1 rfl (Nat.le_of_ble_eq_true rfl) dX6_act_76 ⟨Nat.le_refl _, Nat.le_refl _⟩ (fun hz_25 H locs hP hD hS => ?_)
  have hf : some (r_21, v_size, w_22, w_23, v_effects, v_numbers, v_players, v_against) = some (r0, n_size, n_lives, n_shields, n_effects, n_numbers, n_players, n_against) := hf
  cases hf
  exact w_zret hx hb hr hlocks rfl hz_25 hP hD hS dX6_act_79
abbrev wcX6_doTop (cI cJ cZ cG : ClassId) (h h_lives h_shields h_effects h_numbers h_players h_against : Nat) (v_size : Int32) (v_lives : Nat → Int32) (v_shields : Nat → Int32) (v_effects : Nat → Int32) (v_numbers : Nat → Int32) (v_players : Nat → Int32) (v_against : Nat → Int32) : va_W := [(h, .inr (6, [.ref h_lives, .ref h_shields, .ref h_effects, .ref h_numbers, .ref h_players, .ref h_against, .int v_size])), (h_lives, .inl (cI, 6, .inl v_lives)), (h_shields, .inl (cI, 6, .inl v_shields)), (h_effects, .inl (cI, 6, .inl v_effects)), (h_numbers, .inl (cI, 6, .inl v_numbers)), (h_players, .inl (cI, 6, .inl v_players)), (h_against, .inl (cI, 6, .inl v_against))]
theorem iX6_doTop_X6 : ∀ w ∈ wsX60, w ∈ wsX6_doTop := by decide +kernel
theorem mX6_doTop_0 : (Cond.fieldLink RX6 33 "Sleevehall$Table" "size" "I") ∈ wsX6_doTop := by decide +kernel
abbrev rmX6_doTop : Room := { frames := 3, cells := 0, slots := 0, locals := 70 }
set_option maxHeartbeats 4000000 in
set_option maxRecDepth 100000 in
theorem kX6_doTop_19 {p : Program} {l : Launch} {e : Env} {s : State} {m : MethodId} {args : Array Value} {below : List Frame} {meth : Method} {c : Code} {dC : Nat → ClassId} {dI : Nat → Nat → Nat} {A : Nat → Prop} {cI cJ cZ cG : ClassId} {h h_lives h_shields h_effects h_numbers h_players h_against : Nat} {r0 : Int32} {n_size : Int32} {n_lives : Nat → Int32} {n_shields : Nat → Int32} {n_effects : Nat → Int32} {n_numbers : Nat → Int32} {n_players : Nat → Int32} {n_against : Nat → Int32} (C0 : wCX p s args m meth c cX6_doTop 2 (some .boolean) RX6 wsX6_doTop) (hA : ∀ q, s.heap.size ≤ q → A q) (hK : va_K (dC, dI) vwCl (tysW cI cJ cZ cG) s) : ∀ (v_size : Int32) (v_lives : Nat → Int32) (v_shields : Nat → Int32) (v_effects : Nat → Int32) (v_numbers : Nat → Int32) (v_players : Nat → Int32) (v_against : Nat → Int32) (H : Heap) (locs : List Loc) (ls : Array Slot), fX6_doTop_b19 v_size v_lives v_shields v_effects v_numbers v_players v_against = some (r0, n_size, n_lives, n_shields, n_effects, n_numbers, n_players, n_against) → va_P (dC, dI) vwCl (wcX6_doTop cI cJ cZ cG h h_lives h_shields h_effects h_numbers h_players h_against v_size v_lives v_shields v_effects v_numbers v_players v_against) H → va_D A (wcX6_doTop cI cJ cZ cG h h_lives h_shields h_effects h_numbers h_players h_against v_size v_lives v_shields v_effects v_numbers v_players v_against) → va_S A s.heap H locs → lv_has ls 2 [] → W p l e rmX6_doTop s m args below meth c H locs 0 0 (MQ below (wQz r0 (wcX6_doTop cI cJ cZ cG h h_lives h_shields h_effects h_numbers h_players h_against n_size n_lives n_shields n_effects n_numbers n_players n_against) (dC, dI) A) args s 0 0 A) (F0 m 19 ls []) := by
  obtain ⟨hx, hb, hr, hml, hown, hts, hlocks⟩ := id C0
  intro v_size v_lives v_shields v_effects v_numbers v_players v_against H locs ls hf hP hD hS hl
  unfold fX6_doTop_b19 at hf
  refine lv_iconst (v := 0) hx hb dX6_doTop_19 (by decide) ?_
  have hf : some (0, v_size, v_lives, v_shields, v_effects, v_numbers, v_players, v_against) = some (r0, n_size, n_lives, n_shields, n_effects, n_numbers, n_players, n_against) := hf
  cases hf
  exact w_zret hx hb hr hlocks rfl (Or.inl rfl) hP hD hS dX6_doTop_20
set_option maxHeartbeats 4000000 in
set_option maxRecDepth 100000 in
theorem oX6_doTop (l : Launch) (dC : Nat → ClassId) (dI : Nat → Nat → Nat) (cI cJ cZ cG : ClassId) (h h_lives h_shields h_effects h_numbers h_players h_against : Nat) (v_size : Int32) (v_lives : Nat → Int32) (v_shields : Nat → Int32) (v_effects : Nat → Int32) (v_numbers : Nat → Int32) (v_players : Nat → Int32) (v_against : Nat → Int32) (sz : Nat) (r0 : Int32) (n_size : Int32) (n_lives : Nat → Int32) (n_shields : Nat → Int32) (n_effects : Nat → Int32) (n_numbers : Nat → Int32) (n_players : Nat → Int32) (n_against : Nat → Int32) (hf : fX6_doTop v_size v_lives v_shields v_effects v_numbers v_players v_against = some (r0, n_size, n_lives, n_shields, n_effects, n_numbers, n_players, n_against)) : Met l yX6_doTop wsX6_doTop rmX6_doTop (wPc [.ref h] (dC, dI) (tysW cI cJ cZ cG) sz (wcX6_doTop cI cJ cZ cG h h_lives h_shields h_effects h_numbers h_players h_against v_size v_lives v_shields v_effects v_numbers v_players v_against)) (wQz r0 (wcX6_doTop cI cJ cZ cG h h_lives h_shields h_effects h_numbers h_players h_against n_size n_lives n_shields n_effects n_numbers n_players n_against) (dC, dI) (va_A (wcX6_doTop cI cJ cZ cG h h_lives h_shields h_effects h_numbers h_players h_against v_size v_lives v_shields v_effects v_numbers v_players v_against) sz)) 0 0 (va_A (wcX6_doTop cI cJ cZ cG h h_lives h_shields h_effects h_numbers h_players h_against v_size v_lives v_shields v_effects v_numbers v_players v_against) sz) := by
  refine Met.ofW (cc := cX6_doTop) (maxL := 2) (ret := (some .boolean)) (by decide) rfl ?_
  intro p e s m args below meth c s₁ B hml hv
  obtain ⟨rfl, hsz, hP, hK, hD0⟩ := hv
  have hx := B.exec
  have hb := B.bytes
  have hr := B.returns
  have hts := atoms_spec (ws := wsX6_doTop) B.pre
  have hown : s.vm.findClass RX6 = some m.cls := findClass_of_methodNamed B.named
  have hlocks := B.notSynchronized
  subst hsz
  have hD := hD0.self (sz := s.heap.size)
  generalize hAe : va_A (wcX6_doTop cI cJ cZ cG h h_lives h_shields h_effects h_numbers h_players h_against v_size v_lives v_shields v_effects v_numbers v_players v_against) s.heap.size = A at hD ⊢
  have hA : ∀ q : Nat, s.heap.size ≤ q → A q := fun q h => by rw [← hAe]; exact Or.inr h
  have hS : va_S A s.heap s.heap [] := va_S.rf
  have hP : va_P (dC, dI) vwCl (wcX6_doTop cI cJ cZ cG h h_lives h_shields h_effects h_numbers h_players h_against v_size v_lives v_shields v_effects v_numbers v_players v_against) s.heap := hP
  have hl := lv_entry ([.ref h]) (n := 2) (Nat.le_of_ble_eq_true rfl)
  rw [lg_entry_eq]
  generalize (lg_sl ([.ref h]) ++ List.replicate (2 - (lg_sl ([.ref h])).length) Slot.unset).toArray = ls at hl ⊢
  have hl : lv_has ls 2 [(0, .ref h)] := hl
  generalize hH : s.heap = H at hP hS ⊢
  have hS : va_S A s.heap H [] := by rw [hH]; exact hS
  have C0 : wCX p s #[.ref h] m meth c cX6_doTop 2 (some .boolean) RX6 wsX6_doTop := ⟨hx, hb, hr, hml, hown, hts, hlocks⟩
  show W p l e rmX6_doTop s m #[.ref h] below meth c H [] 0 0 (MQ below (wQz r0 (wcX6_doTop cI cJ cZ cG h h_lives h_shields h_effects h_numbers h_players h_against n_size n_lives n_shields n_effects n_numbers n_players n_against) (dC, dI) A) #[.ref h] s 0 0 A) (F0 m 0 ls [])
  unfold fX6_doTop at hf
  refine lv_aload_n hx hb dX6_doTop_0 rfl (lv_at hl 0 rfl) ?_
  refine va_get (D := (dC, dI)) (ci := 6) (v := .int v_size) (C := RX6) (T := TX6) (N := 7) hx hb hts iX6_doTop_X6 hown hK hP 0 rfl rfl 6 (by decide) (hts _ mX6_doTop_0) (fun _ h9 => h9) rfl dX6_doTop_1 ?_
  refine lv_iconst (v := 1) hx hb dX6_doTop_4 (by decide) ?_
  refine lv_isub hx hb dX6_doTop_5 ?_
  obtain ⟨x_1, ex_1, hf⟩ := nm_s hf
  refine w_eqi ex_1 ?_
  refine lv_istore_n (lv' := [(1, .int x_1), (0, .ref h)]) hx hb dX6_doTop_6 rfl hl (by decide) rfl (fun ls hl => ?_)
  refine lv_iload_n hx hb dX6_doTop_7 rfl (lv_at hl 0 rfl) ?_
  refine lv_if_lt (tgt := 19) hx hb dX6_doTop_8 (by decide) (fun c_2 => ?_) (fun c_2 => ?_)
  · have hf := it_t hf c_2
    have hf : fX6_doTop_b19 v_size v_lives v_shields v_effects v_numbers v_players v_against = some (r0, n_size, n_lives, n_shields, n_effects, n_numbers, n_players, n_against) := hf
    exact kX6_doTop_19 C0 hA hK v_size v_lives v_shields v_effects v_numbers v_players v_against _ _ _ hf hP hD hS (lv_sub hl [] rfl)
  · have hf := it_f hf c_2
    refine lv_aload_n hx hb dX6_doTop_11 rfl (lv_at hl 1 rfl) ?_
    refine lv_iload_n hx hb dX6_doTop_12 rfl (lv_at hl 0 rfl) ?_
    obtain ⟨⟨r_3, w_4, w_5, w_6, w_7, w_8, w_9, w_10⟩, hc_11, hf⟩ := ob_s hf
    refine w_callVz (As := [.int x_1]) (rest := []) (wr := List.filterMap (fun i : Nat => (wcX6_doTop cI cJ cZ cG h h_lives h_shields h_effects h_numbers h_players h_against v_size v_lives v_shields v_effects v_numbers v_players v_against)[i]?) []) (ws1 := (wcX6_doTop cI cJ cZ cG h h_lives h_shields h_effects h_numbers h_players h_against w_4 w_5 w_6 w_7 w_8 w_9 w_10)) ⟨hx, hb, hml, hown, hts⟩ (oX6_act l dC dI cI cJ cZ cG h h_lives h_shields h_effects h_numbers h_players h_against v_size v_lives v_shields v_effects v_numbers v_players v_against H.size x_1 r_3 w_4 w_5 w_6 w_7 w_8 w_9 w_10 hc_11) (cwV 1 hts gX6_doTop_X6_act rfl rfl rfl (by decide +kernel) ⟨Nat.le_of_ble_eq_true rfl, Nat.le_of_ble_eq_true rfl⟩) hK 0 6 rfl rfl rfl hP hD hS hA [0, 1, 2, 3, 4, 5, 6] [] [0, 1, 2, 3, 4, 5, 6] rfl rfl rfl rfl (by decide) rfl rfl rfl hl.1 rfl (Nat.le_of_ble_eq_true rfl) dX6_doTop_13 ⟨Nat.le_refl _, Nat.le_refl _⟩ (fun hz_12 H locs hP hD hS => ?_)
    refine lv_if_ne (tgt := 21) hx hb dX6_doTop_16 (by decide) (fun c_13 => ?_) (fun c_13 => ?_)
    · have hf := it_f hf c_13
      refine lv_aload_n hx hb dX6_doTop_21 rfl (lv_at hl 1 rfl) ?_
      refine lv_dup hx hb dX6_doTop_22 rfl ?_
      refine va_get (D := (dC, dI)) (ci := 6) (v := .int w_4) (C := RX6) (T := TX6) (N := 7) hx hb hts iX6_doTop_X6 hown hK hP 0 rfl rfl 6 (by decide) (hts _ mX6_doTop_0) (fun _ h9 => h9) rfl dX6_doTop_23 ?_
      refine lv_iconst (v := 1) hx hb dX6_doTop_26 (by decide) ?_
      refine lv_isub hx hb dX6_doTop_27 ?_
      obtain ⟨x_14, ex_14, hf⟩ := nm_s hf
      refine w_eqi ex_14 ?_
      refine va_put (D := (dC, dI)) (ci := 6) (v := .int x_14) (ty := .int) (C := RX6) (T := TX6) (N := 7) hx hb hts iX6_doTop_X6 tyX6 tyX6_ok nmX6 hown hK hP hD hS 0 rfl rfl 6 (by decide) (hts _ mX6_doTop_0) (fun _ h9 => h9) rfl (by decide +kernel) rfl rfl (Nat.le_of_ble_eq_true rfl) dX6_doTop_28 (fun H locs hP hD hS => ?_)
      have hP : va_P (dC, dI) vwCl (wcX6_doTop cI cJ cZ cG h h_lives h_shields h_effects h_numbers h_players h_against x_14 w_5 w_6 w_7 w_8 w_9 w_10) H := hP
      have hD : va_D A (wcX6_doTop cI cJ cZ cG h h_lives h_shields h_effects h_numbers h_players h_against x_14 w_5 w_6 w_7 w_8 w_9 w_10) := hD
      refine lv_iconst (v := 1) hx hb dX6_doTop_31 (by decide) ?_
      have hf : some (1, x_14, w_5, w_6, w_7, w_8, w_9, w_10) = some (r0, n_size, n_lives, n_shields, n_effects, n_numbers, n_players, n_against) := hf
      cases hf
      exact w_zret hx hb hr hlocks rfl (Or.inr rfl) hP hD hS dX6_doTop_32
    · have hf := it_t hf c_13
      have hf : fX6_doTop_b19 w_4 w_5 w_6 w_7 w_8 w_9 w_10 = some (r0, n_size, n_lives, n_shields, n_effects, n_numbers, n_players, n_against) := hf
      exact kX6_doTop_19 C0 hA hK w_4 w_5 w_6 w_7 w_8 w_9 w_10 _ _ _ hf hP hD hS (lv_sub hl [] rfl)
