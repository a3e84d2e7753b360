/-! printed by gen.py: kinds -/
abbrev wcX2_add (cI cJ cZ cG : ClassId) (h h_effects h_numbers h_bans : Nat) (v_count : Int32) (v_effects : Nat → Int32) (v_numbers : Nat → Int32) (v_bans : Nat → Int32) : va_W := [(h, .inr (2, [.ref h_effects, .ref h_numbers, .ref h_bans, .int v_count])), (h_effects, .inl (cI, 20, .inl v_effects)), (h_numbers, .inl (cI, 20, .inl v_numbers)), (h_bans, .inl (cI, 20, .inl v_bans))]
theorem iX2_add_X2 : ∀ w ∈ wsX20, w ∈ wsX2_add := by decide +kernel
theorem mX2_add_0 : (Cond.fieldLink RX2 21 "Sleevehall$Kinds" "count" "I") ∈ wsX2_add := by decide +kernel
theorem mX2_add_1 : (Cond.fieldLink RX2 9 "Sleevehall$Kinds" "effects" "[I") ∈ wsX2_add := by decide +kernel
theorem mX2_add_2 : (Cond.fieldLink RX2 15 "Sleevehall$Kinds" "numbers" "[I") ∈ wsX2_add := by decide +kernel
theorem mX2_add_3 : (Cond.fieldLink RX2 18 "Sleevehall$Kinds" "bans" "[I") ∈ wsX2_add := by decide +kernel
abbrev rmX2_add : Room := { frames := 0, cells := 0, slots := 0, locals := 0 }
set_option maxHeartbeats 4000000 in
set_option maxRecDepth 100000 in
theorem oX2_add (l : Launch) (dC : Nat → ClassId) (dI : Nat → Nat → Nat) (cI cJ cZ cG : ClassId) (h h_effects h_numbers h_bans : Nat) (v_count : Int32) (v_effects : Nat → Int32) (v_numbers : Nat → Int32) (v_bans : Nat → Int32) (sz : Nat) (p1 : Int32) (p2 : Int32) (r0 : Int32) (n_count : Int32) (n_effects : Nat → Int32) (n_numbers : Nat → Int32) (n_bans : Nat → Int32) (hf : fX2_add v_count v_effects v_numbers v_bans p1 p2 = some (r0, n_count, n_effects, n_numbers, n_bans)) : Met l yX2_add wsX2_add rmX2_add (wPc [.ref h, .int p1, .int p2] (dC, dI) (tysW cI cJ cZ cG) sz (wcX2_add cI cJ cZ cG h h_effects h_numbers h_bans v_count v_effects v_numbers v_bans)) (wQi r0 (wcX2_add cI cJ cZ cG h h_effects h_numbers h_bans n_count n_effects n_numbers n_bans) (dC, dI) (va_A (wcX2_add cI cJ cZ cG h h_effects h_numbers h_bans v_count v_effects v_numbers v_bans) sz)) 0 0 (va_A (wcX2_add cI cJ cZ cG h h_effects h_numbers h_bans v_count v_effects v_numbers v_bans) sz) := by
  refine Met.ofW (cc := cX2_add) (maxL := 3) (ret := (some .int)) (by decide) rfl ?_
  intro p e s m args below meth c s₁ B hml hv
  obtain ⟨rfl, hsz, hP, hK, hD0⟩ := hv
  have hx := B.exec
  have hb := B.bytes
  have hr := B.returns
  have hts := atoms_spec (ws := wsX2_add) B.pre
  have hown : s.vm.findClass RX2 = some m.cls := findClass_of_methodNamed B.named
  have hlocks := B.notSynchronized
  subst hsz
  have hD := hD0.self (sz := s.heap.size)
  generalize hAe : va_A (wcX2_add cI cJ cZ cG h h_effects h_numbers h_bans v_count v_effects v_numbers v_bans) s.heap.size = A at hD ⊢
  have hA : ∀ q : Nat, s.heap.size ≤ q → A q := fun q h => by rw [← hAe]; exact Or.inr h
  have hS : va_S A s.heap s.heap [] := va_S.rf
  have hP : va_P (dC, dI) vwCl (wcX2_add cI cJ cZ cG h h_effects h_numbers h_bans v_count v_effects v_numbers v_bans) s.heap := hP
  have hl := lv_entry ([.ref h, .int p1, .int p2]) (n := 3) (Nat.le_of_ble_eq_true rfl)
  rw [lg_entry_eq]
  generalize (lg_sl ([.ref h, .int p1, .int p2]) ++ List.replicate (3 - (lg_sl ([.ref h, .int p1, .int p2])).length) Slot.unset).toArray = ls at hl ⊢
  have hl : lv_has ls 3 [(0, .ref h), (1, .int p1), (2, .int p2)] := hl
  generalize hH : s.heap = H at hP hS ⊢
  have hS : va_S A s.heap H [] := by rw [hH]; exact hS
  have C0 : wCX p s #[.ref h, .int p1, .int p2] m meth c cX2_add 3 (some .int) RX2 wsX2_add := ⟨hx, hb, hr, hml, hown, hts, hlocks⟩
  show W p l e rmX2_add s m #[.ref h, .int p1, .int p2] below meth c H [] 0 0 (MQ below (wQi r0 (wcX2_add cI cJ cZ cG h h_effects h_numbers h_bans n_count n_effects n_numbers n_bans) (dC, dI) A) #[.ref h, .int p1, .int p2] s 0 0 A) (F0 m 0 ls [])
  unfold fX2_add at hf
  refine lv_aload_n hx hb dX2_add_0 rfl (lv_at hl 0 rfl) ?_
  refine va_get (D := (dC, dI)) (ci := 2) (v := .int v_count) (C := RX2) (T := TX2) (N := 4) hx hb hts iX2_add_X2 hown hK hP 0 rfl rfl 3 (by decide) (hts _ mX2_add_0) (fun _ h9 => h9) rfl dX2_add_1 ?_
  refine lv_bipush (v := 20) hx hb dX2_add_4 (by decide) ?_
  refine lv_icmp_lt (tgt := 11) hx hb dX2_add_6 (by decide) (fun c_1 => ?_) (fun c_1 => ?_)
  · have hf := it_t hf c_1
    refine lv_aload_n hx hb dX2_add_11 rfl (lv_at hl 0 rfl) ?_
    refine va_get (D := (dC, dI)) (ci := 2) (v := .ref h_effects) (C := RX2) (T := TX2) (N := 4) hx hb hts iX2_add_X2 hown hK hP 0 rfl rfl 0 (by decide) (hts _ mX2_add_1) (fun _ h9 => h9) rfl dX2_add_12 ?_
    refine lv_aload_n hx hb dX2_add_15 rfl (lv_at hl 0 rfl) ?_
    refine va_get (D := (dC, dI)) (ci := 2) (v := .int v_count) (C := RX2) (T := TX2) (N := 4) hx hb hts iX2_add_X2 hown hK hP 0 rfl rfl 3 (by decide) (hts _ mX2_add_0) (fun _ h9 => h9) rfl dX2_add_16 ?_
    refine lv_iload_n hx hb dX2_add_19 rfl (lv_at hl 1 rfl) ?_
    obtain ⟨hg_2, hf⟩ := ck_s hf
    refine va_iast (D := (dC, dI)) hx hb hK hP hD hS 1 0 rfl rfl (g_vp hg_2) dX2_add_20 (fun H locs hP hD hS => ?_)
    have hP : va_P (dC, dI) vwCl (wcX2_add cI cJ cZ cG h h_effects h_numbers h_bans v_count (upd v_effects v_count.toNatClampNeg p1) v_numbers v_bans) H := hP
    have hD : va_D A (wcX2_add cI cJ cZ cG h h_effects h_numbers h_bans v_count (upd v_effects v_count.toNatClampNeg p1) v_numbers v_bans) := hD
    refine lv_aload_n hx hb dX2_add_21 rfl (lv_at hl 0 rfl) ?_
    refine va_get (D := (dC, dI)) (ci := 2) (v := .ref h_numbers) (C := RX2) (T := TX2) (N := 4) hx hb hts iX2_add_X2 hown hK hP 0 rfl rfl 1 (by decide) (hts _ mX2_add_2) (fun _ h9 => h9) rfl dX2_add_22 ?_
    refine lv_aload_n hx hb dX2_add_25 rfl (lv_at hl 0 rfl) ?_
    refine va_get (D := (dC, dI)) (ci := 2) (v := .int v_count) (C := RX2) (T := TX2) (N := 4) hx hb hts iX2_add_X2 hown hK hP 0 rfl rfl 3 (by decide) (hts _ mX2_add_0) (fun _ h9 => h9) rfl dX2_add_26 ?_
    refine lv_iload_n hx hb dX2_add_29 rfl (lv_at hl 2 rfl) ?_
    obtain ⟨hg_3, hf⟩ := ck_s hf
    refine va_iast (D := (dC, dI)) hx hb hK hP hD hS 2 0 rfl rfl (g_vp hg_3) dX2_add_30 (fun H locs hP hD hS => ?_)
    have hP : va_P (dC, dI) vwCl (wcX2_add cI cJ cZ cG h h_effects h_numbers h_bans v_count (upd v_effects v_count.toNatClampNeg p1) (upd v_numbers v_count.toNatClampNeg p2) v_bans) H := hP
    have hD : va_D A (wcX2_add cI cJ cZ cG h h_effects h_numbers h_bans v_count (upd v_effects v_count.toNatClampNeg p1) (upd v_numbers v_count.toNatClampNeg p2) v_bans) := hD
    refine lv_aload_n hx hb dX2_add_31 rfl (lv_at hl 0 rfl) ?_
    refine va_get (D := (dC, dI)) (ci := 2) (v := .ref h_bans) (C := RX2) (T := TX2) (N := 4) hx hb hts iX2_add_X2 hown hK hP 0 rfl rfl 2 (by decide) (hts _ mX2_add_3) (fun _ h9 => h9) rfl dX2_add_32 ?_
    refine lv_aload_n hx hb dX2_add_35 rfl (lv_at hl 0 rfl) ?_
    refine va_get (D := (dC, dI)) (ci := 2) (v := .int v_count) (C := RX2) (T := TX2) (N := 4) hx hb hts iX2_add_X2 hown hK hP 0 rfl rfl 3 (by decide) (hts _ mX2_add_0) (fun _ h9 => h9) rfl dX2_add_36 ?_
    refine lv_sipush (v := 1001) hx hb dX2_add_39 (by decide) ?_
    obtain ⟨hg_4, hf⟩ := ck_s hf
    refine va_iast (D := (dC, dI)) hx hb hK hP hD hS 3 0 rfl rfl (g_vp hg_4) dX2_add_42 (fun H locs hP hD hS => ?_)
    have hP : va_P (dC, dI) vwCl (wcX2_add cI cJ cZ cG h h_effects h_numbers h_bans v_count (upd v_effects v_count.toNatClampNeg p1) (upd v_numbers v_count.toNatClampNeg p2) (upd v_bans v_count.toNatClampNeg 1001)) H := hP
    have hD : va_D A (wcX2_add cI cJ cZ cG h h_effects h_numbers h_bans v_count (upd v_effects v_count.toNatClampNeg p1) (upd v_numbers v_count.toNatClampNeg p2) (upd v_bans v_count.toNatClampNeg 1001)) := hD
    refine lv_aload_n hx hb dX2_add_43 rfl (lv_at hl 0 rfl) ?_
    refine lv_dup hx hb dX2_add_44 rfl ?_
    refine va_get (D := (dC, dI)) (ci := 2) (v := .int v_count) (C := RX2) (T := TX2) (N := 4) hx hb hts iX2_add_X2 hown hK hP 0 rfl rfl 3 (by decide) (hts _ mX2_add_0) (fun _ h9 => h9) rfl dX2_add_45 ?_
    refine lv_iconst (v := 1) hx hb dX2_add_48 (by decide) ?_
    refine lv_iadd hx hb dX2_add_49 ?_
    obtain ⟨x_5, ex_5, hf⟩ := nm_s hf
    refine w_eqi ex_5 ?_
    refine va_put (D := (dC, dI)) (ci := 2) (v := .int x_5) (ty := .int) (C := RX2) (T := TX2) (N := 4) hx hb hts iX2_add_X2 tyX2 tyX2_ok nmX2 hown hK hP hD hS 0 rfl rfl 3 (by decide) (hts _ mX2_add_0) (fun _ h9 => h9) rfl (by decide +kernel) rfl rfl (Nat.le_of_ble_eq_true rfl) dX2_add_50 (fun H locs hP hD hS => ?_)
    have hP : va_P (dC, dI) vwCl (wcX2_add cI cJ cZ cG h h_effects h_numbers h_bans x_5 (upd v_effects v_count.toNatClampNeg p1) (upd v_numbers v_count.toNatClampNeg p2) (upd v_bans v_count.toNatClampNeg 1001)) H := hP
    have hD : va_D A (wcX2_add cI cJ cZ cG h h_effects h_numbers h_bans x_5 (upd v_effects v_count.toNatClampNeg p1) (upd v_numbers v_count.toNatClampNeg p2) (upd v_bans v_count.toNatClampNeg 1001)) := hD
    refine lv_aload_n hx hb dX2_add_53 rfl (lv_at hl 0 rfl) ?_
    refine va_get (D := (dC, dI)) (ci := 2) (v := .int x_5) (C := RX2) (T := TX2) (N := 4) hx hb hts iX2_add_X2 hown hK hP 0 rfl rfl 3 (by decide) (hts _ mX2_add_0) (fun _ h9 => h9) rfl dX2_add_54 ?_
    refine lv_iconst (v := 1) hx hb dX2_add_57 (by decide) ?_
    refine lv_isub hx hb dX2_add_58 ?_
    have hf : some ((x_5 - 1), x_5, (upd v_effects v_count.toNatClampNeg p1), (upd v_numbers v_count.toNatClampNeg p2), (upd v_bans v_count.toNatClampNeg 1001)) = some (r0, n_count, n_effects, n_numbers, n_bans) := hf
    cases hf
    exact w_iret hx hb hr hlocks rfl hP hD hS dX2_add_59
  · have hf := it_f hf c_1
    refine lv_iconst (v := (-1)) hx hb dX2_add_9 (by decide) ?_
    have hf : some ((-1), v_count, v_effects, v_numbers, v_bans) = some (r0, n_count, n_effects, n_numbers, n_bans) := hf
    cases hf
    exact w_iret hx hb hr hlocks rfl hP hD hS dX2_add_10
abbrev wcX2_isBanned (cI cJ cZ cG : ClassId) (h h_effects h_numbers h_bans : Nat) (v_count : Int32) (v_bans : Nat → Int32) : va_W := [(h, .inr (2, [.ref h_effects, .ref h_numbers, .ref h_bans, .int v_count])), (h_bans, .inl (cI, 20, .inl v_bans))]
theorem iX2_isBanned_X2 : ∀ w ∈ wsX20, w ∈ wsX2_isBanned := by decide +kernel
theorem mX2_isBanned_0 : (Cond.fieldLink RX2 18 "Sleevehall$Kinds" "bans" "[I") ∈ wsX2_isBanned := by decide +kernel
abbrev rmX2_isBanned : Room := { frames := 0, cells := 0, slots := 0, locals := 0 }
set_option maxHeartbeats 4000000 in
set_option maxRecDepth 100000 in
theorem kX2_isBanned_15 {p : Program} {l : Launch} {e : Env} {s : State} {m : MethodId} {args : Array Value} {below : List Frame} {meth : Method} {c : Code} {dC : Nat → ClassId} {dI : Nat → Nat → Nat} {A : Nat → Prop} {cI cJ cZ cG : ClassId} {h h_effects h_numbers h_bans : Nat} {v_count : Int32} {v_bans : Nat → Int32} {r0 : Int32} (C0 : wCX p s args m meth c cX2_isBanned 3 (some .boolean) RX2 wsX2_isBanned) (hA : ∀ q, s.heap.size ≤ q → A q) (hK : va_K (dC, dI) vwCl (tysW cI cJ cZ cG) s) : ∀ (s0 : Int32) (hz_s0 : wB s0) (H : Heap) (locs : List Loc) (ls : Array Slot), fX2_isBanned_b15 v_bans s0 = some r0 → va_P (dC, dI) vwCl (wcX2_isBanned cI cJ cZ cG h h_effects h_numbers h_bans v_count v_bans) H → va_D A (wcX2_isBanned cI cJ cZ cG h h_effects h_numbers h_bans v_count v_bans) → va_S A s.heap H locs → lv_has ls 3 [] → W p l e rmX2_isBanned s m args below meth c H locs 0 0 (MQ below (wQz r0 (wcX2_isBanned cI cJ cZ cG h h_effects h_numbers h_bans v_count v_bans) (dC, dI) A) args s 0 0 A) (F0 m 15 ls [.int s0]) := by
  obtain ⟨hx, hb, hr, hml, hown, hts, hlocks⟩ := id C0
  intro s0 hz_s0 H locs ls hf hP hD hS hl
  unfold fX2_isBanned_b15 at hf
  have hf : some s0 = some r0 := hf
  cases hf
  exact w_zret hx hb hr hlocks rfl hz_s0 hP hD hS dX2_isBanned_15
set_option maxHeartbeats 4000000 in
set_option maxRecDepth 100000 in
theorem oX2_isBanned (l : Launch) (dC : Nat → ClassId) (dI : Nat → Nat → Nat) (cI cJ cZ cG : ClassId) (h h_effects h_numbers h_bans : Nat) (v_count : Int32) (v_bans : Nat → Int32) (sz : Nat) (p1 : Int32) (p2 : Int32) (r0 : Int32) (hf : fX2_isBanned v_bans p1 p2 = some r0) : Met l yX2_isBanned wsX2_isBanned rmX2_isBanned (wPc [.ref h, .int p1, .int p2] (dC, dI) (tysW cI cJ cZ cG) sz (wcX2_isBanned cI cJ cZ cG h h_effects h_numbers h_bans v_count v_bans)) (wQz r0 (wcX2_isBanned cI cJ cZ cG h h_effects h_numbers h_bans v_count v_bans) (dC, dI) (va_A (wcX2_isBanned cI cJ cZ cG h h_effects h_numbers h_bans v_count v_bans) sz)) 0 0 (va_A (wcX2_isBanned cI cJ cZ cG h h_effects h_numbers h_bans v_count v_bans) sz) := by
  refine Met.ofW (cc := cX2_isBanned) (maxL := 3) (ret := (some .boolean)) (by decide) rfl ?_
  intro p e s m args below meth c s₁ B hml hv
  obtain ⟨rfl, hsz, hP, hK, hD0⟩ := hv
  have hx := B.exec
  have hb := B.bytes
  have hr := B.returns
  have hts := atoms_spec (ws := wsX2_isBanned) B.pre
  have hown : s.vm.findClass RX2 = some m.cls := findClass_of_methodNamed B.named
  have hlocks := B.notSynchronized
  subst hsz
  have hD := hD0.self (sz := s.heap.size)
  generalize hAe : va_A (wcX2_isBanned cI cJ cZ cG h h_effects h_numbers h_bans v_count v_bans) s.heap.size = A at hD ⊢
  have hA : ∀ q : Nat, s.heap.size ≤ q → A q := fun q h => by rw [← hAe]; exact Or.inr h
  have hS : va_S A s.heap s.heap [] := va_S.rf
  have hP : va_P (dC, dI) vwCl (wcX2_isBanned cI cJ cZ cG h h_effects h_numbers h_bans v_count v_bans) s.heap := hP
  have hl := lv_entry ([.ref h, .int p1, .int p2]) (n := 3) (Nat.le_of_ble_eq_true rfl)
  rw [lg_entry_eq]
  generalize (lg_sl ([.ref h, .int p1, .int p2]) ++ List.replicate (3 - (lg_sl ([.ref h, .int p1, .int p2])).length) Slot.unset).toArray = ls at hl ⊢
  have hl : lv_has ls 3 [(0, .ref h), (1, .int p1), (2, .int p2)] := hl
  generalize hH : s.heap = H at hP hS ⊢
  have hS : va_S A s.heap H [] := by rw [hH]; exact hS
  have C0 : wCX p s #[.ref h, .int p1, .int p2] m meth c cX2_isBanned 3 (some .boolean) RX2 wsX2_isBanned := ⟨hx, hb, hr, hml, hown, hts, hlocks⟩
  show W p l e rmX2_isBanned s m #[.ref h, .int p1, .int p2] below meth c H [] 0 0 (MQ below (wQz r0 (wcX2_isBanned cI cJ cZ cG h h_effects h_numbers h_bans v_count v_bans) (dC, dI) A) #[.ref h, .int p1, .int p2] s 0 0 A) (F0 m 0 ls [])
  unfold fX2_isBanned at hf
  refine lv_aload_n hx hb dX2_isBanned_0 rfl (lv_at hl 0 rfl) ?_
  refine va_get (D := (dC, dI)) (ci := 2) (v := .ref h_bans) (C := RX2) (T := TX2) (N := 4) hx hb hts iX2_isBanned_X2 hown hK hP 0 rfl rfl 2 (by decide) (hts _ mX2_isBanned_0) (fun _ h9 => h9) rfl dX2_isBanned_1 ?_
  refine lv_iload_n hx hb dX2_isBanned_4 rfl (lv_at hl 1 rfl) ?_
  obtain ⟨hg_1, hf⟩ := ck_s hf
  refine va_iald (D := (dC, dI)) hx hb hK hP 1 0 rfl rfl (g_vp hg_1) dX2_isBanned_5 ?_
  refine lv_iload_n hx hb dX2_isBanned_6 rfl (lv_at hl 2 rfl) ?_
  refine lv_icmp_gt (tgt := 14) hx hb dX2_isBanned_7 (by decide) (fun c_2 => ?_) (fun c_2 => ?_)
  · have hf := it_t hf c_2
    refine lv_iconst (v := 0) hx hb dX2_isBanned_14 (by decide) ?_
    have hf : fX2_isBanned_b15 v_bans 0 = some r0 := hf
    exact kX2_isBanned_15 C0 hA hK 0 (Or.inl rfl) _ _ _ hf hP hD hS (lv_sub hl [] rfl)
  · have hf := it_f hf c_2
    refine lv_iconst (v := 1) hx hb dX2_isBanned_10 (by decide) ?_
    refine lv_goto (tgt := 15) hx hb dX2_isBanned_11 (by decide) ?_
    have hf : fX2_isBanned_b15 v_bans 1 = some r0 := hf
    exact kX2_isBanned_15 C0 hA hK 1 (Or.inr rfl) _ _ _ hf hP hD hS (lv_sub hl [] rfl)
