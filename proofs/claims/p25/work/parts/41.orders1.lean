/-! printed by gen.py: orders1 -/
abbrev wcX4_isIn (cI cJ cZ cG : ClassId) : va_W := []
abbrev rmX4_isIn : Room := { frames := 0, cells := 0, slots := 0, locals := 0 }
set_option maxHeartbeats 4000000 in
set_option maxRecDepth 100000 in
theorem kX4_isIn_14 {p : Program} {l : Launch} {e : Env} {s : State} {m : MethodId} {args : Array Value} {below : List Frame} {meth : Method} {c : Code} {dC : Nat → ClassId} {dI : Nat → Nat → Nat} {A : Nat → Prop} {cI cJ cZ cG : ClassId} {r0 : Int32} (C0 : wCX p s args m meth c cX4_isIn 2 (some .boolean) RX4 wsX4_isIn) (hA : ∀ q, s.heap.size ≤ q → A q) (hK : va_K (dC, dI) vwCl (tysW cI cJ cZ cG) s) : ∀ (s0 : Int32) (hz_s0 : wB s0) (H : Heap) (locs : List Loc) (ls : Array Slot), fX4_isIn_b14 s0 = some r0 → va_P (dC, dI) vwCl (wcX4_isIn cI cJ cZ cG ) H → va_D A (wcX4_isIn cI cJ cZ cG ) → va_S A s.heap H locs → lv_has ls 2 [] → W p l e rmX4_isIn s m args below meth c H locs 0 0 (MQ below (wQz r0 (wcX4_isIn cI cJ cZ cG ) (dC, dI) A) args s 0 0 A) (F0 m 14 ls [.int s0]) := by
  obtain ⟨hx, hb, hr, hml, hown, hts, hlocks⟩ := id C0
  intro s0 hz_s0 H locs ls hf hP hD hS hl
  unfold fX4_isIn_b14 at hf
  have hf : some s0 = some r0 := hf
  cases hf
  exact w_zret hx hb hr hlocks rfl hz_s0 hP hD hS dX4_isIn_14
set_option maxHeartbeats 4000000 in
set_option maxRecDepth 100000 in
theorem oX4_isIn (l : Launch) (dC : Nat → ClassId) (dI : Nat → Nat → Nat) (cI cJ cZ cG : ClassId) (sz : Nat) (p1 : Int32) (p2 : Int32) (r0 : Int32) (hf : fX4_isIn p1 p2 = some r0) : Met l yX4_isIn wsX4_isIn rmX4_isIn (wPc [.int p1, .int p2] (dC, dI) (tysW cI cJ cZ cG) sz (wcX4_isIn cI cJ cZ cG )) (wQz r0 (wcX4_isIn cI cJ cZ cG ) (dC, dI) (va_A (wcX4_isIn cI cJ cZ cG ) sz)) 0 0 (va_A (wcX4_isIn cI cJ cZ cG ) sz) := by
  refine Met.ofW (cc := cX4_isIn) (maxL := 2) (ret := (some .boolean)) (by decide) rfl ?_
  intro p e s m args below meth c s₁ B hml hv
  obtain ⟨rfl, hsz, hP, hK, hD0⟩ := hv
  have hx := B.exec
  have hb := B.bytes
  have hr := B.returns
  have hts := atoms_spec (ws := wsX4_isIn) B.pre
  have hown : s.vm.findClass RX4 = some m.cls := findClass_of_methodNamed B.named
  have hlocks := B.notSynchronized
  subst hsz
  have hD := hD0.self (sz := s.heap.size)
  generalize hAe : va_A (wcX4_isIn cI cJ cZ cG ) s.heap.size = A at hD ⊢
  have hA : ∀ q : Nat, s.heap.size ≤ q → A q := fun q h => by rw [← hAe]; exact Or.inr h
  have hS : va_S A s.heap s.heap [] := va_S.rf
  have hP : va_P (dC, dI) vwCl (wcX4_isIn cI cJ cZ cG ) s.heap := hP
  have hl := lv_entry ([.int p1, .int p2]) (n := 2) (Nat.le_of_ble_eq_true rfl)
  rw [lg_entry_eq]
  generalize (lg_sl ([.int p1, .int p2]) ++ List.replicate (2 - (lg_sl ([.int p1, .int p2])).length) Slot.unset).toArray = ls at hl ⊢
  have hl : lv_has ls 2 [(0, .int p1), (1, .int p2)] := hl
  generalize hH : s.heap = H at hP hS ⊢
  have hS : va_S A s.heap H [] := by rw [hH]; exact hS
  have C0 : wCX p s #[.int p1, .int p2] m meth c cX4_isIn 2 (some .boolean) RX4 wsX4_isIn := ⟨hx, hb, hr, hml, hown, hts, hlocks⟩
  show W p l e rmX4_isIn s m #[.int p1, .int p2] below meth c H [] 0 0 (MQ below (wQz r0 (wcX4_isIn cI cJ cZ cG ) (dC, dI) A) #[.int p1, .int p2] s 0 0 A) (F0 m 0 ls [])
  unfold fX4_isIn at hf
  refine lv_iload_n hx hb dX4_isIn_0 rfl (lv_at hl 0 rfl) ?_
  refine lv_iload_n hx hb dX4_isIn_1 rfl (lv_at hl 1 rfl) ?_
  refine lv_ishr hx hb dX4_isIn_2 ?_
  refine lv_iconst (v := 1) hx hb dX4_isIn_3 (by decide) ?_
  refine lv_iand hx hb dX4_isIn_4 ?_
  refine lv_iconst (v := 1) hx hb dX4_isIn_5 (by decide) ?_
  refine lv_icmp_ne (tgt := 13) hx hb dX4_isIn_6 (by decide) (fun c_1 => ?_) (fun c_1 => ?_)
  · have hf := it_f hf c_1
    refine lv_iconst (v := 0) hx hb dX4_isIn_13 (by decide) ?_
    have hf : fX4_isIn_b14 0 = some r0 := hf
    exact kX4_isIn_14 C0 hA hK 0 (Or.inl rfl) _ _ _ hf hP hD hS (lv_sub hl [] rfl)
  · have hf := it_t hf c_1
    refine lv_iconst (v := 1) hx hb dX4_isIn_9 (by decide) ?_
    refine lv_goto (tgt := 14) hx hb dX4_isIn_10 (by decide) ?_
    have hf : fX4_isIn_b14 1 = some r0 := hf
    exact kX4_isIn_14 C0 hA hK 1 (Or.inr rfl) _ _ _ hf hP hD hS (lv_sub hl [] rfl)
abbrev wcX4_note (cI cJ cZ cG : ClassId) (h h_work h_work_lives h_work_shields h_work_effects h_work_numbers h_work_players h_work_against : Nat) (v_player : Int32) (v_isGreatest : Int32) (v_isFound : Int32) (v_best : Int32) (v_work_size : Int32) (v_work_lives : Nat → Int32) : va_W := [(h, .inr (4, [.ref h_work, .int v_player, .int v_isGreatest, .int v_isFound, .int v_best])), (h_work, .inr (6, [.ref h_work_lives, .ref h_work_shields, .ref h_work_effects, .ref h_work_numbers, .ref h_work_players, .ref h_work_against, .int v_work_size])), (h_work_lives, .inl (cI, 6, .inl v_work_lives))]
theorem iX4_note_X4 : ∀ w ∈ wsX40, w ∈ wsX4_note := by decide +kernel
theorem iX4_note_X6 : ∀ w ∈ wsX60, w ∈ wsX4_note := by decide +kernel
theorem mX4_note_0 : (Cond.fieldLink RX4 12 "Sleevehall$Orders" "work" "LSleevehall$Table;") ∈ wsX4_note := by decide +kernel
theorem mX4_note_1 : (Cond.fieldLink RX4 84 "Sleevehall$Table" "lives" "[I") ∈ wsX4_note := by decide +kernel
theorem mX4_note_2 : (Cond.fieldLink RX4 22 "Sleevehall$Orders" "player" "I") ∈ wsX4_note := by decide +kernel
theorem mX4_note_3 : (Cond.fieldLink RX4 30 "Sleevehall$Orders" "isFound" "Z") ∈ wsX4_note := by decide +kernel
theorem mX4_note_4 : (Cond.fieldLink RX4 26 "Sleevehall$Orders" "isGreatest" "Z") ∈ wsX4_note := by decide +kernel
theorem mX4_note_5 : (Cond.fieldLink RX4 33 "Sleevehall$Orders" "best" "I") ∈ wsX4_note := by decide +kernel
abbrev rmX4_note : Room := { frames := 0, cells := 0, slots := 0, locals := 0 }
set_option maxHeartbeats 4000000 in
set_option maxRecDepth 100000 in
theorem kX4_note_51 {p : Program} {l : Launch} {e : Env} {s : State} {m : MethodId} {args : Array Value} {below : List Frame} {meth : Method} {c : Code} {dC : Nat → ClassId} {dI : Nat → Nat → Nat} {A : Nat → Prop} {cI cJ cZ cG : ClassId} {h h_work h_work_lives h_work_shields h_work_effects h_work_numbers h_work_players h_work_against : Nat} {v_player : Int32} {v_isGreatest : Int32} {v_work_size : Int32} {v_work_lives : Nat → Int32} {n_isFound : Int32} {n_best : Int32} (C0 : wCX p s args m meth c cX4_note 2 none RX4 wsX4_note) (hA : ∀ q, s.heap.size ≤ q → A q) (hK : va_K (dC, dI) vwCl (tysW cI cJ cZ cG) s) : ∀ (v_isFound : Int32) (v_best : Int32) (H : Heap) (locs : List Loc) (ls : Array Slot), fX4_note_b51 v_player v_isGreatest v_work_lives v_isFound v_best = some (n_isFound, n_best) → va_P (dC, dI) vwCl (wcX4_note cI cJ cZ cG h h_work h_work_lives h_work_shields h_work_effects h_work_numbers h_work_players h_work_against v_player v_isGreatest v_isFound v_best v_work_size v_work_lives) H → va_D A (wcX4_note cI cJ cZ cG h h_work h_work_lives h_work_shields h_work_effects h_work_numbers h_work_players h_work_against v_player v_isGreatest v_isFound v_best v_work_size v_work_lives) → va_S A s.heap H locs → lv_has ls 2 [(0, .ref h)] → W p l e rmX4_note s m args below meth c H locs 0 0 (MQ below (wQv (wcX4_note cI cJ cZ cG h h_work h_work_lives h_work_shields h_work_effects h_work_numbers h_work_players h_work_against v_player v_isGreatest n_isFound n_best v_work_size v_work_lives) (dC, dI) A) args s 0 0 A) (F0 m 51 ls []) := by
  obtain ⟨hx, hb, hr, hml, hown, hts, hlocks⟩ := id C0
  intro v_isFound v_best H locs ls hf hP hD hS hl
  unfold fX4_note_b51 at hf
  refine lv_aload_n hx hb dX4_note_51 rfl (lv_at hl 0 rfl) ?_
  refine lv_iconst (v := 1) hx hb dX4_note_52 (by decide) ?_
  refine va_put (D := (dC, dI)) (ci := 4) (v := .int 1) (ty := .boolean) (C := RX4) (T := TX4) (N := 5) hx hb hts iX4_note_X4 tyX4 tyX4_ok nmX4 hown hK hP hD hS 0 rfl rfl 3 (by decide) (hts _ mX4_note_3) (fun _ h9 => h9) rfl (by decide +kernel) (wB_n (Or.inr rfl)) (wB_f (Or.inr rfl)) (Nat.le_of_ble_eq_true rfl) dX4_note_53 (fun H locs hP hD hS => ?_)
  have hP : va_P (dC, dI) vwCl (wcX4_note cI cJ cZ cG h h_work h_work_lives h_work_shields h_work_effects h_work_numbers h_work_players h_work_against v_player v_isGreatest 1 v_best v_work_size v_work_lives) H := hP
  have hD : va_D A (wcX4_note cI cJ cZ cG h h_work h_work_lives h_work_shields h_work_effects h_work_numbers h_work_players h_work_against v_player v_isGreatest 1 v_best v_work_size v_work_lives) := hD
  have hf : some (1, v_best) = some (n_isFound, n_best) := hf
  cases hf
  exact w_vret hx hb hr hlocks hP hD hS dX4_note_56
set_option maxHeartbeats 4000000 in
set_option maxRecDepth 100000 in
theorem kX4_note_46 {p : Program} {l : Launch} {e : Env} {s : State} {m : MethodId} {args : Array Value} {below : List Frame} {meth : Method} {c : Code} {dC : Nat → ClassId} {dI : Nat → Nat → Nat} {A : Nat → Prop} {cI cJ cZ cG : ClassId} {h h_work h_work_lives h_work_shields h_work_effects h_work_numbers h_work_players h_work_against : Nat} {v_player : Int32} {v_isGreatest : Int32} {v_work_size : Int32} {v_work_lives : Nat → Int32} {n_isFound : Int32} {n_best : Int32} (C0 : wCX p s args m meth c cX4_note 2 none RX4 wsX4_note) (hA : ∀ q, s.heap.size ≤ q → A q) (hK : va_K (dC, dI) vwCl (tysW cI cJ cZ cG) s) : ∀ (v_isFound : Int32) (v_best : Int32) (l1 : Int32) (H : Heap) (locs : List Loc) (ls : Array Slot), fX4_note_b46 v_player v_isGreatest v_work_lives v_isFound v_best l1 = some (n_isFound, n_best) → va_P (dC, dI) vwCl (wcX4_note cI cJ cZ cG h h_work h_work_lives h_work_shields h_work_effects h_work_numbers h_work_players h_work_against v_player v_isGreatest v_isFound v_best v_work_size v_work_lives) H → va_D A (wcX4_note cI cJ cZ cG h h_work h_work_lives h_work_shields h_work_effects h_work_numbers h_work_players h_work_against v_player v_isGreatest v_isFound v_best v_work_size v_work_lives) → va_S A s.heap H locs → lv_has ls 2 [(0, .ref h), (1, .int l1)] → W p l e rmX4_note s m args below meth c H locs 0 0 (MQ below (wQv (wcX4_note cI cJ cZ cG h h_work h_work_lives h_work_shields h_work_effects h_work_numbers h_work_players h_work_against v_player v_isGreatest n_isFound n_best v_work_size v_work_lives) (dC, dI) A) args s 0 0 A) (F0 m 46 ls []) := by
  obtain ⟨hx, hb, hr, hml, hown, hts, hlocks⟩ := id C0
  intro v_isFound v_best l1 H locs ls hf hP hD hS hl
  unfold fX4_note_b46 at hf
  refine lv_aload_n hx hb dX4_note_46 rfl (lv_at hl 0 rfl) ?_
  refine lv_iload_n hx hb dX4_note_47 rfl (lv_at hl 1 rfl) ?_
  refine va_put (D := (dC, dI)) (ci := 4) (v := .int l1) (ty := .int) (C := RX4) (T := TX4) (N := 5) hx hb hts iX4_note_X4 tyX4 tyX4_ok nmX4 hown hK hP hD hS 0 rfl rfl 4 (by decide) (hts _ mX4_note_5) (fun _ h9 => h9) rfl (by decide +kernel) rfl rfl (Nat.le_of_ble_eq_true rfl) dX4_note_48 (fun H locs hP hD hS => ?_)
  have hP : va_P (dC, dI) vwCl (wcX4_note cI cJ cZ cG h h_work h_work_lives h_work_shields h_work_effects h_work_numbers h_work_players h_work_against v_player v_isGreatest v_isFound l1 v_work_size v_work_lives) H := hP
  have hD : va_D A (wcX4_note cI cJ cZ cG h h_work h_work_lives h_work_shields h_work_effects h_work_numbers h_work_players h_work_against v_player v_isGreatest v_isFound l1 v_work_size v_work_lives) := hD
  have hf : fX4_note_b51 v_player v_isGreatest v_work_lives v_isFound l1 = some (n_isFound, n_best) := hf
  exact kX4_note_51 C0 hA hK v_isFound l1 _ _ _ hf hP hD hS (lv_sub hl [0] rfl)
set_option maxHeartbeats 4000000 in
set_option maxRecDepth 100000 in
theorem oX4_note (l : Launch) (dC : Nat → ClassId) (dI : Nat → Nat → Nat) (cI cJ cZ cG : ClassId) (h h_work h_work_lives h_work_shields h_work_effects h_work_numbers h_work_players h_work_against : Nat) (v_player : Int32) (v_isGreatest : Int32) (v_isFound : Int32) (v_best : Int32) (v_work_size : Int32) (v_work_lives : Nat → Int32) (sz : Nat) (n_isFound : Int32) (n_best : Int32) (hf : fX4_note v_player v_isGreatest v_isFound v_best v_work_lives = some (n_isFound, n_best)) : Met l yX4_note wsX4_note rmX4_note (wPc [.ref h] (dC, dI) (tysW cI cJ cZ cG) sz (wcX4_note cI cJ cZ cG h h_work h_work_lives h_work_shields h_work_effects h_work_numbers h_work_players h_work_against v_player v_isGreatest v_isFound v_best v_work_size v_work_lives)) (wQv (wcX4_note cI cJ cZ cG h h_work h_work_lives h_work_shields h_work_effects h_work_numbers h_work_players h_work_against v_player v_isGreatest n_isFound n_best v_work_size v_work_lives) (dC, dI) (va_A (wcX4_note cI cJ cZ cG h h_work h_work_lives h_work_shields h_work_effects h_work_numbers h_work_players h_work_against v_player v_isGreatest v_isFound v_best v_work_size v_work_lives) sz)) 0 0 (va_A (wcX4_note cI cJ cZ cG h h_work h_work_lives h_work_shields h_work_effects h_work_numbers h_work_players h_work_against v_player v_isGreatest v_isFound v_best v_work_size v_work_lives) sz) := by
  refine Met.ofW (cc := cX4_note) (maxL := 2) (ret := none) (by decide) rfl ?_
  intro p e s m args below meth c s₁ B hml hv
  obtain ⟨rfl, hsz, hP, hK, hD0⟩ := hv
  have hx := B.exec
  have hb := B.bytes
  have hr := B.returns
  have hts := atoms_spec (ws := wsX4_note) B.pre
  have hown : s.vm.findClass RX4 = some m.cls := findClass_of_methodNamed B.named
  have hlocks := B.notSynchronized
  subst hsz
  have hD := hD0.self (sz := s.heap.size)
  generalize hAe : va_A (wcX4_note cI cJ cZ cG h h_work h_work_lives h_work_shields h_work_effects h_work_numbers h_work_players h_work_against v_player v_isGreatest v_isFound v_best v_work_size v_work_lives) s.heap.size = A at hD ⊢
  have hA : ∀ q : Nat, s.heap.size ≤ q → A q := fun q h => by rw [← hAe]; exact Or.inr h
  have hS : va_S A s.heap s.heap [] := va_S.rf
  have hP : va_P (dC, dI) vwCl (wcX4_note cI cJ cZ cG h h_work h_work_lives h_work_shields h_work_effects h_work_numbers h_work_players h_work_against v_player v_isGreatest v_isFound v_best v_work_size v_work_lives) s.heap := hP
  have hl := lv_entry ([.ref h]) (n := 2) (Nat.le_of_ble_eq_true rfl)
  rw [lg_entry_eq]
  generalize (lg_sl ([.ref h]) ++ List.replicate (2 - (lg_sl ([.ref h])).length) Slot.unset).toArray = ls at hl ⊢
  have hl : lv_has ls 2 [(0, .ref h)] := hl
  generalize hH : s.heap = H at hP hS ⊢
  have hS : va_S A s.heap H [] := by rw [hH]; exact hS
  have C0 : wCX p s #[.ref h] m meth c cX4_note 2 none RX4 wsX4_note := ⟨hx, hb, hr, hml, hown, hts, hlocks⟩
  show W p l e rmX4_note s m #[.ref h] below meth c H [] 0 0 (MQ below (wQv (wcX4_note cI cJ cZ cG h h_work h_work_lives h_work_shields h_work_effects h_work_numbers h_work_players h_work_against v_player v_isGreatest n_isFound n_best v_work_size v_work_lives) (dC, dI) A) #[.ref h] s 0 0 A) (F0 m 0 ls [])
  unfold fX4_note at hf
  refine lv_aload_n hx hb dX4_note_0 rfl (lv_at hl 0 rfl) ?_
  refine va_get (D := (dC, dI)) (ci := 4) (v := .ref h_work) (C := RX4) (T := TX4) (N := 5) hx hb hts iX4_note_X4 hown hK hP 0 rfl rfl 0 (by decide) (hts _ mX4_note_0) (fun _ h9 => h9) rfl dX4_note_1 ?_
  refine va_get (D := (dC, dI)) (ci := 6) (v := .ref h_work_lives) (C := RX6) (T := TX6) (N := 7) hx hb hts iX4_note_X6 hown hK hP 1 rfl rfl 0 (by decide) (hts _ mX4_note_1) (fun _ h9 => h9) rfl dX4_note_4 ?_
  refine lv_aload_n hx hb dX4_note_7 rfl (lv_at hl 0 rfl) ?_
  refine va_get (D := (dC, dI)) (ci := 4) (v := .int v_player) (C := RX4) (T := TX4) (N := 5) hx hb hts iX4_note_X4 hown hK hP 0 rfl rfl 1 (by decide) (hts _ mX4_note_2) (fun _ h9 => h9) rfl dX4_note_8 ?_
  obtain ⟨hg_1, hf⟩ := ck_s hf
  refine va_iald (D := (dC, dI)) hx hb hK hP 2 0 rfl rfl (g_vp hg_1) dX4_note_11 ?_
  obtain ⟨x_2, ex_2, hf⟩ := nm_s hf
  refine w_eqi ex_2 ?_
  refine lv_istore_n (lv' := [(1, .int x_2), (0, .ref h)]) hx hb dX4_note_12 rfl hl (by decide) rfl (fun ls hl => ?_)
  refine lv_aload_n hx hb dX4_note_13 rfl (lv_at hl 1 rfl) ?_
  refine va_get (D := (dC, dI)) (ci := 4) (v := .int v_isFound) (C := RX4) (T := TX4) (N := 5) hx hb hts iX4_note_X4 hown hK hP 0 rfl rfl 3 (by decide) (hts _ mX4_note_3) (fun _ h9 => h9) rfl dX4_note_14 ?_
  refine lv_if_eq (tgt := 46) hx hb dX4_note_17 (by decide) (fun c_3 => ?_) (fun c_3 => ?_)
  · have hf := it_t hf c_3
    have hf : fX4_note_b46 v_player v_isGreatest v_work_lives v_isFound v_best x_2 = some (n_isFound, n_best) := hf
    exact kX4_note_46 C0 hA hK v_isFound v_best x_2 _ _ _ hf hP hD hS (lv_sub hl [1, 0] rfl)
  · have hf := it_f hf c_3
    refine lv_aload_n hx hb dX4_note_20 rfl (lv_at hl 1 rfl) ?_
    refine va_get (D := (dC, dI)) (ci := 4) (v := .int v_isGreatest) (C := RX4) (T := TX4) (N := 5) hx hb hts iX4_note_X4 hown hK hP 0 rfl rfl 2 (by decide) (hts _ mX4_note_4) (fun _ h9 => h9) rfl dX4_note_21 ?_
    refine lv_if_eq (tgt := 38) hx hb dX4_note_24 (by decide) (fun c_4 => ?_) (fun c_4 => ?_)
    · have hf := it_t hf c_4
      refine lv_iload_n hx hb dX4_note_38 rfl (lv_at hl 0 rfl) ?_
      refine lv_aload_n hx hb dX4_note_39 rfl (lv_at hl 1 rfl) ?_
      refine va_get (D := (dC, dI)) (ci := 4) (v := .int v_best) (C := RX4) (T := TX4) (N := 5) hx hb hts iX4_note_X4 hown hK hP 0 rfl rfl 4 (by decide) (hts _ mX4_note_5) (fun _ h9 => h9) rfl dX4_note_40 ?_
      refine lv_icmp_ge (tgt := 51) hx hb dX4_note_43 (by decide) (fun c_5 => ?_) (fun c_5 => ?_)
      · have hf := it_t hf c_5
        have hf : fX4_note_b51 v_player v_isGreatest v_work_lives v_isFound v_best = some (n_isFound, n_best) := hf
        exact kX4_note_51 C0 hA hK v_isFound v_best _ _ _ hf hP hD hS (lv_sub hl [1] rfl)
      · have hf := it_f hf c_5
        have hf : fX4_note_b46 v_player v_isGreatest v_work_lives v_isFound v_best x_2 = some (n_isFound, n_best) := hf
        exact kX4_note_46 C0 hA hK v_isFound v_best x_2 _ _ _ hf hP hD hS (lv_sub hl [1, 0] rfl)
    · have hf := it_f hf c_4
      refine lv_iload_n hx hb dX4_note_27 rfl (lv_at hl 0 rfl) ?_
      refine lv_aload_n hx hb dX4_note_28 rfl (lv_at hl 1 rfl) ?_
      refine va_get (D := (dC, dI)) (ci := 4) (v := .int v_best) (C := RX4) (T := TX4) (N := 5) hx hb hts iX4_note_X4 hown hK hP 0 rfl rfl 4 (by decide) (hts _ mX4_note_5) (fun _ h9 => h9) rfl dX4_note_29 ?_
      refine lv_icmp_le (tgt := 51) hx hb dX4_note_32 (by decide) (fun c_6 => ?_) (fun c_6 => ?_)
      · have hf := it_t hf c_6
        have hf : fX4_note_b51 v_player v_isGreatest v_work_lives v_isFound v_best = some (n_isFound, n_best) := hf
        exact kX4_note_51 C0 hA hK v_isFound v_best _ _ _ hf hP hD hS (lv_sub hl [1] rfl)
      · have hf := it_f hf c_6
        refine lv_goto (tgt := 46) hx hb dX4_note_35 (by decide) ?_
        have hf : fX4_note_b46 v_player v_isGreatest v_work_lives v_isFound v_best x_2 = some (n_isFound, n_best) := hf
        exact kX4_note_46 C0 hA hK v_isFound v_best x_2 _ _ _ hf hP hD hS (lv_sub hl [1, 0] rfl)
