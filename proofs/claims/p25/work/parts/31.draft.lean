/-! printed by gen.py: draft -/
abbrev wcJ9_floorMod_7cf53 (cI cJ cZ cG : ClassId) : va_W := []
abbrev rmJ9_floorMod_7cf53 : Room := { frames := 0, cells := 0, slots := 0, locals := 0 }
set_option maxHeartbeats 4000000 in
set_option maxRecDepth 100000 in
theorem kJ9_floorMod_7cf53_18 {p : Program} {l : Launch} {e : Env} {s : State} {m : MethodId} {args : Array Value} {below : List Frame} {meth : Method} {c : Code} {dC : Nat → ClassId} {dI : Nat → Nat → Nat} {A : Nat → Prop} {cI cJ cZ cG : ClassId} {r0 : Int32} (C0 : wCX p s args m meth c cJ9_floorMod_7cf53 3 (some .int) RJ9 wsJ9_floorMod_7cf53) (hA : ∀ q, s.heap.size ≤ q → A q) (hK : va_K (dC, dI) vwCl (tysW cI cJ cZ cG) s) : ∀ (l2 : Int32) (H : Heap) (locs : List Loc) (ls : Array Slot), fJ9_floorMod_7cf53_b18 l2 = some r0 → va_P (dC, dI) vwCl (wcJ9_floorMod_7cf53 cI cJ cZ cG ) H → va_D A (wcJ9_floorMod_7cf53 cI cJ cZ cG ) → va_S A s.heap H locs → lv_has ls 3 [(2, .int l2)] → W p l e rmJ9_floorMod_7cf53 s m args below meth c H locs 0 0 (MQ below (wQi r0 (wcJ9_floorMod_7cf53 cI cJ cZ cG ) (dC, dI) A) args s 0 0 A) (F0 m 18 ls []) := by
  obtain ⟨hx, hb, hr, hml, hown, hts, hlocks⟩ := id C0
  intro l2 H locs ls hf hP hD hS hl
  unfold fJ9_floorMod_7cf53_b18 at hf
  refine lv_iload_n hx hb dJ9_floorMod_7cf53_18 rfl (lv_at hl 0 rfl) ?_
  have hf : some l2 = some r0 := hf
  cases hf
  exact w_iret hx hb hr hlocks rfl hP hD hS dJ9_floorMod_7cf53_19
set_option maxHeartbeats 4000000 in
set_option maxRecDepth 100000 in
theorem oJ9_floorMod_7cf53 (l : Launch) (dC : Nat → ClassId) (dI : Nat → Nat → Nat) (cI cJ cZ cG : ClassId) (sz : Nat) (p1 : Int32) (p2 : Int32) (r0 : Int32) (hf : fJ9_floorMod_7cf53 p1 p2 = some r0) : Met l yJ9_floorMod_7cf53 wsJ9_floorMod_7cf53 rmJ9_floorMod_7cf53 (wPc [.int p1, .int p2] (dC, dI) (tysW cI cJ cZ cG) sz (wcJ9_floorMod_7cf53 cI cJ cZ cG )) (wQi r0 (wcJ9_floorMod_7cf53 cI cJ cZ cG ) (dC, dI) (va_A (wcJ9_floorMod_7cf53 cI cJ cZ cG ) sz)) 0 0 (va_A (wcJ9_floorMod_7cf53 cI cJ cZ cG ) sz) := by
  refine va_MetF (cc := cJ9_floorMod_7cf53) (maxL := 3) (ret := (some .int)) (by decide +kernel) rfl ?_
  intro p e s m args below meth c s₁ B hml hv
  obtain ⟨rfl, hsz, hP, hK, hD0⟩ := hv
  have hx := B.exec
  have hb := B.bytes
  have hr := B.returns
  have hts := atoms_spec (ws := wsJ9_floorMod_7cf53) B.pre
  have hown : s.vm.findClass RJ9 = some m.cls := findClass_of_methodNamed B.named
  have hlocks := B.notSynchronized
  subst hsz
  have hD := hD0.self (sz := s.heap.size)
  generalize hAe : va_A (wcJ9_floorMod_7cf53 cI cJ cZ cG ) s.heap.size = A at hD ⊢
  have hA : ∀ q : Nat, s.heap.size ≤ q → A q := fun q h => by rw [← hAe]; exact Or.inr h
  have hS : va_S A s.heap s.heap [] := va_S.rf
  have hP : va_P (dC, dI) vwCl (wcJ9_floorMod_7cf53 cI cJ cZ cG ) s.heap := hP
  have hl := lv_entry ([.int p1, .int p2]) (n := 3) (Nat.le_of_ble_eq_true rfl)
  rw [lg_entry_eq]
  generalize (lg_sl ([.int p1, .int p2]) ++ List.replicate (3 - (lg_sl ([.int p1, .int p2])).length) Slot.unset).toArray = ls at hl ⊢
  have hl : lv_has ls 3 [(0, .int p1), (1, .int p2)] := hl
  generalize hH : s.heap = H at hP hS ⊢
  have hS : va_S A s.heap H [] := by rw [hH]; exact hS
  have C0 : wCX p s #[.int p1, .int p2] m meth c cJ9_floorMod_7cf53 3 (some .int) RJ9 wsJ9_floorMod_7cf53 := ⟨hx, hb, hr, hml, hown, hts, hlocks⟩
  show W p l e rmJ9_floorMod_7cf53 s m #[.int p1, .int p2] below meth c H [] 0 0 (MQ below (wQi r0 (wcJ9_floorMod_7cf53 cI cJ cZ cG ) (dC, dI) A) #[.int p1, .int p2] s 0 0 A) (F0 m 0 ls [])
  unfold fJ9_floorMod_7cf53 at hf
  refine lv_iload_n hx hb dJ9_floorMod_7cf53_0 rfl (lv_at hl 0 rfl) ?_
  refine lv_iload_n hx hb dJ9_floorMod_7cf53_1 rfl (lv_at hl 1 rfl) ?_
  obtain ⟨hg_1, hf⟩ := ck_s hf
  refine lv_irem hx hb dJ9_floorMod_7cf53_2 (nz_n hg_1) ?_
  obtain ⟨x_2, ex_2, hf⟩ := nm_s hf
  refine w_eqi ex_2 ?_
  refine lv_istore_n (lv' := [(2, .int x_2), (0, .int p1), (1, .int p2)]) hx hb dJ9_floorMod_7cf53_3 rfl hl (by decide) rfl (fun ls hl => ?_)
  refine lv_iload_n hx hb dJ9_floorMod_7cf53_4 rfl (lv_at hl 1 rfl) ?_
  refine lv_iload_n hx hb dJ9_floorMod_7cf53_5 rfl (lv_at hl 2 rfl) ?_
  refine lv_ixor hx hb dJ9_floorMod_7cf53_6 ?_
  refine lv_if_ge (tgt := 18) hx hb dJ9_floorMod_7cf53_7 (by decide) (fun c_3 => ?_) (fun c_3 => ?_)
  · have hf := it_t hf c_3
    have hf : fJ9_floorMod_7cf53_b18 x_2 = some r0 := hf
    exact kJ9_floorMod_7cf53_18 C0 hA hK x_2 _ _ _ hf hP hD hS (lv_sub hl [0] rfl)
  · have hf := it_f hf c_3
    refine lv_iload_n hx hb dJ9_floorMod_7cf53_10 rfl (lv_at hl 0 rfl) ?_
    refine lv_if_eq (tgt := 18) hx hb dJ9_floorMod_7cf53_11 (by decide) (fun c_4 => ?_) (fun c_4 => ?_)
    · have hf := it_t hf c_4
      have hf : fJ9_floorMod_7cf53_b18 x_2 = some r0 := hf
      exact kJ9_floorMod_7cf53_18 C0 hA hK x_2 _ _ _ hf hP hD hS (lv_sub hl [0] rfl)
    · have hf := it_f hf c_4
      refine lv_iload_n hx hb dJ9_floorMod_7cf53_14 rfl (lv_at hl 0 rfl) ?_
      refine lv_iload_n hx hb dJ9_floorMod_7cf53_15 rfl (lv_at hl 2 rfl) ?_
      refine lv_iadd hx hb dJ9_floorMod_7cf53_16 ?_
      have hf : some (x_2 + p2) = some r0 := hf
      cases hf
      exact w_iret hx hb hr hlocks rfl hP hD hS dJ9_floorMod_7cf53_17
abbrev wcX0_packInTurn (cI cJ cZ cG : ClassId) (h h_packs : Nat) (v_players : Int32) (v_cards : Int32) (v_round : Int32) (v_turn : Int32) : va_W := [(h, .inr (0, [.ref h_packs, .int v_players, .int v_cards, .int v_round, .int v_turn]))]
theorem iX0_packInTurn_X0 : ∀ w ∈ wsX00, w ∈ wsX0_packInTurn := by decide +kernel
theorem mX0_packInTurn_0 : (Cond.fieldLink RX0 17 "Sleevehall$Draft" "players" "I") ∈ wsX0_packInTurn := by decide +kernel
theorem mX0_packInTurn_1 : (Cond.fieldLink RX0 27 "Sleevehall$Draft" "turn" "I") ∈ wsX0_packInTurn := by decide +kernel
theorem mX0_packInTurn_2 : (Cond.fieldLink RX0 24 "Sleevehall$Draft" "round" "I") ∈ wsX0_packInTurn := by decide +kernel
abbrev rmX0_packInTurn : Room := { frames := 1, cells := 0, slots := 0, locals := 22 }
set_option maxHeartbeats 4000000 in
set_option maxRecDepth 100000 in
theorem kX0_packInTurn_28 {p : Program} {l : Launch} {e : Env} {s : State} {m : MethodId} {args : Array Value} {below : List Frame} {meth : Method} {c : Code} {dC : Nat → ClassId} {dI : Nat → Nat → Nat} {A : Nat → Prop} {cI cJ cZ cG : ClassId} {h h_packs : Nat} {v_players : Int32} {v_cards : Int32} {v_round : Int32} {v_turn : Int32} {r0 : Int32} (C0 : wCX p s args m meth c cX0_packInTurn 1 (some .int) RX0 wsX0_packInTurn) (hA : ∀ q, s.heap.size ≤ q → A q) (hK : va_K (dC, dI) vwCl (tysW cI cJ cZ cG) s) : ∀ (s0 : Int32) (H : Heap) (locs : List Loc) (ls : Array Slot), fX0_packInTurn_b28 v_players v_round v_turn s0 = some r0 → va_P (dC, dI) vwCl (wcX0_packInTurn cI cJ cZ cG h h_packs v_players v_cards v_round v_turn) H → va_D A (wcX0_packInTurn cI cJ cZ cG h h_packs v_players v_cards v_round v_turn) → va_S A s.heap H locs → lv_has ls 1 [] → W p l e rmX0_packInTurn s m args below meth c H locs 0 0 (MQ below (wQi r0 (wcX0_packInTurn cI cJ cZ cG h h_packs v_players v_cards v_round v_turn) (dC, dI) A) args s 0 0 A) (F0 m 28 ls [.int s0]) := by
  obtain ⟨hx, hb, hr, hml, hown, hts, hlocks⟩ := id C0
  intro s0 H locs ls hf hP hD hS hl
  unfold fX0_packInTurn_b28 at hf
  have hf : some s0 = some r0 := hf
  cases hf
  exact w_iret hx hb hr hlocks rfl hP hD hS dX0_packInTurn_28
set_option maxHeartbeats 4000000 in
set_option maxRecDepth 100000 in
theorem oX0_packInTurn (l : Launch) (dC : Nat → ClassId) (dI : Nat → Nat → Nat) (cI cJ cZ cG : ClassId) (h h_packs : Nat) (v_players : Int32) (v_cards : Int32) (v_round : Int32) (v_turn : Int32) (sz : Nat) (r0 : Int32) (hf : fX0_packInTurn v_players v_round v_turn = some r0) : Met l yX0_packInTurn wsX0_packInTurn rmX0_packInTurn (wPc [.ref h] (dC, dI) (tysW cI cJ cZ cG) sz (wcX0_packInTurn cI cJ cZ cG h h_packs v_players v_cards v_round v_turn)) (wQi r0 (wcX0_packInTurn cI cJ cZ cG h h_packs v_players v_cards v_round v_turn) (dC, dI) (va_A (wcX0_packInTurn cI cJ cZ cG h h_packs v_players v_cards v_round v_turn) sz)) 0 0 (va_A (wcX0_packInTurn cI cJ cZ cG h h_packs v_players v_cards v_round v_turn) sz) := by
  refine Met.ofW (cc := cX0_packInTurn) (maxL := 1) (ret := (some .int)) (by decide) rfl ?_
  intro p e s m args below meth c s₁ B hml hv
  obtain ⟨rfl, hsz, hP, hK, hD0⟩ := hv
  have hx := B.exec
  have hb := B.bytes
  have hr := B.returns
  have hts := atoms_spec (ws := wsX0_packInTurn) B.pre
  have hown : s.vm.findClass RX0 = some m.cls := findClass_of_methodNamed B.named
  have hlocks := B.notSynchronized
  subst hsz
  have hD := hD0.self (sz := s.heap.size)
  generalize hAe : va_A (wcX0_packInTurn cI cJ cZ cG h h_packs v_players v_cards v_round v_turn) s.heap.size = A at hD ⊢
  have hA : ∀ q : Nat, s.heap.size ≤ q → A q := fun q h => by rw [← hAe]; exact Or.inr h
  have hS : va_S A s.heap s.heap [] := va_S.rf
  have hP : va_P (dC, dI) vwCl (wcX0_packInTurn cI cJ cZ cG h h_packs v_players v_cards v_round v_turn) s.heap := hP
  have hl := lv_entry ([.ref h]) (n := 1) (Nat.le_of_ble_eq_true rfl)
  rw [lg_entry_eq]
  generalize (lg_sl ([.ref h]) ++ List.replicate (1 - (lg_sl ([.ref h])).length) Slot.unset).toArray = ls at hl ⊢
  have hl : lv_has ls 1 [(0, .ref h)] := hl
  generalize hH : s.heap = H at hP hS ⊢
  have hS : va_S A s.heap H [] := by rw [hH]; exact hS
  have C0 : wCX p s #[.ref h] m meth c cX0_packInTurn 1 (some .int) RX0 wsX0_packInTurn := ⟨hx, hb, hr, hml, hown, hts, hlocks⟩
  show W p l e rmX0_packInTurn s m #[.ref h] below meth c H [] 0 0 (MQ below (wQi r0 (wcX0_packInTurn cI cJ cZ cG h h_packs v_players v_cards v_round v_turn) (dC, dI) A) #[.ref h] s 0 0 A) (F0 m 0 ls [])
  unfold fX0_packInTurn at hf
  refine lv_aload_n hx hb dX0_packInTurn_0 rfl (lv_at hl 0 rfl) ?_
  refine va_get (D := (dC, dI)) (ci := 0) (v := .int v_players) (C := RX0) (T := TX0) (N := 5) hx hb hts iX0_packInTurn_X0 hown hK hP 0 rfl rfl 1 (by decide) (hts _ mX0_packInTurn_0) (fun _ h9 => h9) rfl dX0_packInTurn_1 ?_
  refine lv_iconst (v := 1) hx hb dX0_packInTurn_4 (by decide) ?_
  refine lv_icmp_ge (tgt := 12) hx hb dX0_packInTurn_5 (by decide) (fun c_1 => ?_) (fun c_1 => ?_)
  · have hf := it_t hf c_1
    refine lv_aload_n hx hb dX0_packInTurn_12 rfl (lv_at hl 0 rfl) ?_
    refine va_get (D := (dC, dI)) (ci := 0) (v := .int v_turn) (C := RX0) (T := TX0) (N := 5) hx hb hts iX0_packInTurn_X0 hown hK hP 0 rfl rfl 4 (by decide) (hts _ mX0_packInTurn_1) (fun _ h9 => h9) rfl dX0_packInTurn_13 ?_
    refine lv_aload_n hx hb dX0_packInTurn_16 rfl (lv_at hl 0 rfl) ?_
    refine va_get (D := (dC, dI)) (ci := 0) (v := .int v_round) (C := RX0) (T := TX0) (N := 5) hx hb hts iX0_packInTurn_X0 hown hK hP 0 rfl rfl 3 (by decide) (hts _ mX0_packInTurn_2) (fun _ h9 => h9) rfl dX0_packInTurn_17 ?_
    refine lv_isub hx hb dX0_packInTurn_20 ?_
    refine lv_aload_n hx hb dX0_packInTurn_21 rfl (lv_at hl 0 rfl) ?_
    refine va_get (D := (dC, dI)) (ci := 0) (v := .int v_players) (C := RX0) (T := TX0) (N := 5) hx hb hts iX0_packInTurn_X0 hown hK hP 0 rfl rfl 1 (by decide) (hts _ mX0_packInTurn_0) (fun _ h9 => h9) rfl dX0_packInTurn_22 ?_
    obtain ⟨r_2, hc_3, hf⟩ := ob_s hf
    refine w_callSi (As := [.int (v_turn - v_round), .int v_players]) (rest := []) ⟨hx, hb, hml, hown, hts⟩ (oJ9_floorMod_7cf53 l dC dI cI cJ cZ cG H.size (v_turn - v_round) v_players r_2 hc_3) (va_cwS 2 hts gX0_packInTurn_J9_floorMod_7cf53 rfl rfl rfl (by decide +kernel) ⟨Nat.le_of_ble_eq_true rfl, Nat.le_of_ble_eq_true rfl⟩) hK hP hS hA rfl hl.1 rfl (Nat.le_of_ble_eq_true rfl) dX0_packInTurn_25 ⟨Nat.le_refl _, Nat.le_refl _⟩ (fun H locs hP hS => ?_)
    have hf : fX0_packInTurn_b28 v_players v_round v_turn r_2 = some r0 := hf
    exact kX0_packInTurn_28 C0 hA hK r_2 _ _ _ hf hP hD hS (lv_sub hl [] rfl)
  · have hf := it_f hf c_1
    refine lv_iconst (v := 0) hx hb dX0_packInTurn_8 (by decide) ?_
    refine lv_goto (tgt := 28) hx hb dX0_packInTurn_9 (by decide) ?_
    have hf : fX0_packInTurn_b28 v_players v_round v_turn 0 = some r0 := hf
    exact kX0_packInTurn_28 C0 hA hK 0 _ _ _ hf hP hD hS (lv_sub hl [] rfl)
abbrev wcX0_goesOn (cI cJ cZ cG : ClassId) (h h_packs : Nat) (v_players : Int32) (v_cards : Int32) (v_round : Int32) (v_turn : Int32) : va_W := [(h, .inr (0, [.ref h_packs, .int v_players, .int v_cards, .int v_round, .int v_turn]))]
theorem iX0_goesOn_X0 : ∀ w ∈ wsX00, w ∈ wsX0_goesOn := by decide +kernel
theorem mX0_goesOn_0 : (Cond.fieldLink RX0 24 "Sleevehall$Draft" "round" "I") ∈ wsX0_goesOn := by decide +kernel
theorem mX0_goesOn_1 : (Cond.fieldLink RX0 21 "Sleevehall$Draft" "cards" "I") ∈ wsX0_goesOn := by decide +kernel
abbrev rmX0_goesOn : Room := { frames := 0, cells := 0, slots := 0, locals := 0 }
set_option maxHeartbeats 4000000 in
set_option maxRecDepth 100000 in
theorem kX0_goesOn_16 {p : Program} {l : Launch} {e : Env} {s : State} {m : MethodId} {args : Array Value} {below : List Frame} {meth : Method} {c : Code} {dC : Nat → ClassId} {dI : Nat → Nat → Nat} {A : Nat → Prop} {cI cJ cZ cG : ClassId} {h h_packs : Nat} {v_players : Int32} {v_cards : Int32} {v_round : Int32} {v_turn : Int32} {r0 : Int32} (C0 : wCX p s args m meth c cX0_goesOn 1 (some .boolean) RX0 wsX0_goesOn) (hA : ∀ q, s.heap.size ≤ q → A q) (hK : va_K (dC, dI) vwCl (tysW cI cJ cZ cG) s) : ∀ (s0 : Int32) (hz_s0 : wB s0) (H : Heap) (locs : List Loc) (ls : Array Slot), fX0_goesOn_b16 v_cards v_round s0 = some r0 → va_P (dC, dI) vwCl (wcX0_goesOn cI cJ cZ cG h h_packs v_players v_cards v_round v_turn) H → va_D A (wcX0_goesOn cI cJ cZ cG h h_packs v_players v_cards v_round v_turn) → va_S A s.heap H locs → lv_has ls 1 [] → W p l e rmX0_goesOn s m args below meth c H locs 0 0 (MQ below (wQz r0 (wcX0_goesOn cI cJ cZ cG h h_packs v_players v_cards v_round v_turn) (dC, dI) A) args s 0 0 A) (F0 m 16 ls [.int s0]) := by
  obtain ⟨hx, hb, hr, hml, hown, hts, hlocks⟩ := id C0
  intro s0 hz_s0 H locs ls hf hP hD hS hl
  unfold fX0_goesOn_b16 at hf
  have hf : some s0 = some r0 := hf
  cases hf
  exact w_zret hx hb hr hlocks rfl hz_s0 hP hD hS dX0_goesOn_16
set_option maxHeartbeats 4000000 in
set_option maxRecDepth 100000 in
theorem oX0_goesOn (l : Launch) (dC : Nat → ClassId) (dI : Nat → Nat → Nat) (cI cJ cZ cG : ClassId) (h h_packs : Nat) (v_players : Int32) (v_cards : Int32) (v_round : Int32) (v_turn : Int32) (sz : Nat) (r0 : Int32) (hf : fX0_goesOn v_cards v_round = some r0) : Met l yX0_goesOn wsX0_goesOn rmX0_goesOn (wPc [.ref h] (dC, dI) (tysW cI cJ cZ cG) sz (wcX0_goesOn cI cJ cZ cG h h_packs v_players v_cards v_round v_turn)) (wQz r0 (wcX0_goesOn cI cJ cZ cG h h_packs v_players v_cards v_round v_turn) (dC, dI) (va_A (wcX0_goesOn cI cJ cZ cG h h_packs v_players v_cards v_round v_turn) sz)) 0 0 (va_A (wcX0_goesOn cI cJ cZ cG h h_packs v_players v_cards v_round v_turn) sz) := by
  refine Met.ofW (cc := cX0_goesOn) (maxL := 1) (ret := (some .boolean)) (by decide) rfl ?_
  intro p e s m args below meth c s₁ B hml hv
  obtain ⟨rfl, hsz, hP, hK, hD0⟩ := hv
  have hx := B.exec
  have hb := B.bytes
  have hr := B.returns
  have hts := atoms_spec (ws := wsX0_goesOn) B.pre
  have hown : s.vm.findClass RX0 = some m.cls := findClass_of_methodNamed B.named
  have hlocks := B.notSynchronized
  subst hsz
  have hD := hD0.self (sz := s.heap.size)
  generalize hAe : va_A (wcX0_goesOn cI cJ cZ cG h h_packs v_players v_cards v_round v_turn) s.heap.size = A at hD ⊢
  have hA : ∀ q : Nat, s.heap.size ≤ q → A q := fun q h => by rw [← hAe]; exact Or.inr h
  have hS : va_S A s.heap s.heap [] := va_S.rf
  have hP : va_P (dC, dI) vwCl (wcX0_goesOn cI cJ cZ cG h h_packs v_players v_cards v_round v_turn) s.heap := hP
  have hl := lv_entry ([.ref h]) (n := 1) (Nat.le_of_ble_eq_true rfl)
  rw [lg_entry_eq]
  generalize (lg_sl ([.ref h]) ++ List.replicate (1 - (lg_sl ([.ref h])).length) Slot.unset).toArray = ls at hl ⊢
  have hl : lv_has ls 1 [(0, .ref h)] := hl
  generalize hH : s.heap = H at hP hS ⊢
  have hS : va_S A s.heap H [] := by rw [hH]; exact hS
  have C0 : wCX p s #[.ref h] m meth c cX0_goesOn 1 (some .boolean) RX0 wsX0_goesOn := ⟨hx, hb, hr, hml, hown, hts, hlocks⟩
  show W p l e rmX0_goesOn s m #[.ref h] below meth c H [] 0 0 (MQ below (wQz r0 (wcX0_goesOn cI cJ cZ cG h h_packs v_players v_cards v_round v_turn) (dC, dI) A) #[.ref h] s 0 0 A) (F0 m 0 ls [])
  unfold fX0_goesOn at hf
  refine lv_aload_n hx hb dX0_goesOn_0 rfl (lv_at hl 0 rfl) ?_
  refine va_get (D := (dC, dI)) (ci := 0) (v := .int v_round) (C := RX0) (T := TX0) (N := 5) hx hb hts iX0_goesOn_X0 hown hK hP 0 rfl rfl 3 (by decide) (hts _ mX0_goesOn_0) (fun _ h9 => h9) rfl dX0_goesOn_1 ?_
  refine lv_aload_n hx hb dX0_goesOn_4 rfl (lv_at hl 0 rfl) ?_
  refine va_get (D := (dC, dI)) (ci := 0) (v := .int v_cards) (C := RX0) (T := TX0) (N := 5) hx hb hts iX0_goesOn_X0 hown hK hP 0 rfl rfl 2 (by decide) (hts _ mX0_goesOn_1) (fun _ h9 => h9) rfl dX0_goesOn_5 ?_
  refine lv_icmp_ge (tgt := 15) hx hb dX0_goesOn_8 (by decide) (fun c_1 => ?_) (fun c_1 => ?_)
  · have hf := it_t hf c_1
    refine lv_iconst (v := 0) hx hb dX0_goesOn_15 (by decide) ?_
    have hf : fX0_goesOn_b16 v_cards v_round 0 = some r0 := hf
    exact kX0_goesOn_16 C0 hA hK 0 (Or.inl rfl) _ _ _ hf hP hD hS (lv_sub hl [] rfl)
  · have hf := it_f hf c_1
    refine lv_iconst (v := 1) hx hb dX0_goesOn_11 (by decide) ?_
    refine lv_goto (tgt := 16) hx hb dX0_goesOn_12 (by decide) ?_
    have hf : fX0_goesOn_b16 v_cards v_round 1 = some r0 := hf
    exact kX0_goesOn_16 C0 hA hK 1 (Or.inr rfl) _ _ _ hf hP hD hS (lv_sub hl [] rfl)
abbrev wcX0_countOffered (cI cJ cZ cG : ClassId) (h h_packs : Nat) (v_players : Int32) (v_cards : Int32) (v_round : Int32) (v_turn : Int32) : va_W := [(h, .inr (0, [.ref h_packs, .int v_players, .int v_cards, .int v_round, .int v_turn]))]
theorem iX0_countOffered_X0 : ∀ w ∈ wsX00, w ∈ wsX0_countOffered := by decide +kernel
theorem mX0_countOffered_0 : (Cond.fieldLink RX0 21 "Sleevehall$Draft" "cards" "I") ∈ wsX0_countOffered := by decide +kernel
theorem mX0_countOffered_1 : (Cond.fieldLink RX0 24 "Sleevehall$Draft" "round" "I") ∈ wsX0_countOffered := by decide +kernel
abbrev rmX0_countOffered : Room := { frames := 0, cells := 0, slots := 0, locals := 0 }
set_option maxHeartbeats 4000000 in
set_option maxRecDepth 100000 in
theorem oX0_countOffered (l : Launch) (dC : Nat → ClassId) (dI : Nat → Nat → Nat) (cI cJ cZ cG : ClassId) (h h_packs : Nat) (v_players : Int32) (v_cards : Int32) (v_round : Int32) (v_turn : Int32) (sz : Nat) (r0 : Int32) (hf : fX0_countOffered v_cards v_round = some r0) : Met l yX0_countOffered wsX0_countOffered rmX0_countOffered (wPc [.ref h] (dC, dI) (tysW cI cJ cZ cG) sz (wcX0_countOffered cI cJ cZ cG h h_packs v_players v_cards v_round v_turn)) (wQi r0 (wcX0_countOffered cI cJ cZ cG h h_packs v_players v_cards v_round v_turn) (dC, dI) (va_A (wcX0_countOffered cI cJ cZ cG h h_packs v_players v_cards v_round v_turn) sz)) 0 0 (va_A (wcX0_countOffered cI cJ cZ cG h h_packs v_players v_cards v_round v_turn) sz) := by
  refine Met.ofW (cc := cX0_countOffered) (maxL := 1) (ret := (some .int)) (by decide) rfl ?_
  intro p e s m args below meth c s₁ B hml hv
  obtain ⟨rfl, hsz, hP, hK, hD0⟩ := hv
  have hx := B.exec
  have hb := B.bytes
  have hr := B.returns
  have hts := atoms_spec (ws := wsX0_countOffered) B.pre
  have hown : s.vm.findClass RX0 = some m.cls := findClass_of_methodNamed B.named
  have hlocks := B.notSynchronized
  subst hsz
  have hD := hD0.self (sz := s.heap.size)
  generalize hAe : va_A (wcX0_countOffered cI cJ cZ cG h h_packs v_players v_cards v_round v_turn) s.heap.size = A at hD ⊢
  have hA : ∀ q : Nat, s.heap.size ≤ q → A q := fun q h => by rw [← hAe]; exact Or.inr h
  have hS : va_S A s.heap s.heap [] := va_S.rf
  have hP : va_P (dC, dI) vwCl (wcX0_countOffered cI cJ cZ cG h h_packs v_players v_cards v_round v_turn) s.heap := hP
  have hl := lv_entry ([.ref h]) (n := 1) (Nat.le_of_ble_eq_true rfl)
  rw [lg_entry_eq]
  generalize (lg_sl ([.ref h]) ++ List.replicate (1 - (lg_sl ([.ref h])).length) Slot.unset).toArray = ls at hl ⊢
  have hl : lv_has ls 1 [(0, .ref h)] := hl
  generalize hH : s.heap = H at hP hS ⊢
  have hS : va_S A s.heap H [] := by rw [hH]; exact hS
  have C0 : wCX p s #[.ref h] m meth c cX0_countOffered 1 (some .int) RX0 wsX0_countOffered := ⟨hx, hb, hr, hml, hown, hts, hlocks⟩
  show W p l e rmX0_countOffered s m #[.ref h] below meth c H [] 0 0 (MQ below (wQi r0 (wcX0_countOffered cI cJ cZ cG h h_packs v_players v_cards v_round v_turn) (dC, dI) A) #[.ref h] s 0 0 A) (F0 m 0 ls [])
  unfold fX0_countOffered at hf
  refine lv_aload_n hx hb dX0_countOffered_0 rfl (lv_at hl 0 rfl) ?_
  refine va_get (D := (dC, dI)) (ci := 0) (v := .int v_cards) (C := RX0) (T := TX0) (N := 5) hx hb hts iX0_countOffered_X0 hown hK hP 0 rfl rfl 2 (by decide) (hts _ mX0_countOffered_0) (fun _ h9 => h9) rfl dX0_countOffered_1 ?_
  refine lv_aload_n hx hb dX0_countOffered_4 rfl (lv_at hl 0 rfl) ?_
  refine va_get (D := (dC, dI)) (ci := 0) (v := .int v_round) (C := RX0) (T := TX0) (N := 5) hx hb hts iX0_countOffered_X0 hown hK hP 0 rfl rfl 3 (by decide) (hts _ mX0_countOffered_1) (fun _ h9 => h9) rfl dX0_countOffered_5 ?_
  refine lv_isub hx hb dX0_countOffered_8 ?_
  have hf : some (v_cards - v_round) = some r0 := hf
  cases hf
  exact w_iret hx hb hr hlocks rfl hP hD hS dX0_countOffered_9
abbrev wcX0_kindAt (cI cJ cZ cG : ClassId) (h h_packs : Nat) (r_h_packs : Nat → Nat) (v_players : Int32) (v_cards : Int32) (v_round : Int32) (v_turn : Int32) (v_packs : Nat → Nat → Int32) : va_W := [(h, .inr (0, [.ref h_packs, .int v_players, .int v_cards, .int v_round, .int v_turn])), gOut h_packs r_h_packs cG 6] ++ gRows r_h_packs cI 6 v_packs
theorem iX0_kindAt_X0 : ∀ w ∈ wsX00, w ∈ wsX0_kindAt := by decide +kernel
theorem mX0_kindAt_0 : (Cond.fieldLink RX0 13 "Sleevehall$Draft" "packs" "[[I") ∈ wsX0_kindAt := by decide +kernel
abbrev rmX0_kindAt : Room := { frames := 2, cells := 0, slots := 0, locals := 42 }
set_option maxHeartbeats 4000000 in
set_option maxRecDepth 100000 in
theorem oX0_kindAt (l : Launch) (dC : Nat → ClassId) (dI : Nat → Nat → Nat) (cI cJ cZ cG : ClassId) (h h_packs : Nat) (r_h_packs : Nat → Nat) (v_players : Int32) (v_cards : Int32) (v_round : Int32) (v_turn : Int32) (v_packs : Nat → Nat → Int32) (sz : Nat) (p1 : Int32) (r0 : Int32) (hf : fX0_kindAt v_players v_round v_turn v_packs p1 = some r0) : Met l yX0_kindAt wsX0_kindAt rmX0_kindAt (wPc [.ref h, .int p1] (dC, dI) (tysW cI cJ cZ cG) sz (wcX0_kindAt cI cJ cZ cG h h_packs r_h_packs v_players v_cards v_round v_turn v_packs)) (wQi r0 (wcX0_kindAt cI cJ cZ cG h h_packs r_h_packs v_players v_cards v_round v_turn v_packs) (dC, dI) (va_A (wcX0_kindAt cI cJ cZ cG h h_packs r_h_packs v_players v_cards v_round v_turn v_packs) sz)) 0 0 (va_A (wcX0_kindAt cI cJ cZ cG h h_packs r_h_packs v_players v_cards v_round v_turn v_packs) sz) := by
  refine Met.ofW (cc := cX0_kindAt) (maxL := 2) (ret := (some .int)) (by decide) rfl ?_
  intro p e s m args below meth c s₁ B hml hv
  obtain ⟨rfl, hsz, hP, hK, hD0⟩ := hv
  have hx := B.exec
  have hb := B.bytes
  have hr := B.returns
  have hts := atoms_spec (ws := wsX0_kindAt) B.pre
  have hown : s.vm.findClass RX0 = some m.cls := findClass_of_methodNamed B.named
  have hlocks := B.notSynchronized
  subst hsz
  have hD := hD0.self (sz := s.heap.size)
  generalize hAe : va_A (wcX0_kindAt cI cJ cZ cG h h_packs r_h_packs v_players v_cards v_round v_turn v_packs) s.heap.size = A at hD ⊢
  have hA : ∀ q : Nat, s.heap.size ≤ q → A q := fun q h => by rw [← hAe]; exact Or.inr h
  have hS : va_S A s.heap s.heap [] := va_S.rf
  have hP : va_P (dC, dI) vwCl (wcX0_kindAt cI cJ cZ cG h h_packs r_h_packs v_players v_cards v_round v_turn v_packs) s.heap := hP
  have hl := lv_entry ([.ref h, .int p1]) (n := 2) (Nat.le_of_ble_eq_true rfl)
  rw [lg_entry_eq]
  generalize (lg_sl ([.ref h, .int p1]) ++ List.replicate (2 - (lg_sl ([.ref h, .int p1])).length) Slot.unset).toArray = ls at hl ⊢
  have hl : lv_has ls 2 [(0, .ref h), (1, .int p1)] := hl
  generalize hH : s.heap = H at hP hS ⊢
  have hS : va_S A s.heap H [] := by rw [hH]; exact hS
  have C0 : wCX p s #[.ref h, .int p1] m meth c cX0_kindAt 2 (some .int) RX0 wsX0_kindAt := ⟨hx, hb, hr, hml, hown, hts, hlocks⟩
  show W p l e rmX0_kindAt s m #[.ref h, .int p1] below meth c H [] 0 0 (MQ below (wQi r0 (wcX0_kindAt cI cJ cZ cG h h_packs r_h_packs v_players v_cards v_round v_turn v_packs) (dC, dI) A) #[.ref h, .int p1] s 0 0 A) (F0 m 0 ls [])
  unfold fX0_kindAt at hf
  refine lv_aload_n hx hb dX0_kindAt_0 rfl (lv_at hl 0 rfl) ?_
  refine va_get (D := (dC, dI)) (ci := 0) (v := .ref h_packs) (C := RX0) (T := TX0) (N := 5) hx hb hts iX0_kindAt_X0 hown hK hP 0 rfl rfl 0 (by decide) (hts _ mX0_kindAt_0) (fun _ h9 => h9) rfl dX0_kindAt_1 ?_
  refine lv_aload_n hx hb dX0_kindAt_4 rfl (lv_at hl 0 rfl) ?_
  obtain ⟨r_1, hc_2, hf⟩ := ob_s hf
  refine w_callVi (As := []) (rest := [.ref h_packs]) (wr := List.filterMap (fun i : Nat => (wcX0_kindAt cI cJ cZ cG h h_packs r_h_packs v_players v_cards v_round v_turn v_packs)[i]?) [1, 2, 3, 4, 5, 6, 7]) (ws1 := (wcX0_kindAt cI cJ cZ cG h h_packs r_h_packs v_players v_cards v_round v_turn v_packs)) ⟨hx, hb, hml, hown, hts⟩ (oX0_packInTurn l dC dI cI cJ cZ cG h h_packs v_players v_cards v_round v_turn H.size r_1 hc_2) (cwV 0 hts gX0_kindAt_X0_packInTurn rfl rfl rfl (by decide +kernel) ⟨Nat.le_of_ble_eq_true rfl, Nat.le_of_ble_eq_true rfl⟩) hK 0 0 rfl rfl rfl hP hD hS hA [0] [1, 2, 3, 4, 5, 6, 7] [7, 0, 1, 2, 3, 4, 5, 6] rfl rfl rfl rfl (by decide) rfl rfl rfl hl.1 rfl (Nat.le_of_ble_eq_true rfl) dX0_kindAt_5 ⟨Nat.le_refl _, Nat.le_refl _⟩ (fun H locs hP hD hS => ?_)
  obtain ⟨hg_3, hf⟩ := ck_s hf
  refine w_aald hx hb hK hP 1 3 rfl rfl (g_vp hg_3) dX0_kindAt_8 ?_
  refine lv_iload_n hx hb dX0_kindAt_9 rfl (lv_at hl 1 rfl) ?_
  obtain ⟨hg_4, hf⟩ := ck_s hf
  refine va_iald (D := (dC, dI)) hx hb hK hP (2 + r_1.toNatClampNeg) 0 (fin6 (P := fun j => (wcX0_kindAt cI cJ cZ cG h h_packs r_h_packs v_players v_cards v_round v_turn v_packs)[2 + j]? = some (r_h_packs j, .inl (cI, 6, .inl (v_packs j)))) rfl rfl rfl rfl rfl rfl _ (g_lt hg_3)) rfl (g_vp hg_4) dX0_kindAt_10 ?_
  have hf : some (v_packs r_1.toNatClampNeg p1.toNatClampNeg) = some r0 := hf
  cases hf
  exact w_iret hx hb hr hlocks rfl hP hD hS dX0_kindAt_11
abbrev wcX0_takeOut (cI cJ cZ cG : ClassId) (h h_packs : Nat) (r_h_packs : Nat → Nat) (v_players : Int32) (v_cards : Int32) (v_round : Int32) (v_turn : Int32) (v_packs : Nat → Nat → Int32) : va_W := [(h, .inr (0, [.ref h_packs, .int v_players, .int v_cards, .int v_round, .int v_turn])), gOut h_packs r_h_packs cG 6] ++ gRows r_h_packs cI 6 v_packs
theorem iX0_takeOut_X0 : ∀ w ∈ wsX00, w ∈ wsX0_takeOut := by decide +kernel
theorem mX0_takeOut_0 : (Cond.fieldLink RX0 27 "Sleevehall$Draft" "turn" "I") ∈ wsX0_takeOut := by decide +kernel
theorem mX0_takeOut_1 : (Cond.fieldLink RX0 17 "Sleevehall$Draft" "players" "I") ∈ wsX0_takeOut := by decide +kernel
theorem mX0_takeOut_2 : (Cond.fieldLink RX0 24 "Sleevehall$Draft" "round" "I") ∈ wsX0_takeOut := by decide +kernel
theorem mX0_takeOut_3 : (Cond.fieldLink RX0 13 "Sleevehall$Draft" "packs" "[[I") ∈ wsX0_takeOut := by decide +kernel
abbrev rmX0_takeOut : Room := { frames := 2, cells := 0, slots := 0, locals := 42 }
set_option maxHeartbeats 4000000 in
set_option maxRecDepth 100000 in
theorem kX0_takeOut_77 {p : Program} {l : Launch} {e : Env} {s : State} {m : MethodId} {args : Array Value} {below : List Frame} {meth : Method} {c : Code} {dC : Nat → ClassId} {dI : Nat → Nat → Nat} {A : Nat → Prop} {cI cJ cZ cG : ClassId} {h h_packs : Nat} {r_h_packs : Nat → Nat} {v_players : Int32} {v_cards : Int32} {n_round : Int32} {n_turn : Int32} {n_packs : Nat → Nat → Int32} (C0 : wCX p s args m meth c cX0_takeOut 4 none RX0 wsX0_takeOut) (hA : ∀ q, s.heap.size ≤ q → A q) (hK : va_K (dC, dI) vwCl (tysW cI cJ cZ cG) s) : ∀ (v_round : Int32) (v_turn : Int32) (v_packs : Nat → Nat → Int32) (H : Heap) (locs : List Loc) (ls : Array Slot), fX0_takeOut_b77 v_players v_cards v_round v_turn v_packs = some (n_round, n_turn, n_packs) → va_P (dC, dI) vwCl (wcX0_takeOut cI cJ cZ cG h h_packs r_h_packs v_players v_cards v_round v_turn v_packs) H → va_D A (wcX0_takeOut cI cJ cZ cG h h_packs r_h_packs v_players v_cards v_round v_turn v_packs) → va_S A s.heap H locs → lv_has ls 4 [] → W p l e rmX0_takeOut s m args below meth c H locs 0 0 (MQ below (wQv (wcX0_takeOut cI cJ cZ cG h h_packs r_h_packs v_players v_cards n_round n_turn n_packs) (dC, dI) A) args s 0 0 A) (F0 m 77 ls []) := by
  obtain ⟨hx, hb, hr, hml, hown, hts, hlocks⟩ := id C0
  intro v_round v_turn v_packs H locs ls hf hP hD hS hl
  unfold fX0_takeOut_b77 at hf
  have hf : some (v_round, v_turn, v_packs) = some (n_round, n_turn, n_packs) := hf
  cases hf
  exact w_vret hx hb hr hlocks hP hD hS dX0_takeOut_77
set_option maxHeartbeats 4000000 in
set_option maxRecDepth 100000 in
theorem kX0_takeOut_9 {p : Program} {l : Launch} {e : Env} {s : State} {m : MethodId} {args : Array Value} {below : List Frame} {meth : Method} {c : Code} {dC : Nat → ClassId} {dI : Nat → Nat → Nat} {A : Nat → Prop} {cI cJ cZ cG : ClassId} {h h_packs : Nat} {r_h_packs : Nat → Nat} {v_players : Int32} {v_cards : Int32} {n_round : Int32} {n_turn : Int32} {n_packs : Nat → Nat → Int32} (C0 : wCX p s args m meth c cX0_takeOut 4 none RX0 wsX0_takeOut) (hA : ∀ q, s.heap.size ≤ q → A q) (hK : va_K (dC, dI) vwCl (tysW cI cJ cZ cG) s) : ∀ (n : Nat), ∀ (v_round : Int32) (v_turn : Int32) (v_packs : Nat → Nat → Int32) (l2 : Int32) (l3 : Int32) (H : Heap) (locs : List Loc) (ls : Array Slot), fX0_takeOut_b9 v_players v_cards n v_round v_turn v_packs l2 l3 = some (n_round, n_turn, n_packs) → va_P (dC, dI) vwCl (wcX0_takeOut cI cJ cZ cG h h_packs r_h_packs v_players v_cards v_round v_turn v_packs) H → va_D A (wcX0_takeOut cI cJ cZ cG h h_packs r_h_packs v_players v_cards v_round v_turn v_packs) → va_S A s.heap H locs → lv_has ls 4 [(0, .ref h), (2, .int l2), (3, .int l3)] → W p l e rmX0_takeOut s m args below meth c H locs 0 0 (MQ below (wQv (wcX0_takeOut cI cJ cZ cG h h_packs r_h_packs v_players v_cards n_round n_turn n_packs) (dC, dI) A) args s 0 0 A) (F0 m 9 ls []) := by
  obtain ⟨hx, hb, hr, hml, hown, hts, hlocks⟩ := id C0
  intro n
  induction n with
  | zero =>
    intro v_round v_turn v_packs l2 l3 H locs ls hf hP hD hS hl
    rw [fX0_takeOut_b9] at hf
    cases hf
  | succ n ih =>
    intro v_round v_turn v_packs l2 l3 H locs ls hf hP hD hS hl
    rw [fX0_takeOut_b9] at hf
    refine lv_iload_n hx hb dX0_takeOut_9 rfl (lv_at hl 2 rfl) ?_
    refine lv_aload_n hx hb dX0_takeOut_10 rfl (lv_at hl 0 rfl) ?_
    obtain ⟨r_1, hc_2, hf⟩ := ob_s hf
    refine w_callVi (As := []) (rest := [.int l3]) (wr := List.filterMap (fun i : Nat => (wcX0_takeOut cI cJ cZ cG h h_packs r_h_packs v_players v_cards v_round v_turn v_packs)[i]?) [1, 2, 3, 4, 5, 6, 7]) (ws1 := (wcX0_takeOut cI cJ cZ cG h h_packs r_h_packs v_players v_cards v_round v_turn v_packs)) ⟨hx, hb, hml, hown, hts⟩ (oX0_countOffered l dC dI cI cJ cZ cG h h_packs v_players v_cards v_round v_turn H.size r_1 hc_2) (cwV 0 hts gX0_takeOut_X0_countOffered rfl rfl rfl (by decide +kernel) ⟨Nat.le_of_ble_eq_true rfl, Nat.le_of_ble_eq_true rfl⟩) hK 0 0 rfl rfl rfl hP hD hS hA [0] [1, 2, 3, 4, 5, 6, 7] [7, 0, 1, 2, 3, 4, 5, 6] rfl rfl rfl rfl (by decide) rfl rfl rfl hl.1 rfl (Nat.le_of_ble_eq_true rfl) dX0_takeOut_11 ⟨Nat.le_refl _, Nat.le_refl _⟩ (fun H locs hP hD hS => ?_)
    refine lv_icmp_ge (tgt := 41) hx hb dX0_takeOut_14 (by decide) (fun c_3 => ?_) (fun c_3 => ?_)
    · have hf := it_t hf c_3
      refine lv_aload_n hx hb dX0_takeOut_41 rfl (lv_at hl 0 rfl) ?_
      refine lv_dup hx hb dX0_takeOut_42 rfl ?_
      refine va_get (D := (dC, dI)) (ci := 0) (v := .int v_turn) (C := RX0) (T := TX0) (N := 5) hx hb hts iX0_takeOut_X0 hown hK hP 0 rfl rfl 4 (by decide) (hts _ mX0_takeOut_0) (fun _ h9 => h9) rfl dX0_takeOut_43 ?_
      refine lv_iconst (v := 1) hx hb dX0_takeOut_46 (by decide) ?_
      refine lv_iadd hx hb dX0_takeOut_47 ?_
      obtain ⟨x_4, ex_4, hf⟩ := nm_s hf
      refine w_eqi ex_4 ?_
      refine va_put (D := (dC, dI)) (ci := 0) (v := .int x_4) (ty := .int) (C := RX0) (T := TX0) (N := 5) hx hb hts iX0_takeOut_X0 tyX0 tyX0_ok nmX0 hown hK hP hD hS 0 rfl rfl 4 (by decide) (hts _ mX0_takeOut_0) (fun _ h9 => h9) rfl (by decide +kernel) rfl rfl (Nat.le_of_ble_eq_true rfl) dX0_takeOut_48 (fun H locs hP hD hS => ?_)
      have hP : va_P (dC, dI) vwCl (wcX0_takeOut cI cJ cZ cG h h_packs r_h_packs v_players v_cards v_round x_4 v_packs) H := hP
      have hD : va_D A (wcX0_takeOut cI cJ cZ cG h h_packs r_h_packs v_players v_cards v_round x_4 v_packs) := hD
      refine lv_aload_n hx hb dX0_takeOut_51 rfl (lv_at hl 0 rfl) ?_
      refine va_get (D := (dC, dI)) (ci := 0) (v := .int x_4) (C := RX0) (T := TX0) (N := 5) hx hb hts iX0_takeOut_X0 hown hK hP 0 rfl rfl 4 (by decide) (hts _ mX0_takeOut_0) (fun _ h9 => h9) rfl dX0_takeOut_52 ?_
      refine lv_aload_n hx hb dX0_takeOut_55 rfl (lv_at hl 0 rfl) ?_
      refine va_get (D := (dC, dI)) (ci := 0) (v := .int v_players) (C := RX0) (T := TX0) (N := 5) hx hb hts iX0_takeOut_X0 hown hK hP 0 rfl rfl 1 (by decide) (hts _ mX0_takeOut_1) (fun _ h9 => h9) rfl dX0_takeOut_56 ?_
      refine lv_icmp_lt (tgt := 77) hx hb dX0_takeOut_59 (by decide) (fun c_5 => ?_) (fun c_5 => ?_)
      · have hf := it_t hf c_5
        have hf : fX0_takeOut_b77 v_players v_cards v_round x_4 v_packs = some (n_round, n_turn, n_packs) := hf
        exact kX0_takeOut_77 C0 hA hK v_round x_4 v_packs _ _ _ hf hP hD hS (lv_sub hl [] rfl)
      · have hf := it_f hf c_5
        refine lv_aload_n hx hb dX0_takeOut_62 rfl (lv_at hl 0 rfl) ?_
        refine lv_iconst (v := 0) hx hb dX0_takeOut_63 (by decide) ?_
        refine va_put (D := (dC, dI)) (ci := 0) (v := .int 0) (ty := .int) (C := RX0) (T := TX0) (N := 5) hx hb hts iX0_takeOut_X0 tyX0 tyX0_ok nmX0 hown hK hP hD hS 0 rfl rfl 4 (by decide) (hts _ mX0_takeOut_0) (fun _ h9 => h9) rfl (by decide +kernel) rfl rfl (Nat.le_of_ble_eq_true rfl) dX0_takeOut_64 (fun H locs hP hD hS => ?_)
        have hP : va_P (dC, dI) vwCl (wcX0_takeOut cI cJ cZ cG h h_packs r_h_packs v_players v_cards v_round 0 v_packs) H := hP
        have hD : va_D A (wcX0_takeOut cI cJ cZ cG h h_packs r_h_packs v_players v_cards v_round 0 v_packs) := hD
        refine lv_aload_n hx hb dX0_takeOut_67 rfl (lv_at hl 0 rfl) ?_
        refine lv_dup hx hb dX0_takeOut_68 rfl ?_
        refine va_get (D := (dC, dI)) (ci := 0) (v := .int v_round) (C := RX0) (T := TX0) (N := 5) hx hb hts iX0_takeOut_X0 hown hK hP 0 rfl rfl 3 (by decide) (hts _ mX0_takeOut_2) (fun _ h9 => h9) rfl dX0_takeOut_69 ?_
        refine lv_iconst (v := 1) hx hb dX0_takeOut_72 (by decide) ?_
        refine lv_iadd hx hb dX0_takeOut_73 ?_
        obtain ⟨x_6, ex_6, hf⟩ := nm_s hf
        refine w_eqi ex_6 ?_
        refine va_put (D := (dC, dI)) (ci := 0) (v := .int x_6) (ty := .int) (C := RX0) (T := TX0) (N := 5) hx hb hts iX0_takeOut_X0 tyX0 tyX0_ok nmX0 hown hK hP hD hS 0 rfl rfl 3 (by decide) (hts _ mX0_takeOut_2) (fun _ h9 => h9) rfl (by decide +kernel) rfl rfl (Nat.le_of_ble_eq_true rfl) dX0_takeOut_74 (fun H locs hP hD hS => ?_)
        have hP : va_P (dC, dI) vwCl (wcX0_takeOut cI cJ cZ cG h h_packs r_h_packs v_players v_cards x_6 0 v_packs) H := hP
        have hD : va_D A (wcX0_takeOut cI cJ cZ cG h h_packs r_h_packs v_players v_cards x_6 0 v_packs) := hD
        have hf : fX0_takeOut_b77 v_players v_cards x_6 0 v_packs = some (n_round, n_turn, n_packs) := hf
        exact kX0_takeOut_77 C0 hA hK x_6 0 v_packs _ _ _ hf hP hD hS (lv_sub hl [] rfl)
    · have hf := it_f hf c_3
      refine lv_aload_n hx hb dX0_takeOut_17 rfl (lv_at hl 0 rfl) ?_
      refine va_get (D := (dC, dI)) (ci := 0) (v := .ref h_packs) (C := RX0) (T := TX0) (N := 5) hx hb hts iX0_takeOut_X0 hown hK hP 0 rfl rfl 0 (by decide) (hts _ mX0_takeOut_3) (fun _ h9 => h9) rfl dX0_takeOut_18 ?_
      refine lv_iload_n hx hb dX0_takeOut_21 rfl (lv_at hl 1 rfl) ?_
      obtain ⟨hg_7, hf⟩ := ck_s hf
      refine w_aald hx hb hK hP 1 3 rfl rfl (g_vp hg_7) dX0_takeOut_22 ?_
      refine lv_iload_n hx hb dX0_takeOut_23 rfl (lv_at hl 2 rfl) ?_
      refine lv_iconst (v := 1) hx hb dX0_takeOut_24 (by decide) ?_
      refine lv_isub hx hb dX0_takeOut_25 ?_
      refine lv_aload_n hx hb dX0_takeOut_26 rfl (lv_at hl 0 rfl) ?_
      refine va_get (D := (dC, dI)) (ci := 0) (v := .ref h_packs) (C := RX0) (T := TX0) (N := 5) hx hb hts iX0_takeOut_X0 hown hK hP 0 rfl rfl 0 (by decide) (hts _ mX0_takeOut_3) (fun _ h9 => h9) rfl dX0_takeOut_27 ?_
      refine lv_iload_n hx hb dX0_takeOut_30 rfl (lv_at hl 1 rfl) ?_
      obtain ⟨hg_8, hf⟩ := ck_s hf
      refine w_aald hx hb hK hP 1 3 rfl rfl (g_vp hg_8) dX0_takeOut_31 ?_
      refine lv_iload_n hx hb dX0_takeOut_32 rfl (lv_at hl 2 rfl) ?_
      obtain ⟨hg_9, hf⟩ := ck_s hf
      refine va_iald (D := (dC, dI)) hx hb hK hP (2 + l2.toNatClampNeg) 0 (fin6 (P := fun j => (wcX0_takeOut cI cJ cZ cG h h_packs r_h_packs v_players v_cards v_round v_turn v_packs)[2 + j]? = some (r_h_packs j, .inl (cI, 6, .inl (v_packs j)))) rfl rfl rfl rfl rfl rfl _ (g_lt hg_8)) rfl (g_vp hg_9) dX0_takeOut_33 ?_
      obtain ⟨x_10, ex_10, hf⟩ := nm_s hf
      refine w_eqi ex_10 ?_
      obtain ⟨hg_11, hf⟩ := ck_s hf
      refine va_iast (D := (dC, dI)) hx hb hK hP hD hS (2 + l2.toNatClampNeg) 0 (fin6 (P := fun j => (wcX0_takeOut cI cJ cZ cG h h_packs r_h_packs v_players v_cards v_round v_turn v_packs)[2 + j]? = some (r_h_packs j, .inl (cI, 6, .inl (v_packs j)))) rfl rfl rfl rfl rfl rfl _ (g_lt hg_7)) rfl (g_vp hg_11) dX0_takeOut_34 (fun H locs hP hD hS => ?_)
      have e9 := fin6 (P := fun j => List.set (wcX0_takeOut cI cJ cZ cG h h_packs r_h_packs v_players v_cards v_round v_turn v_packs) (2 + j) (r_h_packs j, .inl (cI, 6, .inl (upd (v_packs j) (l3 - 1).toNatClampNeg x_10))) = (wcX0_takeOut cI cJ cZ cG h h_packs r_h_packs v_players v_cards v_round v_turn (gup v_packs j (l3 - 1).toNatClampNeg x_10))) rfl rfl rfl rfl rfl rfl _ (g_lt hg_7)
      rw [e9] at hP hD
      obtain ⟨x_12, ex_12, hf⟩ := nm_s hf
      refine lv_iinc (v := x_12) (lv' := [(3, .int x_12), (0, .ref h), (2, .int l2)]) hx hb dX0_takeOut_35 hl (k := 2) rfl (by rw [ex_12]; rfl) (by decide) rfl (fun ls hl => ?_)
      refine lv_goto (tgt := 9) hx hb dX0_takeOut_38 (by decide) ?_
      have hf : (fX0_takeOut_b9 v_players v_cards n) v_round v_turn (gup v_packs l2.toNatClampNeg (l3 - 1).toNatClampNeg x_10) l2 x_12 = some (n_round, n_turn, n_packs) := hf
      exact ih v_round v_turn (gup v_packs l2.toNatClampNeg (l3 - 1).toNatClampNeg x_10) l2 x_12 _ _ _ hf hP hD hS (lv_sub hl [1, 2, 0] rfl)
set_option maxHeartbeats 4000000 in
set_option maxRecDepth 100000 in
theorem oX0_takeOut (l : Launch) (dC : Nat → ClassId) (dI : Nat → Nat → Nat) (cI cJ cZ cG : ClassId) (h h_packs : Nat) (r_h_packs : Nat → Nat) (v_players : Int32) (v_cards : Int32) (v_round : Int32) (v_turn : Int32) (v_packs : Nat → Nat → Int32) (sz : Nat) (p1 : Int32) (n_round : Int32) (n_turn : Int32) (n_packs : Nat → Nat → Int32) (hf : fX0_takeOut v_players v_cards v_round v_turn v_packs p1 = some (n_round, n_turn, n_packs)) : Met l yX0_takeOut wsX0_takeOut rmX0_takeOut (wPc [.ref h, .int p1] (dC, dI) (tysW cI cJ cZ cG) sz (wcX0_takeOut cI cJ cZ cG h h_packs r_h_packs v_players v_cards v_round v_turn v_packs)) (wQv (wcX0_takeOut cI cJ cZ cG h h_packs r_h_packs v_players v_cards n_round n_turn n_packs) (dC, dI) (va_A (wcX0_takeOut cI cJ cZ cG h h_packs r_h_packs v_players v_cards v_round v_turn v_packs) sz)) 0 0 (va_A (wcX0_takeOut cI cJ cZ cG h h_packs r_h_packs v_players v_cards v_round v_turn v_packs) sz) := by
  refine Met.ofW (cc := cX0_takeOut) (maxL := 4) (ret := none) (by decide) rfl ?_
  intro p e s m args below meth c s₁ B hml hv
  obtain ⟨rfl, hsz, hP, hK, hD0⟩ := hv
  have hx := B.exec
  have hb := B.bytes
  have hr := B.returns
  have hts := atoms_spec (ws := wsX0_takeOut) B.pre
  have hown : s.vm.findClass RX0 = some m.cls := findClass_of_methodNamed B.named
  have hlocks := B.notSynchronized
  subst hsz
  have hD := hD0.self (sz := s.heap.size)
  generalize hAe : va_A (wcX0_takeOut cI cJ cZ cG h h_packs r_h_packs v_players v_cards v_round v_turn v_packs) s.heap.size = A at hD ⊢
  have hA : ∀ q : Nat, s.heap.size ≤ q → A q := fun q h => by rw [← hAe]; exact Or.inr h
  have hS : va_S A s.heap s.heap [] := va_S.rf
  have hP : va_P (dC, dI) vwCl (wcX0_takeOut cI cJ cZ cG h h_packs r_h_packs v_players v_cards v_round v_turn v_packs) s.heap := hP
  have hl := lv_entry ([.ref h, .int p1]) (n := 4) (Nat.le_of_ble_eq_true rfl)
  rw [lg_entry_eq]
  generalize (lg_sl ([.ref h, .int p1]) ++ List.replicate (4 - (lg_sl ([.ref h, .int p1])).length) Slot.unset).toArray = ls at hl ⊢
  have hl : lv_has ls 4 [(0, .ref h), (1, .int p1)] := hl
  generalize hH : s.heap = H at hP hS ⊢
  have hS : va_S A s.heap H [] := by rw [hH]; exact hS
  have C0 : wCX p s #[.ref h, .int p1] m meth c cX0_takeOut 4 none RX0 wsX0_takeOut := ⟨hx, hb, hr, hml, hown, hts, hlocks⟩
  show W p l e rmX0_takeOut s m #[.ref h, .int p1] below meth c H [] 0 0 (MQ below (wQv (wcX0_takeOut cI cJ cZ cG h h_packs r_h_packs v_players v_cards n_round n_turn n_packs) (dC, dI) A) #[.ref h, .int p1] s 0 0 A) (F0 m 0 ls [])
  unfold fX0_takeOut at hf
  refine lv_aload_n hx hb dX0_takeOut_0 rfl (lv_at hl 0 rfl) ?_
  obtain ⟨r_1, hc_2, hf⟩ := ob_s hf
  refine w_callVi (As := []) (rest := []) (wr := List.filterMap (fun i : Nat => (wcX0_takeOut cI cJ cZ cG h h_packs r_h_packs v_players v_cards v_round v_turn v_packs)[i]?) [1, 2, 3, 4, 5, 6, 7]) (ws1 := (wcX0_takeOut cI cJ cZ cG h h_packs r_h_packs v_players v_cards v_round v_turn v_packs)) ⟨hx, hb, hml, hown, hts⟩ (oX0_packInTurn l dC dI cI cJ cZ cG h h_packs v_players v_cards v_round v_turn H.size r_1 hc_2) (cwV 0 hts gX0_takeOut_X0_packInTurn rfl rfl rfl (by decide +kernel) ⟨Nat.le_of_ble_eq_true rfl, Nat.le_of_ble_eq_true rfl⟩) hK 0 0 rfl rfl rfl hP hD hS hA [0] [1, 2, 3, 4, 5, 6, 7] [7, 0, 1, 2, 3, 4, 5, 6] rfl rfl rfl rfl (by decide) rfl rfl rfl hl.1 rfl (Nat.le_of_ble_eq_true rfl) dX0_takeOut_1 ⟨Nat.le_refl _, Nat.le_refl _⟩ (fun H locs hP hD hS => ?_)
  refine lv_istore_n (lv' := [(2, .int r_1), (0, .ref h), (1, .int p1)]) hx hb dX0_takeOut_4 rfl hl (by decide) rfl (fun ls hl => ?_)
  refine lv_iload_n hx hb dX0_takeOut_5 rfl (lv_at hl 2 rfl) ?_
  refine lv_iconst (v := 1) hx hb dX0_takeOut_6 (by decide) ?_
  refine lv_iadd hx hb dX0_takeOut_7 ?_
  obtain ⟨x_3, ex_3, hf⟩ := nm_s hf
  refine w_eqi ex_3 ?_
  refine lv_istore_n (lv' := [(3, .int x_3), (2, .int r_1), (0, .ref h), (1, .int p1)]) hx hb dX0_takeOut_8 rfl hl (by decide) rfl (fun ls hl => ?_)
  have hf : fX0_takeOut_b9 v_players v_cards 70 v_round v_turn v_packs r_1 x_3 = some (n_round, n_turn, n_packs) := hf
  exact kX0_takeOut_9 C0 hA hK 70 v_round v_turn v_packs r_1 x_3 _ _ _ hf hP hD hS (lv_sub hl [2, 1, 0] rfl)
abbrev wcX0_begin (cI cJ cZ cG : ClassId) (h h_packs : Nat) (r_h_packs : Nat → Nat) (v_players : Int32) (v_cards : Int32) (v_round : Int32) (v_turn : Int32) (v_packs : Nat → Nat → Int32) : va_W := [(h, .inr (0, [.ref h_packs, .int v_players, .int v_cards, .int v_round, .int v_turn])), gOut h_packs r_h_packs cG 6] ++ gRows r_h_packs cI 6 v_packs
theorem iX0_begin_X0 : ∀ w ∈ wsX00, w ∈ wsX0_begin := by decide +kernel
theorem mX0_begin_0 : (Cond.fieldLink RX0 17 "Sleevehall$Draft" "players" "I") ∈ wsX0_begin := by decide +kernel
theorem mX0_begin_1 : (Cond.fieldLink RX0 21 "Sleevehall$Draft" "cards" "I") ∈ wsX0_begin := by decide +kernel
theorem mX0_begin_2 : (Cond.fieldLink RX0 24 "Sleevehall$Draft" "round" "I") ∈ wsX0_begin := by decide +kernel
theorem mX0_begin_3 : (Cond.fieldLink RX0 27 "Sleevehall$Draft" "turn" "I") ∈ wsX0_begin := by decide +kernel
theorem mX0_begin_4 : (Cond.constant RX0 16 (65537)) ∈ wsX0_begin := by decide +kernel
theorem mX0_begin_5 : (Cond.fieldLink RX0 13 "Sleevehall$Draft" "packs" "[[I") ∈ wsX0_begin := by decide +kernel
abbrev rmX0_begin : Room := { frames := 0, cells := 0, slots := 0, locals := 0 }
set_option maxHeartbeats 4000000 in
set_option maxRecDepth 100000 in
theorem kX0_begin_22 {p : Program} {l : Launch} {e : Env} {s : State} {m : MethodId} {args : Array Value} {below : List Frame} {meth : Method} {c : Code} {dC : Nat → ClassId} {dI : Nat → Nat → Nat} {A : Nat → Prop} {cI cJ cZ cG : ClassId} {h h_packs : Nat} {r_h_packs : Nat → Nat} {n_players : Int32} {n_cards : Int32} {n_round : Int32} {n_turn : Int32} {n_packs : Nat → Nat → Int32} {k_13 : Int32 → Int32 → Int32 → Int32 → (Nat → Nat → Int32) → Int32 → Int32 → Int32 → Int32 → Int32 → Option (Int32 × Int32 × Int32 × Int32 × (Nat → Nat → Int32))} (C0 : wCX p s args m meth c cX0_begin 8 none RX0 wsX0_begin) (hA : ∀ q, s.heap.size ≤ q → A q) (hK : va_K (dC, dI) vwCl (tysW cI cJ cZ cG) s) (hk_13 : ∀ (v_players : Int32) (v_cards : Int32) (v_round : Int32) (v_turn : Int32) (v_packs : Nat → Nat → Int32) (l1 : Int32) (l2 : Int32) (l4 : Int32) (l5 : Int32) (l6 : Int32) (H : Heap) (locs : List Loc) (ls : Array Slot), k_13 v_players v_cards v_round v_turn v_packs l1 l2 l4 l5 l6 = some (n_players, n_cards, n_round, n_turn, n_packs) → va_P (dC, dI) vwCl (wcX0_begin cI cJ cZ cG h h_packs r_h_packs v_players v_cards v_round v_turn v_packs) H → va_D A (wcX0_begin cI cJ cZ cG h h_packs r_h_packs v_players v_cards v_round v_turn v_packs) → va_S A s.heap H locs → lv_has ls 8 [(0, .ref h), (1, .int l1), (2, .int l2), (4, .int l4), (5, .int l5), (6, .int l6)] → W p l e rmX0_begin s m args below meth c H locs 0 0 (MQ below (wQv (wcX0_begin cI cJ cZ cG h h_packs r_h_packs n_players n_cards n_round n_turn n_packs) (dC, dI) A) args s 0 0 A) (F0 m 13 ls [])) : ∀ (n : Nat), ∀ (v_players : Int32) (v_cards : Int32) (v_round : Int32) (v_turn : Int32) (v_packs : Nat → Nat → Int32) (l1 : Int32) (l2 : Int32) (l4 : Int32) (l5 : Int32) (l6 : Int32) (l7 : Int32) (H : Heap) (locs : List Loc) (ls : Array Slot), fX0_begin_b22 k_13 n v_players v_cards v_round v_turn v_packs l1 l2 l4 l5 l6 l7 = some (n_players, n_cards, n_round, n_turn, n_packs) → va_P (dC, dI) vwCl (wcX0_begin cI cJ cZ cG h h_packs r_h_packs v_players v_cards v_round v_turn v_packs) H → va_D A (wcX0_begin cI cJ cZ cG h h_packs r_h_packs v_players v_cards v_round v_turn v_packs) → va_S A s.heap H locs → lv_has ls 8 [(0, .ref h), (1, .int l1), (2, .int l2), (4, .int l4), (5, .int l5), (6, .int l6), (7, .int l7)] → W p l e rmX0_begin s m args below meth c H locs 0 0 (MQ below (wQv (wcX0_begin cI cJ cZ cG h h_packs r_h_packs n_players n_cards n_round n_turn n_packs) (dC, dI) A) args s 0 0 A) (F0 m 22 ls []) := by
  obtain ⟨hx, hb, hr, hml, hown, hts, hlocks⟩ := id C0
  intro n
  induction n with
  | zero =>
    intro v_players v_cards v_round v_turn v_packs l1 l2 l4 l5 l6 l7 H locs ls hf hP hD hS hl
    rw [fX0_begin_b22] at hf
    cases hf
  | succ n ih =>
    intro v_players v_cards v_round v_turn v_packs l1 l2 l4 l5 l6 l7 H locs ls hf hP hD hS hl
    rw [fX0_begin_b22] at hf
    refine lv_iload hx hb dX0_begin_22 (lv_at hl 6 rfl) ?_
    refine lv_iload_n hx hb dX0_begin_24 rfl (lv_at hl 2 rfl) ?_
    refine lv_icmp_ge (tgt := 62) hx hb dX0_begin_25 (by decide) (fun c_1 => ?_) (fun c_1 => ?_)
    · have hf := it_t hf c_1
      obtain ⟨x_2, ex_2, hf⟩ := nm_s hf
      refine lv_iinc (v := x_2) (lv' := [(6, .int x_2), (0, .ref h), (1, .int l1), (2, .int l2), (4, .int l4), (5, .int l5), (7, .int l7)]) hx hb dX0_begin_62 hl (k := 5) rfl (by rw [ex_2]; rfl) (by decide) rfl (fun ls hl => ?_)
      refine lv_goto (tgt := 13) hx hb dX0_begin_65 (by decide) ?_
      have hf : k_13 v_players v_cards v_round v_turn v_packs l1 l2 l4 l5 x_2 = some (n_players, n_cards, n_round, n_turn, n_packs) := hf
      exact hk_13 v_players v_cards v_round v_turn v_packs l1 l2 l4 l5 x_2 _ _ _ hf hP hD hS (lv_sub hl [1, 2, 3, 4, 5, 0] rfl)
    · have hf := it_f hf c_1
      refine lv_bipush (v := 75) hx hb dX0_begin_28 (by decide) ?_
      refine lv_iload hx hb dX0_begin_30 (lv_at hl 4 rfl) ?_
      refine lv_imul hx hb dX0_begin_32 ?_
      refine lv_bipush (v := 74) hx hb dX0_begin_33 (by decide) ?_
      refine lv_iadd hx hb dX0_begin_35 ?_
      refine lv_ldc (v := 65537) hx hb hown (hts _ mX0_begin_4) dX0_begin_36 ?_
      refine lv_irem hx hb dX0_begin_38 (by decide) ?_
      obtain ⟨x_3, ex_3, hf⟩ := nm_s hf
      refine w_eqi ex_3 ?_
      refine lv_istore (lv' := [(5, .int x_3), (0, .ref h), (1, .int l1), (2, .int l2), (4, .int l4), (6, .int l6), (7, .int l7)]) hx hb dX0_begin_39 hl (by decide) rfl (fun ls hl => ?_)
      refine lv_aload_n hx hb dX0_begin_41 rfl (lv_at hl 1 rfl) ?_
      refine va_get (D := (dC, dI)) (ci := 0) (v := .ref h_packs) (C := RX0) (T := TX0) (N := 5) hx hb hts iX0_begin_X0 hown hK hP 0 rfl rfl 0 (by decide) (hts _ mX0_begin_5) (fun _ h9 => h9) rfl dX0_begin_42 ?_
      refine lv_iload hx hb dX0_begin_45 (lv_at hl 5 rfl) ?_
      obtain ⟨hg_4, hf⟩ := ck_s hf
      refine w_aald hx hb hK hP 1 3 rfl rfl (g_vp hg_4) dX0_begin_47 ?_
      refine lv_iload hx hb dX0_begin_48 (lv_at hl 6 rfl) ?_
      refine lv_iload hx hb dX0_begin_50 (lv_at hl 0 rfl) ?_
      refine lv_iload hx hb dX0_begin_52 (lv_at hl 4 rfl) ?_
      obtain ⟨hg_5, hf⟩ := ck_s hf
      refine lv_irem hx hb dX0_begin_54 (nz_n hg_5) ?_
      obtain ⟨x_6, ex_6, hf⟩ := nm_s hf
      refine w_eqi ex_6 ?_
      obtain ⟨hg_7, hf⟩ := ck_s hf
      refine va_iast (D := (dC, dI)) hx hb hK hP hD hS (2 + l6.toNatClampNeg) 0 (fin6 (P := fun j => (wcX0_begin cI cJ cZ cG h h_packs r_h_packs v_players v_cards v_round v_turn v_packs)[2 + j]? = some (r_h_packs j, .inl (cI, 6, .inl (v_packs j)))) rfl rfl rfl rfl rfl rfl _ (g_lt hg_4)) rfl (g_vp hg_7) dX0_begin_55 (fun H locs hP hD hS => ?_)
      have e9 := fin6 (P := fun j => List.set (wcX0_begin cI cJ cZ cG h h_packs r_h_packs v_players v_cards v_round v_turn v_packs) (2 + j) (r_h_packs j, .inl (cI, 6, .inl (upd (v_packs j) l7.toNatClampNeg x_6))) = (wcX0_begin cI cJ cZ cG h h_packs r_h_packs v_players v_cards v_round v_turn (gup v_packs j l7.toNatClampNeg x_6))) rfl rfl rfl rfl rfl rfl _ (g_lt hg_4)
      rw [e9] at hP hD
      obtain ⟨x_8, ex_8, hf⟩ := nm_s hf
      refine lv_iinc (v := x_8) (lv' := [(7, .int x_8), (5, .int x_3), (0, .ref h), (1, .int l1), (2, .int l2), (4, .int l4), (6, .int l6)]) hx hb dX0_begin_56 hl (k := 6) rfl (by rw [ex_8]; rfl) (by decide) rfl (fun ls hl => ?_)
      refine lv_goto (tgt := 22) hx hb dX0_begin_59 (by decide) ?_
      have hf : (fX0_begin_b22 k_13 n) v_players v_cards v_round v_turn (gup v_packs l6.toNatClampNeg l7.toNatClampNeg x_6) l1 l2 l4 x_3 l6 x_8 = some (n_players, n_cards, n_round, n_turn, n_packs) := hf
      exact ih v_players v_cards v_round v_turn (gup v_packs l6.toNatClampNeg l7.toNatClampNeg x_6) l1 l2 l4 x_3 l6 x_8 _ _ _ hf hP hD hS (lv_sub hl [2, 3, 4, 5, 1, 6, 0] rfl)
set_option maxHeartbeats 4000000 in
set_option maxRecDepth 100000 in
theorem kX0_begin_13 {p : Program} {l : Launch} {e : Env} {s : State} {m : MethodId} {args : Array Value} {below : List Frame} {meth : Method} {c : Code} {dC : Nat → ClassId} {dI : Nat → Nat → Nat} {A : Nat → Prop} {cI cJ cZ cG : ClassId} {h h_packs : Nat} {r_h_packs : Nat → Nat} {n_players : Int32} {n_cards : Int32} {n_round : Int32} {n_turn : Int32} {n_packs : Nat → Nat → Int32} (C0 : wCX p s args m meth c cX0_begin 8 none RX0 wsX0_begin) (hA : ∀ q, s.heap.size ≤ q → A q) (hK : va_K (dC, dI) vwCl (tysW cI cJ cZ cG) s) : ∀ (n : Nat), ∀ (v_players : Int32) (v_cards : Int32) (v_round : Int32) (v_turn : Int32) (v_packs : Nat → Nat → Int32) (l1 : Int32) (l2 : Int32) (l4 : Int32) (l5 : Int32) (l6 : Int32) (H : Heap) (locs : List Loc) (ls : Array Slot), fX0_begin_b13 n v_players v_cards v_round v_turn v_packs l1 l2 l4 l5 l6 = some (n_players, n_cards, n_round, n_turn, n_packs) → va_P (dC, dI) vwCl (wcX0_begin cI cJ cZ cG h h_packs r_h_packs v_players v_cards v_round v_turn v_packs) H → va_D A (wcX0_begin cI cJ cZ cG h h_packs r_h_packs v_players v_cards v_round v_turn v_packs) → va_S A s.heap H locs → lv_has ls 8 [(0, .ref h), (1, .int l1), (2, .int l2), (4, .int l4), (5, .int l5), (6, .int l6)] → W p l e rmX0_begin s m args below meth c H locs 0 0 (MQ below (wQv (wcX0_begin cI cJ cZ cG h h_packs r_h_packs n_players n_cards n_round n_turn n_packs) (dC, dI) A) args s 0 0 A) (F0 m 13 ls []) := by
  obtain ⟨hx, hb, hr, hml, hown, hts, hlocks⟩ := id C0
  intro n
  induction n with
  | zero =>
    intro v_players v_cards v_round v_turn v_packs l1 l2 l4 l5 l6 H locs ls hf hP hD hS hl
    rw [fX0_begin_b13] at hf
    cases hf
  | succ n ih =>
    intro v_players v_cards v_round v_turn v_packs l1 l2 l4 l5 l6 H locs ls hf hP hD hS hl
    rw [fX0_begin_b13] at hf
    refine lv_iload hx hb dX0_begin_13 (lv_at hl 5 rfl) ?_
    refine lv_iload_n hx hb dX0_begin_15 rfl (lv_at hl 1 rfl) ?_
    refine lv_icmp_ge (tgt := 68) hx hb dX0_begin_16 (by decide) (fun c_1 => ?_) (fun c_1 => ?_)
    · have hf := it_t hf c_1
      refine lv_aload_n hx hb dX0_begin_68 rfl (lv_at hl 0 rfl) ?_
      refine lv_iload_n hx hb dX0_begin_69 rfl (lv_at hl 1 rfl) ?_
      refine va_put (D := (dC, dI)) (ci := 0) (v := .int l1) (ty := .int) (C := RX0) (T := TX0) (N := 5) hx hb hts iX0_begin_X0 tyX0 tyX0_ok nmX0 hown hK hP hD hS 0 rfl rfl 1 (by decide) (hts _ mX0_begin_0) (fun _ h9 => h9) rfl (by decide +kernel) rfl rfl (Nat.le_of_ble_eq_true rfl) dX0_begin_70 (fun H locs hP hD hS => ?_)
      have hP : va_P (dC, dI) vwCl (wcX0_begin cI cJ cZ cG h h_packs r_h_packs l1 v_cards v_round v_turn v_packs) H := hP
      have hD : va_D A (wcX0_begin cI cJ cZ cG h h_packs r_h_packs l1 v_cards v_round v_turn v_packs) := hD
      refine lv_aload_n hx hb dX0_begin_73 rfl (lv_at hl 0 rfl) ?_
      refine lv_iload_n hx hb dX0_begin_74 rfl (lv_at hl 2 rfl) ?_
      refine va_put (D := (dC, dI)) (ci := 0) (v := .int l2) (ty := .int) (C := RX0) (T := TX0) (N := 5) hx hb hts iX0_begin_X0 tyX0 tyX0_ok nmX0 hown hK hP hD hS 0 rfl rfl 2 (by decide) (hts _ mX0_begin_1) (fun _ h9 => h9) rfl (by decide +kernel) rfl rfl (Nat.le_of_ble_eq_true rfl) dX0_begin_75 (fun H locs hP hD hS => ?_)
      have hP : va_P (dC, dI) vwCl (wcX0_begin cI cJ cZ cG h h_packs r_h_packs l1 l2 v_round v_turn v_packs) H := hP
      have hD : va_D A (wcX0_begin cI cJ cZ cG h h_packs r_h_packs l1 l2 v_round v_turn v_packs) := hD
      refine lv_aload_n hx hb dX0_begin_78 rfl (lv_at hl 0 rfl) ?_
      refine lv_iconst (v := 0) hx hb dX0_begin_79 (by decide) ?_
      refine va_put (D := (dC, dI)) (ci := 0) (v := .int 0) (ty := .int) (C := RX0) (T := TX0) (N := 5) hx hb hts iX0_begin_X0 tyX0 tyX0_ok nmX0 hown hK hP hD hS 0 rfl rfl 3 (by decide) (hts _ mX0_begin_2) (fun _ h9 => h9) rfl (by decide +kernel) rfl rfl (Nat.le_of_ble_eq_true rfl) dX0_begin_80 (fun H locs hP hD hS => ?_)
      have hP : va_P (dC, dI) vwCl (wcX0_begin cI cJ cZ cG h h_packs r_h_packs l1 l2 0 v_turn v_packs) H := hP
      have hD : va_D A (wcX0_begin cI cJ cZ cG h h_packs r_h_packs l1 l2 0 v_turn v_packs) := hD
      refine lv_aload_n hx hb dX0_begin_83 rfl (lv_at hl 0 rfl) ?_
      refine lv_iconst (v := 0) hx hb dX0_begin_84 (by decide) ?_
      refine va_put (D := (dC, dI)) (ci := 0) (v := .int 0) (ty := .int) (C := RX0) (T := TX0) (N := 5) hx hb hts iX0_begin_X0 tyX0 tyX0_ok nmX0 hown hK hP hD hS 0 rfl rfl 4 (by decide) (hts _ mX0_begin_3) (fun _ h9 => h9) rfl (by decide +kernel) rfl rfl (Nat.le_of_ble_eq_true rfl) dX0_begin_85 (fun H locs hP hD hS => ?_)
      have hP : va_P (dC, dI) vwCl (wcX0_begin cI cJ cZ cG h h_packs r_h_packs l1 l2 0 0 v_packs) H := hP
      have hD : va_D A (wcX0_begin cI cJ cZ cG h h_packs r_h_packs l1 l2 0 0 v_packs) := hD
      have hf : some (l1, l2, 0, 0, v_packs) = some (n_players, n_cards, n_round, n_turn, n_packs) := hf
      cases hf
      exact w_vret hx hb hr hlocks hP hD hS dX0_begin_88
    · have hf := it_f hf c_1
      refine lv_iconst (v := 0) hx hb dX0_begin_19 (by decide) ?_
      refine lv_istore (lv' := [(7, .int 0), (0, .ref h), (1, .int l1), (2, .int l2), (4, .int l4), (5, .int l5), (6, .int l6)]) hx hb dX0_begin_20 hl (by decide) rfl (fun ls hl => ?_)
      have hf : fX0_begin_b22 (fX0_begin_b13 n) 70 v_players v_cards v_round v_turn v_packs l1 l2 l4 l5 l6 0 = some (n_players, n_cards, n_round, n_turn, n_packs) := hf
      exact kX0_begin_22 C0 hA hK ih 70 v_players v_cards v_round v_turn v_packs l1 l2 l4 l5 l6 0 _ _ _ hf hP hD hS (lv_sub hl [1, 2, 3, 4, 5, 6, 0] rfl)
set_option maxHeartbeats 4000000 in
set_option maxRecDepth 100000 in
theorem oX0_begin (l : Launch) (dC : Nat → ClassId) (dI : Nat → Nat → Nat) (cI cJ cZ cG : ClassId) (h h_packs : Nat) (r_h_packs : Nat → Nat) (v_players : Int32) (v_cards : Int32) (v_round : Int32) (v_turn : Int32) (v_packs : Nat → Nat → Int32) (sz : Nat) (p1 : Int32) (p2 : Int32) (p3 : Int32) (p4 : Int32) (n_players : Int32) (n_cards : Int32) (n_round : Int32) (n_turn : Int32) (n_packs : Nat → Nat → Int32) (hf : fX0_begin v_players v_cards v_round v_turn v_packs p1 p2 p3 p4 = some (n_players, n_cards, n_round, n_turn, n_packs)) : Met l yX0_begin wsX0_begin rmX0_begin (wPc [.ref h, .int p1, .int p2, .int p3, .int p4] (dC, dI) (tysW cI cJ cZ cG) sz (wcX0_begin cI cJ cZ cG h h_packs r_h_packs v_players v_cards v_round v_turn v_packs)) (wQv (wcX0_begin cI cJ cZ cG h h_packs r_h_packs n_players n_cards n_round n_turn n_packs) (dC, dI) (va_A (wcX0_begin cI cJ cZ cG h h_packs r_h_packs v_players v_cards v_round v_turn v_packs) sz)) 0 0 (va_A (wcX0_begin cI cJ cZ cG h h_packs r_h_packs v_players v_cards v_round v_turn v_packs) sz) := by
  refine Met.ofW (cc := cX0_begin) (maxL := 8) (ret := none) (by decide) rfl ?_
  intro p e s m args below meth c s₁ B hml hv
  obtain ⟨rfl, hsz, hP, hK, hD0⟩ := hv
  have hx := B.exec
  have hb := B.bytes
  have hr := B.returns
  have hts := atoms_spec (ws := wsX0_begin) B.pre
  have hown : s.vm.findClass RX0 = some m.cls := findClass_of_methodNamed B.named
  have hlocks := B.notSynchronized
  subst hsz
  have hD := hD0.self (sz := s.heap.size)
  generalize hAe : va_A (wcX0_begin cI cJ cZ cG h h_packs r_h_packs v_players v_cards v_round v_turn v_packs) s.heap.size = A at hD ⊢
  have hA : ∀ q : Nat, s.heap.size ≤ q → A q := fun q h => by rw [← hAe]; exact Or.inr h
  have hS : va_S A s.heap s.heap [] := va_S.rf
  have hP : va_P (dC, dI) vwCl (wcX0_begin cI cJ cZ cG h h_packs r_h_packs v_players v_cards v_round v_turn v_packs) s.heap := hP
  have hl := lv_entry ([.ref h, .int p1, .int p2, .int p3, .int p4]) (n := 8) (Nat.le_of_ble_eq_true rfl)
  rw [lg_entry_eq]
  generalize (lg_sl ([.ref h, .int p1, .int p2, .int p3, .int p4]) ++ List.replicate (8 - (lg_sl ([.ref h, .int p1, .int p2, .int p3, .int p4])).length) Slot.unset).toArray = ls at hl ⊢
  have hl : lv_has ls 8 [(0, .ref h), (1, .int p1), (2, .int p2), (3, .int p3), (4, .int p4)] := hl
  generalize hH : s.heap = H at hP hS ⊢
  have hS : va_S A s.heap H [] := by rw [hH]; exact hS
  have C0 : wCX p s #[.ref h, .int p1, .int p2, .int p3, .int p4] m meth c cX0_begin 8 none RX0 wsX0_begin := ⟨hx, hb, hr, hml, hown, hts, hlocks⟩
  show W p l e rmX0_begin s m #[.ref h, .int p1, .int p2, .int p3, .int p4] below meth c H [] 0 0 (MQ below (wQv (wcX0_begin cI cJ cZ cG h h_packs r_h_packs n_players n_cards n_round n_turn n_packs) (dC, dI) A) #[.ref h, .int p1, .int p2, .int p3, .int p4] s 0 0 A) (F0 m 0 ls [])
  unfold fX0_begin at hf
  refine lv_iload hx hb dX0_begin_0 (lv_at hl 4 rfl) ?_
  refine lv_iconst (v := 1) hx hb dX0_begin_2 (by decide) ?_
  refine lv_icmp_ge (tgt := 7) hx hb dX0_begin_3 (by decide) (fun c_1 => ?_) (fun c_1 => ?_)
  · have hf := it_t hf c_1
    refine lv_iload_n hx hb dX0_begin_7 rfl (lv_at hl 3 rfl) ?_
    refine lv_istore (lv' := [(5, .int p3), (0, .ref h), (1, .int p1), (2, .int p2), (3, .int p3), (4, .int p4)]) hx hb dX0_begin_8 hl (by decide) rfl (fun ls hl => ?_)
    refine lv_iconst (v := 0) hx hb dX0_begin_10 (by decide) ?_
    refine lv_istore (lv' := [(6, .int 0), (5, .int p3), (0, .ref h), (1, .int p1), (2, .int p2), (3, .int p3), (4, .int p4)]) hx hb dX0_begin_11 hl (by decide) rfl (fun ls hl => ?_)
    have hf : fX0_begin_b13 70 v_players v_cards v_round v_turn v_packs p1 p2 p4 p3 0 = some (n_players, n_cards, n_round, n_turn, n_packs) := hf
    exact kX0_begin_13 C0 hA hK 70 v_players v_cards v_round v_turn v_packs p1 p2 p4 p3 0 _ _ _ hf hP hD hS (lv_sub hl [2, 3, 4, 6, 1, 0] rfl)
  · have hf := it_f hf c_1
    have hf : some (v_players, v_cards, v_round, v_turn, v_packs) = some (n_players, n_cards, n_round, n_turn, n_packs) := hf
    cases hf
    exact w_vret hx hb hr hlocks hP hD hS dX0_begin_6
