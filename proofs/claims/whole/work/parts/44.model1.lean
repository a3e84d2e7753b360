/-! printed by gen.py: model1 -/
abbrev wcX9_thrown (cI cJ cZ cG : ClassId) (h h_effect h_number h_banned h_has h_life h_shield h_strength h_haveMet h_deck h_deckSize h_who h_does h_much h_against h_pack h_packSize h_gives h_wants h_tryWho h_tryDoes h_tryMuch h_tryAgainst h_tryLife h_tryShield h_ring h_row : Nat) (v_thrown : Int32) (v_today : Int32) (v_kinds : Int32) (v_stacked : Int32) (v_drafters : Int32) (v_cards : Int32) (v_round : Int32) (v_turn : Int32) (v_high : Int32) (v_ringSize : Int32) (v_many : Int32) : va_W := [(h, .inr (9, [.int v_thrown, .int v_today, .int v_kinds, .ref h_effect, .ref h_number, .ref h_banned, .ref h_has, .ref h_life, .ref h_shield, .ref h_strength, .ref h_haveMet, .ref h_deck, .ref h_deckSize, .int v_stacked, .ref h_who, .ref h_does, .ref h_much, .ref h_against, .int v_drafters, .int v_cards, .int v_round, .int v_turn, .ref h_pack, .ref h_packSize, .ref h_gives, .ref h_wants, .int v_high, .ref h_tryWho, .ref h_tryDoes, .ref h_tryMuch, .ref h_tryAgainst, .ref h_tryLife, .ref h_tryShield, .int v_ringSize, .ref h_ring, .int v_many, .ref h_row]))]
theorem iX9_thrown_X9 : ∀ w ∈ wsX90, w ∈ wsX9_thrown := by decide +kernel
theorem mX9_thrown_0 : (Cond.fieldLink RX9 94 "SleevehallModel" "thrown" "I") ∈ wsX9_thrown := by decide +kernel
abbrev rmX9_thrown : Room := { frames := 0, cells := 0, slots := 0, locals := 0 }
set_option maxHeartbeats 4000000 in
set_option maxRecDepth 100000 in
theorem oX9_thrown (l : Launch) (dC : Nat → ClassId) (dI : Nat → Nat → Nat) (cI cJ cZ cG : ClassId) (h h_effect h_number h_banned h_has h_life h_shield h_strength h_haveMet h_deck h_deckSize h_who h_does h_much h_against h_pack h_packSize h_gives h_wants h_tryWho h_tryDoes h_tryMuch h_tryAgainst h_tryLife h_tryShield h_ring h_row : Nat) (v_thrown : Int32) (v_today : Int32) (v_kinds : Int32) (v_stacked : Int32) (v_drafters : Int32) (v_cards : Int32) (v_round : Int32) (v_turn : Int32) (v_high : Int32) (v_ringSize : Int32) (v_many : Int32) (sz : Nat) (r0 : Int32) (hf : fX9_thrown v_thrown = some r0) : Met l yX9_thrown wsX9_thrown rmX9_thrown (wPc [.ref h] (dC, dI) (tysW cI cJ cZ cG) sz (wcX9_thrown cI cJ cZ cG h h_effect h_number h_banned h_has h_life h_shield h_strength h_haveMet h_deck h_deckSize h_who h_does h_much h_against h_pack h_packSize h_gives h_wants h_tryWho h_tryDoes h_tryMuch h_tryAgainst h_tryLife h_tryShield h_ring h_row v_thrown v_today v_kinds v_stacked v_drafters v_cards v_round v_turn v_high v_ringSize v_many)) (wQi r0 (wcX9_thrown cI cJ cZ cG h h_effect h_number h_banned h_has h_life h_shield h_strength h_haveMet h_deck h_deckSize h_who h_does h_much h_against h_pack h_packSize h_gives h_wants h_tryWho h_tryDoes h_tryMuch h_tryAgainst h_tryLife h_tryShield h_ring h_row v_thrown v_today v_kinds v_stacked v_drafters v_cards v_round v_turn v_high v_ringSize v_many) (dC, dI) (va_A (wcX9_thrown cI cJ cZ cG h h_effect h_number h_banned h_has h_life h_shield h_strength h_haveMet h_deck h_deckSize h_who h_does h_much h_against h_pack h_packSize h_gives h_wants h_tryWho h_tryDoes h_tryMuch h_tryAgainst h_tryLife h_tryShield h_ring h_row v_thrown v_today v_kinds v_stacked v_drafters v_cards v_round v_turn v_high v_ringSize v_many) sz)) 0 0 (va_A (wcX9_thrown cI cJ cZ cG h h_effect h_number h_banned h_has h_life h_shield h_strength h_haveMet h_deck h_deckSize h_who h_does h_much h_against h_pack h_packSize h_gives h_wants h_tryWho h_tryDoes h_tryMuch h_tryAgainst h_tryLife h_tryShield h_ring h_row v_thrown v_today v_kinds v_stacked v_drafters v_cards v_round v_turn v_high v_ringSize v_many) sz) := by
  refine Met.ofW (cc := cX9_thrown) (maxL := 1) (ret := (some .int)) (by decide) rfl ?_
  intro p e s m args below meth c s₁ B hml hv
  obtain ⟨rfl, hsz, hP, hK, hD0⟩ := hv
  have hx := B.exec
  have hb := B.bytes
  have hr := B.returns
  have hts := atoms_spec (ws := wsX9_thrown) B.pre
  have hown : s.vm.findClass RX9 = some m.cls := findClass_of_methodNamed B.named
  have hlocks := B.notSynchronized
  subst hsz
  have hD := hD0.self (sz := s.heap.size)
  generalize hAe : va_A (wcX9_thrown cI cJ cZ cG h h_effect h_number h_banned h_has h_life h_shield h_strength h_haveMet h_deck h_deckSize h_who h_does h_much h_against h_pack h_packSize h_gives h_wants h_tryWho h_tryDoes h_tryMuch h_tryAgainst h_tryLife h_tryShield h_ring h_row v_thrown v_today v_kinds v_stacked v_drafters v_cards v_round v_turn v_high v_ringSize v_many) s.heap.size = A at hD ⊢
  have hA : ∀ q : Nat, s.heap.size ≤ q → A q := fun q h => by rw [← hAe]; exact Or.inr h
  have hS : va_S A s.heap s.heap [] := va_S.rf
  have hP : va_P (dC, dI) vwCl (wcX9_thrown cI cJ cZ cG h h_effect h_number h_banned h_has h_life h_shield h_strength h_haveMet h_deck h_deckSize h_who h_does h_much h_against h_pack h_packSize h_gives h_wants h_tryWho h_tryDoes h_tryMuch h_tryAgainst h_tryLife h_tryShield h_ring h_row v_thrown v_today v_kinds v_stacked v_drafters v_cards v_round v_turn v_high v_ringSize v_many) s.heap := hP
  have hl := lv_entry ([.ref h]) (n := 1) (Nat.le_of_ble_eq_true rfl)
  rw [lg_entry_eq]
  generalize (lg_sl ([.ref h]) ++ List.replicate (1 - (lg_sl ([.ref h])).length) Slot.unset).toArray = ls at hl ⊢
  have hl : lv_has ls 1 [(0, .ref h)] := hl
  generalize hH : s.heap = H at hP hS ⊢
  have hS : va_S A s.heap H [] := by rw [hH]; exact hS
  have C0 : wCX p s #[.ref h] m meth c cX9_thrown 1 (some .int) RX9 wsX9_thrown := ⟨hx, hb, hr, hml, hown, hts, hlocks⟩
  show W p l e rmX9_thrown s m #[.ref h] below meth c H [] 0 0 (MQ below (wQi r0 (wcX9_thrown cI cJ cZ cG h h_effect h_number h_banned h_has h_life h_shield h_strength h_haveMet h_deck h_deckSize h_who h_does h_much h_against h_pack h_packSize h_gives h_wants h_tryWho h_tryDoes h_tryMuch h_tryAgainst h_tryLife h_tryShield h_ring h_row v_thrown v_today v_kinds v_stacked v_drafters v_cards v_round v_turn v_high v_ringSize v_many) (dC, dI) A) #[.ref h] s 0 0 A) (F0 m 0 ls [])
  unfold fX9_thrown at hf
  refine lv_aload_n hx hb dX9_thrown_0 rfl (lv_at hl 0 rfl) ?_
  refine va_get (D := (dC, dI)) (ci := 9) (v := .int v_thrown) (C := RX9) (T := TX9) (N := 37) hx hb hts iX9_thrown_X9 hown hK hP 0 rfl rfl 0 (by decide) (hts _ mX9_thrown_0) (fun _ h9 => h9) rfl dX9_thrown_1 ?_
  have hf : some v_thrown = some r0 := hf
  cases hf
  exact w_iret hx hb hr hlocks rfl hP hD hS dX9_thrown_4
abbrev wcX9_goesWell (cI cJ cZ cG : ClassId) (h h_effect h_number h_banned h_has h_life h_shield h_strength h_haveMet h_deck h_deckSize h_who h_does h_much h_against h_pack h_packSize h_gives h_wants h_tryWho h_tryDoes h_tryMuch h_tryAgainst h_tryLife h_tryShield h_ring h_row : Nat) (v_thrown : Int32) (v_today : Int32) (v_kinds : Int32) (v_stacked : Int32) (v_drafters : Int32) (v_cards : Int32) (v_round : Int32) (v_turn : Int32) (v_high : Int32) (v_ringSize : Int32) (v_many : Int32) : va_W := [(h, .inr (9, [.int v_thrown, .int v_today, .int v_kinds, .ref h_effect, .ref h_number, .ref h_banned, .ref h_has, .ref h_life, .ref h_shield, .ref h_strength, .ref h_haveMet, .ref h_deck, .ref h_deckSize, .int v_stacked, .ref h_who, .ref h_does, .ref h_much, .ref h_against, .int v_drafters, .int v_cards, .int v_round, .int v_turn, .ref h_pack, .ref h_packSize, .ref h_gives, .ref h_wants, .int v_high, .ref h_tryWho, .ref h_tryDoes, .ref h_tryMuch, .ref h_tryAgainst, .ref h_tryLife, .ref h_tryShield, .int v_ringSize, .ref h_ring, .int v_many, .ref h_row]))]
theorem iX9_goesWell_X9 : ∀ w ∈ wsX90, w ∈ wsX9_goesWell := by decide +kernel
theorem mX9_goesWell_0 : (Cond.fieldLink RX9 94 "SleevehallModel" "thrown" "I") ∈ wsX9_goesWell := by decide +kernel
abbrev rmX9_goesWell : Room := { frames := 0, cells := 0, slots := 0, locals := 0 }
set_option maxHeartbeats 4000000 in
set_option maxRecDepth 100000 in
theorem kX9_goesWell_14 {p : Program} {l : Launch} {e : Env} {s : State} {m : MethodId} {args : Array Value} {below : List Frame} {meth : Method} {c : Code} {dC : Nat → ClassId} {dI : Nat → Nat → Nat} {A : Nat → Prop} {cI cJ cZ cG : ClassId} {h h_effect h_number h_banned h_has h_life h_shield h_strength h_haveMet h_deck h_deckSize h_who h_does h_much h_against h_pack h_packSize h_gives h_wants h_tryWho h_tryDoes h_tryMuch h_tryAgainst h_tryLife h_tryShield h_ring h_row : Nat} {v_today : Int32} {v_kinds : Int32} {v_stacked : Int32} {v_drafters : Int32} {v_cards : Int32} {v_round : Int32} {v_turn : Int32} {v_high : Int32} {v_ringSize : Int32} {v_many : Int32} {r0 : Int32} {n_thrown : Int32} (C0 : wCX p s args m meth c cX9_goesWell 2 (some .boolean) RX9 wsX9_goesWell) (hA : ∀ q, s.heap.size ≤ q → A q) (hK : va_K (dC, dI) vwCl (tysW cI cJ cZ cG) s) : ∀ (v_thrown : Int32) (s0 : Int32) (hz_s0 : wB s0) (H : Heap) (locs : List Loc) (ls : Array Slot), fX9_goesWell_b14 v_thrown s0 = some (r0, n_thrown) → va_P (dC, dI) vwCl (wcX9_goesWell cI cJ cZ cG h h_effect h_number h_banned h_has h_life h_shield h_strength h_haveMet h_deck h_deckSize h_who h_does h_much h_against h_pack h_packSize h_gives h_wants h_tryWho h_tryDoes h_tryMuch h_tryAgainst h_tryLife h_tryShield h_ring h_row v_thrown v_today v_kinds v_stacked v_drafters v_cards v_round v_turn v_high v_ringSize v_many) H → va_D A (wcX9_goesWell cI cJ cZ cG h h_effect h_number h_banned h_has h_life h_shield h_strength h_haveMet h_deck h_deckSize h_who h_does h_much h_against h_pack h_packSize h_gives h_wants h_tryWho h_tryDoes h_tryMuch h_tryAgainst h_tryLife h_tryShield h_ring h_row v_thrown v_today v_kinds v_stacked v_drafters v_cards v_round v_turn v_high v_ringSize v_many) → va_S A s.heap H locs → lv_has ls 2 [] → W p l e rmX9_goesWell s m args below meth c H locs 0 0 (MQ below (wQz r0 (wcX9_goesWell cI cJ cZ cG h h_effect h_number h_banned h_has h_life h_shield h_strength h_haveMet h_deck h_deckSize h_who h_does h_much h_against h_pack h_packSize h_gives h_wants h_tryWho h_tryDoes h_tryMuch h_tryAgainst h_tryLife h_tryShield h_ring h_row n_thrown v_today v_kinds v_stacked v_drafters v_cards v_round v_turn v_high v_ringSize v_many) (dC, dI) A) args s 0 0 A) (F0 m 14 ls [.int s0]) := by
  obtain ⟨hx, hb, hr, hml, hown, hts, hlocks⟩ := id C0
  intro v_thrown s0 hz_s0 H locs ls hf hP hD hS hl
  unfold fX9_goesWell_b14 at hf
  have hf : some (s0, v_thrown) = some (r0, n_thrown) := hf
  cases hf
  exact w_zret hx hb hr hlocks rfl hz_s0 hP hD hS dX9_goesWell_14
set_option maxHeartbeats 4000000 in
set_option maxRecDepth 100000 in
theorem oX9_goesWell (l : Launch) (dC : Nat → ClassId) (dI : Nat → Nat → Nat) (cI cJ cZ cG : ClassId) (h h_effect h_number h_banned h_has h_life h_shield h_strength h_haveMet h_deck h_deckSize h_who h_does h_much h_against h_pack h_packSize h_gives h_wants h_tryWho h_tryDoes h_tryMuch h_tryAgainst h_tryLife h_tryShield h_ring h_row : Nat) (v_thrown : Int32) (v_today : Int32) (v_kinds : Int32) (v_stacked : Int32) (v_drafters : Int32) (v_cards : Int32) (v_round : Int32) (v_turn : Int32) (v_high : Int32) (v_ringSize : Int32) (v_many : Int32) (sz : Nat) (p1 : Int32) (r0 : Int32) (n_thrown : Int32) (hf : fX9_goesWell v_thrown p1 = some (r0, n_thrown)) : Met l yX9_goesWell wsX9_goesWell rmX9_goesWell (wPc [.ref h, .int p1] (dC, dI) (tysW cI cJ cZ cG) sz (wcX9_goesWell cI cJ cZ cG h h_effect h_number h_banned h_has h_life h_shield h_strength h_haveMet h_deck h_deckSize h_who h_does h_much h_against h_pack h_packSize h_gives h_wants h_tryWho h_tryDoes h_tryMuch h_tryAgainst h_tryLife h_tryShield h_ring h_row v_thrown v_today v_kinds v_stacked v_drafters v_cards v_round v_turn v_high v_ringSize v_many)) (wQz r0 (wcX9_goesWell cI cJ cZ cG h h_effect h_number h_banned h_has h_life h_shield h_strength h_haveMet h_deck h_deckSize h_who h_does h_much h_against h_pack h_packSize h_gives h_wants h_tryWho h_tryDoes h_tryMuch h_tryAgainst h_tryLife h_tryShield h_ring h_row n_thrown v_today v_kinds v_stacked v_drafters v_cards v_round v_turn v_high v_ringSize v_many) (dC, dI) (va_A (wcX9_goesWell cI cJ cZ cG h h_effect h_number h_banned h_has h_life h_shield h_strength h_haveMet h_deck h_deckSize h_who h_does h_much h_against h_pack h_packSize h_gives h_wants h_tryWho h_tryDoes h_tryMuch h_tryAgainst h_tryLife h_tryShield h_ring h_row v_thrown v_today v_kinds v_stacked v_drafters v_cards v_round v_turn v_high v_ringSize v_many) sz)) 0 0 (va_A (wcX9_goesWell cI cJ cZ cG h h_effect h_number h_banned h_has h_life h_shield h_strength h_haveMet h_deck h_deckSize h_who h_does h_much h_against h_pack h_packSize h_gives h_wants h_tryWho h_tryDoes h_tryMuch h_tryAgainst h_tryLife h_tryShield h_ring h_row v_thrown v_today v_kinds v_stacked v_drafters v_cards v_round v_turn v_high v_ringSize v_many) sz) := by
  refine Met.ofW (cc := cX9_goesWell) (maxL := 2) (ret := (some .boolean)) (by decide) rfl ?_
  intro p e s m args below meth c s₁ B hml hv
  obtain ⟨rfl, hsz, hP, hK, hD0⟩ := hv
  have hx := B.exec
  have hb := B.bytes
  have hr := B.returns
  have hts := atoms_spec (ws := wsX9_goesWell) B.pre
  have hown : s.vm.findClass RX9 = some m.cls := findClass_of_methodNamed B.named
  have hlocks := B.notSynchronized
  subst hsz
  have hD := hD0.self (sz := s.heap.size)
  generalize hAe : va_A (wcX9_goesWell cI cJ cZ cG h h_effect h_number h_banned h_has h_life h_shield h_strength h_haveMet h_deck h_deckSize h_who h_does h_much h_against h_pack h_packSize h_gives h_wants h_tryWho h_tryDoes h_tryMuch h_tryAgainst h_tryLife h_tryShield h_ring h_row v_thrown v_today v_kinds v_stacked v_drafters v_cards v_round v_turn v_high v_ringSize v_many) s.heap.size = A at hD ⊢
  have hA : ∀ q : Nat, s.heap.size ≤ q → A q := fun q h => by rw [← hAe]; exact Or.inr h
  have hS : va_S A s.heap s.heap [] := va_S.rf
  have hP : va_P (dC, dI) vwCl (wcX9_goesWell cI cJ cZ cG h h_effect h_number h_banned h_has h_life h_shield h_strength h_haveMet h_deck h_deckSize h_who h_does h_much h_against h_pack h_packSize h_gives h_wants h_tryWho h_tryDoes h_tryMuch h_tryAgainst h_tryLife h_tryShield h_ring h_row v_thrown v_today v_kinds v_stacked v_drafters v_cards v_round v_turn v_high v_ringSize v_many) s.heap := hP
  have hl := lv_entry ([.ref h, .int p1]) (n := 2) (Nat.le_of_ble_eq_true rfl)
  rw [lg_entry_eq]
  generalize (lg_sl ([.ref h, .int p1]) ++ List.replicate (2 - (lg_sl ([.ref h, .int p1])).length) Slot.unset).toArray = ls at hl ⊢
  have hl : lv_has ls 2 [(0, .ref h), (1, .int p1)] := hl
  generalize hH : s.heap = H at hP hS ⊢
  have hS : va_S A s.heap H [] := by rw [hH]; exact hS
  have C0 : wCX p s #[.ref h, .int p1] m meth c cX9_goesWell 2 (some .boolean) RX9 wsX9_goesWell := ⟨hx, hb, hr, hml, hown, hts, hlocks⟩
  show W p l e rmX9_goesWell s m #[.ref h, .int p1] below meth c H [] 0 0 (MQ below (wQz r0 (wcX9_goesWell cI cJ cZ cG h h_effect h_number h_banned h_has h_life h_shield h_strength h_haveMet h_deck h_deckSize h_who h_does h_much h_against h_pack h_packSize h_gives h_wants h_tryWho h_tryDoes h_tryMuch h_tryAgainst h_tryLife h_tryShield h_ring h_row n_thrown v_today v_kinds v_stacked v_drafters v_cards v_round v_turn v_high v_ringSize v_many) (dC, dI) A) #[.ref h, .int p1] s 0 0 A) (F0 m 0 ls [])
  unfold fX9_goesWell at hf
  refine lv_aload_n hx hb dX9_goesWell_0 rfl (lv_at hl 0 rfl) ?_
  refine lv_iload_n hx hb dX9_goesWell_1 rfl (lv_at hl 1 rfl) ?_
  refine va_put (D := (dC, dI)) (ci := 9) (v := .int p1) (ty := .int) (C := RX9) (T := TX9) (N := 37) hx hb hts iX9_goesWell_X9 tyX9 tyX9_ok nmX9 hown hK hP hD hS 0 rfl rfl 0 (by decide) (hts _ mX9_goesWell_0) (fun _ h9 => h9) rfl (by decide +kernel) rfl rfl (Nat.le_of_ble_eq_true rfl) dX9_goesWell_2 (fun H locs hP hD hS => ?_)
  have hP : va_P (dC, dI) vwCl (wcX9_goesWell cI cJ cZ cG h h_effect h_number h_banned h_has h_life h_shield h_strength h_haveMet h_deck h_deckSize h_who h_does h_much h_against h_pack h_packSize h_gives h_wants h_tryWho h_tryDoes h_tryMuch h_tryAgainst h_tryLife h_tryShield h_ring h_row p1 v_today v_kinds v_stacked v_drafters v_cards v_round v_turn v_high v_ringSize v_many) H := hP
  have hD : va_D A (wcX9_goesWell cI cJ cZ cG h h_effect h_number h_banned h_has h_life h_shield h_strength h_haveMet h_deck h_deckSize h_who h_does h_much h_against h_pack h_packSize h_gives h_wants h_tryWho h_tryDoes h_tryMuch h_tryAgainst h_tryLife h_tryShield h_ring h_row p1 v_today v_kinds v_stacked v_drafters v_cards v_round v_turn v_high v_ringSize v_many) := hD
  refine lv_iload_n hx hb dX9_goesWell_5 rfl (lv_at hl 1 rfl) ?_
  refine lv_if_ne (tgt := 13) hx hb dX9_goesWell_6 (by decide) (fun c_1 => ?_) (fun c_1 => ?_)
  · have hf := it_f hf c_1
    refine lv_iconst (v := 0) hx hb dX9_goesWell_13 (by decide) ?_
    have hf : fX9_goesWell_b14 p1 0 = some (r0, n_thrown) := hf
    exact kX9_goesWell_14 C0 hA hK p1 0 (Or.inl rfl) _ _ _ hf hP hD hS (lv_sub hl [] rfl)
  · have hf := it_t hf c_1
    refine lv_iconst (v := 1) hx hb dX9_goesWell_9 (by decide) ?_
    refine lv_goto (tgt := 14) hx hb dX9_goesWell_10 (by decide) ?_
    have hf : fX9_goesWell_b14 p1 1 = some (r0, n_thrown) := hf
    exact kX9_goesWell_14 C0 hA hK p1 1 (Or.inr rfl) _ _ _ hf hP hD hS (lv_sub hl [] rfl)
abbrev wcX9_in (cI cJ cZ cG : ClassId) : va_W := []
abbrev rmX9_in : Room := { frames := 0, cells := 0, slots := 0, locals := 0 }
set_option maxHeartbeats 4000000 in
set_option maxRecDepth 100000 in
theorem kX9_in_15 {p : Program} {l : Launch} {e : Env} {s : State} {m : MethodId} {args : Array Value} {below : List Frame} {meth : Method} {c : Code} {dC : Nat → ClassId} {dI : Nat → Nat → Nat} {A : Nat → Prop} {cI cJ cZ cG : ClassId} {r0 : Int32} (C0 : wCX p s args m meth c cX9_in 3 (some .boolean) RX9 wsX9_in) (hA : ∀ q, s.heap.size ≤ q → A q) (hK : va_K (dC, dI) vwCl (tysW cI cJ cZ cG) s) : ∀ (s0 : Int32) (hz_s0 : wB s0) (H : Heap) (locs : List Loc) (ls : Array Slot), fX9_in_b15 s0 = some r0 → va_P (dC, dI) vwCl (wcX9_in cI cJ cZ cG ) H → va_D A (wcX9_in cI cJ cZ cG ) → va_S A s.heap H locs → lv_has ls 3 [] → W p l e rmX9_in s m args below meth c H locs 0 0 (MQ below (wQz r0 (wcX9_in cI cJ cZ cG ) (dC, dI) A) args s 0 0 A) (F0 m 15 ls [.int s0]) := by
  obtain ⟨hx, hb, hr, hml, hown, hts, hlocks⟩ := id C0
  intro s0 hz_s0 H locs ls hf hP hD hS hl
  unfold fX9_in_b15 at hf
  have hf : some s0 = some r0 := hf
  cases hf
  exact w_zret hx hb hr hlocks rfl hz_s0 hP hD hS dX9_in_15
set_option maxHeartbeats 4000000 in
set_option maxRecDepth 100000 in
theorem kX9_in_14 {p : Program} {l : Launch} {e : Env} {s : State} {m : MethodId} {args : Array Value} {below : List Frame} {meth : Method} {c : Code} {dC : Nat → ClassId} {dI : Nat → Nat → Nat} {A : Nat → Prop} {cI cJ cZ cG : ClassId} {r0 : Int32} (C0 : wCX p s args m meth c cX9_in 3 (some .boolean) RX9 wsX9_in) (hA : ∀ q, s.heap.size ≤ q → A q) (hK : va_K (dC, dI) vwCl (tysW cI cJ cZ cG) s) : ∀ (H : Heap) (locs : List Loc) (ls : Array Slot), fX9_in_b14 = some r0 → va_P (dC, dI) vwCl (wcX9_in cI cJ cZ cG ) H → va_D A (wcX9_in cI cJ cZ cG ) → va_S A s.heap H locs → lv_has ls 3 [] → W p l e rmX9_in s m args below meth c H locs 0 0 (MQ below (wQz r0 (wcX9_in cI cJ cZ cG ) (dC, dI) A) args s 0 0 A) (F0 m 14 ls []) := by
  obtain ⟨hx, hb, hr, hml, hown, hts, hlocks⟩ := id C0
  intro H locs ls hf hP hD hS hl
  unfold fX9_in_b14 at hf
  refine lv_iconst (v := 0) hx hb dX9_in_14 (by decide) ?_
  have hf : fX9_in_b15 0 = some r0 := hf
  exact kX9_in_15 C0 hA hK 0 (Or.inl rfl) _ _ _ hf hP hD hS (lv_sub hl [] rfl)
set_option maxHeartbeats 4000000 in
set_option maxRecDepth 100000 in
theorem oX9_in (l : Launch) (dC : Nat → ClassId) (dI : Nat → Nat → Nat) (cI cJ cZ cG : ClassId) (sz : Nat) (p1 : Int32) (p2 : Int32) (p3 : Int32) (r0 : Int32) (hf : fX9_in p1 p2 p3 = some r0) : Met l yX9_in wsX9_in rmX9_in (wPc [.int p1, .int p2, .int p3] (dC, dI) (tysW cI cJ cZ cG) sz (wcX9_in cI cJ cZ cG )) (wQz r0 (wcX9_in cI cJ cZ cG ) (dC, dI) (va_A (wcX9_in cI cJ cZ cG ) sz)) 0 0 (va_A (wcX9_in cI cJ cZ cG ) sz) := by
  refine Met.ofW (cc := cX9_in) (maxL := 3) (ret := (some .boolean)) (by decide) rfl ?_
  intro p e s m args below meth c s₁ B hml hv
  obtain ⟨rfl, hsz, hP, hK, hD0⟩ := hv
  have hx := B.exec
  have hb := B.bytes
  have hr := B.returns
  have hts := atoms_spec (ws := wsX9_in) B.pre
  have hown : s.vm.findClass RX9 = some m.cls := findClass_of_methodNamed B.named
  have hlocks := B.notSynchronized
  subst hsz
  have hD := hD0.self (sz := s.heap.size)
  generalize hAe : va_A (wcX9_in cI cJ cZ cG ) s.heap.size = A at hD ⊢
  have hA : ∀ q : Nat, s.heap.size ≤ q → A q := fun q h => by rw [← hAe]; exact Or.inr h
  have hS : va_S A s.heap s.heap [] := va_S.rf
  have hP : va_P (dC, dI) vwCl (wcX9_in cI cJ cZ cG ) s.heap := hP
  have hl := lv_entry ([.int p1, .int p2, .int p3]) (n := 3) (Nat.le_of_ble_eq_true rfl)
  rw [lg_entry_eq]
  generalize (lg_sl ([.int p1, .int p2, .int p3]) ++ List.replicate (3 - (lg_sl ([.int p1, .int p2, .int p3])).length) Slot.unset).toArray = ls at hl ⊢
  have hl : lv_has ls 3 [(0, .int p1), (1, .int p2), (2, .int p3)] := hl
  generalize hH : s.heap = H at hP hS ⊢
  have hS : va_S A s.heap H [] := by rw [hH]; exact hS
  have C0 : wCX p s #[.int p1, .int p2, .int p3] m meth c cX9_in 3 (some .boolean) RX9 wsX9_in := ⟨hx, hb, hr, hml, hown, hts, hlocks⟩
  show W p l e rmX9_in s m #[.int p1, .int p2, .int p3] below meth c H [] 0 0 (MQ below (wQz r0 (wcX9_in cI cJ cZ cG ) (dC, dI) A) #[.int p1, .int p2, .int p3] s 0 0 A) (F0 m 0 ls [])
  unfold fX9_in at hf
  refine lv_iload_n hx hb dX9_in_0 rfl (lv_at hl 0 rfl) ?_
  refine lv_iload_n hx hb dX9_in_1 rfl (lv_at hl 1 rfl) ?_
  refine lv_icmp_lt (tgt := 14) hx hb dX9_in_2 (by decide) (fun c_1 => ?_) (fun c_1 => ?_)
  · have hf := it_t hf c_1
    have hf : fX9_in_b14 = some r0 := hf
    exact kX9_in_14 C0 hA hK _ _ _ hf hP hD hS (lv_sub hl [] rfl)
  · have hf := it_f hf c_1
    refine lv_iload_n hx hb dX9_in_5 rfl (lv_at hl 0 rfl) ?_
    refine lv_iload_n hx hb dX9_in_6 rfl (lv_at hl 2 rfl) ?_
    refine lv_icmp_gt (tgt := 14) hx hb dX9_in_7 (by decide) (fun c_2 => ?_) (fun c_2 => ?_)
    · have hf := it_t hf c_2
      have hf : fX9_in_b14 = some r0 := hf
      exact kX9_in_14 C0 hA hK _ _ _ hf hP hD hS (lv_sub hl [] rfl)
    · have hf := it_f hf c_2
      refine lv_iconst (v := 1) hx hb dX9_in_10 (by decide) ?_
      refine lv_goto (tgt := 15) hx hb dX9_in_11 (by decide) ?_
      have hf : fX9_in_b15 1 = some r0 := hf
      exact kX9_in_15 C0 hA hK 1 (Or.inr rfl) _ _ _ hf hP hD hS (lv_sub hl [] rfl)
abbrev wcX9_isPlayer (cI cJ cZ cG : ClassId) : va_W := []
abbrev rmX9_isPlayer : Room := { frames := 1, cells := 0, slots := 0, locals := 22 }
set_option maxHeartbeats 4000000 in
set_option maxRecDepth 100000 in
theorem oX9_isPlayer (l : Launch) (dC : Nat → ClassId) (dI : Nat → Nat → Nat) (cI cJ cZ cG : ClassId) (sz : Nat) (p1 : Int32) (r0 : Int32) (hf : fX9_isPlayer p1 = some r0) : Met l yX9_isPlayer wsX9_isPlayer rmX9_isPlayer (wPc [.int p1] (dC, dI) (tysW cI cJ cZ cG) sz (wcX9_isPlayer cI cJ cZ cG )) (wQz r0 (wcX9_isPlayer cI cJ cZ cG ) (dC, dI) (va_A (wcX9_isPlayer cI cJ cZ cG ) sz)) 0 0 (va_A (wcX9_isPlayer cI cJ cZ cG ) sz) := by
  refine Met.ofW (cc := cX9_isPlayer) (maxL := 1) (ret := (some .boolean)) (by decide) rfl ?_
  intro p e s m args below meth c s₁ B hml hv
  obtain ⟨rfl, hsz, hP, hK, hD0⟩ := hv
  have hx := B.exec
  have hb := B.bytes
  have hr := B.returns
  have hts := atoms_spec (ws := wsX9_isPlayer) B.pre
  have hown : s.vm.findClass RX9 = some m.cls := findClass_of_methodNamed B.named
  have hlocks := B.notSynchronized
  subst hsz
  have hD := hD0.self (sz := s.heap.size)
  generalize hAe : va_A (wcX9_isPlayer cI cJ cZ cG ) s.heap.size = A at hD ⊢
  have hA : ∀ q : Nat, s.heap.size ≤ q → A q := fun q h => by rw [← hAe]; exact Or.inr h
  have hS : va_S A s.heap s.heap [] := va_S.rf
  have hP : va_P (dC, dI) vwCl (wcX9_isPlayer cI cJ cZ cG ) s.heap := hP
  have hl := lv_entry ([.int p1]) (n := 1) (Nat.le_of_ble_eq_true rfl)
  rw [lg_entry_eq]
  generalize (lg_sl ([.int p1]) ++ List.replicate (1 - (lg_sl ([.int p1])).length) Slot.unset).toArray = ls at hl ⊢
  have hl : lv_has ls 1 [(0, .int p1)] := hl
  generalize hH : s.heap = H at hP hS ⊢
  have hS : va_S A s.heap H [] := by rw [hH]; exact hS
  have C0 : wCX p s #[.int p1] m meth c cX9_isPlayer 1 (some .boolean) RX9 wsX9_isPlayer := ⟨hx, hb, hr, hml, hown, hts, hlocks⟩
  show W p l e rmX9_isPlayer s m #[.int p1] below meth c H [] 0 0 (MQ below (wQz r0 (wcX9_isPlayer cI cJ cZ cG ) (dC, dI) A) #[.int p1] s 0 0 A) (F0 m 0 ls [])
  unfold fX9_isPlayer at hf
  refine lv_iload_n hx hb dX9_isPlayer_0 rfl (lv_at hl 0 rfl) ?_
  refine lv_iconst (v := 0) hx hb dX9_isPlayer_1 (by decide) ?_
  refine lv_iconst (v := 5) hx hb dX9_isPlayer_2 (by decide) ?_
  obtain ⟨r_1, hc_2, hf⟩ := ob_s hf
  refine w_callSz (As := [.int p1, .int 0, .int 5]) (rest := []) ⟨hx, hb, hml, hown, hts⟩ (oX9_in l dC dI cI cJ cZ cG H.size p1 0 5 r_1 hc_2) (va_cwS 3 hts gX9_isPlayer_X9_in rfl rfl rfl (by decide +kernel) ⟨Nat.le_of_ble_eq_true rfl, Nat.le_of_ble_eq_true rfl⟩) hK hP hS hA rfl hl.1 rfl (Nat.le_of_ble_eq_true rfl) dX9_isPlayer_3 ⟨Nat.le_refl _, Nat.le_refl _⟩ (fun hz_3 H locs hP hS => ?_)
  have hf : some r_1 = some r0 := hf
  cases hf
  exact w_zret hx hb hr hlocks rfl hz_3 hP hD hS dX9_isPlayer_6
abbrev wcX9_isKind (cI cJ cZ cG : ClassId) (h h_effect h_number h_banned h_has h_life h_shield h_strength h_haveMet h_deck h_deckSize h_who h_does h_much h_against h_pack h_packSize h_gives h_wants h_tryWho h_tryDoes h_tryMuch h_tryAgainst h_tryLife h_tryShield h_ring h_row : Nat) (v_thrown : Int32) (v_today : Int32) (v_kinds : Int32) (v_stacked : Int32) (v_drafters : Int32) (v_cards : Int32) (v_round : Int32) (v_turn : Int32) (v_high : Int32) (v_ringSize : Int32) (v_many : Int32) : va_W := [(h, .inr (9, [.int v_thrown, .int v_today, .int v_kinds, .ref h_effect, .ref h_number, .ref h_banned, .ref h_has, .ref h_life, .ref h_shield, .ref h_strength, .ref h_haveMet, .ref h_deck, .ref h_deckSize, .int v_stacked, .ref h_who, .ref h_does, .ref h_much, .ref h_against, .int v_drafters, .int v_cards, .int v_round, .int v_turn, .ref h_pack, .ref h_packSize, .ref h_gives, .ref h_wants, .int v_high, .ref h_tryWho, .ref h_tryDoes, .ref h_tryMuch, .ref h_tryAgainst, .ref h_tryLife, .ref h_tryShield, .int v_ringSize, .ref h_ring, .int v_many, .ref h_row]))]
theorem iX9_isKind_X9 : ∀ w ∈ wsX90, w ∈ wsX9_isKind := by decide +kernel
theorem mX9_isKind_0 : (Cond.fieldLink RX9 101 "SleevehallModel" "kinds" "I") ∈ wsX9_isKind := by decide +kernel
abbrev rmX9_isKind : Room := { frames := 1, cells := 0, slots := 0, locals := 22 }
set_option maxHeartbeats 4000000 in
set_option maxRecDepth 100000 in
theorem oX9_isKind (l : Launch) (dC : Nat → ClassId) (dI : Nat → Nat → Nat) (cI cJ cZ cG : ClassId) (h h_effect h_number h_banned h_has h_life h_shield h_strength h_haveMet h_deck h_deckSize h_who h_does h_much h_against h_pack h_packSize h_gives h_wants h_tryWho h_tryDoes h_tryMuch h_tryAgainst h_tryLife h_tryShield h_ring h_row : Nat) (v_thrown : Int32) (v_today : Int32) (v_kinds : Int32) (v_stacked : Int32) (v_drafters : Int32) (v_cards : Int32) (v_round : Int32) (v_turn : Int32) (v_high : Int32) (v_ringSize : Int32) (v_many : Int32) (sz : Nat) (p1 : Int32) (r0 : Int32) (hf : fX9_isKind v_kinds p1 = some r0) : Met l yX9_isKind wsX9_isKind rmX9_isKind (wPc [.ref h, .int p1] (dC, dI) (tysW cI cJ cZ cG) sz (wcX9_isKind cI cJ cZ cG h h_effect h_number h_banned h_has h_life h_shield h_strength h_haveMet h_deck h_deckSize h_who h_does h_much h_against h_pack h_packSize h_gives h_wants h_tryWho h_tryDoes h_tryMuch h_tryAgainst h_tryLife h_tryShield h_ring h_row v_thrown v_today v_kinds v_stacked v_drafters v_cards v_round v_turn v_high v_ringSize v_many)) (wQz r0 (wcX9_isKind cI cJ cZ cG h h_effect h_number h_banned h_has h_life h_shield h_strength h_haveMet h_deck h_deckSize h_who h_does h_much h_against h_pack h_packSize h_gives h_wants h_tryWho h_tryDoes h_tryMuch h_tryAgainst h_tryLife h_tryShield h_ring h_row v_thrown v_today v_kinds v_stacked v_drafters v_cards v_round v_turn v_high v_ringSize v_many) (dC, dI) (va_A (wcX9_isKind cI cJ cZ cG h h_effect h_number h_banned h_has h_life h_shield h_strength h_haveMet h_deck h_deckSize h_who h_does h_much h_against h_pack h_packSize h_gives h_wants h_tryWho h_tryDoes h_tryMuch h_tryAgainst h_tryLife h_tryShield h_ring h_row v_thrown v_today v_kinds v_stacked v_drafters v_cards v_round v_turn v_high v_ringSize v_many) sz)) 0 0 (va_A (wcX9_isKind cI cJ cZ cG h h_effect h_number h_banned h_has h_life h_shield h_strength h_haveMet h_deck h_deckSize h_who h_does h_much h_against h_pack h_packSize h_gives h_wants h_tryWho h_tryDoes h_tryMuch h_tryAgainst h_tryLife h_tryShield h_ring h_row v_thrown v_today v_kinds v_stacked v_drafters v_cards v_round v_turn v_high v_ringSize v_many) sz) := by
  refine Met.ofW (cc := cX9_isKind) (maxL := 2) (ret := (some .boolean)) (by decide) rfl ?_
  intro p e s m args below meth c s₁ B hml hv
  obtain ⟨rfl, hsz, hP, hK, hD0⟩ := hv
  have hx := B.exec
  have hb := B.bytes
  have hr := B.returns
  have hts := atoms_spec (ws := wsX9_isKind) B.pre
  have hown : s.vm.findClass RX9 = some m.cls := findClass_of_methodNamed B.named
  have hlocks := B.notSynchronized
  subst hsz
  have hD := hD0.self (sz := s.heap.size)
  generalize hAe : va_A (wcX9_isKind cI cJ cZ cG h h_effect h_number h_banned h_has h_life h_shield h_strength h_haveMet h_deck h_deckSize h_who h_does h_much h_against h_pack h_packSize h_gives h_wants h_tryWho h_tryDoes h_tryMuch h_tryAgainst h_tryLife h_tryShield h_ring h_row v_thrown v_today v_kinds v_stacked v_drafters v_cards v_round v_turn v_high v_ringSize v_many) s.heap.size = A at hD ⊢
  have hA : ∀ q : Nat, s.heap.size ≤ q → A q := fun q h => by rw [← hAe]; exact Or.inr h
  have hS : va_S A s.heap s.heap [] := va_S.rf
  have hP : va_P (dC, dI) vwCl (wcX9_isKind cI cJ cZ cG h h_effect h_number h_banned h_has h_life h_shield h_strength h_haveMet h_deck h_deckSize h_who h_does h_much h_against h_pack h_packSize h_gives h_wants h_tryWho h_tryDoes h_tryMuch h_tryAgainst h_tryLife h_tryShield h_ring h_row v_thrown v_today v_kinds v_stacked v_drafters v_cards v_round v_turn v_high v_ringSize v_many) s.heap := hP
  have hl := lv_entry ([.ref h, .int p1]) (n := 2) (Nat.le_of_ble_eq_true rfl)
  rw [lg_entry_eq]
  generalize (lg_sl ([.ref h, .int p1]) ++ List.replicate (2 - (lg_sl ([.ref h, .int p1])).length) Slot.unset).toArray = ls at hl ⊢
  have hl : lv_has ls 2 [(0, .ref h), (1, .int p1)] := hl
  generalize hH : s.heap = H at hP hS ⊢
  have hS : va_S A s.heap H [] := by rw [hH]; exact hS
  have C0 : wCX p s #[.ref h, .int p1] m meth c cX9_isKind 2 (some .boolean) RX9 wsX9_isKind := ⟨hx, hb, hr, hml, hown, hts, hlocks⟩
  show W p l e rmX9_isKind s m #[.ref h, .int p1] below meth c H [] 0 0 (MQ below (wQz r0 (wcX9_isKind cI cJ cZ cG h h_effect h_number h_banned h_has h_life h_shield h_strength h_haveMet h_deck h_deckSize h_who h_does h_much h_against h_pack h_packSize h_gives h_wants h_tryWho h_tryDoes h_tryMuch h_tryAgainst h_tryLife h_tryShield h_ring h_row v_thrown v_today v_kinds v_stacked v_drafters v_cards v_round v_turn v_high v_ringSize v_many) (dC, dI) A) #[.ref h, .int p1] s 0 0 A) (F0 m 0 ls [])
  unfold fX9_isKind at hf
  refine lv_iload_n hx hb dX9_isKind_0 rfl (lv_at hl 1 rfl) ?_
  refine lv_iconst (v := 0) hx hb dX9_isKind_1 (by decide) ?_
  refine lv_aload_n hx hb dX9_isKind_2 rfl (lv_at hl 0 rfl) ?_
  refine va_get (D := (dC, dI)) (ci := 9) (v := .int v_kinds) (C := RX9) (T := TX9) (N := 37) hx hb hts iX9_isKind_X9 hown hK hP 0 rfl rfl 2 (by decide) (hts _ mX9_isKind_0) (fun _ h9 => h9) rfl dX9_isKind_3 ?_
  refine lv_iconst (v := 1) hx hb dX9_isKind_6 (by decide) ?_
  refine lv_isub hx hb dX9_isKind_7 ?_
  obtain ⟨r_1, hc_2, hf⟩ := ob_s hf
  refine w_callSz (As := [.int p1, .int 0, .int (v_kinds - 1)]) (rest := []) ⟨hx, hb, hml, hown, hts⟩ (oX9_in l dC dI cI cJ cZ cG H.size p1 0 (v_kinds - 1) r_1 hc_2) (va_cwS 3 hts gX9_isKind_X9_in rfl rfl rfl (by decide +kernel) ⟨Nat.le_of_ble_eq_true rfl, Nat.le_of_ble_eq_true rfl⟩) hK hP hS hA rfl hl.1 rfl (Nat.le_of_ble_eq_true rfl) dX9_isKind_8 ⟨Nat.le_refl _, Nat.le_refl _⟩ (fun hz_3 H locs hP hS => ?_)
  have hf : some r_1 = some r0 := hf
  cases hf
  exact w_zret hx hb hr hlocks rfl hz_3 hP hD hS dX9_isKind_11
abbrev wcX9_kind (cI cJ cZ cG : ClassId) (h h_effect h_number h_banned h_has h_life h_shield h_strength h_haveMet h_deck h_deckSize h_who h_does h_much h_against h_pack h_packSize h_gives h_wants h_tryWho h_tryDoes h_tryMuch h_tryAgainst h_tryLife h_tryShield h_ring h_row : Nat) (v_thrown : Int32) (v_today : Int32) (v_kinds : Int32) (v_stacked : Int32) (v_drafters : Int32) (v_cards : Int32) (v_round : Int32) (v_turn : Int32) (v_high : Int32) (v_ringSize : Int32) (v_many : Int32) (v_effect : Nat → Int32) (v_number : Nat → Int32) (v_banned : Nat → Int32) : va_W := [(h, .inr (9, [.int v_thrown, .int v_today, .int v_kinds, .ref h_effect, .ref h_number, .ref h_banned, .ref h_has, .ref h_life, .ref h_shield, .ref h_strength, .ref h_haveMet, .ref h_deck, .ref h_deckSize, .int v_stacked, .ref h_who, .ref h_does, .ref h_much, .ref h_against, .int v_drafters, .int v_cards, .int v_round, .int v_turn, .ref h_pack, .ref h_packSize, .ref h_gives, .ref h_wants, .int v_high, .ref h_tryWho, .ref h_tryDoes, .ref h_tryMuch, .ref h_tryAgainst, .ref h_tryLife, .ref h_tryShield, .int v_ringSize, .ref h_ring, .int v_many, .ref h_row])), (h_effect, .inl (cI, 20, .inl v_effect)), (h_number, .inl (cI, 20, .inl v_number)), (h_banned, .inl (cI, 20, .inl v_banned))]
theorem iX9_kind_X9 : ∀ w ∈ wsX90, w ∈ wsX9_kind := by decide +kernel
theorem mX9_kind_0 : (Cond.fieldLink RX9 101 "SleevehallModel" "kinds" "I") ∈ wsX9_kind := by decide +kernel
theorem mX9_kind_1 : (Cond.fieldLink RX9 7 "SleevehallModel" "effect" "[I") ∈ wsX9_kind := by decide +kernel
theorem mX9_kind_2 : (Cond.fieldLink RX9 13 "SleevehallModel" "number" "[I") ∈ wsX9_kind := by decide +kernel
theorem mX9_kind_3 : (Cond.fieldLink RX9 16 "SleevehallModel" "banned" "[I") ∈ wsX9_kind := by decide +kernel
abbrev rmX9_kind : Room := { frames := 1, cells := 0, slots := 0, locals := 22 }
set_option maxHeartbeats 4000000 in
set_option maxRecDepth 100000 in
theorem kX9_kind_48 {p : Program} {l : Launch} {e : Env} {s : State} {m : MethodId} {args : Array Value} {below : List Frame} {meth : Method} {c : Code} {dC : Nat → ClassId} {dI : Nat → Nat → Nat} {A : Nat → Prop} {cI cJ cZ cG : ClassId} {h h_effect h_number h_banned h_has h_life h_shield h_strength h_haveMet h_deck h_deckSize h_who h_does h_much h_against h_pack h_packSize h_gives h_wants h_tryWho h_tryDoes h_tryMuch h_tryAgainst h_tryLife h_tryShield h_ring h_row : Nat} {v_today : Int32} {v_stacked : Int32} {v_drafters : Int32} {v_cards : Int32} {v_round : Int32} {v_turn : Int32} {v_high : Int32} {v_ringSize : Int32} {v_many : Int32} {r0 : Int32} {n_thrown : Int32} {n_kinds : Int32} {n_effect : Nat → Int32} {n_number : Nat → Int32} {n_banned : Nat → Int32} (C0 : wCX p s args m meth c cX9_kind 4 (some .int) RX9 wsX9_kind) (hA : ∀ q, s.heap.size ≤ q → A q) (hK : va_K (dC, dI) vwCl (tysW cI cJ cZ cG) s) : ∀ (v_thrown : Int32) (v_kinds : Int32) (v_effect : Nat → Int32) (v_number : Nat → Int32) (v_banned : Nat → Int32) (l1 : Int32) (l2 : Int32) (s1 : Int32) (H : Heap) (locs : List Loc) (ls : Array Slot), fX9_kind_b48 v_thrown v_kinds v_effect v_number v_banned l1 l2 s1 = some (r0, n_thrown, n_kinds, n_effect, n_number, n_banned) → va_P (dC, dI) vwCl (wcX9_kind cI cJ cZ cG h h_effect h_number h_banned h_has h_life h_shield h_strength h_haveMet h_deck h_deckSize h_who h_does h_much h_against h_pack h_packSize h_gives h_wants h_tryWho h_tryDoes h_tryMuch h_tryAgainst h_tryLife h_tryShield h_ring h_row v_thrown v_today v_kinds v_stacked v_drafters v_cards v_round v_turn v_high v_ringSize v_many v_effect v_number v_banned) H → va_D A (wcX9_kind cI cJ cZ cG h h_effect h_number h_banned h_has h_life h_shield h_strength h_haveMet h_deck h_deckSize h_who h_does h_much h_against h_pack h_packSize h_gives h_wants h_tryWho h_tryDoes h_tryMuch h_tryAgainst h_tryLife h_tryShield h_ring h_row v_thrown v_today v_kinds v_stacked v_drafters v_cards v_round v_turn v_high v_ringSize v_many v_effect v_number v_banned) → va_S A s.heap H locs → lv_has ls 4 [(0, .ref h), (1, .int l1), (2, .int l2)] → W p l e rmX9_kind s m args below meth c H locs 0 0 (MQ below (wQi r0 (wcX9_kind cI cJ cZ cG h h_effect h_number h_banned h_has h_life h_shield h_strength h_haveMet h_deck h_deckSize h_who h_does h_much h_against h_pack h_packSize h_gives h_wants h_tryWho h_tryDoes h_tryMuch h_tryAgainst h_tryLife h_tryShield h_ring h_row n_thrown v_today n_kinds v_stacked v_drafters v_cards v_round v_turn v_high v_ringSize v_many n_effect n_number n_banned) (dC, dI) A) args s 0 0 A) (F0 m 48 ls [.int s1, .ref h]) := by
  obtain ⟨hx, hb, hr, hml, hown, hts, hlocks⟩ := id C0
  intro v_thrown v_kinds v_effect v_number v_banned l1 l2 s1 H locs ls hf hP hD hS hl
  unfold fX9_kind_b48 at hf
  obtain ⟨⟨r_1, w_2⟩, hc_3, hf⟩ := ob_s hf
  refine w_callVz (As := [.int s1]) (rest := []) (wr := List.filterMap (fun i : Nat => (wcX9_kind cI cJ cZ cG h h_effect h_number h_banned h_has h_life h_shield h_strength h_haveMet h_deck h_deckSize h_who h_does h_much h_against h_pack h_packSize h_gives h_wants h_tryWho h_tryDoes h_tryMuch h_tryAgainst h_tryLife h_tryShield h_ring h_row v_thrown v_today v_kinds v_stacked v_drafters v_cards v_round v_turn v_high v_ringSize v_many v_effect v_number v_banned)[i]?) [1, 2, 3]) (ws1 := (wcX9_kind cI cJ cZ cG h h_effect h_number h_banned h_has h_life h_shield h_strength h_haveMet h_deck h_deckSize h_who h_does h_much h_against h_pack h_packSize h_gives h_wants h_tryWho h_tryDoes h_tryMuch h_tryAgainst h_tryLife h_tryShield h_ring h_row w_2 v_today v_kinds v_stacked v_drafters v_cards v_round v_turn v_high v_ringSize v_many v_effect v_number v_banned)) ⟨hx, hb, hml, hown, hts⟩ (oX9_goesWell l dC dI cI cJ cZ cG h h_effect h_number h_banned h_has h_life h_shield h_strength h_haveMet h_deck h_deckSize h_who h_does h_much h_against h_pack h_packSize h_gives h_wants h_tryWho h_tryDoes h_tryMuch h_tryAgainst h_tryLife h_tryShield h_ring h_row v_thrown v_today v_kinds v_stacked v_drafters v_cards v_round v_turn v_high v_ringSize v_many H.size s1 r_1 w_2 hc_3) (cwV 1 hts gX9_kind_X9_goesWell rfl rfl rfl (by decide +kernel) ⟨Nat.le_of_ble_eq_true rfl, Nat.le_of_ble_eq_true rfl⟩) hK 0 9 rfl rfl rfl hP hD hS hA [0] [1, 2, 3] [3, 0, 1, 2] rfl rfl rfl rfl (by decide) rfl rfl rfl hl.1 rfl (Nat.le_of_ble_eq_true rfl) dX9_kind_48 ⟨Nat.le_refl _, Nat.le_refl _⟩ (fun hz_4 H locs hP hD hS => ?_)
  refine lv_if_ne (tgt := 56) hx hb dX9_kind_51 (by decide) (fun c_5 => ?_) (fun c_5 => ?_)
  · have hf := it_f hf c_5
    refine lv_aload_n hx hb dX9_kind_56 rfl (lv_at hl 0 rfl) ?_
    refine va_get (D := (dC, dI)) (ci := 9) (v := .ref h_effect) (C := RX9) (T := TX9) (N := 37) hx hb hts iX9_kind_X9 hown hK hP 0 rfl rfl 3 (by decide) (hts _ mX9_kind_1) (fun _ h9 => h9) rfl dX9_kind_57 ?_
    refine lv_aload_n hx hb dX9_kind_60 rfl (lv_at hl 0 rfl) ?_
    refine va_get (D := (dC, dI)) (ci := 9) (v := .int v_kinds) (C := RX9) (T := TX9) (N := 37) hx hb hts iX9_kind_X9 hown hK hP 0 rfl rfl 2 (by decide) (hts _ mX9_kind_0) (fun _ h9 => h9) rfl dX9_kind_61 ?_
    refine lv_iload_n hx hb dX9_kind_64 rfl (lv_at hl 1 rfl) ?_
    obtain ⟨hg_6, hf⟩ := ck_s hf
    refine va_iast (D := (dC, dI)) hx hb hK hP hD hS 1 0 rfl rfl (g_vp hg_6) dX9_kind_65 (fun H locs hP hD hS => ?_)
    have hP : va_P (dC, dI) vwCl (wcX9_kind cI cJ cZ cG h h_effect h_number h_banned h_has h_life h_shield h_strength h_haveMet h_deck h_deckSize h_who h_does h_much h_against h_pack h_packSize h_gives h_wants h_tryWho h_tryDoes h_tryMuch h_tryAgainst h_tryLife h_tryShield h_ring h_row w_2 v_today v_kinds v_stacked v_drafters v_cards v_round v_turn v_high v_ringSize v_many (upd v_effect v_kinds.toNatClampNeg l1) v_number v_banned) H := hP
    have hD : va_D A (wcX9_kind cI cJ cZ cG h h_effect h_number h_banned h_has h_life h_shield h_strength h_haveMet h_deck h_deckSize h_who h_does h_much h_against h_pack h_packSize h_gives h_wants h_tryWho h_tryDoes h_tryMuch h_tryAgainst h_tryLife h_tryShield h_ring h_row w_2 v_today v_kinds v_stacked v_drafters v_cards v_round v_turn v_high v_ringSize v_many (upd v_effect v_kinds.toNatClampNeg l1) v_number v_banned) := hD
    refine lv_aload_n hx hb dX9_kind_66 rfl (lv_at hl 0 rfl) ?_
    refine va_get (D := (dC, dI)) (ci := 9) (v := .ref h_number) (C := RX9) (T := TX9) (N := 37) hx hb hts iX9_kind_X9 hown hK hP 0 rfl rfl 4 (by decide) (hts _ mX9_kind_2) (fun _ h9 => h9) rfl dX9_kind_67 ?_
    refine lv_aload_n hx hb dX9_kind_70 rfl (lv_at hl 0 rfl) ?_
    refine va_get (D := (dC, dI)) (ci := 9) (v := .int v_kinds) (C := RX9) (T := TX9) (N := 37) hx hb hts iX9_kind_X9 hown hK hP 0 rfl rfl 2 (by decide) (hts _ mX9_kind_0) (fun _ h9 => h9) rfl dX9_kind_71 ?_
    refine lv_iload_n hx hb dX9_kind_74 rfl (lv_at hl 2 rfl) ?_
    obtain ⟨hg_7, hf⟩ := ck_s hf
    refine va_iast (D := (dC, dI)) hx hb hK hP hD hS 2 0 rfl rfl (g_vp hg_7) dX9_kind_75 (fun H locs hP hD hS => ?_)
    have hP : va_P (dC, dI) vwCl (wcX9_kind cI cJ cZ cG h h_effect h_number h_banned h_has h_life h_shield h_strength h_haveMet h_deck h_deckSize h_who h_does h_much h_against h_pack h_packSize h_gives h_wants h_tryWho h_tryDoes h_tryMuch h_tryAgainst h_tryLife h_tryShield h_ring h_row w_2 v_today v_kinds v_stacked v_drafters v_cards v_round v_turn v_high v_ringSize v_many (upd v_effect v_kinds.toNatClampNeg l1) (upd v_number v_kinds.toNatClampNeg l2) v_banned) H := hP
    have hD : va_D A (wcX9_kind cI cJ cZ cG h h_effect h_number h_banned h_has h_life h_shield h_strength h_haveMet h_deck h_deckSize h_who h_does h_much h_against h_pack h_packSize h_gives h_wants h_tryWho h_tryDoes h_tryMuch h_tryAgainst h_tryLife h_tryShield h_ring h_row w_2 v_today v_kinds v_stacked v_drafters v_cards v_round v_turn v_high v_ringSize v_many (upd v_effect v_kinds.toNatClampNeg l1) (upd v_number v_kinds.toNatClampNeg l2) v_banned) := hD
    refine lv_aload_n hx hb dX9_kind_76 rfl (lv_at hl 0 rfl) ?_
    refine va_get (D := (dC, dI)) (ci := 9) (v := .ref h_banned) (C := RX9) (T := TX9) (N := 37) hx hb hts iX9_kind_X9 hown hK hP 0 rfl rfl 5 (by decide) (hts _ mX9_kind_3) (fun _ h9 => h9) rfl dX9_kind_77 ?_
    refine lv_aload_n hx hb dX9_kind_80 rfl (lv_at hl 0 rfl) ?_
    refine va_get (D := (dC, dI)) (ci := 9) (v := .int v_kinds) (C := RX9) (T := TX9) (N := 37) hx hb hts iX9_kind_X9 hown hK hP 0 rfl rfl 2 (by decide) (hts _ mX9_kind_0) (fun _ h9 => h9) rfl dX9_kind_81 ?_
    refine lv_iconst (v := (-1)) hx hb dX9_kind_84 (by decide) ?_
    obtain ⟨hg_8, hf⟩ := ck_s hf
    refine va_iast (D := (dC, dI)) hx hb hK hP hD hS 3 0 rfl rfl (g_vp hg_8) dX9_kind_85 (fun H locs hP hD hS => ?_)
    have hP : va_P (dC, dI) vwCl (wcX9_kind cI cJ cZ cG h h_effect h_number h_banned h_has h_life h_shield h_strength h_haveMet h_deck h_deckSize h_who h_does h_much h_against h_pack h_packSize h_gives h_wants h_tryWho h_tryDoes h_tryMuch h_tryAgainst h_tryLife h_tryShield h_ring h_row w_2 v_today v_kinds v_stacked v_drafters v_cards v_round v_turn v_high v_ringSize v_many (upd v_effect v_kinds.toNatClampNeg l1) (upd v_number v_kinds.toNatClampNeg l2) (upd v_banned v_kinds.toNatClampNeg (-1))) H := hP
    have hD : va_D A (wcX9_kind cI cJ cZ cG h h_effect h_number h_banned h_has h_life h_shield h_strength h_haveMet h_deck h_deckSize h_who h_does h_much h_against h_pack h_packSize h_gives h_wants h_tryWho h_tryDoes h_tryMuch h_tryAgainst h_tryLife h_tryShield h_ring h_row w_2 v_today v_kinds v_stacked v_drafters v_cards v_round v_turn v_high v_ringSize v_many (upd v_effect v_kinds.toNatClampNeg l1) (upd v_number v_kinds.toNatClampNeg l2) (upd v_banned v_kinds.toNatClampNeg (-1))) := hD
    refine lv_aload_n hx hb dX9_kind_86 rfl (lv_at hl 0 rfl) ?_
    refine lv_dup hx hb dX9_kind_87 rfl ?_
    refine va_get (D := (dC, dI)) (ci := 9) (v := .int v_kinds) (C := RX9) (T := TX9) (N := 37) hx hb hts iX9_kind_X9 hown hK hP 0 rfl rfl 2 (by decide) (hts _ mX9_kind_0) (fun _ h9 => h9) rfl dX9_kind_88 ?_
    refine lv_iconst (v := 1) hx hb dX9_kind_91 (by decide) ?_
    refine lv_iadd hx hb dX9_kind_92 ?_
    obtain ⟨x_9, ex_9, hf⟩ := nm_s hf
    refine w_eqi ex_9 ?_
    refine va_put (D := (dC, dI)) (ci := 9) (v := .int x_9) (ty := .int) (C := RX9) (T := TX9) (N := 37) hx hb hts iX9_kind_X9 tyX9 tyX9_ok nmX9 hown hK hP hD hS 0 rfl rfl 2 (by decide) (hts _ mX9_kind_0) (fun _ h9 => h9) rfl (by decide +kernel) rfl rfl (Nat.le_of_ble_eq_true rfl) dX9_kind_93 (fun H locs hP hD hS => ?_)
    have hP : va_P (dC, dI) vwCl (wcX9_kind cI cJ cZ cG h h_effect h_number h_banned h_has h_life h_shield h_strength h_haveMet h_deck h_deckSize h_who h_does h_much h_against h_pack h_packSize h_gives h_wants h_tryWho h_tryDoes h_tryMuch h_tryAgainst h_tryLife h_tryShield h_ring h_row w_2 v_today x_9 v_stacked v_drafters v_cards v_round v_turn v_high v_ringSize v_many (upd v_effect v_kinds.toNatClampNeg l1) (upd v_number v_kinds.toNatClampNeg l2) (upd v_banned v_kinds.toNatClampNeg (-1))) H := hP
    have hD : va_D A (wcX9_kind cI cJ cZ cG h h_effect h_number h_banned h_has h_life h_shield h_strength h_haveMet h_deck h_deckSize h_who h_does h_much h_against h_pack h_packSize h_gives h_wants h_tryWho h_tryDoes h_tryMuch h_tryAgainst h_tryLife h_tryShield h_ring h_row w_2 v_today x_9 v_stacked v_drafters v_cards v_round v_turn v_high v_ringSize v_many (upd v_effect v_kinds.toNatClampNeg l1) (upd v_number v_kinds.toNatClampNeg l2) (upd v_banned v_kinds.toNatClampNeg (-1))) := hD
    refine lv_aload_n hx hb dX9_kind_96 rfl (lv_at hl 0 rfl) ?_
    refine va_get (D := (dC, dI)) (ci := 9) (v := .int x_9) (C := RX9) (T := TX9) (N := 37) hx hb hts iX9_kind_X9 hown hK hP 0 rfl rfl 2 (by decide) (hts _ mX9_kind_0) (fun _ h9 => h9) rfl dX9_kind_97 ?_
    refine lv_iconst (v := 1) hx hb dX9_kind_100 (by decide) ?_
    refine lv_isub hx hb dX9_kind_101 ?_
    have hf : some ((x_9 - 1), w_2, x_9, (upd v_effect v_kinds.toNatClampNeg l1), (upd v_number v_kinds.toNatClampNeg l2), (upd v_banned v_kinds.toNatClampNeg (-1))) = some (r0, n_thrown, n_kinds, n_effect, n_number, n_banned) := hf
    cases hf
    exact w_iret hx hb hr hlocks rfl hP hD hS dX9_kind_102
  · have hf := it_t hf c_5
    refine lv_iconst (v := 0) hx hb dX9_kind_54 (by decide) ?_
    have hf : some (0, w_2, v_kinds, v_effect, v_number, v_banned) = some (r0, n_thrown, n_kinds, n_effect, n_number, n_banned) := hf
    cases hf
    exact w_iret hx hb hr hlocks rfl hP hD hS dX9_kind_55
set_option maxHeartbeats 4000000 in
set_option maxRecDepth 100000 in
theorem kX9_kind_24 {p : Program} {l : Launch} {e : Env} {s : State} {m : MethodId} {args : Array Value} {below : List Frame} {meth : Method} {c : Code} {dC : Nat → ClassId} {dI : Nat → Nat → Nat} {A : Nat → Prop} {cI cJ cZ cG : ClassId} {h h_effect h_number h_banned h_has h_life h_shield h_strength h_haveMet h_deck h_deckSize h_who h_does h_much h_against h_pack h_packSize h_gives h_wants h_tryWho h_tryDoes h_tryMuch h_tryAgainst h_tryLife h_tryShield h_ring h_row : Nat} {v_today : Int32} {v_stacked : Int32} {v_drafters : Int32} {v_cards : Int32} {v_round : Int32} {v_turn : Int32} {v_high : Int32} {v_ringSize : Int32} {v_many : Int32} {r0 : Int32} {n_thrown : Int32} {n_kinds : Int32} {n_effect : Nat → Int32} {n_number : Nat → Int32} {n_banned : Nat → Int32} (C0 : wCX p s args m meth c cX9_kind 4 (some .int) RX9 wsX9_kind) (hA : ∀ q, s.heap.size ≤ q → A q) (hK : va_K (dC, dI) vwCl (tysW cI cJ cZ cG) s) : ∀ (v_thrown : Int32) (v_kinds : Int32) (v_effect : Nat → Int32) (v_number : Nat → Int32) (v_banned : Nat → Int32) (l1 : Int32) (l2 : Int32) (s0 : Int32) (hz_s0 : wB s0) (H : Heap) (locs : List Loc) (ls : Array Slot), fX9_kind_b24 v_thrown v_kinds v_effect v_number v_banned l1 l2 s0 = some (r0, n_thrown, n_kinds, n_effect, n_number, n_banned) → va_P (dC, dI) vwCl (wcX9_kind cI cJ cZ cG h h_effect h_number h_banned h_has h_life h_shield h_strength h_haveMet h_deck h_deckSize h_who h_does h_much h_against h_pack h_packSize h_gives h_wants h_tryWho h_tryDoes h_tryMuch h_tryAgainst h_tryLife h_tryShield h_ring h_row v_thrown v_today v_kinds v_stacked v_drafters v_cards v_round v_turn v_high v_ringSize v_many v_effect v_number v_banned) H → va_D A (wcX9_kind cI cJ cZ cG h h_effect h_number h_banned h_has h_life h_shield h_strength h_haveMet h_deck h_deckSize h_who h_does h_much h_against h_pack h_packSize h_gives h_wants h_tryWho h_tryDoes h_tryMuch h_tryAgainst h_tryLife h_tryShield h_ring h_row v_thrown v_today v_kinds v_stacked v_drafters v_cards v_round v_turn v_high v_ringSize v_many v_effect v_number v_banned) → va_S A s.heap H locs → lv_has ls 4 [(0, .ref h), (1, .int l1), (2, .int l2)] → W p l e rmX9_kind s m args below meth c H locs 0 0 (MQ below (wQi r0 (wcX9_kind cI cJ cZ cG h h_effect h_number h_banned h_has h_life h_shield h_strength h_haveMet h_deck h_deckSize h_who h_does h_much h_against h_pack h_packSize h_gives h_wants h_tryWho h_tryDoes h_tryMuch h_tryAgainst h_tryLife h_tryShield h_ring h_row n_thrown v_today n_kinds v_stacked v_drafters v_cards v_round v_turn v_high v_ringSize v_many n_effect n_number n_banned) (dC, dI) A) args s 0 0 A) (F0 m 24 ls [.int s0]) := by
  obtain ⟨hx, hb, hr, hml, hown, hts, hlocks⟩ := id C0
  intro v_thrown v_kinds v_effect v_number v_banned l1 l2 s0 hz_s0 H locs ls hf hP hD hS hl
  unfold fX9_kind_b24 at hf
  refine lv_istore_n (lv' := [(3, .int s0), (0, .ref h), (1, .int l1), (2, .int l2)]) hx hb dX9_kind_24 rfl hl (by decide) rfl (fun ls hl => ?_)
  refine lv_aload_n hx hb dX9_kind_25 rfl (lv_at hl 1 rfl) ?_
  refine lv_iload_n hx hb dX9_kind_26 rfl (lv_at hl 0 rfl) ?_
  refine lv_if_ne (tgt := 34) hx hb dX9_kind_27 (by decide) (fun c_1 => ?_) (fun c_1 => ?_)
  · have hf := it_f hf c_1
    refine lv_aload_n hx hb dX9_kind_34 rfl (lv_at hl 1 rfl) ?_
    refine va_get (D := (dC, dI)) (ci := 9) (v := .int v_kinds) (C := RX9) (T := TX9) (N := 37) hx hb hts iX9_kind_X9 hown hK hP 0 rfl rfl 2 (by decide) (hts _ mX9_kind_0) (fun _ h9 => h9) rfl dX9_kind_35 ?_
    refine lv_bipush (v := 20) hx hb dX9_kind_38 (by decide) ?_
    refine lv_icmp_ne (tgt := 47) hx hb dX9_kind_40 (by decide) (fun c_2 => ?_) (fun c_2 => ?_)
    · have hf := it_f hf c_2
      refine lv_iconst (v := 0) hx hb dX9_kind_47 (by decide) ?_
      have hf : fX9_kind_b48 v_thrown v_kinds v_effect v_number v_banned l1 l2 0 = some (r0, n_thrown, n_kinds, n_effect, n_number, n_banned) := hf
      exact kX9_kind_48 C0 hA hK v_thrown v_kinds v_effect v_number v_banned l1 l2 0 _ _ _ hf hP hD hS (lv_sub hl [1, 2, 3] rfl)
    · have hf := it_t hf c_2
      refine lv_iconst (v := 2) hx hb dX9_kind_43 (by decide) ?_
      refine lv_goto (tgt := 48) hx hb dX9_kind_44 (by decide) ?_
      have hf : fX9_kind_b48 v_thrown v_kinds v_effect v_number v_banned l1 l2 2 = some (r0, n_thrown, n_kinds, n_effect, n_number, n_banned) := hf
      exact kX9_kind_48 C0 hA hK v_thrown v_kinds v_effect v_number v_banned l1 l2 2 _ _ _ hf hP hD hS (lv_sub hl [1, 2, 3] rfl)
  · have hf := it_t hf c_1
    refine lv_iconst (v := 1) hx hb dX9_kind_30 (by decide) ?_
    refine lv_goto (tgt := 48) hx hb dX9_kind_31 (by decide) ?_
    have hf : fX9_kind_b48 v_thrown v_kinds v_effect v_number v_banned l1 l2 1 = some (r0, n_thrown, n_kinds, n_effect, n_number, n_banned) := hf
    exact kX9_kind_48 C0 hA hK v_thrown v_kinds v_effect v_number v_banned l1 l2 1 _ _ _ hf hP hD hS (lv_sub hl [1, 2, 3] rfl)
set_option maxHeartbeats 4000000 in
set_option maxRecDepth 100000 in
theorem kX9_kind_23 {p : Program} {l : Launch} {e : Env} {s : State} {m : MethodId} {args : Array Value} {below : List Frame} {meth : Method} {c : Code} {dC : Nat → ClassId} {dI : Nat → Nat → Nat} {A : Nat → Prop} {cI cJ cZ cG : ClassId} {h h_effect h_number h_banned h_has h_life h_shield h_strength h_haveMet h_deck h_deckSize h_who h_does h_much h_against h_pack h_packSize h_gives h_wants h_tryWho h_tryDoes h_tryMuch h_tryAgainst h_tryLife h_tryShield h_ring h_row : Nat} {v_today : Int32} {v_stacked : Int32} {v_drafters : Int32} {v_cards : Int32} {v_round : Int32} {v_turn : Int32} {v_high : Int32} {v_ringSize : Int32} {v_many : Int32} {r0 : Int32} {n_thrown : Int32} {n_kinds : Int32} {n_effect : Nat → Int32} {n_number : Nat → Int32} {n_banned : Nat → Int32} (C0 : wCX p s args m meth c cX9_kind 4 (some .int) RX9 wsX9_kind) (hA : ∀ q, s.heap.size ≤ q → A q) (hK : va_K (dC, dI) vwCl (tysW cI cJ cZ cG) s) : ∀ (v_thrown : Int32) (v_kinds : Int32) (v_effect : Nat → Int32) (v_number : Nat → Int32) (v_banned : Nat → Int32) (l1 : Int32) (l2 : Int32) (H : Heap) (locs : List Loc) (ls : Array Slot), fX9_kind_b23 v_thrown v_kinds v_effect v_number v_banned l1 l2 = some (r0, n_thrown, n_kinds, n_effect, n_number, n_banned) → va_P (dC, dI) vwCl (wcX9_kind cI cJ cZ cG h h_effect h_number h_banned h_has h_life h_shield h_strength h_haveMet h_deck h_deckSize h_who h_does h_much h_against h_pack h_packSize h_gives h_wants h_tryWho h_tryDoes h_tryMuch h_tryAgainst h_tryLife h_tryShield h_ring h_row v_thrown v_today v_kinds v_stacked v_drafters v_cards v_round v_turn v_high v_ringSize v_many v_effect v_number v_banned) H → va_D A (wcX9_kind cI cJ cZ cG h h_effect h_number h_banned h_has h_life h_shield h_strength h_haveMet h_deck h_deckSize h_who h_does h_much h_against h_pack h_packSize h_gives h_wants h_tryWho h_tryDoes h_tryMuch h_tryAgainst h_tryLife h_tryShield h_ring h_row v_thrown v_today v_kinds v_stacked v_drafters v_cards v_round v_turn v_high v_ringSize v_many v_effect v_number v_banned) → va_S A s.heap H locs → lv_has ls 4 [(0, .ref h), (1, .int l1), (2, .int l2)] → W p l e rmX9_kind s m args below meth c H locs 0 0 (MQ below (wQi r0 (wcX9_kind cI cJ cZ cG h h_effect h_number h_banned h_has h_life h_shield h_strength h_haveMet h_deck h_deckSize h_who h_does h_much h_against h_pack h_packSize h_gives h_wants h_tryWho h_tryDoes h_tryMuch h_tryAgainst h_tryLife h_tryShield h_ring h_row n_thrown v_today n_kinds v_stacked v_drafters v_cards v_round v_turn v_high v_ringSize v_many n_effect n_number n_banned) (dC, dI) A) args s 0 0 A) (F0 m 23 ls []) := by
  obtain ⟨hx, hb, hr, hml, hown, hts, hlocks⟩ := id C0
  intro v_thrown v_kinds v_effect v_number v_banned l1 l2 H locs ls hf hP hD hS hl
  unfold fX9_kind_b23 at hf
  refine lv_iconst (v := 0) hx hb dX9_kind_23 (by decide) ?_
  have hf : fX9_kind_b24 v_thrown v_kinds v_effect v_number v_banned l1 l2 0 = some (r0, n_thrown, n_kinds, n_effect, n_number, n_banned) := hf
  exact kX9_kind_24 C0 hA hK v_thrown v_kinds v_effect v_number v_banned l1 l2 0 (Or.inl rfl) _ _ _ hf hP hD hS (lv_sub hl [0, 1, 2] rfl)
set_option maxHeartbeats 4000000 in
set_option maxRecDepth 100000 in
theorem oX9_kind (l : Launch) (dC : Nat → ClassId) (dI : Nat → Nat → Nat) (cI cJ cZ cG : ClassId) (h h_effect h_number h_banned h_has h_life h_shield h_strength h_haveMet h_deck h_deckSize h_who h_does h_much h_against h_pack h_packSize h_gives h_wants h_tryWho h_tryDoes h_tryMuch h_tryAgainst h_tryLife h_tryShield h_ring h_row : Nat) (v_thrown : Int32) (v_today : Int32) (v_kinds : Int32) (v_stacked : Int32) (v_drafters : Int32) (v_cards : Int32) (v_round : Int32) (v_turn : Int32) (v_high : Int32) (v_ringSize : Int32) (v_many : Int32) (v_effect : Nat → Int32) (v_number : Nat → Int32) (v_banned : Nat → Int32) (sz : Nat) (p1 : Int32) (p2 : Int32) (r0 : Int32) (n_thrown : Int32) (n_kinds : Int32) (n_effect : Nat → Int32) (n_number : Nat → Int32) (n_banned : Nat → Int32) (hf : fX9_kind v_thrown v_kinds v_effect v_number v_banned p1 p2 = some (r0, n_thrown, n_kinds, n_effect, n_number, n_banned)) : Met l yX9_kind wsX9_kind rmX9_kind (wPc [.ref h, .int p1, .int p2] (dC, dI) (tysW cI cJ cZ cG) sz (wcX9_kind cI cJ cZ cG h h_effect h_number h_banned h_has h_life h_shield h_strength h_haveMet h_deck h_deckSize h_who h_does h_much h_against h_pack h_packSize h_gives h_wants h_tryWho h_tryDoes h_tryMuch h_tryAgainst h_tryLife h_tryShield h_ring h_row v_thrown v_today v_kinds v_stacked v_drafters v_cards v_round v_turn v_high v_ringSize v_many v_effect v_number v_banned)) (wQi r0 (wcX9_kind cI cJ cZ cG h h_effect h_number h_banned h_has h_life h_shield h_strength h_haveMet h_deck h_deckSize h_who h_does h_much h_against h_pack h_packSize h_gives h_wants h_tryWho h_tryDoes h_tryMuch h_tryAgainst h_tryLife h_tryShield h_ring h_row n_thrown v_today n_kinds v_stacked v_drafters v_cards v_round v_turn v_high v_ringSize v_many n_effect n_number n_banned) (dC, dI) (va_A (wcX9_kind cI cJ cZ cG h h_effect h_number h_banned h_has h_life h_shield h_strength h_haveMet h_deck h_deckSize h_who h_does h_much h_against h_pack h_packSize h_gives h_wants h_tryWho h_tryDoes h_tryMuch h_tryAgainst h_tryLife h_tryShield h_ring h_row v_thrown v_today v_kinds v_stacked v_drafters v_cards v_round v_turn v_high v_ringSize v_many v_effect v_number v_banned) sz)) 0 0 (va_A (wcX9_kind cI cJ cZ cG h h_effect h_number h_banned h_has h_life h_shield h_strength h_haveMet h_deck h_deckSize h_who h_does h_much h_against h_pack h_packSize h_gives h_wants h_tryWho h_tryDoes h_tryMuch h_tryAgainst h_tryLife h_tryShield h_ring h_row v_thrown v_today v_kinds v_stacked v_drafters v_cards v_round v_turn v_high v_ringSize v_many v_effect v_number v_banned) sz) := by
  refine Met.ofW (cc := cX9_kind) (maxL := 4) (ret := (some .int)) (by decide) rfl ?_
  intro p e s m args below meth c s₁ B hml hv
  obtain ⟨rfl, hsz, hP, hK, hD0⟩ := hv
  have hx := B.exec
  have hb := B.bytes
  have hr := B.returns
  have hts := atoms_spec (ws := wsX9_kind) B.pre
  have hown : s.vm.findClass RX9 = some m.cls := findClass_of_methodNamed B.named
  have hlocks := B.notSynchronized
  subst hsz
  have hD := hD0.self (sz := s.heap.size)
  generalize hAe : va_A (wcX9_kind cI cJ cZ cG h h_effect h_number h_banned h_has h_life h_shield h_strength h_haveMet h_deck h_deckSize h_who h_does h_much h_against h_pack h_packSize h_gives h_wants h_tryWho h_tryDoes h_tryMuch h_tryAgainst h_tryLife h_tryShield h_ring h_row v_thrown v_today v_kinds v_stacked v_drafters v_cards v_round v_turn v_high v_ringSize v_many v_effect v_number v_banned) s.heap.size = A at hD ⊢
  have hA : ∀ q : Nat, s.heap.size ≤ q → A q := fun q h => by rw [← hAe]; exact Or.inr h
  have hS : va_S A s.heap s.heap [] := va_S.rf
  have hP : va_P (dC, dI) vwCl (wcX9_kind cI cJ cZ cG h h_effect h_number h_banned h_has h_life h_shield h_strength h_haveMet h_deck h_deckSize h_who h_does h_much h_against h_pack h_packSize h_gives h_wants h_tryWho h_tryDoes h_tryMuch h_tryAgainst h_tryLife h_tryShield h_ring h_row v_thrown v_today v_kinds v_stacked v_drafters v_cards v_round v_turn v_high v_ringSize v_many v_effect v_number v_banned) s.heap := hP
  have hl := lv_entry ([.ref h, .int p1, .int p2]) (n := 4) (Nat.le_of_ble_eq_true rfl)
  rw [lg_entry_eq]
  generalize (lg_sl ([.ref h, .int p1, .int p2]) ++ List.replicate (4 - (lg_sl ([.ref h, .int p1, .int p2])).length) Slot.unset).toArray = ls at hl ⊢
  have hl : lv_has ls 4 [(0, .ref h), (1, .int p1), (2, .int p2)] := hl
  generalize hH : s.heap = H at hP hS ⊢
  have hS : va_S A s.heap H [] := by rw [hH]; exact hS
  have C0 : wCX p s #[.ref h, .int p1, .int p2] m meth c cX9_kind 4 (some .int) RX9 wsX9_kind := ⟨hx, hb, hr, hml, hown, hts, hlocks⟩
  show W p l e rmX9_kind s m #[.ref h, .int p1, .int p2] below meth c H [] 0 0 (MQ below (wQi r0 (wcX9_kind cI cJ cZ cG h h_effect h_number h_banned h_has h_life h_shield h_strength h_haveMet h_deck h_deckSize h_who h_does h_much h_against h_pack h_packSize h_gives h_wants h_tryWho h_tryDoes h_tryMuch h_tryAgainst h_tryLife h_tryShield h_ring h_row n_thrown v_today n_kinds v_stacked v_drafters v_cards v_round v_turn v_high v_ringSize v_many n_effect n_number n_banned) (dC, dI) A) #[.ref h, .int p1, .int p2] s 0 0 A) (F0 m 0 ls [])
  unfold fX9_kind at hf
  refine lv_iload_n hx hb dX9_kind_0 rfl (lv_at hl 1 rfl) ?_
  refine lv_iconst (v := 0) hx hb dX9_kind_1 (by decide) ?_
  refine lv_iconst (v := 5) hx hb dX9_kind_2 (by decide) ?_
  obtain ⟨r_1, hc_2, hf⟩ := ob_s hf
  refine w_callSz (As := [.int p1, .int 0, .int 5]) (rest := []) ⟨hx, hb, hml, hown, hts⟩ (oX9_in l dC dI cI cJ cZ cG H.size p1 0 5 r_1 hc_2) (va_cwS 3 hts gX9_kind_X9_in rfl rfl rfl (by decide +kernel) ⟨Nat.le_of_ble_eq_true rfl, Nat.le_of_ble_eq_true rfl⟩) hK hP hS hA rfl hl.1 rfl (Nat.le_of_ble_eq_true rfl) dX9_kind_3 ⟨Nat.le_refl _, Nat.le_refl _⟩ (fun hz_3 H locs hP hS => ?_)
  refine lv_if_eq (tgt := 23) hx hb dX9_kind_6 (by decide) (fun c_4 => ?_) (fun c_4 => ?_)
  · have hf := it_t hf c_4
    have hf : fX9_kind_b23 v_thrown v_kinds v_effect v_number v_banned p1 p2 = some (r0, n_thrown, n_kinds, n_effect, n_number, n_banned) := hf
    exact kX9_kind_23 C0 hA hK v_thrown v_kinds v_effect v_number v_banned p1 p2 _ _ _ hf hP hD hS (lv_sub hl [0, 1, 2] rfl)
  · have hf := it_f hf c_4
    refine lv_iload_n hx hb dX9_kind_9 rfl (lv_at hl 2 rfl) ?_
    refine lv_iconst (v := 1) hx hb dX9_kind_10 (by decide) ?_
    refine lv_bipush (v := 9) hx hb dX9_kind_11 (by decide) ?_
    obtain ⟨r_5, hc_6, hf⟩ := ob_s hf
    refine w_callSz (As := [.int p2, .int 1, .int 9]) (rest := []) ⟨hx, hb, hml, hown, hts⟩ (oX9_in l dC dI cI cJ cZ cG H.size p2 1 9 r_5 hc_6) (va_cwS 3 hts gX9_kind_X9_in rfl rfl rfl (by decide +kernel) ⟨Nat.le_of_ble_eq_true rfl, Nat.le_of_ble_eq_true rfl⟩) hK hP hS hA rfl hl.1 rfl (Nat.le_of_ble_eq_true rfl) dX9_kind_13 ⟨Nat.le_refl _, Nat.le_refl _⟩ (fun hz_7 H locs hP hS => ?_)
    refine lv_if_eq (tgt := 23) hx hb dX9_kind_16 (by decide) (fun c_8 => ?_) (fun c_8 => ?_)
    · have hf := it_t hf c_8
      have hf : fX9_kind_b23 v_thrown v_kinds v_effect v_number v_banned p1 p2 = some (r0, n_thrown, n_kinds, n_effect, n_number, n_banned) := hf
      exact kX9_kind_23 C0 hA hK v_thrown v_kinds v_effect v_number v_banned p1 p2 _ _ _ hf hP hD hS (lv_sub hl [0, 1, 2] rfl)
    · have hf := it_f hf c_8
      refine lv_iconst (v := 1) hx hb dX9_kind_19 (by decide) ?_
      refine lv_goto (tgt := 24) hx hb dX9_kind_20 (by decide) ?_
      have hf : fX9_kind_b24 v_thrown v_kinds v_effect v_number v_banned p1 p2 1 = some (r0, n_thrown, n_kinds, n_effect, n_number, n_banned) := hf
      exact kX9_kind_24 C0 hA hK v_thrown v_kinds v_effect v_number v_banned p1 p2 1 (Or.inr rfl) _ _ _ hf hP hD hS (lv_sub hl [0, 1, 2] rfl)
abbrev wcX9_inDeck (cI cJ cZ cG : ClassId) (h h_effect h_number h_banned h_has h_life h_shield h_strength h_haveMet h_deck h_deckSize h_who h_does h_much h_against h_pack h_packSize h_gives h_wants h_tryWho h_tryDoes h_tryMuch h_tryAgainst h_tryLife h_tryShield h_ring h_row : Nat) (v_thrown : Int32) (v_today : Int32) (v_kinds : Int32) (v_stacked : Int32) (v_drafters : Int32) (v_cards : Int32) (v_round : Int32) (v_turn : Int32) (v_high : Int32) (v_ringSize : Int32) (v_many : Int32) (v_deck : Nat → Int32) (v_deckSize : Nat → Int32) : va_W := [(h, .inr (9, [.int v_thrown, .int v_today, .int v_kinds, .ref h_effect, .ref h_number, .ref h_banned, .ref h_has, .ref h_life, .ref h_shield, .ref h_strength, .ref h_haveMet, .ref h_deck, .ref h_deckSize, .int v_stacked, .ref h_who, .ref h_does, .ref h_much, .ref h_against, .int v_drafters, .int v_cards, .int v_round, .int v_turn, .ref h_pack, .ref h_packSize, .ref h_gives, .ref h_wants, .int v_high, .ref h_tryWho, .ref h_tryDoes, .ref h_tryMuch, .ref h_tryAgainst, .ref h_tryLife, .ref h_tryShield, .int v_ringSize, .ref h_ring, .int v_many, .ref h_row])), (h_deck, .inl (cI, 48, .inl v_deck)), (h_deckSize, .inl (cI, 6, .inl v_deckSize))]
theorem iX9_inDeck_X9 : ∀ w ∈ wsX90, w ∈ wsX9_inDeck := by decide +kernel
theorem mX9_inDeck_0 : (Cond.fieldLink RX9 38 "SleevehallModel" "deckSize" "[I") ∈ wsX9_inDeck := by decide +kernel
theorem mX9_inDeck_1 : (Cond.fieldLink RX9 35 "SleevehallModel" "deck" "[I") ∈ wsX9_inDeck := by decide +kernel
abbrev rmX9_inDeck : Room := { frames := 0, cells := 0, slots := 0, locals := 0 }
set_option maxHeartbeats 4000000 in
set_option maxRecDepth 100000 in
theorem kX9_inDeck_38 {p : Program} {l : Launch} {e : Env} {s : State} {m : MethodId} {args : Array Value} {below : List Frame} {meth : Method} {c : Code} {dC : Nat → ClassId} {dI : Nat → Nat → Nat} {A : Nat → Prop} {cI cJ cZ cG : ClassId} {h h_effect h_number h_banned h_has h_life h_shield h_strength h_haveMet h_deck h_deckSize h_who h_does h_much h_against h_pack h_packSize h_gives h_wants h_tryWho h_tryDoes h_tryMuch h_tryAgainst h_tryLife h_tryShield h_ring h_row : Nat} {v_thrown : Int32} {v_today : Int32} {v_kinds : Int32} {v_stacked : Int32} {v_drafters : Int32} {v_cards : Int32} {v_round : Int32} {v_turn : Int32} {v_high : Int32} {v_ringSize : Int32} {v_many : Int32} {v_deck : Nat → Int32} {v_deckSize : Nat → Int32} {r0 : Int32} {k_5 : Int32 → Int32 → Int32 → Int32 → Option (Int32)} (C0 : wCX p s args m meth c cX9_inDeck 5 (some .int) RX9 wsX9_inDeck) (hA : ∀ q, s.heap.size ≤ q → A q) (hK : va_K (dC, dI) vwCl (tysW cI cJ cZ cG) s) (hk_5 : ∀ (l1 : Int32) (l2 : Int32) (l3 : Int32) (l4 : Int32) (H : Heap) (locs : List Loc) (ls : Array Slot), k_5 l1 l2 l3 l4 = some r0 → va_P (dC, dI) vwCl (wcX9_inDeck cI cJ cZ cG h h_effect h_number h_banned h_has h_life h_shield h_strength h_haveMet h_deck h_deckSize h_who h_does h_much h_against h_pack h_packSize h_gives h_wants h_tryWho h_tryDoes h_tryMuch h_tryAgainst h_tryLife h_tryShield h_ring h_row v_thrown v_today v_kinds v_stacked v_drafters v_cards v_round v_turn v_high v_ringSize v_many v_deck v_deckSize) H → va_D A (wcX9_inDeck cI cJ cZ cG h h_effect h_number h_banned h_has h_life h_shield h_strength h_haveMet h_deck h_deckSize h_who h_does h_much h_against h_pack h_packSize h_gives h_wants h_tryWho h_tryDoes h_tryMuch h_tryAgainst h_tryLife h_tryShield h_ring h_row v_thrown v_today v_kinds v_stacked v_drafters v_cards v_round v_turn v_high v_ringSize v_many v_deck v_deckSize) → va_S A s.heap H locs → lv_has ls 5 [(0, .ref h), (1, .int l1), (2, .int l2), (3, .int l3), (4, .int l4)] → W p l e rmX9_inDeck s m args below meth c H locs 0 0 (MQ below (wQi r0 (wcX9_inDeck cI cJ cZ cG h h_effect h_number h_banned h_has h_life h_shield h_strength h_haveMet h_deck h_deckSize h_who h_does h_much h_against h_pack h_packSize h_gives h_wants h_tryWho h_tryDoes h_tryMuch h_tryAgainst h_tryLife h_tryShield h_ring h_row v_thrown v_today v_kinds v_stacked v_drafters v_cards v_round v_turn v_high v_ringSize v_many v_deck v_deckSize) (dC, dI) A) args s 0 0 A) (F0 m 5 ls [])) : ∀ (l1 : Int32) (l2 : Int32) (l4 : Int32) (s0 : Int32) (s1 : Int32) (hz_s1 : wB s1) (H : Heap) (locs : List Loc) (ls : Array Slot), fX9_inDeck_b38 k_5 v_deck v_deckSize l1 l2 l4 s0 s1 = some r0 → va_P (dC, dI) vwCl (wcX9_inDeck cI cJ cZ cG h h_effect h_number h_banned h_has h_life h_shield h_strength h_haveMet h_deck h_deckSize h_who h_does h_much h_against h_pack h_packSize h_gives h_wants h_tryWho h_tryDoes h_tryMuch h_tryAgainst h_tryLife h_tryShield h_ring h_row v_thrown v_today v_kinds v_stacked v_drafters v_cards v_round v_turn v_high v_ringSize v_many v_deck v_deckSize) H → va_D A (wcX9_inDeck cI cJ cZ cG h h_effect h_number h_banned h_has h_life h_shield h_strength h_haveMet h_deck h_deckSize h_who h_does h_much h_against h_pack h_packSize h_gives h_wants h_tryWho h_tryDoes h_tryMuch h_tryAgainst h_tryLife h_tryShield h_ring h_row v_thrown v_today v_kinds v_stacked v_drafters v_cards v_round v_turn v_high v_ringSize v_many v_deck v_deckSize) → va_S A s.heap H locs → lv_has ls 5 [(0, .ref h), (1, .int l1), (2, .int l2), (4, .int l4)] → W p l e rmX9_inDeck s m args below meth c H locs 0 0 (MQ below (wQi r0 (wcX9_inDeck cI cJ cZ cG h h_effect h_number h_banned h_has h_life h_shield h_strength h_haveMet h_deck h_deckSize h_who h_does h_much h_against h_pack h_packSize h_gives h_wants h_tryWho h_tryDoes h_tryMuch h_tryAgainst h_tryLife h_tryShield h_ring h_row v_thrown v_today v_kinds v_stacked v_drafters v_cards v_round v_turn v_high v_ringSize v_many v_deck v_deckSize) (dC, dI) A) args s 0 0 A) (F0 m 38 ls [.int s1, .int s0]) := by
  obtain ⟨hx, hb, hr, hml, hown, hts, hlocks⟩ := id C0
  intro l1 l2 l4 s0 s1 hz_s1 H locs ls hf hP hD hS hl
  unfold fX9_inDeck_b38 at hf
  refine lv_iadd hx hb dX9_inDeck_38 ?_
  obtain ⟨x_1, ex_1, hf⟩ := nm_s hf
  refine w_eqi ex_1 ?_
  refine lv_istore_n (lv' := [(3, .int x_1), (0, .ref h), (1, .int l1), (2, .int l2), (4, .int l4)]) hx hb dX9_inDeck_39 rfl hl (by decide) rfl (fun ls hl => ?_)
  obtain ⟨x_2, ex_2, hf⟩ := nm_s hf
  refine lv_iinc (v := x_2) (lv' := [(4, .int x_2), (3, .int x_1), (0, .ref h), (1, .int l1), (2, .int l2)]) hx hb dX9_inDeck_40 hl (k := 4) rfl (by rw [ex_2]; rfl) (by decide) rfl (fun ls hl => ?_)
  refine lv_goto (tgt := 5) hx hb dX9_inDeck_43 (by decide) ?_
  have hf : k_5 l1 l2 x_1 x_2 = some r0 := hf
  exact hk_5 l1 l2 x_1 x_2 _ _ _ hf hP hD hS (lv_sub hl [2, 3, 4, 1, 0] rfl)
set_option maxHeartbeats 4000000 in
set_option maxRecDepth 100000 in
theorem kX9_inDeck_5 {p : Program} {l : Launch} {e : Env} {s : State} {m : MethodId} {args : Array Value} {below : List Frame} {meth : Method} {c : Code} {dC : Nat → ClassId} {dI : Nat → Nat → Nat} {A : Nat → Prop} {cI cJ cZ cG : ClassId} {h h_effect h_number h_banned h_has h_life h_shield h_strength h_haveMet h_deck h_deckSize h_who h_does h_much h_against h_pack h_packSize h_gives h_wants h_tryWho h_tryDoes h_tryMuch h_tryAgainst h_tryLife h_tryShield h_ring h_row : Nat} {v_thrown : Int32} {v_today : Int32} {v_kinds : Int32} {v_stacked : Int32} {v_drafters : Int32} {v_cards : Int32} {v_round : Int32} {v_turn : Int32} {v_high : Int32} {v_ringSize : Int32} {v_many : Int32} {v_deck : Nat → Int32} {v_deckSize : Nat → Int32} {r0 : Int32} (C0 : wCX p s args m meth c cX9_inDeck 5 (some .int) RX9 wsX9_inDeck) (hA : ∀ q, s.heap.size ≤ q → A q) (hK : va_K (dC, dI) vwCl (tysW cI cJ cZ cG) s) : ∀ (n : Nat), ∀ (l1 : Int32) (l2 : Int32) (l3 : Int32) (l4 : Int32) (H : Heap) (locs : List Loc) (ls : Array Slot), fX9_inDeck_b5 v_deck v_deckSize n l1 l2 l3 l4 = some r0 → va_P (dC, dI) vwCl (wcX9_inDeck cI cJ cZ cG h h_effect h_number h_banned h_has h_life h_shield h_strength h_haveMet h_deck h_deckSize h_who h_does h_much h_against h_pack h_packSize h_gives h_wants h_tryWho h_tryDoes h_tryMuch h_tryAgainst h_tryLife h_tryShield h_ring h_row v_thrown v_today v_kinds v_stacked v_drafters v_cards v_round v_turn v_high v_ringSize v_many v_deck v_deckSize) H → va_D A (wcX9_inDeck cI cJ cZ cG h h_effect h_number h_banned h_has h_life h_shield h_strength h_haveMet h_deck h_deckSize h_who h_does h_much h_against h_pack h_packSize h_gives h_wants h_tryWho h_tryDoes h_tryMuch h_tryAgainst h_tryLife h_tryShield h_ring h_row v_thrown v_today v_kinds v_stacked v_drafters v_cards v_round v_turn v_high v_ringSize v_many v_deck v_deckSize) → va_S A s.heap H locs → lv_has ls 5 [(0, .ref h), (1, .int l1), (2, .int l2), (3, .int l3), (4, .int l4)] → W p l e rmX9_inDeck s m args below meth c H locs 0 0 (MQ below (wQi r0 (wcX9_inDeck cI cJ cZ cG h h_effect h_number h_banned h_has h_life h_shield h_strength h_haveMet h_deck h_deckSize h_who h_does h_much h_against h_pack h_packSize h_gives h_wants h_tryWho h_tryDoes h_tryMuch h_tryAgainst h_tryLife h_tryShield h_ring h_row v_thrown v_today v_kinds v_stacked v_drafters v_cards v_round v_turn v_high v_ringSize v_many v_deck v_deckSize) (dC, dI) A) args s 0 0 A) (F0 m 5 ls []) := by
  obtain ⟨hx, hb, hr, hml, hown, hts, hlocks⟩ := id C0
  intro n
  induction n with
  | zero =>
    intro l1 l2 l3 l4 H locs ls hf hP hD hS hl
    rw [fX9_inDeck_b5] at hf
    cases hf
  | succ n ih =>
    intro l1 l2 l3 l4 H locs ls hf hP hD hS hl
    rw [fX9_inDeck_b5] at hf
    refine lv_iload hx hb dX9_inDeck_5 (lv_at hl 4 rfl) ?_
    refine lv_aload_n hx hb dX9_inDeck_7 rfl (lv_at hl 0 rfl) ?_
    refine va_get (D := (dC, dI)) (ci := 9) (v := .ref h_deckSize) (C := RX9) (T := TX9) (N := 37) hx hb hts iX9_inDeck_X9 hown hK hP 0 rfl rfl 12 (by decide) (hts _ mX9_inDeck_0) (fun _ h9 => h9) rfl dX9_inDeck_8 ?_
    refine lv_iload_n hx hb dX9_inDeck_11 rfl (lv_at hl 1 rfl) ?_
    obtain ⟨hg_1, hf⟩ := ck_s hf
    refine va_iald (D := (dC, dI)) hx hb hK hP 2 0 rfl rfl (g_vp hg_1) dX9_inDeck_12 ?_
    refine lv_icmp_ge (tgt := 46) hx hb dX9_inDeck_13 (by decide) (fun c_2 => ?_) (fun c_2 => ?_)
    · have hf := it_t hf c_2
      refine lv_iload_n hx hb dX9_inDeck_46 rfl (lv_at hl 3 rfl) ?_
      have hf : some l3 = some r0 := hf
      cases hf
      exact w_iret hx hb hr hlocks rfl hP hD hS dX9_inDeck_47
    · have hf := it_f hf c_2
      refine lv_iload_n hx hb dX9_inDeck_16 rfl (lv_at hl 3 rfl) ?_
      refine lv_aload_n hx hb dX9_inDeck_17 rfl (lv_at hl 0 rfl) ?_
      refine va_get (D := (dC, dI)) (ci := 9) (v := .ref h_deck) (C := RX9) (T := TX9) (N := 37) hx hb hts iX9_inDeck_X9 hown hK hP 0 rfl rfl 11 (by decide) (hts _ mX9_inDeck_1) (fun _ h9 => h9) rfl dX9_inDeck_18 ?_
      refine lv_bipush (v := 8) hx hb dX9_inDeck_21 (by decide) ?_
      refine lv_iload_n hx hb dX9_inDeck_23 rfl (lv_at hl 1 rfl) ?_
      refine lv_imul hx hb dX9_inDeck_24 ?_
      refine lv_iload hx hb dX9_inDeck_25 (lv_at hl 4 rfl) ?_
      refine lv_iadd hx hb dX9_inDeck_27 ?_
      obtain ⟨hg_3, hf⟩ := ck_s hf
      refine va_iald (D := (dC, dI)) hx hb hK hP 1 0 rfl rfl (g_vp hg_3) dX9_inDeck_28 ?_
      refine lv_iload_n hx hb dX9_inDeck_29 rfl (lv_at hl 2 rfl) ?_
      refine lv_icmp_ne (tgt := 37) hx hb dX9_inDeck_30 (by decide) (fun c_4 => ?_) (fun c_4 => ?_)
      · have hf := it_f hf c_4
        refine lv_iconst (v := 0) hx hb dX9_inDeck_37 (by decide) ?_
        have hf : fX9_inDeck_b38 (fX9_inDeck_b5 v_deck v_deckSize n) v_deck v_deckSize l1 l2 l4 l3 0 = some r0 := hf
        exact kX9_inDeck_38 C0 hA hK ih l1 l2 l4 l3 0 (Or.inl rfl) _ _ _ hf hP hD hS (lv_sub hl [0, 1, 2, 4] rfl)
      · have hf := it_t hf c_4
        refine lv_iconst (v := 1) hx hb dX9_inDeck_33 (by decide) ?_
        refine lv_goto (tgt := 38) hx hb dX9_inDeck_34 (by decide) ?_
        have hf : fX9_inDeck_b38 (fX9_inDeck_b5 v_deck v_deckSize n) v_deck v_deckSize l1 l2 l4 l3 1 = some r0 := hf
        exact kX9_inDeck_38 C0 hA hK ih l1 l2 l4 l3 1 (Or.inr rfl) _ _ _ hf hP hD hS (lv_sub hl [0, 1, 2, 4] rfl)
set_option maxHeartbeats 4000000 in
set_option maxRecDepth 100000 in
theorem oX9_inDeck (l : Launch) (dC : Nat → ClassId) (dI : Nat → Nat → Nat) (cI cJ cZ cG : ClassId) (h h_effect h_number h_banned h_has h_life h_shield h_strength h_haveMet h_deck h_deckSize h_who h_does h_much h_against h_pack h_packSize h_gives h_wants h_tryWho h_tryDoes h_tryMuch h_tryAgainst h_tryLife h_tryShield h_ring h_row : Nat) (v_thrown : Int32) (v_today : Int32) (v_kinds : Int32) (v_stacked : Int32) (v_drafters : Int32) (v_cards : Int32) (v_round : Int32) (v_turn : Int32) (v_high : Int32) (v_ringSize : Int32) (v_many : Int32) (v_deck : Nat → Int32) (v_deckSize : Nat → Int32) (sz : Nat) (p1 : Int32) (p2 : Int32) (r0 : Int32) (hf : fX9_inDeck v_deck v_deckSize p1 p2 = some r0) : Met l yX9_inDeck wsX9_inDeck rmX9_inDeck (wPc [.ref h, .int p1, .int p2] (dC, dI) (tysW cI cJ cZ cG) sz (wcX9_inDeck cI cJ cZ cG h h_effect h_number h_banned h_has h_life h_shield h_strength h_haveMet h_deck h_deckSize h_who h_does h_much h_against h_pack h_packSize h_gives h_wants h_tryWho h_tryDoes h_tryMuch h_tryAgainst h_tryLife h_tryShield h_ring h_row v_thrown v_today v_kinds v_stacked v_drafters v_cards v_round v_turn v_high v_ringSize v_many v_deck v_deckSize)) (wQi r0 (wcX9_inDeck cI cJ cZ cG h h_effect h_number h_banned h_has h_life h_shield h_strength h_haveMet h_deck h_deckSize h_who h_does h_much h_against h_pack h_packSize h_gives h_wants h_tryWho h_tryDoes h_tryMuch h_tryAgainst h_tryLife h_tryShield h_ring h_row v_thrown v_today v_kinds v_stacked v_drafters v_cards v_round v_turn v_high v_ringSize v_many v_deck v_deckSize) (dC, dI) (va_A (wcX9_inDeck cI cJ cZ cG h h_effect h_number h_banned h_has h_life h_shield h_strength h_haveMet h_deck h_deckSize h_who h_does h_much h_against h_pack h_packSize h_gives h_wants h_tryWho h_tryDoes h_tryMuch h_tryAgainst h_tryLife h_tryShield h_ring h_row v_thrown v_today v_kinds v_stacked v_drafters v_cards v_round v_turn v_high v_ringSize v_many v_deck v_deckSize) sz)) 0 0 (va_A (wcX9_inDeck cI cJ cZ cG h h_effect h_number h_banned h_has h_life h_shield h_strength h_haveMet h_deck h_deckSize h_who h_does h_much h_against h_pack h_packSize h_gives h_wants h_tryWho h_tryDoes h_tryMuch h_tryAgainst h_tryLife h_tryShield h_ring h_row v_thrown v_today v_kinds v_stacked v_drafters v_cards v_round v_turn v_high v_ringSize v_many v_deck v_deckSize) sz) := by
  refine Met.ofW (cc := cX9_inDeck) (maxL := 5) (ret := (some .int)) (by decide) rfl ?_
  intro p e s m args below meth c s₁ B hml hv
  obtain ⟨rfl, hsz, hP, hK, hD0⟩ := hv
  have hx := B.exec
  have hb := B.bytes
  have hr := B.returns
  have hts := atoms_spec (ws := wsX9_inDeck) B.pre
  have hown : s.vm.findClass RX9 = some m.cls := findClass_of_methodNamed B.named
  have hlocks := B.notSynchronized
  subst hsz
  have hD := hD0.self (sz := s.heap.size)
  generalize hAe : va_A (wcX9_inDeck cI cJ cZ cG h h_effect h_number h_banned h_has h_life h_shield h_strength h_haveMet h_deck h_deckSize h_who h_does h_much h_against h_pack h_packSize h_gives h_wants h_tryWho h_tryDoes h_tryMuch h_tryAgainst h_tryLife h_tryShield h_ring h_row v_thrown v_today v_kinds v_stacked v_drafters v_cards v_round v_turn v_high v_ringSize v_many v_deck v_deckSize) s.heap.size = A at hD ⊢
  have hA : ∀ q : Nat, s.heap.size ≤ q → A q := fun q h => by rw [← hAe]; exact Or.inr h
  have hS : va_S A s.heap s.heap [] := va_S.rf
  have hP : va_P (dC, dI) vwCl (wcX9_inDeck cI cJ cZ cG h h_effect h_number h_banned h_has h_life h_shield h_strength h_haveMet h_deck h_deckSize h_who h_does h_much h_against h_pack h_packSize h_gives h_wants h_tryWho h_tryDoes h_tryMuch h_tryAgainst h_tryLife h_tryShield h_ring h_row v_thrown v_today v_kinds v_stacked v_drafters v_cards v_round v_turn v_high v_ringSize v_many v_deck v_deckSize) s.heap := hP
  have hl := lv_entry ([.ref h, .int p1, .int p2]) (n := 5) (Nat.le_of_ble_eq_true rfl)
  rw [lg_entry_eq]
  generalize (lg_sl ([.ref h, .int p1, .int p2]) ++ List.replicate (5 - (lg_sl ([.ref h, .int p1, .int p2])).length) Slot.unset).toArray = ls at hl ⊢
  have hl : lv_has ls 5 [(0, .ref h), (1, .int p1), (2, .int p2)] := hl
  generalize hH : s.heap = H at hP hS ⊢
  have hS : va_S A s.heap H [] := by rw [hH]; exact hS
  have C0 : wCX p s #[.ref h, .int p1, .int p2] m meth c cX9_inDeck 5 (some .int) RX9 wsX9_inDeck := ⟨hx, hb, hr, hml, hown, hts, hlocks⟩
  show W p l e rmX9_inDeck s m #[.ref h, .int p1, .int p2] below meth c H [] 0 0 (MQ below (wQi r0 (wcX9_inDeck cI cJ cZ cG h h_effect h_number h_banned h_has h_life h_shield h_strength h_haveMet h_deck h_deckSize h_who h_does h_much h_against h_pack h_packSize h_gives h_wants h_tryWho h_tryDoes h_tryMuch h_tryAgainst h_tryLife h_tryShield h_ring h_row v_thrown v_today v_kinds v_stacked v_drafters v_cards v_round v_turn v_high v_ringSize v_many v_deck v_deckSize) (dC, dI) A) #[.ref h, .int p1, .int p2] s 0 0 A) (F0 m 0 ls [])
  unfold fX9_inDeck at hf
  refine lv_iconst (v := 0) hx hb dX9_inDeck_0 (by decide) ?_
  refine lv_istore_n (lv' := [(3, .int 0), (0, .ref h), (1, .int p1), (2, .int p2)]) hx hb dX9_inDeck_1 rfl hl (by decide) rfl (fun ls hl => ?_)
  refine lv_iconst (v := 0) hx hb dX9_inDeck_2 (by decide) ?_
  refine lv_istore (lv' := [(4, .int 0), (3, .int 0), (0, .ref h), (1, .int p1), (2, .int p2)]) hx hb dX9_inDeck_3 hl (by decide) rfl (fun ls hl => ?_)
  have hf : fX9_inDeck_b5 v_deck v_deckSize 70 p1 p2 0 0 = some r0 := hf
  exact kX9_inDeck_5 C0 hA hK 70 p1 p2 0 0 _ _ _ hf hP hD hS (lv_sub hl [2, 3, 4, 1, 0] rfl)
abbrev wcX9_ban (cI cJ cZ cG : ClassId) (h h_effect h_number h_banned h_has h_life h_shield h_strength h_haveMet h_deck h_deckSize h_who h_does h_much h_against h_pack h_packSize h_gives h_wants h_tryWho h_tryDoes h_tryMuch h_tryAgainst h_tryLife h_tryShield h_ring h_row : Nat) (v_thrown : Int32) (v_today : Int32) (v_kinds : Int32) (v_stacked : Int32) (v_drafters : Int32) (v_cards : Int32) (v_round : Int32) (v_turn : Int32) (v_high : Int32) (v_ringSize : Int32) (v_many : Int32) (v_banned : Nat → Int32) (v_deck : Nat → Int32) (v_deckSize : Nat → Int32) : va_W := [(h, .inr (9, [.int v_thrown, .int v_today, .int v_kinds, .ref h_effect, .ref h_number, .ref h_banned, .ref h_has, .ref h_life, .ref h_shield, .ref h_strength, .ref h_haveMet, .ref h_deck, .ref h_deckSize, .int v_stacked, .ref h_who, .ref h_does, .ref h_much, .ref h_against, .int v_drafters, .int v_cards, .int v_round, .int v_turn, .ref h_pack, .ref h_packSize, .ref h_gives, .ref h_wants, .int v_high, .ref h_tryWho, .ref h_tryDoes, .ref h_tryMuch, .ref h_tryAgainst, .ref h_tryLife, .ref h_tryShield, .int v_ringSize, .ref h_ring, .int v_many, .ref h_row])), (h_banned, .inl (cI, 20, .inl v_banned)), (h_deck, .inl (cI, 48, .inl v_deck)), (h_deckSize, .inl (cI, 6, .inl v_deckSize))]
theorem iX9_ban_X9 : ∀ w ∈ wsX90, w ∈ wsX9_ban := by decide +kernel
theorem mX9_ban_0 : (Cond.fieldLink RX9 111 "SleevehallModel" "today" "I") ∈ wsX9_ban := by decide +kernel
theorem mX9_ban_1 : (Cond.fieldLink RX9 16 "SleevehallModel" "banned" "[I") ∈ wsX9_ban := by decide +kernel
abbrev rmX9_ban : Room := { frames := 2, cells := 0, slots := 0, locals := 43 }
set_option maxHeartbeats 4000000 in
set_option maxRecDepth 100000 in
theorem kX9_ban_79 {p : Program} {l : Launch} {e : Env} {s : State} {m : MethodId} {args : Array Value} {below : List Frame} {meth : Method} {c : Code} {dC : Nat → ClassId} {dI : Nat → Nat → Nat} {A : Nat → Prop} {cI cJ cZ cG : ClassId} {h h_effect h_number h_banned h_has h_life h_shield h_strength h_haveMet h_deck h_deckSize h_who h_does h_much h_against h_pack h_packSize h_gives h_wants h_tryWho h_tryDoes h_tryMuch h_tryAgainst h_tryLife h_tryShield h_ring h_row : Nat} {v_today : Int32} {v_kinds : Int32} {v_stacked : Int32} {v_drafters : Int32} {v_cards : Int32} {v_round : Int32} {v_turn : Int32} {v_high : Int32} {v_ringSize : Int32} {v_many : Int32} {v_deck : Nat → Int32} {v_deckSize : Nat → Int32} {r0 : Int32} {n_thrown : Int32} {n_banned : Nat → Int32} {k_55 : Int32 → (Nat → Int32) → Int32 → Int32 → Int32 → Option (Int32 × Int32 × (Nat → Int32))} (C0 : wCX p s args m meth c cX9_ban 6 (some .int) RX9 wsX9_ban) (hA : ∀ q, s.heap.size ≤ q → A q) (hK : va_K (dC, dI) vwCl (tysW cI cJ cZ cG) s) (hk_55 : ∀ (v_thrown : Int32) (v_banned : Nat → Int32) (l1 : Int32) (l4 : Int32) (l5 : Int32) (H : Heap) (locs : List Loc) (ls : Array Slot), k_55 v_thrown v_banned l1 l4 l5 = some (r0, n_thrown, n_banned) → va_P (dC, dI) vwCl (wcX9_ban cI cJ cZ cG h h_effect h_number h_banned h_has h_life h_shield h_strength h_haveMet h_deck h_deckSize h_who h_does h_much h_against h_pack h_packSize h_gives h_wants h_tryWho h_tryDoes h_tryMuch h_tryAgainst h_tryLife h_tryShield h_ring h_row v_thrown v_today v_kinds v_stacked v_drafters v_cards v_round v_turn v_high v_ringSize v_many v_banned v_deck v_deckSize) H → va_D A (wcX9_ban cI cJ cZ cG h h_effect h_number h_banned h_has h_life h_shield h_strength h_haveMet h_deck h_deckSize h_who h_does h_much h_against h_pack h_packSize h_gives h_wants h_tryWho h_tryDoes h_tryMuch h_tryAgainst h_tryLife h_tryShield h_ring h_row v_thrown v_today v_kinds v_stacked v_drafters v_cards v_round v_turn v_high v_ringSize v_many v_banned v_deck v_deckSize) → va_S A s.heap H locs → lv_has ls 6 [(0, .ref h), (1, .int l1), (4, .int l4), (5, .int l5)] → W p l e rmX9_ban s m args below meth c H locs 0 0 (MQ below (wQi r0 (wcX9_ban cI cJ cZ cG h h_effect h_number h_banned h_has h_life h_shield h_strength h_haveMet h_deck h_deckSize h_who h_does h_much h_against h_pack h_packSize h_gives h_wants h_tryWho h_tryDoes h_tryMuch h_tryAgainst h_tryLife h_tryShield h_ring h_row n_thrown v_today v_kinds v_stacked v_drafters v_cards v_round v_turn v_high v_ringSize v_many n_banned v_deck v_deckSize) (dC, dI) A) args s 0 0 A) (F0 m 55 ls [])) : ∀ (v_thrown : Int32) (v_banned : Nat → Int32) (l1 : Int32) (l5 : Int32) (s0 : Int32) (s1 : Int32) (hz_s1 : wB s1) (H : Heap) (locs : List Loc) (ls : Array Slot), fX9_ban_b79 k_55 v_today v_kinds v_deck v_deckSize v_thrown v_banned l1 l5 s0 s1 = some (r0, n_thrown, n_banned) → va_P (dC, dI) vwCl (wcX9_ban cI cJ cZ cG h h_effect h_number h_banned h_has h_life h_shield h_strength h_haveMet h_deck h_deckSize h_who h_does h_much h_against h_pack h_packSize h_gives h_wants h_tryWho h_tryDoes h_tryMuch h_tryAgainst h_tryLife h_tryShield h_ring h_row v_thrown v_today v_kinds v_stacked v_drafters v_cards v_round v_turn v_high v_ringSize v_many v_banned v_deck v_deckSize) H → va_D A (wcX9_ban cI cJ cZ cG h h_effect h_number h_banned h_has h_life h_shield h_strength h_haveMet h_deck h_deckSize h_who h_does h_much h_against h_pack h_packSize h_gives h_wants h_tryWho h_tryDoes h_tryMuch h_tryAgainst h_tryLife h_tryShield h_ring h_row v_thrown v_today v_kinds v_stacked v_drafters v_cards v_round v_turn v_high v_ringSize v_many v_banned v_deck v_deckSize) → va_S A s.heap H locs → lv_has ls 6 [(0, .ref h), (1, .int l1), (5, .int l5)] → W p l e rmX9_ban s m args below meth c H locs 0 0 (MQ below (wQi r0 (wcX9_ban cI cJ cZ cG h h_effect h_number h_banned h_has h_life h_shield h_strength h_haveMet h_deck h_deckSize h_who h_does h_much h_against h_pack h_packSize h_gives h_wants h_tryWho h_tryDoes h_tryMuch h_tryAgainst h_tryLife h_tryShield h_ring h_row n_thrown v_today v_kinds v_stacked v_drafters v_cards v_round v_turn v_high v_ringSize v_many n_banned v_deck v_deckSize) (dC, dI) A) args s 0 0 A) (F0 m 79 ls [.int s1, .int s0]) := by
  obtain ⟨hx, hb, hr, hml, hown, hts, hlocks⟩ := id C0
  intro v_thrown v_banned l1 l5 s0 s1 hz_s1 H locs ls hf hP hD hS hl
  unfold fX9_ban_b79 at hf
  refine lv_iadd hx hb dX9_ban_79 ?_
  obtain ⟨x_1, ex_1, hf⟩ := nm_s hf
  refine w_eqi ex_1 ?_
  refine lv_istore (lv' := [(4, .int x_1), (0, .ref h), (1, .int l1), (5, .int l5)]) hx hb dX9_ban_80 hl (by decide) rfl (fun ls hl => ?_)
  obtain ⟨x_2, ex_2, hf⟩ := nm_s hf
  refine lv_iinc (v := x_2) (lv' := [(5, .int x_2), (4, .int x_1), (0, .ref h), (1, .int l1)]) hx hb dX9_ban_82 hl (k := 3) rfl (by rw [ex_2]; rfl) (by decide) rfl (fun ls hl => ?_)
  refine lv_goto (tgt := 55) hx hb dX9_ban_85 (by decide) ?_
  have hf : k_55 v_thrown v_banned l1 x_1 x_2 = some (r0, n_thrown, n_banned) := hf
  exact hk_55 v_thrown v_banned l1 x_1 x_2 _ _ _ hf hP hD hS (lv_sub hl [2, 3, 1, 0] rfl)
set_option maxHeartbeats 4000000 in
set_option maxRecDepth 100000 in
theorem kX9_ban_55 {p : Program} {l : Launch} {e : Env} {s : State} {m : MethodId} {args : Array Value} {below : List Frame} {meth : Method} {c : Code} {dC : Nat → ClassId} {dI : Nat → Nat → Nat} {A : Nat → Prop} {cI cJ cZ cG : ClassId} {h h_effect h_number h_banned h_has h_life h_shield h_strength h_haveMet h_deck h_deckSize h_who h_does h_much h_against h_pack h_packSize h_gives h_wants h_tryWho h_tryDoes h_tryMuch h_tryAgainst h_tryLife h_tryShield h_ring h_row : Nat} {v_today : Int32} {v_kinds : Int32} {v_stacked : Int32} {v_drafters : Int32} {v_cards : Int32} {v_round : Int32} {v_turn : Int32} {v_high : Int32} {v_ringSize : Int32} {v_many : Int32} {v_deck : Nat → Int32} {v_deckSize : Nat → Int32} {r0 : Int32} {n_thrown : Int32} {n_banned : Nat → Int32} (C0 : wCX p s args m meth c cX9_ban 6 (some .int) RX9 wsX9_ban) (hA : ∀ q, s.heap.size ≤ q → A q) (hK : va_K (dC, dI) vwCl (tysW cI cJ cZ cG) s) : ∀ (n : Nat), ∀ (v_thrown : Int32) (v_banned : Nat → Int32) (l1 : Int32) (l4 : Int32) (l5 : Int32) (H : Heap) (locs : List Loc) (ls : Array Slot), fX9_ban_b55 v_today v_kinds v_deck v_deckSize n v_thrown v_banned l1 l4 l5 = some (r0, n_thrown, n_banned) → va_P (dC, dI) vwCl (wcX9_ban cI cJ cZ cG h h_effect h_number h_banned h_has h_life h_shield h_strength h_haveMet h_deck h_deckSize h_who h_does h_much h_against h_pack h_packSize h_gives h_wants h_tryWho h_tryDoes h_tryMuch h_tryAgainst h_tryLife h_tryShield h_ring h_row v_thrown v_today v_kinds v_stacked v_drafters v_cards v_round v_turn v_high v_ringSize v_many v_banned v_deck v_deckSize) H → va_D A (wcX9_ban cI cJ cZ cG h h_effect h_number h_banned h_has h_life h_shield h_strength h_haveMet h_deck h_deckSize h_who h_does h_much h_against h_pack h_packSize h_gives h_wants h_tryWho h_tryDoes h_tryMuch h_tryAgainst h_tryLife h_tryShield h_ring h_row v_thrown v_today v_kinds v_stacked v_drafters v_cards v_round v_turn v_high v_ringSize v_many v_banned v_deck v_deckSize) → va_S A s.heap H locs → lv_has ls 6 [(0, .ref h), (1, .int l1), (4, .int l4), (5, .int l5)] → W p l e rmX9_ban s m args below meth c H locs 0 0 (MQ below (wQi r0 (wcX9_ban cI cJ cZ cG h h_effect h_number h_banned h_has h_life h_shield h_strength h_haveMet h_deck h_deckSize h_who h_does h_much h_against h_pack h_packSize h_gives h_wants h_tryWho h_tryDoes h_tryMuch h_tryAgainst h_tryLife h_tryShield h_ring h_row n_thrown v_today v_kinds v_stacked v_drafters v_cards v_round v_turn v_high v_ringSize v_many n_banned v_deck v_deckSize) (dC, dI) A) args s 0 0 A) (F0 m 55 ls []) := by
  obtain ⟨hx, hb, hr, hml, hown, hts, hlocks⟩ := id C0
  intro n
  induction n with
  | zero =>
    intro v_thrown v_banned l1 l4 l5 H locs ls hf hP hD hS hl
    rw [fX9_ban_b55] at hf
    cases hf
  | succ n ih =>
    intro v_thrown v_banned l1 l4 l5 H locs ls hf hP hD hS hl
    rw [fX9_ban_b55] at hf
    refine lv_iload hx hb dX9_ban_55 (lv_at hl 3 rfl) ?_
    refine lv_bipush (v := 6) hx hb dX9_ban_57 (by decide) ?_
    refine lv_icmp_ge (tgt := 88) hx hb dX9_ban_59 (by decide) (fun c_1 => ?_) (fun c_1 => ?_)
    · have hf := it_t hf c_1
      refine lv_iload hx hb dX9_ban_88 (lv_at hl 2 rfl) ?_
      have hf : some (l4, v_thrown, v_banned) = some (r0, n_thrown, n_banned) := hf
      cases hf
      exact w_iret hx hb hr hlocks rfl hP hD hS dX9_ban_90
    · have hf := it_f hf c_1
      refine lv_iload hx hb dX9_ban_62 (lv_at hl 2 rfl) ?_
      refine lv_aload_n hx hb dX9_ban_64 rfl (lv_at hl 0 rfl) ?_
      refine lv_iload hx hb dX9_ban_65 (lv_at hl 3 rfl) ?_
      refine lv_iload_n hx hb dX9_ban_67 rfl (lv_at hl 1 rfl) ?_
      obtain ⟨r_2, hc_3, hf⟩ := ob_s hf
      refine w_callVi (As := [.int l5, .int l1]) (rest := [.int l4]) (wr := List.filterMap (fun i : Nat => (wcX9_ban cI cJ cZ cG h h_effect h_number h_banned h_has h_life h_shield h_strength h_haveMet h_deck h_deckSize h_who h_does h_much h_against h_pack h_packSize h_gives h_wants h_tryWho h_tryDoes h_tryMuch h_tryAgainst h_tryLife h_tryShield h_ring h_row v_thrown v_today v_kinds v_stacked v_drafters v_cards v_round v_turn v_high v_ringSize v_many v_banned v_deck v_deckSize)[i]?) [1]) (ws1 := (wcX9_ban cI cJ cZ cG h h_effect h_number h_banned h_has h_life h_shield h_strength h_haveMet h_deck h_deckSize h_who h_does h_much h_against h_pack h_packSize h_gives h_wants h_tryWho h_tryDoes h_tryMuch h_tryAgainst h_tryLife h_tryShield h_ring h_row v_thrown v_today v_kinds v_stacked v_drafters v_cards v_round v_turn v_high v_ringSize v_many v_banned v_deck v_deckSize)) ⟨hx, hb, hml, hown, hts⟩ (oX9_inDeck l dC dI cI cJ cZ cG h h_effect h_number h_banned h_has h_life h_shield h_strength h_haveMet h_deck h_deckSize h_who h_does h_much h_against h_pack h_packSize h_gives h_wants h_tryWho h_tryDoes h_tryMuch h_tryAgainst h_tryLife h_tryShield h_ring h_row v_thrown v_today v_kinds v_stacked v_drafters v_cards v_round v_turn v_high v_ringSize v_many v_deck v_deckSize H.size l5 l1 r_2 hc_3) (cwV 2 hts gX9_ban_X9_inDeck rfl rfl rfl (by decide +kernel) ⟨Nat.le_of_ble_eq_true rfl, Nat.le_of_ble_eq_true rfl⟩) hK 0 9 rfl rfl rfl hP hD hS hA [0, 2, 3] [1] [1, 0, 2, 3] rfl rfl rfl rfl (by decide) rfl rfl rfl hl.1 rfl (Nat.le_of_ble_eq_true rfl) dX9_ban_68 ⟨Nat.le_refl _, Nat.le_refl _⟩ (fun H locs hP hD hS => ?_)
      refine lv_if_le (tgt := 78) hx hb dX9_ban_71 (by decide) (fun c_4 => ?_) (fun c_4 => ?_)
      · have hf := it_t hf c_4
        refine lv_iconst (v := 0) hx hb dX9_ban_78 (by decide) ?_
        have hf : fX9_ban_b79 (fX9_ban_b55 v_today v_kinds v_deck v_deckSize n) v_today v_kinds v_deck v_deckSize v_thrown v_banned l1 l5 l4 0 = some (r0, n_thrown, n_banned) := hf
        exact kX9_ban_79 C0 hA hK ih v_thrown v_banned l1 l5 l4 0 (Or.inl rfl) _ _ _ hf hP hD hS (lv_sub hl [0, 1, 3] rfl)
      · have hf := it_f hf c_4
        refine lv_iconst (v := 1) hx hb dX9_ban_74 (by decide) ?_
        refine lv_goto (tgt := 79) hx hb dX9_ban_75 (by decide) ?_
        have hf : fX9_ban_b79 (fX9_ban_b55 v_today v_kinds v_deck v_deckSize n) v_today v_kinds v_deck v_deckSize v_thrown v_banned l1 l5 l4 1 = some (r0, n_thrown, n_banned) := hf
        exact kX9_ban_79 C0 hA hK ih v_thrown v_banned l1 l5 l4 1 (Or.inr rfl) _ _ _ hf hP hD hS (lv_sub hl [0, 1, 3] rfl)
set_option maxHeartbeats 4000000 in
set_option maxRecDepth 100000 in
theorem kX9_ban_34 {p : Program} {l : Launch} {e : Env} {s : State} {m : MethodId} {args : Array Value} {below : List Frame} {meth : Method} {c : Code} {dC : Nat → ClassId} {dI : Nat → Nat → Nat} {A : Nat → Prop} {cI cJ cZ cG : ClassId} {h h_effect h_number h_banned h_has h_life h_shield h_strength h_haveMet h_deck h_deckSize h_who h_does h_much h_against h_pack h_packSize h_gives h_wants h_tryWho h_tryDoes h_tryMuch h_tryAgainst h_tryLife h_tryShield h_ring h_row : Nat} {v_today : Int32} {v_kinds : Int32} {v_stacked : Int32} {v_drafters : Int32} {v_cards : Int32} {v_round : Int32} {v_turn : Int32} {v_high : Int32} {v_ringSize : Int32} {v_many : Int32} {v_deck : Nat → Int32} {v_deckSize : Nat → Int32} {r0 : Int32} {n_thrown : Int32} {n_banned : Nat → Int32} (C0 : wCX p s args m meth c cX9_ban 6 (some .int) RX9 wsX9_ban) (hA : ∀ q, s.heap.size ≤ q → A q) (hK : va_K (dC, dI) vwCl (tysW cI cJ cZ cG) s) : ∀ (v_thrown : Int32) (v_banned : Nat → Int32) (l1 : Int32) (l2 : Int32) (s1 : Int32) (H : Heap) (locs : List Loc) (ls : Array Slot), fX9_ban_b34 v_today v_kinds v_deck v_deckSize v_thrown v_banned l1 l2 s1 = some (r0, n_thrown, n_banned) → va_P (dC, dI) vwCl (wcX9_ban cI cJ cZ cG h h_effect h_number h_banned h_has h_life h_shield h_strength h_haveMet h_deck h_deckSize h_who h_does h_much h_against h_pack h_packSize h_gives h_wants h_tryWho h_tryDoes h_tryMuch h_tryAgainst h_tryLife h_tryShield h_ring h_row v_thrown v_today v_kinds v_stacked v_drafters v_cards v_round v_turn v_high v_ringSize v_many v_banned v_deck v_deckSize) H → va_D A (wcX9_ban cI cJ cZ cG h h_effect h_number h_banned h_has h_life h_shield h_strength h_haveMet h_deck h_deckSize h_who h_does h_much h_against h_pack h_packSize h_gives h_wants h_tryWho h_tryDoes h_tryMuch h_tryAgainst h_tryLife h_tryShield h_ring h_row v_thrown v_today v_kinds v_stacked v_drafters v_cards v_round v_turn v_high v_ringSize v_many v_banned v_deck v_deckSize) → va_S A s.heap H locs → lv_has ls 6 [(0, .ref h), (1, .int l1), (2, .int l2)] → W p l e rmX9_ban s m args below meth c H locs 0 0 (MQ below (wQi r0 (wcX9_ban cI cJ cZ cG h h_effect h_number h_banned h_has h_life h_shield h_strength h_haveMet h_deck h_deckSize h_who h_does h_much h_against h_pack h_packSize h_gives h_wants h_tryWho h_tryDoes h_tryMuch h_tryAgainst h_tryLife h_tryShield h_ring h_row n_thrown v_today v_kinds v_stacked v_drafters v_cards v_round v_turn v_high v_ringSize v_many n_banned v_deck v_deckSize) (dC, dI) A) args s 0 0 A) (F0 m 34 ls [.int s1, .ref h]) := by
  obtain ⟨hx, hb, hr, hml, hown, hts, hlocks⟩ := id C0
  intro v_thrown v_banned l1 l2 s1 H locs ls hf hP hD hS hl
  unfold fX9_ban_b34 at hf
  obtain ⟨⟨r_1, w_2⟩, hc_3, hf⟩ := ob_s hf
  refine w_callVz (As := [.int s1]) (rest := []) (wr := List.filterMap (fun i : Nat => (wcX9_ban cI cJ cZ cG h h_effect h_number h_banned h_has h_life h_shield h_strength h_haveMet h_deck h_deckSize h_who h_does h_much h_against h_pack h_packSize h_gives h_wants h_tryWho h_tryDoes h_tryMuch h_tryAgainst h_tryLife h_tryShield h_ring h_row v_thrown v_today v_kinds v_stacked v_drafters v_cards v_round v_turn v_high v_ringSize v_many v_banned v_deck v_deckSize)[i]?) [1, 2, 3]) (ws1 := (wcX9_ban cI cJ cZ cG h h_effect h_number h_banned h_has h_life h_shield h_strength h_haveMet h_deck h_deckSize h_who h_does h_much h_against h_pack h_packSize h_gives h_wants h_tryWho h_tryDoes h_tryMuch h_tryAgainst h_tryLife h_tryShield h_ring h_row w_2 v_today v_kinds v_stacked v_drafters v_cards v_round v_turn v_high v_ringSize v_many v_banned v_deck v_deckSize)) ⟨hx, hb, hml, hown, hts⟩ (oX9_goesWell l dC dI cI cJ cZ cG h h_effect h_number h_banned h_has h_life h_shield h_strength h_haveMet h_deck h_deckSize h_who h_does h_much h_against h_pack h_packSize h_gives h_wants h_tryWho h_tryDoes h_tryMuch h_tryAgainst h_tryLife h_tryShield h_ring h_row v_thrown v_today v_kinds v_stacked v_drafters v_cards v_round v_turn v_high v_ringSize v_many H.size s1 r_1 w_2 hc_3) (cwV 1 hts gX9_ban_X9_goesWell rfl rfl rfl (by decide +kernel) ⟨Nat.le_of_ble_eq_true rfl, Nat.le_of_ble_eq_true rfl⟩) hK 0 9 rfl rfl rfl hP hD hS hA [0] [1, 2, 3] [3, 0, 1, 2] rfl rfl rfl rfl (by decide) rfl rfl rfl hl.1 rfl (Nat.le_of_ble_eq_true rfl) dX9_ban_34 ⟨Nat.le_refl _, Nat.le_refl _⟩ (fun hz_4 H locs hP hD hS => ?_)
  refine lv_if_ne (tgt := 42) hx hb dX9_ban_37 (by decide) (fun c_5 => ?_) (fun c_5 => ?_)
  · have hf := it_f hf c_5
    refine lv_aload_n hx hb dX9_ban_42 rfl (lv_at hl 0 rfl) ?_
    refine va_get (D := (dC, dI)) (ci := 9) (v := .ref h_banned) (C := RX9) (T := TX9) (N := 37) hx hb hts iX9_ban_X9 hown hK hP 0 rfl rfl 5 (by decide) (hts _ mX9_ban_1) (fun _ h9 => h9) rfl dX9_ban_43 ?_
    refine lv_iload_n hx hb dX9_ban_46 rfl (lv_at hl 1 rfl) ?_
    refine lv_iload_n hx hb dX9_ban_47 rfl (lv_at hl 2 rfl) ?_
    obtain ⟨hg_6, hf⟩ := ck_s hf
    refine va_iast (D := (dC, dI)) hx hb hK hP hD hS 1 0 rfl rfl (g_vp hg_6) dX9_ban_48 (fun H locs hP hD hS => ?_)
    have hP : va_P (dC, dI) vwCl (wcX9_ban cI cJ cZ cG h h_effect h_number h_banned h_has h_life h_shield h_strength h_haveMet h_deck h_deckSize h_who h_does h_much h_against h_pack h_packSize h_gives h_wants h_tryWho h_tryDoes h_tryMuch h_tryAgainst h_tryLife h_tryShield h_ring h_row w_2 v_today v_kinds v_stacked v_drafters v_cards v_round v_turn v_high v_ringSize v_many (upd v_banned l1.toNatClampNeg l2) v_deck v_deckSize) H := hP
    have hD : va_D A (wcX9_ban cI cJ cZ cG h h_effect h_number h_banned h_has h_life h_shield h_strength h_haveMet h_deck h_deckSize h_who h_does h_much h_against h_pack h_packSize h_gives h_wants h_tryWho h_tryDoes h_tryMuch h_tryAgainst h_tryLife h_tryShield h_ring h_row w_2 v_today v_kinds v_stacked v_drafters v_cards v_round v_turn v_high v_ringSize v_many (upd v_banned l1.toNatClampNeg l2) v_deck v_deckSize) := hD
    refine lv_iconst (v := 0) hx hb dX9_ban_49 (by decide) ?_
    refine lv_istore (lv' := [(4, .int 0), (0, .ref h), (1, .int l1), (2, .int l2)]) hx hb dX9_ban_50 hl (by decide) rfl (fun ls hl => ?_)
    refine lv_iconst (v := 0) hx hb dX9_ban_52 (by decide) ?_
    refine lv_istore (lv' := [(5, .int 0), (4, .int 0), (0, .ref h), (1, .int l1), (2, .int l2)]) hx hb dX9_ban_53 hl (by decide) rfl (fun ls hl => ?_)
    have hf : fX9_ban_b55 v_today v_kinds v_deck v_deckSize 70 w_2 (upd v_banned l1.toNatClampNeg l2) l1 0 0 = some (r0, n_thrown, n_banned) := hf
    exact kX9_ban_55 C0 hA hK 70 w_2 (upd v_banned l1.toNatClampNeg l2) l1 0 0 _ _ _ hf hP hD hS (lv_sub hl [2, 3, 1, 0] rfl)
  · have hf := it_t hf c_5
    refine lv_iconst (v := 0) hx hb dX9_ban_40 (by decide) ?_
    have hf : some (0, w_2, v_banned) = some (r0, n_thrown, n_banned) := hf
    cases hf
    exact w_iret hx hb hr hlocks rfl hP hD hS dX9_ban_41
set_option maxHeartbeats 4000000 in
set_option maxRecDepth 100000 in
theorem oX9_ban (l : Launch) (dC : Nat → ClassId) (dI : Nat → Nat → Nat) (cI cJ cZ cG : ClassId) (h h_effect h_number h_banned h_has h_life h_shield h_strength h_haveMet h_deck h_deckSize h_who h_does h_much h_against h_pack h_packSize h_gives h_wants h_tryWho h_tryDoes h_tryMuch h_tryAgainst h_tryLife h_tryShield h_ring h_row : Nat) (v_thrown : Int32) (v_today : Int32) (v_kinds : Int32) (v_stacked : Int32) (v_drafters : Int32) (v_cards : Int32) (v_round : Int32) (v_turn : Int32) (v_high : Int32) (v_ringSize : Int32) (v_many : Int32) (v_banned : Nat → Int32) (v_deck : Nat → Int32) (v_deckSize : Nat → Int32) (sz : Nat) (p1 : Int32) (p2 : Int32) (r0 : Int32) (n_thrown : Int32) (n_banned : Nat → Int32) (hf : fX9_ban v_thrown v_today v_kinds v_banned v_deck v_deckSize p1 p2 = some (r0, n_thrown, n_banned)) : Met l yX9_ban wsX9_ban rmX9_ban (wPc [.ref h, .int p1, .int p2] (dC, dI) (tysW cI cJ cZ cG) sz (wcX9_ban cI cJ cZ cG h h_effect h_number h_banned h_has h_life h_shield h_strength h_haveMet h_deck h_deckSize h_who h_does h_much h_against h_pack h_packSize h_gives h_wants h_tryWho h_tryDoes h_tryMuch h_tryAgainst h_tryLife h_tryShield h_ring h_row v_thrown v_today v_kinds v_stacked v_drafters v_cards v_round v_turn v_high v_ringSize v_many v_banned v_deck v_deckSize)) (wQi r0 (wcX9_ban cI cJ cZ cG h h_effect h_number h_banned h_has h_life h_shield h_strength h_haveMet h_deck h_deckSize h_who h_does h_much h_against h_pack h_packSize h_gives h_wants h_tryWho h_tryDoes h_tryMuch h_tryAgainst h_tryLife h_tryShield h_ring h_row n_thrown v_today v_kinds v_stacked v_drafters v_cards v_round v_turn v_high v_ringSize v_many n_banned v_deck v_deckSize) (dC, dI) (va_A (wcX9_ban cI cJ cZ cG h h_effect h_number h_banned h_has h_life h_shield h_strength h_haveMet h_deck h_deckSize h_who h_does h_much h_against h_pack h_packSize h_gives h_wants h_tryWho h_tryDoes h_tryMuch h_tryAgainst h_tryLife h_tryShield h_ring h_row v_thrown v_today v_kinds v_stacked v_drafters v_cards v_round v_turn v_high v_ringSize v_many v_banned v_deck v_deckSize) sz)) 0 0 (va_A (wcX9_ban cI cJ cZ cG h h_effect h_number h_banned h_has h_life h_shield h_strength h_haveMet h_deck h_deckSize h_who h_does h_much h_against h_pack h_packSize h_gives h_wants h_tryWho h_tryDoes h_tryMuch h_tryAgainst h_tryLife h_tryShield h_ring h_row v_thrown v_today v_kinds v_stacked v_drafters v_cards v_round v_turn v_high v_ringSize v_many v_banned v_deck v_deckSize) sz) := by
  refine Met.ofW (cc := cX9_ban) (maxL := 6) (ret := (some .int)) (by decide) rfl ?_
  intro p e s m args below meth c s₁ B hml hv
  obtain ⟨rfl, hsz, hP, hK, hD0⟩ := hv
  have hx := B.exec
  have hb := B.bytes
  have hr := B.returns
  have hts := atoms_spec (ws := wsX9_ban) B.pre
  have hown : s.vm.findClass RX9 = some m.cls := findClass_of_methodNamed B.named
  have hlocks := B.notSynchronized
  subst hsz
  have hD := hD0.self (sz := s.heap.size)
  generalize hAe : va_A (wcX9_ban cI cJ cZ cG h h_effect h_number h_banned h_has h_life h_shield h_strength h_haveMet h_deck h_deckSize h_who h_does h_much h_against h_pack h_packSize h_gives h_wants h_tryWho h_tryDoes h_tryMuch h_tryAgainst h_tryLife h_tryShield h_ring h_row v_thrown v_today v_kinds v_stacked v_drafters v_cards v_round v_turn v_high v_ringSize v_many v_banned v_deck v_deckSize) s.heap.size = A at hD ⊢
  have hA : ∀ q : Nat, s.heap.size ≤ q → A q := fun q h => by rw [← hAe]; exact Or.inr h
  have hS : va_S A s.heap s.heap [] := va_S.rf
  have hP : va_P (dC, dI) vwCl (wcX9_ban cI cJ cZ cG h h_effect h_number h_banned h_has h_life h_shield h_strength h_haveMet h_deck h_deckSize h_who h_does h_much h_against h_pack h_packSize h_gives h_wants h_tryWho h_tryDoes h_tryMuch h_tryAgainst h_tryLife h_tryShield h_ring h_row v_thrown v_today v_kinds v_stacked v_drafters v_cards v_round v_turn v_high v_ringSize v_many v_banned v_deck v_deckSize) s.heap := hP
  have hl := lv_entry ([.ref h, .int p1, .int p2]) (n := 6) (Nat.le_of_ble_eq_true rfl)
  rw [lg_entry_eq]
  generalize (lg_sl ([.ref h, .int p1, .int p2]) ++ List.replicate (6 - (lg_sl ([.ref h, .int p1, .int p2])).length) Slot.unset).toArray = ls at hl ⊢
  have hl : lv_has ls 6 [(0, .ref h), (1, .int p1), (2, .int p2)] := hl
  generalize hH : s.heap = H at hP hS ⊢
  have hS : va_S A s.heap H [] := by rw [hH]; exact hS
  have C0 : wCX p s #[.ref h, .int p1, .int p2] m meth c cX9_ban 6 (some .int) RX9 wsX9_ban := ⟨hx, hb, hr, hml, hown, hts, hlocks⟩
  show W p l e rmX9_ban s m #[.ref h, .int p1, .int p2] below meth c H [] 0 0 (MQ below (wQi r0 (wcX9_ban cI cJ cZ cG h h_effect h_number h_banned h_has h_life h_shield h_strength h_haveMet h_deck h_deckSize h_who h_does h_much h_against h_pack h_packSize h_gives h_wants h_tryWho h_tryDoes h_tryMuch h_tryAgainst h_tryLife h_tryShield h_ring h_row n_thrown v_today v_kinds v_stacked v_drafters v_cards v_round v_turn v_high v_ringSize v_many n_banned v_deck v_deckSize) (dC, dI) A) #[.ref h, .int p1, .int p2] s 0 0 A) (F0 m 0 ls [])
  unfold fX9_ban at hf
  refine lv_aload_n hx hb dX9_ban_0 rfl (lv_at hl 0 rfl) ?_
  refine lv_iload_n hx hb dX9_ban_1 rfl (lv_at hl 1 rfl) ?_
  obtain ⟨r_1, hc_2, hf⟩ := ob_s hf
  refine w_callVz (As := [.int p1]) (rest := []) (wr := List.filterMap (fun i : Nat => (wcX9_ban cI cJ cZ cG h h_effect h_number h_banned h_has h_life h_shield h_strength h_haveMet h_deck h_deckSize h_who h_does h_much h_against h_pack h_packSize h_gives h_wants h_tryWho h_tryDoes h_tryMuch h_tryAgainst h_tryLife h_tryShield h_ring h_row v_thrown v_today v_kinds v_stacked v_drafters v_cards v_round v_turn v_high v_ringSize v_many v_banned v_deck v_deckSize)[i]?) [1, 2, 3]) (ws1 := (wcX9_ban cI cJ cZ cG h h_effect h_number h_banned h_has h_life h_shield h_strength h_haveMet h_deck h_deckSize h_who h_does h_much h_against h_pack h_packSize h_gives h_wants h_tryWho h_tryDoes h_tryMuch h_tryAgainst h_tryLife h_tryShield h_ring h_row v_thrown v_today v_kinds v_stacked v_drafters v_cards v_round v_turn v_high v_ringSize v_many v_banned v_deck v_deckSize)) ⟨hx, hb, hml, hown, hts⟩ (oX9_isKind l dC dI cI cJ cZ cG h h_effect h_number h_banned h_has h_life h_shield h_strength h_haveMet h_deck h_deckSize h_who h_does h_much h_against h_pack h_packSize h_gives h_wants h_tryWho h_tryDoes h_tryMuch h_tryAgainst h_tryLife h_tryShield h_ring h_row v_thrown v_today v_kinds v_stacked v_drafters v_cards v_round v_turn v_high v_ringSize v_many H.size p1 r_1 hc_2) (cwV 1 hts gX9_ban_X9_isKind rfl rfl rfl (by decide +kernel) ⟨Nat.le_of_ble_eq_true rfl, Nat.le_of_ble_eq_true rfl⟩) hK 0 9 rfl rfl rfl hP hD hS hA [0] [1, 2, 3] [3, 0, 1, 2] rfl rfl rfl rfl (by decide) rfl rfl rfl hl.1 rfl (Nat.le_of_ble_eq_true rfl) dX9_ban_2 ⟨Nat.le_refl _, Nat.le_refl _⟩ (fun hz_3 H locs hP hD hS => ?_)
  refine lv_istore_n (lv' := [(3, .int r_1), (0, .ref h), (1, .int p1), (2, .int p2)]) hx hb dX9_ban_5 rfl hl (by decide) rfl (fun ls hl => ?_)
  refine lv_aload_n hx hb dX9_ban_6 rfl (lv_at hl 1 rfl) ?_
  refine lv_iload_n hx hb dX9_ban_7 rfl (lv_at hl 0 rfl) ?_
  refine lv_if_ne (tgt := 15) hx hb dX9_ban_8 (by decide) (fun c_4 => ?_) (fun c_4 => ?_)
  · have hf := it_f hf c_4
    refine lv_iload_n hx hb dX9_ban_15 rfl (lv_at hl 3 rfl) ?_
    refine lv_aload_n hx hb dX9_ban_16 rfl (lv_at hl 1 rfl) ?_
    refine va_get (D := (dC, dI)) (ci := 9) (v := .int v_today) (C := RX9) (T := TX9) (N := 37) hx hb hts iX9_ban_X9 hown hK hP 0 rfl rfl 1 (by decide) (hts _ mX9_ban_0) (fun _ h9 => h9) rfl dX9_ban_17 ?_
    refine lv_sipush (v := 1000) hx hb dX9_ban_20 (by decide) ?_
    obtain ⟨r_5, hc_6, hf⟩ := ob_s hf
    refine w_callSz (As := [.int p2, .int v_today, .int 1000]) (rest := [.ref h]) ⟨hx, hb, hml, hown, hts⟩ (oX9_in l dC dI cI cJ cZ cG H.size p2 v_today 1000 r_5 hc_6) (va_cwS 3 hts gX9_ban_X9_in rfl rfl rfl (by decide +kernel) ⟨Nat.le_of_ble_eq_true rfl, Nat.le_of_ble_eq_true rfl⟩) hK hP hS hA rfl hl.1 rfl (Nat.le_of_ble_eq_true rfl) dX9_ban_23 ⟨Nat.le_refl _, Nat.le_refl _⟩ (fun hz_7 H locs hP hS => ?_)
    refine lv_if_eq (tgt := 33) hx hb dX9_ban_26 (by decide) (fun c_8 => ?_) (fun c_8 => ?_)
    · have hf := it_t hf c_8
      refine lv_iconst (v := 2) hx hb dX9_ban_33 (by decide) ?_
      have hf : fX9_ban_b34 v_today v_kinds v_deck v_deckSize v_thrown v_banned p1 p2 2 = some (r0, n_thrown, n_banned) := hf
      exact kX9_ban_34 C0 hA hK v_thrown v_banned p1 p2 2 _ _ _ hf hP hD hS (lv_sub hl [1, 2, 3] rfl)
    · have hf := it_f hf c_8
      refine lv_iconst (v := 0) hx hb dX9_ban_29 (by decide) ?_
      refine lv_goto (tgt := 34) hx hb dX9_ban_30 (by decide) ?_
      have hf : fX9_ban_b34 v_today v_kinds v_deck v_deckSize v_thrown v_banned p1 p2 0 = some (r0, n_thrown, n_banned) := hf
      exact kX9_ban_34 C0 hA hK v_thrown v_banned p1 p2 0 _ _ _ hf hP hD hS (lv_sub hl [1, 2, 3] rfl)
  · have hf := it_t hf c_4
    refine lv_iconst (v := 1) hx hb dX9_ban_11 (by decide) ?_
    refine lv_goto (tgt := 34) hx hb dX9_ban_12 (by decide) ?_
    have hf : fX9_ban_b34 v_today v_kinds v_deck v_deckSize v_thrown v_banned p1 p2 1 = some (r0, n_thrown, n_banned) := hf
    exact kX9_ban_34 C0 hA hK v_thrown v_banned p1 p2 1 _ _ _ hf hP hD hS (lv_sub hl [1, 2, 3] rfl)
abbrev wcX9_isBanned (cI cJ cZ cG : ClassId) (h h_effect h_number h_banned h_has h_life h_shield h_strength h_haveMet h_deck h_deckSize h_who h_does h_much h_against h_pack h_packSize h_gives h_wants h_tryWho h_tryDoes h_tryMuch h_tryAgainst h_tryLife h_tryShield h_ring h_row : Nat) (v_thrown : Int32) (v_today : Int32) (v_kinds : Int32) (v_stacked : Int32) (v_drafters : Int32) (v_cards : Int32) (v_round : Int32) (v_turn : Int32) (v_high : Int32) (v_ringSize : Int32) (v_many : Int32) (v_banned : Nat → Int32) : va_W := [(h, .inr (9, [.int v_thrown, .int v_today, .int v_kinds, .ref h_effect, .ref h_number, .ref h_banned, .ref h_has, .ref h_life, .ref h_shield, .ref h_strength, .ref h_haveMet, .ref h_deck, .ref h_deckSize, .int v_stacked, .ref h_who, .ref h_does, .ref h_much, .ref h_against, .int v_drafters, .int v_cards, .int v_round, .int v_turn, .ref h_pack, .ref h_packSize, .ref h_gives, .ref h_wants, .int v_high, .ref h_tryWho, .ref h_tryDoes, .ref h_tryMuch, .ref h_tryAgainst, .ref h_tryLife, .ref h_tryShield, .int v_ringSize, .ref h_ring, .int v_many, .ref h_row])), (h_banned, .inl (cI, 20, .inl v_banned))]
theorem iX9_isBanned_X9 : ∀ w ∈ wsX90, w ∈ wsX9_isBanned := by decide +kernel
theorem mX9_isBanned_0 : (Cond.fieldLink RX9 16 "SleevehallModel" "banned" "[I") ∈ wsX9_isBanned := by decide +kernel
abbrev rmX9_isBanned : Room := { frames := 0, cells := 0, slots := 0, locals := 0 }
set_option maxHeartbeats 4000000 in
set_option maxRecDepth 100000 in
theorem kX9_isBanned_25 {p : Program} {l : Launch} {e : Env} {s : State} {m : MethodId} {args : Array Value} {below : List Frame} {meth : Method} {c : Code} {dC : Nat → ClassId} {dI : Nat → Nat → Nat} {A : Nat → Prop} {cI cJ cZ cG : ClassId} {h h_effect h_number h_banned h_has h_life h_shield h_strength h_haveMet h_deck h_deckSize h_who h_does h_much h_against h_pack h_packSize h_gives h_wants h_tryWho h_tryDoes h_tryMuch h_tryAgainst h_tryLife h_tryShield h_ring h_row : Nat} {v_thrown : Int32} {v_today : Int32} {v_kinds : Int32} {v_stacked : Int32} {v_drafters : Int32} {v_cards : Int32} {v_round : Int32} {v_turn : Int32} {v_high : Int32} {v_ringSize : Int32} {v_many : Int32} {v_banned : Nat → Int32} {r0 : Int32} (C0 : wCX p s args m meth c cX9_isBanned 3 (some .boolean) RX9 wsX9_isBanned) (hA : ∀ q, s.heap.size ≤ q → A q) (hK : va_K (dC, dI) vwCl (tysW cI cJ cZ cG) s) : ∀ (s0 : Int32) (hz_s0 : wB s0) (H : Heap) (locs : List Loc) (ls : Array Slot), fX9_isBanned_b25 v_banned s0 = some r0 → va_P (dC, dI) vwCl (wcX9_isBanned cI cJ cZ cG h h_effect h_number h_banned h_has h_life h_shield h_strength h_haveMet h_deck h_deckSize h_who h_does h_much h_against h_pack h_packSize h_gives h_wants h_tryWho h_tryDoes h_tryMuch h_tryAgainst h_tryLife h_tryShield h_ring h_row v_thrown v_today v_kinds v_stacked v_drafters v_cards v_round v_turn v_high v_ringSize v_many v_banned) H → va_D A (wcX9_isBanned cI cJ cZ cG h h_effect h_number h_banned h_has h_life h_shield h_strength h_haveMet h_deck h_deckSize h_who h_does h_much h_against h_pack h_packSize h_gives h_wants h_tryWho h_tryDoes h_tryMuch h_tryAgainst h_tryLife h_tryShield h_ring h_row v_thrown v_today v_kinds v_stacked v_drafters v_cards v_round v_turn v_high v_ringSize v_many v_banned) → va_S A s.heap H locs → lv_has ls 3 [] → W p l e rmX9_isBanned s m args below meth c H locs 0 0 (MQ below (wQz r0 (wcX9_isBanned cI cJ cZ cG h h_effect h_number h_banned h_has h_life h_shield h_strength h_haveMet h_deck h_deckSize h_who h_does h_much h_against h_pack h_packSize h_gives h_wants h_tryWho h_tryDoes h_tryMuch h_tryAgainst h_tryLife h_tryShield h_ring h_row v_thrown v_today v_kinds v_stacked v_drafters v_cards v_round v_turn v_high v_ringSize v_many v_banned) (dC, dI) A) args s 0 0 A) (F0 m 25 ls [.int s0]) := by
  obtain ⟨hx, hb, hr, hml, hown, hts, hlocks⟩ := id C0
  intro s0 hz_s0 H locs ls hf hP hD hS hl
  unfold fX9_isBanned_b25 at hf
  have hf : some s0 = some r0 := hf
  cases hf
  exact w_zret hx hb hr hlocks rfl hz_s0 hP hD hS dX9_isBanned_25
set_option maxHeartbeats 4000000 in
set_option maxRecDepth 100000 in
theorem kX9_isBanned_24 {p : Program} {l : Launch} {e : Env} {s : State} {m : MethodId} {args : Array Value} {below : List Frame} {meth : Method} {c : Code} {dC : Nat → ClassId} {dI : Nat → Nat → Nat} {A : Nat → Prop} {cI cJ cZ cG : ClassId} {h h_effect h_number h_banned h_has h_life h_shield h_strength h_haveMet h_deck h_deckSize h_who h_does h_much h_against h_pack h_packSize h_gives h_wants h_tryWho h_tryDoes h_tryMuch h_tryAgainst h_tryLife h_tryShield h_ring h_row : Nat} {v_thrown : Int32} {v_today : Int32} {v_kinds : Int32} {v_stacked : Int32} {v_drafters : Int32} {v_cards : Int32} {v_round : Int32} {v_turn : Int32} {v_high : Int32} {v_ringSize : Int32} {v_many : Int32} {v_banned : Nat → Int32} {r0 : Int32} (C0 : wCX p s args m meth c cX9_isBanned 3 (some .boolean) RX9 wsX9_isBanned) (hA : ∀ q, s.heap.size ≤ q → A q) (hK : va_K (dC, dI) vwCl (tysW cI cJ cZ cG) s) : ∀ (H : Heap) (locs : List Loc) (ls : Array Slot), fX9_isBanned_b24 v_banned = some r0 → va_P (dC, dI) vwCl (wcX9_isBanned cI cJ cZ cG h h_effect h_number h_banned h_has h_life h_shield h_strength h_haveMet h_deck h_deckSize h_who h_does h_much h_against h_pack h_packSize h_gives h_wants h_tryWho h_tryDoes h_tryMuch h_tryAgainst h_tryLife h_tryShield h_ring h_row v_thrown v_today v_kinds v_stacked v_drafters v_cards v_round v_turn v_high v_ringSize v_many v_banned) H → va_D A (wcX9_isBanned cI cJ cZ cG h h_effect h_number h_banned h_has h_life h_shield h_strength h_haveMet h_deck h_deckSize h_who h_does h_much h_against h_pack h_packSize h_gives h_wants h_tryWho h_tryDoes h_tryMuch h_tryAgainst h_tryLife h_tryShield h_ring h_row v_thrown v_today v_kinds v_stacked v_drafters v_cards v_round v_turn v_high v_ringSize v_many v_banned) → va_S A s.heap H locs → lv_has ls 3 [] → W p l e rmX9_isBanned s m args below meth c H locs 0 0 (MQ below (wQz r0 (wcX9_isBanned cI cJ cZ cG h h_effect h_number h_banned h_has h_life h_shield h_strength h_haveMet h_deck h_deckSize h_who h_does h_much h_against h_pack h_packSize h_gives h_wants h_tryWho h_tryDoes h_tryMuch h_tryAgainst h_tryLife h_tryShield h_ring h_row v_thrown v_today v_kinds v_stacked v_drafters v_cards v_round v_turn v_high v_ringSize v_many v_banned) (dC, dI) A) args s 0 0 A) (F0 m 24 ls []) := by
  obtain ⟨hx, hb, hr, hml, hown, hts, hlocks⟩ := id C0
  intro H locs ls hf hP hD hS hl
  unfold fX9_isBanned_b24 at hf
  refine lv_iconst (v := 0) hx hb dX9_isBanned_24 (by decide) ?_
  have hf : fX9_isBanned_b25 v_banned 0 = some r0 := hf
  exact kX9_isBanned_25 C0 hA hK 0 (Or.inl rfl) _ _ _ hf hP hD hS (lv_sub hl [] rfl)
set_option maxHeartbeats 4000000 in
set_option maxRecDepth 100000 in
theorem oX9_isBanned (l : Launch) (dC : Nat → ClassId) (dI : Nat → Nat → Nat) (cI cJ cZ cG : ClassId) (h h_effect h_number h_banned h_has h_life h_shield h_strength h_haveMet h_deck h_deckSize h_who h_does h_much h_against h_pack h_packSize h_gives h_wants h_tryWho h_tryDoes h_tryMuch h_tryAgainst h_tryLife h_tryShield h_ring h_row : Nat) (v_thrown : Int32) (v_today : Int32) (v_kinds : Int32) (v_stacked : Int32) (v_drafters : Int32) (v_cards : Int32) (v_round : Int32) (v_turn : Int32) (v_high : Int32) (v_ringSize : Int32) (v_many : Int32) (v_banned : Nat → Int32) (sz : Nat) (p1 : Int32) (p2 : Int32) (r0 : Int32) (hf : fX9_isBanned v_banned p1 p2 = some r0) : Met l yX9_isBanned wsX9_isBanned rmX9_isBanned (wPc [.ref h, .int p1, .int p2] (dC, dI) (tysW cI cJ cZ cG) sz (wcX9_isBanned cI cJ cZ cG h h_effect h_number h_banned h_has h_life h_shield h_strength h_haveMet h_deck h_deckSize h_who h_does h_much h_against h_pack h_packSize h_gives h_wants h_tryWho h_tryDoes h_tryMuch h_tryAgainst h_tryLife h_tryShield h_ring h_row v_thrown v_today v_kinds v_stacked v_drafters v_cards v_round v_turn v_high v_ringSize v_many v_banned)) (wQz r0 (wcX9_isBanned cI cJ cZ cG h h_effect h_number h_banned h_has h_life h_shield h_strength h_haveMet h_deck h_deckSize h_who h_does h_much h_against h_pack h_packSize h_gives h_wants h_tryWho h_tryDoes h_tryMuch h_tryAgainst h_tryLife h_tryShield h_ring h_row v_thrown v_today v_kinds v_stacked v_drafters v_cards v_round v_turn v_high v_ringSize v_many v_banned) (dC, dI) (va_A (wcX9_isBanned cI cJ cZ cG h h_effect h_number h_banned h_has h_life h_shield h_strength h_haveMet h_deck h_deckSize h_who h_does h_much h_against h_pack h_packSize h_gives h_wants h_tryWho h_tryDoes h_tryMuch h_tryAgainst h_tryLife h_tryShield h_ring h_row v_thrown v_today v_kinds v_stacked v_drafters v_cards v_round v_turn v_high v_ringSize v_many v_banned) sz)) 0 0 (va_A (wcX9_isBanned cI cJ cZ cG h h_effect h_number h_banned h_has h_life h_shield h_strength h_haveMet h_deck h_deckSize h_who h_does h_much h_against h_pack h_packSize h_gives h_wants h_tryWho h_tryDoes h_tryMuch h_tryAgainst h_tryLife h_tryShield h_ring h_row v_thrown v_today v_kinds v_stacked v_drafters v_cards v_round v_turn v_high v_ringSize v_many v_banned) sz) := by
  refine Met.ofW (cc := cX9_isBanned) (maxL := 3) (ret := (some .boolean)) (by decide) rfl ?_
  intro p e s m args below meth c s₁ B hml hv
  obtain ⟨rfl, hsz, hP, hK, hD0⟩ := hv
  have hx := B.exec
  have hb := B.bytes
  have hr := B.returns
  have hts := atoms_spec (ws := wsX9_isBanned) B.pre
  have hown : s.vm.findClass RX9 = some m.cls := findClass_of_methodNamed B.named
  have hlocks := B.notSynchronized
  subst hsz
  have hD := hD0.self (sz := s.heap.size)
  generalize hAe : va_A (wcX9_isBanned cI cJ cZ cG h h_effect h_number h_banned h_has h_life h_shield h_strength h_haveMet h_deck h_deckSize h_who h_does h_much h_against h_pack h_packSize h_gives h_wants h_tryWho h_tryDoes h_tryMuch h_tryAgainst h_tryLife h_tryShield h_ring h_row v_thrown v_today v_kinds v_stacked v_drafters v_cards v_round v_turn v_high v_ringSize v_many v_banned) s.heap.size = A at hD ⊢
  have hA : ∀ q : Nat, s.heap.size ≤ q → A q := fun q h => by rw [← hAe]; exact Or.inr h
  have hS : va_S A s.heap s.heap [] := va_S.rf
  have hP : va_P (dC, dI) vwCl (wcX9_isBanned cI cJ cZ cG h h_effect h_number h_banned h_has h_life h_shield h_strength h_haveMet h_deck h_deckSize h_who h_does h_much h_against h_pack h_packSize h_gives h_wants h_tryWho h_tryDoes h_tryMuch h_tryAgainst h_tryLife h_tryShield h_ring h_row v_thrown v_today v_kinds v_stacked v_drafters v_cards v_round v_turn v_high v_ringSize v_many v_banned) s.heap := hP
  have hl := lv_entry ([.ref h, .int p1, .int p2]) (n := 3) (Nat.le_of_ble_eq_true rfl)
  rw [lg_entry_eq]
  generalize (lg_sl ([.ref h, .int p1, .int p2]) ++ List.replicate (3 - (lg_sl ([.ref h, .int p1, .int p2])).length) Slot.unset).toArray = ls at hl ⊢
  have hl : lv_has ls 3 [(0, .ref h), (1, .int p1), (2, .int p2)] := hl
  generalize hH : s.heap = H at hP hS ⊢
  have hS : va_S A s.heap H [] := by rw [hH]; exact hS
  have C0 : wCX p s #[.ref h, .int p1, .int p2] m meth c cX9_isBanned 3 (some .boolean) RX9 wsX9_isBanned := ⟨hx, hb, hr, hml, hown, hts, hlocks⟩
  show W p l e rmX9_isBanned s m #[.ref h, .int p1, .int p2] below meth c H [] 0 0 (MQ below (wQz r0 (wcX9_isBanned cI cJ cZ cG h h_effect h_number h_banned h_has h_life h_shield h_strength h_haveMet h_deck h_deckSize h_who h_does h_much h_against h_pack h_packSize h_gives h_wants h_tryWho h_tryDoes h_tryMuch h_tryAgainst h_tryLife h_tryShield h_ring h_row v_thrown v_today v_kinds v_stacked v_drafters v_cards v_round v_turn v_high v_ringSize v_many v_banned) (dC, dI) A) #[.ref h, .int p1, .int p2] s 0 0 A) (F0 m 0 ls [])
  unfold fX9_isBanned at hf
  refine lv_aload_n hx hb dX9_isBanned_0 rfl (lv_at hl 0 rfl) ?_
  refine va_get (D := (dC, dI)) (ci := 9) (v := .ref h_banned) (C := RX9) (T := TX9) (N := 37) hx hb hts iX9_isBanned_X9 hown hK hP 0 rfl rfl 5 (by decide) (hts _ mX9_isBanned_0) (fun _ h9 => h9) rfl dX9_isBanned_1 ?_
  refine lv_iload_n hx hb dX9_isBanned_4 rfl (lv_at hl 1 rfl) ?_
  obtain ⟨hg_1, hf⟩ := ck_s hf
  refine va_iald (D := (dC, dI)) hx hb hK hP 1 0 rfl rfl (g_vp hg_1) dX9_isBanned_5 ?_
  refine lv_iconst (v := (-1)) hx hb dX9_isBanned_6 (by decide) ?_
  refine lv_icmp_eq (tgt := 24) hx hb dX9_isBanned_7 (by decide) (fun c_2 => ?_) (fun c_2 => ?_)
  · have hf := it_t hf c_2
    have hf : fX9_isBanned_b24 v_banned = some r0 := hf
    exact kX9_isBanned_24 C0 hA hK _ _ _ hf hP hD hS (lv_sub hl [] rfl)
  · have hf := it_f hf c_2
    refine lv_aload_n hx hb dX9_isBanned_10 rfl (lv_at hl 0 rfl) ?_
    refine va_get (D := (dC, dI)) (ci := 9) (v := .ref h_banned) (C := RX9) (T := TX9) (N := 37) hx hb hts iX9_isBanned_X9 hown hK hP 0 rfl rfl 5 (by decide) (hts _ mX9_isBanned_0) (fun _ h9 => h9) rfl dX9_isBanned_11 ?_
    refine lv_iload_n hx hb dX9_isBanned_14 rfl (lv_at hl 1 rfl) ?_
    obtain ⟨hg_3, hf⟩ := ck_s hf
    refine va_iald (D := (dC, dI)) hx hb hK hP 1 0 rfl rfl (g_vp hg_3) dX9_isBanned_15 ?_
    refine lv_iload_n hx hb dX9_isBanned_16 rfl (lv_at hl 2 rfl) ?_
    refine lv_icmp_gt (tgt := 24) hx hb dX9_isBanned_17 (by decide) (fun c_4 => ?_) (fun c_4 => ?_)
    · have hf := it_t hf c_4
      have hf : fX9_isBanned_b24 v_banned = some r0 := hf
      exact kX9_isBanned_24 C0 hA hK _ _ _ hf hP hD hS (lv_sub hl [] rfl)
    · have hf := it_f hf c_4
      refine lv_iconst (v := 1) hx hb dX9_isBanned_20 (by decide) ?_
      refine lv_goto (tgt := 25) hx hb dX9_isBanned_21 (by decide) ?_
      have hf : fX9_isBanned_b25 v_banned 1 = some r0 := hf
      exact kX9_isBanned_25 C0 hA hK 1 (Or.inr rfl) _ _ _ hf hP hD hS (lv_sub hl [] rfl)
abbrev wcX9_get (cI cJ cZ cG : ClassId) (h h_effect h_number h_banned h_has h_life h_shield h_strength h_haveMet h_deck h_deckSize h_who h_does h_much h_against h_pack h_packSize h_gives h_wants h_tryWho h_tryDoes h_tryMuch h_tryAgainst h_tryLife h_tryShield h_ring h_row : Nat) (v_thrown : Int32) (v_today : Int32) (v_kinds : Int32) (v_stacked : Int32) (v_drafters : Int32) (v_cards : Int32) (v_round : Int32) (v_turn : Int32) (v_high : Int32) (v_ringSize : Int32) (v_many : Int32) (v_has : Nat → Int32) : va_W := [(h, .inr (9, [.int v_thrown, .int v_today, .int v_kinds, .ref h_effect, .ref h_number, .ref h_banned, .ref h_has, .ref h_life, .ref h_shield, .ref h_strength, .ref h_haveMet, .ref h_deck, .ref h_deckSize, .int v_stacked, .ref h_who, .ref h_does, .ref h_much, .ref h_against, .int v_drafters, .int v_cards, .int v_round, .int v_turn, .ref h_pack, .ref h_packSize, .ref h_gives, .ref h_wants, .int v_high, .ref h_tryWho, .ref h_tryDoes, .ref h_tryMuch, .ref h_tryAgainst, .ref h_tryLife, .ref h_tryShield, .int v_ringSize, .ref h_ring, .int v_many, .ref h_row])), (h_has, .inl (cI, 120, .inl v_has))]
theorem iX9_get_X9 : ∀ w ∈ wsX90, w ∈ wsX9_get := by decide +kernel
theorem mX9_get_0 : (Cond.fieldLink RX9 19 "SleevehallModel" "has" "[I") ∈ wsX9_get := by decide +kernel
abbrev rmX9_get : Room := { frames := 2, cells := 0, slots := 0, locals := 43 }
set_option maxHeartbeats 4000000 in
set_option maxRecDepth 100000 in
theorem kX9_get_47 {p : Program} {l : Launch} {e : Env} {s : State} {m : MethodId} {args : Array Value} {below : List Frame} {meth : Method} {c : Code} {dC : Nat → ClassId} {dI : Nat → Nat → Nat} {A : Nat → Prop} {cI cJ cZ cG : ClassId} {h h_effect h_number h_banned h_has h_life h_shield h_strength h_haveMet h_deck h_deckSize h_who h_does h_much h_against h_pack h_packSize h_gives h_wants h_tryWho h_tryDoes h_tryMuch h_tryAgainst h_tryLife h_tryShield h_ring h_row : Nat} {v_today : Int32} {v_kinds : Int32} {v_stacked : Int32} {v_drafters : Int32} {v_cards : Int32} {v_round : Int32} {v_turn : Int32} {v_high : Int32} {v_ringSize : Int32} {v_many : Int32} {r0 : Int32} {n_thrown : Int32} {n_has : Nat → Int32} (C0 : wCX p s args m meth c cX9_get 5 (some .int) RX9 wsX9_get) (hA : ∀ q, s.heap.size ≤ q → A q) (hK : va_K (dC, dI) vwCl (tysW cI cJ cZ cG) s) : ∀ (v_thrown : Int32) (v_has : Nat → Int32) (l1 : Int32) (l2 : Int32) (l3 : Int32) (s1 : Int32) (H : Heap) (locs : List Loc) (ls : Array Slot), fX9_get_b47 v_kinds v_thrown v_has l1 l2 l3 s1 = some (r0, n_thrown, n_has) → va_P (dC, dI) vwCl (wcX9_get cI cJ cZ cG h h_effect h_number h_banned h_has h_life h_shield h_strength h_haveMet h_deck h_deckSize h_who h_does h_much h_against h_pack h_packSize h_gives h_wants h_tryWho h_tryDoes h_tryMuch h_tryAgainst h_tryLife h_tryShield h_ring h_row v_thrown v_today v_kinds v_stacked v_drafters v_cards v_round v_turn v_high v_ringSize v_many v_has) H → va_D A (wcX9_get cI cJ cZ cG h h_effect h_number h_banned h_has h_life h_shield h_strength h_haveMet h_deck h_deckSize h_who h_does h_much h_against h_pack h_packSize h_gives h_wants h_tryWho h_tryDoes h_tryMuch h_tryAgainst h_tryLife h_tryShield h_ring h_row v_thrown v_today v_kinds v_stacked v_drafters v_cards v_round v_turn v_high v_ringSize v_many v_has) → va_S A s.heap H locs → lv_has ls 5 [(0, .ref h), (1, .int l1), (2, .int l2), (3, .int l3)] → W p l e rmX9_get s m args below meth c H locs 0 0 (MQ below (wQi r0 (wcX9_get cI cJ cZ cG h h_effect h_number h_banned h_has h_life h_shield h_strength h_haveMet h_deck h_deckSize h_who h_does h_much h_against h_pack h_packSize h_gives h_wants h_tryWho h_tryDoes h_tryMuch h_tryAgainst h_tryLife h_tryShield h_ring h_row n_thrown v_today v_kinds v_stacked v_drafters v_cards v_round v_turn v_high v_ringSize v_many n_has) (dC, dI) A) args s 0 0 A) (F0 m 47 ls [.int s1, .ref h]) := by
  obtain ⟨hx, hb, hr, hml, hown, hts, hlocks⟩ := id C0
  intro v_thrown v_has l1 l2 l3 s1 H locs ls hf hP hD hS hl
  unfold fX9_get_b47 at hf
  obtain ⟨⟨r_1, w_2⟩, hc_3, hf⟩ := ob_s hf
  refine w_callVz (As := [.int s1]) (rest := []) (wr := List.filterMap (fun i : Nat => (wcX9_get cI cJ cZ cG h h_effect h_number h_banned h_has h_life h_shield h_strength h_haveMet h_deck h_deckSize h_who h_does h_much h_against h_pack h_packSize h_gives h_wants h_tryWho h_tryDoes h_tryMuch h_tryAgainst h_tryLife h_tryShield h_ring h_row v_thrown v_today v_kinds v_stacked v_drafters v_cards v_round v_turn v_high v_ringSize v_many v_has)[i]?) [1]) (ws1 := (wcX9_get cI cJ cZ cG h h_effect h_number h_banned h_has h_life h_shield h_strength h_haveMet h_deck h_deckSize h_who h_does h_much h_against h_pack h_packSize h_gives h_wants h_tryWho h_tryDoes h_tryMuch h_tryAgainst h_tryLife h_tryShield h_ring h_row w_2 v_today v_kinds v_stacked v_drafters v_cards v_round v_turn v_high v_ringSize v_many v_has)) ⟨hx, hb, hml, hown, hts⟩ (oX9_goesWell l dC dI cI cJ cZ cG h h_effect h_number h_banned h_has h_life h_shield h_strength h_haveMet h_deck h_deckSize h_who h_does h_much h_against h_pack h_packSize h_gives h_wants h_tryWho h_tryDoes h_tryMuch h_tryAgainst h_tryLife h_tryShield h_ring h_row v_thrown v_today v_kinds v_stacked v_drafters v_cards v_round v_turn v_high v_ringSize v_many H.size s1 r_1 w_2 hc_3) (cwV 1 hts gX9_get_X9_goesWell rfl rfl rfl (by decide +kernel) ⟨Nat.le_of_ble_eq_true rfl, Nat.le_of_ble_eq_true rfl⟩) hK 0 9 rfl rfl rfl hP hD hS hA [0] [1] [1, 0] rfl rfl rfl rfl (by decide) rfl rfl rfl hl.1 rfl (Nat.le_of_ble_eq_true rfl) dX9_get_47 ⟨Nat.le_refl _, Nat.le_refl _⟩ (fun hz_4 H locs hP hD hS => ?_)
  refine lv_if_ne (tgt := 55) hx hb dX9_get_50 (by decide) (fun c_5 => ?_) (fun c_5 => ?_)
  · have hf := it_f hf c_5
    refine lv_aload_n hx hb dX9_get_55 rfl (lv_at hl 0 rfl) ?_
    refine va_get (D := (dC, dI)) (ci := 9) (v := .ref h_has) (C := RX9) (T := TX9) (N := 37) hx hb hts iX9_get_X9 hown hK hP 0 rfl rfl 6 (by decide) (hts _ mX9_get_0) (fun _ h9 => h9) rfl dX9_get_56 ?_
    refine lv_bipush (v := 20) hx hb dX9_get_59 (by decide) ?_
    refine lv_iload_n hx hb dX9_get_61 rfl (lv_at hl 1 rfl) ?_
    refine lv_imul hx hb dX9_get_62 ?_
    refine lv_iload_n hx hb dX9_get_63 rfl (lv_at hl 2 rfl) ?_
    refine lv_iadd hx hb dX9_get_64 ?_
    refine lv_dup2_11 hx hb dX9_get_65 rfl rfl ?_
    obtain ⟨hg_6, hf⟩ := ck_s hf
    refine va_iald (D := (dC, dI)) hx hb hK hP 1 0 rfl rfl (g_vp hg_6) dX9_get_66 ?_
    refine lv_iload_n hx hb dX9_get_67 rfl (lv_at hl 3 rfl) ?_
    refine lv_iadd hx hb dX9_get_68 ?_
    obtain ⟨x_7, ex_7, hf⟩ := nm_s hf
    refine w_eqi ex_7 ?_
    obtain ⟨hg_8, hf⟩ := ck_s hf
    refine va_iast (D := (dC, dI)) hx hb hK hP hD hS 1 0 rfl rfl (g_vp hg_8) dX9_get_69 (fun H locs hP hD hS => ?_)
    have hP : va_P (dC, dI) vwCl (wcX9_get cI cJ cZ cG h h_effect h_number h_banned h_has h_life h_shield h_strength h_haveMet h_deck h_deckSize h_who h_does h_much h_against h_pack h_packSize h_gives h_wants h_tryWho h_tryDoes h_tryMuch h_tryAgainst h_tryLife h_tryShield h_ring h_row w_2 v_today v_kinds v_stacked v_drafters v_cards v_round v_turn v_high v_ringSize v_many (upd v_has ((20 * l1) + l2).toNatClampNeg x_7)) H := hP
    have hD : va_D A (wcX9_get cI cJ cZ cG h h_effect h_number h_banned h_has h_life h_shield h_strength h_haveMet h_deck h_deckSize h_who h_does h_much h_against h_pack h_packSize h_gives h_wants h_tryWho h_tryDoes h_tryMuch h_tryAgainst h_tryLife h_tryShield h_ring h_row w_2 v_today v_kinds v_stacked v_drafters v_cards v_round v_turn v_high v_ringSize v_many (upd v_has ((20 * l1) + l2).toNatClampNeg x_7)) := hD
    refine lv_aload_n hx hb dX9_get_70 rfl (lv_at hl 0 rfl) ?_
    refine va_get (D := (dC, dI)) (ci := 9) (v := .ref h_has) (C := RX9) (T := TX9) (N := 37) hx hb hts iX9_get_X9 hown hK hP 0 rfl rfl 6 (by decide) (hts _ mX9_get_0) (fun _ h9 => h9) rfl dX9_get_71 ?_
    refine lv_bipush (v := 20) hx hb dX9_get_74 (by decide) ?_
    refine lv_iload_n hx hb dX9_get_76 rfl (lv_at hl 1 rfl) ?_
    refine lv_imul hx hb dX9_get_77 ?_
    refine lv_iload_n hx hb dX9_get_78 rfl (lv_at hl 2 rfl) ?_
    refine lv_iadd hx hb dX9_get_79 ?_
    obtain ⟨hg_9, hf⟩ := ck_s hf
    refine va_iald (D := (dC, dI)) hx hb hK hP 1 0 rfl rfl (g_vp hg_9) dX9_get_80 ?_
    have hf : some (((upd v_has ((20 * l1) + l2).toNatClampNeg x_7) ((20 * l1) + l2).toNatClampNeg), w_2, (upd v_has ((20 * l1) + l2).toNatClampNeg x_7)) = some (r0, n_thrown, n_has) := hf
    cases hf
    exact w_iret hx hb hr hlocks rfl hP hD hS dX9_get_81
  · have hf := it_t hf c_5
    refine lv_iconst (v := 0) hx hb dX9_get_53 (by decide) ?_
    have hf : some (0, w_2, v_has) = some (r0, n_thrown, n_has) := hf
    cases hf
    exact w_iret hx hb hr hlocks rfl hP hD hS dX9_get_54
set_option maxHeartbeats 4000000 in
set_option maxRecDepth 100000 in
theorem kX9_get_20 {p : Program} {l : Launch} {e : Env} {s : State} {m : MethodId} {args : Array Value} {below : List Frame} {meth : Method} {c : Code} {dC : Nat → ClassId} {dI : Nat → Nat → Nat} {A : Nat → Prop} {cI cJ cZ cG : ClassId} {h h_effect h_number h_banned h_has h_life h_shield h_strength h_haveMet h_deck h_deckSize h_who h_does h_much h_against h_pack h_packSize h_gives h_wants h_tryWho h_tryDoes h_tryMuch h_tryAgainst h_tryLife h_tryShield h_ring h_row : Nat} {v_today : Int32} {v_kinds : Int32} {v_stacked : Int32} {v_drafters : Int32} {v_cards : Int32} {v_round : Int32} {v_turn : Int32} {v_high : Int32} {v_ringSize : Int32} {v_many : Int32} {r0 : Int32} {n_thrown : Int32} {n_has : Nat → Int32} (C0 : wCX p s args m meth c cX9_get 5 (some .int) RX9 wsX9_get) (hA : ∀ q, s.heap.size ≤ q → A q) (hK : va_K (dC, dI) vwCl (tysW cI cJ cZ cG) s) : ∀ (v_thrown : Int32) (v_has : Nat → Int32) (l1 : Int32) (l2 : Int32) (l3 : Int32) (s0 : Int32) (hz_s0 : wB s0) (H : Heap) (locs : List Loc) (ls : Array Slot), fX9_get_b20 v_kinds v_thrown v_has l1 l2 l3 s0 = some (r0, n_thrown, n_has) → va_P (dC, dI) vwCl (wcX9_get cI cJ cZ cG h h_effect h_number h_banned h_has h_life h_shield h_strength h_haveMet h_deck h_deckSize h_who h_does h_much h_against h_pack h_packSize h_gives h_wants h_tryWho h_tryDoes h_tryMuch h_tryAgainst h_tryLife h_tryShield h_ring h_row v_thrown v_today v_kinds v_stacked v_drafters v_cards v_round v_turn v_high v_ringSize v_many v_has) H → va_D A (wcX9_get cI cJ cZ cG h h_effect h_number h_banned h_has h_life h_shield h_strength h_haveMet h_deck h_deckSize h_who h_does h_much h_against h_pack h_packSize h_gives h_wants h_tryWho h_tryDoes h_tryMuch h_tryAgainst h_tryLife h_tryShield h_ring h_row v_thrown v_today v_kinds v_stacked v_drafters v_cards v_round v_turn v_high v_ringSize v_many v_has) → va_S A s.heap H locs → lv_has ls 5 [(0, .ref h), (1, .int l1), (2, .int l2), (3, .int l3)] → W p l e rmX9_get s m args below meth c H locs 0 0 (MQ below (wQi r0 (wcX9_get cI cJ cZ cG h h_effect h_number h_banned h_has h_life h_shield h_strength h_haveMet h_deck h_deckSize h_who h_does h_much h_against h_pack h_packSize h_gives h_wants h_tryWho h_tryDoes h_tryMuch h_tryAgainst h_tryLife h_tryShield h_ring h_row n_thrown v_today v_kinds v_stacked v_drafters v_cards v_round v_turn v_high v_ringSize v_many n_has) (dC, dI) A) args s 0 0 A) (F0 m 20 ls [.int s0]) := by
  obtain ⟨hx, hb, hr, hml, hown, hts, hlocks⟩ := id C0
  intro v_thrown v_has l1 l2 l3 s0 hz_s0 H locs ls hf hP hD hS hl
  unfold fX9_get_b20 at hf
  refine lv_istore (lv' := [(4, .int s0), (0, .ref h), (1, .int l1), (2, .int l2), (3, .int l3)]) hx hb dX9_get_20 hl (by decide) rfl (fun ls hl => ?_)
  refine lv_aload_n hx hb dX9_get_22 rfl (lv_at hl 1 rfl) ?_
  refine lv_iload hx hb dX9_get_23 (lv_at hl 0 rfl) ?_
  refine lv_if_ne (tgt := 32) hx hb dX9_get_25 (by decide) (fun c_1 => ?_) (fun c_1 => ?_)
  · have hf := it_f hf c_1
    refine lv_iload_n hx hb dX9_get_32 rfl (lv_at hl 4 rfl) ?_
    refine lv_iconst (v := 1) hx hb dX9_get_33 (by decide) ?_
    refine lv_bipush (v := 9) hx hb dX9_get_34 (by decide) ?_
    obtain ⟨r_2, hc_3, hf⟩ := ob_s hf
    refine w_callSz (As := [.int l3, .int 1, .int 9]) (rest := [.ref h]) ⟨hx, hb, hml, hown, hts⟩ (oX9_in l dC dI cI cJ cZ cG H.size l3 1 9 r_2 hc_3) (va_cwS 3 hts gX9_get_X9_in rfl rfl rfl (by decide +kernel) ⟨Nat.le_of_ble_eq_true rfl, Nat.le_of_ble_eq_true rfl⟩) hK hP hS hA rfl hl.1 rfl (Nat.le_of_ble_eq_true rfl) dX9_get_36 ⟨Nat.le_refl _, Nat.le_refl _⟩ (fun hz_4 H locs hP hS => ?_)
    refine lv_if_eq (tgt := 46) hx hb dX9_get_39 (by decide) (fun c_5 => ?_) (fun c_5 => ?_)
    · have hf := it_t hf c_5
      refine lv_iconst (v := 2) hx hb dX9_get_46 (by decide) ?_
      have hf : fX9_get_b47 v_kinds v_thrown v_has l1 l2 l3 2 = some (r0, n_thrown, n_has) := hf
      exact kX9_get_47 C0 hA hK v_thrown v_has l1 l2 l3 2 _ _ _ hf hP hD hS (lv_sub hl [1, 2, 3, 4] rfl)
    · have hf := it_f hf c_5
      refine lv_iconst (v := 0) hx hb dX9_get_42 (by decide) ?_
      refine lv_goto (tgt := 47) hx hb dX9_get_43 (by decide) ?_
      have hf : fX9_get_b47 v_kinds v_thrown v_has l1 l2 l3 0 = some (r0, n_thrown, n_has) := hf
      exact kX9_get_47 C0 hA hK v_thrown v_has l1 l2 l3 0 _ _ _ hf hP hD hS (lv_sub hl [1, 2, 3, 4] rfl)
  · have hf := it_t hf c_1
    refine lv_iconst (v := 1) hx hb dX9_get_28 (by decide) ?_
    refine lv_goto (tgt := 47) hx hb dX9_get_29 (by decide) ?_
    have hf : fX9_get_b47 v_kinds v_thrown v_has l1 l2 l3 1 = some (r0, n_thrown, n_has) := hf
    exact kX9_get_47 C0 hA hK v_thrown v_has l1 l2 l3 1 _ _ _ hf hP hD hS (lv_sub hl [1, 2, 3, 4] rfl)
set_option maxHeartbeats 4000000 in
set_option maxRecDepth 100000 in
theorem kX9_get_19 {p : Program} {l : Launch} {e : Env} {s : State} {m : MethodId} {args : Array Value} {below : List Frame} {meth : Method} {c : Code} {dC : Nat → ClassId} {dI : Nat → Nat → Nat} {A : Nat → Prop} {cI cJ cZ cG : ClassId} {h h_effect h_number h_banned h_has h_life h_shield h_strength h_haveMet h_deck h_deckSize h_who h_does h_much h_against h_pack h_packSize h_gives h_wants h_tryWho h_tryDoes h_tryMuch h_tryAgainst h_tryLife h_tryShield h_ring h_row : Nat} {v_today : Int32} {v_kinds : Int32} {v_stacked : Int32} {v_drafters : Int32} {v_cards : Int32} {v_round : Int32} {v_turn : Int32} {v_high : Int32} {v_ringSize : Int32} {v_many : Int32} {r0 : Int32} {n_thrown : Int32} {n_has : Nat → Int32} (C0 : wCX p s args m meth c cX9_get 5 (some .int) RX9 wsX9_get) (hA : ∀ q, s.heap.size ≤ q → A q) (hK : va_K (dC, dI) vwCl (tysW cI cJ cZ cG) s) : ∀ (v_thrown : Int32) (v_has : Nat → Int32) (l1 : Int32) (l2 : Int32) (l3 : Int32) (H : Heap) (locs : List Loc) (ls : Array Slot), fX9_get_b19 v_kinds v_thrown v_has l1 l2 l3 = some (r0, n_thrown, n_has) → va_P (dC, dI) vwCl (wcX9_get cI cJ cZ cG h h_effect h_number h_banned h_has h_life h_shield h_strength h_haveMet h_deck h_deckSize h_who h_does h_much h_against h_pack h_packSize h_gives h_wants h_tryWho h_tryDoes h_tryMuch h_tryAgainst h_tryLife h_tryShield h_ring h_row v_thrown v_today v_kinds v_stacked v_drafters v_cards v_round v_turn v_high v_ringSize v_many v_has) H → va_D A (wcX9_get cI cJ cZ cG h h_effect h_number h_banned h_has h_life h_shield h_strength h_haveMet h_deck h_deckSize h_who h_does h_much h_against h_pack h_packSize h_gives h_wants h_tryWho h_tryDoes h_tryMuch h_tryAgainst h_tryLife h_tryShield h_ring h_row v_thrown v_today v_kinds v_stacked v_drafters v_cards v_round v_turn v_high v_ringSize v_many v_has) → va_S A s.heap H locs → lv_has ls 5 [(0, .ref h), (1, .int l1), (2, .int l2), (3, .int l3)] → W p l e rmX9_get s m args below meth c H locs 0 0 (MQ below (wQi r0 (wcX9_get cI cJ cZ cG h h_effect h_number h_banned h_has h_life h_shield h_strength h_haveMet h_deck h_deckSize h_who h_does h_much h_against h_pack h_packSize h_gives h_wants h_tryWho h_tryDoes h_tryMuch h_tryAgainst h_tryLife h_tryShield h_ring h_row n_thrown v_today v_kinds v_stacked v_drafters v_cards v_round v_turn v_high v_ringSize v_many n_has) (dC, dI) A) args s 0 0 A) (F0 m 19 ls []) := by
  obtain ⟨hx, hb, hr, hml, hown, hts, hlocks⟩ := id C0
  intro v_thrown v_has l1 l2 l3 H locs ls hf hP hD hS hl
  unfold fX9_get_b19 at hf
  refine lv_iconst (v := 0) hx hb dX9_get_19 (by decide) ?_
  have hf : fX9_get_b20 v_kinds v_thrown v_has l1 l2 l3 0 = some (r0, n_thrown, n_has) := hf
  exact kX9_get_20 C0 hA hK v_thrown v_has l1 l2 l3 0 (Or.inl rfl) _ _ _ hf hP hD hS (lv_sub hl [0, 1, 2, 3] rfl)
set_option maxHeartbeats 4000000 in
set_option maxRecDepth 100000 in
theorem oX9_get (l : Launch) (dC : Nat → ClassId) (dI : Nat → Nat → Nat) (cI cJ cZ cG : ClassId) (h h_effect h_number h_banned h_has h_life h_shield h_strength h_haveMet h_deck h_deckSize h_who h_does h_much h_against h_pack h_packSize h_gives h_wants h_tryWho h_tryDoes h_tryMuch h_tryAgainst h_tryLife h_tryShield h_ring h_row : Nat) (v_thrown : Int32) (v_today : Int32) (v_kinds : Int32) (v_stacked : Int32) (v_drafters : Int32) (v_cards : Int32) (v_round : Int32) (v_turn : Int32) (v_high : Int32) (v_ringSize : Int32) (v_many : Int32) (v_has : Nat → Int32) (sz : Nat) (p1 : Int32) (p2 : Int32) (p3 : Int32) (r0 : Int32) (n_thrown : Int32) (n_has : Nat → Int32) (hf : fX9_get v_thrown v_kinds v_has p1 p2 p3 = some (r0, n_thrown, n_has)) : Met l yX9_get wsX9_get rmX9_get (wPc [.ref h, .int p1, .int p2, .int p3] (dC, dI) (tysW cI cJ cZ cG) sz (wcX9_get cI cJ cZ cG h h_effect h_number h_banned h_has h_life h_shield h_strength h_haveMet h_deck h_deckSize h_who h_does h_much h_against h_pack h_packSize h_gives h_wants h_tryWho h_tryDoes h_tryMuch h_tryAgainst h_tryLife h_tryShield h_ring h_row v_thrown v_today v_kinds v_stacked v_drafters v_cards v_round v_turn v_high v_ringSize v_many v_has)) (wQi r0 (wcX9_get cI cJ cZ cG h h_effect h_number h_banned h_has h_life h_shield h_strength h_haveMet h_deck h_deckSize h_who h_does h_much h_against h_pack h_packSize h_gives h_wants h_tryWho h_tryDoes h_tryMuch h_tryAgainst h_tryLife h_tryShield h_ring h_row n_thrown v_today v_kinds v_stacked v_drafters v_cards v_round v_turn v_high v_ringSize v_many n_has) (dC, dI) (va_A (wcX9_get cI cJ cZ cG h h_effect h_number h_banned h_has h_life h_shield h_strength h_haveMet h_deck h_deckSize h_who h_does h_much h_against h_pack h_packSize h_gives h_wants h_tryWho h_tryDoes h_tryMuch h_tryAgainst h_tryLife h_tryShield h_ring h_row v_thrown v_today v_kinds v_stacked v_drafters v_cards v_round v_turn v_high v_ringSize v_many v_has) sz)) 0 0 (va_A (wcX9_get cI cJ cZ cG h h_effect h_number h_banned h_has h_life h_shield h_strength h_haveMet h_deck h_deckSize h_who h_does h_much h_against h_pack h_packSize h_gives h_wants h_tryWho h_tryDoes h_tryMuch h_tryAgainst h_tryLife h_tryShield h_ring h_row v_thrown v_today v_kinds v_stacked v_drafters v_cards v_round v_turn v_high v_ringSize v_many v_has) sz) := by
  refine Met.ofW (cc := cX9_get) (maxL := 5) (ret := (some .int)) (by decide) rfl ?_
  intro p e s m args below meth c s₁ B hml hv
  obtain ⟨rfl, hsz, hP, hK, hD0⟩ := hv
  have hx := B.exec
  have hb := B.bytes
  have hr := B.returns
  have hts := atoms_spec (ws := wsX9_get) B.pre
  have hown : s.vm.findClass RX9 = some m.cls := findClass_of_methodNamed B.named
  have hlocks := B.notSynchronized
  subst hsz
  have hD := hD0.self (sz := s.heap.size)
  generalize hAe : va_A (wcX9_get cI cJ cZ cG h h_effect h_number h_banned h_has h_life h_shield h_strength h_haveMet h_deck h_deckSize h_who h_does h_much h_against h_pack h_packSize h_gives h_wants h_tryWho h_tryDoes h_tryMuch h_tryAgainst h_tryLife h_tryShield h_ring h_row v_thrown v_today v_kinds v_stacked v_drafters v_cards v_round v_turn v_high v_ringSize v_many v_has) s.heap.size = A at hD ⊢
  have hA : ∀ q : Nat, s.heap.size ≤ q → A q := fun q h => by rw [← hAe]; exact Or.inr h
  have hS : va_S A s.heap s.heap [] := va_S.rf
  have hP : va_P (dC, dI) vwCl (wcX9_get cI cJ cZ cG h h_effect h_number h_banned h_has h_life h_shield h_strength h_haveMet h_deck h_deckSize h_who h_does h_much h_against h_pack h_packSize h_gives h_wants h_tryWho h_tryDoes h_tryMuch h_tryAgainst h_tryLife h_tryShield h_ring h_row v_thrown v_today v_kinds v_stacked v_drafters v_cards v_round v_turn v_high v_ringSize v_many v_has) s.heap := hP
  have hl := lv_entry ([.ref h, .int p1, .int p2, .int p3]) (n := 5) (Nat.le_of_ble_eq_true rfl)
  rw [lg_entry_eq]
  generalize (lg_sl ([.ref h, .int p1, .int p2, .int p3]) ++ List.replicate (5 - (lg_sl ([.ref h, .int p1, .int p2, .int p3])).length) Slot.unset).toArray = ls at hl ⊢
  have hl : lv_has ls 5 [(0, .ref h), (1, .int p1), (2, .int p2), (3, .int p3)] := hl
  generalize hH : s.heap = H at hP hS ⊢
  have hS : va_S A s.heap H [] := by rw [hH]; exact hS
  have C0 : wCX p s #[.ref h, .int p1, .int p2, .int p3] m meth c cX9_get 5 (some .int) RX9 wsX9_get := ⟨hx, hb, hr, hml, hown, hts, hlocks⟩
  show W p l e rmX9_get s m #[.ref h, .int p1, .int p2, .int p3] below meth c H [] 0 0 (MQ below (wQi r0 (wcX9_get cI cJ cZ cG h h_effect h_number h_banned h_has h_life h_shield h_strength h_haveMet h_deck h_deckSize h_who h_does h_much h_against h_pack h_packSize h_gives h_wants h_tryWho h_tryDoes h_tryMuch h_tryAgainst h_tryLife h_tryShield h_ring h_row n_thrown v_today v_kinds v_stacked v_drafters v_cards v_round v_turn v_high v_ringSize v_many n_has) (dC, dI) A) #[.ref h, .int p1, .int p2, .int p3] s 0 0 A) (F0 m 0 ls [])
  unfold fX9_get at hf
  refine lv_iload_n hx hb dX9_get_0 rfl (lv_at hl 1 rfl) ?_
  obtain ⟨r_1, hc_2, hf⟩ := ob_s hf
  refine w_callSz (As := [.int p1]) (rest := []) ⟨hx, hb, hml, hown, hts⟩ (oX9_isPlayer l dC dI cI cJ cZ cG H.size p1 r_1 hc_2) (va_cwS 1 hts gX9_get_X9_isPlayer rfl rfl rfl (by decide +kernel) ⟨Nat.le_of_ble_eq_true rfl, Nat.le_of_ble_eq_true rfl⟩) hK hP hS hA rfl hl.1 rfl (Nat.le_of_ble_eq_true rfl) dX9_get_1 ⟨Nat.le_refl _, Nat.le_refl _⟩ (fun hz_3 H locs hP hS => ?_)
  refine lv_if_eq (tgt := 19) hx hb dX9_get_4 (by decide) (fun c_4 => ?_) (fun c_4 => ?_)
  · have hf := it_t hf c_4
    have hf : fX9_get_b19 v_kinds v_thrown v_has p1 p2 p3 = some (r0, n_thrown, n_has) := hf
    exact kX9_get_19 C0 hA hK v_thrown v_has p1 p2 p3 _ _ _ hf hP hD hS (lv_sub hl [0, 1, 2, 3] rfl)
  · have hf := it_f hf c_4
    refine lv_aload_n hx hb dX9_get_7 rfl (lv_at hl 0 rfl) ?_
    refine lv_iload_n hx hb dX9_get_8 rfl (lv_at hl 2 rfl) ?_
    obtain ⟨r_5, hc_6, hf⟩ := ob_s hf
    refine w_callVz (As := [.int p2]) (rest := []) (wr := List.filterMap (fun i : Nat => (wcX9_get cI cJ cZ cG h h_effect h_number h_banned h_has h_life h_shield h_strength h_haveMet h_deck h_deckSize h_who h_does h_much h_against h_pack h_packSize h_gives h_wants h_tryWho h_tryDoes h_tryMuch h_tryAgainst h_tryLife h_tryShield h_ring h_row v_thrown v_today v_kinds v_stacked v_drafters v_cards v_round v_turn v_high v_ringSize v_many v_has)[i]?) [1]) (ws1 := (wcX9_get cI cJ cZ cG h h_effect h_number h_banned h_has h_life h_shield h_strength h_haveMet h_deck h_deckSize h_who h_does h_much h_against h_pack h_packSize h_gives h_wants h_tryWho h_tryDoes h_tryMuch h_tryAgainst h_tryLife h_tryShield h_ring h_row v_thrown v_today v_kinds v_stacked v_drafters v_cards v_round v_turn v_high v_ringSize v_many v_has)) ⟨hx, hb, hml, hown, hts⟩ (oX9_isKind l dC dI cI cJ cZ cG h h_effect h_number h_banned h_has h_life h_shield h_strength h_haveMet h_deck h_deckSize h_who h_does h_much h_against h_pack h_packSize h_gives h_wants h_tryWho h_tryDoes h_tryMuch h_tryAgainst h_tryLife h_tryShield h_ring h_row v_thrown v_today v_kinds v_stacked v_drafters v_cards v_round v_turn v_high v_ringSize v_many H.size p2 r_5 hc_6) (cwV 1 hts gX9_get_X9_isKind rfl rfl rfl (by decide +kernel) ⟨Nat.le_of_ble_eq_true rfl, Nat.le_of_ble_eq_true rfl⟩) hK 0 9 rfl rfl rfl hP hD hS hA [0] [1] [1, 0] rfl rfl rfl rfl (by decide) rfl rfl rfl hl.1 rfl (Nat.le_of_ble_eq_true rfl) dX9_get_9 ⟨Nat.le_refl _, Nat.le_refl _⟩ (fun hz_7 H locs hP hD hS => ?_)
    refine lv_if_eq (tgt := 19) hx hb dX9_get_12 (by decide) (fun c_8 => ?_) (fun c_8 => ?_)
    · have hf := it_t hf c_8
      have hf : fX9_get_b19 v_kinds v_thrown v_has p1 p2 p3 = some (r0, n_thrown, n_has) := hf
      exact kX9_get_19 C0 hA hK v_thrown v_has p1 p2 p3 _ _ _ hf hP hD hS (lv_sub hl [0, 1, 2, 3] rfl)
    · have hf := it_f hf c_8
      refine lv_iconst (v := 1) hx hb dX9_get_15 (by decide) ?_
      refine lv_goto (tgt := 20) hx hb dX9_get_16 (by decide) ?_
      have hf : fX9_get_b20 v_kinds v_thrown v_has p1 p2 p3 1 = some (r0, n_thrown, n_has) := hf
      exact kX9_get_20 C0 hA hK v_thrown v_has p1 p2 p3 1 (Or.inr rfl) _ _ _ hf hP hD hS (lv_sub hl [0, 1, 2, 3] rfl)
abbrev wcX9_pass (cI cJ cZ cG : ClassId) (h h_effect h_number h_banned h_has h_life h_shield h_strength h_haveMet h_deck h_deckSize h_who h_does h_much h_against h_pack h_packSize h_gives h_wants h_tryWho h_tryDoes h_tryMuch h_tryAgainst h_tryLife h_tryShield h_ring h_row : Nat) (v_thrown : Int32) (v_today : Int32) (v_kinds : Int32) (v_stacked : Int32) (v_drafters : Int32) (v_cards : Int32) (v_round : Int32) (v_turn : Int32) (v_high : Int32) (v_ringSize : Int32) (v_many : Int32) : va_W := [(h, .inr (9, [.int v_thrown, .int v_today, .int v_kinds, .ref h_effect, .ref h_number, .ref h_banned, .ref h_has, .ref h_life, .ref h_shield, .ref h_strength, .ref h_haveMet, .ref h_deck, .ref h_deckSize, .int v_stacked, .ref h_who, .ref h_does, .ref h_much, .ref h_against, .int v_drafters, .int v_cards, .int v_round, .int v_turn, .ref h_pack, .ref h_packSize, .ref h_gives, .ref h_wants, .int v_high, .ref h_tryWho, .ref h_tryDoes, .ref h_tryMuch, .ref h_tryAgainst, .ref h_tryLife, .ref h_tryShield, .int v_ringSize, .ref h_ring, .int v_many, .ref h_row]))]
theorem iX9_pass_X9 : ∀ w ∈ wsX90, w ∈ wsX9_pass := by decide +kernel
theorem mX9_pass_0 : (Cond.fieldLink RX9 111 "SleevehallModel" "today" "I") ∈ wsX9_pass := by decide +kernel
abbrev rmX9_pass : Room := { frames := 1, cells := 0, slots := 0, locals := 22 }
set_option maxHeartbeats 4000000 in
set_option maxRecDepth 100000 in
theorem kX9_pass_34 {p : Program} {l : Launch} {e : Env} {s : State} {m : MethodId} {args : Array Value} {below : List Frame} {meth : Method} {c : Code} {dC : Nat → ClassId} {dI : Nat → Nat → Nat} {A : Nat → Prop} {cI cJ cZ cG : ClassId} {h h_effect h_number h_banned h_has h_life h_shield h_strength h_haveMet h_deck h_deckSize h_who h_does h_much h_against h_pack h_packSize h_gives h_wants h_tryWho h_tryDoes h_tryMuch h_tryAgainst h_tryLife h_tryShield h_ring h_row : Nat} {v_kinds : Int32} {v_stacked : Int32} {v_drafters : Int32} {v_cards : Int32} {v_round : Int32} {v_turn : Int32} {v_high : Int32} {v_ringSize : Int32} {v_many : Int32} {r0 : Int32} {n_thrown : Int32} {n_today : Int32} (C0 : wCX p s args m meth c cX9_pass 3 (some .int) RX9 wsX9_pass) (hA : ∀ q, s.heap.size ≤ q → A q) (hK : va_K (dC, dI) vwCl (tysW cI cJ cZ cG) s) : ∀ (v_thrown : Int32) (v_today : Int32) (l1 : Int32) (s1 : Int32) (H : Heap) (locs : List Loc) (ls : Array Slot), fX9_pass_b34 v_thrown v_today l1 s1 = some (r0, n_thrown, n_today) → va_P (dC, dI) vwCl (wcX9_pass cI cJ cZ cG h h_effect h_number h_banned h_has h_life h_shield h_strength h_haveMet h_deck h_deckSize h_who h_does h_much h_against h_pack h_packSize h_gives h_wants h_tryWho h_tryDoes h_tryMuch h_tryAgainst h_tryLife h_tryShield h_ring h_row v_thrown v_today v_kinds v_stacked v_drafters v_cards v_round v_turn v_high v_ringSize v_many) H → va_D A (wcX9_pass cI cJ cZ cG h h_effect h_number h_banned h_has h_life h_shield h_strength h_haveMet h_deck h_deckSize h_who h_does h_much h_against h_pack h_packSize h_gives h_wants h_tryWho h_tryDoes h_tryMuch h_tryAgainst h_tryLife h_tryShield h_ring h_row v_thrown v_today v_kinds v_stacked v_drafters v_cards v_round v_turn v_high v_ringSize v_many) → va_S A s.heap H locs → lv_has ls 3 [(0, .ref h), (1, .int l1)] → W p l e rmX9_pass s m args below meth c H locs 0 0 (MQ below (wQi r0 (wcX9_pass cI cJ cZ cG h h_effect h_number h_banned h_has h_life h_shield h_strength h_haveMet h_deck h_deckSize h_who h_does h_much h_against h_pack h_packSize h_gives h_wants h_tryWho h_tryDoes h_tryMuch h_tryAgainst h_tryLife h_tryShield h_ring h_row n_thrown n_today v_kinds v_stacked v_drafters v_cards v_round v_turn v_high v_ringSize v_many) (dC, dI) A) args s 0 0 A) (F0 m 34 ls [.int s1, .ref h]) := by
  obtain ⟨hx, hb, hr, hml, hown, hts, hlocks⟩ := id C0
  intro v_thrown v_today l1 s1 H locs ls hf hP hD hS hl
  unfold fX9_pass_b34 at hf
  obtain ⟨⟨r_1, w_2⟩, hc_3, hf⟩ := ob_s hf
  refine w_callVz (As := [.int s1]) (rest := []) (wr := List.filterMap (fun i : Nat => (wcX9_pass cI cJ cZ cG h h_effect h_number h_banned h_has h_life h_shield h_strength h_haveMet h_deck h_deckSize h_who h_does h_much h_against h_pack h_packSize h_gives h_wants h_tryWho h_tryDoes h_tryMuch h_tryAgainst h_tryLife h_tryShield h_ring h_row v_thrown v_today v_kinds v_stacked v_drafters v_cards v_round v_turn v_high v_ringSize v_many)[i]?) []) (ws1 := (wcX9_pass cI cJ cZ cG h h_effect h_number h_banned h_has h_life h_shield h_strength h_haveMet h_deck h_deckSize h_who h_does h_much h_against h_pack h_packSize h_gives h_wants h_tryWho h_tryDoes h_tryMuch h_tryAgainst h_tryLife h_tryShield h_ring h_row w_2 v_today v_kinds v_stacked v_drafters v_cards v_round v_turn v_high v_ringSize v_many)) ⟨hx, hb, hml, hown, hts⟩ (oX9_goesWell l dC dI cI cJ cZ cG h h_effect h_number h_banned h_has h_life h_shield h_strength h_haveMet h_deck h_deckSize h_who h_does h_much h_against h_pack h_packSize h_gives h_wants h_tryWho h_tryDoes h_tryMuch h_tryAgainst h_tryLife h_tryShield h_ring h_row v_thrown v_today v_kinds v_stacked v_drafters v_cards v_round v_turn v_high v_ringSize v_many H.size s1 r_1 w_2 hc_3) (cwV 1 hts gX9_pass_X9_goesWell rfl rfl rfl (by decide +kernel) ⟨Nat.le_of_ble_eq_true rfl, Nat.le_of_ble_eq_true rfl⟩) hK 0 9 rfl rfl rfl hP hD hS hA [0] [] [0] rfl rfl rfl rfl (by decide) rfl rfl rfl hl.1 rfl (Nat.le_of_ble_eq_true rfl) dX9_pass_34 ⟨Nat.le_refl _, Nat.le_refl _⟩ (fun hz_4 H locs hP hD hS => ?_)
  refine lv_if_ne (tgt := 42) hx hb dX9_pass_37 (by decide) (fun c_5 => ?_) (fun c_5 => ?_)
  · have hf := it_f hf c_5
    refine lv_aload_n hx hb dX9_pass_42 rfl (lv_at hl 0 rfl) ?_
    refine lv_dup hx hb dX9_pass_43 rfl ?_
    refine va_get (D := (dC, dI)) (ci := 9) (v := .int v_today) (C := RX9) (T := TX9) (N := 37) hx hb hts iX9_pass_X9 hown hK hP 0 rfl rfl 1 (by decide) (hts _ mX9_pass_0) (fun _ h9 => h9) rfl dX9_pass_44 ?_
    refine lv_iload_n hx hb dX9_pass_47 rfl (lv_at hl 1 rfl) ?_
    refine lv_iadd hx hb dX9_pass_48 ?_
    obtain ⟨x_6, ex_6, hf⟩ := nm_s hf
    refine w_eqi ex_6 ?_
    refine va_put (D := (dC, dI)) (ci := 9) (v := .int x_6) (ty := .int) (C := RX9) (T := TX9) (N := 37) hx hb hts iX9_pass_X9 tyX9 tyX9_ok nmX9 hown hK hP hD hS 0 rfl rfl 1 (by decide) (hts _ mX9_pass_0) (fun _ h9 => h9) rfl (by decide +kernel) rfl rfl (Nat.le_of_ble_eq_true rfl) dX9_pass_49 (fun H locs hP hD hS => ?_)
    have hP : va_P (dC, dI) vwCl (wcX9_pass cI cJ cZ cG h h_effect h_number h_banned h_has h_life h_shield h_strength h_haveMet h_deck h_deckSize h_who h_does h_much h_against h_pack h_packSize h_gives h_wants h_tryWho h_tryDoes h_tryMuch h_tryAgainst h_tryLife h_tryShield h_ring h_row w_2 x_6 v_kinds v_stacked v_drafters v_cards v_round v_turn v_high v_ringSize v_many) H := hP
    have hD : va_D A (wcX9_pass cI cJ cZ cG h h_effect h_number h_banned h_has h_life h_shield h_strength h_haveMet h_deck h_deckSize h_who h_does h_much h_against h_pack h_packSize h_gives h_wants h_tryWho h_tryDoes h_tryMuch h_tryAgainst h_tryLife h_tryShield h_ring h_row w_2 x_6 v_kinds v_stacked v_drafters v_cards v_round v_turn v_high v_ringSize v_many) := hD
    refine lv_aload_n hx hb dX9_pass_52 rfl (lv_at hl 0 rfl) ?_
    refine va_get (D := (dC, dI)) (ci := 9) (v := .int x_6) (C := RX9) (T := TX9) (N := 37) hx hb hts iX9_pass_X9 hown hK hP 0 rfl rfl 1 (by decide) (hts _ mX9_pass_0) (fun _ h9 => h9) rfl dX9_pass_53 ?_
    have hf : some (x_6, w_2, x_6) = some (r0, n_thrown, n_today) := hf
    cases hf
    exact w_iret hx hb hr hlocks rfl hP hD hS dX9_pass_56
  · have hf := it_t hf c_5
    refine lv_iconst (v := 0) hx hb dX9_pass_40 (by decide) ?_
    have hf : some (0, w_2, v_today) = some (r0, n_thrown, n_today) := hf
    cases hf
    exact w_iret hx hb hr hlocks rfl hP hD hS dX9_pass_41
set_option maxHeartbeats 4000000 in
set_option maxRecDepth 100000 in
theorem oX9_pass (l : Launch) (dC : Nat → ClassId) (dI : Nat → Nat → Nat) (cI cJ cZ cG : ClassId) (h h_effect h_number h_banned h_has h_life h_shield h_strength h_haveMet h_deck h_deckSize h_who h_does h_much h_against h_pack h_packSize h_gives h_wants h_tryWho h_tryDoes h_tryMuch h_tryAgainst h_tryLife h_tryShield h_ring h_row : Nat) (v_thrown : Int32) (v_today : Int32) (v_kinds : Int32) (v_stacked : Int32) (v_drafters : Int32) (v_cards : Int32) (v_round : Int32) (v_turn : Int32) (v_high : Int32) (v_ringSize : Int32) (v_many : Int32) (sz : Nat) (p1 : Int32) (r0 : Int32) (n_thrown : Int32) (n_today : Int32) (hf : fX9_pass v_thrown v_today p1 = some (r0, n_thrown, n_today)) : Met l yX9_pass wsX9_pass rmX9_pass (wPc [.ref h, .int p1] (dC, dI) (tysW cI cJ cZ cG) sz (wcX9_pass cI cJ cZ cG h h_effect h_number h_banned h_has h_life h_shield h_strength h_haveMet h_deck h_deckSize h_who h_does h_much h_against h_pack h_packSize h_gives h_wants h_tryWho h_tryDoes h_tryMuch h_tryAgainst h_tryLife h_tryShield h_ring h_row v_thrown v_today v_kinds v_stacked v_drafters v_cards v_round v_turn v_high v_ringSize v_many)) (wQi r0 (wcX9_pass cI cJ cZ cG h h_effect h_number h_banned h_has h_life h_shield h_strength h_haveMet h_deck h_deckSize h_who h_does h_much h_against h_pack h_packSize h_gives h_wants h_tryWho h_tryDoes h_tryMuch h_tryAgainst h_tryLife h_tryShield h_ring h_row n_thrown n_today v_kinds v_stacked v_drafters v_cards v_round v_turn v_high v_ringSize v_many) (dC, dI) (va_A (wcX9_pass cI cJ cZ cG h h_effect h_number h_banned h_has h_life h_shield h_strength h_haveMet h_deck h_deckSize h_who h_does h_much h_against h_pack h_packSize h_gives h_wants h_tryWho h_tryDoes h_tryMuch h_tryAgainst h_tryLife h_tryShield h_ring h_row v_thrown v_today v_kinds v_stacked v_drafters v_cards v_round v_turn v_high v_ringSize v_many) sz)) 0 0 (va_A (wcX9_pass cI cJ cZ cG h h_effect h_number h_banned h_has h_life h_shield h_strength h_haveMet h_deck h_deckSize h_who h_does h_much h_against h_pack h_packSize h_gives h_wants h_tryWho h_tryDoes h_tryMuch h_tryAgainst h_tryLife h_tryShield h_ring h_row v_thrown v_today v_kinds v_stacked v_drafters v_cards v_round v_turn v_high v_ringSize v_many) sz) := by
  refine Met.ofW (cc := cX9_pass) (maxL := 3) (ret := (some .int)) (by decide) rfl ?_
  intro p e s m args below meth c s₁ B hml hv
  obtain ⟨rfl, hsz, hP, hK, hD0⟩ := hv
  have hx := B.exec
  have hb := B.bytes
  have hr := B.returns
  have hts := atoms_spec (ws := wsX9_pass) B.pre
  have hown : s.vm.findClass RX9 = some m.cls := findClass_of_methodNamed B.named
  have hlocks := B.notSynchronized
  subst hsz
  have hD := hD0.self (sz := s.heap.size)
  generalize hAe : va_A (wcX9_pass cI cJ cZ cG h h_effect h_number h_banned h_has h_life h_shield h_strength h_haveMet h_deck h_deckSize h_who h_does h_much h_against h_pack h_packSize h_gives h_wants h_tryWho h_tryDoes h_tryMuch h_tryAgainst h_tryLife h_tryShield h_ring h_row v_thrown v_today v_kinds v_stacked v_drafters v_cards v_round v_turn v_high v_ringSize v_many) s.heap.size = A at hD ⊢
  have hA : ∀ q : Nat, s.heap.size ≤ q → A q := fun q h => by rw [← hAe]; exact Or.inr h
  have hS : va_S A s.heap s.heap [] := va_S.rf
  have hP : va_P (dC, dI) vwCl (wcX9_pass cI cJ cZ cG h h_effect h_number h_banned h_has h_life h_shield h_strength h_haveMet h_deck h_deckSize h_who h_does h_much h_against h_pack h_packSize h_gives h_wants h_tryWho h_tryDoes h_tryMuch h_tryAgainst h_tryLife h_tryShield h_ring h_row v_thrown v_today v_kinds v_stacked v_drafters v_cards v_round v_turn v_high v_ringSize v_many) s.heap := hP
  have hl := lv_entry ([.ref h, .int p1]) (n := 3) (Nat.le_of_ble_eq_true rfl)
  rw [lg_entry_eq]
  generalize (lg_sl ([.ref h, .int p1]) ++ List.replicate (3 - (lg_sl ([.ref h, .int p1])).length) Slot.unset).toArray = ls at hl ⊢
  have hl : lv_has ls 3 [(0, .ref h), (1, .int p1)] := hl
  generalize hH : s.heap = H at hP hS ⊢
  have hS : va_S A s.heap H [] := by rw [hH]; exact hS
  have C0 : wCX p s #[.ref h, .int p1] m meth c cX9_pass 3 (some .int) RX9 wsX9_pass := ⟨hx, hb, hr, hml, hown, hts, hlocks⟩
  show W p l e rmX9_pass s m #[.ref h, .int p1] below meth c H [] 0 0 (MQ below (wQi r0 (wcX9_pass cI cJ cZ cG h h_effect h_number h_banned h_has h_life h_shield h_strength h_haveMet h_deck h_deckSize h_who h_does h_much h_against h_pack h_packSize h_gives h_wants h_tryWho h_tryDoes h_tryMuch h_tryAgainst h_tryLife h_tryShield h_ring h_row n_thrown n_today v_kinds v_stacked v_drafters v_cards v_round v_turn v_high v_ringSize v_many) (dC, dI) A) #[.ref h, .int p1] s 0 0 A) (F0 m 0 ls [])
  unfold fX9_pass at hf
  refine lv_iload_n hx hb dX9_pass_0 rfl (lv_at hl 1 rfl) ?_
  refine lv_iconst (v := 1) hx hb dX9_pass_1 (by decide) ?_
  refine lv_bipush (v := 100) hx hb dX9_pass_2 (by decide) ?_
  obtain ⟨r_1, hc_2, hf⟩ := ob_s hf
  refine w_callSz (As := [.int p1, .int 1, .int 100]) (rest := []) ⟨hx, hb, hml, hown, hts⟩ (oX9_in l dC dI cI cJ cZ cG H.size p1 1 100 r_1 hc_2) (va_cwS 3 hts gX9_pass_X9_in rfl rfl rfl (by decide +kernel) ⟨Nat.le_of_ble_eq_true rfl, Nat.le_of_ble_eq_true rfl⟩) hK hP hS hA rfl hl.1 rfl (Nat.le_of_ble_eq_true rfl) dX9_pass_4 ⟨Nat.le_refl _, Nat.le_refl _⟩ (fun hz_3 H locs hP hS => ?_)
  refine lv_istore_n (lv' := [(2, .int r_1), (0, .ref h), (1, .int p1)]) hx hb dX9_pass_7 rfl hl (by decide) rfl (fun ls hl => ?_)
  refine lv_aload_n hx hb dX9_pass_8 rfl (lv_at hl 1 rfl) ?_
  refine lv_iload_n hx hb dX9_pass_9 rfl (lv_at hl 0 rfl) ?_
  refine lv_if_ne (tgt := 17) hx hb dX9_pass_10 (by decide) (fun c_4 => ?_) (fun c_4 => ?_)
  · have hf := it_f hf c_4
    refine lv_aload_n hx hb dX9_pass_17 rfl (lv_at hl 1 rfl) ?_
    refine va_get (D := (dC, dI)) (ci := 9) (v := .int v_today) (C := RX9) (T := TX9) (N := 37) hx hb hts iX9_pass_X9 hown hK hP 0 rfl rfl 1 (by decide) (hts _ mX9_pass_0) (fun _ h9 => h9) rfl dX9_pass_18 ?_
    refine lv_iload_n hx hb dX9_pass_21 rfl (lv_at hl 2 rfl) ?_
    refine lv_iadd hx hb dX9_pass_22 ?_
    refine lv_sipush (v := 1000) hx hb dX9_pass_23 (by decide) ?_
    refine lv_icmp_le (tgt := 33) hx hb dX9_pass_26 (by decide) (fun c_5 => ?_) (fun c_5 => ?_)
    · have hf := it_t hf c_5
      refine lv_iconst (v := 0) hx hb dX9_pass_33 (by decide) ?_
      have hf : fX9_pass_b34 v_thrown v_today p1 0 = some (r0, n_thrown, n_today) := hf
      exact kX9_pass_34 C0 hA hK v_thrown v_today p1 0 _ _ _ hf hP hD hS (lv_sub hl [1, 2] rfl)
    · have hf := it_f hf c_5
      refine lv_iconst (v := 2) hx hb dX9_pass_29 (by decide) ?_
      refine lv_goto (tgt := 34) hx hb dX9_pass_30 (by decide) ?_
      have hf : fX9_pass_b34 v_thrown v_today p1 2 = some (r0, n_thrown, n_today) := hf
      exact kX9_pass_34 C0 hA hK v_thrown v_today p1 2 _ _ _ hf hP hD hS (lv_sub hl [1, 2] rfl)
  · have hf := it_t hf c_4
    refine lv_iconst (v := 1) hx hb dX9_pass_13 (by decide) ?_
    refine lv_goto (tgt := 34) hx hb dX9_pass_14 (by decide) ?_
    have hf : fX9_pass_b34 v_thrown v_today p1 1 = some (r0, n_thrown, n_today) := hf
    exact kX9_pass_34 C0 hA hK v_thrown v_today p1 1 _ _ _ hf hP hD hS (lv_sub hl [1, 2] rfl)
abbrev wcX9_play (cI cJ cZ cG : ClassId) (h h_effect h_number h_banned h_has h_life h_shield h_strength h_haveMet h_deck h_deckSize h_who h_does h_much h_against h_pack h_packSize h_gives h_wants h_tryWho h_tryDoes h_tryMuch h_tryAgainst h_tryLife h_tryShield h_ring h_row : Nat) (v_thrown : Int32) (v_today : Int32) (v_kinds : Int32) (v_stacked : Int32) (v_drafters : Int32) (v_cards : Int32) (v_round : Int32) (v_turn : Int32) (v_high : Int32) (v_ringSize : Int32) (v_many : Int32) (v_effect : Nat → Int32) (v_number : Nat → Int32) (v_banned : Nat → Int32) (v_has : Nat → Int32) (v_who : Nat → Int32) (v_does : Nat → Int32) (v_much : Nat → Int32) (v_against : Nat → Int32) : va_W := [(h, .inr (9, [.int v_thrown, .int v_today, .int v_kinds, .ref h_effect, .ref h_number, .ref h_banned, .ref h_has, .ref h_life, .ref h_shield, .ref h_strength, .ref h_haveMet, .ref h_deck, .ref h_deckSize, .int v_stacked, .ref h_who, .ref h_does, .ref h_much, .ref h_against, .int v_drafters, .int v_cards, .int v_round, .int v_turn, .ref h_pack, .ref h_packSize, .ref h_gives, .ref h_wants, .int v_high, .ref h_tryWho, .ref h_tryDoes, .ref h_tryMuch, .ref h_tryAgainst, .ref h_tryLife, .ref h_tryShield, .int v_ringSize, .ref h_ring, .int v_many, .ref h_row])), (h_effect, .inl (cI, 20, .inl v_effect)), (h_number, .inl (cI, 20, .inl v_number)), (h_banned, .inl (cI, 20, .inl v_banned)), (h_has, .inl (cI, 120, .inl v_has)), (h_who, .inl (cI, 6, .inl v_who)), (h_does, .inl (cI, 6, .inl v_does)), (h_much, .inl (cI, 6, .inl v_much)), (h_against, .inl (cI, 6, .inl v_against))]
theorem iX9_play_X9 : ∀ w ∈ wsX90, w ∈ wsX9_play := by decide +kernel
theorem mX9_play_0 : (Cond.fieldLink RX9 19 "SleevehallModel" "has" "[I") ∈ wsX9_play := by decide +kernel
theorem mX9_play_1 : (Cond.fieldLink RX9 111 "SleevehallModel" "today" "I") ∈ wsX9_play := by decide +kernel
theorem mX9_play_2 : (Cond.fieldLink RX9 125 "SleevehallModel" "stacked" "I") ∈ wsX9_play := by decide +kernel
theorem mX9_play_3 : (Cond.fieldLink RX9 41 "SleevehallModel" "who" "[I") ∈ wsX9_play := by decide +kernel
theorem mX9_play_4 : (Cond.fieldLink RX9 44 "SleevehallModel" "does" "[I") ∈ wsX9_play := by decide +kernel
theorem mX9_play_5 : (Cond.fieldLink RX9 7 "SleevehallModel" "effect" "[I") ∈ wsX9_play := by decide +kernel
theorem mX9_play_6 : (Cond.fieldLink RX9 47 "SleevehallModel" "much" "[I") ∈ wsX9_play := by decide +kernel
theorem mX9_play_7 : (Cond.fieldLink RX9 13 "SleevehallModel" "number" "[I") ∈ wsX9_play := by decide +kernel
theorem mX9_play_8 : (Cond.fieldLink RX9 50 "SleevehallModel" "against" "[I") ∈ wsX9_play := by decide +kernel
abbrev rmX9_play : Room := { frames := 2, cells := 0, slots := 0, locals := 43 }
set_option maxHeartbeats 4000000 in
set_option maxRecDepth 100000 in
theorem kX9_play_96 {p : Program} {l : Launch} {e : Env} {s : State} {m : MethodId} {args : Array Value} {below : List Frame} {meth : Method} {c : Code} {dC : Nat → ClassId} {dI : Nat → Nat → Nat} {A : Nat → Prop} {cI cJ cZ cG : ClassId} {h h_effect h_number h_banned h_has h_life h_shield h_strength h_haveMet h_deck h_deckSize h_who h_does h_much h_against h_pack h_packSize h_gives h_wants h_tryWho h_tryDoes h_tryMuch h_tryAgainst h_tryLife h_tryShield h_ring h_row : Nat} {v_today : Int32} {v_kinds : Int32} {v_drafters : Int32} {v_cards : Int32} {v_round : Int32} {v_turn : Int32} {v_high : Int32} {v_ringSize : Int32} {v_many : Int32} {v_effect : Nat → Int32} {v_number : Nat → Int32} {v_banned : Nat → Int32} {v_has : Nat → Int32} {r0 : Int32} {n_thrown : Int32} {n_stacked : Int32} {n_who : Nat → Int32} {n_does : Nat → Int32} {n_much : Nat → Int32} {n_against : Nat → Int32} (C0 : wCX p s args m meth c cX9_play 6 (some .int) RX9 wsX9_play) (hA : ∀ q, s.heap.size ≤ q → A q) (hK : va_K (dC, dI) vwCl (tysW cI cJ cZ cG) s) : ∀ (v_thrown : Int32) (v_stacked : Int32) (v_who : Nat → Int32) (v_does : Nat → Int32) (v_much : Nat → Int32) (v_against : Nat → Int32) (l1 : Int32) (l2 : Int32) (l3 : Int32) (s1 : Int32) (H : Heap) (locs : List Loc) (ls : Array Slot), fX9_play_b96 v_today v_kinds v_effect v_number v_banned v_has v_thrown v_stacked v_who v_does v_much v_against l1 l2 l3 s1 = some (r0, n_thrown, n_stacked, n_who, n_does, n_much, n_against) → va_P (dC, dI) vwCl (wcX9_play cI cJ cZ cG h h_effect h_number h_banned h_has h_life h_shield h_strength h_haveMet h_deck h_deckSize h_who h_does h_much h_against h_pack h_packSize h_gives h_wants h_tryWho h_tryDoes h_tryMuch h_tryAgainst h_tryLife h_tryShield h_ring h_row v_thrown v_today v_kinds v_stacked v_drafters v_cards v_round v_turn v_high v_ringSize v_many v_effect v_number v_banned v_has v_who v_does v_much v_against) H → va_D A (wcX9_play cI cJ cZ cG h h_effect h_number h_banned h_has h_life h_shield h_strength h_haveMet h_deck h_deckSize h_who h_does h_much h_against h_pack h_packSize h_gives h_wants h_tryWho h_tryDoes h_tryMuch h_tryAgainst h_tryLife h_tryShield h_ring h_row v_thrown v_today v_kinds v_stacked v_drafters v_cards v_round v_turn v_high v_ringSize v_many v_effect v_number v_banned v_has v_who v_does v_much v_against) → va_S A s.heap H locs → lv_has ls 6 [(0, .ref h), (1, .int l1), (2, .int l2), (3, .int l3)] → W p l e rmX9_play s m args below meth c H locs 0 0 (MQ below (wQi r0 (wcX9_play cI cJ cZ cG h h_effect h_number h_banned h_has h_life h_shield h_strength h_haveMet h_deck h_deckSize h_who h_does h_much h_against h_pack h_packSize h_gives h_wants h_tryWho h_tryDoes h_tryMuch h_tryAgainst h_tryLife h_tryShield h_ring h_row n_thrown v_today v_kinds n_stacked v_drafters v_cards v_round v_turn v_high v_ringSize v_many v_effect v_number v_banned v_has n_who n_does n_much n_against) (dC, dI) A) args s 0 0 A) (F0 m 96 ls [.int s1, .ref h]) := by
  obtain ⟨hx, hb, hr, hml, hown, hts, hlocks⟩ := id C0
  intro v_thrown v_stacked v_who v_does v_much v_against l1 l2 l3 s1 H locs ls hf hP hD hS hl
  unfold fX9_play_b96 at hf
  obtain ⟨⟨r_1, w_2⟩, hc_3, hf⟩ := ob_s hf
  refine w_callVz (As := [.int s1]) (rest := []) (wr := List.filterMap (fun i : Nat => (wcX9_play cI cJ cZ cG h h_effect h_number h_banned h_has h_life h_shield h_strength h_haveMet h_deck h_deckSize h_who h_does h_much h_against h_pack h_packSize h_gives h_wants h_tryWho h_tryDoes h_tryMuch h_tryAgainst h_tryLife h_tryShield h_ring h_row v_thrown v_today v_kinds v_stacked v_drafters v_cards v_round v_turn v_high v_ringSize v_many v_effect v_number v_banned v_has v_who v_does v_much v_against)[i]?) [1, 2, 3, 4, 5, 6, 7, 8]) (ws1 := (wcX9_play cI cJ cZ cG h h_effect h_number h_banned h_has h_life h_shield h_strength h_haveMet h_deck h_deckSize h_who h_does h_much h_against h_pack h_packSize h_gives h_wants h_tryWho h_tryDoes h_tryMuch h_tryAgainst h_tryLife h_tryShield h_ring h_row w_2 v_today v_kinds v_stacked v_drafters v_cards v_round v_turn v_high v_ringSize v_many v_effect v_number v_banned v_has v_who v_does v_much v_against)) ⟨hx, hb, hml, hown, hts⟩ (oX9_goesWell l dC dI cI cJ cZ cG h h_effect h_number h_banned h_has h_life h_shield h_strength h_haveMet h_deck h_deckSize h_who h_does h_much h_against h_pack h_packSize h_gives h_wants h_tryWho h_tryDoes h_tryMuch h_tryAgainst h_tryLife h_tryShield h_ring h_row v_thrown v_today v_kinds v_stacked v_drafters v_cards v_round v_turn v_high v_ringSize v_many H.size s1 r_1 w_2 hc_3) (cwV 1 hts gX9_play_X9_goesWell rfl rfl rfl (by decide +kernel) ⟨Nat.le_of_ble_eq_true rfl, Nat.le_of_ble_eq_true rfl⟩) hK 0 9 rfl rfl rfl hP hD hS hA [0] [1, 2, 3, 4, 5, 6, 7, 8] [8, 0, 1, 2, 3, 4, 5, 6, 7] rfl rfl rfl rfl (by decide) rfl rfl rfl hl.1 rfl (Nat.le_of_ble_eq_true rfl) dX9_play_96 ⟨Nat.le_refl _, Nat.le_refl _⟩ (fun hz_4 H locs hP hD hS => ?_)
  refine lv_if_ne (tgt := 104) hx hb dX9_play_99 (by decide) (fun c_5 => ?_) (fun c_5 => ?_)
  · have hf := it_f hf c_5
    refine lv_aload_n hx hb dX9_play_104 rfl (lv_at hl 0 rfl) ?_
    refine va_get (D := (dC, dI)) (ci := 9) (v := .ref h_who) (C := RX9) (T := TX9) (N := 37) hx hb hts iX9_play_X9 hown hK hP 0 rfl rfl 14 (by decide) (hts _ mX9_play_3) (fun _ h9 => h9) rfl dX9_play_105 ?_
    refine lv_aload_n hx hb dX9_play_108 rfl (lv_at hl 0 rfl) ?_
    refine va_get (D := (dC, dI)) (ci := 9) (v := .int v_stacked) (C := RX9) (T := TX9) (N := 37) hx hb hts iX9_play_X9 hown hK hP 0 rfl rfl 13 (by decide) (hts _ mX9_play_2) (fun _ h9 => h9) rfl dX9_play_109 ?_
    refine lv_iload_n hx hb dX9_play_112 rfl (lv_at hl 1 rfl) ?_
    obtain ⟨hg_6, hf⟩ := ck_s hf
    refine va_iast (D := (dC, dI)) hx hb hK hP hD hS 5 0 rfl rfl (g_vp hg_6) dX9_play_113 (fun H locs hP hD hS => ?_)
    have hP : va_P (dC, dI) vwCl (wcX9_play cI cJ cZ cG h h_effect h_number h_banned h_has h_life h_shield h_strength h_haveMet h_deck h_deckSize h_who h_does h_much h_against h_pack h_packSize h_gives h_wants h_tryWho h_tryDoes h_tryMuch h_tryAgainst h_tryLife h_tryShield h_ring h_row w_2 v_today v_kinds v_stacked v_drafters v_cards v_round v_turn v_high v_ringSize v_many v_effect v_number v_banned v_has (upd v_who v_stacked.toNatClampNeg l1) v_does v_much v_against) H := hP
    have hD : va_D A (wcX9_play cI cJ cZ cG h h_effect h_number h_banned h_has h_life h_shield h_strength h_haveMet h_deck h_deckSize h_who h_does h_much h_against h_pack h_packSize h_gives h_wants h_tryWho h_tryDoes h_tryMuch h_tryAgainst h_tryLife h_tryShield h_ring h_row w_2 v_today v_kinds v_stacked v_drafters v_cards v_round v_turn v_high v_ringSize v_many v_effect v_number v_banned v_has (upd v_who v_stacked.toNatClampNeg l1) v_does v_much v_against) := hD
    refine lv_aload_n hx hb dX9_play_114 rfl (lv_at hl 0 rfl) ?_
    refine va_get (D := (dC, dI)) (ci := 9) (v := .ref h_does) (C := RX9) (T := TX9) (N := 37) hx hb hts iX9_play_X9 hown hK hP 0 rfl rfl 15 (by decide) (hts _ mX9_play_4) (fun _ h9 => h9) rfl dX9_play_115 ?_
    refine lv_aload_n hx hb dX9_play_118 rfl (lv_at hl 0 rfl) ?_
    refine va_get (D := (dC, dI)) (ci := 9) (v := .int v_stacked) (C := RX9) (T := TX9) (N := 37) hx hb hts iX9_play_X9 hown hK hP 0 rfl rfl 13 (by decide) (hts _ mX9_play_2) (fun _ h9 => h9) rfl dX9_play_119 ?_
    refine lv_aload_n hx hb dX9_play_122 rfl (lv_at hl 0 rfl) ?_
    refine va_get (D := (dC, dI)) (ci := 9) (v := .ref h_effect) (C := RX9) (T := TX9) (N := 37) hx hb hts iX9_play_X9 hown hK hP 0 rfl rfl 3 (by decide) (hts _ mX9_play_5) (fun _ h9 => h9) rfl dX9_play_123 ?_
    refine lv_iload_n hx hb dX9_play_126 rfl (lv_at hl 2 rfl) ?_
    obtain ⟨hg_7, hf⟩ := ck_s hf
    refine va_iald (D := (dC, dI)) hx hb hK hP 1 0 rfl rfl (g_vp hg_7) dX9_play_127 ?_
    obtain ⟨x_8, ex_8, hf⟩ := nm_s hf
    refine w_eqi ex_8 ?_
    obtain ⟨hg_9, hf⟩ := ck_s hf
    refine va_iast (D := (dC, dI)) hx hb hK hP hD hS 6 0 rfl rfl (g_vp hg_9) dX9_play_128 (fun H locs hP hD hS => ?_)
    have hP : va_P (dC, dI) vwCl (wcX9_play cI cJ cZ cG h h_effect h_number h_banned h_has h_life h_shield h_strength h_haveMet h_deck h_deckSize h_who h_does h_much h_against h_pack h_packSize h_gives h_wants h_tryWho h_tryDoes h_tryMuch h_tryAgainst h_tryLife h_tryShield h_ring h_row w_2 v_today v_kinds v_stacked v_drafters v_cards v_round v_turn v_high v_ringSize v_many v_effect v_number v_banned v_has (upd v_who v_stacked.toNatClampNeg l1) (upd v_does v_stacked.toNatClampNeg x_8) v_much v_against) H := hP
    have hD : va_D A (wcX9_play cI cJ cZ cG h h_effect h_number h_banned h_has h_life h_shield h_strength h_haveMet h_deck h_deckSize h_who h_does h_much h_against h_pack h_packSize h_gives h_wants h_tryWho h_tryDoes h_tryMuch h_tryAgainst h_tryLife h_tryShield h_ring h_row w_2 v_today v_kinds v_stacked v_drafters v_cards v_round v_turn v_high v_ringSize v_many v_effect v_number v_banned v_has (upd v_who v_stacked.toNatClampNeg l1) (upd v_does v_stacked.toNatClampNeg x_8) v_much v_against) := hD
    refine lv_aload_n hx hb dX9_play_129 rfl (lv_at hl 0 rfl) ?_
    refine va_get (D := (dC, dI)) (ci := 9) (v := .ref h_much) (C := RX9) (T := TX9) (N := 37) hx hb hts iX9_play_X9 hown hK hP 0 rfl rfl 16 (by decide) (hts _ mX9_play_6) (fun _ h9 => h9) rfl dX9_play_130 ?_
    refine lv_aload_n hx hb dX9_play_133 rfl (lv_at hl 0 rfl) ?_
    refine va_get (D := (dC, dI)) (ci := 9) (v := .int v_stacked) (C := RX9) (T := TX9) (N := 37) hx hb hts iX9_play_X9 hown hK hP 0 rfl rfl 13 (by decide) (hts _ mX9_play_2) (fun _ h9 => h9) rfl dX9_play_134 ?_
    refine lv_aload_n hx hb dX9_play_137 rfl (lv_at hl 0 rfl) ?_
    refine va_get (D := (dC, dI)) (ci := 9) (v := .ref h_number) (C := RX9) (T := TX9) (N := 37) hx hb hts iX9_play_X9 hown hK hP 0 rfl rfl 4 (by decide) (hts _ mX9_play_7) (fun _ h9 => h9) rfl dX9_play_138 ?_
    refine lv_iload_n hx hb dX9_play_141 rfl (lv_at hl 2 rfl) ?_
    obtain ⟨hg_10, hf⟩ := ck_s hf
    refine va_iald (D := (dC, dI)) hx hb hK hP 2 0 rfl rfl (g_vp hg_10) dX9_play_142 ?_
    obtain ⟨x_11, ex_11, hf⟩ := nm_s hf
    refine w_eqi ex_11 ?_
    obtain ⟨hg_12, hf⟩ := ck_s hf
    refine va_iast (D := (dC, dI)) hx hb hK hP hD hS 7 0 rfl rfl (g_vp hg_12) dX9_play_143 (fun H locs hP hD hS => ?_)
    have hP : va_P (dC, dI) vwCl (wcX9_play cI cJ cZ cG h h_effect h_number h_banned h_has h_life h_shield h_strength h_haveMet h_deck h_deckSize h_who h_does h_much h_against h_pack h_packSize h_gives h_wants h_tryWho h_tryDoes h_tryMuch h_tryAgainst h_tryLife h_tryShield h_ring h_row w_2 v_today v_kinds v_stacked v_drafters v_cards v_round v_turn v_high v_ringSize v_many v_effect v_number v_banned v_has (upd v_who v_stacked.toNatClampNeg l1) (upd v_does v_stacked.toNatClampNeg x_8) (upd v_much v_stacked.toNatClampNeg x_11) v_against) H := hP
    have hD : va_D A (wcX9_play cI cJ cZ cG h h_effect h_number h_banned h_has h_life h_shield h_strength h_haveMet h_deck h_deckSize h_who h_does h_much h_against h_pack h_packSize h_gives h_wants h_tryWho h_tryDoes h_tryMuch h_tryAgainst h_tryLife h_tryShield h_ring h_row w_2 v_today v_kinds v_stacked v_drafters v_cards v_round v_turn v_high v_ringSize v_many v_effect v_number v_banned v_has (upd v_who v_stacked.toNatClampNeg l1) (upd v_does v_stacked.toNatClampNeg x_8) (upd v_much v_stacked.toNatClampNeg x_11) v_against) := hD
    refine lv_aload_n hx hb dX9_play_144 rfl (lv_at hl 0 rfl) ?_
    refine va_get (D := (dC, dI)) (ci := 9) (v := .ref h_against) (C := RX9) (T := TX9) (N := 37) hx hb hts iX9_play_X9 hown hK hP 0 rfl rfl 17 (by decide) (hts _ mX9_play_8) (fun _ h9 => h9) rfl dX9_play_145 ?_
    refine lv_aload_n hx hb dX9_play_148 rfl (lv_at hl 0 rfl) ?_
    refine va_get (D := (dC, dI)) (ci := 9) (v := .int v_stacked) (C := RX9) (T := TX9) (N := 37) hx hb hts iX9_play_X9 hown hK hP 0 rfl rfl 13 (by decide) (hts _ mX9_play_2) (fun _ h9 => h9) rfl dX9_play_149 ?_
    refine lv_iload_n hx hb dX9_play_152 rfl (lv_at hl 3 rfl) ?_
    obtain ⟨hg_13, hf⟩ := ck_s hf
    refine va_iast (D := (dC, dI)) hx hb hK hP hD hS 8 0 rfl rfl (g_vp hg_13) dX9_play_153 (fun H locs hP hD hS => ?_)
    have hP : va_P (dC, dI) vwCl (wcX9_play cI cJ cZ cG h h_effect h_number h_banned h_has h_life h_shield h_strength h_haveMet h_deck h_deckSize h_who h_does h_much h_against h_pack h_packSize h_gives h_wants h_tryWho h_tryDoes h_tryMuch h_tryAgainst h_tryLife h_tryShield h_ring h_row w_2 v_today v_kinds v_stacked v_drafters v_cards v_round v_turn v_high v_ringSize v_many v_effect v_number v_banned v_has (upd v_who v_stacked.toNatClampNeg l1) (upd v_does v_stacked.toNatClampNeg x_8) (upd v_much v_stacked.toNatClampNeg x_11) (upd v_against v_stacked.toNatClampNeg l3)) H := hP
    have hD : va_D A (wcX9_play cI cJ cZ cG h h_effect h_number h_banned h_has h_life h_shield h_strength h_haveMet h_deck h_deckSize h_who h_does h_much h_against h_pack h_packSize h_gives h_wants h_tryWho h_tryDoes h_tryMuch h_tryAgainst h_tryLife h_tryShield h_ring h_row w_2 v_today v_kinds v_stacked v_drafters v_cards v_round v_turn v_high v_ringSize v_many v_effect v_number v_banned v_has (upd v_who v_stacked.toNatClampNeg l1) (upd v_does v_stacked.toNatClampNeg x_8) (upd v_much v_stacked.toNatClampNeg x_11) (upd v_against v_stacked.toNatClampNeg l3)) := hD
    refine lv_aload_n hx hb dX9_play_154 rfl (lv_at hl 0 rfl) ?_
    refine lv_dup hx hb dX9_play_155 rfl ?_
    refine va_get (D := (dC, dI)) (ci := 9) (v := .int v_stacked) (C := RX9) (T := TX9) (N := 37) hx hb hts iX9_play_X9 hown hK hP 0 rfl rfl 13 (by decide) (hts _ mX9_play_2) (fun _ h9 => h9) rfl dX9_play_156 ?_
    refine lv_iconst (v := 1) hx hb dX9_play_159 (by decide) ?_
    refine lv_iadd hx hb dX9_play_160 ?_
    obtain ⟨x_14, ex_14, hf⟩ := nm_s hf
    refine w_eqi ex_14 ?_
    refine va_put (D := (dC, dI)) (ci := 9) (v := .int x_14) (ty := .int) (C := RX9) (T := TX9) (N := 37) hx hb hts iX9_play_X9 tyX9 tyX9_ok nmX9 hown hK hP hD hS 0 rfl rfl 13 (by decide) (hts _ mX9_play_2) (fun _ h9 => h9) rfl (by decide +kernel) rfl rfl (Nat.le_of_ble_eq_true rfl) dX9_play_161 (fun H locs hP hD hS => ?_)
    have hP : va_P (dC, dI) vwCl (wcX9_play cI cJ cZ cG h h_effect h_number h_banned h_has h_life h_shield h_strength h_haveMet h_deck h_deckSize h_who h_does h_much h_against h_pack h_packSize h_gives h_wants h_tryWho h_tryDoes h_tryMuch h_tryAgainst h_tryLife h_tryShield h_ring h_row w_2 v_today v_kinds x_14 v_drafters v_cards v_round v_turn v_high v_ringSize v_many v_effect v_number v_banned v_has (upd v_who v_stacked.toNatClampNeg l1) (upd v_does v_stacked.toNatClampNeg x_8) (upd v_much v_stacked.toNatClampNeg x_11) (upd v_against v_stacked.toNatClampNeg l3)) H := hP
    have hD : va_D A (wcX9_play cI cJ cZ cG h h_effect h_number h_banned h_has h_life h_shield h_strength h_haveMet h_deck h_deckSize h_who h_does h_much h_against h_pack h_packSize h_gives h_wants h_tryWho h_tryDoes h_tryMuch h_tryAgainst h_tryLife h_tryShield h_ring h_row w_2 v_today v_kinds x_14 v_drafters v_cards v_round v_turn v_high v_ringSize v_many v_effect v_number v_banned v_has (upd v_who v_stacked.toNatClampNeg l1) (upd v_does v_stacked.toNatClampNeg x_8) (upd v_much v_stacked.toNatClampNeg x_11) (upd v_against v_stacked.toNatClampNeg l3)) := hD
    refine lv_aload_n hx hb dX9_play_164 rfl (lv_at hl 0 rfl) ?_
    refine va_get (D := (dC, dI)) (ci := 9) (v := .int x_14) (C := RX9) (T := TX9) (N := 37) hx hb hts iX9_play_X9 hown hK hP 0 rfl rfl 13 (by decide) (hts _ mX9_play_2) (fun _ h9 => h9) rfl dX9_play_165 ?_
    have hf : some (x_14, w_2, x_14, (upd v_who v_stacked.toNatClampNeg l1), (upd v_does v_stacked.toNatClampNeg x_8), (upd v_much v_stacked.toNatClampNeg x_11), (upd v_against v_stacked.toNatClampNeg l3)) = some (r0, n_thrown, n_stacked, n_who, n_does, n_much, n_against) := hf
    cases hf
    exact w_iret hx hb hr hlocks rfl hP hD hS dX9_play_168
  · have hf := it_t hf c_5
    refine lv_iconst (v := 0) hx hb dX9_play_102 (by decide) ?_
    have hf : some (0, w_2, v_stacked, v_who, v_does, v_much, v_against) = some (r0, n_thrown, n_stacked, n_who, n_does, n_much, n_against) := hf
    cases hf
    exact w_iret hx hb hr hlocks rfl hP hD hS dX9_play_103
set_option maxHeartbeats 4000000 in
set_option maxRecDepth 100000 in
theorem kX9_play_74 {p : Program} {l : Launch} {e : Env} {s : State} {m : MethodId} {args : Array Value} {below : List Frame} {meth : Method} {c : Code} {dC : Nat → ClassId} {dI : Nat → Nat → Nat} {A : Nat → Prop} {cI cJ cZ cG : ClassId} {h h_effect h_number h_banned h_has h_life h_shield h_strength h_haveMet h_deck h_deckSize h_who h_does h_much h_against h_pack h_packSize h_gives h_wants h_tryWho h_tryDoes h_tryMuch h_tryAgainst h_tryLife h_tryShield h_ring h_row : Nat} {v_today : Int32} {v_kinds : Int32} {v_drafters : Int32} {v_cards : Int32} {v_round : Int32} {v_turn : Int32} {v_high : Int32} {v_ringSize : Int32} {v_many : Int32} {v_effect : Nat → Int32} {v_number : Nat → Int32} {v_banned : Nat → Int32} {v_has : Nat → Int32} {r0 : Int32} {n_thrown : Int32} {n_stacked : Int32} {n_who : Nat → Int32} {n_does : Nat → Int32} {n_much : Nat → Int32} {n_against : Nat → Int32} (C0 : wCX p s args m meth c cX9_play 6 (some .int) RX9 wsX9_play) (hA : ∀ q, s.heap.size ≤ q → A q) (hK : va_K (dC, dI) vwCl (tysW cI cJ cZ cG) s) : ∀ (v_thrown : Int32) (v_stacked : Int32) (v_who : Nat → Int32) (v_does : Nat → Int32) (v_much : Nat → Int32) (v_against : Nat → Int32) (l1 : Int32) (l2 : Int32) (l3 : Int32) (l4 : Int32) (s0 : Int32) (hz_l4 : wB l4) (hz_s0 : wB s0) (H : Heap) (locs : List Loc) (ls : Array Slot), fX9_play_b74 v_today v_kinds v_effect v_number v_banned v_has v_thrown v_stacked v_who v_does v_much v_against l1 l2 l3 l4 s0 = some (r0, n_thrown, n_stacked, n_who, n_does, n_much, n_against) → va_P (dC, dI) vwCl (wcX9_play cI cJ cZ cG h h_effect h_number h_banned h_has h_life h_shield h_strength h_haveMet h_deck h_deckSize h_who h_does h_much h_against h_pack h_packSize h_gives h_wants h_tryWho h_tryDoes h_tryMuch h_tryAgainst h_tryLife h_tryShield h_ring h_row v_thrown v_today v_kinds v_stacked v_drafters v_cards v_round v_turn v_high v_ringSize v_many v_effect v_number v_banned v_has v_who v_does v_much v_against) H → va_D A (wcX9_play cI cJ cZ cG h h_effect h_number h_banned h_has h_life h_shield h_strength h_haveMet h_deck h_deckSize h_who h_does h_much h_against h_pack h_packSize h_gives h_wants h_tryWho h_tryDoes h_tryMuch h_tryAgainst h_tryLife h_tryShield h_ring h_row v_thrown v_today v_kinds v_stacked v_drafters v_cards v_round v_turn v_high v_ringSize v_many v_effect v_number v_banned v_has v_who v_does v_much v_against) → va_S A s.heap H locs → lv_has ls 6 [(0, .ref h), (1, .int l1), (2, .int l2), (3, .int l3), (4, .int l4)] → W p l e rmX9_play s m args below meth c H locs 0 0 (MQ below (wQi r0 (wcX9_play cI cJ cZ cG h h_effect h_number h_banned h_has h_life h_shield h_strength h_haveMet h_deck h_deckSize h_who h_does h_much h_against h_pack h_packSize h_gives h_wants h_tryWho h_tryDoes h_tryMuch h_tryAgainst h_tryLife h_tryShield h_ring h_row n_thrown v_today v_kinds n_stacked v_drafters v_cards v_round v_turn v_high v_ringSize v_many v_effect v_number v_banned v_has n_who n_does n_much n_against) (dC, dI) A) args s 0 0 A) (F0 m 74 ls [.int s0]) := by
  obtain ⟨hx, hb, hr, hml, hown, hts, hlocks⟩ := id C0
  intro v_thrown v_stacked v_who v_does v_much v_against l1 l2 l3 l4 s0 hz_l4 hz_s0 H locs ls hf hP hD hS hl
  unfold fX9_play_b74 at hf
  refine lv_istore (lv' := [(5, .int s0), (0, .ref h), (1, .int l1), (2, .int l2), (3, .int l3), (4, .int l4)]) hx hb dX9_play_74 hl (by decide) rfl (fun ls hl => ?_)
  refine lv_aload_n hx hb dX9_play_76 rfl (lv_at hl 1 rfl) ?_
  refine lv_iload hx hb dX9_play_77 (lv_at hl 5 rfl) ?_
  refine lv_if_ne (tgt := 86) hx hb dX9_play_79 (by decide) (fun c_1 => ?_) (fun c_1 => ?_)
  · have hf := it_f hf c_1
    refine lv_iload hx hb dX9_play_86 (lv_at hl 0 rfl) ?_
    refine lv_if_eq (tgt := 95) hx hb dX9_play_88 (by decide) (fun c_2 => ?_) (fun c_2 => ?_)
    · have hf := it_t hf c_2
      refine lv_iconst (v := 2) hx hb dX9_play_95 (by decide) ?_
      have hf : fX9_play_b96 v_today v_kinds v_effect v_number v_banned v_has v_thrown v_stacked v_who v_does v_much v_against l1 l2 l3 2 = some (r0, n_thrown, n_stacked, n_who, n_does, n_much, n_against) := hf
      exact kX9_play_96 C0 hA hK v_thrown v_stacked v_who v_does v_much v_against l1 l2 l3 2 _ _ _ hf hP hD hS (lv_sub hl [1, 2, 3, 4] rfl)
    · have hf := it_f hf c_2
      refine lv_iconst (v := 0) hx hb dX9_play_91 (by decide) ?_
      refine lv_goto (tgt := 96) hx hb dX9_play_92 (by decide) ?_
      have hf : fX9_play_b96 v_today v_kinds v_effect v_number v_banned v_has v_thrown v_stacked v_who v_does v_much v_against l1 l2 l3 0 = some (r0, n_thrown, n_stacked, n_who, n_does, n_much, n_against) := hf
      exact kX9_play_96 C0 hA hK v_thrown v_stacked v_who v_does v_much v_against l1 l2 l3 0 _ _ _ hf hP hD hS (lv_sub hl [1, 2, 3, 4] rfl)
  · have hf := it_t hf c_1
    refine lv_iconst (v := 1) hx hb dX9_play_82 (by decide) ?_
    refine lv_goto (tgt := 96) hx hb dX9_play_83 (by decide) ?_
    have hf : fX9_play_b96 v_today v_kinds v_effect v_number v_banned v_has v_thrown v_stacked v_who v_does v_much v_against l1 l2 l3 1 = some (r0, n_thrown, n_stacked, n_who, n_does, n_much, n_against) := hf
    exact kX9_play_96 C0 hA hK v_thrown v_stacked v_who v_does v_much v_against l1 l2 l3 1 _ _ _ hf hP hD hS (lv_sub hl [1, 2, 3, 4] rfl)
set_option maxHeartbeats 4000000 in
set_option maxRecDepth 100000 in
theorem kX9_play_73 {p : Program} {l : Launch} {e : Env} {s : State} {m : MethodId} {args : Array Value} {below : List Frame} {meth : Method} {c : Code} {dC : Nat → ClassId} {dI : Nat → Nat → Nat} {A : Nat → Prop} {cI cJ cZ cG : ClassId} {h h_effect h_number h_banned h_has h_life h_shield h_strength h_haveMet h_deck h_deckSize h_who h_does h_much h_against h_pack h_packSize h_gives h_wants h_tryWho h_tryDoes h_tryMuch h_tryAgainst h_tryLife h_tryShield h_ring h_row : Nat} {v_today : Int32} {v_kinds : Int32} {v_drafters : Int32} {v_cards : Int32} {v_round : Int32} {v_turn : Int32} {v_high : Int32} {v_ringSize : Int32} {v_many : Int32} {v_effect : Nat → Int32} {v_number : Nat → Int32} {v_banned : Nat → Int32} {v_has : Nat → Int32} {r0 : Int32} {n_thrown : Int32} {n_stacked : Int32} {n_who : Nat → Int32} {n_does : Nat → Int32} {n_much : Nat → Int32} {n_against : Nat → Int32} (C0 : wCX p s args m meth c cX9_play 6 (some .int) RX9 wsX9_play) (hA : ∀ q, s.heap.size ≤ q → A q) (hK : va_K (dC, dI) vwCl (tysW cI cJ cZ cG) s) : ∀ (v_thrown : Int32) (v_stacked : Int32) (v_who : Nat → Int32) (v_does : Nat → Int32) (v_much : Nat → Int32) (v_against : Nat → Int32) (l1 : Int32) (l2 : Int32) (l3 : Int32) (l4 : Int32) (hz_l4 : wB l4) (H : Heap) (locs : List Loc) (ls : Array Slot), fX9_play_b73 v_today v_kinds v_effect v_number v_banned v_has v_thrown v_stacked v_who v_does v_much v_against l1 l2 l3 l4 = some (r0, n_thrown, n_stacked, n_who, n_does, n_much, n_against) → va_P (dC, dI) vwCl (wcX9_play cI cJ cZ cG h h_effect h_number h_banned h_has h_life h_shield h_strength h_haveMet h_deck h_deckSize h_who h_does h_much h_against h_pack h_packSize h_gives h_wants h_tryWho h_tryDoes h_tryMuch h_tryAgainst h_tryLife h_tryShield h_ring h_row v_thrown v_today v_kinds v_stacked v_drafters v_cards v_round v_turn v_high v_ringSize v_many v_effect v_number v_banned v_has v_who v_does v_much v_against) H → va_D A (wcX9_play cI cJ cZ cG h h_effect h_number h_banned h_has h_life h_shield h_strength h_haveMet h_deck h_deckSize h_who h_does h_much h_against h_pack h_packSize h_gives h_wants h_tryWho h_tryDoes h_tryMuch h_tryAgainst h_tryLife h_tryShield h_ring h_row v_thrown v_today v_kinds v_stacked v_drafters v_cards v_round v_turn v_high v_ringSize v_many v_effect v_number v_banned v_has v_who v_does v_much v_against) → va_S A s.heap H locs → lv_has ls 6 [(0, .ref h), (1, .int l1), (2, .int l2), (3, .int l3), (4, .int l4)] → W p l e rmX9_play s m args below meth c H locs 0 0 (MQ below (wQi r0 (wcX9_play cI cJ cZ cG h h_effect h_number h_banned h_has h_life h_shield h_strength h_haveMet h_deck h_deckSize h_who h_does h_much h_against h_pack h_packSize h_gives h_wants h_tryWho h_tryDoes h_tryMuch h_tryAgainst h_tryLife h_tryShield h_ring h_row n_thrown v_today v_kinds n_stacked v_drafters v_cards v_round v_turn v_high v_ringSize v_many v_effect v_number v_banned v_has n_who n_does n_much n_against) (dC, dI) A) args s 0 0 A) (F0 m 73 ls []) := by
  obtain ⟨hx, hb, hr, hml, hown, hts, hlocks⟩ := id C0
  intro v_thrown v_stacked v_who v_does v_much v_against l1 l2 l3 l4 hz_l4 H locs ls hf hP hD hS hl
  unfold fX9_play_b73 at hf
  refine lv_iconst (v := 0) hx hb dX9_play_73 (by decide) ?_
  have hf : fX9_play_b74 v_today v_kinds v_effect v_number v_banned v_has v_thrown v_stacked v_who v_does v_much v_against l1 l2 l3 l4 0 = some (r0, n_thrown, n_stacked, n_who, n_does, n_much, n_against) := hf
  exact kX9_play_74 C0 hA hK v_thrown v_stacked v_who v_does v_much v_against l1 l2 l3 l4 0 hz_l4 (Or.inl rfl) _ _ _ hf hP hD hS (lv_sub hl [0, 1, 2, 3, 4] rfl)
set_option maxHeartbeats 4000000 in
set_option maxRecDepth 100000 in
theorem kX9_play_27 {p : Program} {l : Launch} {e : Env} {s : State} {m : MethodId} {args : Array Value} {below : List Frame} {meth : Method} {c : Code} {dC : Nat → ClassId} {dI : Nat → Nat → Nat} {A : Nat → Prop} {cI cJ cZ cG : ClassId} {h h_effect h_number h_banned h_has h_life h_shield h_strength h_haveMet h_deck h_deckSize h_who h_does h_much h_against h_pack h_packSize h_gives h_wants h_tryWho h_tryDoes h_tryMuch h_tryAgainst h_tryLife h_tryShield h_ring h_row : Nat} {v_today : Int32} {v_kinds : Int32} {v_drafters : Int32} {v_cards : Int32} {v_round : Int32} {v_turn : Int32} {v_high : Int32} {v_ringSize : Int32} {v_many : Int32} {v_effect : Nat → Int32} {v_number : Nat → Int32} {v_banned : Nat → Int32} {v_has : Nat → Int32} {r0 : Int32} {n_thrown : Int32} {n_stacked : Int32} {n_who : Nat → Int32} {n_does : Nat → Int32} {n_much : Nat → Int32} {n_against : Nat → Int32} (C0 : wCX p s args m meth c cX9_play 6 (some .int) RX9 wsX9_play) (hA : ∀ q, s.heap.size ≤ q → A q) (hK : va_K (dC, dI) vwCl (tysW cI cJ cZ cG) s) : ∀ (v_thrown : Int32) (v_stacked : Int32) (v_who : Nat → Int32) (v_does : Nat → Int32) (v_much : Nat → Int32) (v_against : Nat → Int32) (l1 : Int32) (l2 : Int32) (l3 : Int32) (s0 : Int32) (hz_s0 : wB s0) (H : Heap) (locs : List Loc) (ls : Array Slot), fX9_play_b27 v_today v_kinds v_effect v_number v_banned v_has v_thrown v_stacked v_who v_does v_much v_against l1 l2 l3 s0 = some (r0, n_thrown, n_stacked, n_who, n_does, n_much, n_against) → va_P (dC, dI) vwCl (wcX9_play cI cJ cZ cG h h_effect h_number h_banned h_has h_life h_shield h_strength h_haveMet h_deck h_deckSize h_who h_does h_much h_against h_pack h_packSize h_gives h_wants h_tryWho h_tryDoes h_tryMuch h_tryAgainst h_tryLife h_tryShield h_ring h_row v_thrown v_today v_kinds v_stacked v_drafters v_cards v_round v_turn v_high v_ringSize v_many v_effect v_number v_banned v_has v_who v_does v_much v_against) H → va_D A (wcX9_play cI cJ cZ cG h h_effect h_number h_banned h_has h_life h_shield h_strength h_haveMet h_deck h_deckSize h_who h_does h_much h_against h_pack h_packSize h_gives h_wants h_tryWho h_tryDoes h_tryMuch h_tryAgainst h_tryLife h_tryShield h_ring h_row v_thrown v_today v_kinds v_stacked v_drafters v_cards v_round v_turn v_high v_ringSize v_many v_effect v_number v_banned v_has v_who v_does v_much v_against) → va_S A s.heap H locs → lv_has ls 6 [(0, .ref h), (1, .int l1), (2, .int l2), (3, .int l3)] → W p l e rmX9_play s m args below meth c H locs 0 0 (MQ below (wQi r0 (wcX9_play cI cJ cZ cG h h_effect h_number h_banned h_has h_life h_shield h_strength h_haveMet h_deck h_deckSize h_who h_does h_much h_against h_pack h_packSize h_gives h_wants h_tryWho h_tryDoes h_tryMuch h_tryAgainst h_tryLife h_tryShield h_ring h_row n_thrown v_today v_kinds n_stacked v_drafters v_cards v_round v_turn v_high v_ringSize v_many v_effect v_number v_banned v_has n_who n_does n_much n_against) (dC, dI) A) args s 0 0 A) (F0 m 27 ls [.int s0]) := by
  obtain ⟨hx, hb, hr, hml, hown, hts, hlocks⟩ := id C0
  intro v_thrown v_stacked v_who v_does v_much v_against l1 l2 l3 s0 hz_s0 H locs ls hf hP hD hS hl
  unfold fX9_play_b27 at hf
  refine lv_istore (lv' := [(4, .int s0), (0, .ref h), (1, .int l1), (2, .int l2), (3, .int l3)]) hx hb dX9_play_27 hl (by decide) rfl (fun ls hl => ?_)
  refine lv_iload hx hb dX9_play_29 (lv_at hl 0 rfl) ?_
  refine lv_if_eq (tgt := 73) hx hb dX9_play_31 (by decide) (fun c_1 => ?_) (fun c_1 => ?_)
  · have hf := it_t hf c_1
    have hf : fX9_play_b73 v_today v_kinds v_effect v_number v_banned v_has v_thrown v_stacked v_who v_does v_much v_against l1 l2 l3 s0 = some (r0, n_thrown, n_stacked, n_who, n_does, n_much, n_against) := hf
    exact kX9_play_73 C0 hA hK v_thrown v_stacked v_who v_does v_much v_against l1 l2 l3 s0 hz_s0 _ _ _ hf hP hD hS (lv_sub hl [1, 2, 3, 4, 0] rfl)
  · have hf := it_f hf c_1
    refine lv_aload_n hx hb dX9_play_34 rfl (lv_at hl 1 rfl) ?_
    refine va_get (D := (dC, dI)) (ci := 9) (v := .ref h_has) (C := RX9) (T := TX9) (N := 37) hx hb hts iX9_play_X9 hown hK hP 0 rfl rfl 6 (by decide) (hts _ mX9_play_0) (fun _ h9 => h9) rfl dX9_play_35 ?_
    refine lv_bipush (v := 20) hx hb dX9_play_38 (by decide) ?_
    refine lv_iload_n hx hb dX9_play_40 rfl (lv_at hl 2 rfl) ?_
    refine lv_imul hx hb dX9_play_41 ?_
    refine lv_iload_n hx hb dX9_play_42 rfl (lv_at hl 3 rfl) ?_
    refine lv_iadd hx hb dX9_play_43 ?_
    obtain ⟨hg_2, hf⟩ := ck_s hf
    refine va_iald (D := (dC, dI)) hx hb hK hP 4 0 rfl rfl (g_vp hg_2) dX9_play_44 ?_
    refine lv_if_le (tgt := 73) hx hb dX9_play_45 (by decide) (fun c_3 => ?_) (fun c_3 => ?_)
    · have hf := it_t hf c_3
      have hf : fX9_play_b73 v_today v_kinds v_effect v_number v_banned v_has v_thrown v_stacked v_who v_does v_much v_against l1 l2 l3 s0 = some (r0, n_thrown, n_stacked, n_who, n_does, n_much, n_against) := hf
      exact kX9_play_73 C0 hA hK v_thrown v_stacked v_who v_does v_much v_against l1 l2 l3 s0 hz_s0 _ _ _ hf hP hD hS (lv_sub hl [1, 2, 3, 4, 0] rfl)
    · have hf := it_f hf c_3
      refine lv_aload_n hx hb dX9_play_48 rfl (lv_at hl 1 rfl) ?_
      refine lv_iload_n hx hb dX9_play_49 rfl (lv_at hl 3 rfl) ?_
      refine lv_aload_n hx hb dX9_play_50 rfl (lv_at hl 1 rfl) ?_
      refine va_get (D := (dC, dI)) (ci := 9) (v := .int v_today) (C := RX9) (T := TX9) (N := 37) hx hb hts iX9_play_X9 hown hK hP 0 rfl rfl 1 (by decide) (hts _ mX9_play_1) (fun _ h9 => h9) rfl dX9_play_51 ?_
      obtain ⟨r_4, hc_5, hf⟩ := ob_s hf
      refine w_callVz (As := [.int l2, .int v_today]) (rest := []) (wr := List.filterMap (fun i : Nat => (wcX9_play cI cJ cZ cG h h_effect h_number h_banned h_has h_life h_shield h_strength h_haveMet h_deck h_deckSize h_who h_does h_much h_against h_pack h_packSize h_gives h_wants h_tryWho h_tryDoes h_tryMuch h_tryAgainst h_tryLife h_tryShield h_ring h_row v_thrown v_today v_kinds v_stacked v_drafters v_cards v_round v_turn v_high v_ringSize v_many v_effect v_number v_banned v_has v_who v_does v_much v_against)[i]?) [1, 2, 4, 5, 6, 7, 8]) (ws1 := (wcX9_play cI cJ cZ cG h h_effect h_number h_banned h_has h_life h_shield h_strength h_haveMet h_deck h_deckSize h_who h_does h_much h_against h_pack h_packSize h_gives h_wants h_tryWho h_tryDoes h_tryMuch h_tryAgainst h_tryLife h_tryShield h_ring h_row v_thrown v_today v_kinds v_stacked v_drafters v_cards v_round v_turn v_high v_ringSize v_many v_effect v_number v_banned v_has v_who v_does v_much v_against)) ⟨hx, hb, hml, hown, hts⟩ (oX9_isBanned l dC dI cI cJ cZ cG h h_effect h_number h_banned h_has h_life h_shield h_strength h_haveMet h_deck h_deckSize h_who h_does h_much h_against h_pack h_packSize h_gives h_wants h_tryWho h_tryDoes h_tryMuch h_tryAgainst h_tryLife h_tryShield h_ring h_row v_thrown v_today v_kinds v_stacked v_drafters v_cards v_round v_turn v_high v_ringSize v_many v_banned H.size l2 v_today r_4 hc_5) (cwV 2 hts gX9_play_X9_isBanned rfl rfl rfl (by decide +kernel) ⟨Nat.le_of_ble_eq_true rfl, Nat.le_of_ble_eq_true rfl⟩) hK 0 9 rfl rfl rfl hP hD hS hA [0, 3] [1, 2, 4, 5, 6, 7, 8] [7, 0, 1, 8, 2, 3, 4, 5, 6] rfl rfl rfl rfl (by decide) rfl rfl rfl hl.1 rfl (Nat.le_of_ble_eq_true rfl) dX9_play_54 ⟨Nat.le_refl _, Nat.le_refl _⟩ (fun hz_6 H locs hP hD hS => ?_)
      refine lv_if_ne (tgt := 73) hx hb dX9_play_57 (by decide) (fun c_7 => ?_) (fun c_7 => ?_)
      · have hf := it_f hf c_7
        have hf : fX9_play_b73 v_today v_kinds v_effect v_number v_banned v_has v_thrown v_stacked v_who v_does v_much v_against l1 l2 l3 s0 = some (r0, n_thrown, n_stacked, n_who, n_does, n_much, n_against) := hf
        exact kX9_play_73 C0 hA hK v_thrown v_stacked v_who v_does v_much v_against l1 l2 l3 s0 hz_s0 _ _ _ hf hP hD hS (lv_sub hl [1, 2, 3, 4, 0] rfl)
      · have hf := it_t hf c_7
        refine lv_aload_n hx hb dX9_play_60 rfl (lv_at hl 1 rfl) ?_
        refine va_get (D := (dC, dI)) (ci := 9) (v := .int v_stacked) (C := RX9) (T := TX9) (N := 37) hx hb hts iX9_play_X9 hown hK hP 0 rfl rfl 13 (by decide) (hts _ mX9_play_2) (fun _ h9 => h9) rfl dX9_play_61 ?_
        refine lv_bipush (v := 6) hx hb dX9_play_64 (by decide) ?_
        refine lv_icmp_ge (tgt := 73) hx hb dX9_play_66 (by decide) (fun c_8 => ?_) (fun c_8 => ?_)
        · have hf := it_t hf c_8
          have hf : fX9_play_b73 v_today v_kinds v_effect v_number v_banned v_has v_thrown v_stacked v_who v_does v_much v_against l1 l2 l3 s0 = some (r0, n_thrown, n_stacked, n_who, n_does, n_much, n_against) := hf
          exact kX9_play_73 C0 hA hK v_thrown v_stacked v_who v_does v_much v_against l1 l2 l3 s0 hz_s0 _ _ _ hf hP hD hS (lv_sub hl [1, 2, 3, 4, 0] rfl)
        · have hf := it_f hf c_8
          refine lv_iconst (v := 1) hx hb dX9_play_69 (by decide) ?_
          refine lv_goto (tgt := 74) hx hb dX9_play_70 (by decide) ?_
          have hf : fX9_play_b74 v_today v_kinds v_effect v_number v_banned v_has v_thrown v_stacked v_who v_does v_much v_against l1 l2 l3 s0 1 = some (r0, n_thrown, n_stacked, n_who, n_does, n_much, n_against) := hf
          exact kX9_play_74 C0 hA hK v_thrown v_stacked v_who v_does v_much v_against l1 l2 l3 s0 1 hz_s0 (Or.inr rfl) _ _ _ hf hP hD hS (lv_sub hl [1, 2, 3, 4, 0] rfl)
set_option maxHeartbeats 4000000 in
set_option maxRecDepth 100000 in
theorem kX9_play_26 {p : Program} {l : Launch} {e : Env} {s : State} {m : MethodId} {args : Array Value} {below : List Frame} {meth : Method} {c : Code} {dC : Nat → ClassId} {dI : Nat → Nat → Nat} {A : Nat → Prop} {cI cJ cZ cG : ClassId} {h h_effect h_number h_banned h_has h_life h_shield h_strength h_haveMet h_deck h_deckSize h_who h_does h_much h_against h_pack h_packSize h_gives h_wants h_tryWho h_tryDoes h_tryMuch h_tryAgainst h_tryLife h_tryShield h_ring h_row : Nat} {v_today : Int32} {v_kinds : Int32} {v_drafters : Int32} {v_cards : Int32} {v_round : Int32} {v_turn : Int32} {v_high : Int32} {v_ringSize : Int32} {v_many : Int32} {v_effect : Nat → Int32} {v_number : Nat → Int32} {v_banned : Nat → Int32} {v_has : Nat → Int32} {r0 : Int32} {n_thrown : Int32} {n_stacked : Int32} {n_who : Nat → Int32} {n_does : Nat → Int32} {n_much : Nat → Int32} {n_against : Nat → Int32} (C0 : wCX p s args m meth c cX9_play 6 (some .int) RX9 wsX9_play) (hA : ∀ q, s.heap.size ≤ q → A q) (hK : va_K (dC, dI) vwCl (tysW cI cJ cZ cG) s) : ∀ (v_thrown : Int32) (v_stacked : Int32) (v_who : Nat → Int32) (v_does : Nat → Int32) (v_much : Nat → Int32) (v_against : Nat → Int32) (l1 : Int32) (l2 : Int32) (l3 : Int32) (H : Heap) (locs : List Loc) (ls : Array Slot), fX9_play_b26 v_today v_kinds v_effect v_number v_banned v_has v_thrown v_stacked v_who v_does v_much v_against l1 l2 l3 = some (r0, n_thrown, n_stacked, n_who, n_does, n_much, n_against) → va_P (dC, dI) vwCl (wcX9_play cI cJ cZ cG h h_effect h_number h_banned h_has h_life h_shield h_strength h_haveMet h_deck h_deckSize h_who h_does h_much h_against h_pack h_packSize h_gives h_wants h_tryWho h_tryDoes h_tryMuch h_tryAgainst h_tryLife h_tryShield h_ring h_row v_thrown v_today v_kinds v_stacked v_drafters v_cards v_round v_turn v_high v_ringSize v_many v_effect v_number v_banned v_has v_who v_does v_much v_against) H → va_D A (wcX9_play cI cJ cZ cG h h_effect h_number h_banned h_has h_life h_shield h_strength h_haveMet h_deck h_deckSize h_who h_does h_much h_against h_pack h_packSize h_gives h_wants h_tryWho h_tryDoes h_tryMuch h_tryAgainst h_tryLife h_tryShield h_ring h_row v_thrown v_today v_kinds v_stacked v_drafters v_cards v_round v_turn v_high v_ringSize v_many v_effect v_number v_banned v_has v_who v_does v_much v_against) → va_S A s.heap H locs → lv_has ls 6 [(0, .ref h), (1, .int l1), (2, .int l2), (3, .int l3)] → W p l e rmX9_play s m args below meth c H locs 0 0 (MQ below (wQi r0 (wcX9_play cI cJ cZ cG h h_effect h_number h_banned h_has h_life h_shield h_strength h_haveMet h_deck h_deckSize h_who h_does h_much h_against h_pack h_packSize h_gives h_wants h_tryWho h_tryDoes h_tryMuch h_tryAgainst h_tryLife h_tryShield h_ring h_row n_thrown v_today v_kinds n_stacked v_drafters v_cards v_round v_turn v_high v_ringSize v_many v_effect v_number v_banned v_has n_who n_does n_much n_against) (dC, dI) A) args s 0 0 A) (F0 m 26 ls []) := by
  obtain ⟨hx, hb, hr, hml, hown, hts, hlocks⟩ := id C0
  intro v_thrown v_stacked v_who v_does v_much v_against l1 l2 l3 H locs ls hf hP hD hS hl
  unfold fX9_play_b26 at hf
  refine lv_iconst (v := 0) hx hb dX9_play_26 (by decide) ?_
  have hf : fX9_play_b27 v_today v_kinds v_effect v_number v_banned v_has v_thrown v_stacked v_who v_does v_much v_against l1 l2 l3 0 = some (r0, n_thrown, n_stacked, n_who, n_does, n_much, n_against) := hf
  exact kX9_play_27 C0 hA hK v_thrown v_stacked v_who v_does v_much v_against l1 l2 l3 0 (Or.inl rfl) _ _ _ hf hP hD hS (lv_sub hl [0, 1, 2, 3] rfl)
set_option maxHeartbeats 4000000 in
set_option maxRecDepth 100000 in
theorem oX9_play (l : Launch) (dC : Nat → ClassId) (dI : Nat → Nat → Nat) (cI cJ cZ cG : ClassId) (h h_effect h_number h_banned h_has h_life h_shield h_strength h_haveMet h_deck h_deckSize h_who h_does h_much h_against h_pack h_packSize h_gives h_wants h_tryWho h_tryDoes h_tryMuch h_tryAgainst h_tryLife h_tryShield h_ring h_row : Nat) (v_thrown : Int32) (v_today : Int32) (v_kinds : Int32) (v_stacked : Int32) (v_drafters : Int32) (v_cards : Int32) (v_round : Int32) (v_turn : Int32) (v_high : Int32) (v_ringSize : Int32) (v_many : Int32) (v_effect : Nat → Int32) (v_number : Nat → Int32) (v_banned : Nat → Int32) (v_has : Nat → Int32) (v_who : Nat → Int32) (v_does : Nat → Int32) (v_much : Nat → Int32) (v_against : Nat → Int32) (sz : Nat) (p1 : Int32) (p2 : Int32) (p3 : Int32) (r0 : Int32) (n_thrown : Int32) (n_stacked : Int32) (n_who : Nat → Int32) (n_does : Nat → Int32) (n_much : Nat → Int32) (n_against : Nat → Int32) (hf : fX9_play v_thrown v_today v_kinds v_stacked v_effect v_number v_banned v_has v_who v_does v_much v_against p1 p2 p3 = some (r0, n_thrown, n_stacked, n_who, n_does, n_much, n_against)) : Met l yX9_play wsX9_play rmX9_play (wPc [.ref h, .int p1, .int p2, .int p3] (dC, dI) (tysW cI cJ cZ cG) sz (wcX9_play cI cJ cZ cG h h_effect h_number h_banned h_has h_life h_shield h_strength h_haveMet h_deck h_deckSize h_who h_does h_much h_against h_pack h_packSize h_gives h_wants h_tryWho h_tryDoes h_tryMuch h_tryAgainst h_tryLife h_tryShield h_ring h_row v_thrown v_today v_kinds v_stacked v_drafters v_cards v_round v_turn v_high v_ringSize v_many v_effect v_number v_banned v_has v_who v_does v_much v_against)) (wQi r0 (wcX9_play cI cJ cZ cG h h_effect h_number h_banned h_has h_life h_shield h_strength h_haveMet h_deck h_deckSize h_who h_does h_much h_against h_pack h_packSize h_gives h_wants h_tryWho h_tryDoes h_tryMuch h_tryAgainst h_tryLife h_tryShield h_ring h_row n_thrown v_today v_kinds n_stacked v_drafters v_cards v_round v_turn v_high v_ringSize v_many v_effect v_number v_banned v_has n_who n_does n_much n_against) (dC, dI) (va_A (wcX9_play cI cJ cZ cG h h_effect h_number h_banned h_has h_life h_shield h_strength h_haveMet h_deck h_deckSize h_who h_does h_much h_against h_pack h_packSize h_gives h_wants h_tryWho h_tryDoes h_tryMuch h_tryAgainst h_tryLife h_tryShield h_ring h_row v_thrown v_today v_kinds v_stacked v_drafters v_cards v_round v_turn v_high v_ringSize v_many v_effect v_number v_banned v_has v_who v_does v_much v_against) sz)) 0 0 (va_A (wcX9_play cI cJ cZ cG h h_effect h_number h_banned h_has h_life h_shield h_strength h_haveMet h_deck h_deckSize h_who h_does h_much h_against h_pack h_packSize h_gives h_wants h_tryWho h_tryDoes h_tryMuch h_tryAgainst h_tryLife h_tryShield h_ring h_row v_thrown v_today v_kinds v_stacked v_drafters v_cards v_round v_turn v_high v_ringSize v_many v_effect v_number v_banned v_has v_who v_does v_much v_against) sz) := by
  refine Met.ofW (cc := cX9_play) (maxL := 6) (ret := (some .int)) (by decide) rfl ?_
  intro p e s m args below meth c s₁ B hml hv
  obtain ⟨rfl, hsz, hP, hK, hD0⟩ := hv
  have hx := B.exec
  have hb := B.bytes
  have hr := B.returns
  have hts := atoms_spec (ws := wsX9_play) B.pre
  have hown : s.vm.findClass RX9 = some m.cls := findClass_of_methodNamed B.named
  have hlocks := B.notSynchronized
  subst hsz
  have hD := hD0.self (sz := s.heap.size)
  generalize hAe : va_A (wcX9_play cI cJ cZ cG h h_effect h_number h_banned h_has h_life h_shield h_strength h_haveMet h_deck h_deckSize h_who h_does h_much h_against h_pack h_packSize h_gives h_wants h_tryWho h_tryDoes h_tryMuch h_tryAgainst h_tryLife h_tryShield h_ring h_row v_thrown v_today v_kinds v_stacked v_drafters v_cards v_round v_turn v_high v_ringSize v_many v_effect v_number v_banned v_has v_who v_does v_much v_against) s.heap.size = A at hD ⊢
  have hA : ∀ q : Nat, s.heap.size ≤ q → A q := fun q h => by rw [← hAe]; exact Or.inr h
  have hS : va_S A s.heap s.heap [] := va_S.rf
  have hP : va_P (dC, dI) vwCl (wcX9_play cI cJ cZ cG h h_effect h_number h_banned h_has h_life h_shield h_strength h_haveMet h_deck h_deckSize h_who h_does h_much h_against h_pack h_packSize h_gives h_wants h_tryWho h_tryDoes h_tryMuch h_tryAgainst h_tryLife h_tryShield h_ring h_row v_thrown v_today v_kinds v_stacked v_drafters v_cards v_round v_turn v_high v_ringSize v_many v_effect v_number v_banned v_has v_who v_does v_much v_against) s.heap := hP
  have hl := lv_entry ([.ref h, .int p1, .int p2, .int p3]) (n := 6) (Nat.le_of_ble_eq_true rfl)
  rw [lg_entry_eq]
  generalize (lg_sl ([.ref h, .int p1, .int p2, .int p3]) ++ List.replicate (6 - (lg_sl ([.ref h, .int p1, .int p2, .int p3])).length) Slot.unset).toArray = ls at hl ⊢
  have hl : lv_has ls 6 [(0, .ref h), (1, .int p1), (2, .int p2), (3, .int p3)] := hl
  generalize hH : s.heap = H at hP hS ⊢
  have hS : va_S A s.heap H [] := by rw [hH]; exact hS
  have C0 : wCX p s #[.ref h, .int p1, .int p2, .int p3] m meth c cX9_play 6 (some .int) RX9 wsX9_play := ⟨hx, hb, hr, hml, hown, hts, hlocks⟩
  show W p l e rmX9_play s m #[.ref h, .int p1, .int p2, .int p3] below meth c H [] 0 0 (MQ below (wQi r0 (wcX9_play cI cJ cZ cG h h_effect h_number h_banned h_has h_life h_shield h_strength h_haveMet h_deck h_deckSize h_who h_does h_much h_against h_pack h_packSize h_gives h_wants h_tryWho h_tryDoes h_tryMuch h_tryAgainst h_tryLife h_tryShield h_ring h_row n_thrown v_today v_kinds n_stacked v_drafters v_cards v_round v_turn v_high v_ringSize v_many v_effect v_number v_banned v_has n_who n_does n_much n_against) (dC, dI) A) #[.ref h, .int p1, .int p2, .int p3] s 0 0 A) (F0 m 0 ls [])
  unfold fX9_play at hf
  refine lv_iload_n hx hb dX9_play_0 rfl (lv_at hl 1 rfl) ?_
  obtain ⟨r_1, hc_2, hf⟩ := ob_s hf
  refine w_callSz (As := [.int p1]) (rest := []) ⟨hx, hb, hml, hown, hts⟩ (oX9_isPlayer l dC dI cI cJ cZ cG H.size p1 r_1 hc_2) (va_cwS 1 hts gX9_play_X9_isPlayer rfl rfl rfl (by decide +kernel) ⟨Nat.le_of_ble_eq_true rfl, Nat.le_of_ble_eq_true rfl⟩) hK hP hS hA rfl hl.1 rfl (Nat.le_of_ble_eq_true rfl) dX9_play_1 ⟨Nat.le_refl _, Nat.le_refl _⟩ (fun hz_3 H locs hP hS => ?_)
  refine lv_if_eq (tgt := 26) hx hb dX9_play_4 (by decide) (fun c_4 => ?_) (fun c_4 => ?_)
  · have hf := it_t hf c_4
    have hf : fX9_play_b26 v_today v_kinds v_effect v_number v_banned v_has v_thrown v_stacked v_who v_does v_much v_against p1 p2 p3 = some (r0, n_thrown, n_stacked, n_who, n_does, n_much, n_against) := hf
    exact kX9_play_26 C0 hA hK v_thrown v_stacked v_who v_does v_much v_against p1 p2 p3 _ _ _ hf hP hD hS (lv_sub hl [0, 1, 2, 3] rfl)
  · have hf := it_f hf c_4
    refine lv_aload_n hx hb dX9_play_7 rfl (lv_at hl 0 rfl) ?_
    refine lv_iload_n hx hb dX9_play_8 rfl (lv_at hl 2 rfl) ?_
    obtain ⟨r_5, hc_6, hf⟩ := ob_s hf
    refine w_callVz (As := [.int p2]) (rest := []) (wr := List.filterMap (fun i : Nat => (wcX9_play cI cJ cZ cG h h_effect h_number h_banned h_has h_life h_shield h_strength h_haveMet h_deck h_deckSize h_who h_does h_much h_against h_pack h_packSize h_gives h_wants h_tryWho h_tryDoes h_tryMuch h_tryAgainst h_tryLife h_tryShield h_ring h_row v_thrown v_today v_kinds v_stacked v_drafters v_cards v_round v_turn v_high v_ringSize v_many v_effect v_number v_banned v_has v_who v_does v_much v_against)[i]?) [1, 2, 3, 4, 5, 6, 7, 8]) (ws1 := (wcX9_play cI cJ cZ cG h h_effect h_number h_banned h_has h_life h_shield h_strength h_haveMet h_deck h_deckSize h_who h_does h_much h_against h_pack h_packSize h_gives h_wants h_tryWho h_tryDoes h_tryMuch h_tryAgainst h_tryLife h_tryShield h_ring h_row v_thrown v_today v_kinds v_stacked v_drafters v_cards v_round v_turn v_high v_ringSize v_many v_effect v_number v_banned v_has v_who v_does v_much v_against)) ⟨hx, hb, hml, hown, hts⟩ (oX9_isKind l dC dI cI cJ cZ cG h h_effect h_number h_banned h_has h_life h_shield h_strength h_haveMet h_deck h_deckSize h_who h_does h_much h_against h_pack h_packSize h_gives h_wants h_tryWho h_tryDoes h_tryMuch h_tryAgainst h_tryLife h_tryShield h_ring h_row v_thrown v_today v_kinds v_stacked v_drafters v_cards v_round v_turn v_high v_ringSize v_many H.size p2 r_5 hc_6) (cwV 1 hts gX9_play_X9_isKind rfl rfl rfl (by decide +kernel) ⟨Nat.le_of_ble_eq_true rfl, Nat.le_of_ble_eq_true rfl⟩) hK 0 9 rfl rfl rfl hP hD hS hA [0] [1, 2, 3, 4, 5, 6, 7, 8] [8, 0, 1, 2, 3, 4, 5, 6, 7] rfl rfl rfl rfl (by decide) rfl rfl rfl hl.1 rfl (Nat.le_of_ble_eq_true rfl) dX9_play_9 ⟨Nat.le_refl _, Nat.le_refl _⟩ (fun hz_7 H locs hP hD hS => ?_)
    refine lv_if_eq (tgt := 26) hx hb dX9_play_12 (by decide) (fun c_8 => ?_) (fun c_8 => ?_)
    · have hf := it_t hf c_8
      have hf : fX9_play_b26 v_today v_kinds v_effect v_number v_banned v_has v_thrown v_stacked v_who v_does v_much v_against p1 p2 p3 = some (r0, n_thrown, n_stacked, n_who, n_does, n_much, n_against) := hf
      exact kX9_play_26 C0 hA hK v_thrown v_stacked v_who v_does v_much v_against p1 p2 p3 _ _ _ hf hP hD hS (lv_sub hl [0, 1, 2, 3] rfl)
    · have hf := it_f hf c_8
      refine lv_iload_n hx hb dX9_play_15 rfl (lv_at hl 3 rfl) ?_
      obtain ⟨r_9, hc_10, hf⟩ := ob_s hf
      refine w_callSz (As := [.int p3]) (rest := []) ⟨hx, hb, hml, hown, hts⟩ (oX9_isPlayer l dC dI cI cJ cZ cG H.size p3 r_9 hc_10) (va_cwS 1 hts gX9_play_X9_isPlayer rfl rfl rfl (by decide +kernel) ⟨Nat.le_of_ble_eq_true rfl, Nat.le_of_ble_eq_true rfl⟩) hK hP hS hA rfl hl.1 rfl (Nat.le_of_ble_eq_true rfl) dX9_play_16 ⟨Nat.le_refl _, Nat.le_refl _⟩ (fun hz_11 H locs hP hS => ?_)
      refine lv_if_eq (tgt := 26) hx hb dX9_play_19 (by decide) (fun c_12 => ?_) (fun c_12 => ?_)
      · have hf := it_t hf c_12
        have hf : fX9_play_b26 v_today v_kinds v_effect v_number v_banned v_has v_thrown v_stacked v_who v_does v_much v_against p1 p2 p3 = some (r0, n_thrown, n_stacked, n_who, n_does, n_much, n_against) := hf
        exact kX9_play_26 C0 hA hK v_thrown v_stacked v_who v_does v_much v_against p1 p2 p3 _ _ _ hf hP hD hS (lv_sub hl [0, 1, 2, 3] rfl)
      · have hf := it_f hf c_12
        refine lv_iconst (v := 1) hx hb dX9_play_22 (by decide) ?_
        refine lv_goto (tgt := 27) hx hb dX9_play_23 (by decide) ?_
        have hf : fX9_play_b27 v_today v_kinds v_effect v_number v_banned v_has v_thrown v_stacked v_who v_does v_much v_against p1 p2 p3 1 = some (r0, n_thrown, n_stacked, n_who, n_does, n_much, n_against) := hf
        exact kX9_play_27 C0 hA hK v_thrown v_stacked v_who v_does v_much v_against p1 p2 p3 1 (Or.inr rfl) _ _ _ hf hP hD hS (lv_sub hl [0, 1, 2, 3] rfl)
